section
-- ===== PART A: goes FIRST, ahead of the names: the tables' words, and 'selects' of the private methods out of them =====
/-- a private method of a class that the tables say can be made, by its rows of tables_1 -/
def lw_okq (q : MethodName × Nat) : Prop := (q.1.cls ≠ "java/lang/invoke/MethodHandle" ∧ q.1.cls ≠ "java/lang/invoke/VarHandle") ∧ Cond.instantiable q.1.cls q.2 ∈ tables_1 ∧ Cond.privateMethod q.1 ∈ tables_1 ∧ Cond.instanceMethod q.1 ∈ tables_1
theorem lw_p0 : lw_okq (⟨"BinaryText", "printDecimal", "(LBinaryText$Layout;J)I"⟩, 7) := ⟨⟨by decide +kernel, by decide +kernel⟩, List.mem_of_getElem? (i := 17) (by decide +kernel), List.mem_of_getElem? (i := 123) (by decide +kernel), List.mem_of_getElem? (i := 124) (by decide +kernel)⟩
theorem lw_p1 : lw_okq (⟨"BinaryText", "take", "(LBinaryText$Layout;J)V"⟩, 7) := ⟨⟨by decide +kernel, by decide +kernel⟩, List.mem_of_getElem? (i := 17) (by decide +kernel), List.mem_of_getElem? (i := 127) (by decide +kernel), List.mem_of_getElem? (i := 128) (by decide +kernel)⟩
theorem lw_p2 : lw_okq (⟨"BinaryText$Finder", "scale", "(JII)V"⟩, 3) := ⟨⟨by decide +kernel, by decide +kernel⟩, List.mem_of_getElem? (i := 25) (by decide +kernel), List.mem_of_getElem? (i := 177) (by decide +kernel), List.mem_of_getElem? (i := 178) (by decide +kernel)⟩
theorem lw_p3 : lw_okq (⟨"BinaryText$Finder", "tenfold", "()V"⟩, 3) := ⟨⟨by decide +kernel, by decide +kernel⟩, List.mem_of_getElem? (i := 25) (by decide +kernel), List.mem_of_getElem? (i := 211) (by decide +kernel), List.mem_of_getElem? (i := 212) (by decide +kernel)⟩
theorem lw_p4 : lw_okq (⟨"BinaryText$Finder", "takeDigit", "()I"⟩, 3) := ⟨⟨by decide +kernel, by decide +kernel⟩, List.mem_of_getElem? (i := 25) (by decide +kernel), List.mem_of_getElem? (i := 217) (by decide +kernel), List.mem_of_getElem? (i := 218) (by decide +kernel)⟩
theorem lw_p5 : lw_okq (⟨"BinaryText$Finder", "compareDown", "(Z)I"⟩, 3) := ⟨⟨by decide +kernel, by decide +kernel⟩, List.mem_of_getElem? (i := 25) (by decide +kernel), List.mem_of_getElem? (i := 225) (by decide +kernel), List.mem_of_getElem? (i := 226) (by decide +kernel)⟩
theorem lw_p6 : lw_okq (⟨"BinaryText$Finder", "compareUp", "()I"⟩, 3) := ⟨⟨by decide +kernel, by decide +kernel⟩, List.mem_of_getElem? (i := 25) (by decide +kernel), List.mem_of_getElem? (i := 235) (by decide +kernel), List.mem_of_getElem? (i := 236) (by decide +kernel)⟩
theorem lw_p7 : lw_okq (⟨"BinaryText$Finder", "isUpNearer", "(J)Z"⟩, 3) := ⟨⟨by decide +kernel, by decide +kernel⟩, List.mem_of_getElem? (i := 25) (by decide +kernel), List.mem_of_getElem? (i := 239) (by decide +kernel), List.mem_of_getElem? (i := 240) (by decide +kernel)⟩
theorem lw_p8 : lw_okq (⟨"BinaryText$Decimal", "spread", "()V"⟩, 4) := ⟨⟨by decide +kernel, by decide +kernel⟩, List.mem_of_getElem? (i := 55) (by decide +kernel), List.mem_of_getElem? (i := 248) (by decide +kernel), List.mem_of_getElem? (i := 249) (by decide +kernel)⟩
theorem lw_p9 : lw_okq (⟨"BinaryText", "putDecimal", "()V"⟩, 7) := ⟨⟨by decide +kernel, by decide +kernel⟩, List.mem_of_getElem? (i := 17) (by decide +kernel), List.mem_of_getElem? (i := 265) (by decide +kernel), List.mem_of_getElem? (i := 266) (by decide +kernel)⟩
theorem lw_p10 : lw_okq (⟨"BinaryText", "putPlaces", "(II)V"⟩, 7) := ⟨⟨by decide +kernel, by decide +kernel⟩, List.mem_of_getElem? (i := 17) (by decide +kernel), List.mem_of_getElem? (i := 274) (by decide +kernel), List.mem_of_getElem? (i := 275) (by decide +kernel)⟩
theorem lw_p11 : lw_okq (⟨"BinaryText", "putNamed", "(Ljava/lang/String;)V"⟩, 7) := ⟨⟨by decide +kernel, by decide +kernel⟩, List.mem_of_getElem? (i := 17) (by decide +kernel), List.mem_of_getElem? (i := 292) (by decide +kernel), List.mem_of_getElem? (i := 293) (by decide +kernel)⟩
theorem lw_p12 : lw_okq (⟨"BinaryText", "printHex", "(LBinaryText$Layout;J)I"⟩, 7) := ⟨⟨by decide +kernel, by decide +kernel⟩, List.mem_of_getElem? (i := 17) (by decide +kernel), List.mem_of_getElem? (i := 361) (by decide +kernel), List.mem_of_getElem? (i := 362) (by decide +kernel)⟩
theorem lw_p13 : lw_okq (⟨"BinaryText", "putHex", "(LBinaryText$Layout;J)V"⟩, 7) := ⟨⟨by decide +kernel, by decide +kernel⟩, List.mem_of_getElem? (i := 17) (by decide +kernel), List.mem_of_getElem? (i := 365) (by decide +kernel), List.mem_of_getElem? (i := 366) (by decide +kernel)⟩
theorem lw_p14 : lw_okq (⟨"BinaryTextModel", "isLast", "()Z"⟩, 19) := ⟨⟨by decide +kernel, by decide +kernel⟩, List.mem_of_getElem? (i := 414) (by decide +kernel), List.mem_of_getElem? (i := 491) (by decide +kernel), List.mem_of_getElem? (i := 492) (by decide +kernel)⟩
theorem lw_p15 : lw_okq (⟨"BinaryTextModel", "exponent", "()I"⟩, 19) := ⟨⟨by decide +kernel, by decide +kernel⟩, List.mem_of_getElem? (i := 414) (by decide +kernel), List.mem_of_getElem? (i := 495) (by decide +kernel), List.mem_of_getElem? (i := 496) (by decide +kernel)⟩
def lw_privs_1 : List (MethodName × Nat) := [(⟨"BinaryText", "printDecimal", "(LBinaryText$Layout;J)I"⟩, 7), (⟨"BinaryText", "take", "(LBinaryText$Layout;J)V"⟩, 7), (⟨"BinaryText$Finder", "scale", "(JII)V"⟩, 3), (⟨"BinaryText$Finder", "tenfold", "()V"⟩, 3), (⟨"BinaryText$Finder", "takeDigit", "()I"⟩, 3), (⟨"BinaryText$Finder", "compareDown", "(Z)I"⟩, 3), (⟨"BinaryText$Finder", "compareUp", "()I"⟩, 3), (⟨"BinaryText$Finder", "isUpNearer", "(J)Z"⟩, 3), (⟨"BinaryText$Decimal", "spread", "()V"⟩, 4), (⟨"BinaryText", "putDecimal", "()V"⟩, 7), (⟨"BinaryText", "putPlaces", "(II)V"⟩, 7), (⟨"BinaryText", "putNamed", "(Ljava/lang/String;)V"⟩, 7), (⟨"BinaryText", "printHex", "(LBinaryText$Layout;J)I"⟩, 7), (⟨"BinaryText", "putHex", "(LBinaryText$Layout;J)V"⟩, 7), (⟨"BinaryTextModel", "isLast", "()Z"⟩, 19), (⟨"BinaryTextModel", "exponent", "()I"⟩, 19)]
theorem lw_r1 : ∀ q ∈ lw_privs_1, lw_okq q := List.forall_mem_cons.mpr ⟨lw_p0, List.forall_mem_cons.mpr ⟨lw_p1, List.forall_mem_cons.mpr ⟨lw_p2, List.forall_mem_cons.mpr ⟨lw_p3, List.forall_mem_cons.mpr ⟨lw_p4, List.forall_mem_cons.mpr ⟨lw_p5, List.forall_mem_cons.mpr ⟨lw_p6, List.forall_mem_cons.mpr ⟨lw_p7, List.forall_mem_cons.mpr ⟨lw_p8, List.forall_mem_cons.mpr ⟨lw_p9, List.forall_mem_cons.mpr ⟨lw_p10, List.forall_mem_cons.mpr ⟨lw_p11, List.forall_mem_cons.mpr ⟨lw_p12, List.forall_mem_cons.mpr ⟨lw_p13, List.forall_mem_cons.mpr ⟨lw_p14, List.forall_mem_cons.mpr ⟨lw_p15, fun _ h => absurd h List.not_mem_nil⟩⟩⟩⟩⟩⟩⟩⟩⟩⟩⟩⟩⟩⟩⟩⟩
theorem lw_p16 : lw_okq (⟨"BinaryTextModel", "fraction", "()J"⟩, 19) := ⟨⟨by decide +kernel, by decide +kernel⟩, List.mem_of_getElem? (i := 414) (by decide +kernel), List.mem_of_getElem? (i := 499) (by decide +kernel), List.mem_of_getElem? (i := 500) (by decide +kernel)⟩
theorem lw_p17 : lw_okq (⟨"BinaryTextModel", "search", "()V"⟩, 19) := ⟨⟨by decide +kernel, by decide +kernel⟩, List.mem_of_getElem? (i := 414) (by decide +kernel), List.mem_of_getElem? (i := 510) (by decide +kernel), List.mem_of_getElem? (i := 511) (by decide +kernel)⟩
theorem lw_p18 : lw_okq (⟨"BinaryTextModel", "spread", "()V"⟩, 19) := ⟨⟨by decide +kernel, by decide +kernel⟩, List.mem_of_getElem? (i := 414) (by decide +kernel), List.mem_of_getElem? (i := 514) (by decide +kernel), List.mem_of_getElem? (i := 515) (by decide +kernel)⟩
theorem lw_p19 : lw_okq (⟨"BinaryTextModel", "timesUnit", "(J)V"⟩, 19) := ⟨⟨by decide +kernel, by decide +kernel⟩, List.mem_of_getElem? (i := 414) (by decide +kernel), List.mem_of_getElem? (i := 522) (by decide +kernel), List.mem_of_getElem? (i := 523) (by decide +kernel)⟩
theorem lw_p20 : lw_okq (⟨"BinaryTextModel", "write", "(J[I)V"⟩, 19) := ⟨⟨by decide +kernel, by decide +kernel⟩, List.mem_of_getElem? (i := 414) (by decide +kernel), List.mem_of_getElem? (i := 530) (by decide +kernel), List.mem_of_getElem? (i := 531) (by decide +kernel)⟩
theorem lw_p21 : lw_okq (⟨"BinaryTextModel", "pick", "(IZ)V"⟩, 19) := ⟨⟨by decide +kernel, by decide +kernel⟩, List.mem_of_getElem? (i := 414) (by decide +kernel), List.mem_of_getElem? (i := 537) (by decide +kernel), List.mem_of_getElem? (i := 538) (by decide +kernel)⟩
theorem lw_p22 : lw_okq (⟨"BinaryTextModel", "readsBack", "()Z"⟩, 19) := ⟨⟨by decide +kernel, by decide +kernel⟩, List.mem_of_getElem? (i := 414) (by decide +kernel), List.mem_of_getElem? (i := 541) (by decide +kernel), List.mem_of_getElem? (i := 542) (by decide +kernel)⟩
theorem lw_p23 : lw_okq (⟨"BinaryTextModel", "measure", "()V"⟩, 19) := ⟨⟨by decide +kernel, by decide +kernel⟩, List.mem_of_getElem? (i := 414) (by decide +kernel), List.mem_of_getElem? (i := 551) (by decide +kernel), List.mem_of_getElem? (i := 552) (by decide +kernel)⟩
theorem lw_p24 : lw_okq (⟨"BinaryTextModel", "print", "(ZJ)I"⟩, 19) := ⟨⟨by decide +kernel, by decide +kernel⟩, List.mem_of_getElem? (i := 414) (by decide +kernel), List.mem_of_getElem? (i := 564) (by decide +kernel), List.mem_of_getElem? (i := 565) (by decide +kernel)⟩
theorem lw_p25 : lw_okq (⟨"BinaryTextModel", "putOther", "(Z)Z"⟩, 19) := ⟨⟨by decide +kernel, by decide +kernel⟩, List.mem_of_getElem? (i := 414) (by decide +kernel), List.mem_of_getElem? (i := 568) (by decide +kernel), List.mem_of_getElem? (i := 569) (by decide +kernel)⟩
theorem lw_p26 : lw_okq (⟨"BinaryTextModel", "put", "(I)V"⟩, 19) := ⟨⟨by decide +kernel, by decide +kernel⟩, List.mem_of_getElem? (i := 414) (by decide +kernel), List.mem_of_getElem? (i := 573) (by decide +kernel), List.mem_of_getElem? (i := 574) (by decide +kernel)⟩
theorem lw_p27 : lw_okq (⟨"BinaryTextModel", "putNumber", "(I)V"⟩, 19) := ⟨⟨by decide +kernel, by decide +kernel⟩, List.mem_of_getElem? (i := 414) (by decide +kernel), List.mem_of_getElem? (i := 577) (by decide +kernel), List.mem_of_getElem? (i := 578) (by decide +kernel)⟩
theorem lw_p28 : lw_okq (⟨"BinaryTextModel", "printHex", "(ZJ)I"⟩, 19) := ⟨⟨by decide +kernel, by decide +kernel⟩, List.mem_of_getElem? (i := 414) (by decide +kernel), List.mem_of_getElem? (i := 589) (by decide +kernel), List.mem_of_getElem? (i := 590) (by decide +kernel)⟩
def lw_privs_2 : List (MethodName × Nat) := [(⟨"BinaryTextModel", "fraction", "()J"⟩, 19), (⟨"BinaryTextModel", "search", "()V"⟩, 19), (⟨"BinaryTextModel", "spread", "()V"⟩, 19), (⟨"BinaryTextModel", "timesUnit", "(J)V"⟩, 19), (⟨"BinaryTextModel", "write", "(J[I)V"⟩, 19), (⟨"BinaryTextModel", "pick", "(IZ)V"⟩, 19), (⟨"BinaryTextModel", "readsBack", "()Z"⟩, 19), (⟨"BinaryTextModel", "measure", "()V"⟩, 19), (⟨"BinaryTextModel", "print", "(ZJ)I"⟩, 19), (⟨"BinaryTextModel", "putOther", "(Z)Z"⟩, 19), (⟨"BinaryTextModel", "put", "(I)V"⟩, 19), (⟨"BinaryTextModel", "putNumber", "(I)V"⟩, 19), (⟨"BinaryTextModel", "printHex", "(ZJ)I"⟩, 19)]
theorem lw_r2 : ∀ q ∈ lw_privs_2, lw_okq q := List.forall_mem_cons.mpr ⟨lw_p16, List.forall_mem_cons.mpr ⟨lw_p17, List.forall_mem_cons.mpr ⟨lw_p18, List.forall_mem_cons.mpr ⟨lw_p19, List.forall_mem_cons.mpr ⟨lw_p20, List.forall_mem_cons.mpr ⟨lw_p21, List.forall_mem_cons.mpr ⟨lw_p22, List.forall_mem_cons.mpr ⟨lw_p23, List.forall_mem_cons.mpr ⟨lw_p24, List.forall_mem_cons.mpr ⟨lw_p25, List.forall_mem_cons.mpr ⟨lw_p26, List.forall_mem_cons.mpr ⟨lw_p27, List.forall_mem_cons.mpr ⟨lw_p28, fun _ h => absurd h List.not_mem_nil⟩⟩⟩⟩⟩⟩⟩⟩⟩⟩⟩⟩⟩
def lw_privs : List (MethodName × Nat) := lw_privs_1 ++ (lw_privs_2)
def lw_tbl : List Cond := k2_sels lw_privs ++ tables_1
theorem lw_privs_ok : ∀ q ∈ lw_privs, lw_okq q := by
  show ∀ q ∈ lw_privs_1 ++ (lw_privs_2), lw_okq q
  exact List.forall_mem_append.mpr ⟨lw_r1, lw_r2⟩
end
section
/-! NAMES, by program (gen_names.py): classes, fields, methods, the words of the tables -/
abbrev R_Bt : String := "BinaryText"
abbrev R_De : String := "BinaryText$Decimal"
abbrev R_Fi : String := "BinaryText$Finder"
abbrev R_La : String := "BinaryText$Layout"
abbrev R_Na : String := "BinaryText$Natural"
abbrev R_Te : String := "BinaryText$TextRow"
abbrev R_Mo : String := "BinaryTextModel"
abbrev R_Lw : String := "BinaryTextLaw"
abbrev R_Ob : String := "java/lang/Object"
abbrev R_En : String := "java/lang/Enum"
abbrev R_JI : String := "java/lang/Integer"
abbrev R_JL : String := "java/lang/Long"
abbrev R_Ma : String := "java/lang/Math"
abbrev R_St : String := "java/lang/String"
abbrev R_SL : String := "java/lang/StringLatin1"
abbrev R_SU : String := "java/lang/StringUTF16"
abbrev R_Pr : String := "jdk/internal/util/Preconditions"
def F_De : u_T := fun k => match k with
  | 0 => ("BinaryText$Decimal", "row", "[C", true)
  | 1 => ("BinaryText$Decimal", "count", "I", false)
  | 2 => ("BinaryText$Decimal", "d", "J", false)
  | _ => ("BinaryText$Decimal", "t", "I", false)
def t_De : Nat → FieldType := fun k => match k with
  | 0 => .array .char
  | 1 => .int
  | 2 => .long
  | _ => .int
theorem n_De : ∀ a, a < 4 → ∀ b, b < 4 → a ≠ b → (F_De a).2.1 ≠ (F_De b).2.1 := by decide +kernel
theorem t_De_ok : ∀ k, k < 4 → parseFieldDescriptor (F_De k).2.2.1 = some (t_De k) := by decide +kernel
def F_Fi : u_T := fun k => match k with
  | 0 => ("BinaryText$Finder", "rest", "LBinaryText$Natural;", true)
  | 1 => ("BinaryText$Finder", "above", "LBinaryText$Natural;", true)
  | _ => ("BinaryText$Finder", "whole", "LBinaryText$Natural;", true)
def t_Fi : Nat → FieldType := fun k => match k with
  | 0 => .object "BinaryText$Natural"
  | 1 => .object "BinaryText$Natural"
  | _ => .object "BinaryText$Natural"
theorem n_Fi : ∀ a, a < 3 → ∀ b, b < 3 → a ≠ b → (F_Fi a).2.1 ≠ (F_Fi b).2.1 := by decide +kernel
theorem t_Fi_ok : ∀ k, k < 3 → parseFieldDescriptor (F_Fi k).2.2.1 = some (t_Fi k) := by decide +kernel
def F_Na : u_T := fun k => match k with
  | 0 => ("BinaryText$Natural", "words", "[J", true)
  | _ => ("BinaryText$Natural", "used", "I", false)
def t_Na : Nat → FieldType := fun k => match k with
  | 0 => .array .long
  | _ => .int
theorem n_Na : ∀ a, a < 2 → ∀ b, b < 2 → a ≠ b → (F_Na a).2.1 ≠ (F_Na b).2.1 := by decide +kernel
theorem t_Na_ok : ∀ k, k < 2 → parseFieldDescriptor (F_Na k).2.2.1 = some (t_Na k) := by decide +kernel
def F_Te : u_T := fun k => match k with
  | 0 => ("BinaryText$TextRow", "row", "[C", true)
  | _ => ("BinaryText$TextRow", "used", "I", false)
def t_Te : Nat → FieldType := fun k => match k with
  | 0 => .array .char
  | _ => .int
theorem n_Te : ∀ a, a < 2 → ∀ b, b < 2 → a ≠ b → (F_Te a).2.1 ≠ (F_Te b).2.1 := by decide +kernel
theorem t_Te_ok : ∀ k, k < 2 → parseFieldDescriptor (F_Te k).2.2.1 = some (t_Te k) := by decide +kernel
def F_Bt : u_T := fun k => match k with
  | 0 => ("BinaryText", "finder", "LBinaryText$Finder;", true)
  | 1 => ("BinaryText", "decimal", "LBinaryText$Decimal;", true)
  | 2 => ("BinaryText", "text", "LBinaryText$TextRow;", true)
  | 3 => ("BinaryText", "low", "I", false)
  | 4 => ("BinaryText", "high", "I", false)
  | 5 => ("BinaryText", "kind", "I", false)
  | _ => ("BinaryText", "minus", "Z", false)
def t_Bt : Nat → FieldType := fun k => match k with
  | 0 => .object "BinaryText$Finder"
  | 1 => .object "BinaryText$Decimal"
  | 2 => .object "BinaryText$TextRow"
  | 3 => .int
  | 4 => .int
  | 5 => .int
  | _ => .boolean
theorem n_Bt : ∀ a, a < 7 → ∀ b, b < 7 → a ≠ b → (F_Bt a).2.1 ≠ (F_Bt b).2.1 := by decide +kernel
theorem t_Bt_ok : ∀ k, k < 7 → parseFieldDescriptor (F_Bt k).2.2.1 = some (t_Bt k) := by decide +kernel
def F_Mo : u_T := fun k => match k with
  | 0 => ("BinaryTextModel", "thrown", "I", false)
  | 1 => ("BinaryTextModel", "low", "I", false)
  | 2 => ("BinaryTextModel", "high", "I", false)
  | 3 => ("BinaryTextModel", "printed", "Z", false)
  | 4 => ("BinaryTextModel", "isWide", "Z", false)
  | 5 => ("BinaryTextModel", "latest", "J", false)
  | 6 => ("BinaryTextModel", "length", "I", false)
  | 7 => ("BinaryTextModel", "text", "[I", true)
  | 8 => ("BinaryTextModel", "unit", "[J", true)
  | 9 => ("BinaryTextModel", "row", "[J", true)
  | 10 => ("BinaryTextModel", "number", "[I", true)
  | 11 => ("BinaryTextModel", "below", "[I", true)
  | 12 => ("BinaryTextModel", "above", "[I", true)
  | 13 => ("BinaryTextModel", "tried", "[I", true)
  | 14 => ("BinaryTextModel", "best", "[I", true)
  | 15 => ("BinaryTextModel", "far", "[I", true)
  | 16 => ("BinaryTextModel", "bestFar", "[I", true)
  | 17 => ("BinaryTextModel", "behind", "I", false)
  | _ => ("BinaryTextModel", "isEven", "Z", false)
def t_Mo : Nat → FieldType := fun k => match k with
  | 0 => .int
  | 1 => .int
  | 2 => .int
  | 3 => .boolean
  | 4 => .boolean
  | 5 => .long
  | 6 => .int
  | 7 => .array .int
  | 8 => .array .long
  | 9 => .array .long
  | 10 => .array .int
  | 11 => .array .int
  | 12 => .array .int
  | 13 => .array .int
  | 14 => .array .int
  | 15 => .array .int
  | 16 => .array .int
  | 17 => .int
  | _ => .boolean
theorem n_Mo : ∀ a, a < 19 → ∀ b, b < 19 → a ≠ b → (F_Mo a).2.1 ≠ (F_Mo b).2.1 := by decide +kernel
theorem t_Mo_ok : ∀ k, k < 19 → parseFieldDescriptor (F_Mo k).2.2.1 = some (t_Mo k) := by decide +kernel
abbrev cls : List vw_C := [(R_De, F_De, 4), (R_Fi, F_Fi, 3), (R_Na, F_Na, 2), (R_Te, F_Te, 2), (R_Bt, F_Bt, 7), (R_Mo, F_Mo, 19)]
abbrev b_Bt_init : ByteArray := prog_1_method_1_code
abbrev y_Bt_init : MethodName := ⟨R_Bt, "<init>", "()V"⟩
abbrev b_Ob_init : ByteArray := object_method_1_code
abbrev y_Ob_init : MethodName := ⟨R_Ob, "<init>", "()V"⟩
abbrev b_Fi_init : ByteArray := prog_3_method_1_code
abbrev y_Fi_init : MethodName := ⟨R_Fi, "<init>", "()V"⟩
abbrev b_Na_init : ByteArray := prog_5_method_1_code
abbrev y_Na_init : MethodName := ⟨R_Na, "<init>", "()V"⟩
abbrev b_De_init : ByteArray := prog_2_method_1_code
abbrev y_De_init : MethodName := ⟨R_De, "<init>", "()V"⟩
abbrev b_Te_init : ByteArray := prog_6_method_1_code
abbrev y_Te_init : MethodName := ⟨R_Te, "<init>", "()V"⟩
abbrev b_Bt_bounds : ByteArray := prog_1_method_2_code
abbrev y_Bt_bounds : MethodName := ⟨R_Bt, "bounds", "(II)Z"⟩
abbrev b_Bt_wide : ByteArray := prog_1_method_3_code
abbrev y_Bt_wide : MethodName := ⟨R_Bt, "wide", "(J)I"⟩
abbrev b_Bt_printDecimal : ByteArray := prog_1_method_12_code
abbrev y_Bt_printDecimal : MethodName := ⟨R_Bt, "printDecimal", "(LBinaryText$Layout;J)I"⟩
abbrev b_Bt_take : ByteArray := prog_1_method_14_code
abbrev y_Bt_take : MethodName := ⟨R_Bt, "take", "(LBinaryText$Layout;J)V"⟩
abbrev b_La_exponentOf : ByteArray := prog_4_method_5_code
abbrev y_La_exponentOf : MethodName := ⟨R_La, "exponentOf", "(J)I"⟩
abbrev b_La_fractionOf : ByteArray := prog_4_method_6_code
abbrev y_La_fractionOf : MethodName := ⟨R_La, "fractionOf", "(J)J"⟩
abbrev b_La_hiddenOne : ByteArray := prog_4_method_8_code
abbrev y_La_hiddenOne : MethodName := ⟨R_La, "hiddenOne", "()J"⟩
abbrev b_Bt_kindOf : ByteArray := prog_1_method_15_code
abbrev y_Bt_kindOf : MethodName := ⟨R_Bt, "kindOf", "(LBinaryText$Layout;IJ)I"⟩
abbrev b_La_signOf : ByteArray := prog_4_method_4_code
abbrev y_La_signOf : MethodName := ⟨R_La, "signOf", "(J)Z"⟩
abbrev b_La_powerOf : ByteArray := prog_4_method_10_code
abbrev y_La_powerOf : MethodName := ⟨R_La, "powerOf", "(I)I"⟩
abbrev b_La_binaryExponentOf : ByteArray := prog_4_method_9_code
abbrev y_La_binaryExponentOf : MethodName := ⟨R_La, "binaryExponentOf", "(I)I"⟩
abbrev b_Ma_max : ByteArray := prog_12_method_65_code
abbrev y_Ma_max : MethodName := ⟨R_Ma, "max", "(II)I"⟩
abbrev b_Fi_find : ByteArray := prog_3_method_2_code
abbrev y_Fi_find : MethodName := ⟨R_Fi, "find", "(JIZLBinaryText$Decimal;)V"⟩
abbrev b_Fi_highestPlace : ByteArray := prog_3_method_3_code
abbrev y_Fi_highestPlace : MethodName := ⟨R_Fi, "highestPlace", "(JI)I"⟩
abbrev b_JL_numberOfLeadingZeros : ByteArray := prog_11_method_48_code
abbrev y_JL_numberOfLeadingZeros : MethodName := ⟨R_JL, "numberOfLeadingZeros", "(J)I"⟩
abbrev b_JI_numberOfLeadingZeros : ByteArray := prog_10_method_47_code
abbrev y_JI_numberOfLeadingZeros : MethodName := ⟨R_JI, "numberOfLeadingZeros", "(I)I"⟩
abbrev b_Fi_scale : ByteArray := prog_3_method_4_code
abbrev y_Fi_scale : MethodName := ⟨R_Fi, "scale", "(JII)V"⟩
abbrev b_Na_become : ByteArray := prog_5_method_2_code
abbrev y_Na_become : MethodName := ⟨R_Na, "become", "(J)V"⟩
abbrev b_Na_timesFives : ByteArray := prog_5_method_4_code
abbrev y_Na_timesFives : MethodName := ⟨R_Na, "timesFives", "(I)V"⟩
abbrev b_Ma_min : ByteArray := prog_12_method_69_code
abbrev y_Ma_min : MethodName := ⟨R_Ma, "min", "(II)I"⟩
abbrev b_Na_smallPowerOfFive : ByteArray := prog_5_method_5_code
abbrev y_Na_smallPowerOfFive : MethodName := ⟨R_Na, "smallPowerOfFive", "(I)J"⟩
abbrev b_Na_times : ByteArray := prog_5_method_3_code
abbrev y_Na_times : MethodName := ⟨R_Na, "times", "(J)V"⟩
abbrev b_Na_timesTwos : ByteArray := prog_5_method_6_code
abbrev y_Na_timesTwos : MethodName := ⟨R_Na, "timesTwos", "(I)V"⟩
abbrev b_Na_compareWith : ByteArray := prog_5_method_8_code
abbrev y_Na_compareWith : MethodName := ⟨R_Na, "compareWith", "(LBinaryText$Natural;)I"⟩
abbrev b_Fi_tenfold : ByteArray := prog_3_method_5_code
abbrev y_Fi_tenfold : MethodName := ⟨R_Fi, "tenfold", "()V"⟩
abbrev b_Fi_takeDigit : ByteArray := prog_3_method_6_code
abbrev y_Fi_takeDigit : MethodName := ⟨R_Fi, "takeDigit", "()I"⟩
abbrev b_Na_subtract : ByteArray := prog_5_method_7_code
abbrev y_Na_subtract : MethodName := ⟨R_Na, "subtract", "(LBinaryText$Natural;)V"⟩
abbrev b_Fi_compareDown : ByteArray := prog_3_method_7_code
abbrev y_Fi_compareDown : MethodName := ⟨R_Fi, "compareDown", "(Z)I"⟩
abbrev b_Na_compareSum : ByteArray := prog_5_method_9_code
abbrev y_Na_compareSum : MethodName := ⟨R_Na, "compareSum", "(LBinaryText$Natural;LBinaryText$Natural;LBinaryText$Natural;)I"⟩
abbrev b_Fi_isWithin : ByteArray := prog_3_method_9_code
abbrev y_Fi_isWithin : MethodName := ⟨R_Fi, "isWithin", "(IZ)Z"⟩
abbrev b_Fi_compareUp : ByteArray := prog_3_method_8_code
abbrev y_Fi_compareUp : MethodName := ⟨R_Fi, "compareUp", "()I"⟩
abbrev b_Fi_isUpNearer : ByteArray := prog_3_method_10_code
abbrev y_Fi_isUpNearer : MethodName := ⟨R_Fi, "isUpNearer", "(J)Z"⟩
abbrev b_De_become : ByteArray := prog_2_method_3_code
abbrev y_De_become : MethodName := ⟨R_De, "become", "(JI)V"⟩
abbrev b_De_spread : ByteArray := prog_2_method_4_code
abbrev y_De_spread : MethodName := ⟨R_De, "spread", "()V"⟩
abbrev b_De_clear : ByteArray := prog_2_method_2_code
abbrev y_De_clear : MethodName := ⟨R_De, "clear", "()V"⟩
abbrev b_Te_clear : ByteArray := prog_6_method_2_code
abbrev y_Te_clear : MethodName := ⟨R_Te, "clear", "()V"⟩
abbrev b_Te_put : ByteArray := prog_6_method_3_code
abbrev y_Te_put : MethodName := ⟨R_Te, "put", "(C)V"⟩
abbrev b_Bt_putDecimal : ByteArray := prog_1_method_17_code
abbrev y_Bt_putDecimal : MethodName := ⟨R_Bt, "putDecimal", "()V"⟩
abbrev b_De_firstPlace : ByteArray := prog_2_method_5_code
abbrev y_De_firstPlace : MethodName := ⟨R_De, "firstPlace", "()I"⟩
abbrev b_Bt_putPlaces : ByteArray := prog_1_method_18_code
abbrev y_Bt_putPlaces : MethodName := ⟨R_Bt, "putPlaces", "(II)V"⟩
abbrev b_De_digitAt : ByteArray := prog_2_method_6_code
abbrev y_De_digitAt : MethodName := ⟨R_De, "digitAt", "(I)C"⟩
abbrev b_Te_putWhole : ByteArray := prog_6_method_5_code
abbrev y_Te_putWhole : MethodName := ⟨R_Te, "putWhole", "(I)V"⟩
abbrev b_Ma_abs : ByteArray := prog_12_method_59_code
abbrev y_Ma_abs : MethodName := ⟨R_Ma, "abs", "(I)I"⟩
abbrev b_Bt_putNamed : ByteArray := prog_1_method_16_code
abbrev y_Bt_putNamed : MethodName := ⟨R_Bt, "putNamed", "(Ljava/lang/String;)V"⟩
abbrev b_Te_putAll : ByteArray := prog_6_method_4_code
abbrev y_Te_putAll : MethodName := ⟨R_Te, "putAll", "(Ljava/lang/String;)V"⟩
abbrev b_St_length : ByteArray := prog_13_method_54_code
abbrev y_St_length : MethodName := ⟨R_St, "length", "()I"⟩
abbrev b_St_coder : ByteArray := prog_13_method_152_code
abbrev y_St_coder : MethodName := ⟨R_St, "coder", "()B"⟩
abbrev b_St_charAt : ByteArray := prog_13_method_56_code
abbrev y_St_charAt : MethodName := ⟨R_St, "charAt", "(I)C"⟩
abbrev b_St_isLatin1 : ByteArray := prog_13_method_154_code
abbrev y_St_isLatin1 : MethodName := ⟨R_St, "isLatin1", "()Z"⟩
abbrev b_SL_charAt : ByteArray := prog_14_method_2_code
abbrev y_SL_charAt : MethodName := ⟨R_SL, "charAt", "([BI)C"⟩
abbrev b_St_checkIndex : ByteArray := prog_13_method_155_code
abbrev y_St_checkIndex : MethodName := ⟨R_St, "checkIndex", "(II)V"⟩
abbrev b_Pr_checkIndex : ByteArray := prog_16_method_11_code
abbrev y_Pr_checkIndex : MethodName := ⟨R_Pr, "checkIndex", "(IILjava/util/function/BiFunction;)I"⟩
abbrev b_SU_charAt : ByteArray := prog_15_method_83_code
abbrev y_SU_charAt : MethodName := ⟨R_SU, "charAt", "([BI)C"⟩
abbrev b_SU_checkIndex : ByteArray := prog_15_method_91_code
abbrev y_SU_checkIndex : MethodName := ⟨R_SU, "checkIndex", "(I[B)V"⟩
abbrev b_SU_length : ByteArray := prog_15_method_6_code
abbrev y_SU_length : MethodName := ⟨R_SU, "length", "([B)I"⟩
abbrev b_SU_getChar : ByteArray := prog_15_method_5_code
abbrev y_SU_getChar : MethodName := ⟨R_SU, "getChar", "([BI)C"⟩
abbrev b_Bt_narrow : ByteArray := prog_1_method_4_code
abbrev y_Bt_narrow : MethodName := ⟨R_Bt, "narrow", "(I)I"⟩
abbrev b_Bt_wideHex : ByteArray := prog_1_method_5_code
abbrev y_Bt_wideHex : MethodName := ⟨R_Bt, "wideHex", "(J)I"⟩
abbrev b_Bt_printHex : ByteArray := prog_1_method_13_code
abbrev y_Bt_printHex : MethodName := ⟨R_Bt, "printHex", "(LBinaryText$Layout;J)I"⟩
abbrev b_Bt_putHex : ByteArray := prog_1_method_19_code
abbrev y_Bt_putHex : MethodName := ⟨R_Bt, "putHex", "(LBinaryText$Layout;J)V"⟩
abbrev b_La_hexFractionOf : ByteArray := prog_4_method_7_code
abbrev y_La_hexFractionOf : MethodName := ⟨R_La, "hexFractionOf", "(J)J"⟩
abbrev b_Te_putHexPlaces : ByteArray := prog_6_method_6_code
abbrev y_Te_putHexPlaces : MethodName := ⟨R_Te, "putHexPlaces", "(JI)V"⟩
abbrev b_Te_hexDigit : ByteArray := prog_6_method_8_code
abbrev y_Te_hexDigit : MethodName := ⟨R_Te, "hexDigit", "(I)C"⟩
abbrev b_Bt_narrowHex : ByteArray := prog_1_method_6_code
abbrev y_Bt_narrowHex : MethodName := ⟨R_Bt, "narrowHex", "(I)I"⟩
abbrev b_Bt_characterAt : ByteArray := prog_1_method_7_code
abbrev y_Bt_characterAt : MethodName := ⟨R_Bt, "characterAt", "(I)I"⟩
abbrev b_Te_codeAt : ByteArray := prog_6_method_7_code
abbrev y_Te_codeAt : MethodName := ⟨R_Te, "codeAt", "(I)I"⟩
abbrev b_Bt_kind : ByteArray := prog_1_method_8_code
abbrev y_Bt_kind : MethodName := ⟨R_Bt, "kind", "()I"⟩
abbrev b_Bt_minus : ByteArray := prog_1_method_9_code
abbrev y_Bt_minus : MethodName := ⟨R_Bt, "minus", "()Z"⟩
abbrev b_Bt_digits : ByteArray := prog_1_method_10_code
abbrev y_Bt_digits : MethodName := ⟨R_Bt, "digits", "()J"⟩
abbrev b_Bt_tens : ByteArray := prog_1_method_11_code
abbrev y_Bt_tens : MethodName := ⟨R_Bt, "tens", "()I"⟩
abbrev b_Mo_init : ByteArray := prog_8_method_1_code
abbrev y_Mo_init : MethodName := ⟨R_Mo, "<init>", "()V"⟩
abbrev b_Mo_bounds : ByteArray := prog_8_method_3_code
abbrev y_Mo_bounds : MethodName := ⟨R_Mo, "bounds", "(II)Z"⟩
abbrev b_Mo_minus : ByteArray := prog_8_method_7_code
abbrev y_Mo_minus : MethodName := ⟨R_Mo, "minus", "()Z"⟩
abbrev b_Mo_kind : ByteArray := prog_8_method_8_code
abbrev y_Mo_kind : MethodName := ⟨R_Mo, "kind", "()I"⟩
abbrev b_Mo_isLast : ByteArray := prog_8_method_6_code
abbrev y_Mo_isLast : MethodName := ⟨R_Mo, "isLast", "()Z"⟩
abbrev b_Mo_exponent : ByteArray := prog_8_method_4_code
abbrev y_Mo_exponent : MethodName := ⟨R_Mo, "exponent", "()I"⟩
abbrev b_Mo_fraction : ByteArray := prog_8_method_5_code
abbrev y_Mo_fraction : MethodName := ⟨R_Mo, "fraction", "()J"⟩
abbrev b_Mo_digits : ByteArray := prog_8_method_19_code
abbrev y_Mo_digits : MethodName := ⟨R_Mo, "digits", "()J"⟩
abbrev b_Mo_search : ByteArray := prog_8_method_18_code
abbrev y_Mo_search : MethodName := ⟨R_Mo, "search", "()V"⟩
abbrev b_Mo_spread : ByteArray := prog_8_method_11_code
abbrev y_Mo_spread : MethodName := ⟨R_Mo, "spread", "()V"⟩
abbrev b_Mo_timesUnit : ByteArray := prog_8_method_9_code
abbrev y_Mo_timesUnit : MethodName := ⟨R_Mo, "timesUnit", "(J)V"⟩
abbrev b_Mo_write : ByteArray := prog_8_method_10_code
abbrev y_Mo_write : MethodName := ⟨R_Mo, "write", "(J[I)V"⟩
abbrev b_Mo_top : ByteArray := prog_8_method_13_code
abbrev y_Mo_top : MethodName := ⟨R_Mo, "top", "([I)I"⟩
abbrev b_Mo_pick : ByteArray := prog_8_method_15_code
abbrev y_Mo_pick : MethodName := ⟨R_Mo, "pick", "(IZ)V"⟩
abbrev b_Mo_readsBack : ByteArray := prog_8_method_16_code
abbrev y_Mo_readsBack : MethodName := ⟨R_Mo, "readsBack", "()Z"⟩
abbrev b_Mo_compare : ByteArray := prog_8_method_12_code
abbrev y_Mo_compare : MethodName := ⟨R_Mo, "compare", "([I[I)I"⟩
abbrev b_Mo_bottom : ByteArray := prog_8_method_14_code
abbrev y_Mo_bottom : MethodName := ⟨R_Mo, "bottom", "([I)I"⟩
abbrev b_Mo_measure : ByteArray := prog_8_method_17_code
abbrev y_Mo_measure : MethodName := ⟨R_Mo, "measure", "()V"⟩
abbrev b_Mo_tens : ByteArray := prog_8_method_20_code
abbrev y_Mo_tens : MethodName := ⟨R_Mo, "tens", "()I"⟩
abbrev b_Mo_wide : ByteArray := prog_8_method_25_code
abbrev y_Mo_wide : MethodName := ⟨R_Mo, "wide", "(J)I"⟩
abbrev b_Mo_print : ByteArray := prog_8_method_24_code
abbrev y_Mo_print : MethodName := ⟨R_Mo, "print", "(ZJ)I"⟩
abbrev b_Mo_putOther : ByteArray := prog_8_method_23_code
abbrev y_Mo_putOther : MethodName := ⟨R_Mo, "putOther", "(Z)Z"⟩
abbrev b_Mo_put : ByteArray := prog_8_method_21_code
abbrev y_Mo_put : MethodName := ⟨R_Mo, "put", "(I)V"⟩
abbrev b_Mo_putNumber : ByteArray := prog_8_method_22_code
abbrev y_Mo_putNumber : MethodName := ⟨R_Mo, "putNumber", "(I)V"⟩
abbrev b_Mo_narrow : ByteArray := prog_8_method_26_code
abbrev y_Mo_narrow : MethodName := ⟨R_Mo, "narrow", "(I)I"⟩
abbrev b_Mo_wideHex : ByteArray := prog_8_method_28_code
abbrev y_Mo_wideHex : MethodName := ⟨R_Mo, "wideHex", "(J)I"⟩
abbrev b_Mo_printHex : ByteArray := prog_8_method_27_code
abbrev y_Mo_printHex : MethodName := ⟨R_Mo, "printHex", "(ZJ)I"⟩
abbrev b_Mo_narrowHex : ByteArray := prog_8_method_29_code
abbrev y_Mo_narrowHex : MethodName := ⟨R_Mo, "narrowHex", "(I)I"⟩
abbrev b_Mo_characterAt : ByteArray := prog_8_method_30_code
abbrev y_Mo_characterAt : MethodName := ⟨R_Mo, "characterAt", "(I)I"⟩
/-- the words that stay: a method may hand them on to whom it calls -/
def gT : List Cond := lw_tbl.filter goodWord
theorem gT_good : ∀ w ∈ gT, (w.onTables && w.keeps) = true ∨ ∃ ty, w = .arrayClass ty := fun w h => good_of_word (List.mem_filter.mp h).2
theorem gT_in {w : Cond} (h : w ∈ tables_1) (g : goodWord w = true) : w ∈ gT := List.mem_filter.mpr ⟨List.mem_append_right _ h, g⟩
theorem gT_sel {q : MethodName × Nat} (h : q ∈ lw_privs) : Cond.selects q.1.cls q.1 q.1 ∈ gT := List.mem_filter.mpr ⟨List.mem_append_left _ (List.mem_map.mpr ⟨q, h, rfl⟩), rfl⟩
theorem gT_1 {w : Cond} {i : Nat} (h : tables_1_1[i]? = some w) : w ∈ tables_1 := List.mem_append_left _ (List.mem_of_getElem? h)
theorem gT_2 {w : Cond} {i : Nat} (h : tables_1_2[i]? = some w) : w ∈ tables_1 := List.mem_append_right _ (List.mem_append_left _ (List.mem_of_getElem? h))
theorem gT_3 {w : Cond} {i : Nat} (h : tables_1_3[i]? = some w) : w ∈ tables_1 := List.mem_append_right _ (List.mem_append_right _ (List.mem_of_getElem? h))
end
section
theorem ini_Lw : (.initialized R_Lw : Cond) ∈ gT := gT_in (gT_1 (i := 0) rfl) rfl
theorem ini_Bt : (.initialized R_Bt : Cond) ∈ gT := gT_in (gT_1 (i := 1) rfl) rfl
theorem ini_Fi : (.initialized R_Fi : Cond) ∈ gT := gT_in (gT_1 (i := 2) rfl) rfl
theorem ini_Na : (.initialized R_Na : Cond) ∈ gT := gT_in (gT_1 (i := 3) rfl) rfl
theorem ini_De : (.initialized R_De : Cond) ∈ gT := gT_in (gT_1 (i := 4) rfl) rfl
theorem ini_Te : (.initialized R_Te : Cond) ∈ gT := gT_in (gT_1 (i := 5) rfl) rfl
theorem ini_Mo : (.initialized R_Mo : Cond) ∈ gT := gT_in (gT_1 (i := 6) rfl) rfl
theorem ini_En : (.initialized R_En : Cond) ∈ gT := gT_in (gT_1 (i := 7) rfl) rfl
theorem ini_La : (.initialized R_La : Cond) ∈ gT := gT_in (gT_1 (i := 8) rfl) rfl
theorem ini_Ma : (.initialized R_Ma : Cond) ∈ gT := gT_in (gT_1 (i := 9) rfl) rfl
theorem ini_JL : (.initialized R_JL : Cond) ∈ gT := gT_in (gT_1 (i := 10) rfl) rfl
theorem ini_JI : (.initialized R_JI : Cond) ∈ gT := gT_in (gT_1 (i := 11) rfl) rfl
theorem ini_St : (.initialized R_St : Cond) ∈ gT := gT_in (gT_1 (i := 12) rfl) rfl
theorem ini_SL : (.initialized R_SL : Cond) ∈ gT := gT_in (gT_1 (i := 13) rfl) rfl
theorem ini_Pr : (.initialized R_Pr : Cond) ∈ gT := gT_in (gT_1 (i := 14) rfl) rfl
theorem ini_SU : (.initialized R_SU : Cond) ∈ gT := gT_in (gT_1 (i := 15) rfl) rfl
theorem cl_Lw_7 : (.classLink R_Lw 7 R_Bt : Cond) ∈ gT := gT_in (gT_1 (i := 16) rfl) rfl
theorem nst_Bt : (.instantiable R_Bt 7 : Cond) ∈ gT := gT_in (gT_1 (i := 17) rfl) rfl
theorem ml_Lw_9 : (.methodLink R_Lw 9 y_Bt_init : Cond) ∈ gT := gT_in (gT_1 (i := 18) rfl) rfl
theorem im_Bt_init : (.instanceMethod y_Bt_init : Cond) ∈ gT := gT_in (gT_1 (i := 19) rfl) rfl
theorem cod_Bt_init : (.code y_Bt_init b_Bt_init 1 none : Cond) ∈ gT := gT_in (gT_1 (i := 20) rfl) rfl
theorem ml_Bt_1 : (.methodLink R_Bt 1 y_Ob_init : Cond) ∈ gT := gT_in (gT_1 (i := 21) rfl) rfl
theorem im_Ob_init : (.instanceMethod y_Ob_init : Cond) ∈ gT := gT_in (gT_1 (i := 22) rfl) rfl
theorem cod_Ob_init : (.code y_Ob_init b_Ob_init 1 none : Cond) ∈ gT := gT_in (gT_1 (i := 23) rfl) rfl
theorem cl_Bt_7 : (.classLink R_Bt 7 R_Fi : Cond) ∈ gT := gT_in (gT_1 (i := 24) rfl) rfl
theorem nst_Fi : (.instantiable R_Fi 3 : Cond) ∈ gT := gT_in (gT_1 (i := 25) rfl) rfl
theorem mln_Bt_9 : (.methodLinkNest R_Bt 9 y_Fi_init R_Bt : Cond) ∈ tables_1 := gT_1 (i := 26) rfl
theorem im_Fi_init : (.instanceMethod y_Fi_init : Cond) ∈ gT := gT_in (gT_1 (i := 27) rfl) rfl
theorem cod_Fi_init : (.code y_Fi_init b_Fi_init 1 none : Cond) ∈ gT := gT_in (gT_1 (i := 28) rfl) rfl
theorem ml_Fi_1 : (.methodLink R_Fi 1 y_Ob_init : Cond) ∈ gT := gT_in (gT_1 (i := 29) rfl) rfl
theorem cl_Fi_7 : (.classLink R_Fi 7 R_Na : Cond) ∈ gT := gT_in (gT_1 (i := 30) rfl) rfl
theorem nst_Na : (.instantiable R_Na 2 : Cond) ∈ gT := gT_in (gT_1 (i := 31) rfl) rfl
theorem mln_Fi_9 : (.methodLinkNest R_Fi 9 y_Na_init R_Bt : Cond) ∈ tables_1 := gT_1 (i := 32) rfl
theorem im_Na_init : (.instanceMethod y_Na_init : Cond) ∈ gT := gT_in (gT_1 (i := 33) rfl) rfl
theorem cod_Na_init : (.code y_Na_init b_Na_init 1 none : Cond) ∈ gT := gT_in (gT_1 (i := 34) rfl) rfl
theorem ml_Na_1 : (.methodLink R_Na 1 y_Ob_init : Cond) ∈ gT := gT_in (gT_1 (i := 35) rfl) rfl
theorem fl_Na_9 : (.fieldLink R_Na 9 R_Na "words" "[J" : Cond) ∈ gT := gT_in (gT_1 (i := 36) rfl) rfl
theorem fl_Na_13 : (.fieldLink R_Na 13 R_Na "used" "I" : Cond) ∈ gT := gT_in (gT_1 (i := 37) rfl) rfl
theorem ac_long : (.arrayClass .long : Cond) ∈ gT := gT_in (gT_1 (i := 43) rfl) rfl
theorem fl_Fi_10 : (.fieldLink R_Fi 10 R_Fi "rest" "LBinaryText$Natural;" : Cond) ∈ gT := gT_in (gT_1 (i := 44) rfl) rfl
theorem fl_Fi_16 : (.fieldLink R_Fi 16 R_Fi "above" "LBinaryText$Natural;" : Cond) ∈ gT := gT_in (gT_1 (i := 45) rfl) rfl
theorem fl_Fi_19 : (.fieldLink R_Fi 19 R_Fi "whole" "LBinaryText$Natural;" : Cond) ∈ gT := gT_in (gT_1 (i := 46) rfl) rfl
theorem cl_Bt_16 : (.classLink R_Bt 16 R_De : Cond) ∈ gT := gT_in (gT_1 (i := 54) rfl) rfl
theorem nst_De : (.instantiable R_De 4 : Cond) ∈ gT := gT_in (gT_1 (i := 55) rfl) rfl
theorem mln_Bt_18 : (.methodLinkNest R_Bt 18 y_De_init R_Bt : Cond) ∈ tables_1 := gT_1 (i := 56) rfl
theorem im_De_init : (.instanceMethod y_De_init : Cond) ∈ gT := gT_in (gT_1 (i := 57) rfl) rfl
theorem cod_De_init : (.code y_De_init b_De_init 1 none : Cond) ∈ gT := gT_in (gT_1 (i := 58) rfl) rfl
theorem ml_De_1 : (.methodLink R_De 1 y_Ob_init : Cond) ∈ gT := gT_in (gT_1 (i := 59) rfl) rfl
theorem fl_De_9 : (.fieldLink R_De 9 R_De "row" "[C" : Cond) ∈ gT := gT_in (gT_1 (i := 60) rfl) rfl
theorem fl_De_13 : (.fieldLink R_De 13 R_De "count" "I" : Cond) ∈ gT := gT_in (gT_1 (i := 61) rfl) rfl
theorem fl_De_17 : (.fieldLink R_De 17 R_De "d" "J" : Cond) ∈ gT := gT_in (gT_1 (i := 62) rfl) rfl
theorem fln_Bt_64 : (.fieldLinkNest R_Bt 64 R_De "d" "J" R_Bt : Cond) ∈ tables_1 := gT_1 (i := 63) rfl
theorem fl_De_21 : (.fieldLink R_De 21 R_De "t" "I" : Cond) ∈ gT := gT_in (gT_1 (i := 64) rfl) rfl
theorem fln_Bt_68 : (.fieldLinkNest R_Bt 68 R_De "t" "I" R_Bt : Cond) ∈ tables_1 := gT_1 (i := 65) rfl
theorem ac_char : (.arrayClass .char : Cond) ∈ gT := gT_in (gT_1 (i := 75) rfl) rfl
theorem cl_Bt_23 : (.classLink R_Bt 23 R_Te : Cond) ∈ gT := gT_in (gT_1 (i := 76) rfl) rfl
theorem nst_Te : (.instantiable R_Te 2 : Cond) ∈ gT := gT_in (gT_1 (i := 77) rfl) rfl
theorem mln_Bt_25 : (.methodLinkNest R_Bt 25 y_Te_init R_Bt : Cond) ∈ tables_1 := gT_1 (i := 78) rfl
theorem im_Te_init : (.instanceMethod y_Te_init : Cond) ∈ gT := gT_in (gT_1 (i := 79) rfl) rfl
theorem cod_Te_init : (.code y_Te_init b_Te_init 1 none : Cond) ∈ gT := gT_in (gT_1 (i := 80) rfl) rfl
theorem ml_Te_1 : (.methodLink R_Te 1 y_Ob_init : Cond) ∈ gT := gT_in (gT_1 (i := 81) rfl) rfl
theorem fl_Te_9 : (.fieldLink R_Te 9 R_Te "row" "[C" : Cond) ∈ gT := gT_in (gT_1 (i := 82) rfl) rfl
theorem fl_Te_13 : (.fieldLink R_Te 13 R_Te "used" "I" : Cond) ∈ gT := gT_in (gT_1 (i := 83) rfl) rfl
theorem fln_Bt_84 : (.fieldLinkNest R_Bt 84 R_Te "used" "I" R_Bt : Cond) ∈ tables_1 := gT_1 (i := 84) rfl
theorem fl_Bt_10 : (.fieldLink R_Bt 10 R_Bt "finder" "LBinaryText$Finder;" : Cond) ∈ gT := gT_in (gT_1 (i := 90) rfl) rfl
theorem fl_Bt_19 : (.fieldLink R_Bt 19 R_Bt "decimal" "LBinaryText$Decimal;" : Cond) ∈ gT := gT_in (gT_1 (i := 91) rfl) rfl
theorem fl_Bt_26 : (.fieldLink R_Bt 26 R_Bt "text" "LBinaryText$TextRow;" : Cond) ∈ gT := gT_in (gT_1 (i := 92) rfl) rfl
theorem fl_Bt_30 : (.fieldLink R_Bt 30 R_Bt "low" "I" : Cond) ∈ gT := gT_in (gT_1 (i := 93) rfl) rfl
theorem fl_Bt_34 : (.fieldLink R_Bt 34 R_Bt "high" "I" : Cond) ∈ gT := gT_in (gT_1 (i := 94) rfl) rfl
theorem fl_Bt_37 : (.fieldLink R_Bt 37 R_Bt "kind" "I" : Cond) ∈ gT := gT_in (gT_1 (i := 95) rfl) rfl
theorem fl_Bt_40 : (.fieldLink R_Bt 40 R_Bt "minus" "Z" : Cond) ∈ gT := gT_in (gT_1 (i := 96) rfl) rfl
theorem ml_Lw_13 : (.methodLink R_Lw 13 y_Bt_bounds : Cond) ∈ gT := gT_in (gT_1 (i := 112) rfl) rfl
theorem im_Bt_bounds : (.instanceMethod y_Bt_bounds : Cond) ∈ gT := gT_in (gT_1 (i := 113) rfl) rfl
theorem sel_Bt_bounds : (.selects R_Bt y_Bt_bounds y_Bt_bounds : Cond) ∈ gT := gT_in (gT_1 (i := 114) rfl) rfl
theorem cod_Bt_bounds : (.code y_Bt_bounds b_Bt_bounds 3 (some .boolean) : Cond) ∈ gT := gT_in (gT_1 (i := 115) rfl) rfl
theorem ml_Lw_20 : (.methodLink R_Lw 20 y_Bt_wide : Cond) ∈ gT := gT_in (gT_1 (i := 116) rfl) rfl
theorem im_Bt_wide : (.instanceMethod y_Bt_wide : Cond) ∈ gT := gT_in (gT_1 (i := 117) rfl) rfl
theorem sel_Bt_wide : (.selects R_Bt y_Bt_wide y_Bt_wide : Cond) ∈ gT := gT_in (gT_1 (i := 118) rfl) rfl
theorem cod_Bt_wide : (.code y_Bt_wide b_Bt_wide 3 (some .int) : Cond) ∈ gT := gT_in (gT_1 (i := 119) rfl) rfl
theorem fl_Bt_44 : (.fieldLink R_Bt 44 R_La "WIDE" "LBinaryText$Layout;" : Cond) ∈ gT := gT_in (gT_1 (i := 120) rfl) rfl
theorem ls_La_WIDE : (.laysStatic R_La "WIDE" "LBinaryText$Layout;" : Cond) ∈ tables_1 := gT_1 (i := 121) rfl
theorem ml_Bt_50 : (.methodLink R_Bt 50 y_Bt_printDecimal : Cond) ∈ gT := gT_in (gT_1 (i := 122) rfl) rfl
theorem pri_Bt_printDecimal : (.privateMethod y_Bt_printDecimal : Cond) ∈ tables_1 := gT_1 (i := 123) rfl
theorem im_Bt_printDecimal : (.instanceMethod y_Bt_printDecimal : Cond) ∈ gT := gT_in (gT_1 (i := 124) rfl) rfl
theorem cod_Bt_printDecimal : (.code y_Bt_printDecimal b_Bt_printDecimal 4 (some .int) : Cond) ∈ gT := gT_in (gT_1 (i := 125) rfl) rfl
theorem ml_Bt_71 : (.methodLink R_Bt 71 y_Bt_take : Cond) ∈ gT := gT_in (gT_1 (i := 126) rfl) rfl
theorem pri_Bt_take : (.privateMethod y_Bt_take : Cond) ∈ tables_1 := gT_1 (i := 127) rfl
theorem im_Bt_take : (.instanceMethod y_Bt_take : Cond) ∈ gT := gT_in (gT_1 (i := 128) rfl) rfl
theorem cod_Bt_take : (.code y_Bt_take b_Bt_take 10 none : Cond) ∈ gT := gT_in (gT_1 (i := 129) rfl) rfl
theorem ml_Bt_92 : (.methodLink R_Bt 92 y_La_exponentOf : Cond) ∈ gT := gT_in (gT_1 (i := 130) rfl) rfl
theorem im_La_exponentOf : (.instanceMethod y_La_exponentOf : Cond) ∈ gT := gT_in (gT_1 (i := 131) rfl) rfl
theorem sel_La_exponentOf : (.selects R_La y_La_exponentOf y_La_exponentOf : Cond) ∈ gT := gT_in (gT_1 (i := 132) rfl) rfl
theorem cod_La_exponentOf : (.code y_La_exponentOf b_La_exponentOf 3 (some .int) : Cond) ∈ gT := gT_in (gT_1 (i := 133) rfl) rfl
theorem ml_Bt_96 : (.methodLink R_Bt 96 y_La_fractionOf : Cond) ∈ gT := gT_in (gT_1 (i := 134) rfl) rfl
theorem im_La_fractionOf : (.instanceMethod y_La_fractionOf : Cond) ∈ gT := gT_in (gT_1 (i := 135) rfl) rfl
theorem sel_La_fractionOf : (.selects R_La y_La_fractionOf y_La_fractionOf : Cond) ∈ gT := gT_in (gT_1 (i := 136) rfl) rfl
theorem cod_La_fractionOf : (.code y_La_fractionOf b_La_fractionOf 3 (some .long) : Cond) ∈ gT := gT_in (gT_1 (i := 137) rfl) rfl
theorem ml_La_42 : (.methodLink R_La 42 y_La_hiddenOne : Cond) ∈ gT := gT_in (gT_1 (i := 138) rfl) rfl
theorem im_La_hiddenOne : (.instanceMethod y_La_hiddenOne : Cond) ∈ gT := gT_in (gT_1 (i := 139) rfl) rfl
theorem sel_La_hiddenOne : (.selects R_La y_La_hiddenOne y_La_hiddenOne : Cond) ∈ gT := gT_in (gT_1 (i := 140) rfl) rfl
theorem cod_La_hiddenOne : (.code y_La_hiddenOne b_La_hiddenOne 1 (some .long) : Cond) ∈ gT := gT_in (gT_1 (i := 141) rfl) rfl
theorem ml_Bt_100 : (.methodLink R_Bt 100 y_Bt_kindOf : Cond) ∈ gT := gT_in (gT_1 (i := 142) rfl) rfl
theorem sta_Bt_kindOf : (.static y_Bt_kindOf : Cond) ∈ gT := gT_in (gT_1 (i := 143) rfl) rfl
theorem cod_Bt_kindOf : (.code y_Bt_kindOf b_Bt_kindOf 4 (some .int) : Cond) ∈ gT := gT_in (gT_1 (i := 144) rfl) rfl
theorem ml_Bt_104 : (.methodLink R_Bt 104 y_La_signOf : Cond) ∈ gT := gT_in (gT_1 (i := 145) rfl) rfl
theorem im_La_signOf : (.instanceMethod y_La_signOf : Cond) ∈ gT := gT_in (gT_1 (i := 146) rfl) rfl
theorem sel_La_signOf : (.selects R_La y_La_signOf y_La_signOf : Cond) ∈ gT := gT_in (gT_1 (i := 147) rfl) rfl
theorem cod_La_signOf : (.code y_La_signOf b_La_signOf 3 (some .boolean) : Cond) ∈ gT := gT_in (gT_1 (i := 148) rfl) rfl
theorem ml_Bt_108 : (.methodLink R_Bt 108 y_La_hiddenOne : Cond) ∈ gT := gT_in (gT_1 (i := 149) rfl) rfl
theorem ml_Bt_112 : (.methodLink R_Bt 112 y_La_powerOf : Cond) ∈ gT := gT_in (gT_1 (i := 150) rfl) rfl
theorem im_La_powerOf : (.instanceMethod y_La_powerOf : Cond) ∈ gT := gT_in (gT_1 (i := 151) rfl) rfl
theorem sel_La_powerOf : (.selects R_La y_La_powerOf y_La_powerOf : Cond) ∈ gT := gT_in (gT_1 (i := 152) rfl) rfl
theorem cod_La_powerOf : (.code y_La_powerOf b_La_powerOf 2 (some .int) : Cond) ∈ gT := gT_in (gT_1 (i := 153) rfl) rfl
theorem ml_La_56 : (.methodLink R_La 56 y_La_binaryExponentOf : Cond) ∈ gT := gT_in (gT_1 (i := 154) rfl) rfl
theorem im_La_binaryExponentOf : (.instanceMethod y_La_binaryExponentOf : Cond) ∈ gT := gT_in (gT_1 (i := 155) rfl) rfl
theorem sel_La_binaryExponentOf : (.selects R_La y_La_binaryExponentOf y_La_binaryExponentOf : Cond) ∈ gT := gT_in (gT_1 (i := 156) rfl) rfl
theorem cod_La_binaryExponentOf : (.code y_La_binaryExponentOf b_La_binaryExponentOf 2 (some .int) : Cond) ∈ gT := gT_in (gT_1 (i := 157) rfl) rfl
theorem ml_La_50 : (.methodLink R_La 50 y_Ma_max : Cond) ∈ gT := gT_in (gT_1 (i := 158) rfl) rfl
theorem sta_Ma_max : (.static y_Ma_max : Cond) ∈ gT := gT_in (gT_1 (i := 159) rfl) rfl
theorem cod_Ma_max : (.code y_Ma_max b_Ma_max 2 (some .int) : Cond) ∈ gT := gT_in (gT_1 (i := 160) rfl) rfl
theorem ml_Bt_115 : (.methodLink R_Bt 115 y_Fi_find : Cond) ∈ gT := gT_in (gT_1 (i := 161) rfl) rfl
theorem im_Fi_find : (.instanceMethod y_Fi_find : Cond) ∈ gT := gT_in (gT_1 (i := 162) rfl) rfl
theorem sel_Fi_find : (.selects R_Fi y_Fi_find y_Fi_find : Cond) ∈ gT := gT_in (gT_1 (i := 163) rfl) rfl
theorem cod_Fi_find : (.code y_Fi_find b_Fi_find 13 none : Cond) ∈ gT := gT_in (gT_1 (i := 164) rfl) rfl
theorem ml_Fi_22 : (.methodLink R_Fi 22 y_Fi_highestPlace : Cond) ∈ gT := gT_in (gT_1 (i := 165) rfl) rfl
theorem sta_Fi_highestPlace : (.static y_Fi_highestPlace : Cond) ∈ gT := gT_in (gT_1 (i := 166) rfl) rfl
theorem cod_Fi_highestPlace : (.code y_Fi_highestPlace b_Fi_highestPlace 4 (some .int) : Cond) ∈ gT := gT_in (gT_1 (i := 167) rfl) rfl
theorem ml_Fi_64 : (.methodLink R_Fi 64 y_JL_numberOfLeadingZeros : Cond) ∈ gT := gT_in (gT_1 (i := 168) rfl) rfl
theorem sta_JL_numberOfLeadingZeros : (.static y_JL_numberOfLeadingZeros : Cond) ∈ gT := gT_in (gT_1 (i := 169) rfl) rfl
theorem cod_JL_numberOfLeadingZeros : (.code y_JL_numberOfLeadingZeros b_JL_numberOfLeadingZeros 3 (some .int) : Cond) ∈ gT := gT_in (gT_1 (i := 170) rfl) rfl
theorem ml_JL_308 : (.methodLink R_JL 308 y_JI_numberOfLeadingZeros : Cond) ∈ gT := gT_in (gT_1 (i := 171) rfl) rfl
theorem sta_JI_numberOfLeadingZeros : (.static y_JI_numberOfLeadingZeros : Cond) ∈ gT := gT_in (gT_1 (i := 172) rfl) rfl
theorem cod_JI_numberOfLeadingZeros : (.code y_JI_numberOfLeadingZeros b_JI_numberOfLeadingZeros 2 (some .int) : Cond) ∈ gT := gT_in (gT_1 (i := 173) rfl) rfl
theorem ko_JI_264 : (.constant R_JI 264 (65536) : Cond) ∈ gT := gT_in (gT_1 (i := 174) rfl) rfl
theorem ko_Fi_70 : (.constant R_Fi 70 (315653) : Cond) ∈ gT := gT_in (gT_1 (i := 175) rfl) rfl
theorem ml_Fi_26 : (.methodLink R_Fi 26 y_Fi_scale : Cond) ∈ gT := gT_in (gT_1 (i := 176) rfl) rfl
theorem pri_Fi_scale : (.privateMethod y_Fi_scale : Cond) ∈ tables_1 := gT_1 (i := 177) rfl
theorem im_Fi_scale : (.instanceMethod y_Fi_scale : Cond) ∈ gT := gT_in (gT_1 (i := 178) rfl) rfl
theorem cod_Fi_scale : (.code y_Fi_scale b_Fi_scale 6 none : Cond) ∈ gT := gT_in (gT_1 (i := 179) rfl) rfl
theorem kl_Fi_71 : (.constantLong R_Fi 71 (2) : Cond) ∈ gT := gT_in (gT_1 (i := 180) rfl) rfl
theorem ml_Fi_73 : (.methodLink R_Fi 73 y_Na_become : Cond) ∈ gT := gT_in (gT_1 (i := 181) rfl) rfl
theorem im_Na_become : (.instanceMethod y_Na_become : Cond) ∈ gT := gT_in (gT_1 (i := 182) rfl) rfl
theorem sel_Na_become : (.selects R_Na y_Na_become y_Na_become : Cond) ∈ gT := gT_in (gT_1 (i := 183) rfl) rfl
theorem cod_Na_become : (.code y_Na_become b_Na_become 6 none : Cond) ∈ gT := gT_in (gT_1 (i := 184) rfl) rfl
theorem kl_Na_17 : (.constantLong R_Na 17 (4294967295) : Cond) ∈ gT := gT_in (gT_1 (i := 185) rfl) rfl
theorem ml_Fi_76 : (.methodLink R_Fi 76 y_Na_timesFives : Cond) ∈ gT := gT_in (gT_1 (i := 186) rfl) rfl
theorem im_Na_timesFives : (.instanceMethod y_Na_timesFives : Cond) ∈ gT := gT_in (gT_1 (i := 187) rfl) rfl
theorem sel_Na_timesFives : (.selects R_Na y_Na_timesFives y_Na_timesFives : Cond) ∈ gT := gT_in (gT_1 (i := 188) rfl) rfl
theorem cod_Na_timesFives : (.code y_Na_timesFives b_Na_timesFives 3 none : Cond) ∈ gT := gT_in (gT_1 (i := 189) rfl) rfl
theorem ml_Na_19 : (.methodLink R_Na 19 y_Ma_min : Cond) ∈ gT := gT_in (gT_1 (i := 190) rfl) rfl
theorem sta_Ma_min : (.static y_Ma_min : Cond) ∈ gT := gT_in (gT_1 (i := 191) rfl) rfl
theorem cod_Ma_min : (.code y_Ma_min b_Ma_min 2 (some .int) : Cond) ∈ gT := gT_in (gT_1 (i := 192) rfl) rfl
theorem ml_Na_25 : (.methodLink R_Na 25 y_Na_smallPowerOfFive : Cond) ∈ gT := gT_in (gT_1 (i := 193) rfl) rfl
theorem sta_Na_smallPowerOfFive : (.static y_Na_smallPowerOfFive : Cond) ∈ gT := gT_in (gT_1 (i := 194) rfl) rfl
theorem cod_Na_smallPowerOfFive : (.code y_Na_smallPowerOfFive b_Na_smallPowerOfFive 4 (some .long) : Cond) ∈ gT := gT_in (gT_1 (i := 195) rfl) rfl
theorem kl_Na_33 : (.constantLong R_Na 33 (5) : Cond) ∈ gT := gT_in (gT_1 (i := 196) rfl) rfl
theorem ml_Na_29 : (.methodLink R_Na 29 y_Na_times : Cond) ∈ gT := gT_in (gT_1 (i := 197) rfl) rfl
theorem im_Na_times : (.instanceMethod y_Na_times : Cond) ∈ gT := gT_in (gT_1 (i := 198) rfl) rfl
theorem sel_Na_times : (.selects R_Na y_Na_times y_Na_times : Cond) ∈ gT := gT_in (gT_1 (i := 199) rfl) rfl
theorem cod_Na_times : (.code y_Na_times b_Na_times 8 none : Cond) ∈ gT := gT_in (gT_1 (i := 200) rfl) rfl
theorem ml_Fi_80 : (.methodLink R_Fi 80 y_Na_timesTwos : Cond) ∈ gT := gT_in (gT_1 (i := 201) rfl) rfl
theorem im_Na_timesTwos : (.instanceMethod y_Na_timesTwos : Cond) ∈ gT := gT_in (gT_1 (i := 202) rfl) rfl
theorem sel_Na_timesTwos : (.selects R_Na y_Na_timesTwos y_Na_timesTwos : Cond) ∈ gT := gT_in (gT_1 (i := 203) rfl) rfl
theorem cod_Na_timesTwos : (.code y_Na_timesTwos b_Na_timesTwos 3 none : Cond) ∈ gT := gT_in (gT_1 (i := 204) rfl) rfl
theorem ml_Fi_30 : (.methodLink R_Fi 30 y_Na_compareWith : Cond) ∈ gT := gT_in (gT_1 (i := 205) rfl) rfl
theorem im_Na_compareWith : (.instanceMethod y_Na_compareWith : Cond) ∈ gT := gT_in (gT_1 (i := 206) rfl) rfl
theorem sel_Na_compareWith : (.selects R_Na y_Na_compareWith y_Na_compareWith : Cond) ∈ gT := gT_in (gT_1 (i := 207) rfl) rfl
theorem cod_Na_compareWith : (.code y_Na_compareWith b_Na_compareWith 4 (some .int) : Cond) ∈ gT := gT_in (gT_1 (i := 208) rfl) rfl
theorem ml_Na_35 : (.methodLink R_Na 35 y_Ma_max : Cond) ∈ gT := gT_in (gT_1 (i := 209) rfl) rfl
theorem ml_Fi_34 : (.methodLink R_Fi 34 y_Fi_tenfold : Cond) ∈ gT := gT_in (gT_1 (i := 210) rfl) rfl
theorem pri_Fi_tenfold : (.privateMethod y_Fi_tenfold : Cond) ∈ tables_1 := gT_1 (i := 211) rfl
theorem im_Fi_tenfold : (.instanceMethod y_Fi_tenfold : Cond) ∈ gT := gT_in (gT_1 (i := 212) rfl) rfl
theorem cod_Fi_tenfold : (.code y_Fi_tenfold b_Fi_tenfold 1 none : Cond) ∈ gT := gT_in (gT_1 (i := 213) rfl) rfl
theorem kl_Fi_41 : (.constantLong R_Fi 41 (10) : Cond) ∈ gT := gT_in (gT_1 (i := 214) rfl) rfl
theorem ml_Fi_83 : (.methodLink R_Fi 83 y_Na_times : Cond) ∈ gT := gT_in (gT_1 (i := 215) rfl) rfl
theorem ml_Fi_37 : (.methodLink R_Fi 37 y_Fi_takeDigit : Cond) ∈ gT := gT_in (gT_1 (i := 216) rfl) rfl
theorem pri_Fi_takeDigit : (.privateMethod y_Fi_takeDigit : Cond) ∈ tables_1 := gT_1 (i := 217) rfl
theorem im_Fi_takeDigit : (.instanceMethod y_Fi_takeDigit : Cond) ∈ gT := gT_in (gT_1 (i := 218) rfl) rfl
theorem cod_Fi_takeDigit : (.code y_Fi_takeDigit b_Fi_takeDigit 2 (some .int) : Cond) ∈ gT := gT_in (gT_1 (i := 219) rfl) rfl
theorem ml_Fi_86 : (.methodLink R_Fi 86 y_Na_subtract : Cond) ∈ gT := gT_in (gT_1 (i := 220) rfl) rfl
theorem im_Na_subtract : (.instanceMethod y_Na_subtract : Cond) ∈ gT := gT_in (gT_1 (i := 221) rfl) rfl
theorem sel_Na_subtract : (.selects R_Na y_Na_subtract y_Na_subtract : Cond) ∈ gT := gT_in (gT_1 (i := 222) rfl) rfl
theorem cod_Na_subtract : (.code y_Na_subtract b_Na_subtract 7 none : Cond) ∈ gT := gT_in (gT_1 (i := 223) rfl) rfl
theorem ml_Fi_43 : (.methodLink R_Fi 43 y_Fi_compareDown : Cond) ∈ gT := gT_in (gT_1 (i := 224) rfl) rfl
theorem pri_Fi_compareDown : (.privateMethod y_Fi_compareDown : Cond) ∈ tables_1 := gT_1 (i := 225) rfl
theorem im_Fi_compareDown : (.instanceMethod y_Fi_compareDown : Cond) ∈ gT := gT_in (gT_1 (i := 226) rfl) rfl
theorem cod_Fi_compareDown : (.code y_Fi_compareDown b_Fi_compareDown 2 (some .int) : Cond) ∈ gT := gT_in (gT_1 (i := 227) rfl) rfl
theorem ml_Fi_90 : (.methodLink R_Fi 90 y_Na_compareSum : Cond) ∈ gT := gT_in (gT_1 (i := 228) rfl) rfl
theorem sta_Na_compareSum : (.static y_Na_compareSum : Cond) ∈ gT := gT_in (gT_1 (i := 229) rfl) rfl
theorem cod_Na_compareSum : (.code y_Na_compareSum b_Na_compareSum 11 (some .int) : Cond) ∈ gT := gT_in (gT_1 (i := 230) rfl) rfl
theorem ml_Fi_47 : (.methodLink R_Fi 47 y_Fi_isWithin : Cond) ∈ gT := gT_in (gT_1 (i := 231) rfl) rfl
theorem sta_Fi_isWithin : (.static y_Fi_isWithin : Cond) ∈ gT := gT_in (gT_1 (i := 232) rfl) rfl
theorem cod_Fi_isWithin : (.code y_Fi_isWithin b_Fi_isWithin 2 (some .boolean) : Cond) ∈ gT := gT_in (gT_1 (i := 233) rfl) rfl
theorem ml_Fi_51 : (.methodLink R_Fi 51 y_Fi_compareUp : Cond) ∈ gT := gT_in (gT_1 (i := 234) rfl) rfl
theorem pri_Fi_compareUp : (.privateMethod y_Fi_compareUp : Cond) ∈ tables_1 := gT_1 (i := 235) rfl
theorem im_Fi_compareUp : (.instanceMethod y_Fi_compareUp : Cond) ∈ gT := gT_in (gT_1 (i := 236) rfl) rfl
theorem cod_Fi_compareUp : (.code y_Fi_compareUp b_Fi_compareUp 1 (some .int) : Cond) ∈ gT := gT_in (gT_1 (i := 237) rfl) rfl
theorem ml_Fi_54 : (.methodLink R_Fi 54 y_Fi_isUpNearer : Cond) ∈ gT := gT_in (gT_1 (i := 238) rfl) rfl
theorem pri_Fi_isUpNearer : (.privateMethod y_Fi_isUpNearer : Cond) ∈ tables_1 := gT_1 (i := 239) rfl
theorem im_Fi_isUpNearer : (.instanceMethod y_Fi_isUpNearer : Cond) ∈ gT := gT_in (gT_2 (i := 0) rfl) rfl
theorem cod_Fi_isUpNearer : (.code y_Fi_isUpNearer b_Fi_isUpNearer 4 (some .boolean) : Cond) ∈ gT := gT_in (gT_2 (i := 1) rfl) rfl
theorem ml_Fi_58 : (.methodLink R_Fi 58 y_De_become : Cond) ∈ gT := gT_in (gT_2 (i := 2) rfl) rfl
theorem im_De_become : (.instanceMethod y_De_become : Cond) ∈ gT := gT_in (gT_2 (i := 3) rfl) rfl
theorem sel_De_become : (.selects R_De y_De_become y_De_become : Cond) ∈ gT := gT_in (gT_2 (i := 4) rfl) rfl
theorem cod_De_become : (.code y_De_become b_De_become 5 none : Cond) ∈ gT := gT_in (gT_2 (i := 5) rfl) rfl
theorem kl_De_24 : (.constantLong R_De 24 (10) : Cond) ∈ gT := gT_in (gT_2 (i := 6) rfl) rfl
theorem ml_De_26 : (.methodLink R_De 26 y_De_spread : Cond) ∈ gT := gT_in (gT_2 (i := 7) rfl) rfl
theorem pri_De_spread : (.privateMethod y_De_spread : Cond) ∈ tables_1 := gT_2 (i := 8) rfl
theorem im_De_spread : (.instanceMethod y_De_spread : Cond) ∈ gT := gT_in (gT_2 (i := 9) rfl) rfl
theorem cod_De_spread : (.code y_De_spread b_De_spread 3 none : Cond) ∈ gT := gT_in (gT_2 (i := 10) rfl) rfl
theorem kl_De_29 : (.constantLong R_De 29 (48) : Cond) ∈ gT := gT_in (gT_2 (i := 11) rfl) rfl
theorem ml_Bt_119 : (.methodLink R_Bt 119 y_De_clear : Cond) ∈ gT := gT_in (gT_2 (i := 12) rfl) rfl
theorem im_De_clear : (.instanceMethod y_De_clear : Cond) ∈ gT := gT_in (gT_2 (i := 13) rfl) rfl
theorem sel_De_clear : (.selects R_De y_De_clear y_De_clear : Cond) ∈ gT := gT_in (gT_2 (i := 14) rfl) rfl
theorem cod_De_clear : (.code y_De_clear b_De_clear 1 none : Cond) ∈ gT := gT_in (gT_2 (i := 15) rfl) rfl
theorem ml_Bt_122 : (.methodLink R_Bt 122 y_Te_clear : Cond) ∈ gT := gT_in (gT_2 (i := 16) rfl) rfl
theorem im_Te_clear : (.instanceMethod y_Te_clear : Cond) ∈ gT := gT_in (gT_2 (i := 17) rfl) rfl
theorem sel_Te_clear : (.selects R_Te y_Te_clear y_Te_clear : Cond) ∈ gT := gT_in (gT_2 (i := 18) rfl) rfl
theorem cod_Te_clear : (.code y_Te_clear b_Te_clear 1 none : Cond) ∈ gT := gT_in (gT_2 (i := 19) rfl) rfl
theorem ml_Bt_123 : (.methodLink R_Bt 123 y_Te_put : Cond) ∈ gT := gT_in (gT_2 (i := 20) rfl) rfl
theorem im_Te_put : (.instanceMethod y_Te_put : Cond) ∈ gT := gT_in (gT_2 (i := 21) rfl) rfl
theorem sel_Te_put : (.selects R_Te y_Te_put y_Te_put : Cond) ∈ gT := gT_in (gT_2 (i := 22) rfl) rfl
theorem cod_Te_put : (.code y_Te_put b_Te_put 2 none : Cond) ∈ gT := gT_in (gT_2 (i := 23) rfl) rfl
theorem ml_Bt_75 : (.methodLink R_Bt 75 y_Bt_putDecimal : Cond) ∈ gT := gT_in (gT_2 (i := 24) rfl) rfl
theorem pri_Bt_putDecimal : (.privateMethod y_Bt_putDecimal : Cond) ∈ tables_1 := gT_2 (i := 25) rfl
theorem im_Bt_putDecimal : (.instanceMethod y_Bt_putDecimal : Cond) ∈ gT := gT_in (gT_2 (i := 26) rfl) rfl
theorem cod_Bt_putDecimal : (.code y_Bt_putDecimal b_Bt_putDecimal 2 none : Cond) ∈ gT := gT_in (gT_2 (i := 27) rfl) rfl
theorem ml_Bt_137 : (.methodLink R_Bt 137 y_De_firstPlace : Cond) ∈ gT := gT_in (gT_2 (i := 28) rfl) rfl
theorem im_De_firstPlace : (.instanceMethod y_De_firstPlace : Cond) ∈ gT := gT_in (gT_2 (i := 29) rfl) rfl
theorem sel_De_firstPlace : (.selects R_De y_De_firstPlace y_De_firstPlace : Cond) ∈ gT := gT_in (gT_2 (i := 30) rfl) rfl
theorem cod_De_firstPlace : (.code y_De_firstPlace b_De_firstPlace 1 (some .int) : Cond) ∈ gT := gT_in (gT_2 (i := 31) rfl) rfl
theorem ml_Bt_141 : (.methodLink R_Bt 141 y_Ma_max : Cond) ∈ gT := gT_in (gT_2 (i := 32) rfl) rfl
theorem ml_Bt_147 : (.methodLink R_Bt 147 y_Bt_putPlaces : Cond) ∈ gT := gT_in (gT_2 (i := 33) rfl) rfl
theorem pri_Bt_putPlaces : (.privateMethod y_Bt_putPlaces : Cond) ∈ tables_1 := gT_2 (i := 34) rfl
theorem im_Bt_putPlaces : (.instanceMethod y_Bt_putPlaces : Cond) ∈ gT := gT_in (gT_2 (i := 35) rfl) rfl
theorem cod_Bt_putPlaces : (.code y_Bt_putPlaces b_Bt_putPlaces 4 none : Cond) ∈ gT := gT_in (gT_2 (i := 36) rfl) rfl
theorem ml_Bt_158 : (.methodLink R_Bt 158 y_De_digitAt : Cond) ∈ gT := gT_in (gT_2 (i := 37) rfl) rfl
theorem im_De_digitAt : (.instanceMethod y_De_digitAt : Cond) ∈ gT := gT_in (gT_2 (i := 38) rfl) rfl
theorem sel_De_digitAt : (.selects R_De y_De_digitAt y_De_digitAt : Cond) ∈ gT := gT_in (gT_2 (i := 39) rfl) rfl
theorem cod_De_digitAt : (.code y_De_digitAt b_De_digitAt 3 (some .char) : Cond) ∈ gT := gT_in (gT_2 (i := 40) rfl) rfl
theorem ml_Bt_151 : (.methodLink R_Bt 151 y_Ma_min : Cond) ∈ gT := gT_in (gT_2 (i := 41) rfl) rfl
theorem ml_Bt_154 : (.methodLink R_Bt 154 y_Te_putWhole : Cond) ∈ gT := gT_in (gT_2 (i := 42) rfl) rfl
theorem im_Te_putWhole : (.instanceMethod y_Te_putWhole : Cond) ∈ gT := gT_in (gT_2 (i := 43) rfl) rfl
theorem sel_Te_putWhole : (.selects R_Te y_Te_putWhole y_Te_putWhole : Cond) ∈ gT := gT_in (gT_2 (i := 44) rfl) rfl
theorem cod_Te_putWhole : (.code y_Te_putWhole b_Te_putWhole 4 none : Cond) ∈ gT := gT_in (gT_2 (i := 45) rfl) rfl
theorem ml_Te_27 : (.methodLink R_Te 27 y_Te_put : Cond) ∈ gT := gT_in (gT_2 (i := 46) rfl) rfl
theorem ml_Te_31 : (.methodLink R_Te 31 y_Ma_abs : Cond) ∈ gT := gT_in (gT_2 (i := 47) rfl) rfl
theorem sta_Ma_abs : (.static y_Ma_abs : Cond) ∈ gT := gT_in (gT_2 (i := 48) rfl) rfl
theorem cod_Ma_abs : (.code y_Ma_abs b_Ma_abs 1 (some .int) : Cond) ∈ gT := gT_in (gT_2 (i := 49) rfl) rfl
theorem sr_Bt_78 : (.stringRef R_Bt 78 "0.0" : Cond) ∈ tables_1 := gT_2 (i := 50) rfl
theorem ml_Bt_80 : (.methodLink R_Bt 80 y_Bt_putNamed : Cond) ∈ gT := gT_in (gT_2 (i := 51) rfl) rfl
theorem pri_Bt_putNamed : (.privateMethod y_Bt_putNamed : Cond) ∈ tables_1 := gT_2 (i := 52) rfl
theorem im_Bt_putNamed : (.instanceMethod y_Bt_putNamed : Cond) ∈ gT := gT_in (gT_2 (i := 53) rfl) rfl
theorem cod_Bt_putNamed : (.code y_Bt_putNamed b_Bt_putNamed 2 none : Cond) ∈ gT := gT_in (gT_2 (i := 54) rfl) rfl
theorem sr_Bt_130 : (.stringRef R_Bt 130 "NaN" : Cond) ∈ tables_1 := gT_2 (i := 55) rfl
theorem ml_Bt_132 : (.methodLink R_Bt 132 y_Te_putAll : Cond) ∈ gT := gT_in (gT_2 (i := 56) rfl) rfl
theorem im_Te_putAll : (.instanceMethod y_Te_putAll : Cond) ∈ gT := gT_in (gT_2 (i := 57) rfl) rfl
theorem sel_Te_putAll : (.selects R_Te y_Te_putAll y_Te_putAll : Cond) ∈ gT := gT_in (gT_2 (i := 58) rfl) rfl
theorem cod_Te_putAll : (.code y_Te_putAll b_Te_putAll 3 none : Cond) ∈ gT := gT_in (gT_2 (i := 59) rfl) rfl
theorem ml_Te_17 : (.methodLink R_Te 17 y_St_length : Cond) ∈ gT := gT_in (gT_2 (i := 60) rfl) rfl
theorem im_St_length : (.instanceMethod y_St_length : Cond) ∈ gT := gT_in (gT_2 (i := 61) rfl) rfl
theorem sel_St_length : (.selects R_St y_St_length y_St_length : Cond) ∈ gT := gT_in (gT_2 (i := 62) rfl) rfl
theorem cod_St_length : (.code y_St_length b_St_length 1 (some .int) : Cond) ∈ gT := gT_in (gT_2 (i := 63) rfl) rfl
theorem ml_St_335 : (.methodLink R_St 335 y_St_coder : Cond) ∈ gT := gT_in (gT_2 (i := 64) rfl) rfl
theorem im_St_coder : (.instanceMethod y_St_coder : Cond) ∈ gT := gT_in (gT_2 (i := 65) rfl) rfl
theorem sel_St_coder : (.selects R_St y_St_coder y_St_coder : Cond) ∈ gT := gT_in (gT_2 (i := 66) rfl) rfl
theorem cod_St_coder : (.code y_St_coder b_St_coder 1 (some .byte) : Cond) ∈ gT := gT_in (gT_2 (i := 67) rfl) rfl
theorem fl_St_38 : (.fieldLink R_St 38 R_St "COMPACT_STRINGS" "Z" : Cond) ∈ gT := gT_in (gT_2 (i := 68) rfl) rfl
theorem ls_St_COMPACT_STRINGS : (.laysStatic R_St "COMPACT_STRINGS" "Z" : Cond) ∈ tables_1 := gT_2 (i := 69) rfl
theorem ml_Te_23 : (.methodLink R_Te 23 y_St_charAt : Cond) ∈ gT := gT_in (gT_2 (i := 70) rfl) rfl
theorem im_St_charAt : (.instanceMethod y_St_charAt : Cond) ∈ gT := gT_in (gT_2 (i := 71) rfl) rfl
theorem sel_St_charAt : (.selects R_St y_St_charAt y_St_charAt : Cond) ∈ gT := gT_in (gT_2 (i := 72) rfl) rfl
theorem cod_St_charAt : (.code y_St_charAt b_St_charAt 2 (some .char) : Cond) ∈ gT := gT_in (gT_2 (i := 73) rfl) rfl
theorem ml_St_492 : (.methodLink R_St 492 y_St_isLatin1 : Cond) ∈ gT := gT_in (gT_2 (i := 74) rfl) rfl
theorem im_St_isLatin1 : (.instanceMethod y_St_isLatin1 : Cond) ∈ gT := gT_in (gT_2 (i := 75) rfl) rfl
theorem sel_St_isLatin1 : (.selects R_St y_St_isLatin1 y_St_isLatin1 : Cond) ∈ gT := gT_in (gT_2 (i := 76) rfl) rfl
theorem cod_St_isLatin1 : (.code y_St_isLatin1 b_St_isLatin1 1 (some .boolean) : Cond) ∈ gT := gT_in (gT_2 (i := 77) rfl) rfl
theorem ml_St_495 : (.methodLink R_St 495 y_SL_charAt : Cond) ∈ gT := gT_in (gT_2 (i := 78) rfl) rfl
theorem sta_SL_charAt : (.static y_SL_charAt : Cond) ∈ gT := gT_in (gT_2 (i := 79) rfl) rfl
theorem cod_SL_charAt : (.code y_SL_charAt b_SL_charAt 2 (some .char) : Cond) ∈ gT := gT_in (gT_2 (i := 80) rfl) rfl
theorem ml_SL_9 : (.methodLink R_SL 9 y_St_checkIndex : Cond) ∈ gT := gT_in (gT_2 (i := 81) rfl) rfl
theorem sta_St_checkIndex : (.static y_St_checkIndex : Cond) ∈ gT := gT_in (gT_2 (i := 82) rfl) rfl
theorem cod_St_checkIndex : (.code y_St_checkIndex b_St_checkIndex 2 none : Cond) ∈ gT := gT_in (gT_2 (i := 83) rfl) rfl
theorem fl_St_1053 : (.fieldLink R_St 1053 R_Pr "SIOOBE_FORMATTER" "Ljava/util/function/BiFunction;" : Cond) ∈ gT := gT_in (gT_2 (i := 84) rfl) rfl
theorem ls_Pr_SIOOBE_FORMATTER : (.laysStatic R_Pr "SIOOBE_FORMATTER" "Ljava/util/function/BiFunction;" : Cond) ∈ tables_1 := gT_2 (i := 85) rfl
theorem ml_St_1059 : (.methodLink R_St 1059 y_Pr_checkIndex : Cond) ∈ gT := gT_in (gT_2 (i := 86) rfl) rfl
theorem sta_Pr_checkIndex : (.static y_Pr_checkIndex : Cond) ∈ gT := gT_in (gT_2 (i := 87) rfl) rfl
theorem cod_Pr_checkIndex : (.code y_Pr_checkIndex b_Pr_checkIndex 3 (some .int) : Cond) ∈ gT := gT_in (gT_2 (i := 88) rfl) rfl
theorem ml_St_498 : (.methodLink R_St 498 y_SU_charAt : Cond) ∈ gT := gT_in (gT_2 (i := 89) rfl) rfl
theorem sta_SU_charAt : (.static y_SU_charAt : Cond) ∈ gT := gT_in (gT_2 (i := 90) rfl) rfl
theorem cod_SU_charAt : (.code y_SU_charAt b_SU_charAt 2 (some .char) : Cond) ∈ gT := gT_in (gT_2 (i := 91) rfl) rfl
theorem ml_SU_67 : (.methodLink R_SU 67 y_SU_checkIndex : Cond) ∈ gT := gT_in (gT_2 (i := 92) rfl) rfl
theorem sta_SU_checkIndex : (.static y_SU_checkIndex : Cond) ∈ gT := gT_in (gT_2 (i := 93) rfl) rfl
theorem cod_SU_checkIndex : (.code y_SU_checkIndex b_SU_checkIndex 2 none : Cond) ∈ gT := gT_in (gT_2 (i := 94) rfl) rfl
theorem ml_SU_48 : (.methodLink R_SU 48 y_SU_length : Cond) ∈ gT := gT_in (gT_2 (i := 95) rfl) rfl
theorem sta_SU_length : (.static y_SU_length : Cond) ∈ gT := gT_in (gT_2 (i := 96) rfl) rfl
theorem cod_SU_length : (.code y_SU_length b_SU_length 1 (some .int) : Cond) ∈ gT := gT_in (gT_2 (i := 97) rfl) rfl
theorem ml_SU_414 : (.methodLink R_SU 414 y_St_checkIndex : Cond) ∈ gT := gT_in (gT_2 (i := 98) rfl) rfl
theorem ml_SU_71 : (.methodLink R_SU 71 y_SU_getChar : Cond) ∈ gT := gT_in (gT_2 (i := 99) rfl) rfl
theorem sta_SU_getChar : (.static y_SU_getChar : Cond) ∈ gT := gT_in (gT_2 (i := 100) rfl) rfl
theorem cod_SU_getChar : (.code y_SU_getChar b_SU_getChar 2 (some .char) : Cond) ∈ gT := gT_in (gT_2 (i := 101) rfl) rfl
theorem fl_SU_44 : (.fieldLink R_SU 44 R_SU "$assertionsDisabled" "Z" : Cond) ∈ gT := gT_in (gT_2 (i := 102) rfl) rfl
theorem ls_SU_assertionsDisabled : (.laysStatic R_SU "$assertionsDisabled" "Z" : Cond) ∈ tables_1 := gT_2 (i := 103) rfl
theorem fl_SU_59 : (.fieldLink R_SU 59 R_SU "HI_BYTE_SHIFT" "I" : Cond) ∈ gT := gT_in (gT_2 (i := 104) rfl) rfl
theorem ls_SU_HI_BYTE_SHIFT : (.laysStatic R_SU "HI_BYTE_SHIFT" "I" : Cond) ∈ tables_1 := gT_2 (i := 105) rfl
theorem fl_SU_63 : (.fieldLink R_SU 63 R_SU "LO_BYTE_SHIFT" "I" : Cond) ∈ gT := gT_in (gT_2 (i := 106) rfl) rfl
theorem ls_SU_LO_BYTE_SHIFT : (.laysStatic R_SU "LO_BYTE_SHIFT" "I" : Cond) ∈ tables_1 := gT_2 (i := 107) rfl
theorem sr_Bt_135 : (.stringRef R_Bt 135 "Infinity" : Cond) ∈ tables_1 := gT_2 (i := 108) rfl
theorem ac_byte : (.arrayClass .byte : Cond) ∈ gT := gT_in (gT_2 (i := 109) rfl) rfl
theorem ml_Lw_25 : (.methodLink R_Lw 25 y_Bt_narrow : Cond) ∈ gT := gT_in (gT_2 (i := 110) rfl) rfl
theorem im_Bt_narrow : (.instanceMethod y_Bt_narrow : Cond) ∈ gT := gT_in (gT_2 (i := 111) rfl) rfl
theorem sel_Bt_narrow : (.selects R_Bt y_Bt_narrow y_Bt_narrow : Cond) ∈ gT := gT_in (gT_2 (i := 112) rfl) rfl
theorem cod_Bt_narrow : (.code y_Bt_narrow b_Bt_narrow 2 (some .int) : Cond) ∈ gT := gT_in (gT_2 (i := 113) rfl) rfl
theorem fl_Bt_54 : (.fieldLink R_Bt 54 R_La "NARROW" "LBinaryText$Layout;" : Cond) ∈ gT := gT_in (gT_2 (i := 114) rfl) rfl
theorem ls_La_NARROW : (.laysStatic R_La "NARROW" "LBinaryText$Layout;" : Cond) ∈ tables_1 := gT_2 (i := 115) rfl
theorem ml_Lw_30 : (.methodLink R_Lw 30 y_Bt_wideHex : Cond) ∈ gT := gT_in (gT_2 (i := 116) rfl) rfl
theorem im_Bt_wideHex : (.instanceMethod y_Bt_wideHex : Cond) ∈ gT := gT_in (gT_2 (i := 117) rfl) rfl
theorem sel_Bt_wideHex : (.selects R_Bt y_Bt_wideHex y_Bt_wideHex : Cond) ∈ gT := gT_in (gT_2 (i := 118) rfl) rfl
theorem cod_Bt_wideHex : (.code y_Bt_wideHex b_Bt_wideHex 3 (some .int) : Cond) ∈ gT := gT_in (gT_2 (i := 119) rfl) rfl
theorem ml_Bt_57 : (.methodLink R_Bt 57 y_Bt_printHex : Cond) ∈ gT := gT_in (gT_2 (i := 120) rfl) rfl
theorem pri_Bt_printHex : (.privateMethod y_Bt_printHex : Cond) ∈ tables_1 := gT_2 (i := 121) rfl
theorem im_Bt_printHex : (.instanceMethod y_Bt_printHex : Cond) ∈ gT := gT_in (gT_2 (i := 122) rfl) rfl
theorem cod_Bt_printHex : (.code y_Bt_printHex b_Bt_printHex 4 (some .int) : Cond) ∈ gT := gT_in (gT_2 (i := 123) rfl) rfl
theorem ml_Bt_87 : (.methodLink R_Bt 87 y_Bt_putHex : Cond) ∈ gT := gT_in (gT_2 (i := 124) rfl) rfl
theorem pri_Bt_putHex : (.privateMethod y_Bt_putHex : Cond) ∈ tables_1 := gT_2 (i := 125) rfl
theorem im_Bt_putHex : (.instanceMethod y_Bt_putHex : Cond) ∈ gT := gT_in (gT_2 (i := 126) rfl) rfl
theorem cod_Bt_putHex : (.code y_Bt_putHex b_Bt_putHex 5 none : Cond) ∈ gT := gT_in (gT_2 (i := 127) rfl) rfl
theorem sr_Bt_162 : (.stringRef R_Bt 162 "0x0." : Cond) ∈ tables_1 := gT_2 (i := 128) rfl
theorem sr_Bt_164 : (.stringRef R_Bt 164 "0x1." : Cond) ∈ tables_1 := gT_2 (i := 129) rfl
theorem ml_Bt_166 : (.methodLink R_Bt 166 y_La_hexFractionOf : Cond) ∈ gT := gT_in (gT_2 (i := 130) rfl) rfl
theorem im_La_hexFractionOf : (.instanceMethod y_La_hexFractionOf : Cond) ∈ gT := gT_in (gT_2 (i := 131) rfl) rfl
theorem sel_La_hexFractionOf : (.selects R_La y_La_hexFractionOf y_La_hexFractionOf : Cond) ∈ gT := gT_in (gT_2 (i := 132) rfl) rfl
theorem cod_La_hexFractionOf : (.code y_La_hexFractionOf b_La_hexFractionOf 3 (some .long) : Cond) ∈ gT := gT_in (gT_2 (i := 133) rfl) rfl
theorem ml_La_46 : (.methodLink R_La 46 y_La_fractionOf : Cond) ∈ gT := gT_in (gT_2 (i := 134) rfl) rfl
theorem ml_Bt_172 : (.methodLink R_Bt 172 y_Te_putHexPlaces : Cond) ∈ gT := gT_in (gT_2 (i := 135) rfl) rfl
theorem im_Te_putHexPlaces : (.instanceMethod y_Te_putHexPlaces : Cond) ∈ gT := gT_in (gT_2 (i := 136) rfl) rfl
theorem sel_Te_putHexPlaces : (.selects R_Te y_Te_putHexPlaces y_Te_putHexPlaces : Cond) ∈ gT := gT_in (gT_2 (i := 137) rfl) rfl
theorem cod_Te_putHexPlaces : (.code y_Te_putHexPlaces b_Te_putHexPlaces 6 none : Cond) ∈ gT := gT_in (gT_2 (i := 138) rfl) rfl
theorem kl_Te_37 : (.constantLong R_Te 37 (15) : Cond) ∈ gT := gT_in (gT_2 (i := 139) rfl) rfl
theorem ml_Te_39 : (.methodLink R_Te 39 y_Te_hexDigit : Cond) ∈ gT := gT_in (gT_2 (i := 140) rfl) rfl
theorem sta_Te_hexDigit : (.static y_Te_hexDigit : Cond) ∈ gT := gT_in (gT_2 (i := 141) rfl) rfl
theorem cod_Te_hexDigit : (.code y_Te_hexDigit b_Te_hexDigit 1 (some .char) : Cond) ∈ gT := gT_in (gT_2 (i := 142) rfl) rfl
theorem ml_Bt_176 : (.methodLink R_Bt 176 y_La_binaryExponentOf : Cond) ∈ gT := gT_in (gT_2 (i := 143) rfl) rfl
theorem sr_Bt_90 : (.stringRef R_Bt 90 "0x0.0p0" : Cond) ∈ tables_1 := gT_2 (i := 144) rfl
theorem ml_Lw_34 : (.methodLink R_Lw 34 y_Bt_narrowHex : Cond) ∈ gT := gT_in (gT_2 (i := 145) rfl) rfl
theorem im_Bt_narrowHex : (.instanceMethod y_Bt_narrowHex : Cond) ∈ gT := gT_in (gT_2 (i := 146) rfl) rfl
theorem sel_Bt_narrowHex : (.selects R_Bt y_Bt_narrowHex y_Bt_narrowHex : Cond) ∈ gT := gT_in (gT_2 (i := 147) rfl) rfl
theorem cod_Bt_narrowHex : (.code y_Bt_narrowHex b_Bt_narrowHex 2 (some .int) : Cond) ∈ gT := gT_in (gT_2 (i := 148) rfl) rfl
theorem ml_Lw_38 : (.methodLink R_Lw 38 y_Bt_characterAt : Cond) ∈ gT := gT_in (gT_2 (i := 149) rfl) rfl
theorem im_Bt_characterAt : (.instanceMethod y_Bt_characterAt : Cond) ∈ gT := gT_in (gT_2 (i := 150) rfl) rfl
theorem sel_Bt_characterAt : (.selects R_Bt y_Bt_characterAt y_Bt_characterAt : Cond) ∈ gT := gT_in (gT_2 (i := 151) rfl) rfl
theorem cod_Bt_characterAt : (.code y_Bt_characterAt b_Bt_characterAt 2 (some .int) : Cond) ∈ gT := gT_in (gT_2 (i := 152) rfl) rfl
theorem ml_Bt_60 : (.methodLink R_Bt 60 y_Te_codeAt : Cond) ∈ gT := gT_in (gT_2 (i := 153) rfl) rfl
theorem im_Te_codeAt : (.instanceMethod y_Te_codeAt : Cond) ∈ gT := gT_in (gT_2 (i := 154) rfl) rfl
theorem sel_Te_codeAt : (.selects R_Te y_Te_codeAt y_Te_codeAt : Cond) ∈ gT := gT_in (gT_2 (i := 155) rfl) rfl
theorem cod_Te_codeAt : (.code y_Te_codeAt b_Te_codeAt 2 (some .int) : Cond) ∈ gT := gT_in (gT_2 (i := 156) rfl) rfl
theorem ml_Lw_42 : (.methodLink R_Lw 42 y_Bt_kind : Cond) ∈ gT := gT_in (gT_2 (i := 157) rfl) rfl
theorem im_Bt_kind : (.instanceMethod y_Bt_kind : Cond) ∈ gT := gT_in (gT_2 (i := 158) rfl) rfl
theorem sel_Bt_kind : (.selects R_Bt y_Bt_kind y_Bt_kind : Cond) ∈ gT := gT_in (gT_2 (i := 159) rfl) rfl
theorem cod_Bt_kind : (.code y_Bt_kind b_Bt_kind 1 (some .int) : Cond) ∈ gT := gT_in (gT_2 (i := 160) rfl) rfl
theorem ml_Lw_47 : (.methodLink R_Lw 47 y_Bt_minus : Cond) ∈ gT := gT_in (gT_2 (i := 161) rfl) rfl
theorem im_Bt_minus : (.instanceMethod y_Bt_minus : Cond) ∈ gT := gT_in (gT_2 (i := 162) rfl) rfl
theorem sel_Bt_minus : (.selects R_Bt y_Bt_minus y_Bt_minus : Cond) ∈ gT := gT_in (gT_2 (i := 163) rfl) rfl
theorem cod_Bt_minus : (.code y_Bt_minus b_Bt_minus 1 (some .boolean) : Cond) ∈ gT := gT_in (gT_2 (i := 164) rfl) rfl
theorem ml_Lw_52 : (.methodLink R_Lw 52 y_Bt_digits : Cond) ∈ gT := gT_in (gT_2 (i := 165) rfl) rfl
theorem im_Bt_digits : (.instanceMethod y_Bt_digits : Cond) ∈ gT := gT_in (gT_2 (i := 166) rfl) rfl
theorem sel_Bt_digits : (.selects R_Bt y_Bt_digits y_Bt_digits : Cond) ∈ gT := gT_in (gT_2 (i := 167) rfl) rfl
theorem cod_Bt_digits : (.code y_Bt_digits b_Bt_digits 1 (some .long) : Cond) ∈ gT := gT_in (gT_2 (i := 168) rfl) rfl
theorem ml_Lw_57 : (.methodLink R_Lw 57 y_Bt_tens : Cond) ∈ gT := gT_in (gT_2 (i := 169) rfl) rfl
theorem im_Bt_tens : (.instanceMethod y_Bt_tens : Cond) ∈ gT := gT_in (gT_2 (i := 170) rfl) rfl
theorem sel_Bt_tens : (.selects R_Bt y_Bt_tens y_Bt_tens : Cond) ∈ gT := gT_in (gT_2 (i := 171) rfl) rfl
theorem cod_Bt_tens : (.code y_Bt_tens b_Bt_tens 1 (some .int) : Cond) ∈ gT := gT_in (gT_2 (i := 172) rfl) rfl
theorem cl_Lw_10 : (.classLink R_Lw 10 R_Mo : Cond) ∈ gT := gT_in (gT_2 (i := 173) rfl) rfl
theorem nst_Mo : (.instantiable R_Mo 19 : Cond) ∈ gT := gT_in (gT_2 (i := 174) rfl) rfl
theorem ml_Lw_12 : (.methodLink R_Lw 12 y_Mo_init : Cond) ∈ gT := gT_in (gT_2 (i := 175) rfl) rfl
theorem im_Mo_init : (.instanceMethod y_Mo_init : Cond) ∈ gT := gT_in (gT_2 (i := 176) rfl) rfl
theorem cod_Mo_init : (.code y_Mo_init b_Mo_init 1 none : Cond) ∈ gT := gT_in (gT_2 (i := 177) rfl) rfl
theorem ml_Mo_1 : (.methodLink R_Mo 1 y_Ob_init : Cond) ∈ gT := gT_in (gT_2 (i := 178) rfl) rfl
theorem fl_Mo_48 : (.fieldLink R_Mo 48 R_Mo "thrown" "I" : Cond) ∈ gT := gT_in (gT_2 (i := 179) rfl) rfl
theorem fl_Mo_7 : (.fieldLink R_Mo 7 R_Mo "low" "I" : Cond) ∈ gT := gT_in (gT_2 (i := 180) rfl) rfl
theorem fl_Mo_13 : (.fieldLink R_Mo 13 R_Mo "high" "I" : Cond) ∈ gT := gT_in (gT_2 (i := 181) rfl) rfl
theorem fl_Mo_67 : (.fieldLink R_Mo 67 R_Mo "printed" "Z" : Cond) ∈ gT := gT_in (gT_2 (i := 182) rfl) rfl
theorem fl_Mo_51 : (.fieldLink R_Mo 51 R_Mo "isWide" "Z" : Cond) ∈ gT := gT_in (gT_2 (i := 183) rfl) rfl
theorem fl_Mo_55 : (.fieldLink R_Mo 55 R_Mo "latest" "J" : Cond) ∈ gT := gT_in (gT_2 (i := 184) rfl) rfl
theorem fl_Mo_140 : (.fieldLink R_Mo 140 R_Mo "length" "I" : Cond) ∈ gT := gT_in (gT_2 (i := 185) rfl) rfl
theorem fl_Mo_16 : (.fieldLink R_Mo 16 R_Mo "text" "[I" : Cond) ∈ gT := gT_in (gT_2 (i := 186) rfl) rfl
theorem fl_Mo_20 : (.fieldLink R_Mo 20 R_Mo "unit" "[J" : Cond) ∈ gT := gT_in (gT_2 (i := 187) rfl) rfl
theorem fl_Mo_24 : (.fieldLink R_Mo 24 R_Mo "row" "[J" : Cond) ∈ gT := gT_in (gT_2 (i := 188) rfl) rfl
theorem fl_Mo_27 : (.fieldLink R_Mo 27 R_Mo "number" "[I" : Cond) ∈ gT := gT_in (gT_2 (i := 189) rfl) rfl
theorem fl_Mo_30 : (.fieldLink R_Mo 30 R_Mo "below" "[I" : Cond) ∈ gT := gT_in (gT_2 (i := 190) rfl) rfl
theorem fl_Mo_33 : (.fieldLink R_Mo 33 R_Mo "above" "[I" : Cond) ∈ gT := gT_in (gT_2 (i := 191) rfl) rfl
theorem fl_Mo_36 : (.fieldLink R_Mo 36 R_Mo "tried" "[I" : Cond) ∈ gT := gT_in (gT_2 (i := 192) rfl) rfl
theorem fl_Mo_39 : (.fieldLink R_Mo 39 R_Mo "best" "[I" : Cond) ∈ gT := gT_in (gT_2 (i := 193) rfl) rfl
theorem fl_Mo_42 : (.fieldLink R_Mo 42 R_Mo "far" "[I" : Cond) ∈ gT := gT_in (gT_2 (i := 194) rfl) rfl
theorem fl_Mo_45 : (.fieldLink R_Mo 45 R_Mo "bestFar" "[I" : Cond) ∈ gT := gT_in (gT_2 (i := 195) rfl) rfl
theorem fl_Mo_96 : (.fieldLink R_Mo 96 R_Mo "behind" "I" : Cond) ∈ gT := gT_in (gT_2 (i := 196) rfl) rfl
theorem fl_Mo_99 : (.fieldLink R_Mo 99 R_Mo "isEven" "Z" : Cond) ∈ gT := gT_in (gT_2 (i := 197) rfl) rfl
theorem ac_int : (.arrayClass .int : Cond) ∈ gT := gT_in (gT_2 (i := 237) rfl) rfl
theorem ml_Lw_17 : (.methodLink R_Lw 17 y_Mo_bounds : Cond) ∈ gT := gT_in (gT_2 (i := 238) rfl) rfl
theorem im_Mo_bounds : (.instanceMethod y_Mo_bounds : Cond) ∈ gT := gT_in (gT_2 (i := 239) rfl) rfl
theorem sel_Mo_bounds : (.selects R_Mo y_Mo_bounds y_Mo_bounds : Cond) ∈ gT := gT_in (gT_3 (i := 0) rfl) rfl
theorem cod_Mo_bounds : (.code y_Mo_bounds b_Mo_bounds 3 (some .boolean) : Cond) ∈ gT := gT_in (gT_3 (i := 1) rfl) rfl
theorem ml_Lw_51 : (.methodLink R_Lw 51 y_Mo_minus : Cond) ∈ gT := gT_in (gT_3 (i := 2) rfl) rfl
theorem im_Mo_minus : (.instanceMethod y_Mo_minus : Cond) ∈ gT := gT_in (gT_3 (i := 3) rfl) rfl
theorem sel_Mo_minus : (.selects R_Mo y_Mo_minus y_Mo_minus : Cond) ∈ gT := gT_in (gT_3 (i := 4) rfl) rfl
theorem cod_Mo_minus : (.code y_Mo_minus b_Mo_minus 1 (some .boolean) : Cond) ∈ gT := gT_in (gT_3 (i := 5) rfl) rfl
theorem ml_Lw_46 : (.methodLink R_Lw 46 y_Mo_kind : Cond) ∈ gT := gT_in (gT_3 (i := 6) rfl) rfl
theorem im_Mo_kind : (.instanceMethod y_Mo_kind : Cond) ∈ gT := gT_in (gT_3 (i := 7) rfl) rfl
theorem sel_Mo_kind : (.selects R_Mo y_Mo_kind y_Mo_kind : Cond) ∈ gT := gT_in (gT_3 (i := 8) rfl) rfl
theorem cod_Mo_kind : (.code y_Mo_kind b_Mo_kind 1 (some .int) : Cond) ∈ gT := gT_in (gT_3 (i := 9) rfl) rfl
theorem ml_Mo_70 : (.methodLink R_Mo 70 y_Mo_isLast : Cond) ∈ gT := gT_in (gT_3 (i := 10) rfl) rfl
theorem pri_Mo_isLast : (.privateMethod y_Mo_isLast : Cond) ∈ tables_1 := gT_3 (i := 11) rfl
theorem im_Mo_isLast : (.instanceMethod y_Mo_isLast : Cond) ∈ gT := gT_in (gT_3 (i := 12) rfl) rfl
theorem cod_Mo_isLast : (.code y_Mo_isLast b_Mo_isLast 1 (some .boolean) : Cond) ∈ gT := gT_in (gT_3 (i := 13) rfl) rfl
theorem ml_Mo_63 : (.methodLink R_Mo 63 y_Mo_exponent : Cond) ∈ gT := gT_in (gT_3 (i := 14) rfl) rfl
theorem pri_Mo_exponent : (.privateMethod y_Mo_exponent : Cond) ∈ tables_1 := gT_3 (i := 15) rfl
theorem im_Mo_exponent : (.instanceMethod y_Mo_exponent : Cond) ∈ gT := gT_in (gT_3 (i := 16) rfl) rfl
theorem cod_Mo_exponent : (.code y_Mo_exponent b_Mo_exponent 1 (some .int) : Cond) ∈ gT := gT_in (gT_3 (i := 17) rfl) rfl
theorem ml_Mo_74 : (.methodLink R_Mo 74 y_Mo_fraction : Cond) ∈ gT := gT_in (gT_3 (i := 18) rfl) rfl
theorem pri_Mo_fraction : (.privateMethod y_Mo_fraction : Cond) ∈ tables_1 := gT_3 (i := 19) rfl
theorem im_Mo_fraction : (.instanceMethod y_Mo_fraction : Cond) ∈ gT := gT_in (gT_3 (i := 20) rfl) rfl
theorem cod_Mo_fraction : (.code y_Mo_fraction b_Mo_fraction 1 (some .long) : Cond) ∈ gT := gT_in (gT_3 (i := 21) rfl) rfl
theorem kl_Mo_59 : (.constantLong R_Mo 59 (4503599627370495) : Cond) ∈ gT := gT_in (gT_3 (i := 22) rfl) rfl
theorem kl_Mo_61 : (.constantLong R_Mo 61 (8388607) : Cond) ∈ gT := gT_in (gT_3 (i := 23) rfl) rfl
theorem ml_Lw_56 : (.methodLink R_Lw 56 y_Mo_digits : Cond) ∈ gT := gT_in (gT_3 (i := 24) rfl) rfl
theorem im_Mo_digits : (.instanceMethod y_Mo_digits : Cond) ∈ gT := gT_in (gT_3 (i := 25) rfl) rfl
theorem sel_Mo_digits : (.selects R_Mo y_Mo_digits y_Mo_digits : Cond) ∈ gT := gT_in (gT_3 (i := 26) rfl) rfl
theorem cod_Mo_digits : (.code y_Mo_digits b_Mo_digits 4 (some .long) : Cond) ∈ gT := gT_in (gT_3 (i := 27) rfl) rfl
theorem ml_Mo_132 : (.methodLink R_Mo 132 y_Mo_kind : Cond) ∈ gT := gT_in (gT_3 (i := 28) rfl) rfl
theorem ml_Mo_135 : (.methodLink R_Mo 135 y_Mo_search : Cond) ∈ gT := gT_in (gT_3 (i := 29) rfl) rfl
theorem pri_Mo_search : (.privateMethod y_Mo_search : Cond) ∈ tables_1 := gT_3 (i := 30) rfl
theorem im_Mo_search : (.instanceMethod y_Mo_search : Cond) ∈ gT := gT_in (gT_3 (i := 31) rfl) rfl
theorem cod_Mo_search : (.code y_Mo_search b_Mo_search 9 none : Cond) ∈ gT := gT_in (gT_3 (i := 32) rfl) rfl
theorem ml_Mo_116 : (.methodLink R_Mo 116 y_Mo_spread : Cond) ∈ gT := gT_in (gT_3 (i := 33) rfl) rfl
theorem pri_Mo_spread : (.privateMethod y_Mo_spread : Cond) ∈ tables_1 := gT_3 (i := 34) rfl
theorem im_Mo_spread : (.instanceMethod y_Mo_spread : Cond) ∈ gT := gT_in (gT_3 (i := 35) rfl) rfl
theorem cod_Mo_spread : (.code y_Mo_spread b_Mo_spread 9 none : Cond) ∈ gT := gT_in (gT_3 (i := 36) rfl) rfl
theorem kl_Mo_80 : (.constantLong R_Mo 80 (4503599627370496) : Cond) ∈ gT := gT_in (gT_3 (i := 37) rfl) rfl
theorem kl_Mo_82 : (.constantLong R_Mo 82 (8388608) : Cond) ∈ gT := gT_in (gT_3 (i := 38) rfl) rfl
theorem kl_Mo_84 : (.constantLong R_Mo 84 (1000) : Cond) ∈ gT := gT_in (gT_3 (i := 39) rfl) rfl
theorem kl_Mo_86 : (.constantLong R_Mo 86 (2) : Cond) ∈ gT := gT_in (gT_3 (i := 40) rfl) rfl
theorem ml_Mo_88 : (.methodLink R_Mo 88 y_Mo_timesUnit : Cond) ∈ gT := gT_in (gT_3 (i := 41) rfl) rfl
theorem pri_Mo_timesUnit : (.privateMethod y_Mo_timesUnit : Cond) ∈ tables_1 := gT_3 (i := 42) rfl
theorem im_Mo_timesUnit : (.instanceMethod y_Mo_timesUnit : Cond) ∈ gT := gT_in (gT_3 (i := 43) rfl) rfl
theorem cod_Mo_timesUnit : (.code y_Mo_timesUnit b_Mo_timesUnit 8 none : Cond) ∈ gT := gT_in (gT_3 (i := 44) rfl) rfl
theorem kl_Mo_78 : (.constantLong R_Mo 78 (1000000000) : Cond) ∈ gT := gT_in (gT_3 (i := 45) rfl) rfl
theorem kl_Mo_92 : (.constantLong R_Mo 92 (244140625) : Cond) ∈ gT := gT_in (gT_3 (i := 46) rfl) rfl
theorem kl_Mo_94 : (.constantLong R_Mo 94 (5) : Cond) ∈ gT := gT_in (gT_3 (i := 47) rfl) rfl
theorem kl_Mo_102 : (.constantLong R_Mo 102 (4) : Cond) ∈ gT := gT_in (gT_3 (i := 48) rfl) rfl
theorem ml_Mo_104 : (.methodLink R_Mo 104 y_Mo_write : Cond) ∈ gT := gT_in (gT_3 (i := 49) rfl) rfl
theorem pri_Mo_write : (.privateMethod y_Mo_write : Cond) ∈ tables_1 := gT_3 (i := 50) rfl
theorem im_Mo_write : (.instanceMethod y_Mo_write : Cond) ∈ gT := gT_in (gT_3 (i := 51) rfl) rfl
theorem cod_Mo_write : (.code y_Mo_write b_Mo_write 13 none : Cond) ∈ gT := gT_in (gT_3 (i := 52) rfl) rfl
theorem ml_Mo_112 : (.methodLink R_Mo 112 y_Mo_top : Cond) ∈ gT := gT_in (gT_3 (i := 53) rfl) rfl
theorem sta_Mo_top : (.static y_Mo_top : Cond) ∈ gT := gT_in (gT_3 (i := 54) rfl) rfl
theorem cod_Mo_top : (.code y_Mo_top b_Mo_top 2 (some .int) : Cond) ∈ gT := gT_in (gT_3 (i := 55) rfl) rfl
theorem ml_Mo_119 : (.methodLink R_Mo 119 y_Mo_pick : Cond) ∈ gT := gT_in (gT_3 (i := 56) rfl) rfl
theorem pri_Mo_pick : (.privateMethod y_Mo_pick : Cond) ∈ tables_1 := gT_3 (i := 57) rfl
theorem im_Mo_pick : (.instanceMethod y_Mo_pick : Cond) ∈ gT := gT_in (gT_3 (i := 58) rfl) rfl
theorem cod_Mo_pick : (.code y_Mo_pick b_Mo_pick 4 none : Cond) ∈ gT := gT_in (gT_3 (i := 59) rfl) rfl
theorem ml_Mo_123 : (.methodLink R_Mo 123 y_Mo_readsBack : Cond) ∈ gT := gT_in (gT_3 (i := 60) rfl) rfl
theorem pri_Mo_readsBack : (.privateMethod y_Mo_readsBack : Cond) ∈ tables_1 := gT_3 (i := 61) rfl
theorem im_Mo_readsBack : (.instanceMethod y_Mo_readsBack : Cond) ∈ gT := gT_in (gT_3 (i := 62) rfl) rfl
theorem cod_Mo_readsBack : (.code y_Mo_readsBack b_Mo_readsBack 3 (some .boolean) : Cond) ∈ gT := gT_in (gT_3 (i := 63) rfl) rfl
theorem ml_Mo_108 : (.methodLink R_Mo 108 y_Mo_compare : Cond) ∈ gT := gT_in (gT_3 (i := 64) rfl) rfl
theorem sta_Mo_compare : (.static y_Mo_compare : Cond) ∈ gT := gT_in (gT_3 (i := 65) rfl) rfl
theorem cod_Mo_compare : (.code y_Mo_compare b_Mo_compare 3 (some .int) : Cond) ∈ gT := gT_in (gT_3 (i := 66) rfl) rfl
theorem ml_Mo_126 : (.methodLink R_Mo 126 y_Mo_bottom : Cond) ∈ gT := gT_in (gT_3 (i := 67) rfl) rfl
theorem sta_Mo_bottom : (.static y_Mo_bottom : Cond) ∈ gT := gT_in (gT_3 (i := 68) rfl) rfl
theorem cod_Mo_bottom : (.code y_Mo_bottom b_Mo_bottom 2 (some .int) : Cond) ∈ gT := gT_in (gT_3 (i := 69) rfl) rfl
theorem ml_Mo_129 : (.methodLink R_Mo 129 y_Mo_measure : Cond) ∈ gT := gT_in (gT_3 (i := 70) rfl) rfl
theorem pri_Mo_measure : (.privateMethod y_Mo_measure : Cond) ∈ tables_1 := gT_3 (i := 71) rfl
theorem im_Mo_measure : (.instanceMethod y_Mo_measure : Cond) ∈ gT := gT_in (gT_3 (i := 72) rfl) rfl
theorem cod_Mo_measure : (.code y_Mo_measure b_Mo_measure 5 none : Cond) ∈ gT := gT_in (gT_3 (i := 73) rfl) rfl
theorem kl_Mo_138 : (.constantLong R_Mo 138 (10) : Cond) ∈ gT := gT_in (gT_3 (i := 74) rfl) rfl
theorem ml_Lw_60 : (.methodLink R_Lw 60 y_Mo_tens : Cond) ∈ gT := gT_in (gT_3 (i := 75) rfl) rfl
theorem im_Mo_tens : (.instanceMethod y_Mo_tens : Cond) ∈ gT := gT_in (gT_3 (i := 76) rfl) rfl
theorem sel_Mo_tens : (.selects R_Mo y_Mo_tens y_Mo_tens : Cond) ∈ gT := gT_in (gT_3 (i := 77) rfl) rfl
theorem cod_Mo_tens : (.code y_Mo_tens b_Mo_tens 1 (some .int) : Cond) ∈ gT := gT_in (gT_3 (i := 78) rfl) rfl
theorem ml_Lw_24 : (.methodLink R_Lw 24 y_Mo_wide : Cond) ∈ gT := gT_in (gT_3 (i := 79) rfl) rfl
theorem im_Mo_wide : (.instanceMethod y_Mo_wide : Cond) ∈ gT := gT_in (gT_3 (i := 80) rfl) rfl
theorem sel_Mo_wide : (.selects R_Mo y_Mo_wide y_Mo_wide : Cond) ∈ gT := gT_in (gT_3 (i := 81) rfl) rfl
theorem cod_Mo_wide : (.code y_Mo_wide b_Mo_wide 3 (some .int) : Cond) ∈ gT := gT_in (gT_3 (i := 82) rfl) rfl
theorem ml_Mo_157 : (.methodLink R_Mo 157 y_Mo_print : Cond) ∈ gT := gT_in (gT_3 (i := 83) rfl) rfl
theorem pri_Mo_print : (.privateMethod y_Mo_print : Cond) ∈ tables_1 := gT_3 (i := 84) rfl
theorem im_Mo_print : (.instanceMethod y_Mo_print : Cond) ∈ gT := gT_in (gT_3 (i := 85) rfl) rfl
theorem cod_Mo_print : (.code y_Mo_print b_Mo_print 12 (some .int) : Cond) ∈ gT := gT_in (gT_3 (i := 86) rfl) rfl
theorem ml_Mo_150 : (.methodLink R_Mo 150 y_Mo_putOther : Cond) ∈ gT := gT_in (gT_3 (i := 87) rfl) rfl
theorem pri_Mo_putOther : (.privateMethod y_Mo_putOther : Cond) ∈ tables_1 := gT_3 (i := 88) rfl
theorem im_Mo_putOther : (.instanceMethod y_Mo_putOther : Cond) ∈ gT := gT_in (gT_3 (i := 89) rfl) rfl
theorem cod_Mo_putOther : (.code y_Mo_putOther b_Mo_putOther 3 (some .boolean) : Cond) ∈ gT := gT_in (gT_3 (i := 90) rfl) rfl
theorem ml_Mo_147 : (.methodLink R_Mo 147 y_Mo_minus : Cond) ∈ gT := gT_in (gT_3 (i := 91) rfl) rfl
theorem ml_Mo_143 : (.methodLink R_Mo 143 y_Mo_put : Cond) ∈ gT := gT_in (gT_3 (i := 92) rfl) rfl
theorem pri_Mo_put : (.privateMethod y_Mo_put : Cond) ∈ tables_1 := gT_3 (i := 93) rfl
theorem im_Mo_put : (.instanceMethod y_Mo_put : Cond) ∈ gT := gT_in (gT_3 (i := 94) rfl) rfl
theorem cod_Mo_put : (.code y_Mo_put b_Mo_put 2 none : Cond) ∈ gT := gT_in (gT_3 (i := 95) rfl) rfl
theorem ml_Mo_154 : (.methodLink R_Mo 154 y_Mo_putNumber : Cond) ∈ gT := gT_in (gT_3 (i := 96) rfl) rfl
theorem pri_Mo_putNumber : (.privateMethod y_Mo_putNumber : Cond) ∈ tables_1 := gT_3 (i := 97) rfl
theorem im_Mo_putNumber : (.instanceMethod y_Mo_putNumber : Cond) ∈ gT := gT_in (gT_3 (i := 98) rfl) rfl
theorem cod_Mo_putNumber : (.code y_Mo_putNumber b_Mo_putNumber 4 none : Cond) ∈ gT := gT_in (gT_3 (i := 99) rfl) rfl
theorem ml_Lw_29 : (.methodLink R_Lw 29 y_Mo_narrow : Cond) ∈ gT := gT_in (gT_3 (i := 100) rfl) rfl
theorem im_Mo_narrow : (.instanceMethod y_Mo_narrow : Cond) ∈ gT := gT_in (gT_3 (i := 101) rfl) rfl
theorem sel_Mo_narrow : (.selects R_Mo y_Mo_narrow y_Mo_narrow : Cond) ∈ gT := gT_in (gT_3 (i := 102) rfl) rfl
theorem cod_Mo_narrow : (.code y_Mo_narrow b_Mo_narrow 2 (some .int) : Cond) ∈ gT := gT_in (gT_3 (i := 103) rfl) rfl
theorem ml_Lw_33 : (.methodLink R_Lw 33 y_Mo_wideHex : Cond) ∈ gT := gT_in (gT_3 (i := 104) rfl) rfl
theorem im_Mo_wideHex : (.instanceMethod y_Mo_wideHex : Cond) ∈ gT := gT_in (gT_3 (i := 105) rfl) rfl
theorem sel_Mo_wideHex : (.selects R_Mo y_Mo_wideHex y_Mo_wideHex : Cond) ∈ gT := gT_in (gT_3 (i := 106) rfl) rfl
theorem cod_Mo_wideHex : (.code y_Mo_wideHex b_Mo_wideHex 3 (some .int) : Cond) ∈ gT := gT_in (gT_3 (i := 107) rfl) rfl
theorem ml_Mo_161 : (.methodLink R_Mo 161 y_Mo_printHex : Cond) ∈ gT := gT_in (gT_3 (i := 108) rfl) rfl
theorem pri_Mo_printHex : (.privateMethod y_Mo_printHex : Cond) ∈ tables_1 := gT_3 (i := 109) rfl
theorem im_Mo_printHex : (.instanceMethod y_Mo_printHex : Cond) ∈ gT := gT_in (gT_3 (i := 110) rfl) rfl
theorem cod_Mo_printHex : (.code y_Mo_printHex b_Mo_printHex 10 (some .int) : Cond) ∈ gT := gT_in (gT_3 (i := 111) rfl) rfl
theorem ml_Lw_37 : (.methodLink R_Lw 37 y_Mo_narrowHex : Cond) ∈ gT := gT_in (gT_3 (i := 112) rfl) rfl
theorem im_Mo_narrowHex : (.instanceMethod y_Mo_narrowHex : Cond) ∈ gT := gT_in (gT_3 (i := 113) rfl) rfl
theorem sel_Mo_narrowHex : (.selects R_Mo y_Mo_narrowHex y_Mo_narrowHex : Cond) ∈ gT := gT_in (gT_3 (i := 114) rfl) rfl
theorem cod_Mo_narrowHex : (.code y_Mo_narrowHex b_Mo_narrowHex 2 (some .int) : Cond) ∈ gT := gT_in (gT_3 (i := 115) rfl) rfl
theorem ml_Lw_41 : (.methodLink R_Lw 41 y_Mo_characterAt : Cond) ∈ gT := gT_in (gT_3 (i := 116) rfl) rfl
theorem im_Mo_characterAt : (.instanceMethod y_Mo_characterAt : Cond) ∈ gT := gT_in (gT_3 (i := 117) rfl) rfl
theorem sel_Mo_characterAt : (.selects R_Mo y_Mo_characterAt y_Mo_characterAt : Cond) ∈ gT := gT_in (gT_3 (i := 118) rfl) rfl
theorem cod_Mo_characterAt : (.code y_Mo_characterAt b_Mo_characterAt 2 (some .int) : Cond) ∈ gT := gT_in (gT_3 (i := 119) rfl) rfl
theorem kl_Lw_18 : (.constantLong R_Lw 18 (4294967295) : Cond) ∈ gT := gT_in (gT_3 (i := 120) rfl) rfl
theorem fl_La_29 : (.fieldLink R_La 29 R_La "fractionBits" "I" : Cond) ∈ gT := gT_in (gT_3 (i := 121) rfl) rfl
theorem fl_La_33 : (.fieldLink R_La 33 R_La "topExponent" "I" : Cond) ∈ gT := gT_in (gT_3 (i := 122) rfl) rfl
theorem fl_Bt_127 : (.fieldLink R_Bt 127 R_La "topExponent" "I" : Cond) ∈ gT := gT_in (gT_3 (i := 123) rfl) rfl
theorem fl_La_36 : (.fieldLink R_La 36 R_La "bias" "I" : Cond) ∈ gT := gT_in (gT_3 (i := 124) rfl) rfl
theorem fl_St_9 : (.fieldLink R_St 9 R_St "value" "[B" : Cond) ∈ gT := gT_in (gT_3 (i := 125) rfl) rfl
theorem fl_St_15 : (.fieldLink R_St 15 R_St "coder" "B" : Cond) ∈ gT := gT_in (gT_3 (i := 126) rfl) rfl
theorem fl_La_39 : (.fieldLink R_La 39 R_La "hexPlaces" "I" : Cond) ∈ gT := gT_in (gT_3 (i := 127) rfl) rfl
theorem fl_Bt_169 : (.fieldLink R_Bt 169 R_La "hexPlaces" "I" : Cond) ∈ gT := gT_in (gT_3 (i := 128) rfl) rfl
theorem sel_Bt_printDecimal : (.selects R_Bt y_Bt_printDecimal y_Bt_printDecimal : Cond) ∈ gT := gT_sel (q := (y_Bt_printDecimal, 7)) (List.mem_append_left _ (List.mem_of_getElem? (i := 0) rfl))
theorem sel_Bt_take : (.selects R_Bt y_Bt_take y_Bt_take : Cond) ∈ gT := gT_sel (q := (y_Bt_take, 7)) (List.mem_append_left _ (List.mem_of_getElem? (i := 1) rfl))
theorem sel_Fi_scale : (.selects R_Fi y_Fi_scale y_Fi_scale : Cond) ∈ gT := gT_sel (q := (y_Fi_scale, 3)) (List.mem_append_left _ (List.mem_of_getElem? (i := 2) rfl))
theorem sel_Fi_tenfold : (.selects R_Fi y_Fi_tenfold y_Fi_tenfold : Cond) ∈ gT := gT_sel (q := (y_Fi_tenfold, 3)) (List.mem_append_left _ (List.mem_of_getElem? (i := 3) rfl))
theorem sel_Fi_takeDigit : (.selects R_Fi y_Fi_takeDigit y_Fi_takeDigit : Cond) ∈ gT := gT_sel (q := (y_Fi_takeDigit, 3)) (List.mem_append_left _ (List.mem_of_getElem? (i := 4) rfl))
theorem sel_Fi_compareDown : (.selects R_Fi y_Fi_compareDown y_Fi_compareDown : Cond) ∈ gT := gT_sel (q := (y_Fi_compareDown, 3)) (List.mem_append_left _ (List.mem_of_getElem? (i := 5) rfl))
theorem sel_Fi_compareUp : (.selects R_Fi y_Fi_compareUp y_Fi_compareUp : Cond) ∈ gT := gT_sel (q := (y_Fi_compareUp, 3)) (List.mem_append_left _ (List.mem_of_getElem? (i := 6) rfl))
theorem sel_Fi_isUpNearer : (.selects R_Fi y_Fi_isUpNearer y_Fi_isUpNearer : Cond) ∈ gT := gT_sel (q := (y_Fi_isUpNearer, 3)) (List.mem_append_left _ (List.mem_of_getElem? (i := 7) rfl))
theorem sel_De_spread : (.selects R_De y_De_spread y_De_spread : Cond) ∈ gT := gT_sel (q := (y_De_spread, 4)) (List.mem_append_left _ (List.mem_of_getElem? (i := 8) rfl))
theorem sel_Bt_putDecimal : (.selects R_Bt y_Bt_putDecimal y_Bt_putDecimal : Cond) ∈ gT := gT_sel (q := (y_Bt_putDecimal, 7)) (List.mem_append_left _ (List.mem_of_getElem? (i := 9) rfl))
theorem sel_Bt_putPlaces : (.selects R_Bt y_Bt_putPlaces y_Bt_putPlaces : Cond) ∈ gT := gT_sel (q := (y_Bt_putPlaces, 7)) (List.mem_append_left _ (List.mem_of_getElem? (i := 10) rfl))
theorem sel_Bt_putNamed : (.selects R_Bt y_Bt_putNamed y_Bt_putNamed : Cond) ∈ gT := gT_sel (q := (y_Bt_putNamed, 7)) (List.mem_append_left _ (List.mem_of_getElem? (i := 11) rfl))
theorem sel_Bt_printHex : (.selects R_Bt y_Bt_printHex y_Bt_printHex : Cond) ∈ gT := gT_sel (q := (y_Bt_printHex, 7)) (List.mem_append_left _ (List.mem_of_getElem? (i := 12) rfl))
theorem sel_Bt_putHex : (.selects R_Bt y_Bt_putHex y_Bt_putHex : Cond) ∈ gT := gT_sel (q := (y_Bt_putHex, 7)) (List.mem_append_left _ (List.mem_of_getElem? (i := 13) rfl))
theorem sel_Mo_isLast : (.selects R_Mo y_Mo_isLast y_Mo_isLast : Cond) ∈ gT := gT_sel (q := (y_Mo_isLast, 19)) (List.mem_append_left _ (List.mem_of_getElem? (i := 14) rfl))
theorem sel_Mo_exponent : (.selects R_Mo y_Mo_exponent y_Mo_exponent : Cond) ∈ gT := gT_sel (q := (y_Mo_exponent, 19)) (List.mem_append_left _ (List.mem_of_getElem? (i := 15) rfl))
theorem sel_Mo_fraction : (.selects R_Mo y_Mo_fraction y_Mo_fraction : Cond) ∈ gT := gT_sel (q := (y_Mo_fraction, 19)) (List.mem_append_right _ (List.mem_of_getElem? (i := 0) rfl))
theorem sel_Mo_search : (.selects R_Mo y_Mo_search y_Mo_search : Cond) ∈ gT := gT_sel (q := (y_Mo_search, 19)) (List.mem_append_right _ (List.mem_of_getElem? (i := 1) rfl))
theorem sel_Mo_spread : (.selects R_Mo y_Mo_spread y_Mo_spread : Cond) ∈ gT := gT_sel (q := (y_Mo_spread, 19)) (List.mem_append_right _ (List.mem_of_getElem? (i := 2) rfl))
theorem sel_Mo_timesUnit : (.selects R_Mo y_Mo_timesUnit y_Mo_timesUnit : Cond) ∈ gT := gT_sel (q := (y_Mo_timesUnit, 19)) (List.mem_append_right _ (List.mem_of_getElem? (i := 3) rfl))
theorem sel_Mo_write : (.selects R_Mo y_Mo_write y_Mo_write : Cond) ∈ gT := gT_sel (q := (y_Mo_write, 19)) (List.mem_append_right _ (List.mem_of_getElem? (i := 4) rfl))
theorem sel_Mo_pick : (.selects R_Mo y_Mo_pick y_Mo_pick : Cond) ∈ gT := gT_sel (q := (y_Mo_pick, 19)) (List.mem_append_right _ (List.mem_of_getElem? (i := 5) rfl))
theorem sel_Mo_readsBack : (.selects R_Mo y_Mo_readsBack y_Mo_readsBack : Cond) ∈ gT := gT_sel (q := (y_Mo_readsBack, 19)) (List.mem_append_right _ (List.mem_of_getElem? (i := 6) rfl))
theorem sel_Mo_measure : (.selects R_Mo y_Mo_measure y_Mo_measure : Cond) ∈ gT := gT_sel (q := (y_Mo_measure, 19)) (List.mem_append_right _ (List.mem_of_getElem? (i := 7) rfl))
theorem sel_Mo_print : (.selects R_Mo y_Mo_print y_Mo_print : Cond) ∈ gT := gT_sel (q := (y_Mo_print, 19)) (List.mem_append_right _ (List.mem_of_getElem? (i := 8) rfl))
theorem sel_Mo_putOther : (.selects R_Mo y_Mo_putOther y_Mo_putOther : Cond) ∈ gT := gT_sel (q := (y_Mo_putOther, 19)) (List.mem_append_right _ (List.mem_of_getElem? (i := 9) rfl))
theorem sel_Mo_put : (.selects R_Mo y_Mo_put y_Mo_put : Cond) ∈ gT := gT_sel (q := (y_Mo_put, 19)) (List.mem_append_right _ (List.mem_of_getElem? (i := 10) rfl))
theorem sel_Mo_putNumber : (.selects R_Mo y_Mo_putNumber y_Mo_putNumber : Cond) ∈ gT := gT_sel (q := (y_Mo_putNumber, 19)) (List.mem_append_right _ (List.mem_of_getElem? (i := 11) rfl))
theorem sel_Mo_printHex : (.selects R_Mo y_Mo_printHex y_Mo_printHex : Cond) ∈ gT := gT_sel (q := (y_Mo_printHex, 19)) (List.mem_append_right _ (List.mem_of_getElem? (i := 12) rfl))
theorem i_De : ∀ w ∈ u_ws R_De F_De 4, w ∈ gT := by decide +kernel
theorem i_Fi : ∀ w ∈ u_ws R_Fi F_Fi 3, w ∈ gT := by decide +kernel
theorem i_Na : ∀ w ∈ u_ws R_Na F_Na 2, w ∈ gT := by decide +kernel
theorem i_Te : ∀ w ∈ u_ws R_Te F_Te 2, w ∈ gT := by decide +kernel
theorem i_Bt : ∀ w ∈ u_ws R_Bt F_Bt 7, w ∈ gT := by decide +kernel
theorem i_Mo : ∀ w ∈ u_ws R_Mo F_Mo 19, w ∈ gT := by decide +kernel
end
section
theorem d_Bt_init_0 : decode b_Bt_init 0 = .ok (.aload_n 0, 1) := by decide +kernel
theorem d_Bt_init_1 : decode b_Bt_init 1 = .ok (.invokespecial 1, 3) := by decide +kernel
theorem d_Bt_init_4 : decode b_Bt_init 4 = .ok (.aload_n 0, 1) := by decide +kernel
theorem d_Bt_init_5 : decode b_Bt_init 5 = .ok (.new 7, 3) := by decide +kernel
theorem d_Bt_init_8 : decode b_Bt_init 8 = .ok (.dup, 1) := by decide +kernel
theorem d_Bt_init_9 : decode b_Bt_init 9 = .ok (.invokespecial 9, 3) := by decide +kernel
theorem d_Bt_init_12 : decode b_Bt_init 12 = .ok (.putfield 10, 3) := by decide +kernel
theorem d_Bt_init_15 : decode b_Bt_init 15 = .ok (.aload_n 0, 1) := by decide +kernel
theorem d_Bt_init_16 : decode b_Bt_init 16 = .ok (.new 16, 3) := by decide +kernel
theorem d_Bt_init_19 : decode b_Bt_init 19 = .ok (.dup, 1) := by decide +kernel
theorem d_Bt_init_20 : decode b_Bt_init 20 = .ok (.invokespecial 18, 3) := by decide +kernel
theorem d_Bt_init_23 : decode b_Bt_init 23 = .ok (.putfield 19, 3) := by decide +kernel
theorem d_Bt_init_26 : decode b_Bt_init 26 = .ok (.aload_n 0, 1) := by decide +kernel
theorem d_Bt_init_27 : decode b_Bt_init 27 = .ok (.new 23, 3) := by decide +kernel
theorem d_Bt_init_30 : decode b_Bt_init 30 = .ok (.dup, 1) := by decide +kernel
theorem d_Bt_init_31 : decode b_Bt_init 31 = .ok (.invokespecial 25, 3) := by decide +kernel
theorem d_Bt_init_34 : decode b_Bt_init 34 = .ok (.putfield 26, 3) := by decide +kernel
theorem d_Bt_init_37 : decode b_Bt_init 37 = .ok (.aload_n 0, 1) := by decide +kernel
theorem d_Bt_init_38 : decode b_Bt_init 38 = .ok (.bipush (-3), 2) := by decide +kernel
theorem d_Bt_init_40 : decode b_Bt_init 40 = .ok (.putfield 30, 3) := by decide +kernel
theorem d_Bt_init_43 : decode b_Bt_init 43 = .ok (.aload_n 0, 1) := by decide +kernel
theorem d_Bt_init_44 : decode b_Bt_init 44 = .ok (.bipush 7, 2) := by decide +kernel
theorem d_Bt_init_46 : decode b_Bt_init 46 = .ok (.putfield 34, 3) := by decide +kernel
theorem d_Bt_init_49 : decode b_Bt_init 49 = .ok (.aload_n 0, 1) := by decide +kernel
theorem d_Bt_init_50 : decode b_Bt_init 50 = .ok (.iconst 0, 1) := by decide +kernel
theorem d_Bt_init_51 : decode b_Bt_init 51 = .ok (.putfield 37, 3) := by decide +kernel
theorem d_Bt_init_54 : decode b_Bt_init 54 = .ok (.aload_n 0, 1) := by decide +kernel
theorem d_Bt_init_55 : decode b_Bt_init 55 = .ok (.iconst 0, 1) := by decide +kernel
theorem d_Bt_init_56 : decode b_Bt_init 56 = .ok (.putfield 40, 3) := by decide +kernel
theorem d_Bt_init_59 : decode b_Bt_init 59 = .ok (.return_, 1) := by decide +kernel
theorem d_Bt_bounds_0 : decode b_Bt_bounds 0 = .ok (.iload_n 1, 1) := by decide +kernel
theorem d_Bt_bounds_1 : decode b_Bt_bounds 1 = .ok (.bipush (-30), 2) := by decide +kernel
theorem d_Bt_bounds_3 : decode b_Bt_bounds 3 = .ok (.if_icmp .lt 18, 3) := by decide +kernel
theorem d_Bt_bounds_6 : decode b_Bt_bounds 6 = .ok (.iload_n 1, 1) := by decide +kernel
theorem d_Bt_bounds_7 : decode b_Bt_bounds 7 = .ok (.ifCond .gt 14, 3) := by decide +kernel
theorem d_Bt_bounds_10 : decode b_Bt_bounds 10 = .ok (.iload_n 2, 1) := by decide +kernel
theorem d_Bt_bounds_11 : decode b_Bt_bounds 11 = .ok (.iconst 1, 1) := by decide +kernel
theorem d_Bt_bounds_12 : decode b_Bt_bounds 12 = .ok (.if_icmp .lt 9, 3) := by decide +kernel
theorem d_Bt_bounds_15 : decode b_Bt_bounds 15 = .ok (.iload_n 2, 1) := by decide +kernel
theorem d_Bt_bounds_16 : decode b_Bt_bounds 16 = .ok (.bipush 30, 2) := by decide +kernel
theorem d_Bt_bounds_18 : decode b_Bt_bounds 18 = .ok (.if_icmp .le 5, 3) := by decide +kernel
theorem d_Bt_bounds_21 : decode b_Bt_bounds 21 = .ok (.iconst 0, 1) := by decide +kernel
theorem d_Bt_bounds_22 : decode b_Bt_bounds 22 = .ok (.ireturn, 1) := by decide +kernel
theorem d_Bt_bounds_23 : decode b_Bt_bounds 23 = .ok (.aload_n 0, 1) := by decide +kernel
theorem d_Bt_bounds_24 : decode b_Bt_bounds 24 = .ok (.iload_n 1, 1) := by decide +kernel
theorem d_Bt_bounds_25 : decode b_Bt_bounds 25 = .ok (.putfield 30, 3) := by decide +kernel
theorem d_Bt_bounds_28 : decode b_Bt_bounds 28 = .ok (.aload_n 0, 1) := by decide +kernel
theorem d_Bt_bounds_29 : decode b_Bt_bounds 29 = .ok (.iload_n 2, 1) := by decide +kernel
theorem d_Bt_bounds_30 : decode b_Bt_bounds 30 = .ok (.putfield 34, 3) := by decide +kernel
theorem d_Bt_bounds_33 : decode b_Bt_bounds 33 = .ok (.iconst 1, 1) := by decide +kernel
theorem d_Bt_bounds_34 : decode b_Bt_bounds 34 = .ok (.ireturn, 1) := by decide +kernel
theorem d_Bt_wide_0 : decode b_Bt_wide 0 = .ok (.aload_n 0, 1) := by decide +kernel
theorem d_Bt_wide_1 : decode b_Bt_wide 1 = .ok (.getstatic 44, 3) := by decide +kernel
theorem d_Bt_wide_4 : decode b_Bt_wide 4 = .ok (.lload_n 1, 1) := by decide +kernel
theorem d_Bt_wide_5 : decode b_Bt_wide 5 = .ok (.invokevirtual 50, 3) := by decide +kernel
theorem d_Bt_wide_8 : decode b_Bt_wide 8 = .ok (.ireturn, 1) := by decide +kernel
theorem d_Bt_narrow_0 : decode b_Bt_narrow 0 = .ok (.aload_n 0, 1) := by decide +kernel
theorem d_Bt_narrow_1 : decode b_Bt_narrow 1 = .ok (.getstatic 54, 3) := by decide +kernel
theorem d_Bt_narrow_4 : decode b_Bt_narrow 4 = .ok (.iload_n 1, 1) := by decide +kernel
theorem d_Bt_narrow_5 : decode b_Bt_narrow 5 = .ok (.i2l, 1) := by decide +kernel
theorem d_Bt_narrow_6 : decode b_Bt_narrow 6 = .ok (.invokevirtual 50, 3) := by decide +kernel
theorem d_Bt_narrow_9 : decode b_Bt_narrow 9 = .ok (.ireturn, 1) := by decide +kernel
theorem d_Bt_wideHex_0 : decode b_Bt_wideHex 0 = .ok (.aload_n 0, 1) := by decide +kernel
theorem d_Bt_wideHex_1 : decode b_Bt_wideHex 1 = .ok (.getstatic 44, 3) := by decide +kernel
theorem d_Bt_wideHex_4 : decode b_Bt_wideHex 4 = .ok (.lload_n 1, 1) := by decide +kernel
theorem d_Bt_wideHex_5 : decode b_Bt_wideHex 5 = .ok (.invokevirtual 57, 3) := by decide +kernel
theorem d_Bt_wideHex_8 : decode b_Bt_wideHex 8 = .ok (.ireturn, 1) := by decide +kernel
theorem d_Bt_narrowHex_0 : decode b_Bt_narrowHex 0 = .ok (.aload_n 0, 1) := by decide +kernel
theorem d_Bt_narrowHex_1 : decode b_Bt_narrowHex 1 = .ok (.getstatic 54, 3) := by decide +kernel
theorem d_Bt_narrowHex_4 : decode b_Bt_narrowHex 4 = .ok (.iload_n 1, 1) := by decide +kernel
theorem d_Bt_narrowHex_5 : decode b_Bt_narrowHex 5 = .ok (.i2l, 1) := by decide +kernel
theorem d_Bt_narrowHex_6 : decode b_Bt_narrowHex 6 = .ok (.invokevirtual 57, 3) := by decide +kernel
theorem d_Bt_narrowHex_9 : decode b_Bt_narrowHex 9 = .ok (.ireturn, 1) := by decide +kernel
theorem d_Bt_characterAt_0 : decode b_Bt_characterAt 0 = .ok (.aload_n 0, 1) := by decide +kernel
theorem d_Bt_characterAt_1 : decode b_Bt_characterAt 1 = .ok (.getfield 26, 3) := by decide +kernel
theorem d_Bt_characterAt_4 : decode b_Bt_characterAt 4 = .ok (.iload_n 1, 1) := by decide +kernel
theorem d_Bt_characterAt_5 : decode b_Bt_characterAt 5 = .ok (.invokevirtual 60, 3) := by decide +kernel
theorem d_Bt_characterAt_8 : decode b_Bt_characterAt 8 = .ok (.ireturn, 1) := by decide +kernel
theorem d_Bt_kind_0 : decode b_Bt_kind 0 = .ok (.aload_n 0, 1) := by decide +kernel
theorem d_Bt_kind_1 : decode b_Bt_kind 1 = .ok (.getfield 37, 3) := by decide +kernel
theorem d_Bt_kind_4 : decode b_Bt_kind 4 = .ok (.ireturn, 1) := by decide +kernel
theorem d_Bt_minus_0 : decode b_Bt_minus 0 = .ok (.aload_n 0, 1) := by decide +kernel
theorem d_Bt_minus_1 : decode b_Bt_minus 1 = .ok (.getfield 40, 3) := by decide +kernel
theorem d_Bt_minus_4 : decode b_Bt_minus 4 = .ok (.ireturn, 1) := by decide +kernel
theorem d_Bt_digits_0 : decode b_Bt_digits 0 = .ok (.aload_n 0, 1) := by decide +kernel
theorem d_Bt_digits_1 : decode b_Bt_digits 1 = .ok (.getfield 19, 3) := by decide +kernel
theorem d_Bt_digits_4 : decode b_Bt_digits 4 = .ok (.getfield 64, 3) := by decide +kernel
theorem d_Bt_digits_7 : decode b_Bt_digits 7 = .ok (.lreturn, 1) := by decide +kernel
theorem d_Bt_tens_0 : decode b_Bt_tens 0 = .ok (.aload_n 0, 1) := by decide +kernel
theorem d_Bt_tens_1 : decode b_Bt_tens 1 = .ok (.getfield 19, 3) := by decide +kernel
theorem d_Bt_tens_4 : decode b_Bt_tens 4 = .ok (.getfield 68, 3) := by decide +kernel
theorem d_Bt_tens_7 : decode b_Bt_tens 7 = .ok (.ireturn, 1) := by decide +kernel
theorem d_Bt_printDecimal_0 : decode b_Bt_printDecimal 0 = .ok (.aload_n 0, 1) := by decide +kernel
theorem d_Bt_printDecimal_1 : decode b_Bt_printDecimal 1 = .ok (.aload_n 1, 1) := by decide +kernel
theorem d_Bt_printDecimal_2 : decode b_Bt_printDecimal 2 = .ok (.lload_n 2, 1) := by decide +kernel
theorem d_Bt_printDecimal_3 : decode b_Bt_printDecimal 3 = .ok (.invokevirtual 71, 3) := by decide +kernel
theorem d_Bt_printDecimal_6 : decode b_Bt_printDecimal 6 = .ok (.aload_n 0, 1) := by decide +kernel
theorem d_Bt_printDecimal_7 : decode b_Bt_printDecimal 7 = .ok (.getfield 37, 3) := by decide +kernel
theorem d_Bt_printDecimal_10 : decode b_Bt_printDecimal 10 = .ok (.iconst 4, 1) := by decide +kernel
theorem d_Bt_printDecimal_11 : decode b_Bt_printDecimal 11 = .ok (.if_icmp .ne 10, 3) := by decide +kernel
theorem d_Bt_printDecimal_14 : decode b_Bt_printDecimal 14 = .ok (.aload_n 0, 1) := by decide +kernel
theorem d_Bt_printDecimal_15 : decode b_Bt_printDecimal 15 = .ok (.invokevirtual 75, 3) := by decide +kernel
theorem d_Bt_printDecimal_18 : decode b_Bt_printDecimal 18 = .ok (.goto 9, 3) := by decide +kernel
theorem d_Bt_printDecimal_21 : decode b_Bt_printDecimal 21 = .ok (.aload_n 0, 1) := by decide +kernel
theorem d_Bt_printDecimal_22 : decode b_Bt_printDecimal 22 = .ok (.ldc 78, 2) := by decide +kernel
theorem d_Bt_printDecimal_24 : decode b_Bt_printDecimal 24 = .ok (.invokevirtual 80, 3) := by decide +kernel
theorem d_Bt_printDecimal_27 : decode b_Bt_printDecimal 27 = .ok (.aload_n 0, 1) := by decide +kernel
theorem d_Bt_printDecimal_28 : decode b_Bt_printDecimal 28 = .ok (.getfield 26, 3) := by decide +kernel
theorem d_Bt_printDecimal_31 : decode b_Bt_printDecimal 31 = .ok (.getfield 84, 3) := by decide +kernel
theorem d_Bt_printDecimal_34 : decode b_Bt_printDecimal 34 = .ok (.ireturn, 1) := by decide +kernel
theorem d_Bt_printHex_0 : decode b_Bt_printHex 0 = .ok (.aload_n 0, 1) := by decide +kernel
theorem d_Bt_printHex_1 : decode b_Bt_printHex 1 = .ok (.aload_n 1, 1) := by decide +kernel
theorem d_Bt_printHex_2 : decode b_Bt_printHex 2 = .ok (.lload_n 2, 1) := by decide +kernel
theorem d_Bt_printHex_3 : decode b_Bt_printHex 3 = .ok (.invokevirtual 71, 3) := by decide +kernel
theorem d_Bt_printHex_6 : decode b_Bt_printHex 6 = .ok (.aload_n 0, 1) := by decide +kernel
theorem d_Bt_printHex_7 : decode b_Bt_printHex 7 = .ok (.getfield 37, 3) := by decide +kernel
theorem d_Bt_printHex_10 : decode b_Bt_printHex 10 = .ok (.iconst 4, 1) := by decide +kernel
theorem d_Bt_printHex_11 : decode b_Bt_printHex 11 = .ok (.if_icmp .ne 12, 3) := by decide +kernel
theorem d_Bt_printHex_14 : decode b_Bt_printHex 14 = .ok (.aload_n 0, 1) := by decide +kernel
theorem d_Bt_printHex_15 : decode b_Bt_printHex 15 = .ok (.aload_n 1, 1) := by decide +kernel
theorem d_Bt_printHex_16 : decode b_Bt_printHex 16 = .ok (.lload_n 2, 1) := by decide +kernel
theorem d_Bt_printHex_17 : decode b_Bt_printHex 17 = .ok (.invokevirtual 87, 3) := by decide +kernel
theorem d_Bt_printHex_20 : decode b_Bt_printHex 20 = .ok (.goto 9, 3) := by decide +kernel
theorem d_Bt_printHex_23 : decode b_Bt_printHex 23 = .ok (.aload_n 0, 1) := by decide +kernel
theorem d_Bt_printHex_24 : decode b_Bt_printHex 24 = .ok (.ldc 90, 2) := by decide +kernel
theorem d_Bt_printHex_26 : decode b_Bt_printHex 26 = .ok (.invokevirtual 80, 3) := by decide +kernel
theorem d_Bt_printHex_29 : decode b_Bt_printHex 29 = .ok (.aload_n 0, 1) := by decide +kernel
theorem d_Bt_printHex_30 : decode b_Bt_printHex 30 = .ok (.getfield 26, 3) := by decide +kernel
theorem d_Bt_printHex_33 : decode b_Bt_printHex 33 = .ok (.getfield 84, 3) := by decide +kernel
theorem d_Bt_printHex_36 : decode b_Bt_printHex 36 = .ok (.ireturn, 1) := by decide +kernel
theorem d_Bt_take_0 : decode b_Bt_take 0 = .ok (.aload_n 1, 1) := by decide +kernel
theorem d_Bt_take_1 : decode b_Bt_take 1 = .ok (.lload_n 2, 1) := by decide +kernel
theorem d_Bt_take_2 : decode b_Bt_take 2 = .ok (.invokevirtual 92, 3) := by decide +kernel
theorem d_Bt_take_5 : decode b_Bt_take 5 = .ok (.istore 4, 2) := by decide +kernel
theorem d_Bt_take_7 : decode b_Bt_take 7 = .ok (.aload_n 1, 1) := by decide +kernel
theorem d_Bt_take_8 : decode b_Bt_take 8 = .ok (.lload_n 2, 1) := by decide +kernel
theorem d_Bt_take_9 : decode b_Bt_take 9 = .ok (.invokevirtual 96, 3) := by decide +kernel
theorem d_Bt_take_12 : decode b_Bt_take 12 = .ok (.lstore 5, 2) := by decide +kernel
theorem d_Bt_take_14 : decode b_Bt_take 14 = .ok (.aload_n 0, 1) := by decide +kernel
theorem d_Bt_take_15 : decode b_Bt_take 15 = .ok (.aload_n 1, 1) := by decide +kernel
theorem d_Bt_take_16 : decode b_Bt_take 16 = .ok (.iload 4, 2) := by decide +kernel
theorem d_Bt_take_18 : decode b_Bt_take 18 = .ok (.lload 5, 2) := by decide +kernel
theorem d_Bt_take_20 : decode b_Bt_take 20 = .ok (.invokestatic 100, 3) := by decide +kernel
theorem d_Bt_take_23 : decode b_Bt_take 23 = .ok (.putfield 37, 3) := by decide +kernel
theorem d_Bt_take_26 : decode b_Bt_take 26 = .ok (.aload_n 0, 1) := by decide +kernel
theorem d_Bt_take_27 : decode b_Bt_take 27 = .ok (.aload_n 1, 1) := by decide +kernel
theorem d_Bt_take_28 : decode b_Bt_take 28 = .ok (.lload_n 2, 1) := by decide +kernel
theorem d_Bt_take_29 : decode b_Bt_take 29 = .ok (.invokevirtual 104, 3) := by decide +kernel
theorem d_Bt_take_32 : decode b_Bt_take 32 = .ok (.putfield 40, 3) := by decide +kernel
theorem d_Bt_take_35 : decode b_Bt_take 35 = .ok (.aload_n 0, 1) := by decide +kernel
theorem d_Bt_take_36 : decode b_Bt_take 36 = .ok (.getfield 37, 3) := by decide +kernel
theorem d_Bt_take_39 : decode b_Bt_take 39 = .ok (.iconst 4, 1) := by decide +kernel
theorem d_Bt_take_40 : decode b_Bt_take 40 = .ok (.if_icmp .ne 66, 3) := by decide +kernel
theorem d_Bt_take_43 : decode b_Bt_take 43 = .ok (.iload 4, 2) := by decide +kernel
theorem d_Bt_take_45 : decode b_Bt_take 45 = .ok (.ifCond .ne 8, 3) := by decide +kernel
theorem d_Bt_take_48 : decode b_Bt_take 48 = .ok (.lload 5, 2) := by decide +kernel
theorem d_Bt_take_50 : decode b_Bt_take 50 = .ok (.goto 10, 3) := by decide +kernel
theorem d_Bt_take_53 : decode b_Bt_take 53 = .ok (.lload 5, 2) := by decide +kernel
theorem d_Bt_take_55 : decode b_Bt_take 55 = .ok (.aload_n 1, 1) := by decide +kernel
theorem d_Bt_take_56 : decode b_Bt_take 56 = .ok (.invokevirtual 108, 3) := by decide +kernel
theorem d_Bt_take_59 : decode b_Bt_take 59 = .ok (.ladd, 1) := by decide +kernel
theorem d_Bt_take_60 : decode b_Bt_take 60 = .ok (.lstore 7, 2) := by decide +kernel
theorem d_Bt_take_62 : decode b_Bt_take 62 = .ok (.lload 5, 2) := by decide +kernel
theorem d_Bt_take_64 : decode b_Bt_take 64 = .ok (.lconst 0, 1) := by decide +kernel
theorem d_Bt_take_65 : decode b_Bt_take 65 = .ok (.lcmp, 1) := by decide +kernel
theorem d_Bt_take_66 : decode b_Bt_take 66 = .ok (.ifCond .ne 13, 3) := by decide +kernel
theorem d_Bt_take_69 : decode b_Bt_take 69 = .ok (.iload 4, 2) := by decide +kernel
theorem d_Bt_take_71 : decode b_Bt_take 71 = .ok (.iconst 1, 1) := by decide +kernel
theorem d_Bt_take_72 : decode b_Bt_take 72 = .ok (.if_icmp .le 7, 3) := by decide +kernel
theorem d_Bt_take_75 : decode b_Bt_take 75 = .ok (.iconst 1, 1) := by decide +kernel
theorem d_Bt_take_76 : decode b_Bt_take 76 = .ok (.goto 4, 3) := by decide +kernel
theorem d_Bt_take_79 : decode b_Bt_take 79 = .ok (.iconst 0, 1) := by decide +kernel
theorem d_Bt_take_80 : decode b_Bt_take 80 = .ok (.istore 9, 2) := by decide +kernel
theorem d_Bt_take_82 : decode b_Bt_take 82 = .ok (.aload_n 0, 1) := by decide +kernel
theorem d_Bt_take_83 : decode b_Bt_take 83 = .ok (.getfield 10, 3) := by decide +kernel
theorem d_Bt_take_86 : decode b_Bt_take 86 = .ok (.lload 7, 2) := by decide +kernel
theorem d_Bt_take_88 : decode b_Bt_take 88 = .ok (.aload_n 1, 1) := by decide +kernel
theorem d_Bt_take_89 : decode b_Bt_take 89 = .ok (.iload 4, 2) := by decide +kernel
theorem d_Bt_take_91 : decode b_Bt_take 91 = .ok (.invokevirtual 112, 3) := by decide +kernel
theorem d_Bt_take_94 : decode b_Bt_take 94 = .ok (.iload 9, 2) := by decide +kernel
theorem d_Bt_take_96 : decode b_Bt_take 96 = .ok (.aload_n 0, 1) := by decide +kernel
theorem d_Bt_take_97 : decode b_Bt_take 97 = .ok (.getfield 19, 3) := by decide +kernel
theorem d_Bt_take_100 : decode b_Bt_take 100 = .ok (.invokevirtual 115, 3) := by decide +kernel
theorem d_Bt_take_103 : decode b_Bt_take 103 = .ok (.goto 10, 3) := by decide +kernel
theorem d_Bt_take_106 : decode b_Bt_take 106 = .ok (.aload_n 0, 1) := by decide +kernel
theorem d_Bt_take_107 : decode b_Bt_take 107 = .ok (.getfield 19, 3) := by decide +kernel
theorem d_Bt_take_110 : decode b_Bt_take 110 = .ok (.invokevirtual 119, 3) := by decide +kernel
theorem d_Bt_take_113 : decode b_Bt_take 113 = .ok (.aload_n 0, 1) := by decide +kernel
theorem d_Bt_take_114 : decode b_Bt_take 114 = .ok (.getfield 26, 3) := by decide +kernel
theorem d_Bt_take_117 : decode b_Bt_take 117 = .ok (.invokevirtual 122, 3) := by decide +kernel
theorem d_Bt_take_120 : decode b_Bt_take 120 = .ok (.aload_n 0, 1) := by decide +kernel
theorem d_Bt_take_121 : decode b_Bt_take 121 = .ok (.getfield 40, 3) := by decide +kernel
theorem d_Bt_take_124 : decode b_Bt_take 124 = .ok (.ifCond .eq 20, 3) := by decide +kernel
theorem d_Bt_take_127 : decode b_Bt_take 127 = .ok (.aload_n 0, 1) := by decide +kernel
theorem d_Bt_take_128 : decode b_Bt_take 128 = .ok (.getfield 37, 3) := by decide +kernel
theorem d_Bt_take_131 : decode b_Bt_take 131 = .ok (.iconst 1, 1) := by decide +kernel
theorem d_Bt_take_132 : decode b_Bt_take 132 = .ok (.if_icmp .eq 12, 3) := by decide +kernel
theorem d_Bt_take_135 : decode b_Bt_take 135 = .ok (.aload_n 0, 1) := by decide +kernel
theorem d_Bt_take_136 : decode b_Bt_take 136 = .ok (.getfield 26, 3) := by decide +kernel
theorem d_Bt_take_139 : decode b_Bt_take 139 = .ok (.bipush 45, 2) := by decide +kernel
theorem d_Bt_take_141 : decode b_Bt_take 141 = .ok (.invokevirtual 123, 3) := by decide +kernel
theorem d_Bt_take_144 : decode b_Bt_take 144 = .ok (.return_, 1) := by decide +kernel
theorem d_Bt_kindOf_0 : decode b_Bt_kindOf 0 = .ok (.iload_n 1, 1) := by decide +kernel
theorem d_Bt_kindOf_1 : decode b_Bt_kindOf 1 = .ok (.aload_n 0, 1) := by decide +kernel
theorem d_Bt_kindOf_2 : decode b_Bt_kindOf 2 = .ok (.getfield 127, 3) := by decide +kernel
theorem d_Bt_kindOf_5 : decode b_Bt_kindOf 5 = .ok (.if_icmp .ne 15, 3) := by decide +kernel
theorem d_Bt_kindOf_8 : decode b_Bt_kindOf 8 = .ok (.lload_n 2, 1) := by decide +kernel
theorem d_Bt_kindOf_9 : decode b_Bt_kindOf 9 = .ok (.lconst 0, 1) := by decide +kernel
theorem d_Bt_kindOf_10 : decode b_Bt_kindOf 10 = .ok (.lcmp, 1) := by decide +kernel
theorem d_Bt_kindOf_11 : decode b_Bt_kindOf 11 = .ok (.ifCond .ne 7, 3) := by decide +kernel
theorem d_Bt_kindOf_14 : decode b_Bt_kindOf 14 = .ok (.iconst 2, 1) := by decide +kernel
theorem d_Bt_kindOf_15 : decode b_Bt_kindOf 15 = .ok (.goto 4, 3) := by decide +kernel
theorem d_Bt_kindOf_18 : decode b_Bt_kindOf 18 = .ok (.iconst 1, 1) := by decide +kernel
theorem d_Bt_kindOf_19 : decode b_Bt_kindOf 19 = .ok (.ireturn, 1) := by decide +kernel
theorem d_Bt_kindOf_20 : decode b_Bt_kindOf 20 = .ok (.iload_n 1, 1) := by decide +kernel
theorem d_Bt_kindOf_21 : decode b_Bt_kindOf 21 = .ok (.ifCond .ne 13, 3) := by decide +kernel
theorem d_Bt_kindOf_24 : decode b_Bt_kindOf 24 = .ok (.lload_n 2, 1) := by decide +kernel
theorem d_Bt_kindOf_25 : decode b_Bt_kindOf 25 = .ok (.lconst 0, 1) := by decide +kernel
theorem d_Bt_kindOf_26 : decode b_Bt_kindOf 26 = .ok (.lcmp, 1) := by decide +kernel
theorem d_Bt_kindOf_27 : decode b_Bt_kindOf 27 = .ok (.ifCond .ne 7, 3) := by decide +kernel
theorem d_Bt_kindOf_30 : decode b_Bt_kindOf 30 = .ok (.iconst 3, 1) := by decide +kernel
theorem d_Bt_kindOf_31 : decode b_Bt_kindOf 31 = .ok (.goto 4, 3) := by decide +kernel
theorem d_Bt_kindOf_34 : decode b_Bt_kindOf 34 = .ok (.iconst 4, 1) := by decide +kernel
theorem d_Bt_kindOf_35 : decode b_Bt_kindOf 35 = .ok (.ireturn, 1) := by decide +kernel
theorem d_Bt_putNamed_0 : decode b_Bt_putNamed 0 = .ok (.aload_n 0, 1) := by decide +kernel
theorem d_Bt_putNamed_1 : decode b_Bt_putNamed 1 = .ok (.getfield 37, 3) := by decide +kernel
theorem d_Bt_putNamed_4 : decode b_Bt_putNamed 4 = .ok (.iconst 1, 1) := by decide +kernel
theorem d_Bt_putNamed_5 : decode b_Bt_putNamed 5 = .ok (.if_icmp .ne 15, 3) := by decide +kernel
theorem d_Bt_putNamed_8 : decode b_Bt_putNamed 8 = .ok (.aload_n 0, 1) := by decide +kernel
theorem d_Bt_putNamed_9 : decode b_Bt_putNamed 9 = .ok (.getfield 26, 3) := by decide +kernel
theorem d_Bt_putNamed_12 : decode b_Bt_putNamed 12 = .ok (.ldc 130, 2) := by decide +kernel
theorem d_Bt_putNamed_14 : decode b_Bt_putNamed 14 = .ok (.invokevirtual 132, 3) := by decide +kernel
theorem d_Bt_putNamed_17 : decode b_Bt_putNamed 17 = .ok (.goto 31, 3) := by decide +kernel
theorem d_Bt_putNamed_20 : decode b_Bt_putNamed 20 = .ok (.aload_n 0, 1) := by decide +kernel
theorem d_Bt_putNamed_21 : decode b_Bt_putNamed 21 = .ok (.getfield 37, 3) := by decide +kernel
theorem d_Bt_putNamed_24 : decode b_Bt_putNamed 24 = .ok (.iconst 2, 1) := by decide +kernel
theorem d_Bt_putNamed_25 : decode b_Bt_putNamed 25 = .ok (.if_icmp .ne 15, 3) := by decide +kernel
theorem d_Bt_putNamed_28 : decode b_Bt_putNamed 28 = .ok (.aload_n 0, 1) := by decide +kernel
theorem d_Bt_putNamed_29 : decode b_Bt_putNamed 29 = .ok (.getfield 26, 3) := by decide +kernel
theorem d_Bt_putNamed_32 : decode b_Bt_putNamed 32 = .ok (.ldc 135, 2) := by decide +kernel
theorem d_Bt_putNamed_34 : decode b_Bt_putNamed 34 = .ok (.invokevirtual 132, 3) := by decide +kernel
theorem d_Bt_putNamed_37 : decode b_Bt_putNamed 37 = .ok (.goto 11, 3) := by decide +kernel
theorem d_Bt_putNamed_40 : decode b_Bt_putNamed 40 = .ok (.aload_n 0, 1) := by decide +kernel
theorem d_Bt_putNamed_41 : decode b_Bt_putNamed 41 = .ok (.getfield 26, 3) := by decide +kernel
theorem d_Bt_putNamed_44 : decode b_Bt_putNamed 44 = .ok (.aload_n 1, 1) := by decide +kernel
theorem d_Bt_putNamed_45 : decode b_Bt_putNamed 45 = .ok (.invokevirtual 132, 3) := by decide +kernel
theorem d_Bt_putNamed_48 : decode b_Bt_putNamed 48 = .ok (.return_, 1) := by decide +kernel
theorem d_Bt_putDecimal_0 : decode b_Bt_putDecimal 0 = .ok (.aload_n 0, 1) := by decide +kernel
theorem d_Bt_putDecimal_1 : decode b_Bt_putDecimal 1 = .ok (.getfield 19, 3) := by decide +kernel
theorem d_Bt_putDecimal_4 : decode b_Bt_putDecimal 4 = .ok (.invokevirtual 137, 3) := by decide +kernel
theorem d_Bt_putDecimal_7 : decode b_Bt_putDecimal 7 = .ok (.istore_n 1, 1) := by decide +kernel
theorem d_Bt_putDecimal_8 : decode b_Bt_putDecimal 8 = .ok (.iload_n 1, 1) := by decide +kernel
theorem d_Bt_putDecimal_9 : decode b_Bt_putDecimal 9 = .ok (.aload_n 0, 1) := by decide +kernel
theorem d_Bt_putDecimal_10 : decode b_Bt_putDecimal 10 = .ok (.getfield 30, 3) := by decide +kernel
theorem d_Bt_putDecimal_13 : decode b_Bt_putDecimal 13 = .ok (.if_icmp .lt 49, 3) := by decide +kernel
theorem d_Bt_putDecimal_16 : decode b_Bt_putDecimal 16 = .ok (.iload_n 1, 1) := by decide +kernel
theorem d_Bt_putDecimal_17 : decode b_Bt_putDecimal 17 = .ok (.aload_n 0, 1) := by decide +kernel
theorem d_Bt_putDecimal_18 : decode b_Bt_putDecimal 18 = .ok (.getfield 34, 3) := by decide +kernel
theorem d_Bt_putDecimal_21 : decode b_Bt_putDecimal 21 = .ok (.if_icmp .ge 41, 3) := by decide +kernel
theorem d_Bt_putDecimal_24 : decode b_Bt_putDecimal 24 = .ok (.aload_n 0, 1) := by decide +kernel
theorem d_Bt_putDecimal_25 : decode b_Bt_putDecimal 25 = .ok (.iload_n 1, 1) := by decide +kernel
theorem d_Bt_putDecimal_26 : decode b_Bt_putDecimal 26 = .ok (.iconst 0, 1) := by decide +kernel
theorem d_Bt_putDecimal_27 : decode b_Bt_putDecimal 27 = .ok (.invokestatic 141, 3) := by decide +kernel
theorem d_Bt_putDecimal_30 : decode b_Bt_putDecimal 30 = .ok (.iconst 0, 1) := by decide +kernel
theorem d_Bt_putDecimal_31 : decode b_Bt_putDecimal 31 = .ok (.invokevirtual 147, 3) := by decide +kernel
theorem d_Bt_putDecimal_34 : decode b_Bt_putDecimal 34 = .ok (.aload_n 0, 1) := by decide +kernel
theorem d_Bt_putDecimal_35 : decode b_Bt_putDecimal 35 = .ok (.getfield 26, 3) := by decide +kernel
theorem d_Bt_putDecimal_38 : decode b_Bt_putDecimal 38 = .ok (.bipush 46, 2) := by decide +kernel
theorem d_Bt_putDecimal_40 : decode b_Bt_putDecimal 40 = .ok (.invokevirtual 123, 3) := by decide +kernel
theorem d_Bt_putDecimal_43 : decode b_Bt_putDecimal 43 = .ok (.aload_n 0, 1) := by decide +kernel
theorem d_Bt_putDecimal_44 : decode b_Bt_putDecimal 44 = .ok (.iconst (-1), 1) := by decide +kernel
theorem d_Bt_putDecimal_45 : decode b_Bt_putDecimal 45 = .ok (.aload_n 0, 1) := by decide +kernel
theorem d_Bt_putDecimal_46 : decode b_Bt_putDecimal 46 = .ok (.getfield 19, 3) := by decide +kernel
theorem d_Bt_putDecimal_49 : decode b_Bt_putDecimal 49 = .ok (.getfield 68, 3) := by decide +kernel
theorem d_Bt_putDecimal_52 : decode b_Bt_putDecimal 52 = .ok (.iconst (-1), 1) := by decide +kernel
theorem d_Bt_putDecimal_53 : decode b_Bt_putDecimal 53 = .ok (.invokestatic 151, 3) := by decide +kernel
theorem d_Bt_putDecimal_56 : decode b_Bt_putDecimal 56 = .ok (.invokevirtual 147, 3) := by decide +kernel
theorem d_Bt_putDecimal_59 : decode b_Bt_putDecimal 59 = .ok (.goto 55, 3) := by decide +kernel
theorem d_Bt_putDecimal_62 : decode b_Bt_putDecimal 62 = .ok (.aload_n 0, 1) := by decide +kernel
theorem d_Bt_putDecimal_63 : decode b_Bt_putDecimal 63 = .ok (.iload_n 1, 1) := by decide +kernel
theorem d_Bt_putDecimal_64 : decode b_Bt_putDecimal 64 = .ok (.iload_n 1, 1) := by decide +kernel
theorem d_Bt_putDecimal_65 : decode b_Bt_putDecimal 65 = .ok (.invokevirtual 147, 3) := by decide +kernel
theorem d_Bt_putDecimal_68 : decode b_Bt_putDecimal 68 = .ok (.aload_n 0, 1) := by decide +kernel
theorem d_Bt_putDecimal_69 : decode b_Bt_putDecimal 69 = .ok (.getfield 26, 3) := by decide +kernel
theorem d_Bt_putDecimal_72 : decode b_Bt_putDecimal 72 = .ok (.bipush 46, 2) := by decide +kernel
theorem d_Bt_putDecimal_74 : decode b_Bt_putDecimal 74 = .ok (.invokevirtual 123, 3) := by decide +kernel
theorem d_Bt_putDecimal_77 : decode b_Bt_putDecimal 77 = .ok (.aload_n 0, 1) := by decide +kernel
theorem d_Bt_putDecimal_78 : decode b_Bt_putDecimal 78 = .ok (.iload_n 1, 1) := by decide +kernel
theorem d_Bt_putDecimal_79 : decode b_Bt_putDecimal 79 = .ok (.iconst 1, 1) := by decide +kernel
theorem d_Bt_putDecimal_80 : decode b_Bt_putDecimal 80 = .ok (.isub, 1) := by decide +kernel
theorem d_Bt_putDecimal_81 : decode b_Bt_putDecimal 81 = .ok (.aload_n 0, 1) := by decide +kernel
theorem d_Bt_putDecimal_82 : decode b_Bt_putDecimal 82 = .ok (.getfield 19, 3) := by decide +kernel
theorem d_Bt_putDecimal_85 : decode b_Bt_putDecimal 85 = .ok (.getfield 68, 3) := by decide +kernel
theorem d_Bt_putDecimal_88 : decode b_Bt_putDecimal 88 = .ok (.iload_n 1, 1) := by decide +kernel
theorem d_Bt_putDecimal_89 : decode b_Bt_putDecimal 89 = .ok (.iconst 1, 1) := by decide +kernel
theorem d_Bt_putDecimal_90 : decode b_Bt_putDecimal 90 = .ok (.isub, 1) := by decide +kernel
theorem d_Bt_putDecimal_91 : decode b_Bt_putDecimal 91 = .ok (.invokestatic 151, 3) := by decide +kernel
theorem d_Bt_putDecimal_94 : decode b_Bt_putDecimal 94 = .ok (.invokevirtual 147, 3) := by decide +kernel
theorem d_Bt_putDecimal_97 : decode b_Bt_putDecimal 97 = .ok (.aload_n 0, 1) := by decide +kernel
theorem d_Bt_putDecimal_98 : decode b_Bt_putDecimal 98 = .ok (.getfield 26, 3) := by decide +kernel
theorem d_Bt_putDecimal_101 : decode b_Bt_putDecimal 101 = .ok (.bipush 69, 2) := by decide +kernel
theorem d_Bt_putDecimal_103 : decode b_Bt_putDecimal 103 = .ok (.invokevirtual 123, 3) := by decide +kernel
theorem d_Bt_putDecimal_106 : decode b_Bt_putDecimal 106 = .ok (.aload_n 0, 1) := by decide +kernel
theorem d_Bt_putDecimal_107 : decode b_Bt_putDecimal 107 = .ok (.getfield 26, 3) := by decide +kernel
theorem d_Bt_putDecimal_110 : decode b_Bt_putDecimal 110 = .ok (.iload_n 1, 1) := by decide +kernel
theorem d_Bt_putDecimal_111 : decode b_Bt_putDecimal 111 = .ok (.invokevirtual 154, 3) := by decide +kernel
theorem d_Bt_putDecimal_114 : decode b_Bt_putDecimal 114 = .ok (.return_, 1) := by decide +kernel
theorem d_Bt_putPlaces_0 : decode b_Bt_putPlaces 0 = .ok (.iload_n 1, 1) := by decide +kernel
theorem d_Bt_putPlaces_1 : decode b_Bt_putPlaces 1 = .ok (.istore_n 3, 1) := by decide +kernel
theorem d_Bt_putPlaces_2 : decode b_Bt_putPlaces 2 = .ok (.iload_n 3, 1) := by decide +kernel
theorem d_Bt_putPlaces_3 : decode b_Bt_putPlaces 3 = .ok (.iload_n 2, 1) := by decide +kernel
theorem d_Bt_putPlaces_4 : decode b_Bt_putPlaces 4 = .ok (.if_icmp .lt 24, 3) := by decide +kernel
theorem d_Bt_putPlaces_7 : decode b_Bt_putPlaces 7 = .ok (.aload_n 0, 1) := by decide +kernel
theorem d_Bt_putPlaces_8 : decode b_Bt_putPlaces 8 = .ok (.getfield 26, 3) := by decide +kernel
theorem d_Bt_putPlaces_11 : decode b_Bt_putPlaces 11 = .ok (.aload_n 0, 1) := by decide +kernel
theorem d_Bt_putPlaces_12 : decode b_Bt_putPlaces 12 = .ok (.getfield 19, 3) := by decide +kernel
theorem d_Bt_putPlaces_15 : decode b_Bt_putPlaces 15 = .ok (.iload_n 3, 1) := by decide +kernel
theorem d_Bt_putPlaces_16 : decode b_Bt_putPlaces 16 = .ok (.invokevirtual 158, 3) := by decide +kernel
theorem d_Bt_putPlaces_19 : decode b_Bt_putPlaces 19 = .ok (.invokevirtual 123, 3) := by decide +kernel
theorem d_Bt_putPlaces_22 : decode b_Bt_putPlaces 22 = .ok (.iinc 3 (-1), 3) := by decide +kernel
theorem d_Bt_putPlaces_25 : decode b_Bt_putPlaces 25 = .ok (.goto (-23), 3) := by decide +kernel
theorem d_Bt_putPlaces_28 : decode b_Bt_putPlaces 28 = .ok (.return_, 1) := by decide +kernel
theorem d_Bt_putHex_0 : decode b_Bt_putHex 0 = .ok (.aload_n 1, 1) := by decide +kernel
theorem d_Bt_putHex_1 : decode b_Bt_putHex 1 = .ok (.lload_n 2, 1) := by decide +kernel
theorem d_Bt_putHex_2 : decode b_Bt_putHex 2 = .ok (.invokevirtual 92, 3) := by decide +kernel
theorem d_Bt_putHex_5 : decode b_Bt_putHex 5 = .ok (.istore 4, 2) := by decide +kernel
theorem d_Bt_putHex_7 : decode b_Bt_putHex 7 = .ok (.aload_n 0, 1) := by decide +kernel
theorem d_Bt_putHex_8 : decode b_Bt_putHex 8 = .ok (.getfield 26, 3) := by decide +kernel
theorem d_Bt_putHex_11 : decode b_Bt_putHex 11 = .ok (.iload 4, 2) := by decide +kernel
theorem d_Bt_putHex_13 : decode b_Bt_putHex 13 = .ok (.ifCond .ne 8, 3) := by decide +kernel
theorem d_Bt_putHex_16 : decode b_Bt_putHex 16 = .ok (.ldc 162, 2) := by decide +kernel
theorem d_Bt_putHex_18 : decode b_Bt_putHex 18 = .ok (.goto 5, 3) := by decide +kernel
theorem d_Bt_putHex_21 : decode b_Bt_putHex 21 = .ok (.ldc 164, 2) := by decide +kernel
theorem d_Bt_putHex_23 : decode b_Bt_putHex 23 = .ok (.invokevirtual 132, 3) := by decide +kernel
theorem d_Bt_putHex_26 : decode b_Bt_putHex 26 = .ok (.aload_n 0, 1) := by decide +kernel
theorem d_Bt_putHex_27 : decode b_Bt_putHex 27 = .ok (.getfield 26, 3) := by decide +kernel
theorem d_Bt_putHex_30 : decode b_Bt_putHex 30 = .ok (.aload_n 1, 1) := by decide +kernel
theorem d_Bt_putHex_31 : decode b_Bt_putHex 31 = .ok (.lload_n 2, 1) := by decide +kernel
theorem d_Bt_putHex_32 : decode b_Bt_putHex 32 = .ok (.invokevirtual 166, 3) := by decide +kernel
theorem d_Bt_putHex_35 : decode b_Bt_putHex 35 = .ok (.aload_n 1, 1) := by decide +kernel
theorem d_Bt_putHex_36 : decode b_Bt_putHex 36 = .ok (.getfield 169, 3) := by decide +kernel
theorem d_Bt_putHex_39 : decode b_Bt_putHex 39 = .ok (.invokevirtual 172, 3) := by decide +kernel
theorem d_Bt_putHex_42 : decode b_Bt_putHex 42 = .ok (.aload_n 0, 1) := by decide +kernel
theorem d_Bt_putHex_43 : decode b_Bt_putHex 43 = .ok (.getfield 26, 3) := by decide +kernel
theorem d_Bt_putHex_46 : decode b_Bt_putHex 46 = .ok (.bipush 112, 2) := by decide +kernel
theorem d_Bt_putHex_48 : decode b_Bt_putHex 48 = .ok (.invokevirtual 123, 3) := by decide +kernel
theorem d_Bt_putHex_51 : decode b_Bt_putHex 51 = .ok (.aload_n 0, 1) := by decide +kernel
theorem d_Bt_putHex_52 : decode b_Bt_putHex 52 = .ok (.getfield 26, 3) := by decide +kernel
theorem d_Bt_putHex_55 : decode b_Bt_putHex 55 = .ok (.aload_n 1, 1) := by decide +kernel
theorem d_Bt_putHex_56 : decode b_Bt_putHex 56 = .ok (.iload 4, 2) := by decide +kernel
theorem d_Bt_putHex_58 : decode b_Bt_putHex 58 = .ok (.invokevirtual 176, 3) := by decide +kernel
theorem d_Bt_putHex_61 : decode b_Bt_putHex 61 = .ok (.invokevirtual 154, 3) := by decide +kernel
theorem d_Bt_putHex_64 : decode b_Bt_putHex 64 = .ok (.return_, 1) := by decide +kernel
theorem d_De_init_0 : decode b_De_init 0 = .ok (.aload_n 0, 1) := by decide +kernel
theorem d_De_init_1 : decode b_De_init 1 = .ok (.invokespecial 1, 3) := by decide +kernel
theorem d_De_init_4 : decode b_De_init 4 = .ok (.aload_n 0, 1) := by decide +kernel
theorem d_De_init_5 : decode b_De_init 5 = .ok (.bipush 19, 2) := by decide +kernel
theorem d_De_init_7 : decode b_De_init 7 = .ok (.newarray .char, 2) := by decide +kernel
theorem d_De_init_9 : decode b_De_init 9 = .ok (.putfield 9, 3) := by decide +kernel
theorem d_De_init_12 : decode b_De_init 12 = .ok (.aload_n 0, 1) := by decide +kernel
theorem d_De_init_13 : decode b_De_init 13 = .ok (.iconst 0, 1) := by decide +kernel
theorem d_De_init_14 : decode b_De_init 14 = .ok (.putfield 13, 3) := by decide +kernel
theorem d_De_init_17 : decode b_De_init 17 = .ok (.aload_n 0, 1) := by decide +kernel
theorem d_De_init_18 : decode b_De_init 18 = .ok (.lconst 0, 1) := by decide +kernel
theorem d_De_init_19 : decode b_De_init 19 = .ok (.putfield 17, 3) := by decide +kernel
theorem d_De_init_22 : decode b_De_init 22 = .ok (.aload_n 0, 1) := by decide +kernel
theorem d_De_init_23 : decode b_De_init 23 = .ok (.iconst 0, 1) := by decide +kernel
theorem d_De_init_24 : decode b_De_init 24 = .ok (.putfield 21, 3) := by decide +kernel
theorem d_De_init_27 : decode b_De_init 27 = .ok (.return_, 1) := by decide +kernel
theorem d_De_clear_0 : decode b_De_clear 0 = .ok (.aload_n 0, 1) := by decide +kernel
theorem d_De_clear_1 : decode b_De_clear 1 = .ok (.iconst 0, 1) := by decide +kernel
theorem d_De_clear_2 : decode b_De_clear 2 = .ok (.putfield 13, 3) := by decide +kernel
theorem d_De_clear_5 : decode b_De_clear 5 = .ok (.aload_n 0, 1) := by decide +kernel
theorem d_De_clear_6 : decode b_De_clear 6 = .ok (.lconst 0, 1) := by decide +kernel
theorem d_De_clear_7 : decode b_De_clear 7 = .ok (.putfield 17, 3) := by decide +kernel
theorem d_De_clear_10 : decode b_De_clear 10 = .ok (.aload_n 0, 1) := by decide +kernel
theorem d_De_clear_11 : decode b_De_clear 11 = .ok (.iconst 0, 1) := by decide +kernel
theorem d_De_clear_12 : decode b_De_clear 12 = .ok (.putfield 21, 3) := by decide +kernel
theorem d_De_clear_15 : decode b_De_clear 15 = .ok (.return_, 1) := by decide +kernel
theorem d_De_become_0 : decode b_De_become 0 = .ok (.aload_n 0, 1) := by decide +kernel
theorem d_De_become_1 : decode b_De_become 1 = .ok (.lload_n 1, 1) := by decide +kernel
theorem d_De_become_2 : decode b_De_become 2 = .ok (.putfield 17, 3) := by decide +kernel
theorem d_De_become_5 : decode b_De_become 5 = .ok (.aload_n 0, 1) := by decide +kernel
theorem d_De_become_6 : decode b_De_become 6 = .ok (.iload_n 3, 1) := by decide +kernel
theorem d_De_become_7 : decode b_De_become 7 = .ok (.putfield 21, 3) := by decide +kernel
theorem d_De_become_10 : decode b_De_become 10 = .ok (.iconst 0, 1) := by decide +kernel
theorem d_De_become_11 : decode b_De_become 11 = .ok (.istore 4, 2) := by decide +kernel
theorem d_De_become_13 : decode b_De_become 13 = .ok (.iload 4, 2) := by decide +kernel
theorem d_De_become_15 : decode b_De_become 15 = .ok (.bipush 19, 2) := by decide +kernel
theorem d_De_become_17 : decode b_De_become 17 = .ok (.if_icmp .ge 44, 3) := by decide +kernel
theorem d_De_become_20 : decode b_De_become 20 = .ok (.aload_n 0, 1) := by decide +kernel
theorem d_De_become_21 : decode b_De_become 21 = .ok (.getfield 17, 3) := by decide +kernel
theorem d_De_become_24 : decode b_De_become 24 = .ok (.ldc2_w 24, 3) := by decide +kernel
theorem d_De_become_27 : decode b_De_become 27 = .ok (.lrem, 1) := by decide +kernel
theorem d_De_become_28 : decode b_De_become 28 = .ok (.lconst 0, 1) := by decide +kernel
theorem d_De_become_29 : decode b_De_become 29 = .ok (.lcmp, 1) := by decide +kernel
theorem d_De_become_30 : decode b_De_become 30 = .ok (.ifCond .ne 31, 3) := by decide +kernel
theorem d_De_become_33 : decode b_De_become 33 = .ok (.aload_n 0, 1) := by decide +kernel
theorem d_De_become_34 : decode b_De_become 34 = .ok (.dup, 1) := by decide +kernel
theorem d_De_become_35 : decode b_De_become 35 = .ok (.getfield 17, 3) := by decide +kernel
theorem d_De_become_38 : decode b_De_become 38 = .ok (.ldc2_w 24, 3) := by decide +kernel
theorem d_De_become_41 : decode b_De_become 41 = .ok (.ldiv, 1) := by decide +kernel
theorem d_De_become_42 : decode b_De_become 42 = .ok (.putfield 17, 3) := by decide +kernel
theorem d_De_become_45 : decode b_De_become 45 = .ok (.aload_n 0, 1) := by decide +kernel
theorem d_De_become_46 : decode b_De_become 46 = .ok (.dup, 1) := by decide +kernel
theorem d_De_become_47 : decode b_De_become 47 = .ok (.getfield 21, 3) := by decide +kernel
theorem d_De_become_50 : decode b_De_become 50 = .ok (.iconst 1, 1) := by decide +kernel
theorem d_De_become_51 : decode b_De_become 51 = .ok (.iadd, 1) := by decide +kernel
theorem d_De_become_52 : decode b_De_become 52 = .ok (.putfield 21, 3) := by decide +kernel
theorem d_De_become_55 : decode b_De_become 55 = .ok (.iinc 4 1, 3) := by decide +kernel
theorem d_De_become_58 : decode b_De_become 58 = .ok (.goto (-45), 3) := by decide +kernel
theorem d_De_become_61 : decode b_De_become 61 = .ok (.aload_n 0, 1) := by decide +kernel
theorem d_De_become_62 : decode b_De_become 62 = .ok (.invokevirtual 26, 3) := by decide +kernel
theorem d_De_become_65 : decode b_De_become 65 = .ok (.return_, 1) := by decide +kernel
theorem d_De_spread_0 : decode b_De_spread 0 = .ok (.aload_n 0, 1) := by decide +kernel
theorem d_De_spread_1 : decode b_De_spread 1 = .ok (.getfield 17, 3) := by decide +kernel
theorem d_De_spread_4 : decode b_De_spread 4 = .ok (.lstore_n 1, 1) := by decide +kernel
theorem d_De_spread_5 : decode b_De_spread 5 = .ok (.aload_n 0, 1) := by decide +kernel
theorem d_De_spread_6 : decode b_De_spread 6 = .ok (.iconst 0, 1) := by decide +kernel
theorem d_De_spread_7 : decode b_De_spread 7 = .ok (.putfield 13, 3) := by decide +kernel
theorem d_De_spread_10 : decode b_De_spread 10 = .ok (.lload_n 1, 1) := by decide +kernel
theorem d_De_spread_11 : decode b_De_spread 11 = .ok (.lconst 0, 1) := by decide +kernel
theorem d_De_spread_12 : decode b_De_spread 12 = .ok (.lcmp, 1) := by decide +kernel
theorem d_De_spread_13 : decode b_De_spread 13 = .ok (.ifCond .le 54, 3) := by decide +kernel
theorem d_De_spread_16 : decode b_De_spread 16 = .ok (.aload_n 0, 1) := by decide +kernel
theorem d_De_spread_17 : decode b_De_spread 17 = .ok (.getfield 13, 3) := by decide +kernel
theorem d_De_spread_20 : decode b_De_spread 20 = .ok (.aload_n 0, 1) := by decide +kernel
theorem d_De_spread_21 : decode b_De_spread 21 = .ok (.getfield 9, 3) := by decide +kernel
theorem d_De_spread_24 : decode b_De_spread 24 = .ok (.arraylength, 1) := by decide +kernel
theorem d_De_spread_25 : decode b_De_spread 25 = .ok (.if_icmp .ge 42, 3) := by decide +kernel
theorem d_De_spread_28 : decode b_De_spread 28 = .ok (.aload_n 0, 1) := by decide +kernel
theorem d_De_spread_29 : decode b_De_spread 29 = .ok (.getfield 9, 3) := by decide +kernel
theorem d_De_spread_32 : decode b_De_spread 32 = .ok (.aload_n 0, 1) := by decide +kernel
theorem d_De_spread_33 : decode b_De_spread 33 = .ok (.getfield 13, 3) := by decide +kernel
theorem d_De_spread_36 : decode b_De_spread 36 = .ok (.ldc2_w 29, 3) := by decide +kernel
theorem d_De_spread_39 : decode b_De_spread 39 = .ok (.lload_n 1, 1) := by decide +kernel
theorem d_De_spread_40 : decode b_De_spread 40 = .ok (.ldc2_w 24, 3) := by decide +kernel
theorem d_De_spread_43 : decode b_De_spread 43 = .ok (.lrem, 1) := by decide +kernel
theorem d_De_spread_44 : decode b_De_spread 44 = .ok (.ladd, 1) := by decide +kernel
theorem d_De_spread_45 : decode b_De_spread 45 = .ok (.l2i, 1) := by decide +kernel
theorem d_De_spread_46 : decode b_De_spread 46 = .ok (.i2c, 1) := by decide +kernel
theorem d_De_spread_47 : decode b_De_spread 47 = .ok (.castore, 1) := by decide +kernel
theorem d_De_spread_48 : decode b_De_spread 48 = .ok (.lload_n 1, 1) := by decide +kernel
theorem d_De_spread_49 : decode b_De_spread 49 = .ok (.ldc2_w 24, 3) := by decide +kernel
theorem d_De_spread_52 : decode b_De_spread 52 = .ok (.ldiv, 1) := by decide +kernel
theorem d_De_spread_53 : decode b_De_spread 53 = .ok (.lstore_n 1, 1) := by decide +kernel
theorem d_De_spread_54 : decode b_De_spread 54 = .ok (.aload_n 0, 1) := by decide +kernel
theorem d_De_spread_55 : decode b_De_spread 55 = .ok (.dup, 1) := by decide +kernel
theorem d_De_spread_56 : decode b_De_spread 56 = .ok (.getfield 13, 3) := by decide +kernel
theorem d_De_spread_59 : decode b_De_spread 59 = .ok (.iconst 1, 1) := by decide +kernel
theorem d_De_spread_60 : decode b_De_spread 60 = .ok (.iadd, 1) := by decide +kernel
theorem d_De_spread_61 : decode b_De_spread 61 = .ok (.putfield 13, 3) := by decide +kernel
theorem d_De_spread_64 : decode b_De_spread 64 = .ok (.goto (-54), 3) := by decide +kernel
theorem d_De_spread_67 : decode b_De_spread 67 = .ok (.return_, 1) := by decide +kernel
theorem d_De_firstPlace_0 : decode b_De_firstPlace 0 = .ok (.aload_n 0, 1) := by decide +kernel
theorem d_De_firstPlace_1 : decode b_De_firstPlace 1 = .ok (.getfield 21, 3) := by decide +kernel
theorem d_De_firstPlace_4 : decode b_De_firstPlace 4 = .ok (.aload_n 0, 1) := by decide +kernel
theorem d_De_firstPlace_5 : decode b_De_firstPlace 5 = .ok (.getfield 13, 3) := by decide +kernel
theorem d_De_firstPlace_8 : decode b_De_firstPlace 8 = .ok (.iadd, 1) := by decide +kernel
theorem d_De_firstPlace_9 : decode b_De_firstPlace 9 = .ok (.iconst 1, 1) := by decide +kernel
theorem d_De_firstPlace_10 : decode b_De_firstPlace 10 = .ok (.isub, 1) := by decide +kernel
theorem d_De_firstPlace_11 : decode b_De_firstPlace 11 = .ok (.ireturn, 1) := by decide +kernel
theorem d_De_digitAt_0 : decode b_De_digitAt 0 = .ok (.iload_n 1, 1) := by decide +kernel
theorem d_De_digitAt_1 : decode b_De_digitAt 1 = .ok (.aload_n 0, 1) := by decide +kernel
theorem d_De_digitAt_2 : decode b_De_digitAt 2 = .ok (.getfield 21, 3) := by decide +kernel
theorem d_De_digitAt_5 : decode b_De_digitAt 5 = .ok (.isub, 1) := by decide +kernel
theorem d_De_digitAt_6 : decode b_De_digitAt 6 = .ok (.istore_n 2, 1) := by decide +kernel
theorem d_De_digitAt_7 : decode b_De_digitAt 7 = .ok (.iload_n 2, 1) := by decide +kernel
theorem d_De_digitAt_8 : decode b_De_digitAt 8 = .ok (.ifCond .lt 29, 3) := by decide +kernel
theorem d_De_digitAt_11 : decode b_De_digitAt 11 = .ok (.iload_n 2, 1) := by decide +kernel
theorem d_De_digitAt_12 : decode b_De_digitAt 12 = .ok (.aload_n 0, 1) := by decide +kernel
theorem d_De_digitAt_13 : decode b_De_digitAt 13 = .ok (.getfield 13, 3) := by decide +kernel
theorem d_De_digitAt_16 : decode b_De_digitAt 16 = .ok (.if_icmp .ge 21, 3) := by decide +kernel
theorem d_De_digitAt_19 : decode b_De_digitAt 19 = .ok (.iload_n 2, 1) := by decide +kernel
theorem d_De_digitAt_20 : decode b_De_digitAt 20 = .ok (.aload_n 0, 1) := by decide +kernel
theorem d_De_digitAt_21 : decode b_De_digitAt 21 = .ok (.getfield 9, 3) := by decide +kernel
theorem d_De_digitAt_24 : decode b_De_digitAt 24 = .ok (.arraylength, 1) := by decide +kernel
theorem d_De_digitAt_25 : decode b_De_digitAt 25 = .ok (.if_icmp .ge 12, 3) := by decide +kernel
theorem d_De_digitAt_28 : decode b_De_digitAt 28 = .ok (.aload_n 0, 1) := by decide +kernel
theorem d_De_digitAt_29 : decode b_De_digitAt 29 = .ok (.getfield 9, 3) := by decide +kernel
theorem d_De_digitAt_32 : decode b_De_digitAt 32 = .ok (.iload_n 2, 1) := by decide +kernel
theorem d_De_digitAt_33 : decode b_De_digitAt 33 = .ok (.caload, 1) := by decide +kernel
theorem d_De_digitAt_34 : decode b_De_digitAt 34 = .ok (.goto 5, 3) := by decide +kernel
theorem d_De_digitAt_37 : decode b_De_digitAt 37 = .ok (.bipush 48, 2) := by decide +kernel
theorem d_De_digitAt_39 : decode b_De_digitAt 39 = .ok (.ireturn, 1) := by decide +kernel
theorem d_Fi_init_0 : decode b_Fi_init 0 = .ok (.aload_n 0, 1) := by decide +kernel
theorem d_Fi_init_1 : decode b_Fi_init 1 = .ok (.invokespecial 1, 3) := by decide +kernel
theorem d_Fi_init_4 : decode b_Fi_init 4 = .ok (.aload_n 0, 1) := by decide +kernel
theorem d_Fi_init_5 : decode b_Fi_init 5 = .ok (.new 7, 3) := by decide +kernel
theorem d_Fi_init_8 : decode b_Fi_init 8 = .ok (.dup, 1) := by decide +kernel
theorem d_Fi_init_9 : decode b_Fi_init 9 = .ok (.invokespecial 9, 3) := by decide +kernel
theorem d_Fi_init_12 : decode b_Fi_init 12 = .ok (.putfield 10, 3) := by decide +kernel
theorem d_Fi_init_15 : decode b_Fi_init 15 = .ok (.aload_n 0, 1) := by decide +kernel
theorem d_Fi_init_16 : decode b_Fi_init 16 = .ok (.new 7, 3) := by decide +kernel
theorem d_Fi_init_19 : decode b_Fi_init 19 = .ok (.dup, 1) := by decide +kernel
theorem d_Fi_init_20 : decode b_Fi_init 20 = .ok (.invokespecial 9, 3) := by decide +kernel
theorem d_Fi_init_23 : decode b_Fi_init 23 = .ok (.putfield 16, 3) := by decide +kernel
theorem d_Fi_init_26 : decode b_Fi_init 26 = .ok (.aload_n 0, 1) := by decide +kernel
theorem d_Fi_init_27 : decode b_Fi_init 27 = .ok (.new 7, 3) := by decide +kernel
theorem d_Fi_init_30 : decode b_Fi_init 30 = .ok (.dup, 1) := by decide +kernel
theorem d_Fi_init_31 : decode b_Fi_init 31 = .ok (.invokespecial 9, 3) := by decide +kernel
theorem d_Fi_init_34 : decode b_Fi_init 34 = .ok (.putfield 19, 3) := by decide +kernel
theorem d_Fi_init_37 : decode b_Fi_init 37 = .ok (.return_, 1) := by decide +kernel
theorem d_Fi_find_0 : decode b_Fi_find 0 = .ok (.lload_n 1, 1) := by decide +kernel
theorem d_Fi_find_1 : decode b_Fi_find 1 = .ok (.iload_n 3, 1) := by decide +kernel
theorem d_Fi_find_2 : decode b_Fi_find 2 = .ok (.invokestatic 22, 3) := by decide +kernel
theorem d_Fi_find_5 : decode b_Fi_find 5 = .ok (.istore 6, 2) := by decide +kernel
theorem d_Fi_find_7 : decode b_Fi_find 7 = .ok (.aload_n 0, 1) := by decide +kernel
theorem d_Fi_find_8 : decode b_Fi_find 8 = .ok (.lload_n 1, 1) := by decide +kernel
theorem d_Fi_find_9 : decode b_Fi_find 9 = .ok (.iload_n 3, 1) := by decide +kernel
theorem d_Fi_find_10 : decode b_Fi_find 10 = .ok (.iload 6, 2) := by decide +kernel
theorem d_Fi_find_12 : decode b_Fi_find 12 = .ok (.invokevirtual 26, 3) := by decide +kernel
theorem d_Fi_find_15 : decode b_Fi_find 15 = .ok (.aload_n 0, 1) := by decide +kernel
theorem d_Fi_find_16 : decode b_Fi_find 16 = .ok (.getfield 10, 3) := by decide +kernel
theorem d_Fi_find_19 : decode b_Fi_find 19 = .ok (.aload_n 0, 1) := by decide +kernel
theorem d_Fi_find_20 : decode b_Fi_find 20 = .ok (.getfield 19, 3) := by decide +kernel
theorem d_Fi_find_23 : decode b_Fi_find 23 = .ok (.invokevirtual 30, 3) := by decide +kernel
theorem d_Fi_find_26 : decode b_Fi_find 26 = .ok (.ifCond .ge 10, 3) := by decide +kernel
theorem d_Fi_find_29 : decode b_Fi_find 29 = .ok (.aload_n 0, 1) := by decide +kernel
theorem d_Fi_find_30 : decode b_Fi_find 30 = .ok (.invokevirtual 34, 3) := by decide +kernel
theorem d_Fi_find_33 : decode b_Fi_find 33 = .ok (.iinc 6 (-1), 3) := by decide +kernel
theorem d_Fi_find_36 : decode b_Fi_find 36 = .ok (.lload_n 1, 1) := by decide +kernel
theorem d_Fi_find_37 : decode b_Fi_find 37 = .ok (.lconst 1, 1) := by decide +kernel
theorem d_Fi_find_38 : decode b_Fi_find 38 = .ok (.land, 1) := by decide +kernel
theorem d_Fi_find_39 : decode b_Fi_find 39 = .ok (.lconst 0, 1) := by decide +kernel
theorem d_Fi_find_40 : decode b_Fi_find 40 = .ok (.lcmp, 1) := by decide +kernel
theorem d_Fi_find_41 : decode b_Fi_find 41 = .ok (.ifCond .ne 7, 3) := by decide +kernel
theorem d_Fi_find_44 : decode b_Fi_find 44 = .ok (.iconst 1, 1) := by decide +kernel
theorem d_Fi_find_45 : decode b_Fi_find 45 = .ok (.goto 4, 3) := by decide +kernel
theorem d_Fi_find_48 : decode b_Fi_find 48 = .ok (.iconst 0, 1) := by decide +kernel
theorem d_Fi_find_49 : decode b_Fi_find 49 = .ok (.istore 7, 2) := by decide +kernel
theorem d_Fi_find_51 : decode b_Fi_find 51 = .ok (.iconst 0, 1) := by decide +kernel
theorem d_Fi_find_52 : decode b_Fi_find 52 = .ok (.istore 8, 2) := by decide +kernel
theorem d_Fi_find_54 : decode b_Fi_find 54 = .ok (.iconst 0, 1) := by decide +kernel
theorem d_Fi_find_55 : decode b_Fi_find 55 = .ok (.istore 9, 2) := by decide +kernel
theorem d_Fi_find_57 : decode b_Fi_find 57 = .ok (.aload_n 0, 1) := by decide +kernel
theorem d_Fi_find_58 : decode b_Fi_find 58 = .ok (.invokevirtual 37, 3) := by decide +kernel
theorem d_Fi_find_61 : decode b_Fi_find 61 = .ok (.i2l, 1) := by decide +kernel
theorem d_Fi_find_62 : decode b_Fi_find 62 = .ok (.lstore 10, 2) := by decide +kernel
theorem d_Fi_find_64 : decode b_Fi_find 64 = .ok (.iconst 2, 1) := by decide +kernel
theorem d_Fi_find_65 : decode b_Fi_find 65 = .ok (.istore 12, 2) := by decide +kernel
theorem d_Fi_find_67 : decode b_Fi_find 67 = .ok (.iload 12, 2) := by decide +kernel
theorem d_Fi_find_69 : decode b_Fi_find 69 = .ok (.bipush 17, 2) := by decide +kernel
theorem d_Fi_find_71 : decode b_Fi_find 71 = .ok (.if_icmp .gt 64, 3) := by decide +kernel
theorem d_Fi_find_74 : decode b_Fi_find 74 = .ok (.iload 8, 2) := by decide +kernel
theorem d_Fi_find_76 : decode b_Fi_find 76 = .ok (.ifCond .ne 59, 3) := by decide +kernel
theorem d_Fi_find_79 : decode b_Fi_find 79 = .ok (.iload 9, 2) := by decide +kernel
theorem d_Fi_find_81 : decode b_Fi_find 81 = .ok (.ifCond .ne 54, 3) := by decide +kernel
theorem d_Fi_find_84 : decode b_Fi_find 84 = .ok (.aload_n 0, 1) := by decide +kernel
theorem d_Fi_find_85 : decode b_Fi_find 85 = .ok (.invokevirtual 34, 3) := by decide +kernel
theorem d_Fi_find_88 : decode b_Fi_find 88 = .ok (.iinc 6 (-1), 3) := by decide +kernel
theorem d_Fi_find_91 : decode b_Fi_find 91 = .ok (.lload 10, 2) := by decide +kernel
theorem d_Fi_find_93 : decode b_Fi_find 93 = .ok (.ldc2_w 41, 3) := by decide +kernel
theorem d_Fi_find_96 : decode b_Fi_find 96 = .ok (.lmul, 1) := by decide +kernel
theorem d_Fi_find_97 : decode b_Fi_find 97 = .ok (.aload_n 0, 1) := by decide +kernel
theorem d_Fi_find_98 : decode b_Fi_find 98 = .ok (.invokevirtual 37, 3) := by decide +kernel
theorem d_Fi_find_101 : decode b_Fi_find 101 = .ok (.i2l, 1) := by decide +kernel
theorem d_Fi_find_102 : decode b_Fi_find 102 = .ok (.ladd, 1) := by decide +kernel
theorem d_Fi_find_103 : decode b_Fi_find 103 = .ok (.lstore 10, 2) := by decide +kernel
theorem d_Fi_find_105 : decode b_Fi_find 105 = .ok (.aload_n 0, 1) := by decide +kernel
theorem d_Fi_find_106 : decode b_Fi_find 106 = .ok (.iload 4, 2) := by decide +kernel
theorem d_Fi_find_108 : decode b_Fi_find 108 = .ok (.invokevirtual 43, 3) := by decide +kernel
theorem d_Fi_find_111 : decode b_Fi_find 111 = .ok (.iload 7, 2) := by decide +kernel
theorem d_Fi_find_113 : decode b_Fi_find 113 = .ok (.invokestatic 47, 3) := by decide +kernel
theorem d_Fi_find_116 : decode b_Fi_find 116 = .ok (.istore 8, 2) := by decide +kernel
theorem d_Fi_find_118 : decode b_Fi_find 118 = .ok (.aload_n 0, 1) := by decide +kernel
theorem d_Fi_find_119 : decode b_Fi_find 119 = .ok (.invokevirtual 51, 3) := by decide +kernel
theorem d_Fi_find_122 : decode b_Fi_find 122 = .ok (.iload 7, 2) := by decide +kernel
theorem d_Fi_find_124 : decode b_Fi_find 124 = .ok (.invokestatic 47, 3) := by decide +kernel
theorem d_Fi_find_127 : decode b_Fi_find 127 = .ok (.istore 9, 2) := by decide +kernel
theorem d_Fi_find_129 : decode b_Fi_find 129 = .ok (.iinc 12 1, 3) := by decide +kernel
theorem d_Fi_find_132 : decode b_Fi_find 132 = .ok (.goto (-65), 3) := by decide +kernel
theorem d_Fi_find_135 : decode b_Fi_find 135 = .ok (.iload 9, 2) := by decide +kernel
theorem d_Fi_find_137 : decode b_Fi_find 137 = .ok (.ifCond .eq 21, 3) := by decide +kernel
theorem d_Fi_find_140 : decode b_Fi_find 140 = .ok (.iload 8, 2) := by decide +kernel
theorem d_Fi_find_142 : decode b_Fi_find 142 = .ok (.ifCond .eq 12, 3) := by decide +kernel
theorem d_Fi_find_145 : decode b_Fi_find 145 = .ok (.aload_n 0, 1) := by decide +kernel
theorem d_Fi_find_146 : decode b_Fi_find 146 = .ok (.lload 10, 2) := by decide +kernel
theorem d_Fi_find_148 : decode b_Fi_find 148 = .ok (.invokevirtual 54, 3) := by decide +kernel
theorem d_Fi_find_151 : decode b_Fi_find 151 = .ok (.ifCond .eq 7, 3) := by decide +kernel
theorem d_Fi_find_154 : decode b_Fi_find 154 = .ok (.iconst 1, 1) := by decide +kernel
theorem d_Fi_find_155 : decode b_Fi_find 155 = .ok (.goto 4, 3) := by decide +kernel
theorem d_Fi_find_158 : decode b_Fi_find 158 = .ok (.iconst 0, 1) := by decide +kernel
theorem d_Fi_find_159 : decode b_Fi_find 159 = .ok (.istore 12, 2) := by decide +kernel
theorem d_Fi_find_161 : decode b_Fi_find 161 = .ok (.aload 5, 2) := by decide +kernel
theorem d_Fi_find_163 : decode b_Fi_find 163 = .ok (.iload 12, 2) := by decide +kernel
theorem d_Fi_find_165 : decode b_Fi_find 165 = .ok (.ifCond .eq 10, 3) := by decide +kernel
theorem d_Fi_find_168 : decode b_Fi_find 168 = .ok (.lload 10, 2) := by decide +kernel
theorem d_Fi_find_170 : decode b_Fi_find 170 = .ok (.lconst 1, 1) := by decide +kernel
theorem d_Fi_find_171 : decode b_Fi_find 171 = .ok (.ladd, 1) := by decide +kernel
theorem d_Fi_find_172 : decode b_Fi_find 172 = .ok (.goto 5, 3) := by decide +kernel
theorem d_Fi_find_175 : decode b_Fi_find 175 = .ok (.lload 10, 2) := by decide +kernel
theorem d_Fi_find_177 : decode b_Fi_find 177 = .ok (.iload 6, 2) := by decide +kernel
theorem d_Fi_find_179 : decode b_Fi_find 179 = .ok (.invokevirtual 58, 3) := by decide +kernel
theorem d_Fi_find_182 : decode b_Fi_find 182 = .ok (.return_, 1) := by decide +kernel
theorem d_Fi_highestPlace_0 : decode b_Fi_highestPlace 0 = .ok (.bipush 63, 2) := by decide +kernel
theorem d_Fi_highestPlace_2 : decode b_Fi_highestPlace 2 = .ok (.lload_n 0, 1) := by decide +kernel
theorem d_Fi_highestPlace_3 : decode b_Fi_highestPlace 3 = .ok (.invokestatic 64, 3) := by decide +kernel
theorem d_Fi_highestPlace_6 : decode b_Fi_highestPlace 6 = .ok (.isub, 1) := by decide +kernel
theorem d_Fi_highestPlace_7 : decode b_Fi_highestPlace 7 = .ok (.iload_n 2, 1) := by decide +kernel
theorem d_Fi_highestPlace_8 : decode b_Fi_highestPlace 8 = .ok (.iadd, 1) := by decide +kernel
theorem d_Fi_highestPlace_9 : decode b_Fi_highestPlace 9 = .ok (.istore_n 3, 1) := by decide +kernel
theorem d_Fi_highestPlace_10 : decode b_Fi_highestPlace 10 = .ok (.iload_n 3, 1) := by decide +kernel
theorem d_Fi_highestPlace_11 : decode b_Fi_highestPlace 11 = .ok (.ldc 70, 2) := by decide +kernel
theorem d_Fi_highestPlace_13 : decode b_Fi_highestPlace 13 = .ok (.imul, 1) := by decide +kernel
theorem d_Fi_highestPlace_14 : decode b_Fi_highestPlace 14 = .ok (.bipush 20, 2) := by decide +kernel
theorem d_Fi_highestPlace_16 : decode b_Fi_highestPlace 16 = .ok (.ishr, 1) := by decide +kernel
theorem d_Fi_highestPlace_17 : decode b_Fi_highestPlace 17 = .ok (.iconst 1, 1) := by decide +kernel
theorem d_Fi_highestPlace_18 : decode b_Fi_highestPlace 18 = .ok (.iadd, 1) := by decide +kernel
theorem d_Fi_highestPlace_19 : decode b_Fi_highestPlace 19 = .ok (.ireturn, 1) := by decide +kernel
theorem d_Fi_scale_0 : decode b_Fi_scale 0 = .ok (.aload_n 0, 1) := by decide +kernel
theorem d_Fi_scale_1 : decode b_Fi_scale 1 = .ok (.getfield 10, 3) := by decide +kernel
theorem d_Fi_scale_4 : decode b_Fi_scale 4 = .ok (.ldc2_w 71, 3) := by decide +kernel
theorem d_Fi_scale_7 : decode b_Fi_scale 7 = .ok (.lload_n 1, 1) := by decide +kernel
theorem d_Fi_scale_8 : decode b_Fi_scale 8 = .ok (.lmul, 1) := by decide +kernel
theorem d_Fi_scale_9 : decode b_Fi_scale 9 = .ok (.invokevirtual 73, 3) := by decide +kernel
theorem d_Fi_scale_12 : decode b_Fi_scale 12 = .ok (.aload_n 0, 1) := by decide +kernel
theorem d_Fi_scale_13 : decode b_Fi_scale 13 = .ok (.getfield 16, 3) := by decide +kernel
theorem d_Fi_scale_16 : decode b_Fi_scale 16 = .ok (.lconst 1, 1) := by decide +kernel
theorem d_Fi_scale_17 : decode b_Fi_scale 17 = .ok (.invokevirtual 73, 3) := by decide +kernel
theorem d_Fi_scale_20 : decode b_Fi_scale 20 = .ok (.aload_n 0, 1) := by decide +kernel
theorem d_Fi_scale_21 : decode b_Fi_scale 21 = .ok (.getfield 19, 3) := by decide +kernel
theorem d_Fi_scale_24 : decode b_Fi_scale 24 = .ok (.lconst 1, 1) := by decide +kernel
theorem d_Fi_scale_25 : decode b_Fi_scale 25 = .ok (.invokevirtual 73, 3) := by decide +kernel
theorem d_Fi_scale_28 : decode b_Fi_scale 28 = .ok (.aload_n 0, 1) := by decide +kernel
theorem d_Fi_scale_29 : decode b_Fi_scale 29 = .ok (.getfield 10, 3) := by decide +kernel
theorem d_Fi_scale_32 : decode b_Fi_scale 32 = .ok (.iload 4, 2) := by decide +kernel
theorem d_Fi_scale_34 : decode b_Fi_scale 34 = .ok (.ineg, 1) := by decide +kernel
theorem d_Fi_scale_35 : decode b_Fi_scale 35 = .ok (.invokevirtual 76, 3) := by decide +kernel
theorem d_Fi_scale_38 : decode b_Fi_scale 38 = .ok (.aload_n 0, 1) := by decide +kernel
theorem d_Fi_scale_39 : decode b_Fi_scale 39 = .ok (.getfield 16, 3) := by decide +kernel
theorem d_Fi_scale_42 : decode b_Fi_scale 42 = .ok (.iload 4, 2) := by decide +kernel
theorem d_Fi_scale_44 : decode b_Fi_scale 44 = .ok (.ineg, 1) := by decide +kernel
theorem d_Fi_scale_45 : decode b_Fi_scale 45 = .ok (.invokevirtual 76, 3) := by decide +kernel
theorem d_Fi_scale_48 : decode b_Fi_scale 48 = .ok (.aload_n 0, 1) := by decide +kernel
theorem d_Fi_scale_49 : decode b_Fi_scale 49 = .ok (.getfield 19, 3) := by decide +kernel
theorem d_Fi_scale_52 : decode b_Fi_scale 52 = .ok (.iload 4, 2) := by decide +kernel
theorem d_Fi_scale_54 : decode b_Fi_scale 54 = .ok (.invokevirtual 76, 3) := by decide +kernel
theorem d_Fi_scale_57 : decode b_Fi_scale 57 = .ok (.iload_n 3, 1) := by decide +kernel
theorem d_Fi_scale_58 : decode b_Fi_scale 58 = .ok (.iconst 1, 1) := by decide +kernel
theorem d_Fi_scale_59 : decode b_Fi_scale 59 = .ok (.isub, 1) := by decide +kernel
theorem d_Fi_scale_60 : decode b_Fi_scale 60 = .ok (.iload 4, 2) := by decide +kernel
theorem d_Fi_scale_62 : decode b_Fi_scale 62 = .ok (.isub, 1) := by decide +kernel
theorem d_Fi_scale_63 : decode b_Fi_scale 63 = .ok (.istore 5, 2) := by decide +kernel
theorem d_Fi_scale_65 : decode b_Fi_scale 65 = .ok (.aload_n 0, 1) := by decide +kernel
theorem d_Fi_scale_66 : decode b_Fi_scale 66 = .ok (.getfield 10, 3) := by decide +kernel
theorem d_Fi_scale_69 : decode b_Fi_scale 69 = .ok (.iload 5, 2) := by decide +kernel
theorem d_Fi_scale_71 : decode b_Fi_scale 71 = .ok (.invokevirtual 80, 3) := by decide +kernel
theorem d_Fi_scale_74 : decode b_Fi_scale 74 = .ok (.aload_n 0, 1) := by decide +kernel
theorem d_Fi_scale_75 : decode b_Fi_scale 75 = .ok (.getfield 16, 3) := by decide +kernel
theorem d_Fi_scale_78 : decode b_Fi_scale 78 = .ok (.iload 5, 2) := by decide +kernel
theorem d_Fi_scale_80 : decode b_Fi_scale 80 = .ok (.invokevirtual 80, 3) := by decide +kernel
theorem d_Fi_scale_83 : decode b_Fi_scale 83 = .ok (.aload_n 0, 1) := by decide +kernel
theorem d_Fi_scale_84 : decode b_Fi_scale 84 = .ok (.getfield 19, 3) := by decide +kernel
theorem d_Fi_scale_87 : decode b_Fi_scale 87 = .ok (.iload 5, 2) := by decide +kernel
theorem d_Fi_scale_89 : decode b_Fi_scale 89 = .ok (.ineg, 1) := by decide +kernel
theorem d_Fi_scale_90 : decode b_Fi_scale 90 = .ok (.invokevirtual 80, 3) := by decide +kernel
theorem d_Fi_scale_93 : decode b_Fi_scale 93 = .ok (.return_, 1) := by decide +kernel
theorem d_Fi_tenfold_0 : decode b_Fi_tenfold 0 = .ok (.aload_n 0, 1) := by decide +kernel
theorem d_Fi_tenfold_1 : decode b_Fi_tenfold 1 = .ok (.getfield 10, 3) := by decide +kernel
theorem d_Fi_tenfold_4 : decode b_Fi_tenfold 4 = .ok (.ldc2_w 41, 3) := by decide +kernel
theorem d_Fi_tenfold_7 : decode b_Fi_tenfold 7 = .ok (.invokevirtual 83, 3) := by decide +kernel
theorem d_Fi_tenfold_10 : decode b_Fi_tenfold 10 = .ok (.aload_n 0, 1) := by decide +kernel
theorem d_Fi_tenfold_11 : decode b_Fi_tenfold 11 = .ok (.getfield 16, 3) := by decide +kernel
theorem d_Fi_tenfold_14 : decode b_Fi_tenfold 14 = .ok (.ldc2_w 41, 3) := by decide +kernel
theorem d_Fi_tenfold_17 : decode b_Fi_tenfold 17 = .ok (.invokevirtual 83, 3) := by decide +kernel
theorem d_Fi_tenfold_20 : decode b_Fi_tenfold 20 = .ok (.return_, 1) := by decide +kernel
theorem d_Fi_takeDigit_0 : decode b_Fi_takeDigit 0 = .ok (.iconst 0, 1) := by decide +kernel
theorem d_Fi_takeDigit_1 : decode b_Fi_takeDigit 1 = .ok (.istore_n 1, 1) := by decide +kernel
theorem d_Fi_takeDigit_2 : decode b_Fi_takeDigit 2 = .ok (.iload_n 1, 1) := by decide +kernel
theorem d_Fi_takeDigit_3 : decode b_Fi_takeDigit 3 = .ok (.bipush 9, 2) := by decide +kernel
theorem d_Fi_takeDigit_5 : decode b_Fi_takeDigit 5 = .ok (.if_icmp .ge 34, 3) := by decide +kernel
theorem d_Fi_takeDigit_8 : decode b_Fi_takeDigit 8 = .ok (.aload_n 0, 1) := by decide +kernel
theorem d_Fi_takeDigit_9 : decode b_Fi_takeDigit 9 = .ok (.getfield 10, 3) := by decide +kernel
theorem d_Fi_takeDigit_12 : decode b_Fi_takeDigit 12 = .ok (.aload_n 0, 1) := by decide +kernel
theorem d_Fi_takeDigit_13 : decode b_Fi_takeDigit 13 = .ok (.getfield 19, 3) := by decide +kernel
theorem d_Fi_takeDigit_16 : decode b_Fi_takeDigit 16 = .ok (.invokevirtual 30, 3) := by decide +kernel
theorem d_Fi_takeDigit_19 : decode b_Fi_takeDigit 19 = .ok (.ifCond .lt 20, 3) := by decide +kernel
theorem d_Fi_takeDigit_22 : decode b_Fi_takeDigit 22 = .ok (.aload_n 0, 1) := by decide +kernel
theorem d_Fi_takeDigit_23 : decode b_Fi_takeDigit 23 = .ok (.getfield 10, 3) := by decide +kernel
theorem d_Fi_takeDigit_26 : decode b_Fi_takeDigit 26 = .ok (.aload_n 0, 1) := by decide +kernel
theorem d_Fi_takeDigit_27 : decode b_Fi_takeDigit 27 = .ok (.getfield 19, 3) := by decide +kernel
theorem d_Fi_takeDigit_30 : decode b_Fi_takeDigit 30 = .ok (.invokevirtual 86, 3) := by decide +kernel
theorem d_Fi_takeDigit_33 : decode b_Fi_takeDigit 33 = .ok (.iinc 1 1, 3) := by decide +kernel
theorem d_Fi_takeDigit_36 : decode b_Fi_takeDigit 36 = .ok (.goto (-34), 3) := by decide +kernel
theorem d_Fi_takeDigit_39 : decode b_Fi_takeDigit 39 = .ok (.iload_n 1, 1) := by decide +kernel
theorem d_Fi_takeDigit_40 : decode b_Fi_takeDigit 40 = .ok (.ireturn, 1) := by decide +kernel
theorem d_Fi_compareDown_0 : decode b_Fi_compareDown 0 = .ok (.iload_n 1, 1) := by decide +kernel
theorem d_Fi_compareDown_1 : decode b_Fi_compareDown 1 = .ok (.ifCond .eq 21, 3) := by decide +kernel
theorem d_Fi_compareDown_4 : decode b_Fi_compareDown 4 = .ok (.aload_n 0, 1) := by decide +kernel
theorem d_Fi_compareDown_5 : decode b_Fi_compareDown 5 = .ok (.getfield 10, 3) := by decide +kernel
theorem d_Fi_compareDown_8 : decode b_Fi_compareDown 8 = .ok (.aload_n 0, 1) := by decide +kernel
theorem d_Fi_compareDown_9 : decode b_Fi_compareDown 9 = .ok (.getfield 10, 3) := by decide +kernel
theorem d_Fi_compareDown_12 : decode b_Fi_compareDown 12 = .ok (.aload_n 0, 1) := by decide +kernel
theorem d_Fi_compareDown_13 : decode b_Fi_compareDown 13 = .ok (.getfield 16, 3) := by decide +kernel
theorem d_Fi_compareDown_16 : decode b_Fi_compareDown 16 = .ok (.invokestatic 90, 3) := by decide +kernel
theorem d_Fi_compareDown_19 : decode b_Fi_compareDown 19 = .ok (.goto 14, 3) := by decide +kernel
theorem d_Fi_compareDown_22 : decode b_Fi_compareDown 22 = .ok (.aload_n 0, 1) := by decide +kernel
theorem d_Fi_compareDown_23 : decode b_Fi_compareDown 23 = .ok (.getfield 10, 3) := by decide +kernel
theorem d_Fi_compareDown_26 : decode b_Fi_compareDown 26 = .ok (.aload_n 0, 1) := by decide +kernel
theorem d_Fi_compareDown_27 : decode b_Fi_compareDown 27 = .ok (.getfield 16, 3) := by decide +kernel
theorem d_Fi_compareDown_30 : decode b_Fi_compareDown 30 = .ok (.invokevirtual 30, 3) := by decide +kernel
theorem d_Fi_compareDown_33 : decode b_Fi_compareDown 33 = .ok (.ireturn, 1) := by decide +kernel
theorem d_Fi_compareUp_0 : decode b_Fi_compareUp 0 = .ok (.aload_n 0, 1) := by decide +kernel
theorem d_Fi_compareUp_1 : decode b_Fi_compareUp 1 = .ok (.getfield 10, 3) := by decide +kernel
theorem d_Fi_compareUp_4 : decode b_Fi_compareUp 4 = .ok (.aload_n 0, 1) := by decide +kernel
theorem d_Fi_compareUp_5 : decode b_Fi_compareUp 5 = .ok (.getfield 16, 3) := by decide +kernel
theorem d_Fi_compareUp_8 : decode b_Fi_compareUp 8 = .ok (.aload_n 0, 1) := by decide +kernel
theorem d_Fi_compareUp_9 : decode b_Fi_compareUp 9 = .ok (.getfield 19, 3) := by decide +kernel
theorem d_Fi_compareUp_12 : decode b_Fi_compareUp 12 = .ok (.invokestatic 90, 3) := by decide +kernel
theorem d_Fi_compareUp_15 : decode b_Fi_compareUp 15 = .ok (.ineg, 1) := by decide +kernel
theorem d_Fi_compareUp_16 : decode b_Fi_compareUp 16 = .ok (.ireturn, 1) := by decide +kernel
theorem d_Fi_isWithin_0 : decode b_Fi_isWithin 0 = .ok (.iload_n 0, 1) := by decide +kernel
theorem d_Fi_isWithin_1 : decode b_Fi_isWithin 1 = .ok (.ifCond .lt 11, 3) := by decide +kernel
theorem d_Fi_isWithin_4 : decode b_Fi_isWithin 4 = .ok (.iload_n 0, 1) := by decide +kernel
theorem d_Fi_isWithin_5 : decode b_Fi_isWithin 5 = .ok (.ifCond .ne 11, 3) := by decide +kernel
theorem d_Fi_isWithin_8 : decode b_Fi_isWithin 8 = .ok (.iload_n 1, 1) := by decide +kernel
theorem d_Fi_isWithin_9 : decode b_Fi_isWithin 9 = .ok (.ifCond .eq 7, 3) := by decide +kernel
theorem d_Fi_isWithin_12 : decode b_Fi_isWithin 12 = .ok (.iconst 1, 1) := by decide +kernel
theorem d_Fi_isWithin_13 : decode b_Fi_isWithin 13 = .ok (.goto 4, 3) := by decide +kernel
theorem d_Fi_isWithin_16 : decode b_Fi_isWithin 16 = .ok (.iconst 0, 1) := by decide +kernel
theorem d_Fi_isWithin_17 : decode b_Fi_isWithin 17 = .ok (.ireturn, 1) := by decide +kernel
theorem d_Fi_isUpNearer_0 : decode b_Fi_isUpNearer 0 = .ok (.aload_n 0, 1) := by decide +kernel
theorem d_Fi_isUpNearer_1 : decode b_Fi_isUpNearer 1 = .ok (.getfield 10, 3) := by decide +kernel
theorem d_Fi_isUpNearer_4 : decode b_Fi_isUpNearer 4 = .ok (.aload_n 0, 1) := by decide +kernel
theorem d_Fi_isUpNearer_5 : decode b_Fi_isUpNearer 5 = .ok (.getfield 10, 3) := by decide +kernel
theorem d_Fi_isUpNearer_8 : decode b_Fi_isUpNearer 8 = .ok (.aload_n 0, 1) := by decide +kernel
theorem d_Fi_isUpNearer_9 : decode b_Fi_isUpNearer 9 = .ok (.getfield 19, 3) := by decide +kernel
theorem d_Fi_isUpNearer_12 : decode b_Fi_isUpNearer 12 = .ok (.invokestatic 90, 3) := by decide +kernel
theorem d_Fi_isUpNearer_15 : decode b_Fi_isUpNearer 15 = .ok (.istore_n 3, 1) := by decide +kernel
theorem d_Fi_isUpNearer_16 : decode b_Fi_isUpNearer 16 = .ok (.iload_n 3, 1) := by decide +kernel
theorem d_Fi_isUpNearer_17 : decode b_Fi_isUpNearer 17 = .ok (.ifCond .gt 15, 3) := by decide +kernel
theorem d_Fi_isUpNearer_20 : decode b_Fi_isUpNearer 20 = .ok (.iload_n 3, 1) := by decide +kernel
theorem d_Fi_isUpNearer_21 : decode b_Fi_isUpNearer 21 = .ok (.ifCond .ne 15, 3) := by decide +kernel
theorem d_Fi_isUpNearer_24 : decode b_Fi_isUpNearer 24 = .ok (.lload_n 1, 1) := by decide +kernel
theorem d_Fi_isUpNearer_25 : decode b_Fi_isUpNearer 25 = .ok (.lconst 1, 1) := by decide +kernel
theorem d_Fi_isUpNearer_26 : decode b_Fi_isUpNearer 26 = .ok (.land, 1) := by decide +kernel
theorem d_Fi_isUpNearer_27 : decode b_Fi_isUpNearer 27 = .ok (.lconst 1, 1) := by decide +kernel
theorem d_Fi_isUpNearer_28 : decode b_Fi_isUpNearer 28 = .ok (.lcmp, 1) := by decide +kernel
theorem d_Fi_isUpNearer_29 : decode b_Fi_isUpNearer 29 = .ok (.ifCond .ne 7, 3) := by decide +kernel
theorem d_Fi_isUpNearer_32 : decode b_Fi_isUpNearer 32 = .ok (.iconst 1, 1) := by decide +kernel
theorem d_Fi_isUpNearer_33 : decode b_Fi_isUpNearer 33 = .ok (.goto 4, 3) := by decide +kernel
theorem d_Fi_isUpNearer_36 : decode b_Fi_isUpNearer 36 = .ok (.iconst 0, 1) := by decide +kernel
theorem d_Fi_isUpNearer_37 : decode b_Fi_isUpNearer 37 = .ok (.ireturn, 1) := by decide +kernel
theorem d_La_signOf_0 : decode b_La_signOf 0 = .ok (.lload_n 1, 1) := by decide +kernel
theorem d_La_signOf_1 : decode b_La_signOf 1 = .ok (.aload_n 0, 1) := by decide +kernel
theorem d_La_signOf_2 : decode b_La_signOf 2 = .ok (.getfield 29, 3) := by decide +kernel
theorem d_La_signOf_5 : decode b_La_signOf 5 = .ok (.lushr, 1) := by decide +kernel
theorem d_La_signOf_6 : decode b_La_signOf 6 = .ok (.aload_n 0, 1) := by decide +kernel
theorem d_La_signOf_7 : decode b_La_signOf 7 = .ok (.getfield 33, 3) := by decide +kernel
theorem d_La_signOf_10 : decode b_La_signOf 10 = .ok (.iconst 1, 1) := by decide +kernel
theorem d_La_signOf_11 : decode b_La_signOf 11 = .ok (.iadd, 1) := by decide +kernel
theorem d_La_signOf_12 : decode b_La_signOf 12 = .ok (.i2l, 1) := by decide +kernel
theorem d_La_signOf_13 : decode b_La_signOf 13 = .ok (.land, 1) := by decide +kernel
theorem d_La_signOf_14 : decode b_La_signOf 14 = .ok (.lconst 0, 1) := by decide +kernel
theorem d_La_signOf_15 : decode b_La_signOf 15 = .ok (.lcmp, 1) := by decide +kernel
theorem d_La_signOf_16 : decode b_La_signOf 16 = .ok (.ifCond .eq 7, 3) := by decide +kernel
theorem d_La_signOf_19 : decode b_La_signOf 19 = .ok (.iconst 1, 1) := by decide +kernel
theorem d_La_signOf_20 : decode b_La_signOf 20 = .ok (.goto 4, 3) := by decide +kernel
theorem d_La_signOf_23 : decode b_La_signOf 23 = .ok (.iconst 0, 1) := by decide +kernel
theorem d_La_signOf_24 : decode b_La_signOf 24 = .ok (.ireturn, 1) := by decide +kernel
theorem d_La_exponentOf_0 : decode b_La_exponentOf 0 = .ok (.lload_n 1, 1) := by decide +kernel
theorem d_La_exponentOf_1 : decode b_La_exponentOf 1 = .ok (.aload_n 0, 1) := by decide +kernel
theorem d_La_exponentOf_2 : decode b_La_exponentOf 2 = .ok (.getfield 29, 3) := by decide +kernel
theorem d_La_exponentOf_5 : decode b_La_exponentOf 5 = .ok (.lushr, 1) := by decide +kernel
theorem d_La_exponentOf_6 : decode b_La_exponentOf 6 = .ok (.l2i, 1) := by decide +kernel
theorem d_La_exponentOf_7 : decode b_La_exponentOf 7 = .ok (.aload_n 0, 1) := by decide +kernel
theorem d_La_exponentOf_8 : decode b_La_exponentOf 8 = .ok (.getfield 33, 3) := by decide +kernel
theorem d_La_exponentOf_11 : decode b_La_exponentOf 11 = .ok (.iand, 1) := by decide +kernel
theorem d_La_exponentOf_12 : decode b_La_exponentOf 12 = .ok (.ireturn, 1) := by decide +kernel
theorem d_La_fractionOf_0 : decode b_La_fractionOf 0 = .ok (.lload_n 1, 1) := by decide +kernel
theorem d_La_fractionOf_1 : decode b_La_fractionOf 1 = .ok (.aload_n 0, 1) := by decide +kernel
theorem d_La_fractionOf_2 : decode b_La_fractionOf 2 = .ok (.invokevirtual 42, 3) := by decide +kernel
theorem d_La_fractionOf_5 : decode b_La_fractionOf 5 = .ok (.lconst 1, 1) := by decide +kernel
theorem d_La_fractionOf_6 : decode b_La_fractionOf 6 = .ok (.lsub, 1) := by decide +kernel
theorem d_La_fractionOf_7 : decode b_La_fractionOf 7 = .ok (.land, 1) := by decide +kernel
theorem d_La_fractionOf_8 : decode b_La_fractionOf 8 = .ok (.lreturn, 1) := by decide +kernel
theorem d_La_hexFractionOf_0 : decode b_La_hexFractionOf 0 = .ok (.aload_n 0, 1) := by decide +kernel
theorem d_La_hexFractionOf_1 : decode b_La_hexFractionOf 1 = .ok (.lload_n 1, 1) := by decide +kernel
theorem d_La_hexFractionOf_2 : decode b_La_hexFractionOf 2 = .ok (.invokevirtual 46, 3) := by decide +kernel
theorem d_La_hexFractionOf_5 : decode b_La_hexFractionOf 5 = .ok (.iconst 4, 1) := by decide +kernel
theorem d_La_hexFractionOf_6 : decode b_La_hexFractionOf 6 = .ok (.aload_n 0, 1) := by decide +kernel
theorem d_La_hexFractionOf_7 : decode b_La_hexFractionOf 7 = .ok (.getfield 39, 3) := by decide +kernel
theorem d_La_hexFractionOf_10 : decode b_La_hexFractionOf 10 = .ok (.imul, 1) := by decide +kernel
theorem d_La_hexFractionOf_11 : decode b_La_hexFractionOf 11 = .ok (.aload_n 0, 1) := by decide +kernel
theorem d_La_hexFractionOf_12 : decode b_La_hexFractionOf 12 = .ok (.getfield 29, 3) := by decide +kernel
theorem d_La_hexFractionOf_15 : decode b_La_hexFractionOf 15 = .ok (.isub, 1) := by decide +kernel
theorem d_La_hexFractionOf_16 : decode b_La_hexFractionOf 16 = .ok (.lshl, 1) := by decide +kernel
theorem d_La_hexFractionOf_17 : decode b_La_hexFractionOf 17 = .ok (.lreturn, 1) := by decide +kernel
theorem d_La_hiddenOne_0 : decode b_La_hiddenOne 0 = .ok (.lconst 1, 1) := by decide +kernel
theorem d_La_hiddenOne_1 : decode b_La_hiddenOne 1 = .ok (.aload_n 0, 1) := by decide +kernel
theorem d_La_hiddenOne_2 : decode b_La_hiddenOne 2 = .ok (.getfield 29, 3) := by decide +kernel
theorem d_La_hiddenOne_5 : decode b_La_hiddenOne 5 = .ok (.lshl, 1) := by decide +kernel
theorem d_La_hiddenOne_6 : decode b_La_hiddenOne 6 = .ok (.lreturn, 1) := by decide +kernel
theorem d_La_binaryExponentOf_0 : decode b_La_binaryExponentOf 0 = .ok (.iload_n 1, 1) := by decide +kernel
theorem d_La_binaryExponentOf_1 : decode b_La_binaryExponentOf 1 = .ok (.iconst 1, 1) := by decide +kernel
theorem d_La_binaryExponentOf_2 : decode b_La_binaryExponentOf 2 = .ok (.invokestatic 50, 3) := by decide +kernel
theorem d_La_binaryExponentOf_5 : decode b_La_binaryExponentOf 5 = .ok (.aload_n 0, 1) := by decide +kernel
theorem d_La_binaryExponentOf_6 : decode b_La_binaryExponentOf 6 = .ok (.getfield 36, 3) := by decide +kernel
theorem d_La_binaryExponentOf_9 : decode b_La_binaryExponentOf 9 = .ok (.isub, 1) := by decide +kernel
theorem d_La_binaryExponentOf_10 : decode b_La_binaryExponentOf 10 = .ok (.ireturn, 1) := by decide +kernel
theorem d_La_powerOf_0 : decode b_La_powerOf 0 = .ok (.aload_n 0, 1) := by decide +kernel
theorem d_La_powerOf_1 : decode b_La_powerOf 1 = .ok (.iload_n 1, 1) := by decide +kernel
theorem d_La_powerOf_2 : decode b_La_powerOf 2 = .ok (.invokevirtual 56, 3) := by decide +kernel
theorem d_La_powerOf_5 : decode b_La_powerOf 5 = .ok (.aload_n 0, 1) := by decide +kernel
theorem d_La_powerOf_6 : decode b_La_powerOf 6 = .ok (.getfield 29, 3) := by decide +kernel
theorem d_La_powerOf_9 : decode b_La_powerOf 9 = .ok (.isub, 1) := by decide +kernel
theorem d_La_powerOf_10 : decode b_La_powerOf 10 = .ok (.ireturn, 1) := by decide +kernel
theorem d_Na_init_0 : decode b_Na_init 0 = .ok (.aload_n 0, 1) := by decide +kernel
theorem d_Na_init_1 : decode b_Na_init 1 = .ok (.invokespecial 1, 3) := by decide +kernel
theorem d_Na_init_4 : decode b_Na_init 4 = .ok (.aload_n 0, 1) := by decide +kernel
theorem d_Na_init_5 : decode b_Na_init 5 = .ok (.bipush 26, 2) := by decide +kernel
theorem d_Na_init_7 : decode b_Na_init 7 = .ok (.newarray .long, 2) := by decide +kernel
theorem d_Na_init_9 : decode b_Na_init 9 = .ok (.putfield 9, 3) := by decide +kernel
theorem d_Na_init_12 : decode b_Na_init 12 = .ok (.aload_n 0, 1) := by decide +kernel
theorem d_Na_init_13 : decode b_Na_init 13 = .ok (.iconst 0, 1) := by decide +kernel
theorem d_Na_init_14 : decode b_Na_init 14 = .ok (.putfield 13, 3) := by decide +kernel
theorem d_Na_init_17 : decode b_Na_init 17 = .ok (.return_, 1) := by decide +kernel
theorem d_Na_become_0 : decode b_Na_become 0 = .ok (.lload_n 1, 1) := by decide +kernel
theorem d_Na_become_1 : decode b_Na_become 1 = .ok (.lstore_n 3, 1) := by decide +kernel
theorem d_Na_become_2 : decode b_Na_become 2 = .ok (.iconst 0, 1) := by decide +kernel
theorem d_Na_become_3 : decode b_Na_become 3 = .ok (.istore 5, 2) := by decide +kernel
theorem d_Na_become_5 : decode b_Na_become 5 = .ok (.iload 5, 2) := by decide +kernel
theorem d_Na_become_7 : decode b_Na_become 7 = .ok (.aload_n 0, 1) := by decide +kernel
theorem d_Na_become_8 : decode b_Na_become 8 = .ok (.getfield 9, 3) := by decide +kernel
theorem d_Na_become_11 : decode b_Na_become 11 = .ok (.arraylength, 1) := by decide +kernel
theorem d_Na_become_12 : decode b_Na_become 12 = .ok (.if_icmp .ge 26, 3) := by decide +kernel
theorem d_Na_become_15 : decode b_Na_become 15 = .ok (.aload_n 0, 1) := by decide +kernel
theorem d_Na_become_16 : decode b_Na_become 16 = .ok (.getfield 9, 3) := by decide +kernel
theorem d_Na_become_19 : decode b_Na_become 19 = .ok (.iload 5, 2) := by decide +kernel
theorem d_Na_become_21 : decode b_Na_become 21 = .ok (.lload_n 3, 1) := by decide +kernel
theorem d_Na_become_22 : decode b_Na_become 22 = .ok (.ldc2_w 17, 3) := by decide +kernel
theorem d_Na_become_25 : decode b_Na_become 25 = .ok (.land, 1) := by decide +kernel
theorem d_Na_become_26 : decode b_Na_become 26 = .ok (.lastore, 1) := by decide +kernel
theorem d_Na_become_27 : decode b_Na_become 27 = .ok (.lload_n 3, 1) := by decide +kernel
theorem d_Na_become_28 : decode b_Na_become 28 = .ok (.bipush 32, 2) := by decide +kernel
theorem d_Na_become_30 : decode b_Na_become 30 = .ok (.lushr, 1) := by decide +kernel
theorem d_Na_become_31 : decode b_Na_become 31 = .ok (.lstore_n 3, 1) := by decide +kernel
theorem d_Na_become_32 : decode b_Na_become 32 = .ok (.iinc 5 1, 3) := by decide +kernel
theorem d_Na_become_35 : decode b_Na_become 35 = .ok (.goto (-30), 3) := by decide +kernel
theorem d_Na_become_38 : decode b_Na_become 38 = .ok (.aload_n 0, 1) := by decide +kernel
theorem d_Na_become_39 : decode b_Na_become 39 = .ok (.iconst 2, 1) := by decide +kernel
theorem d_Na_become_40 : decode b_Na_become 40 = .ok (.putfield 13, 3) := by decide +kernel
theorem d_Na_become_43 : decode b_Na_become 43 = .ok (.return_, 1) := by decide +kernel
theorem d_Na_times_0 : decode b_Na_times 0 = .ok (.lconst 0, 1) := by decide +kernel
theorem d_Na_times_1 : decode b_Na_times 1 = .ok (.lstore_n 3, 1) := by decide +kernel
theorem d_Na_times_2 : decode b_Na_times 2 = .ok (.iconst 0, 1) := by decide +kernel
theorem d_Na_times_3 : decode b_Na_times 3 = .ok (.istore 5, 2) := by decide +kernel
theorem d_Na_times_5 : decode b_Na_times 5 = .ok (.iload 5, 2) := by decide +kernel
theorem d_Na_times_7 : decode b_Na_times 7 = .ok (.aload_n 0, 1) := by decide +kernel
theorem d_Na_times_8 : decode b_Na_times 8 = .ok (.getfield 13, 3) := by decide +kernel
theorem d_Na_times_11 : decode b_Na_times 11 = .ok (.if_icmp .ge 51, 3) := by decide +kernel
theorem d_Na_times_14 : decode b_Na_times 14 = .ok (.iload 5, 2) := by decide +kernel
theorem d_Na_times_16 : decode b_Na_times 16 = .ok (.aload_n 0, 1) := by decide +kernel
theorem d_Na_times_17 : decode b_Na_times 17 = .ok (.getfield 9, 3) := by decide +kernel
theorem d_Na_times_20 : decode b_Na_times 20 = .ok (.arraylength, 1) := by decide +kernel
theorem d_Na_times_21 : decode b_Na_times 21 = .ok (.if_icmp .ge 41, 3) := by decide +kernel
theorem d_Na_times_24 : decode b_Na_times 24 = .ok (.aload_n 0, 1) := by decide +kernel
theorem d_Na_times_25 : decode b_Na_times 25 = .ok (.getfield 9, 3) := by decide +kernel
theorem d_Na_times_28 : decode b_Na_times 28 = .ok (.iload 5, 2) := by decide +kernel
theorem d_Na_times_30 : decode b_Na_times 30 = .ok (.laload, 1) := by decide +kernel
theorem d_Na_times_31 : decode b_Na_times 31 = .ok (.lload_n 1, 1) := by decide +kernel
theorem d_Na_times_32 : decode b_Na_times 32 = .ok (.lmul, 1) := by decide +kernel
theorem d_Na_times_33 : decode b_Na_times 33 = .ok (.lload_n 3, 1) := by decide +kernel
theorem d_Na_times_34 : decode b_Na_times 34 = .ok (.ladd, 1) := by decide +kernel
theorem d_Na_times_35 : decode b_Na_times 35 = .ok (.lstore 6, 2) := by decide +kernel
theorem d_Na_times_37 : decode b_Na_times 37 = .ok (.aload_n 0, 1) := by decide +kernel
theorem d_Na_times_38 : decode b_Na_times 38 = .ok (.getfield 9, 3) := by decide +kernel
theorem d_Na_times_41 : decode b_Na_times 41 = .ok (.iload 5, 2) := by decide +kernel
theorem d_Na_times_43 : decode b_Na_times 43 = .ok (.lload 6, 2) := by decide +kernel
theorem d_Na_times_45 : decode b_Na_times 45 = .ok (.ldc2_w 17, 3) := by decide +kernel
theorem d_Na_times_48 : decode b_Na_times 48 = .ok (.land, 1) := by decide +kernel
theorem d_Na_times_49 : decode b_Na_times 49 = .ok (.lastore, 1) := by decide +kernel
theorem d_Na_times_50 : decode b_Na_times 50 = .ok (.lload 6, 2) := by decide +kernel
theorem d_Na_times_52 : decode b_Na_times 52 = .ok (.bipush 32, 2) := by decide +kernel
theorem d_Na_times_54 : decode b_Na_times 54 = .ok (.lushr, 1) := by decide +kernel
theorem d_Na_times_55 : decode b_Na_times 55 = .ok (.lstore_n 3, 1) := by decide +kernel
theorem d_Na_times_56 : decode b_Na_times 56 = .ok (.iinc 5 1, 3) := by decide +kernel
theorem d_Na_times_59 : decode b_Na_times 59 = .ok (.goto (-54), 3) := by decide +kernel
theorem d_Na_times_62 : decode b_Na_times 62 = .ok (.lload_n 3, 1) := by decide +kernel
theorem d_Na_times_63 : decode b_Na_times 63 = .ok (.lconst 0, 1) := by decide +kernel
theorem d_Na_times_64 : decode b_Na_times 64 = .ok (.lcmp, 1) := by decide +kernel
theorem d_Na_times_65 : decode b_Na_times 65 = .ok (.ifCond .eq 42, 3) := by decide +kernel
theorem d_Na_times_68 : decode b_Na_times 68 = .ok (.aload_n 0, 1) := by decide +kernel
theorem d_Na_times_69 : decode b_Na_times 69 = .ok (.getfield 13, 3) := by decide +kernel
theorem d_Na_times_72 : decode b_Na_times 72 = .ok (.ifCond .lt 35, 3) := by decide +kernel
theorem d_Na_times_75 : decode b_Na_times 75 = .ok (.aload_n 0, 1) := by decide +kernel
theorem d_Na_times_76 : decode b_Na_times 76 = .ok (.getfield 13, 3) := by decide +kernel
theorem d_Na_times_79 : decode b_Na_times 79 = .ok (.aload_n 0, 1) := by decide +kernel
theorem d_Na_times_80 : decode b_Na_times 80 = .ok (.getfield 9, 3) := by decide +kernel
theorem d_Na_times_83 : decode b_Na_times 83 = .ok (.arraylength, 1) := by decide +kernel
theorem d_Na_times_84 : decode b_Na_times 84 = .ok (.if_icmp .ge 23, 3) := by decide +kernel
theorem d_Na_times_87 : decode b_Na_times 87 = .ok (.aload_n 0, 1) := by decide +kernel
theorem d_Na_times_88 : decode b_Na_times 88 = .ok (.getfield 9, 3) := by decide +kernel
theorem d_Na_times_91 : decode b_Na_times 91 = .ok (.aload_n 0, 1) := by decide +kernel
theorem d_Na_times_92 : decode b_Na_times 92 = .ok (.getfield 13, 3) := by decide +kernel
theorem d_Na_times_95 : decode b_Na_times 95 = .ok (.lload_n 3, 1) := by decide +kernel
theorem d_Na_times_96 : decode b_Na_times 96 = .ok (.lastore, 1) := by decide +kernel
theorem d_Na_times_97 : decode b_Na_times 97 = .ok (.aload_n 0, 1) := by decide +kernel
theorem d_Na_times_98 : decode b_Na_times 98 = .ok (.dup, 1) := by decide +kernel
theorem d_Na_times_99 : decode b_Na_times 99 = .ok (.getfield 13, 3) := by decide +kernel
theorem d_Na_times_102 : decode b_Na_times 102 = .ok (.iconst 1, 1) := by decide +kernel
theorem d_Na_times_103 : decode b_Na_times 103 = .ok (.iadd, 1) := by decide +kernel
theorem d_Na_times_104 : decode b_Na_times 104 = .ok (.putfield 13, 3) := by decide +kernel
theorem d_Na_times_107 : decode b_Na_times 107 = .ok (.return_, 1) := by decide +kernel
theorem d_Na_timesFives_0 : decode b_Na_timesFives 0 = .ok (.iload_n 1, 1) := by decide +kernel
theorem d_Na_timesFives_1 : decode b_Na_timesFives 1 = .ok (.istore_n 2, 1) := by decide +kernel
theorem d_Na_timesFives_2 : decode b_Na_timesFives 2 = .ok (.iload_n 2, 1) := by decide +kernel
theorem d_Na_timesFives_3 : decode b_Na_timesFives 3 = .ok (.ifCond .le 22, 3) := by decide +kernel
theorem d_Na_timesFives_6 : decode b_Na_timesFives 6 = .ok (.aload_n 0, 1) := by decide +kernel
theorem d_Na_timesFives_7 : decode b_Na_timesFives 7 = .ok (.iload_n 2, 1) := by decide +kernel
theorem d_Na_timesFives_8 : decode b_Na_timesFives 8 = .ok (.bipush 13, 2) := by decide +kernel
theorem d_Na_timesFives_10 : decode b_Na_timesFives 10 = .ok (.invokestatic 19, 3) := by decide +kernel
theorem d_Na_timesFives_13 : decode b_Na_timesFives 13 = .ok (.invokestatic 25, 3) := by decide +kernel
theorem d_Na_timesFives_16 : decode b_Na_timesFives 16 = .ok (.invokevirtual 29, 3) := by decide +kernel
theorem d_Na_timesFives_19 : decode b_Na_timesFives 19 = .ok (.iinc 2 (-13), 3) := by decide +kernel
theorem d_Na_timesFives_22 : decode b_Na_timesFives 22 = .ok (.goto (-20), 3) := by decide +kernel
theorem d_Na_timesFives_25 : decode b_Na_timesFives 25 = .ok (.return_, 1) := by decide +kernel
theorem d_Na_smallPowerOfFive_0 : decode b_Na_smallPowerOfFive 0 = .ok (.lconst 1, 1) := by decide +kernel
theorem d_Na_smallPowerOfFive_1 : decode b_Na_smallPowerOfFive 1 = .ok (.lstore_n 1, 1) := by decide +kernel
theorem d_Na_smallPowerOfFive_2 : decode b_Na_smallPowerOfFive 2 = .ok (.iconst 0, 1) := by decide +kernel
theorem d_Na_smallPowerOfFive_3 : decode b_Na_smallPowerOfFive 3 = .ok (.istore_n 3, 1) := by decide +kernel
theorem d_Na_smallPowerOfFive_4 : decode b_Na_smallPowerOfFive 4 = .ok (.iload_n 3, 1) := by decide +kernel
theorem d_Na_smallPowerOfFive_5 : decode b_Na_smallPowerOfFive 5 = .ok (.iload_n 0, 1) := by decide +kernel
theorem d_Na_smallPowerOfFive_6 : decode b_Na_smallPowerOfFive 6 = .ok (.if_icmp .ge 15, 3) := by decide +kernel
theorem d_Na_smallPowerOfFive_9 : decode b_Na_smallPowerOfFive 9 = .ok (.lload_n 1, 1) := by decide +kernel
theorem d_Na_smallPowerOfFive_10 : decode b_Na_smallPowerOfFive 10 = .ok (.ldc2_w 33, 3) := by decide +kernel
theorem d_Na_smallPowerOfFive_13 : decode b_Na_smallPowerOfFive 13 = .ok (.lmul, 1) := by decide +kernel
theorem d_Na_smallPowerOfFive_14 : decode b_Na_smallPowerOfFive 14 = .ok (.lstore_n 1, 1) := by decide +kernel
theorem d_Na_smallPowerOfFive_15 : decode b_Na_smallPowerOfFive 15 = .ok (.iinc 3 1, 3) := by decide +kernel
theorem d_Na_smallPowerOfFive_18 : decode b_Na_smallPowerOfFive 18 = .ok (.goto (-14), 3) := by decide +kernel
theorem d_Na_smallPowerOfFive_21 : decode b_Na_smallPowerOfFive 21 = .ok (.lload_n 1, 1) := by decide +kernel
theorem d_Na_smallPowerOfFive_22 : decode b_Na_smallPowerOfFive 22 = .ok (.lreturn, 1) := by decide +kernel
theorem d_Na_timesTwos_0 : decode b_Na_timesTwos 0 = .ok (.iload_n 1, 1) := by decide +kernel
theorem d_Na_timesTwos_1 : decode b_Na_timesTwos 1 = .ok (.istore_n 2, 1) := by decide +kernel
theorem d_Na_timesTwos_2 : decode b_Na_timesTwos 2 = .ok (.iload_n 2, 1) := by decide +kernel
theorem d_Na_timesTwos_3 : decode b_Na_timesTwos 3 = .ok (.ifCond .le 21, 3) := by decide +kernel
theorem d_Na_timesTwos_6 : decode b_Na_timesTwos 6 = .ok (.aload_n 0, 1) := by decide +kernel
theorem d_Na_timesTwos_7 : decode b_Na_timesTwos 7 = .ok (.lconst 1, 1) := by decide +kernel
theorem d_Na_timesTwos_8 : decode b_Na_timesTwos 8 = .ok (.iload_n 2, 1) := by decide +kernel
theorem d_Na_timesTwos_9 : decode b_Na_timesTwos 9 = .ok (.bipush 31, 2) := by decide +kernel
theorem d_Na_timesTwos_11 : decode b_Na_timesTwos 11 = .ok (.invokestatic 19, 3) := by decide +kernel
theorem d_Na_timesTwos_14 : decode b_Na_timesTwos 14 = .ok (.lshl, 1) := by decide +kernel
theorem d_Na_timesTwos_15 : decode b_Na_timesTwos 15 = .ok (.invokevirtual 29, 3) := by decide +kernel
theorem d_Na_timesTwos_18 : decode b_Na_timesTwos 18 = .ok (.iinc 2 (-31), 3) := by decide +kernel
theorem d_Na_timesTwos_21 : decode b_Na_timesTwos 21 = .ok (.goto (-19), 3) := by decide +kernel
theorem d_Na_timesTwos_24 : decode b_Na_timesTwos 24 = .ok (.return_, 1) := by decide +kernel
theorem d_Na_subtract_0 : decode b_Na_subtract 0 = .ok (.lconst 0, 1) := by decide +kernel
theorem d_Na_subtract_1 : decode b_Na_subtract 1 = .ok (.lstore_n 2, 1) := by decide +kernel
theorem d_Na_subtract_2 : decode b_Na_subtract 2 = .ok (.iconst 0, 1) := by decide +kernel
theorem d_Na_subtract_3 : decode b_Na_subtract 3 = .ok (.istore 4, 2) := by decide +kernel
theorem d_Na_subtract_5 : decode b_Na_subtract 5 = .ok (.iload 4, 2) := by decide +kernel
theorem d_Na_subtract_7 : decode b_Na_subtract 7 = .ok (.aload_n 0, 1) := by decide +kernel
theorem d_Na_subtract_8 : decode b_Na_subtract 8 = .ok (.getfield 13, 3) := by decide +kernel
theorem d_Na_subtract_11 : decode b_Na_subtract 11 = .ok (.if_icmp .ge 57, 3) := by decide +kernel
theorem d_Na_subtract_14 : decode b_Na_subtract 14 = .ok (.iload 4, 2) := by decide +kernel
theorem d_Na_subtract_16 : decode b_Na_subtract 16 = .ok (.aload_n 0, 1) := by decide +kernel
theorem d_Na_subtract_17 : decode b_Na_subtract 17 = .ok (.getfield 9, 3) := by decide +kernel
theorem d_Na_subtract_20 : decode b_Na_subtract 20 = .ok (.arraylength, 1) := by decide +kernel
theorem d_Na_subtract_21 : decode b_Na_subtract 21 = .ok (.if_icmp .ge 47, 3) := by decide +kernel
theorem d_Na_subtract_24 : decode b_Na_subtract 24 = .ok (.aload_n 0, 1) := by decide +kernel
theorem d_Na_subtract_25 : decode b_Na_subtract 25 = .ok (.getfield 9, 3) := by decide +kernel
theorem d_Na_subtract_28 : decode b_Na_subtract 28 = .ok (.iload 4, 2) := by decide +kernel
theorem d_Na_subtract_30 : decode b_Na_subtract 30 = .ok (.laload, 1) := by decide +kernel
theorem d_Na_subtract_31 : decode b_Na_subtract 31 = .ok (.aload_n 1, 1) := by decide +kernel
theorem d_Na_subtract_32 : decode b_Na_subtract 32 = .ok (.getfield 9, 3) := by decide +kernel
theorem d_Na_subtract_35 : decode b_Na_subtract 35 = .ok (.iload 4, 2) := by decide +kernel
theorem d_Na_subtract_37 : decode b_Na_subtract 37 = .ok (.laload, 1) := by decide +kernel
theorem d_Na_subtract_38 : decode b_Na_subtract 38 = .ok (.lsub, 1) := by decide +kernel
theorem d_Na_subtract_39 : decode b_Na_subtract 39 = .ok (.lload_n 2, 1) := by decide +kernel
theorem d_Na_subtract_40 : decode b_Na_subtract 40 = .ok (.ladd, 1) := by decide +kernel
theorem d_Na_subtract_41 : decode b_Na_subtract 41 = .ok (.lstore 5, 2) := by decide +kernel
theorem d_Na_subtract_43 : decode b_Na_subtract 43 = .ok (.aload_n 0, 1) := by decide +kernel
theorem d_Na_subtract_44 : decode b_Na_subtract 44 = .ok (.getfield 9, 3) := by decide +kernel
theorem d_Na_subtract_47 : decode b_Na_subtract 47 = .ok (.iload 4, 2) := by decide +kernel
theorem d_Na_subtract_49 : decode b_Na_subtract 49 = .ok (.lload 5, 2) := by decide +kernel
theorem d_Na_subtract_51 : decode b_Na_subtract 51 = .ok (.ldc2_w 17, 3) := by decide +kernel
theorem d_Na_subtract_54 : decode b_Na_subtract 54 = .ok (.land, 1) := by decide +kernel
theorem d_Na_subtract_55 : decode b_Na_subtract 55 = .ok (.lastore, 1) := by decide +kernel
theorem d_Na_subtract_56 : decode b_Na_subtract 56 = .ok (.lload 5, 2) := by decide +kernel
theorem d_Na_subtract_58 : decode b_Na_subtract 58 = .ok (.bipush 32, 2) := by decide +kernel
theorem d_Na_subtract_60 : decode b_Na_subtract 60 = .ok (.lshr, 1) := by decide +kernel
theorem d_Na_subtract_61 : decode b_Na_subtract 61 = .ok (.lstore_n 2, 1) := by decide +kernel
theorem d_Na_subtract_62 : decode b_Na_subtract 62 = .ok (.iinc 4 1, 3) := by decide +kernel
theorem d_Na_subtract_65 : decode b_Na_subtract 65 = .ok (.goto (-60), 3) := by decide +kernel
theorem d_Na_subtract_68 : decode b_Na_subtract 68 = .ok (.return_, 1) := by decide +kernel
theorem d_Na_compareWith_0 : decode b_Na_compareWith 0 = .ok (.aload_n 0, 1) := by decide +kernel
theorem d_Na_compareWith_1 : decode b_Na_compareWith 1 = .ok (.getfield 13, 3) := by decide +kernel
theorem d_Na_compareWith_4 : decode b_Na_compareWith 4 = .ok (.aload_n 1, 1) := by decide +kernel
theorem d_Na_compareWith_5 : decode b_Na_compareWith 5 = .ok (.getfield 13, 3) := by decide +kernel
theorem d_Na_compareWith_8 : decode b_Na_compareWith 8 = .ok (.invokestatic 35, 3) := by decide +kernel
theorem d_Na_compareWith_11 : decode b_Na_compareWith 11 = .ok (.aload_n 0, 1) := by decide +kernel
theorem d_Na_compareWith_12 : decode b_Na_compareWith 12 = .ok (.getfield 9, 3) := by decide +kernel
theorem d_Na_compareWith_15 : decode b_Na_compareWith 15 = .ok (.arraylength, 1) := by decide +kernel
theorem d_Na_compareWith_16 : decode b_Na_compareWith 16 = .ok (.invokestatic 19, 3) := by decide +kernel
theorem d_Na_compareWith_19 : decode b_Na_compareWith 19 = .ok (.istore_n 2, 1) := by decide +kernel
theorem d_Na_compareWith_20 : decode b_Na_compareWith 20 = .ok (.iload_n 2, 1) := by decide +kernel
theorem d_Na_compareWith_21 : decode b_Na_compareWith 21 = .ok (.iconst 1, 1) := by decide +kernel
theorem d_Na_compareWith_22 : decode b_Na_compareWith 22 = .ok (.isub, 1) := by decide +kernel
theorem d_Na_compareWith_23 : decode b_Na_compareWith 23 = .ok (.istore_n 3, 1) := by decide +kernel
theorem d_Na_compareWith_24 : decode b_Na_compareWith 24 = .ok (.iload_n 3, 1) := by decide +kernel
theorem d_Na_compareWith_25 : decode b_Na_compareWith 25 = .ok (.ifCond .lt 47, 3) := by decide +kernel
theorem d_Na_compareWith_28 : decode b_Na_compareWith 28 = .ok (.aload_n 0, 1) := by decide +kernel
theorem d_Na_compareWith_29 : decode b_Na_compareWith 29 = .ok (.getfield 9, 3) := by decide +kernel
theorem d_Na_compareWith_32 : decode b_Na_compareWith 32 = .ok (.iload_n 3, 1) := by decide +kernel
theorem d_Na_compareWith_33 : decode b_Na_compareWith 33 = .ok (.laload, 1) := by decide +kernel
theorem d_Na_compareWith_34 : decode b_Na_compareWith 34 = .ok (.aload_n 1, 1) := by decide +kernel
theorem d_Na_compareWith_35 : decode b_Na_compareWith 35 = .ok (.getfield 9, 3) := by decide +kernel
theorem d_Na_compareWith_38 : decode b_Na_compareWith 38 = .ok (.iload_n 3, 1) := by decide +kernel
theorem d_Na_compareWith_39 : decode b_Na_compareWith 39 = .ok (.laload, 1) := by decide +kernel
theorem d_Na_compareWith_40 : decode b_Na_compareWith 40 = .ok (.lcmp, 1) := by decide +kernel
theorem d_Na_compareWith_41 : decode b_Na_compareWith 41 = .ok (.ifCond .eq 25, 3) := by decide +kernel
theorem d_Na_compareWith_44 : decode b_Na_compareWith 44 = .ok (.aload_n 0, 1) := by decide +kernel
theorem d_Na_compareWith_45 : decode b_Na_compareWith 45 = .ok (.getfield 9, 3) := by decide +kernel
theorem d_Na_compareWith_48 : decode b_Na_compareWith 48 = .ok (.iload_n 3, 1) := by decide +kernel
theorem d_Na_compareWith_49 : decode b_Na_compareWith 49 = .ok (.laload, 1) := by decide +kernel
theorem d_Na_compareWith_50 : decode b_Na_compareWith 50 = .ok (.aload_n 1, 1) := by decide +kernel
theorem d_Na_compareWith_51 : decode b_Na_compareWith 51 = .ok (.getfield 9, 3) := by decide +kernel
theorem d_Na_compareWith_54 : decode b_Na_compareWith 54 = .ok (.iload_n 3, 1) := by decide +kernel
theorem d_Na_compareWith_55 : decode b_Na_compareWith 55 = .ok (.laload, 1) := by decide +kernel
theorem d_Na_compareWith_56 : decode b_Na_compareWith 56 = .ok (.lcmp, 1) := by decide +kernel
theorem d_Na_compareWith_57 : decode b_Na_compareWith 57 = .ok (.ifCond .ge 7, 3) := by decide +kernel
theorem d_Na_compareWith_60 : decode b_Na_compareWith 60 = .ok (.iconst (-1), 1) := by decide +kernel
theorem d_Na_compareWith_61 : decode b_Na_compareWith 61 = .ok (.goto 4, 3) := by decide +kernel
theorem d_Na_compareWith_64 : decode b_Na_compareWith 64 = .ok (.iconst 1, 1) := by decide +kernel
theorem d_Na_compareWith_65 : decode b_Na_compareWith 65 = .ok (.ireturn, 1) := by decide +kernel
theorem d_Na_compareWith_66 : decode b_Na_compareWith 66 = .ok (.iinc 3 (-1), 3) := by decide +kernel
theorem d_Na_compareWith_69 : decode b_Na_compareWith 69 = .ok (.goto (-45), 3) := by decide +kernel
theorem d_Na_compareWith_72 : decode b_Na_compareWith 72 = .ok (.iconst 0, 1) := by decide +kernel
theorem d_Na_compareWith_73 : decode b_Na_compareWith 73 = .ok (.ireturn, 1) := by decide +kernel
theorem d_Na_compareSum_0 : decode b_Na_compareSum 0 = .ok (.aload_n 0, 1) := by decide +kernel
theorem d_Na_compareSum_1 : decode b_Na_compareSum 1 = .ok (.getfield 13, 3) := by decide +kernel
theorem d_Na_compareSum_4 : decode b_Na_compareSum 4 = .ok (.aload_n 1, 1) := by decide +kernel
theorem d_Na_compareSum_5 : decode b_Na_compareSum 5 = .ok (.getfield 13, 3) := by decide +kernel
theorem d_Na_compareSum_8 : decode b_Na_compareSum 8 = .ok (.invokestatic 35, 3) := by decide +kernel
theorem d_Na_compareSum_11 : decode b_Na_compareSum 11 = .ok (.aload_n 2, 1) := by decide +kernel
theorem d_Na_compareSum_12 : decode b_Na_compareSum 12 = .ok (.getfield 13, 3) := by decide +kernel
theorem d_Na_compareSum_15 : decode b_Na_compareSum 15 = .ok (.invokestatic 35, 3) := by decide +kernel
theorem d_Na_compareSum_18 : decode b_Na_compareSum 18 = .ok (.bipush 26, 2) := by decide +kernel
theorem d_Na_compareSum_20 : decode b_Na_compareSum 20 = .ok (.invokestatic 19, 3) := by decide +kernel
theorem d_Na_compareSum_23 : decode b_Na_compareSum 23 = .ok (.istore_n 3, 1) := by decide +kernel
theorem d_Na_compareSum_24 : decode b_Na_compareSum 24 = .ok (.lconst 0, 1) := by decide +kernel
theorem d_Na_compareSum_25 : decode b_Na_compareSum 25 = .ok (.lstore 4, 2) := by decide +kernel
theorem d_Na_compareSum_27 : decode b_Na_compareSum 27 = .ok (.lconst 0, 1) := by decide +kernel
theorem d_Na_compareSum_28 : decode b_Na_compareSum 28 = .ok (.lstore 6, 2) := by decide +kernel
theorem d_Na_compareSum_30 : decode b_Na_compareSum 30 = .ok (.iconst 0, 1) := by decide +kernel
theorem d_Na_compareSum_31 : decode b_Na_compareSum 31 = .ok (.istore 8, 2) := by decide +kernel
theorem d_Na_compareSum_33 : decode b_Na_compareSum 33 = .ok (.iload 8, 2) := by decide +kernel
theorem d_Na_compareSum_35 : decode b_Na_compareSum 35 = .ok (.iload_n 3, 1) := by decide +kernel
theorem d_Na_compareSum_36 : decode b_Na_compareSum 36 = .ok (.if_icmp .ge 55, 3) := by decide +kernel
theorem d_Na_compareSum_39 : decode b_Na_compareSum 39 = .ok (.aload_n 2, 1) := by decide +kernel
theorem d_Na_compareSum_40 : decode b_Na_compareSum 40 = .ok (.getfield 9, 3) := by decide +kernel
theorem d_Na_compareSum_43 : decode b_Na_compareSum 43 = .ok (.iload 8, 2) := by decide +kernel
theorem d_Na_compareSum_45 : decode b_Na_compareSum 45 = .ok (.laload, 1) := by decide +kernel
theorem d_Na_compareSum_46 : decode b_Na_compareSum 46 = .ok (.aload_n 0, 1) := by decide +kernel
theorem d_Na_compareSum_47 : decode b_Na_compareSum 47 = .ok (.getfield 9, 3) := by decide +kernel
theorem d_Na_compareSum_50 : decode b_Na_compareSum 50 = .ok (.iload 8, 2) := by decide +kernel
theorem d_Na_compareSum_52 : decode b_Na_compareSum 52 = .ok (.laload, 1) := by decide +kernel
theorem d_Na_compareSum_53 : decode b_Na_compareSum 53 = .ok (.lsub, 1) := by decide +kernel
theorem d_Na_compareSum_54 : decode b_Na_compareSum 54 = .ok (.aload_n 1, 1) := by decide +kernel
theorem d_Na_compareSum_55 : decode b_Na_compareSum 55 = .ok (.getfield 9, 3) := by decide +kernel
theorem d_Na_compareSum_58 : decode b_Na_compareSum 58 = .ok (.iload 8, 2) := by decide +kernel
theorem d_Na_compareSum_60 : decode b_Na_compareSum 60 = .ok (.laload, 1) := by decide +kernel
theorem d_Na_compareSum_61 : decode b_Na_compareSum 61 = .ok (.lsub, 1) := by decide +kernel
theorem d_Na_compareSum_62 : decode b_Na_compareSum 62 = .ok (.lload 4, 2) := by decide +kernel
theorem d_Na_compareSum_64 : decode b_Na_compareSum 64 = .ok (.ladd, 1) := by decide +kernel
theorem d_Na_compareSum_65 : decode b_Na_compareSum 65 = .ok (.lstore 9, 2) := by decide +kernel
theorem d_Na_compareSum_67 : decode b_Na_compareSum 67 = .ok (.lload 6, 2) := by decide +kernel
theorem d_Na_compareSum_69 : decode b_Na_compareSum 69 = .ok (.lload 9, 2) := by decide +kernel
theorem d_Na_compareSum_71 : decode b_Na_compareSum 71 = .ok (.ldc2_w 17, 3) := by decide +kernel
theorem d_Na_compareSum_74 : decode b_Na_compareSum 74 = .ok (.land, 1) := by decide +kernel
theorem d_Na_compareSum_75 : decode b_Na_compareSum 75 = .ok (.lor, 1) := by decide +kernel
theorem d_Na_compareSum_76 : decode b_Na_compareSum 76 = .ok (.lstore 6, 2) := by decide +kernel
theorem d_Na_compareSum_78 : decode b_Na_compareSum 78 = .ok (.lload 9, 2) := by decide +kernel
theorem d_Na_compareSum_80 : decode b_Na_compareSum 80 = .ok (.bipush 32, 2) := by decide +kernel
theorem d_Na_compareSum_82 : decode b_Na_compareSum 82 = .ok (.lshr, 1) := by decide +kernel
theorem d_Na_compareSum_83 : decode b_Na_compareSum 83 = .ok (.lstore 4, 2) := by decide +kernel
theorem d_Na_compareSum_85 : decode b_Na_compareSum 85 = .ok (.iinc 8 1, 3) := by decide +kernel
theorem d_Na_compareSum_88 : decode b_Na_compareSum 88 = .ok (.goto (-55), 3) := by decide +kernel
theorem d_Na_compareSum_91 : decode b_Na_compareSum 91 = .ok (.lload 4, 2) := by decide +kernel
theorem d_Na_compareSum_93 : decode b_Na_compareSum 93 = .ok (.lconst 0, 1) := by decide +kernel
theorem d_Na_compareSum_94 : decode b_Na_compareSum 94 = .ok (.lcmp, 1) := by decide +kernel
theorem d_Na_compareSum_95 : decode b_Na_compareSum 95 = .ok (.ifCond .ge 5, 3) := by decide +kernel
theorem d_Na_compareSum_98 : decode b_Na_compareSum 98 = .ok (.iconst 1, 1) := by decide +kernel
theorem d_Na_compareSum_99 : decode b_Na_compareSum 99 = .ok (.ireturn, 1) := by decide +kernel
theorem d_Na_compareSum_100 : decode b_Na_compareSum 100 = .ok (.lload 6, 2) := by decide +kernel
theorem d_Na_compareSum_102 : decode b_Na_compareSum 102 = .ok (.lconst 0, 1) := by decide +kernel
theorem d_Na_compareSum_103 : decode b_Na_compareSum 103 = .ok (.lcmp, 1) := by decide +kernel
theorem d_Na_compareSum_104 : decode b_Na_compareSum 104 = .ok (.ifCond .ne 7, 3) := by decide +kernel
theorem d_Na_compareSum_107 : decode b_Na_compareSum 107 = .ok (.iconst 0, 1) := by decide +kernel
theorem d_Na_compareSum_108 : decode b_Na_compareSum 108 = .ok (.goto 4, 3) := by decide +kernel
theorem d_Na_compareSum_111 : decode b_Na_compareSum 111 = .ok (.iconst (-1), 1) := by decide +kernel
theorem d_Na_compareSum_112 : decode b_Na_compareSum 112 = .ok (.ireturn, 1) := by decide +kernel
theorem d_Te_init_0 : decode b_Te_init 0 = .ok (.aload_n 0, 1) := by decide +kernel
theorem d_Te_init_1 : decode b_Te_init 1 = .ok (.invokespecial 1, 3) := by decide +kernel
theorem d_Te_init_4 : decode b_Te_init 4 = .ok (.aload_n 0, 1) := by decide +kernel
theorem d_Te_init_5 : decode b_Te_init 5 = .ok (.bipush 64, 2) := by decide +kernel
theorem d_Te_init_7 : decode b_Te_init 7 = .ok (.newarray .char, 2) := by decide +kernel
theorem d_Te_init_9 : decode b_Te_init 9 = .ok (.putfield 9, 3) := by decide +kernel
theorem d_Te_init_12 : decode b_Te_init 12 = .ok (.aload_n 0, 1) := by decide +kernel
theorem d_Te_init_13 : decode b_Te_init 13 = .ok (.iconst 0, 1) := by decide +kernel
theorem d_Te_init_14 : decode b_Te_init 14 = .ok (.putfield 13, 3) := by decide +kernel
theorem d_Te_init_17 : decode b_Te_init 17 = .ok (.return_, 1) := by decide +kernel
theorem d_Te_clear_0 : decode b_Te_clear 0 = .ok (.aload_n 0, 1) := by decide +kernel
theorem d_Te_clear_1 : decode b_Te_clear 1 = .ok (.iconst 0, 1) := by decide +kernel
theorem d_Te_clear_2 : decode b_Te_clear 2 = .ok (.putfield 13, 3) := by decide +kernel
theorem d_Te_clear_5 : decode b_Te_clear 5 = .ok (.return_, 1) := by decide +kernel
theorem d_Te_put_0 : decode b_Te_put 0 = .ok (.aload_n 0, 1) := by decide +kernel
theorem d_Te_put_1 : decode b_Te_put 1 = .ok (.getfield 13, 3) := by decide +kernel
theorem d_Te_put_4 : decode b_Te_put 4 = .ok (.ifCond .lt 35, 3) := by decide +kernel
theorem d_Te_put_7 : decode b_Te_put 7 = .ok (.aload_n 0, 1) := by decide +kernel
theorem d_Te_put_8 : decode b_Te_put 8 = .ok (.getfield 13, 3) := by decide +kernel
theorem d_Te_put_11 : decode b_Te_put 11 = .ok (.aload_n 0, 1) := by decide +kernel
theorem d_Te_put_12 : decode b_Te_put 12 = .ok (.getfield 9, 3) := by decide +kernel
theorem d_Te_put_15 : decode b_Te_put 15 = .ok (.arraylength, 1) := by decide +kernel
theorem d_Te_put_16 : decode b_Te_put 16 = .ok (.if_icmp .ge 23, 3) := by decide +kernel
theorem d_Te_put_19 : decode b_Te_put 19 = .ok (.aload_n 0, 1) := by decide +kernel
theorem d_Te_put_20 : decode b_Te_put 20 = .ok (.getfield 9, 3) := by decide +kernel
theorem d_Te_put_23 : decode b_Te_put 23 = .ok (.aload_n 0, 1) := by decide +kernel
theorem d_Te_put_24 : decode b_Te_put 24 = .ok (.getfield 13, 3) := by decide +kernel
theorem d_Te_put_27 : decode b_Te_put 27 = .ok (.iload_n 1, 1) := by decide +kernel
theorem d_Te_put_28 : decode b_Te_put 28 = .ok (.castore, 1) := by decide +kernel
theorem d_Te_put_29 : decode b_Te_put 29 = .ok (.aload_n 0, 1) := by decide +kernel
theorem d_Te_put_30 : decode b_Te_put 30 = .ok (.dup, 1) := by decide +kernel
theorem d_Te_put_31 : decode b_Te_put 31 = .ok (.getfield 13, 3) := by decide +kernel
theorem d_Te_put_34 : decode b_Te_put 34 = .ok (.iconst 1, 1) := by decide +kernel
theorem d_Te_put_35 : decode b_Te_put 35 = .ok (.iadd, 1) := by decide +kernel
theorem d_Te_put_36 : decode b_Te_put 36 = .ok (.putfield 13, 3) := by decide +kernel
theorem d_Te_put_39 : decode b_Te_put 39 = .ok (.return_, 1) := by decide +kernel
theorem d_Te_putAll_0 : decode b_Te_putAll 0 = .ok (.iconst 0, 1) := by decide +kernel
theorem d_Te_putAll_1 : decode b_Te_putAll 1 = .ok (.istore_n 2, 1) := by decide +kernel
theorem d_Te_putAll_2 : decode b_Te_putAll 2 = .ok (.iload_n 2, 1) := by decide +kernel
theorem d_Te_putAll_3 : decode b_Te_putAll 3 = .ok (.aload_n 1, 1) := by decide +kernel
theorem d_Te_putAll_4 : decode b_Te_putAll 4 = .ok (.invokevirtual 17, 3) := by decide +kernel
theorem d_Te_putAll_7 : decode b_Te_putAll 7 = .ok (.if_icmp .ge 18, 3) := by decide +kernel
theorem d_Te_putAll_10 : decode b_Te_putAll 10 = .ok (.aload_n 0, 1) := by decide +kernel
theorem d_Te_putAll_11 : decode b_Te_putAll 11 = .ok (.aload_n 1, 1) := by decide +kernel
theorem d_Te_putAll_12 : decode b_Te_putAll 12 = .ok (.iload_n 2, 1) := by decide +kernel
theorem d_Te_putAll_13 : decode b_Te_putAll 13 = .ok (.invokevirtual 23, 3) := by decide +kernel
theorem d_Te_putAll_16 : decode b_Te_putAll 16 = .ok (.invokevirtual 27, 3) := by decide +kernel
theorem d_Te_putAll_19 : decode b_Te_putAll 19 = .ok (.iinc 2 1, 3) := by decide +kernel
theorem d_Te_putAll_22 : decode b_Te_putAll 22 = .ok (.goto (-20), 3) := by decide +kernel
theorem d_Te_putAll_25 : decode b_Te_putAll 25 = .ok (.return_, 1) := by decide +kernel
theorem d_Te_putWhole_0 : decode b_Te_putWhole 0 = .ok (.iload_n 1, 1) := by decide +kernel
theorem d_Te_putWhole_1 : decode b_Te_putWhole 1 = .ok (.ifCond .ge 9, 3) := by decide +kernel
theorem d_Te_putWhole_4 : decode b_Te_putWhole 4 = .ok (.aload_n 0, 1) := by decide +kernel
theorem d_Te_putWhole_5 : decode b_Te_putWhole 5 = .ok (.bipush 45, 2) := by decide +kernel
theorem d_Te_putWhole_7 : decode b_Te_putWhole 7 = .ok (.invokevirtual 27, 3) := by decide +kernel
theorem d_Te_putWhole_10 : decode b_Te_putWhole 10 = .ok (.iload_n 1, 1) := by decide +kernel
theorem d_Te_putWhole_11 : decode b_Te_putWhole 11 = .ok (.invokestatic 31, 3) := by decide +kernel
theorem d_Te_putWhole_14 : decode b_Te_putWhole 14 = .ok (.istore_n 2, 1) := by decide +kernel
theorem d_Te_putWhole_15 : decode b_Te_putWhole 15 = .ok (.sipush 1000, 3) := by decide +kernel
theorem d_Te_putWhole_18 : decode b_Te_putWhole 18 = .ok (.istore_n 3, 1) := by decide +kernel
theorem d_Te_putWhole_19 : decode b_Te_putWhole 19 = .ok (.iload_n 3, 1) := by decide +kernel
theorem d_Te_putWhole_20 : decode b_Te_putWhole 20 = .ok (.iconst 1, 1) := by decide +kernel
theorem d_Te_putWhole_21 : decode b_Te_putWhole 21 = .ok (.if_icmp .lt 35, 3) := by decide +kernel
theorem d_Te_putWhole_24 : decode b_Te_putWhole 24 = .ok (.iload_n 2, 1) := by decide +kernel
theorem d_Te_putWhole_25 : decode b_Te_putWhole 25 = .ok (.iload_n 3, 1) := by decide +kernel
theorem d_Te_putWhole_26 : decode b_Te_putWhole 26 = .ok (.if_icmp .ge 8, 3) := by decide +kernel
theorem d_Te_putWhole_29 : decode b_Te_putWhole 29 = .ok (.iload_n 3, 1) := by decide +kernel
theorem d_Te_putWhole_30 : decode b_Te_putWhole 30 = .ok (.iconst 1, 1) := by decide +kernel
theorem d_Te_putWhole_31 : decode b_Te_putWhole 31 = .ok (.if_icmp .ne 17, 3) := by decide +kernel
theorem d_Te_putWhole_34 : decode b_Te_putWhole 34 = .ok (.aload_n 0, 1) := by decide +kernel
theorem d_Te_putWhole_35 : decode b_Te_putWhole 35 = .ok (.bipush 48, 2) := by decide +kernel
theorem d_Te_putWhole_37 : decode b_Te_putWhole 37 = .ok (.iload_n 2, 1) := by decide +kernel
theorem d_Te_putWhole_38 : decode b_Te_putWhole 38 = .ok (.iload_n 3, 1) := by decide +kernel
theorem d_Te_putWhole_39 : decode b_Te_putWhole 39 = .ok (.idiv, 1) := by decide +kernel
theorem d_Te_putWhole_40 : decode b_Te_putWhole 40 = .ok (.bipush 10, 2) := by decide +kernel
theorem d_Te_putWhole_42 : decode b_Te_putWhole 42 = .ok (.irem, 1) := by decide +kernel
theorem d_Te_putWhole_43 : decode b_Te_putWhole 43 = .ok (.iadd, 1) := by decide +kernel
theorem d_Te_putWhole_44 : decode b_Te_putWhole 44 = .ok (.i2c, 1) := by decide +kernel
theorem d_Te_putWhole_45 : decode b_Te_putWhole 45 = .ok (.invokevirtual 27, 3) := by decide +kernel
theorem d_Te_putWhole_48 : decode b_Te_putWhole 48 = .ok (.iload_n 3, 1) := by decide +kernel
theorem d_Te_putWhole_49 : decode b_Te_putWhole 49 = .ok (.bipush 10, 2) := by decide +kernel
theorem d_Te_putWhole_51 : decode b_Te_putWhole 51 = .ok (.idiv, 1) := by decide +kernel
theorem d_Te_putWhole_52 : decode b_Te_putWhole 52 = .ok (.istore_n 3, 1) := by decide +kernel
theorem d_Te_putWhole_53 : decode b_Te_putWhole 53 = .ok (.goto (-34), 3) := by decide +kernel
theorem d_Te_putWhole_56 : decode b_Te_putWhole 56 = .ok (.return_, 1) := by decide +kernel
theorem d_Te_putHexPlaces_0 : decode b_Te_putHexPlaces 0 = .ok (.iconst 0, 1) := by decide +kernel
theorem d_Te_putHexPlaces_1 : decode b_Te_putHexPlaces 1 = .ok (.istore 4, 2) := by decide +kernel
theorem d_Te_putHexPlaces_3 : decode b_Te_putHexPlaces 3 = .ok (.iload 4, 2) := by decide +kernel
theorem d_Te_putHexPlaces_5 : decode b_Te_putHexPlaces 5 = .ok (.iload_n 3, 1) := by decide +kernel
theorem d_Te_putHexPlaces_6 : decode b_Te_putHexPlaces 6 = .ok (.iconst 1, 1) := by decide +kernel
theorem d_Te_putHexPlaces_7 : decode b_Te_putHexPlaces 7 = .ok (.isub, 1) := by decide +kernel
theorem d_Te_putHexPlaces_8 : decode b_Te_putHexPlaces 8 = .ok (.if_icmp .ge 24, 3) := by decide +kernel
theorem d_Te_putHexPlaces_11 : decode b_Te_putHexPlaces 11 = .ok (.lload_n 1, 1) := by decide +kernel
theorem d_Te_putHexPlaces_12 : decode b_Te_putHexPlaces 12 = .ok (.iconst 4, 1) := by decide +kernel
theorem d_Te_putHexPlaces_13 : decode b_Te_putHexPlaces 13 = .ok (.iload 4, 2) := by decide +kernel
theorem d_Te_putHexPlaces_15 : decode b_Te_putHexPlaces 15 = .ok (.imul, 1) := by decide +kernel
theorem d_Te_putHexPlaces_16 : decode b_Te_putHexPlaces 16 = .ok (.lushr, 1) := by decide +kernel
theorem d_Te_putHexPlaces_17 : decode b_Te_putHexPlaces 17 = .ok (.ldc2_w 37, 3) := by decide +kernel
theorem d_Te_putHexPlaces_20 : decode b_Te_putHexPlaces 20 = .ok (.land, 1) := by decide +kernel
theorem d_Te_putHexPlaces_21 : decode b_Te_putHexPlaces 21 = .ok (.lconst 0, 1) := by decide +kernel
theorem d_Te_putHexPlaces_22 : decode b_Te_putHexPlaces 22 = .ok (.lcmp, 1) := by decide +kernel
theorem d_Te_putHexPlaces_23 : decode b_Te_putHexPlaces 23 = .ok (.ifCond .ne 9, 3) := by decide +kernel
theorem d_Te_putHexPlaces_26 : decode b_Te_putHexPlaces 26 = .ok (.iinc 4 1, 3) := by decide +kernel
theorem d_Te_putHexPlaces_29 : decode b_Te_putHexPlaces 29 = .ok (.goto (-26), 3) := by decide +kernel
theorem d_Te_putHexPlaces_32 : decode b_Te_putHexPlaces 32 = .ok (.iload_n 3, 1) := by decide +kernel
theorem d_Te_putHexPlaces_33 : decode b_Te_putHexPlaces 33 = .ok (.iconst 1, 1) := by decide +kernel
theorem d_Te_putHexPlaces_34 : decode b_Te_putHexPlaces 34 = .ok (.isub, 1) := by decide +kernel
theorem d_Te_putHexPlaces_35 : decode b_Te_putHexPlaces 35 = .ok (.istore 5, 2) := by decide +kernel
theorem d_Te_putHexPlaces_37 : decode b_Te_putHexPlaces 37 = .ok (.iload 5, 2) := by decide +kernel
theorem d_Te_putHexPlaces_39 : decode b_Te_putHexPlaces 39 = .ok (.iload 4, 2) := by decide +kernel
theorem d_Te_putHexPlaces_41 : decode b_Te_putHexPlaces 41 = .ok (.if_icmp .lt 26, 3) := by decide +kernel
theorem d_Te_putHexPlaces_44 : decode b_Te_putHexPlaces 44 = .ok (.aload_n 0, 1) := by decide +kernel
theorem d_Te_putHexPlaces_45 : decode b_Te_putHexPlaces 45 = .ok (.lload_n 1, 1) := by decide +kernel
theorem d_Te_putHexPlaces_46 : decode b_Te_putHexPlaces 46 = .ok (.iconst 4, 1) := by decide +kernel
theorem d_Te_putHexPlaces_47 : decode b_Te_putHexPlaces 47 = .ok (.iload 5, 2) := by decide +kernel
theorem d_Te_putHexPlaces_49 : decode b_Te_putHexPlaces 49 = .ok (.imul, 1) := by decide +kernel
theorem d_Te_putHexPlaces_50 : decode b_Te_putHexPlaces 50 = .ok (.lushr, 1) := by decide +kernel
theorem d_Te_putHexPlaces_51 : decode b_Te_putHexPlaces 51 = .ok (.l2i, 1) := by decide +kernel
theorem d_Te_putHexPlaces_52 : decode b_Te_putHexPlaces 52 = .ok (.bipush 15, 2) := by decide +kernel
theorem d_Te_putHexPlaces_54 : decode b_Te_putHexPlaces 54 = .ok (.iand, 1) := by decide +kernel
theorem d_Te_putHexPlaces_55 : decode b_Te_putHexPlaces 55 = .ok (.invokestatic 39, 3) := by decide +kernel
theorem d_Te_putHexPlaces_58 : decode b_Te_putHexPlaces 58 = .ok (.invokevirtual 27, 3) := by decide +kernel
theorem d_Te_putHexPlaces_61 : decode b_Te_putHexPlaces 61 = .ok (.iinc 5 (-1), 3) := by decide +kernel
theorem d_Te_putHexPlaces_64 : decode b_Te_putHexPlaces 64 = .ok (.goto (-27), 3) := by decide +kernel
theorem d_Te_putHexPlaces_67 : decode b_Te_putHexPlaces 67 = .ok (.return_, 1) := by decide +kernel
theorem d_Te_codeAt_0 : decode b_Te_codeAt 0 = .ok (.iload_n 1, 1) := by decide +kernel
theorem d_Te_codeAt_1 : decode b_Te_codeAt 1 = .ok (.ifCond .lt 29, 3) := by decide +kernel
theorem d_Te_codeAt_4 : decode b_Te_codeAt 4 = .ok (.iload_n 1, 1) := by decide +kernel
theorem d_Te_codeAt_5 : decode b_Te_codeAt 5 = .ok (.aload_n 0, 1) := by decide +kernel
theorem d_Te_codeAt_6 : decode b_Te_codeAt 6 = .ok (.getfield 13, 3) := by decide +kernel
theorem d_Te_codeAt_9 : decode b_Te_codeAt 9 = .ok (.if_icmp .ge 21, 3) := by decide +kernel
theorem d_Te_codeAt_12 : decode b_Te_codeAt 12 = .ok (.iload_n 1, 1) := by decide +kernel
theorem d_Te_codeAt_13 : decode b_Te_codeAt 13 = .ok (.aload_n 0, 1) := by decide +kernel
theorem d_Te_codeAt_14 : decode b_Te_codeAt 14 = .ok (.getfield 9, 3) := by decide +kernel
theorem d_Te_codeAt_17 : decode b_Te_codeAt 17 = .ok (.arraylength, 1) := by decide +kernel
theorem d_Te_codeAt_18 : decode b_Te_codeAt 18 = .ok (.if_icmp .ge 12, 3) := by decide +kernel
theorem d_Te_codeAt_21 : decode b_Te_codeAt 21 = .ok (.aload_n 0, 1) := by decide +kernel
theorem d_Te_codeAt_22 : decode b_Te_codeAt 22 = .ok (.getfield 9, 3) := by decide +kernel
theorem d_Te_codeAt_25 : decode b_Te_codeAt 25 = .ok (.iload_n 1, 1) := by decide +kernel
theorem d_Te_codeAt_26 : decode b_Te_codeAt 26 = .ok (.caload, 1) := by decide +kernel
theorem d_Te_codeAt_27 : decode b_Te_codeAt 27 = .ok (.goto 4, 3) := by decide +kernel
theorem d_Te_codeAt_30 : decode b_Te_codeAt 30 = .ok (.iconst (-1), 1) := by decide +kernel
theorem d_Te_codeAt_31 : decode b_Te_codeAt 31 = .ok (.ireturn, 1) := by decide +kernel
theorem d_Te_hexDigit_0 : decode b_Te_hexDigit 0 = .ok (.iload_n 0, 1) := by decide +kernel
theorem d_Te_hexDigit_1 : decode b_Te_hexDigit 1 = .ok (.bipush 10, 2) := by decide +kernel
theorem d_Te_hexDigit_3 : decode b_Te_hexDigit 3 = .ok (.if_icmp .ge 10, 3) := by decide +kernel
theorem d_Te_hexDigit_6 : decode b_Te_hexDigit 6 = .ok (.bipush 48, 2) := by decide +kernel
theorem d_Te_hexDigit_8 : decode b_Te_hexDigit 8 = .ok (.iload_n 0, 1) := by decide +kernel
theorem d_Te_hexDigit_9 : decode b_Te_hexDigit 9 = .ok (.iadd, 1) := by decide +kernel
theorem d_Te_hexDigit_10 : decode b_Te_hexDigit 10 = .ok (.goto 10, 3) := by decide +kernel
theorem d_Te_hexDigit_13 : decode b_Te_hexDigit 13 = .ok (.bipush 97, 2) := by decide +kernel
theorem d_Te_hexDigit_15 : decode b_Te_hexDigit 15 = .ok (.iload_n 0, 1) := by decide +kernel
theorem d_Te_hexDigit_16 : decode b_Te_hexDigit 16 = .ok (.iadd, 1) := by decide +kernel
theorem d_Te_hexDigit_17 : decode b_Te_hexDigit 17 = .ok (.bipush 10, 2) := by decide +kernel
theorem d_Te_hexDigit_19 : decode b_Te_hexDigit 19 = .ok (.isub, 1) := by decide +kernel
theorem d_Te_hexDigit_20 : decode b_Te_hexDigit 20 = .ok (.i2c, 1) := by decide +kernel
theorem d_Te_hexDigit_21 : decode b_Te_hexDigit 21 = .ok (.ireturn, 1) := by decide +kernel
end
section
theorem d_Mo_init_0 : decode b_Mo_init 0 = .ok (.aload_n 0, 1) := by decide +kernel
theorem d_Mo_init_1 : decode b_Mo_init 1 = .ok (.invokespecial 1, 3) := by decide +kernel
theorem d_Mo_init_4 : decode b_Mo_init 4 = .ok (.aload_n 0, 1) := by decide +kernel
theorem d_Mo_init_5 : decode b_Mo_init 5 = .ok (.bipush (-3), 2) := by decide +kernel
theorem d_Mo_init_7 : decode b_Mo_init 7 = .ok (.putfield 7, 3) := by decide +kernel
theorem d_Mo_init_10 : decode b_Mo_init 10 = .ok (.aload_n 0, 1) := by decide +kernel
theorem d_Mo_init_11 : decode b_Mo_init 11 = .ok (.bipush 7, 2) := by decide +kernel
theorem d_Mo_init_13 : decode b_Mo_init 13 = .ok (.putfield 13, 3) := by decide +kernel
theorem d_Mo_init_16 : decode b_Mo_init 16 = .ok (.aload_n 0, 1) := by decide +kernel
theorem d_Mo_init_17 : decode b_Mo_init 17 = .ok (.bipush 96, 2) := by decide +kernel
theorem d_Mo_init_19 : decode b_Mo_init 19 = .ok (.newarray .int, 2) := by decide +kernel
theorem d_Mo_init_21 : decode b_Mo_init 21 = .ok (.putfield 16, 3) := by decide +kernel
theorem d_Mo_init_24 : decode b_Mo_init 24 = .ok (.aload_n 0, 1) := by decide +kernel
theorem d_Mo_init_25 : decode b_Mo_init 25 = .ok (.bipush 96, 2) := by decide +kernel
theorem d_Mo_init_27 : decode b_Mo_init 27 = .ok (.newarray .long, 2) := by decide +kernel
theorem d_Mo_init_29 : decode b_Mo_init 29 = .ok (.putfield 20, 3) := by decide +kernel
theorem d_Mo_init_32 : decode b_Mo_init 32 = .ok (.aload_n 0, 1) := by decide +kernel
theorem d_Mo_init_33 : decode b_Mo_init 33 = .ok (.bipush 96, 2) := by decide +kernel
theorem d_Mo_init_35 : decode b_Mo_init 35 = .ok (.newarray .long, 2) := by decide +kernel
theorem d_Mo_init_37 : decode b_Mo_init 37 = .ok (.putfield 24, 3) := by decide +kernel
theorem d_Mo_init_40 : decode b_Mo_init 40 = .ok (.aload_n 0, 1) := by decide +kernel
theorem d_Mo_init_41 : decode b_Mo_init 41 = .ok (.sipush 864, 3) := by decide +kernel
theorem d_Mo_init_44 : decode b_Mo_init 44 = .ok (.newarray .int, 2) := by decide +kernel
theorem d_Mo_init_46 : decode b_Mo_init 46 = .ok (.putfield 27, 3) := by decide +kernel
theorem d_Mo_init_49 : decode b_Mo_init 49 = .ok (.aload_n 0, 1) := by decide +kernel
theorem d_Mo_init_50 : decode b_Mo_init 50 = .ok (.sipush 864, 3) := by decide +kernel
theorem d_Mo_init_53 : decode b_Mo_init 53 = .ok (.newarray .int, 2) := by decide +kernel
theorem d_Mo_init_55 : decode b_Mo_init 55 = .ok (.putfield 30, 3) := by decide +kernel
theorem d_Mo_init_58 : decode b_Mo_init 58 = .ok (.aload_n 0, 1) := by decide +kernel
theorem d_Mo_init_59 : decode b_Mo_init 59 = .ok (.sipush 864, 3) := by decide +kernel
theorem d_Mo_init_62 : decode b_Mo_init 62 = .ok (.newarray .int, 2) := by decide +kernel
theorem d_Mo_init_64 : decode b_Mo_init 64 = .ok (.putfield 33, 3) := by decide +kernel
theorem d_Mo_init_67 : decode b_Mo_init 67 = .ok (.aload_n 0, 1) := by decide +kernel
theorem d_Mo_init_68 : decode b_Mo_init 68 = .ok (.sipush 864, 3) := by decide +kernel
theorem d_Mo_init_71 : decode b_Mo_init 71 = .ok (.newarray .int, 2) := by decide +kernel
theorem d_Mo_init_73 : decode b_Mo_init 73 = .ok (.putfield 36, 3) := by decide +kernel
theorem d_Mo_init_76 : decode b_Mo_init 76 = .ok (.aload_n 0, 1) := by decide +kernel
theorem d_Mo_init_77 : decode b_Mo_init 77 = .ok (.sipush 864, 3) := by decide +kernel
theorem d_Mo_init_80 : decode b_Mo_init 80 = .ok (.newarray .int, 2) := by decide +kernel
theorem d_Mo_init_82 : decode b_Mo_init 82 = .ok (.putfield 39, 3) := by decide +kernel
theorem d_Mo_init_85 : decode b_Mo_init 85 = .ok (.aload_n 0, 1) := by decide +kernel
theorem d_Mo_init_86 : decode b_Mo_init 86 = .ok (.sipush 864, 3) := by decide +kernel
theorem d_Mo_init_89 : decode b_Mo_init 89 = .ok (.newarray .int, 2) := by decide +kernel
theorem d_Mo_init_91 : decode b_Mo_init 91 = .ok (.putfield 42, 3) := by decide +kernel
theorem d_Mo_init_94 : decode b_Mo_init 94 = .ok (.aload_n 0, 1) := by decide +kernel
theorem d_Mo_init_95 : decode b_Mo_init 95 = .ok (.sipush 864, 3) := by decide +kernel
theorem d_Mo_init_98 : decode b_Mo_init 98 = .ok (.newarray .int, 2) := by decide +kernel
theorem d_Mo_init_100 : decode b_Mo_init 100 = .ok (.putfield 45, 3) := by decide +kernel
theorem d_Mo_init_103 : decode b_Mo_init 103 = .ok (.return_, 1) := by decide +kernel
theorem d_Mo_bounds_0 : decode b_Mo_bounds 0 = .ok (.aload_n 0, 1) := by decide +kernel
theorem d_Mo_bounds_1 : decode b_Mo_bounds 1 = .ok (.iconst 0, 1) := by decide +kernel
theorem d_Mo_bounds_2 : decode b_Mo_bounds 2 = .ok (.putfield 48, 3) := by decide +kernel
theorem d_Mo_bounds_5 : decode b_Mo_bounds 5 = .ok (.iload_n 1, 1) := by decide +kernel
theorem d_Mo_bounds_6 : decode b_Mo_bounds 6 = .ok (.bipush (-30), 2) := by decide +kernel
theorem d_Mo_bounds_8 : decode b_Mo_bounds 8 = .ok (.if_icmp .lt 18, 3) := by decide +kernel
theorem d_Mo_bounds_11 : decode b_Mo_bounds 11 = .ok (.iload_n 1, 1) := by decide +kernel
theorem d_Mo_bounds_12 : decode b_Mo_bounds 12 = .ok (.ifCond .gt 14, 3) := by decide +kernel
theorem d_Mo_bounds_15 : decode b_Mo_bounds 15 = .ok (.iload_n 2, 1) := by decide +kernel
theorem d_Mo_bounds_16 : decode b_Mo_bounds 16 = .ok (.iconst 1, 1) := by decide +kernel
theorem d_Mo_bounds_17 : decode b_Mo_bounds 17 = .ok (.if_icmp .lt 9, 3) := by decide +kernel
theorem d_Mo_bounds_20 : decode b_Mo_bounds 20 = .ok (.iload_n 2, 1) := by decide +kernel
theorem d_Mo_bounds_21 : decode b_Mo_bounds 21 = .ok (.bipush 30, 2) := by decide +kernel
theorem d_Mo_bounds_23 : decode b_Mo_bounds 23 = .ok (.if_icmp .le 5, 3) := by decide +kernel
theorem d_Mo_bounds_26 : decode b_Mo_bounds 26 = .ok (.iconst 0, 1) := by decide +kernel
theorem d_Mo_bounds_27 : decode b_Mo_bounds 27 = .ok (.ireturn, 1) := by decide +kernel
theorem d_Mo_bounds_28 : decode b_Mo_bounds 28 = .ok (.aload_n 0, 1) := by decide +kernel
theorem d_Mo_bounds_29 : decode b_Mo_bounds 29 = .ok (.iload_n 1, 1) := by decide +kernel
theorem d_Mo_bounds_30 : decode b_Mo_bounds 30 = .ok (.putfield 7, 3) := by decide +kernel
theorem d_Mo_bounds_33 : decode b_Mo_bounds 33 = .ok (.aload_n 0, 1) := by decide +kernel
theorem d_Mo_bounds_34 : decode b_Mo_bounds 34 = .ok (.iload_n 2, 1) := by decide +kernel
theorem d_Mo_bounds_35 : decode b_Mo_bounds 35 = .ok (.putfield 13, 3) := by decide +kernel
theorem d_Mo_bounds_38 : decode b_Mo_bounds 38 = .ok (.iconst 1, 1) := by decide +kernel
theorem d_Mo_bounds_39 : decode b_Mo_bounds 39 = .ok (.ireturn, 1) := by decide +kernel
theorem d_Mo_exponent_0 : decode b_Mo_exponent 0 = .ok (.aload_n 0, 1) := by decide +kernel
theorem d_Mo_exponent_1 : decode b_Mo_exponent 1 = .ok (.getfield 51, 3) := by decide +kernel
theorem d_Mo_exponent_4 : decode b_Mo_exponent 4 = .ok (.ifCond .eq 18, 3) := by decide +kernel
theorem d_Mo_exponent_7 : decode b_Mo_exponent 7 = .ok (.aload_n 0, 1) := by decide +kernel
theorem d_Mo_exponent_8 : decode b_Mo_exponent 8 = .ok (.getfield 55, 3) := by decide +kernel
theorem d_Mo_exponent_11 : decode b_Mo_exponent 11 = .ok (.bipush 52, 2) := by decide +kernel
theorem d_Mo_exponent_13 : decode b_Mo_exponent 13 = .ok (.lshr, 1) := by decide +kernel
theorem d_Mo_exponent_14 : decode b_Mo_exponent 14 = .ok (.l2i, 1) := by decide +kernel
theorem d_Mo_exponent_15 : decode b_Mo_exponent 15 = .ok (.sipush 2047, 3) := by decide +kernel
theorem d_Mo_exponent_18 : decode b_Mo_exponent 18 = .ok (.iand, 1) := by decide +kernel
theorem d_Mo_exponent_19 : decode b_Mo_exponent 19 = .ok (.goto 15, 3) := by decide +kernel
theorem d_Mo_exponent_22 : decode b_Mo_exponent 22 = .ok (.aload_n 0, 1) := by decide +kernel
theorem d_Mo_exponent_23 : decode b_Mo_exponent 23 = .ok (.getfield 55, 3) := by decide +kernel
theorem d_Mo_exponent_26 : decode b_Mo_exponent 26 = .ok (.bipush 23, 2) := by decide +kernel
theorem d_Mo_exponent_28 : decode b_Mo_exponent 28 = .ok (.lshr, 1) := by decide +kernel
theorem d_Mo_exponent_29 : decode b_Mo_exponent 29 = .ok (.l2i, 1) := by decide +kernel
theorem d_Mo_exponent_30 : decode b_Mo_exponent 30 = .ok (.sipush 255, 3) := by decide +kernel
theorem d_Mo_exponent_33 : decode b_Mo_exponent 33 = .ok (.iand, 1) := by decide +kernel
theorem d_Mo_exponent_34 : decode b_Mo_exponent 34 = .ok (.ireturn, 1) := by decide +kernel
theorem d_Mo_fraction_0 : decode b_Mo_fraction 0 = .ok (.aload_n 0, 1) := by decide +kernel
theorem d_Mo_fraction_1 : decode b_Mo_fraction 1 = .ok (.getfield 51, 3) := by decide +kernel
theorem d_Mo_fraction_4 : decode b_Mo_fraction 4 = .ok (.ifCond .eq 14, 3) := by decide +kernel
theorem d_Mo_fraction_7 : decode b_Mo_fraction 7 = .ok (.aload_n 0, 1) := by decide +kernel
theorem d_Mo_fraction_8 : decode b_Mo_fraction 8 = .ok (.getfield 55, 3) := by decide +kernel
theorem d_Mo_fraction_11 : decode b_Mo_fraction 11 = .ok (.ldc2_w 59, 3) := by decide +kernel
theorem d_Mo_fraction_14 : decode b_Mo_fraction 14 = .ok (.land, 1) := by decide +kernel
theorem d_Mo_fraction_15 : decode b_Mo_fraction 15 = .ok (.goto 11, 3) := by decide +kernel
theorem d_Mo_fraction_18 : decode b_Mo_fraction 18 = .ok (.aload_n 0, 1) := by decide +kernel
theorem d_Mo_fraction_19 : decode b_Mo_fraction 19 = .ok (.getfield 55, 3) := by decide +kernel
theorem d_Mo_fraction_22 : decode b_Mo_fraction 22 = .ok (.ldc2_w 61, 3) := by decide +kernel
theorem d_Mo_fraction_25 : decode b_Mo_fraction 25 = .ok (.land, 1) := by decide +kernel
theorem d_Mo_fraction_26 : decode b_Mo_fraction 26 = .ok (.lreturn, 1) := by decide +kernel
theorem d_Mo_isLast_0 : decode b_Mo_isLast 0 = .ok (.aload_n 0, 1) := by decide +kernel
theorem d_Mo_isLast_1 : decode b_Mo_isLast 1 = .ok (.invokevirtual 63, 3) := by decide +kernel
theorem d_Mo_isLast_4 : decode b_Mo_isLast 4 = .ok (.aload_n 0, 1) := by decide +kernel
theorem d_Mo_isLast_5 : decode b_Mo_isLast 5 = .ok (.getfield 51, 3) := by decide +kernel
theorem d_Mo_isLast_8 : decode b_Mo_isLast 8 = .ok (.ifCond .eq 9, 3) := by decide +kernel
theorem d_Mo_isLast_11 : decode b_Mo_isLast 11 = .ok (.sipush 2047, 3) := by decide +kernel
theorem d_Mo_isLast_14 : decode b_Mo_isLast 14 = .ok (.goto 6, 3) := by decide +kernel
theorem d_Mo_isLast_17 : decode b_Mo_isLast 17 = .ok (.sipush 255, 3) := by decide +kernel
theorem d_Mo_isLast_20 : decode b_Mo_isLast 20 = .ok (.if_icmp .ne 7, 3) := by decide +kernel
theorem d_Mo_isLast_23 : decode b_Mo_isLast 23 = .ok (.iconst 1, 1) := by decide +kernel
theorem d_Mo_isLast_24 : decode b_Mo_isLast 24 = .ok (.goto 4, 3) := by decide +kernel
theorem d_Mo_isLast_27 : decode b_Mo_isLast 27 = .ok (.iconst 0, 1) := by decide +kernel
theorem d_Mo_isLast_28 : decode b_Mo_isLast 28 = .ok (.ireturn, 1) := by decide +kernel
theorem d_Mo_minus_0 : decode b_Mo_minus 0 = .ok (.aload_n 0, 1) := by decide +kernel
theorem d_Mo_minus_1 : decode b_Mo_minus 1 = .ok (.iconst 0, 1) := by decide +kernel
theorem d_Mo_minus_2 : decode b_Mo_minus 2 = .ok (.putfield 48, 3) := by decide +kernel
theorem d_Mo_minus_5 : decode b_Mo_minus 5 = .ok (.aload_n 0, 1) := by decide +kernel
theorem d_Mo_minus_6 : decode b_Mo_minus 6 = .ok (.getfield 67, 3) := by decide +kernel
theorem d_Mo_minus_9 : decode b_Mo_minus 9 = .ok (.ifCond .eq 40, 3) := by decide +kernel
theorem d_Mo_minus_12 : decode b_Mo_minus 12 = .ok (.aload_n 0, 1) := by decide +kernel
theorem d_Mo_minus_13 : decode b_Mo_minus 13 = .ok (.getfield 51, 3) := by decide +kernel
theorem d_Mo_minus_16 : decode b_Mo_minus 16 = .ok (.ifCond .eq 15, 3) := by decide +kernel
theorem d_Mo_minus_19 : decode b_Mo_minus 19 = .ok (.aload_n 0, 1) := by decide +kernel
theorem d_Mo_minus_20 : decode b_Mo_minus 20 = .ok (.getfield 55, 3) := by decide +kernel
theorem d_Mo_minus_23 : decode b_Mo_minus 23 = .ok (.lconst 0, 1) := by decide +kernel
theorem d_Mo_minus_24 : decode b_Mo_minus 24 = .ok (.lcmp, 1) := by decide +kernel
theorem d_Mo_minus_25 : decode b_Mo_minus 25 = .ok (.ifCond .ge 24, 3) := by decide +kernel
theorem d_Mo_minus_28 : decode b_Mo_minus 28 = .ok (.goto 17, 3) := by decide +kernel
theorem d_Mo_minus_31 : decode b_Mo_minus 31 = .ok (.aload_n 0, 1) := by decide +kernel
theorem d_Mo_minus_32 : decode b_Mo_minus 32 = .ok (.getfield 55, 3) := by decide +kernel
theorem d_Mo_minus_35 : decode b_Mo_minus 35 = .ok (.bipush 31, 2) := by decide +kernel
theorem d_Mo_minus_37 : decode b_Mo_minus 37 = .ok (.lshr, 1) := by decide +kernel
theorem d_Mo_minus_38 : decode b_Mo_minus 38 = .ok (.lconst 1, 1) := by decide +kernel
theorem d_Mo_minus_39 : decode b_Mo_minus 39 = .ok (.land, 1) := by decide +kernel
theorem d_Mo_minus_40 : decode b_Mo_minus 40 = .ok (.lconst 1, 1) := by decide +kernel
theorem d_Mo_minus_41 : decode b_Mo_minus 41 = .ok (.lcmp, 1) := by decide +kernel
theorem d_Mo_minus_42 : decode b_Mo_minus 42 = .ok (.ifCond .ne 7, 3) := by decide +kernel
theorem d_Mo_minus_45 : decode b_Mo_minus 45 = .ok (.iconst 1, 1) := by decide +kernel
theorem d_Mo_minus_46 : decode b_Mo_minus 46 = .ok (.goto 4, 3) := by decide +kernel
theorem d_Mo_minus_49 : decode b_Mo_minus 49 = .ok (.iconst 0, 1) := by decide +kernel
theorem d_Mo_minus_50 : decode b_Mo_minus 50 = .ok (.ireturn, 1) := by decide +kernel
theorem d_Mo_kind_0 : decode b_Mo_kind 0 = .ok (.aload_n 0, 1) := by decide +kernel
theorem d_Mo_kind_1 : decode b_Mo_kind 1 = .ok (.iconst 0, 1) := by decide +kernel
theorem d_Mo_kind_2 : decode b_Mo_kind 2 = .ok (.putfield 48, 3) := by decide +kernel
theorem d_Mo_kind_5 : decode b_Mo_kind 5 = .ok (.aload_n 0, 1) := by decide +kernel
theorem d_Mo_kind_6 : decode b_Mo_kind 6 = .ok (.getfield 67, 3) := by decide +kernel
theorem d_Mo_kind_9 : decode b_Mo_kind 9 = .ok (.ifCond .ne 5, 3) := by decide +kernel
theorem d_Mo_kind_12 : decode b_Mo_kind 12 = .ok (.iconst 0, 1) := by decide +kernel
theorem d_Mo_kind_13 : decode b_Mo_kind 13 = .ok (.ireturn, 1) := by decide +kernel
theorem d_Mo_kind_14 : decode b_Mo_kind 14 = .ok (.aload_n 0, 1) := by decide +kernel
theorem d_Mo_kind_15 : decode b_Mo_kind 15 = .ok (.invokevirtual 70, 3) := by decide +kernel
theorem d_Mo_kind_18 : decode b_Mo_kind 18 = .ok (.ifCond .eq 18, 3) := by decide +kernel
theorem d_Mo_kind_21 : decode b_Mo_kind 21 = .ok (.aload_n 0, 1) := by decide +kernel
theorem d_Mo_kind_22 : decode b_Mo_kind 22 = .ok (.invokevirtual 74, 3) := by decide +kernel
theorem d_Mo_kind_25 : decode b_Mo_kind 25 = .ok (.lconst 0, 1) := by decide +kernel
theorem d_Mo_kind_26 : decode b_Mo_kind 26 = .ok (.lcmp, 1) := by decide +kernel
theorem d_Mo_kind_27 : decode b_Mo_kind 27 = .ok (.ifCond .eq 7, 3) := by decide +kernel
theorem d_Mo_kind_30 : decode b_Mo_kind 30 = .ok (.iconst 1, 1) := by decide +kernel
theorem d_Mo_kind_31 : decode b_Mo_kind 31 = .ok (.goto 4, 3) := by decide +kernel
theorem d_Mo_kind_34 : decode b_Mo_kind 34 = .ok (.iconst 2, 1) := by decide +kernel
theorem d_Mo_kind_35 : decode b_Mo_kind 35 = .ok (.ireturn, 1) := by decide +kernel
theorem d_Mo_kind_36 : decode b_Mo_kind 36 = .ok (.aload_n 0, 1) := by decide +kernel
theorem d_Mo_kind_37 : decode b_Mo_kind 37 = .ok (.invokevirtual 63, 3) := by decide +kernel
theorem d_Mo_kind_40 : decode b_Mo_kind 40 = .ok (.ifCond .ne 16, 3) := by decide +kernel
theorem d_Mo_kind_43 : decode b_Mo_kind 43 = .ok (.aload_n 0, 1) := by decide +kernel
theorem d_Mo_kind_44 : decode b_Mo_kind 44 = .ok (.invokevirtual 74, 3) := by decide +kernel
theorem d_Mo_kind_47 : decode b_Mo_kind 47 = .ok (.lconst 0, 1) := by decide +kernel
theorem d_Mo_kind_48 : decode b_Mo_kind 48 = .ok (.lcmp, 1) := by decide +kernel
theorem d_Mo_kind_49 : decode b_Mo_kind 49 = .ok (.ifCond .ne 7, 3) := by decide +kernel
theorem d_Mo_kind_52 : decode b_Mo_kind 52 = .ok (.iconst 3, 1) := by decide +kernel
theorem d_Mo_kind_53 : decode b_Mo_kind 53 = .ok (.goto 4, 3) := by decide +kernel
theorem d_Mo_kind_56 : decode b_Mo_kind 56 = .ok (.iconst 4, 1) := by decide +kernel
theorem d_Mo_kind_57 : decode b_Mo_kind 57 = .ok (.ireturn, 1) := by decide +kernel
theorem d_Mo_timesUnit_0 : decode b_Mo_timesUnit 0 = .ok (.lconst 0, 1) := by decide +kernel
theorem d_Mo_timesUnit_1 : decode b_Mo_timesUnit 1 = .ok (.lstore_n 3, 1) := by decide +kernel
theorem d_Mo_timesUnit_2 : decode b_Mo_timesUnit 2 = .ok (.iconst 0, 1) := by decide +kernel
theorem d_Mo_timesUnit_3 : decode b_Mo_timesUnit 3 = .ok (.istore 5, 2) := by decide +kernel
theorem d_Mo_timesUnit_5 : decode b_Mo_timesUnit 5 = .ok (.iload 5, 2) := by decide +kernel
theorem d_Mo_timesUnit_7 : decode b_Mo_timesUnit 7 = .ok (.bipush 96, 2) := by decide +kernel
theorem d_Mo_timesUnit_9 : decode b_Mo_timesUnit 9 = .ok (.if_icmp .ge 42, 3) := by decide +kernel
theorem d_Mo_timesUnit_12 : decode b_Mo_timesUnit 12 = .ok (.aload_n 0, 1) := by decide +kernel
theorem d_Mo_timesUnit_13 : decode b_Mo_timesUnit 13 = .ok (.getfield 20, 3) := by decide +kernel
theorem d_Mo_timesUnit_16 : decode b_Mo_timesUnit 16 = .ok (.iload 5, 2) := by decide +kernel
theorem d_Mo_timesUnit_18 : decode b_Mo_timesUnit 18 = .ok (.laload, 1) := by decide +kernel
theorem d_Mo_timesUnit_19 : decode b_Mo_timesUnit 19 = .ok (.lload_n 1, 1) := by decide +kernel
theorem d_Mo_timesUnit_20 : decode b_Mo_timesUnit 20 = .ok (.lmul, 1) := by decide +kernel
theorem d_Mo_timesUnit_21 : decode b_Mo_timesUnit 21 = .ok (.lload_n 3, 1) := by decide +kernel
theorem d_Mo_timesUnit_22 : decode b_Mo_timesUnit 22 = .ok (.ladd, 1) := by decide +kernel
theorem d_Mo_timesUnit_23 : decode b_Mo_timesUnit 23 = .ok (.lstore 6, 2) := by decide +kernel
theorem d_Mo_timesUnit_25 : decode b_Mo_timesUnit 25 = .ok (.aload_n 0, 1) := by decide +kernel
theorem d_Mo_timesUnit_26 : decode b_Mo_timesUnit 26 = .ok (.getfield 20, 3) := by decide +kernel
theorem d_Mo_timesUnit_29 : decode b_Mo_timesUnit 29 = .ok (.iload 5, 2) := by decide +kernel
theorem d_Mo_timesUnit_31 : decode b_Mo_timesUnit 31 = .ok (.lload 6, 2) := by decide +kernel
theorem d_Mo_timesUnit_33 : decode b_Mo_timesUnit 33 = .ok (.ldc2_w 78, 3) := by decide +kernel
theorem d_Mo_timesUnit_36 : decode b_Mo_timesUnit 36 = .ok (.lrem, 1) := by decide +kernel
theorem d_Mo_timesUnit_37 : decode b_Mo_timesUnit 37 = .ok (.lastore, 1) := by decide +kernel
theorem d_Mo_timesUnit_38 : decode b_Mo_timesUnit 38 = .ok (.lload 6, 2) := by decide +kernel
theorem d_Mo_timesUnit_40 : decode b_Mo_timesUnit 40 = .ok (.ldc2_w 78, 3) := by decide +kernel
theorem d_Mo_timesUnit_43 : decode b_Mo_timesUnit 43 = .ok (.ldiv, 1) := by decide +kernel
theorem d_Mo_timesUnit_44 : decode b_Mo_timesUnit 44 = .ok (.lstore_n 3, 1) := by decide +kernel
theorem d_Mo_timesUnit_45 : decode b_Mo_timesUnit 45 = .ok (.iinc 5 1, 3) := by decide +kernel
theorem d_Mo_timesUnit_48 : decode b_Mo_timesUnit 48 = .ok (.goto (-43), 3) := by decide +kernel
theorem d_Mo_timesUnit_51 : decode b_Mo_timesUnit 51 = .ok (.return_, 1) := by decide +kernel
theorem d_Mo_write_0 : decode b_Mo_write 0 = .ok (.lload_n 1, 1) := by decide +kernel
theorem d_Mo_write_1 : decode b_Mo_write 1 = .ok (.ldc2_w 78, 3) := by decide +kernel
theorem d_Mo_write_4 : decode b_Mo_write 4 = .ok (.ldiv, 1) := by decide +kernel
theorem d_Mo_write_5 : decode b_Mo_write 5 = .ok (.lstore 4, 2) := by decide +kernel
theorem d_Mo_write_7 : decode b_Mo_write 7 = .ok (.lload_n 1, 1) := by decide +kernel
theorem d_Mo_write_8 : decode b_Mo_write 8 = .ok (.ldc2_w 78, 3) := by decide +kernel
theorem d_Mo_write_11 : decode b_Mo_write 11 = .ok (.lrem, 1) := by decide +kernel
theorem d_Mo_write_12 : decode b_Mo_write 12 = .ok (.lstore 6, 2) := by decide +kernel
theorem d_Mo_write_14 : decode b_Mo_write 14 = .ok (.lconst 0, 1) := by decide +kernel
theorem d_Mo_write_15 : decode b_Mo_write 15 = .ok (.lstore 8, 2) := by decide +kernel
theorem d_Mo_write_17 : decode b_Mo_write 17 = .ok (.iconst 0, 1) := by decide +kernel
theorem d_Mo_write_18 : decode b_Mo_write 18 = .ok (.istore 10, 2) := by decide +kernel
theorem d_Mo_write_20 : decode b_Mo_write 20 = .ok (.iload 10, 2) := by decide +kernel
theorem d_Mo_write_22 : decode b_Mo_write 22 = .ok (.bipush 96, 2) := by decide +kernel
theorem d_Mo_write_24 : decode b_Mo_write 24 = .ok (.if_icmp .ge 45, 3) := by decide +kernel
theorem d_Mo_write_27 : decode b_Mo_write 27 = .ok (.aload_n 0, 1) := by decide +kernel
theorem d_Mo_write_28 : decode b_Mo_write 28 = .ok (.getfield 20, 3) := by decide +kernel
theorem d_Mo_write_31 : decode b_Mo_write 31 = .ok (.iload 10, 2) := by decide +kernel
theorem d_Mo_write_33 : decode b_Mo_write 33 = .ok (.laload, 1) := by decide +kernel
theorem d_Mo_write_34 : decode b_Mo_write 34 = .ok (.lload 6, 2) := by decide +kernel
theorem d_Mo_write_36 : decode b_Mo_write 36 = .ok (.lmul, 1) := by decide +kernel
theorem d_Mo_write_37 : decode b_Mo_write 37 = .ok (.lload 8, 2) := by decide +kernel
theorem d_Mo_write_39 : decode b_Mo_write 39 = .ok (.ladd, 1) := by decide +kernel
theorem d_Mo_write_40 : decode b_Mo_write 40 = .ok (.lstore 11, 2) := by decide +kernel
theorem d_Mo_write_42 : decode b_Mo_write 42 = .ok (.aload_n 0, 1) := by decide +kernel
theorem d_Mo_write_43 : decode b_Mo_write 43 = .ok (.getfield 24, 3) := by decide +kernel
theorem d_Mo_write_46 : decode b_Mo_write 46 = .ok (.iload 10, 2) := by decide +kernel
theorem d_Mo_write_48 : decode b_Mo_write 48 = .ok (.lload 11, 2) := by decide +kernel
theorem d_Mo_write_50 : decode b_Mo_write 50 = .ok (.ldc2_w 78, 3) := by decide +kernel
theorem d_Mo_write_53 : decode b_Mo_write 53 = .ok (.lrem, 1) := by decide +kernel
theorem d_Mo_write_54 : decode b_Mo_write 54 = .ok (.lastore, 1) := by decide +kernel
theorem d_Mo_write_55 : decode b_Mo_write 55 = .ok (.lload 11, 2) := by decide +kernel
theorem d_Mo_write_57 : decode b_Mo_write 57 = .ok (.ldc2_w 78, 3) := by decide +kernel
theorem d_Mo_write_60 : decode b_Mo_write 60 = .ok (.ldiv, 1) := by decide +kernel
theorem d_Mo_write_61 : decode b_Mo_write 61 = .ok (.lstore 8, 2) := by decide +kernel
theorem d_Mo_write_63 : decode b_Mo_write 63 = .ok (.iinc 10 1, 3) := by decide +kernel
theorem d_Mo_write_66 : decode b_Mo_write 66 = .ok (.goto (-46), 3) := by decide +kernel
theorem d_Mo_write_69 : decode b_Mo_write 69 = .ok (.lconst 0, 1) := by decide +kernel
theorem d_Mo_write_70 : decode b_Mo_write 70 = .ok (.lstore 8, 2) := by decide +kernel
theorem d_Mo_write_72 : decode b_Mo_write 72 = .ok (.iconst 1, 1) := by decide +kernel
theorem d_Mo_write_73 : decode b_Mo_write 73 = .ok (.istore 10, 2) := by decide +kernel
theorem d_Mo_write_75 : decode b_Mo_write 75 = .ok (.iload 10, 2) := by decide +kernel
theorem d_Mo_write_77 : decode b_Mo_write 77 = .ok (.bipush 96, 2) := by decide +kernel
theorem d_Mo_write_79 : decode b_Mo_write 79 = .ok (.if_icmp .ge 55, 3) := by decide +kernel
theorem d_Mo_write_82 : decode b_Mo_write 82 = .ok (.aload_n 0, 1) := by decide +kernel
theorem d_Mo_write_83 : decode b_Mo_write 83 = .ok (.getfield 24, 3) := by decide +kernel
theorem d_Mo_write_86 : decode b_Mo_write 86 = .ok (.iload 10, 2) := by decide +kernel
theorem d_Mo_write_88 : decode b_Mo_write 88 = .ok (.laload, 1) := by decide +kernel
theorem d_Mo_write_89 : decode b_Mo_write 89 = .ok (.aload_n 0, 1) := by decide +kernel
theorem d_Mo_write_90 : decode b_Mo_write 90 = .ok (.getfield 20, 3) := by decide +kernel
theorem d_Mo_write_93 : decode b_Mo_write 93 = .ok (.iload 10, 2) := by decide +kernel
theorem d_Mo_write_95 : decode b_Mo_write 95 = .ok (.iconst 1, 1) := by decide +kernel
theorem d_Mo_write_96 : decode b_Mo_write 96 = .ok (.isub, 1) := by decide +kernel
theorem d_Mo_write_97 : decode b_Mo_write 97 = .ok (.laload, 1) := by decide +kernel
theorem d_Mo_write_98 : decode b_Mo_write 98 = .ok (.lload 4, 2) := by decide +kernel
theorem d_Mo_write_100 : decode b_Mo_write 100 = .ok (.lmul, 1) := by decide +kernel
theorem d_Mo_write_101 : decode b_Mo_write 101 = .ok (.ladd, 1) := by decide +kernel
theorem d_Mo_write_102 : decode b_Mo_write 102 = .ok (.lload 8, 2) := by decide +kernel
theorem d_Mo_write_104 : decode b_Mo_write 104 = .ok (.ladd, 1) := by decide +kernel
theorem d_Mo_write_105 : decode b_Mo_write 105 = .ok (.lstore 11, 2) := by decide +kernel
theorem d_Mo_write_107 : decode b_Mo_write 107 = .ok (.aload_n 0, 1) := by decide +kernel
theorem d_Mo_write_108 : decode b_Mo_write 108 = .ok (.getfield 24, 3) := by decide +kernel
theorem d_Mo_write_111 : decode b_Mo_write 111 = .ok (.iload 10, 2) := by decide +kernel
theorem d_Mo_write_113 : decode b_Mo_write 113 = .ok (.lload 11, 2) := by decide +kernel
theorem d_Mo_write_115 : decode b_Mo_write 115 = .ok (.ldc2_w 78, 3) := by decide +kernel
theorem d_Mo_write_118 : decode b_Mo_write 118 = .ok (.lrem, 1) := by decide +kernel
theorem d_Mo_write_119 : decode b_Mo_write 119 = .ok (.lastore, 1) := by decide +kernel
theorem d_Mo_write_120 : decode b_Mo_write 120 = .ok (.lload 11, 2) := by decide +kernel
theorem d_Mo_write_122 : decode b_Mo_write 122 = .ok (.ldc2_w 78, 3) := by decide +kernel
theorem d_Mo_write_125 : decode b_Mo_write 125 = .ok (.ldiv, 1) := by decide +kernel
theorem d_Mo_write_126 : decode b_Mo_write 126 = .ok (.lstore 8, 2) := by decide +kernel
theorem d_Mo_write_128 : decode b_Mo_write 128 = .ok (.iinc 10 1, 3) := by decide +kernel
theorem d_Mo_write_131 : decode b_Mo_write 131 = .ok (.goto (-56), 3) := by decide +kernel
theorem d_Mo_write_134 : decode b_Mo_write 134 = .ok (.iconst 0, 1) := by decide +kernel
theorem d_Mo_write_135 : decode b_Mo_write 135 = .ok (.istore 10, 2) := by decide +kernel
theorem d_Mo_write_137 : decode b_Mo_write 137 = .ok (.iload 10, 2) := by decide +kernel
theorem d_Mo_write_139 : decode b_Mo_write 139 = .ok (.bipush 96, 2) := by decide +kernel
theorem d_Mo_write_141 : decode b_Mo_write 141 = .ok (.if_icmp .ge 57, 3) := by decide +kernel
theorem d_Mo_write_144 : decode b_Mo_write 144 = .ok (.aload_n 0, 1) := by decide +kernel
theorem d_Mo_write_145 : decode b_Mo_write 145 = .ok (.getfield 24, 3) := by decide +kernel
theorem d_Mo_write_148 : decode b_Mo_write 148 = .ok (.iload 10, 2) := by decide +kernel
theorem d_Mo_write_150 : decode b_Mo_write 150 = .ok (.laload, 1) := by decide +kernel
theorem d_Mo_write_151 : decode b_Mo_write 151 = .ok (.l2i, 1) := by decide +kernel
theorem d_Mo_write_152 : decode b_Mo_write 152 = .ok (.istore 11, 2) := by decide +kernel
theorem d_Mo_write_154 : decode b_Mo_write 154 = .ok (.iconst 0, 1) := by decide +kernel
theorem d_Mo_write_155 : decode b_Mo_write 155 = .ok (.istore 12, 2) := by decide +kernel
theorem d_Mo_write_157 : decode b_Mo_write 157 = .ok (.iload 12, 2) := by decide +kernel
theorem d_Mo_write_159 : decode b_Mo_write 159 = .ok (.bipush 9, 2) := by decide +kernel
theorem d_Mo_write_161 : decode b_Mo_write 161 = .ok (.if_icmp .ge 31, 3) := by decide +kernel
theorem d_Mo_write_164 : decode b_Mo_write 164 = .ok (.aload_n 3, 1) := by decide +kernel
theorem d_Mo_write_165 : decode b_Mo_write 165 = .ok (.bipush 9, 2) := by decide +kernel
theorem d_Mo_write_167 : decode b_Mo_write 167 = .ok (.iload 10, 2) := by decide +kernel
theorem d_Mo_write_169 : decode b_Mo_write 169 = .ok (.imul, 1) := by decide +kernel
theorem d_Mo_write_170 : decode b_Mo_write 170 = .ok (.iload 12, 2) := by decide +kernel
theorem d_Mo_write_172 : decode b_Mo_write 172 = .ok (.iadd, 1) := by decide +kernel
theorem d_Mo_write_173 : decode b_Mo_write 173 = .ok (.iload 11, 2) := by decide +kernel
theorem d_Mo_write_175 : decode b_Mo_write 175 = .ok (.bipush 10, 2) := by decide +kernel
theorem d_Mo_write_177 : decode b_Mo_write 177 = .ok (.irem, 1) := by decide +kernel
theorem d_Mo_write_178 : decode b_Mo_write 178 = .ok (.iastore, 1) := by decide +kernel
theorem d_Mo_write_179 : decode b_Mo_write 179 = .ok (.iload 11, 2) := by decide +kernel
theorem d_Mo_write_181 : decode b_Mo_write 181 = .ok (.bipush 10, 2) := by decide +kernel
theorem d_Mo_write_183 : decode b_Mo_write 183 = .ok (.idiv, 1) := by decide +kernel
theorem d_Mo_write_184 : decode b_Mo_write 184 = .ok (.istore 11, 2) := by decide +kernel
theorem d_Mo_write_186 : decode b_Mo_write 186 = .ok (.iinc 12 1, 3) := by decide +kernel
theorem d_Mo_write_189 : decode b_Mo_write 189 = .ok (.goto (-32), 3) := by decide +kernel
theorem d_Mo_write_192 : decode b_Mo_write 192 = .ok (.iinc 10 1, 3) := by decide +kernel
theorem d_Mo_write_195 : decode b_Mo_write 195 = .ok (.goto (-58), 3) := by decide +kernel
theorem d_Mo_write_198 : decode b_Mo_write 198 = .ok (.return_, 1) := by decide +kernel
theorem d_Mo_spread_0 : decode b_Mo_spread 0 = .ok (.aload_n 0, 1) := by decide +kernel
theorem d_Mo_spread_1 : decode b_Mo_spread 1 = .ok (.invokevirtual 63, 3) := by decide +kernel
theorem d_Mo_spread_4 : decode b_Mo_spread 4 = .ok (.istore_n 1, 1) := by decide +kernel
theorem d_Mo_spread_5 : decode b_Mo_spread 5 = .ok (.aload_n 0, 1) := by decide +kernel
theorem d_Mo_spread_6 : decode b_Mo_spread 6 = .ok (.invokevirtual 74, 3) := by decide +kernel
theorem d_Mo_spread_9 : decode b_Mo_spread 9 = .ok (.lstore_n 2, 1) := by decide +kernel
theorem d_Mo_spread_10 : decode b_Mo_spread 10 = .ok (.iload_n 1, 1) := by decide +kernel
theorem d_Mo_spread_11 : decode b_Mo_spread 11 = .ok (.ifCond .ne 7, 3) := by decide +kernel
theorem d_Mo_spread_14 : decode b_Mo_spread 14 = .ok (.lload_n 2, 1) := by decide +kernel
theorem d_Mo_spread_15 : decode b_Mo_spread 15 = .ok (.goto 21, 3) := by decide +kernel
theorem d_Mo_spread_18 : decode b_Mo_spread 18 = .ok (.lload_n 2, 1) := by decide +kernel
theorem d_Mo_spread_19 : decode b_Mo_spread 19 = .ok (.aload_n 0, 1) := by decide +kernel
theorem d_Mo_spread_20 : decode b_Mo_spread 20 = .ok (.getfield 51, 3) := by decide +kernel
theorem d_Mo_spread_23 : decode b_Mo_spread 23 = .ok (.ifCond .eq 9, 3) := by decide +kernel
theorem d_Mo_spread_26 : decode b_Mo_spread 26 = .ok (.ldc2_w 80, 3) := by decide +kernel
theorem d_Mo_spread_29 : decode b_Mo_spread 29 = .ok (.goto 6, 3) := by decide +kernel
theorem d_Mo_spread_32 : decode b_Mo_spread 32 = .ok (.ldc2_w 82, 3) := by decide +kernel
theorem d_Mo_spread_35 : decode b_Mo_spread 35 = .ok (.ladd, 1) := by decide +kernel
theorem d_Mo_spread_36 : decode b_Mo_spread 36 = .ok (.lstore 4, 2) := by decide +kernel
theorem d_Mo_spread_38 : decode b_Mo_spread 38 = .ok (.iload_n 1, 1) := by decide +kernel
theorem d_Mo_spread_39 : decode b_Mo_spread 39 = .ok (.ifCond .ne 7, 3) := by decide +kernel
theorem d_Mo_spread_42 : decode b_Mo_spread 42 = .ok (.iconst 1, 1) := by decide +kernel
theorem d_Mo_spread_43 : decode b_Mo_spread 43 = .ok (.goto 4, 3) := by decide +kernel
theorem d_Mo_spread_46 : decode b_Mo_spread 46 = .ok (.iload_n 1, 1) := by decide +kernel
theorem d_Mo_spread_47 : decode b_Mo_spread 47 = .ok (.aload_n 0, 1) := by decide +kernel
theorem d_Mo_spread_48 : decode b_Mo_spread 48 = .ok (.getfield 51, 3) := by decide +kernel
theorem d_Mo_spread_51 : decode b_Mo_spread 51 = .ok (.ifCond .eq 9, 3) := by decide +kernel
theorem d_Mo_spread_54 : decode b_Mo_spread 54 = .ok (.sipush 1077, 3) := by decide +kernel
theorem d_Mo_spread_57 : decode b_Mo_spread 57 = .ok (.goto 6, 3) := by decide +kernel
theorem d_Mo_spread_60 : decode b_Mo_spread 60 = .ok (.sipush 152, 3) := by decide +kernel
theorem d_Mo_spread_63 : decode b_Mo_spread 63 = .ok (.isub, 1) := by decide +kernel
theorem d_Mo_spread_64 : decode b_Mo_spread 64 = .ok (.istore 6, 2) := by decide +kernel
theorem d_Mo_spread_66 : decode b_Mo_spread 66 = .ok (.iconst 0, 1) := by decide +kernel
theorem d_Mo_spread_67 : decode b_Mo_spread 67 = .ok (.istore 7, 2) := by decide +kernel
theorem d_Mo_spread_69 : decode b_Mo_spread 69 = .ok (.iload 7, 2) := by decide +kernel
theorem d_Mo_spread_71 : decode b_Mo_spread 71 = .ok (.bipush 96, 2) := by decide +kernel
theorem d_Mo_spread_73 : decode b_Mo_spread 73 = .ok (.if_icmp .ge 17, 3) := by decide +kernel
theorem d_Mo_spread_76 : decode b_Mo_spread 76 = .ok (.aload_n 0, 1) := by decide +kernel
theorem d_Mo_spread_77 : decode b_Mo_spread 77 = .ok (.getfield 20, 3) := by decide +kernel
theorem d_Mo_spread_80 : decode b_Mo_spread 80 = .ok (.iload 7, 2) := by decide +kernel
theorem d_Mo_spread_82 : decode b_Mo_spread 82 = .ok (.lconst 0, 1) := by decide +kernel
theorem d_Mo_spread_83 : decode b_Mo_spread 83 = .ok (.lastore, 1) := by decide +kernel
theorem d_Mo_spread_84 : decode b_Mo_spread 84 = .ok (.iinc 7 1, 3) := by decide +kernel
theorem d_Mo_spread_87 : decode b_Mo_spread 87 = .ok (.goto (-18), 3) := by decide +kernel
theorem d_Mo_spread_90 : decode b_Mo_spread 90 = .ok (.aload_n 0, 1) := by decide +kernel
theorem d_Mo_spread_91 : decode b_Mo_spread 91 = .ok (.getfield 20, 3) := by decide +kernel
theorem d_Mo_spread_94 : decode b_Mo_spread 94 = .ok (.iconst 0, 1) := by decide +kernel
theorem d_Mo_spread_95 : decode b_Mo_spread 95 = .ok (.ldc2_w 84, 3) := by decide +kernel
theorem d_Mo_spread_98 : decode b_Mo_spread 98 = .ok (.lastore, 1) := by decide +kernel
theorem d_Mo_spread_99 : decode b_Mo_spread 99 = .ok (.iconst 0, 1) := by decide +kernel
theorem d_Mo_spread_100 : decode b_Mo_spread 100 = .ok (.istore 7, 2) := by decide +kernel
theorem d_Mo_spread_102 : decode b_Mo_spread 102 = .ok (.iload 7, 2) := by decide +kernel
theorem d_Mo_spread_104 : decode b_Mo_spread 104 = .ok (.iload 6, 2) := by decide +kernel
theorem d_Mo_spread_106 : decode b_Mo_spread 106 = .ok (.if_icmp .ge 16, 3) := by decide +kernel
theorem d_Mo_spread_109 : decode b_Mo_spread 109 = .ok (.aload_n 0, 1) := by decide +kernel
theorem d_Mo_spread_110 : decode b_Mo_spread 110 = .ok (.ldc2_w 86, 3) := by decide +kernel
theorem d_Mo_spread_113 : decode b_Mo_spread 113 = .ok (.invokevirtual 88, 3) := by decide +kernel
theorem d_Mo_spread_116 : decode b_Mo_spread 116 = .ok (.iinc 7 1, 3) := by decide +kernel
theorem d_Mo_spread_119 : decode b_Mo_spread 119 = .ok (.goto (-17), 3) := by decide +kernel
theorem d_Mo_spread_122 : decode b_Mo_spread 122 = .ok (.iload 6, 2) := by decide +kernel
theorem d_Mo_spread_124 : decode b_Mo_spread 124 = .ok (.ifCond .ge 9, 3) := by decide +kernel
theorem d_Mo_spread_127 : decode b_Mo_spread 127 = .ok (.iload 6, 2) := by decide +kernel
theorem d_Mo_spread_129 : decode b_Mo_spread 129 = .ok (.ineg, 1) := by decide +kernel
theorem d_Mo_spread_130 : decode b_Mo_spread 130 = .ok (.goto 4, 3) := by decide +kernel
theorem d_Mo_spread_133 : decode b_Mo_spread 133 = .ok (.iconst 0, 1) := by decide +kernel
theorem d_Mo_spread_134 : decode b_Mo_spread 134 = .ok (.istore 7, 2) := by decide +kernel
theorem d_Mo_spread_136 : decode b_Mo_spread 136 = .ok (.iconst 0, 1) := by decide +kernel
theorem d_Mo_spread_137 : decode b_Mo_spread 137 = .ok (.istore 8, 2) := by decide +kernel
theorem d_Mo_spread_139 : decode b_Mo_spread 139 = .ok (.iload 8, 2) := by decide +kernel
theorem d_Mo_spread_141 : decode b_Mo_spread 141 = .ok (.iload 7, 2) := by decide +kernel
theorem d_Mo_spread_143 : decode b_Mo_spread 143 = .ok (.bipush 12, 2) := by decide +kernel
theorem d_Mo_spread_145 : decode b_Mo_spread 145 = .ok (.idiv, 1) := by decide +kernel
theorem d_Mo_spread_146 : decode b_Mo_spread 146 = .ok (.if_icmp .ge 16, 3) := by decide +kernel
theorem d_Mo_spread_149 : decode b_Mo_spread 149 = .ok (.aload_n 0, 1) := by decide +kernel
theorem d_Mo_spread_150 : decode b_Mo_spread 150 = .ok (.ldc2_w 92, 3) := by decide +kernel
theorem d_Mo_spread_153 : decode b_Mo_spread 153 = .ok (.invokevirtual 88, 3) := by decide +kernel
theorem d_Mo_spread_156 : decode b_Mo_spread 156 = .ok (.iinc 8 1, 3) := by decide +kernel
theorem d_Mo_spread_159 : decode b_Mo_spread 159 = .ok (.goto (-20), 3) := by decide +kernel
theorem d_Mo_spread_162 : decode b_Mo_spread 162 = .ok (.iconst 0, 1) := by decide +kernel
theorem d_Mo_spread_163 : decode b_Mo_spread 163 = .ok (.istore 8, 2) := by decide +kernel
theorem d_Mo_spread_165 : decode b_Mo_spread 165 = .ok (.iload 8, 2) := by decide +kernel
theorem d_Mo_spread_167 : decode b_Mo_spread 167 = .ok (.iload 7, 2) := by decide +kernel
theorem d_Mo_spread_169 : decode b_Mo_spread 169 = .ok (.bipush 12, 2) := by decide +kernel
theorem d_Mo_spread_171 : decode b_Mo_spread 171 = .ok (.irem, 1) := by decide +kernel
theorem d_Mo_spread_172 : decode b_Mo_spread 172 = .ok (.if_icmp .ge 16, 3) := by decide +kernel
theorem d_Mo_spread_175 : decode b_Mo_spread 175 = .ok (.aload_n 0, 1) := by decide +kernel
theorem d_Mo_spread_176 : decode b_Mo_spread 176 = .ok (.ldc2_w 94, 3) := by decide +kernel
theorem d_Mo_spread_179 : decode b_Mo_spread 179 = .ok (.invokevirtual 88, 3) := by decide +kernel
theorem d_Mo_spread_182 : decode b_Mo_spread 182 = .ok (.iinc 8 1, 3) := by decide +kernel
theorem d_Mo_spread_185 : decode b_Mo_spread 185 = .ok (.goto (-20), 3) := by decide +kernel
theorem d_Mo_spread_188 : decode b_Mo_spread 188 = .ok (.aload_n 0, 1) := by decide +kernel
theorem d_Mo_spread_189 : decode b_Mo_spread 189 = .ok (.iconst 3, 1) := by decide +kernel
theorem d_Mo_spread_190 : decode b_Mo_spread 190 = .ok (.iload 7, 2) := by decide +kernel
theorem d_Mo_spread_192 : decode b_Mo_spread 192 = .ok (.iadd, 1) := by decide +kernel
theorem d_Mo_spread_193 : decode b_Mo_spread 193 = .ok (.putfield 96, 3) := by decide +kernel
theorem d_Mo_spread_196 : decode b_Mo_spread 196 = .ok (.aload_n 0, 1) := by decide +kernel
theorem d_Mo_spread_197 : decode b_Mo_spread 197 = .ok (.lload_n 2, 1) := by decide +kernel
theorem d_Mo_spread_198 : decode b_Mo_spread 198 = .ok (.ldc2_w 86, 3) := by decide +kernel
theorem d_Mo_spread_201 : decode b_Mo_spread 201 = .ok (.lrem, 1) := by decide +kernel
theorem d_Mo_spread_202 : decode b_Mo_spread 202 = .ok (.lconst 0, 1) := by decide +kernel
theorem d_Mo_spread_203 : decode b_Mo_spread 203 = .ok (.lcmp, 1) := by decide +kernel
theorem d_Mo_spread_204 : decode b_Mo_spread 204 = .ok (.ifCond .ne 7, 3) := by decide +kernel
theorem d_Mo_spread_207 : decode b_Mo_spread 207 = .ok (.iconst 1, 1) := by decide +kernel
theorem d_Mo_spread_208 : decode b_Mo_spread 208 = .ok (.goto 4, 3) := by decide +kernel
theorem d_Mo_spread_211 : decode b_Mo_spread 211 = .ok (.iconst 0, 1) := by decide +kernel
theorem d_Mo_spread_212 : decode b_Mo_spread 212 = .ok (.putfield 99, 3) := by decide +kernel
theorem d_Mo_spread_215 : decode b_Mo_spread 215 = .ok (.aload_n 0, 1) := by decide +kernel
theorem d_Mo_spread_216 : decode b_Mo_spread 216 = .ok (.ldc2_w 102, 3) := by decide +kernel
theorem d_Mo_spread_219 : decode b_Mo_spread 219 = .ok (.lload 4, 2) := by decide +kernel
theorem d_Mo_spread_221 : decode b_Mo_spread 221 = .ok (.lmul, 1) := by decide +kernel
theorem d_Mo_spread_222 : decode b_Mo_spread 222 = .ok (.aload_n 0, 1) := by decide +kernel
theorem d_Mo_spread_223 : decode b_Mo_spread 223 = .ok (.getfield 27, 3) := by decide +kernel
theorem d_Mo_spread_226 : decode b_Mo_spread 226 = .ok (.invokevirtual 104, 3) := by decide +kernel
theorem d_Mo_spread_229 : decode b_Mo_spread 229 = .ok (.aload_n 0, 1) := by decide +kernel
theorem d_Mo_spread_230 : decode b_Mo_spread 230 = .ok (.ldc2_w 102, 3) := by decide +kernel
theorem d_Mo_spread_233 : decode b_Mo_spread 233 = .ok (.lload 4, 2) := by decide +kernel
theorem d_Mo_spread_235 : decode b_Mo_spread 235 = .ok (.lmul, 1) := by decide +kernel
theorem d_Mo_spread_236 : decode b_Mo_spread 236 = .ok (.lload_n 2, 1) := by decide +kernel
theorem d_Mo_spread_237 : decode b_Mo_spread 237 = .ok (.lconst 0, 1) := by decide +kernel
theorem d_Mo_spread_238 : decode b_Mo_spread 238 = .ok (.lcmp, 1) := by decide +kernel
theorem d_Mo_spread_239 : decode b_Mo_spread 239 = .ok (.ifCond .ne 12, 3) := by decide +kernel
theorem d_Mo_spread_242 : decode b_Mo_spread 242 = .ok (.iload_n 1, 1) := by decide +kernel
theorem d_Mo_spread_243 : decode b_Mo_spread 243 = .ok (.iconst 1, 1) := by decide +kernel
theorem d_Mo_spread_244 : decode b_Mo_spread 244 = .ok (.if_icmp .le 7, 3) := by decide +kernel
theorem d_Mo_spread_247 : decode b_Mo_spread 247 = .ok (.lconst 1, 1) := by decide +kernel
theorem d_Mo_spread_248 : decode b_Mo_spread 248 = .ok (.goto 6, 3) := by decide +kernel
theorem d_Mo_spread_251 : decode b_Mo_spread 251 = .ok (.ldc2_w 86, 3) := by decide +kernel
theorem d_Mo_spread_254 : decode b_Mo_spread 254 = .ok (.lsub, 1) := by decide +kernel
theorem d_Mo_spread_255 : decode b_Mo_spread 255 = .ok (.aload_n 0, 1) := by decide +kernel
theorem d_Mo_spread_256 : decode b_Mo_spread 256 = .ok (.getfield 30, 3) := by decide +kernel
theorem d_Mo_spread_259 : decode b_Mo_spread 259 = .ok (.invokevirtual 104, 3) := by decide +kernel
theorem d_Mo_spread_262 : decode b_Mo_spread 262 = .ok (.aload_n 0, 1) := by decide +kernel
theorem d_Mo_spread_263 : decode b_Mo_spread 263 = .ok (.ldc2_w 102, 3) := by decide +kernel
theorem d_Mo_spread_266 : decode b_Mo_spread 266 = .ok (.lload 4, 2) := by decide +kernel
theorem d_Mo_spread_268 : decode b_Mo_spread 268 = .ok (.lmul, 1) := by decide +kernel
theorem d_Mo_spread_269 : decode b_Mo_spread 269 = .ok (.ldc2_w 86, 3) := by decide +kernel
theorem d_Mo_spread_272 : decode b_Mo_spread 272 = .ok (.ladd, 1) := by decide +kernel
theorem d_Mo_spread_273 : decode b_Mo_spread 273 = .ok (.aload_n 0, 1) := by decide +kernel
theorem d_Mo_spread_274 : decode b_Mo_spread 274 = .ok (.getfield 33, 3) := by decide +kernel
theorem d_Mo_spread_277 : decode b_Mo_spread 277 = .ok (.invokevirtual 104, 3) := by decide +kernel
theorem d_Mo_spread_280 : decode b_Mo_spread 280 = .ok (.return_, 1) := by decide +kernel
theorem d_Mo_compare_0 : decode b_Mo_compare 0 = .ok (.sipush 863, 3) := by decide +kernel
theorem d_Mo_compare_3 : decode b_Mo_compare 3 = .ok (.istore_n 2, 1) := by decide +kernel
theorem d_Mo_compare_4 : decode b_Mo_compare 4 = .ok (.iload_n 2, 1) := by decide +kernel
theorem d_Mo_compare_5 : decode b_Mo_compare 5 = .ok (.ifCond .lt 18, 3) := by decide +kernel
theorem d_Mo_compare_8 : decode b_Mo_compare 8 = .ok (.aload_n 0, 1) := by decide +kernel
theorem d_Mo_compare_9 : decode b_Mo_compare 9 = .ok (.iload_n 2, 1) := by decide +kernel
theorem d_Mo_compare_10 : decode b_Mo_compare 10 = .ok (.iaload, 1) := by decide +kernel
theorem d_Mo_compare_11 : decode b_Mo_compare 11 = .ok (.aload_n 1, 1) := by decide +kernel
theorem d_Mo_compare_12 : decode b_Mo_compare 12 = .ok (.iload_n 2, 1) := by decide +kernel
theorem d_Mo_compare_13 : decode b_Mo_compare 13 = .ok (.iaload, 1) := by decide +kernel
theorem d_Mo_compare_14 : decode b_Mo_compare 14 = .ok (.if_icmp .ne 9, 3) := by decide +kernel
theorem d_Mo_compare_17 : decode b_Mo_compare 17 = .ok (.iinc 2 (-1), 3) := by decide +kernel
theorem d_Mo_compare_20 : decode b_Mo_compare 20 = .ok (.goto (-16), 3) := by decide +kernel
theorem d_Mo_compare_23 : decode b_Mo_compare 23 = .ok (.iload_n 2, 1) := by decide +kernel
theorem d_Mo_compare_24 : decode b_Mo_compare 24 = .ok (.ifCond .ge 7, 3) := by decide +kernel
theorem d_Mo_compare_27 : decode b_Mo_compare 27 = .ok (.iconst 0, 1) := by decide +kernel
theorem d_Mo_compare_28 : decode b_Mo_compare 28 = .ok (.goto 17, 3) := by decide +kernel
theorem d_Mo_compare_31 : decode b_Mo_compare 31 = .ok (.aload_n 0, 1) := by decide +kernel
theorem d_Mo_compare_32 : decode b_Mo_compare 32 = .ok (.iload_n 2, 1) := by decide +kernel
theorem d_Mo_compare_33 : decode b_Mo_compare 33 = .ok (.iaload, 1) := by decide +kernel
theorem d_Mo_compare_34 : decode b_Mo_compare 34 = .ok (.aload_n 1, 1) := by decide +kernel
theorem d_Mo_compare_35 : decode b_Mo_compare 35 = .ok (.iload_n 2, 1) := by decide +kernel
theorem d_Mo_compare_36 : decode b_Mo_compare 36 = .ok (.iaload, 1) := by decide +kernel
theorem d_Mo_compare_37 : decode b_Mo_compare 37 = .ok (.if_icmp .ge 7, 3) := by decide +kernel
theorem d_Mo_compare_40 : decode b_Mo_compare 40 = .ok (.iconst (-1), 1) := by decide +kernel
theorem d_Mo_compare_41 : decode b_Mo_compare 41 = .ok (.goto 4, 3) := by decide +kernel
theorem d_Mo_compare_44 : decode b_Mo_compare 44 = .ok (.iconst 1, 1) := by decide +kernel
theorem d_Mo_compare_45 : decode b_Mo_compare 45 = .ok (.ireturn, 1) := by decide +kernel
theorem d_Mo_top_0 : decode b_Mo_top 0 = .ok (.sipush 863, 3) := by decide +kernel
theorem d_Mo_top_3 : decode b_Mo_top 3 = .ok (.istore_n 1, 1) := by decide +kernel
theorem d_Mo_top_4 : decode b_Mo_top 4 = .ok (.iload_n 1, 1) := by decide +kernel
theorem d_Mo_top_5 : decode b_Mo_top 5 = .ok (.ifCond .lt 15, 3) := by decide +kernel
theorem d_Mo_top_8 : decode b_Mo_top 8 = .ok (.aload_n 0, 1) := by decide +kernel
theorem d_Mo_top_9 : decode b_Mo_top 9 = .ok (.iload_n 1, 1) := by decide +kernel
theorem d_Mo_top_10 : decode b_Mo_top 10 = .ok (.iaload, 1) := by decide +kernel
theorem d_Mo_top_11 : decode b_Mo_top 11 = .ok (.ifCond .ne 9, 3) := by decide +kernel
theorem d_Mo_top_14 : decode b_Mo_top 14 = .ok (.iinc 1 (-1), 3) := by decide +kernel
theorem d_Mo_top_17 : decode b_Mo_top 17 = .ok (.goto (-13), 3) := by decide +kernel
theorem d_Mo_top_20 : decode b_Mo_top 20 = .ok (.iload_n 1, 1) := by decide +kernel
theorem d_Mo_top_21 : decode b_Mo_top 21 = .ok (.ireturn, 1) := by decide +kernel
theorem d_Mo_bottom_0 : decode b_Mo_bottom 0 = .ok (.iconst 0, 1) := by decide +kernel
theorem d_Mo_bottom_1 : decode b_Mo_bottom 1 = .ok (.istore_n 1, 1) := by decide +kernel
theorem d_Mo_bottom_2 : decode b_Mo_bottom 2 = .ok (.iload_n 1, 1) := by decide +kernel
theorem d_Mo_bottom_3 : decode b_Mo_bottom 3 = .ok (.sipush 864, 3) := by decide +kernel
theorem d_Mo_bottom_6 : decode b_Mo_bottom 6 = .ok (.if_icmp .ge 15, 3) := by decide +kernel
theorem d_Mo_bottom_9 : decode b_Mo_bottom 9 = .ok (.aload_n 0, 1) := by decide +kernel
theorem d_Mo_bottom_10 : decode b_Mo_bottom 10 = .ok (.iload_n 1, 1) := by decide +kernel
theorem d_Mo_bottom_11 : decode b_Mo_bottom 11 = .ok (.iaload, 1) := by decide +kernel
theorem d_Mo_bottom_12 : decode b_Mo_bottom 12 = .ok (.ifCond .ne 9, 3) := by decide +kernel
theorem d_Mo_bottom_15 : decode b_Mo_bottom 15 = .ok (.iinc 1 1, 3) := by decide +kernel
theorem d_Mo_bottom_18 : decode b_Mo_bottom 18 = .ok (.goto (-16), 3) := by decide +kernel
theorem d_Mo_bottom_21 : decode b_Mo_bottom 21 = .ok (.iload_n 1, 1) := by decide +kernel
theorem d_Mo_bottom_22 : decode b_Mo_bottom 22 = .ok (.ireturn, 1) := by decide +kernel
theorem d_Mo_pick_0 : decode b_Mo_pick 0 = .ok (.iconst 0, 1) := by decide +kernel
theorem d_Mo_pick_1 : decode b_Mo_pick 1 = .ok (.istore_n 3, 1) := by decide +kernel
theorem d_Mo_pick_2 : decode b_Mo_pick 2 = .ok (.iload_n 3, 1) := by decide +kernel
theorem d_Mo_pick_3 : decode b_Mo_pick 3 = .ok (.sipush 864, 3) := by decide +kernel
theorem d_Mo_pick_6 : decode b_Mo_pick 6 = .ok (.if_icmp .ge 30, 3) := by decide +kernel
theorem d_Mo_pick_9 : decode b_Mo_pick 9 = .ok (.aload_n 0, 1) := by decide +kernel
theorem d_Mo_pick_10 : decode b_Mo_pick 10 = .ok (.getfield 36, 3) := by decide +kernel
theorem d_Mo_pick_13 : decode b_Mo_pick 13 = .ok (.iload_n 3, 1) := by decide +kernel
theorem d_Mo_pick_14 : decode b_Mo_pick 14 = .ok (.iload_n 3, 1) := by decide +kernel
theorem d_Mo_pick_15 : decode b_Mo_pick 15 = .ok (.iload_n 1, 1) := by decide +kernel
theorem d_Mo_pick_16 : decode b_Mo_pick 16 = .ok (.if_icmp .ge 7, 3) := by decide +kernel
theorem d_Mo_pick_19 : decode b_Mo_pick 19 = .ok (.iconst 0, 1) := by decide +kernel
theorem d_Mo_pick_20 : decode b_Mo_pick 20 = .ok (.goto 9, 3) := by decide +kernel
theorem d_Mo_pick_23 : decode b_Mo_pick 23 = .ok (.aload_n 0, 1) := by decide +kernel
theorem d_Mo_pick_24 : decode b_Mo_pick 24 = .ok (.getfield 27, 3) := by decide +kernel
theorem d_Mo_pick_27 : decode b_Mo_pick 27 = .ok (.iload_n 3, 1) := by decide +kernel
theorem d_Mo_pick_28 : decode b_Mo_pick 28 = .ok (.iaload, 1) := by decide +kernel
theorem d_Mo_pick_29 : decode b_Mo_pick 29 = .ok (.iastore, 1) := by decide +kernel
theorem d_Mo_pick_30 : decode b_Mo_pick 30 = .ok (.iinc 3 1, 3) := by decide +kernel
theorem d_Mo_pick_33 : decode b_Mo_pick 33 = .ok (.goto (-31), 3) := by decide +kernel
theorem d_Mo_pick_36 : decode b_Mo_pick 36 = .ok (.iload_n 2, 1) := by decide +kernel
theorem d_Mo_pick_37 : decode b_Mo_pick 37 = .ok (.ifCond .ne 4, 3) := by decide +kernel
theorem d_Mo_pick_40 : decode b_Mo_pick 40 = .ok (.return_, 1) := by decide +kernel
theorem d_Mo_pick_41 : decode b_Mo_pick 41 = .ok (.iload_n 1, 1) := by decide +kernel
theorem d_Mo_pick_42 : decode b_Mo_pick 42 = .ok (.istore_n 3, 1) := by decide +kernel
theorem d_Mo_pick_43 : decode b_Mo_pick 43 = .ok (.aload_n 0, 1) := by decide +kernel
theorem d_Mo_pick_44 : decode b_Mo_pick 44 = .ok (.getfield 36, 3) := by decide +kernel
theorem d_Mo_pick_47 : decode b_Mo_pick 47 = .ok (.iload_n 3, 1) := by decide +kernel
theorem d_Mo_pick_48 : decode b_Mo_pick 48 = .ok (.iaload, 1) := by decide +kernel
theorem d_Mo_pick_49 : decode b_Mo_pick 49 = .ok (.bipush 9, 2) := by decide +kernel
theorem d_Mo_pick_51 : decode b_Mo_pick 51 = .ok (.if_icmp .ne 16, 3) := by decide +kernel
theorem d_Mo_pick_54 : decode b_Mo_pick 54 = .ok (.aload_n 0, 1) := by decide +kernel
theorem d_Mo_pick_55 : decode b_Mo_pick 55 = .ok (.getfield 36, 3) := by decide +kernel
theorem d_Mo_pick_58 : decode b_Mo_pick 58 = .ok (.iload_n 3, 1) := by decide +kernel
theorem d_Mo_pick_59 : decode b_Mo_pick 59 = .ok (.iconst 0, 1) := by decide +kernel
theorem d_Mo_pick_60 : decode b_Mo_pick 60 = .ok (.iastore, 1) := by decide +kernel
theorem d_Mo_pick_61 : decode b_Mo_pick 61 = .ok (.iinc 3 1, 3) := by decide +kernel
theorem d_Mo_pick_64 : decode b_Mo_pick 64 = .ok (.goto (-21), 3) := by decide +kernel
theorem d_Mo_pick_67 : decode b_Mo_pick 67 = .ok (.aload_n 0, 1) := by decide +kernel
theorem d_Mo_pick_68 : decode b_Mo_pick 68 = .ok (.getfield 36, 3) := by decide +kernel
theorem d_Mo_pick_71 : decode b_Mo_pick 71 = .ok (.iload_n 3, 1) := by decide +kernel
theorem d_Mo_pick_72 : decode b_Mo_pick 72 = .ok (.dup2, 1) := by decide +kernel
theorem d_Mo_pick_73 : decode b_Mo_pick 73 = .ok (.iaload, 1) := by decide +kernel
theorem d_Mo_pick_74 : decode b_Mo_pick 74 = .ok (.iconst 1, 1) := by decide +kernel
theorem d_Mo_pick_75 : decode b_Mo_pick 75 = .ok (.iadd, 1) := by decide +kernel
theorem d_Mo_pick_76 : decode b_Mo_pick 76 = .ok (.iastore, 1) := by decide +kernel
theorem d_Mo_pick_77 : decode b_Mo_pick 77 = .ok (.return_, 1) := by decide +kernel
theorem d_Mo_readsBack_0 : decode b_Mo_readsBack 0 = .ok (.aload_n 0, 1) := by decide +kernel
theorem d_Mo_readsBack_1 : decode b_Mo_readsBack 1 = .ok (.getfield 36, 3) := by decide +kernel
theorem d_Mo_readsBack_4 : decode b_Mo_readsBack 4 = .ok (.aload_n 0, 1) := by decide +kernel
theorem d_Mo_readsBack_5 : decode b_Mo_readsBack 5 = .ok (.getfield 30, 3) := by decide +kernel
theorem d_Mo_readsBack_8 : decode b_Mo_readsBack 8 = .ok (.invokestatic 108, 3) := by decide +kernel
theorem d_Mo_readsBack_11 : decode b_Mo_readsBack 11 = .ok (.istore_n 1, 1) := by decide +kernel
theorem d_Mo_readsBack_12 : decode b_Mo_readsBack 12 = .ok (.aload_n 0, 1) := by decide +kernel
theorem d_Mo_readsBack_13 : decode b_Mo_readsBack 13 = .ok (.getfield 36, 3) := by decide +kernel
theorem d_Mo_readsBack_16 : decode b_Mo_readsBack 16 = .ok (.aload_n 0, 1) := by decide +kernel
theorem d_Mo_readsBack_17 : decode b_Mo_readsBack 17 = .ok (.getfield 33, 3) := by decide +kernel
theorem d_Mo_readsBack_20 : decode b_Mo_readsBack 20 = .ok (.invokestatic 108, 3) := by decide +kernel
theorem d_Mo_readsBack_23 : decode b_Mo_readsBack 23 = .ok (.istore_n 2, 1) := by decide +kernel
theorem d_Mo_readsBack_24 : decode b_Mo_readsBack 24 = .ok (.aload_n 0, 1) := by decide +kernel
theorem d_Mo_readsBack_25 : decode b_Mo_readsBack 25 = .ok (.getfield 36, 3) := by decide +kernel
theorem d_Mo_readsBack_28 : decode b_Mo_readsBack 28 = .ok (.invokestatic 112, 3) := by decide +kernel
theorem d_Mo_readsBack_31 : decode b_Mo_readsBack 31 = .ok (.ifCond .lt 37, 3) := by decide +kernel
theorem d_Mo_readsBack_34 : decode b_Mo_readsBack 34 = .ok (.iload_n 1, 1) := by decide +kernel
theorem d_Mo_readsBack_35 : decode b_Mo_readsBack 35 = .ok (.ifCond .gt 14, 3) := by decide +kernel
theorem d_Mo_readsBack_38 : decode b_Mo_readsBack 38 = .ok (.iload_n 1, 1) := by decide +kernel
theorem d_Mo_readsBack_39 : decode b_Mo_readsBack 39 = .ok (.ifCond .ne 29, 3) := by decide +kernel
theorem d_Mo_readsBack_42 : decode b_Mo_readsBack 42 = .ok (.aload_n 0, 1) := by decide +kernel
theorem d_Mo_readsBack_43 : decode b_Mo_readsBack 43 = .ok (.getfield 99, 3) := by decide +kernel
theorem d_Mo_readsBack_46 : decode b_Mo_readsBack 46 = .ok (.ifCond .eq 22, 3) := by decide +kernel
theorem d_Mo_readsBack_49 : decode b_Mo_readsBack 49 = .ok (.iload_n 2, 1) := by decide +kernel
theorem d_Mo_readsBack_50 : decode b_Mo_readsBack 50 = .ok (.ifCond .lt 14, 3) := by decide +kernel
theorem d_Mo_readsBack_53 : decode b_Mo_readsBack 53 = .ok (.iload_n 2, 1) := by decide +kernel
theorem d_Mo_readsBack_54 : decode b_Mo_readsBack 54 = .ok (.ifCond .ne 14, 3) := by decide +kernel
theorem d_Mo_readsBack_57 : decode b_Mo_readsBack 57 = .ok (.aload_n 0, 1) := by decide +kernel
theorem d_Mo_readsBack_58 : decode b_Mo_readsBack 58 = .ok (.getfield 99, 3) := by decide +kernel
theorem d_Mo_readsBack_61 : decode b_Mo_readsBack 61 = .ok (.ifCond .eq 7, 3) := by decide +kernel
theorem d_Mo_readsBack_64 : decode b_Mo_readsBack 64 = .ok (.iconst 1, 1) := by decide +kernel
theorem d_Mo_readsBack_65 : decode b_Mo_readsBack 65 = .ok (.goto 4, 3) := by decide +kernel
theorem d_Mo_readsBack_68 : decode b_Mo_readsBack 68 = .ok (.iconst 0, 1) := by decide +kernel
theorem d_Mo_readsBack_69 : decode b_Mo_readsBack 69 = .ok (.ireturn, 1) := by decide +kernel
theorem d_Mo_measure_0 : decode b_Mo_measure 0 = .ok (.aload_n 0, 1) := by decide +kernel
theorem d_Mo_measure_1 : decode b_Mo_measure 1 = .ok (.getfield 36, 3) := by decide +kernel
theorem d_Mo_measure_4 : decode b_Mo_measure 4 = .ok (.aload_n 0, 1) := by decide +kernel
theorem d_Mo_measure_5 : decode b_Mo_measure 5 = .ok (.getfield 27, 3) := by decide +kernel
theorem d_Mo_measure_8 : decode b_Mo_measure 8 = .ok (.invokestatic 108, 3) := by decide +kernel
theorem d_Mo_measure_11 : decode b_Mo_measure 11 = .ok (.ifCond .ge 7, 3) := by decide +kernel
theorem d_Mo_measure_14 : decode b_Mo_measure 14 = .ok (.iconst 1, 1) := by decide +kernel
theorem d_Mo_measure_15 : decode b_Mo_measure 15 = .ok (.goto 4, 3) := by decide +kernel
theorem d_Mo_measure_18 : decode b_Mo_measure 18 = .ok (.iconst 0, 1) := by decide +kernel
theorem d_Mo_measure_19 : decode b_Mo_measure 19 = .ok (.istore_n 1, 1) := by decide +kernel
theorem d_Mo_measure_20 : decode b_Mo_measure 20 = .ok (.iconst 0, 1) := by decide +kernel
theorem d_Mo_measure_21 : decode b_Mo_measure 21 = .ok (.istore_n 2, 1) := by decide +kernel
theorem d_Mo_measure_22 : decode b_Mo_measure 22 = .ok (.iconst 0, 1) := by decide +kernel
theorem d_Mo_measure_23 : decode b_Mo_measure 23 = .ok (.istore_n 3, 1) := by decide +kernel
theorem d_Mo_measure_24 : decode b_Mo_measure 24 = .ok (.iload_n 3, 1) := by decide +kernel
theorem d_Mo_measure_25 : decode b_Mo_measure 25 = .ok (.sipush 864, 3) := by decide +kernel
theorem d_Mo_measure_28 : decode b_Mo_measure 28 = .ok (.if_icmp .ge 78, 3) := by decide +kernel
theorem d_Mo_measure_31 : decode b_Mo_measure 31 = .ok (.iload_n 1, 1) := by decide +kernel
theorem d_Mo_measure_32 : decode b_Mo_measure 32 = .ok (.ifCond .eq 19, 3) := by decide +kernel
theorem d_Mo_measure_35 : decode b_Mo_measure 35 = .ok (.aload_n 0, 1) := by decide +kernel
theorem d_Mo_measure_36 : decode b_Mo_measure 36 = .ok (.getfield 27, 3) := by decide +kernel
theorem d_Mo_measure_39 : decode b_Mo_measure 39 = .ok (.iload_n 3, 1) := by decide +kernel
theorem d_Mo_measure_40 : decode b_Mo_measure 40 = .ok (.iaload, 1) := by decide +kernel
theorem d_Mo_measure_41 : decode b_Mo_measure 41 = .ok (.aload_n 0, 1) := by decide +kernel
theorem d_Mo_measure_42 : decode b_Mo_measure 42 = .ok (.getfield 36, 3) := by decide +kernel
theorem d_Mo_measure_45 : decode b_Mo_measure 45 = .ok (.iload_n 3, 1) := by decide +kernel
theorem d_Mo_measure_46 : decode b_Mo_measure 46 = .ok (.iaload, 1) := by decide +kernel
theorem d_Mo_measure_47 : decode b_Mo_measure 47 = .ok (.isub, 1) := by decide +kernel
theorem d_Mo_measure_48 : decode b_Mo_measure 48 = .ok (.goto 16, 3) := by decide +kernel
theorem d_Mo_measure_51 : decode b_Mo_measure 51 = .ok (.aload_n 0, 1) := by decide +kernel
theorem d_Mo_measure_52 : decode b_Mo_measure 52 = .ok (.getfield 36, 3) := by decide +kernel
theorem d_Mo_measure_55 : decode b_Mo_measure 55 = .ok (.iload_n 3, 1) := by decide +kernel
theorem d_Mo_measure_56 : decode b_Mo_measure 56 = .ok (.iaload, 1) := by decide +kernel
theorem d_Mo_measure_57 : decode b_Mo_measure 57 = .ok (.aload_n 0, 1) := by decide +kernel
theorem d_Mo_measure_58 : decode b_Mo_measure 58 = .ok (.getfield 27, 3) := by decide +kernel
theorem d_Mo_measure_61 : decode b_Mo_measure 61 = .ok (.iload_n 3, 1) := by decide +kernel
theorem d_Mo_measure_62 : decode b_Mo_measure 62 = .ok (.iaload, 1) := by decide +kernel
theorem d_Mo_measure_63 : decode b_Mo_measure 63 = .ok (.isub, 1) := by decide +kernel
theorem d_Mo_measure_64 : decode b_Mo_measure 64 = .ok (.iload_n 2, 1) := by decide +kernel
theorem d_Mo_measure_65 : decode b_Mo_measure 65 = .ok (.isub, 1) := by decide +kernel
theorem d_Mo_measure_66 : decode b_Mo_measure 66 = .ok (.istore 4, 2) := by decide +kernel
theorem d_Mo_measure_68 : decode b_Mo_measure 68 = .ok (.iload 4, 2) := by decide +kernel
theorem d_Mo_measure_70 : decode b_Mo_measure 70 = .ok (.ifCond .ge 7, 3) := by decide +kernel
theorem d_Mo_measure_73 : decode b_Mo_measure 73 = .ok (.iconst 1, 1) := by decide +kernel
theorem d_Mo_measure_74 : decode b_Mo_measure 74 = .ok (.goto 4, 3) := by decide +kernel
theorem d_Mo_measure_77 : decode b_Mo_measure 77 = .ok (.iconst 0, 1) := by decide +kernel
theorem d_Mo_measure_78 : decode b_Mo_measure 78 = .ok (.istore_n 2, 1) := by decide +kernel
theorem d_Mo_measure_79 : decode b_Mo_measure 79 = .ok (.aload_n 0, 1) := by decide +kernel
theorem d_Mo_measure_80 : decode b_Mo_measure 80 = .ok (.getfield 42, 3) := by decide +kernel
theorem d_Mo_measure_83 : decode b_Mo_measure 83 = .ok (.iload_n 3, 1) := by decide +kernel
theorem d_Mo_measure_84 : decode b_Mo_measure 84 = .ok (.iload 4, 2) := by decide +kernel
theorem d_Mo_measure_86 : decode b_Mo_measure 86 = .ok (.ifCond .ge 11, 3) := by decide +kernel
theorem d_Mo_measure_89 : decode b_Mo_measure 89 = .ok (.iload 4, 2) := by decide +kernel
theorem d_Mo_measure_91 : decode b_Mo_measure 91 = .ok (.bipush 10, 2) := by decide +kernel
theorem d_Mo_measure_93 : decode b_Mo_measure 93 = .ok (.iadd, 1) := by decide +kernel
theorem d_Mo_measure_94 : decode b_Mo_measure 94 = .ok (.goto 5, 3) := by decide +kernel
theorem d_Mo_measure_97 : decode b_Mo_measure 97 = .ok (.iload 4, 2) := by decide +kernel
theorem d_Mo_measure_99 : decode b_Mo_measure 99 = .ok (.iastore, 1) := by decide +kernel
theorem d_Mo_measure_100 : decode b_Mo_measure 100 = .ok (.iinc 3 1, 3) := by decide +kernel
theorem d_Mo_measure_103 : decode b_Mo_measure 103 = .ok (.goto (-79), 3) := by decide +kernel
theorem d_Mo_measure_106 : decode b_Mo_measure 106 = .ok (.return_, 1) := by decide +kernel
theorem d_Mo_search_0 : decode b_Mo_search 0 = .ok (.aload_n 0, 1) := by decide +kernel
theorem d_Mo_search_1 : decode b_Mo_search 1 = .ok (.invokevirtual 116, 3) := by decide +kernel
theorem d_Mo_search_4 : decode b_Mo_search 4 = .ok (.aload_n 0, 1) := by decide +kernel
theorem d_Mo_search_5 : decode b_Mo_search 5 = .ok (.getfield 27, 3) := by decide +kernel
theorem d_Mo_search_8 : decode b_Mo_search 8 = .ok (.invokestatic 112, 3) := by decide +kernel
theorem d_Mo_search_11 : decode b_Mo_search 11 = .ok (.iconst 2, 1) := by decide +kernel
theorem d_Mo_search_12 : decode b_Mo_search 12 = .ok (.iadd, 1) := by decide +kernel
theorem d_Mo_search_13 : decode b_Mo_search 13 = .ok (.istore_n 1, 1) := by decide +kernel
theorem d_Mo_search_14 : decode b_Mo_search 14 = .ok (.iconst 0, 1) := by decide +kernel
theorem d_Mo_search_15 : decode b_Mo_search 15 = .ok (.istore_n 2, 1) := by decide +kernel
theorem d_Mo_search_16 : decode b_Mo_search 16 = .ok (.iload_n 2, 1) := by decide +kernel
theorem d_Mo_search_17 : decode b_Mo_search 17 = .ok (.ifCond .ne 35, 3) := by decide +kernel
theorem d_Mo_search_20 : decode b_Mo_search 20 = .ok (.iinc 1 (-1), 3) := by decide +kernel
theorem d_Mo_search_23 : decode b_Mo_search 23 = .ok (.aload_n 0, 1) := by decide +kernel
theorem d_Mo_search_24 : decode b_Mo_search 24 = .ok (.iload_n 1, 1) := by decide +kernel
theorem d_Mo_search_25 : decode b_Mo_search 25 = .ok (.iconst 0, 1) := by decide +kernel
theorem d_Mo_search_26 : decode b_Mo_search 26 = .ok (.invokevirtual 119, 3) := by decide +kernel
theorem d_Mo_search_29 : decode b_Mo_search 29 = .ok (.aload_n 0, 1) := by decide +kernel
theorem d_Mo_search_30 : decode b_Mo_search 30 = .ok (.invokevirtual 123, 3) := by decide +kernel
theorem d_Mo_search_33 : decode b_Mo_search 33 = .ok (.istore_n 2, 1) := by decide +kernel
theorem d_Mo_search_34 : decode b_Mo_search 34 = .ok (.iload_n 2, 1) := by decide +kernel
theorem d_Mo_search_35 : decode b_Mo_search 35 = .ok (.ifCond .ne (-19), 3) := by decide +kernel
theorem d_Mo_search_38 : decode b_Mo_search 38 = .ok (.aload_n 0, 1) := by decide +kernel
theorem d_Mo_search_39 : decode b_Mo_search 39 = .ok (.iload_n 1, 1) := by decide +kernel
theorem d_Mo_search_40 : decode b_Mo_search 40 = .ok (.iconst 1, 1) := by decide +kernel
theorem d_Mo_search_41 : decode b_Mo_search 41 = .ok (.invokevirtual 119, 3) := by decide +kernel
theorem d_Mo_search_44 : decode b_Mo_search 44 = .ok (.aload_n 0, 1) := by decide +kernel
theorem d_Mo_search_45 : decode b_Mo_search 45 = .ok (.invokevirtual 123, 3) := by decide +kernel
theorem d_Mo_search_48 : decode b_Mo_search 48 = .ok (.istore_n 2, 1) := by decide +kernel
theorem d_Mo_search_49 : decode b_Mo_search 49 = .ok (.goto (-33), 3) := by decide +kernel
theorem d_Mo_search_52 : decode b_Mo_search 52 = .ok (.aload_n 0, 1) := by decide +kernel
theorem d_Mo_search_53 : decode b_Mo_search 53 = .ok (.getfield 36, 3) := by decide +kernel
theorem d_Mo_search_56 : decode b_Mo_search 56 = .ok (.invokestatic 112, 3) := by decide +kernel
theorem d_Mo_search_59 : decode b_Mo_search 59 = .ok (.aload_n 0, 1) := by decide +kernel
theorem d_Mo_search_60 : decode b_Mo_search 60 = .ok (.getfield 36, 3) := by decide +kernel
theorem d_Mo_search_63 : decode b_Mo_search 63 = .ok (.invokestatic 126, 3) := by decide +kernel
theorem d_Mo_search_66 : decode b_Mo_search 66 = .ok (.isub, 1) := by decide +kernel
theorem d_Mo_search_67 : decode b_Mo_search 67 = .ok (.iconst 1, 1) := by decide +kernel
theorem d_Mo_search_68 : decode b_Mo_search 68 = .ok (.iadd, 1) := by decide +kernel
theorem d_Mo_search_69 : decode b_Mo_search 69 = .ok (.istore_n 3, 1) := by decide +kernel
theorem d_Mo_search_70 : decode b_Mo_search 70 = .ok (.iload_n 3, 1) := by decide +kernel
theorem d_Mo_search_71 : decode b_Mo_search 71 = .ok (.iconst 1, 1) := by decide +kernel
theorem d_Mo_search_72 : decode b_Mo_search 72 = .ok (.if_icmp .ne 7, 3) := by decide +kernel
theorem d_Mo_search_75 : decode b_Mo_search 75 = .ok (.iconst 2, 1) := by decide +kernel
theorem d_Mo_search_76 : decode b_Mo_search 76 = .ok (.goto 4, 3) := by decide +kernel
theorem d_Mo_search_79 : decode b_Mo_search 79 = .ok (.iload_n 3, 1) := by decide +kernel
theorem d_Mo_search_80 : decode b_Mo_search 80 = .ok (.istore_n 3, 1) := by decide +kernel
theorem d_Mo_search_81 : decode b_Mo_search 81 = .ok (.iconst 0, 1) := by decide +kernel
theorem d_Mo_search_82 : decode b_Mo_search 82 = .ok (.istore 4, 2) := by decide +kernel
theorem d_Mo_search_84 : decode b_Mo_search 84 = .ok (.iload_n 1, 1) := by decide +kernel
theorem d_Mo_search_85 : decode b_Mo_search 85 = .ok (.istore 5, 2) := by decide +kernel
theorem d_Mo_search_87 : decode b_Mo_search 87 = .ok (.iload 5, 2) := by decide +kernel
theorem d_Mo_search_89 : decode b_Mo_search 89 = .ok (.ifCond .lt 180, 3) := by decide +kernel
theorem d_Mo_search_92 : decode b_Mo_search 92 = .ok (.iload 5, 2) := by decide +kernel
theorem d_Mo_search_94 : decode b_Mo_search 94 = .ok (.iload_n 1, 1) := by decide +kernel
theorem d_Mo_search_95 : decode b_Mo_search 95 = .ok (.iconst 3, 1) := by decide +kernel
theorem d_Mo_search_96 : decode b_Mo_search 96 = .ok (.isub, 1) := by decide +kernel
theorem d_Mo_search_97 : decode b_Mo_search 97 = .ok (.if_icmp .le 172, 3) := by decide +kernel
theorem d_Mo_search_100 : decode b_Mo_search 100 = .ok (.iconst 0, 1) := by decide +kernel
theorem d_Mo_search_101 : decode b_Mo_search 101 = .ok (.istore 6, 2) := by decide +kernel
theorem d_Mo_search_103 : decode b_Mo_search 103 = .ok (.iload 6, 2) := by decide +kernel
theorem d_Mo_search_105 : decode b_Mo_search 105 = .ok (.iconst 2, 1) := by decide +kernel
theorem d_Mo_search_106 : decode b_Mo_search 106 = .ok (.if_icmp .ge 157, 3) := by decide +kernel
theorem d_Mo_search_109 : decode b_Mo_search 109 = .ok (.aload_n 0, 1) := by decide +kernel
theorem d_Mo_search_110 : decode b_Mo_search 110 = .ok (.iload 5, 2) := by decide +kernel
theorem d_Mo_search_112 : decode b_Mo_search 112 = .ok (.iload 6, 2) := by decide +kernel
theorem d_Mo_search_114 : decode b_Mo_search 114 = .ok (.iconst 1, 1) := by decide +kernel
theorem d_Mo_search_115 : decode b_Mo_search 115 = .ok (.if_icmp .ne 7, 3) := by decide +kernel
theorem d_Mo_search_118 : decode b_Mo_search 118 = .ok (.iconst 1, 1) := by decide +kernel
theorem d_Mo_search_119 : decode b_Mo_search 119 = .ok (.goto 4, 3) := by decide +kernel
theorem d_Mo_search_122 : decode b_Mo_search 122 = .ok (.iconst 0, 1) := by decide +kernel
theorem d_Mo_search_123 : decode b_Mo_search 123 = .ok (.invokevirtual 119, 3) := by decide +kernel
theorem d_Mo_search_126 : decode b_Mo_search 126 = .ok (.aload_n 0, 1) := by decide +kernel
theorem d_Mo_search_127 : decode b_Mo_search 127 = .ok (.invokevirtual 123, 3) := by decide +kernel
theorem d_Mo_search_130 : decode b_Mo_search 130 = .ok (.ifCond .eq 127, 3) := by decide +kernel
theorem d_Mo_search_133 : decode b_Mo_search 133 = .ok (.aload_n 0, 1) := by decide +kernel
theorem d_Mo_search_134 : decode b_Mo_search 134 = .ok (.getfield 36, 3) := by decide +kernel
theorem d_Mo_search_137 : decode b_Mo_search 137 = .ok (.invokestatic 112, 3) := by decide +kernel
theorem d_Mo_search_140 : decode b_Mo_search 140 = .ok (.aload_n 0, 1) := by decide +kernel
theorem d_Mo_search_141 : decode b_Mo_search 141 = .ok (.getfield 36, 3) := by decide +kernel
theorem d_Mo_search_144 : decode b_Mo_search 144 = .ok (.invokestatic 126, 3) := by decide +kernel
theorem d_Mo_search_147 : decode b_Mo_search 147 = .ok (.isub, 1) := by decide +kernel
theorem d_Mo_search_148 : decode b_Mo_search 148 = .ok (.iconst 1, 1) := by decide +kernel
theorem d_Mo_search_149 : decode b_Mo_search 149 = .ok (.iadd, 1) := by decide +kernel
theorem d_Mo_search_150 : decode b_Mo_search 150 = .ok (.iload_n 3, 1) := by decide +kernel
theorem d_Mo_search_151 : decode b_Mo_search 151 = .ok (.if_icmp .le 6, 3) := by decide +kernel
theorem d_Mo_search_154 : decode b_Mo_search 154 = .ok (.goto 103, 3) := by decide +kernel
theorem d_Mo_search_157 : decode b_Mo_search 157 = .ok (.aload_n 0, 1) := by decide +kernel
theorem d_Mo_search_158 : decode b_Mo_search 158 = .ok (.invokevirtual 129, 3) := by decide +kernel
theorem d_Mo_search_161 : decode b_Mo_search 161 = .ok (.iload 4, 2) := by decide +kernel
theorem d_Mo_search_163 : decode b_Mo_search 163 = .ok (.ifCond .eq 17, 3) := by decide +kernel
theorem d_Mo_search_166 : decode b_Mo_search 166 = .ok (.aload_n 0, 1) := by decide +kernel
theorem d_Mo_search_167 : decode b_Mo_search 167 = .ok (.getfield 42, 3) := by decide +kernel
theorem d_Mo_search_170 : decode b_Mo_search 170 = .ok (.aload_n 0, 1) := by decide +kernel
theorem d_Mo_search_171 : decode b_Mo_search 171 = .ok (.getfield 45, 3) := by decide +kernel
theorem d_Mo_search_174 : decode b_Mo_search 174 = .ok (.invokestatic 108, 3) := by decide +kernel
theorem d_Mo_search_177 : decode b_Mo_search 177 = .ok (.goto 4, 3) := by decide +kernel
theorem d_Mo_search_180 : decode b_Mo_search 180 = .ok (.iconst (-1), 1) := by decide +kernel
theorem d_Mo_search_181 : decode b_Mo_search 181 = .ok (.istore 7, 2) := by decide +kernel
theorem d_Mo_search_183 : decode b_Mo_search 183 = .ok (.iload 7, 2) := by decide +kernel
theorem d_Mo_search_185 : decode b_Mo_search 185 = .ok (.ifCond .gt 72, 3) := by decide +kernel
theorem d_Mo_search_188 : decode b_Mo_search 188 = .ok (.iload 7, 2) := by decide +kernel
theorem d_Mo_search_190 : decode b_Mo_search 190 = .ok (.ifCond .ne 19, 3) := by decide +kernel
theorem d_Mo_search_193 : decode b_Mo_search 193 = .ok (.aload_n 0, 1) := by decide +kernel
theorem d_Mo_search_194 : decode b_Mo_search 194 = .ok (.getfield 36, 3) := by decide +kernel
theorem d_Mo_search_197 : decode b_Mo_search 197 = .ok (.iload 5, 2) := by decide +kernel
theorem d_Mo_search_199 : decode b_Mo_search 199 = .ok (.iaload, 1) := by decide +kernel
theorem d_Mo_search_200 : decode b_Mo_search 200 = .ok (.iconst 2, 1) := by decide +kernel
theorem d_Mo_search_201 : decode b_Mo_search 201 = .ok (.irem, 1) := by decide +kernel
theorem d_Mo_search_202 : decode b_Mo_search 202 = .ok (.iconst 1, 1) := by decide +kernel
theorem d_Mo_search_203 : decode b_Mo_search 203 = .ok (.if_icmp .ne 6, 3) := by decide +kernel
theorem d_Mo_search_206 : decode b_Mo_search 206 = .ok (.goto 51, 3) := by decide +kernel
theorem d_Mo_search_209 : decode b_Mo_search 209 = .ok (.iconst 1, 1) := by decide +kernel
theorem d_Mo_search_210 : decode b_Mo_search 210 = .ok (.istore 4, 2) := by decide +kernel
theorem d_Mo_search_212 : decode b_Mo_search 212 = .ok (.iconst 0, 1) := by decide +kernel
theorem d_Mo_search_213 : decode b_Mo_search 213 = .ok (.istore 8, 2) := by decide +kernel
theorem d_Mo_search_215 : decode b_Mo_search 215 = .ok (.iload 8, 2) := by decide +kernel
theorem d_Mo_search_217 : decode b_Mo_search 217 = .ok (.sipush 864, 3) := by decide +kernel
theorem d_Mo_search_220 : decode b_Mo_search 220 = .ok (.if_icmp .ge 37, 3) := by decide +kernel
theorem d_Mo_search_223 : decode b_Mo_search 223 = .ok (.aload_n 0, 1) := by decide +kernel
theorem d_Mo_search_224 : decode b_Mo_search 224 = .ok (.getfield 39, 3) := by decide +kernel
theorem d_Mo_search_227 : decode b_Mo_search 227 = .ok (.iload 8, 2) := by decide +kernel
theorem d_Mo_search_229 : decode b_Mo_search 229 = .ok (.aload_n 0, 1) := by decide +kernel
theorem d_Mo_search_230 : decode b_Mo_search 230 = .ok (.getfield 36, 3) := by decide +kernel
theorem d_Mo_search_233 : decode b_Mo_search 233 = .ok (.iload 8, 2) := by decide +kernel
theorem d_Mo_search_235 : decode b_Mo_search 235 = .ok (.iaload, 1) := by decide +kernel
theorem d_Mo_search_236 : decode b_Mo_search 236 = .ok (.iastore, 1) := by decide +kernel
theorem d_Mo_search_237 : decode b_Mo_search 237 = .ok (.aload_n 0, 1) := by decide +kernel
theorem d_Mo_search_238 : decode b_Mo_search 238 = .ok (.getfield 45, 3) := by decide +kernel
theorem d_Mo_search_241 : decode b_Mo_search 241 = .ok (.iload 8, 2) := by decide +kernel
theorem d_Mo_search_243 : decode b_Mo_search 243 = .ok (.aload_n 0, 1) := by decide +kernel
theorem d_Mo_search_244 : decode b_Mo_search 244 = .ok (.getfield 42, 3) := by decide +kernel
theorem d_Mo_search_247 : decode b_Mo_search 247 = .ok (.iload 8, 2) := by decide +kernel
theorem d_Mo_search_249 : decode b_Mo_search 249 = .ok (.iaload, 1) := by decide +kernel
theorem d_Mo_search_250 : decode b_Mo_search 250 = .ok (.iastore, 1) := by decide +kernel
theorem d_Mo_search_251 : decode b_Mo_search 251 = .ok (.iinc 8 1, 3) := by decide +kernel
theorem d_Mo_search_254 : decode b_Mo_search 254 = .ok (.goto (-39), 3) := by decide +kernel
theorem d_Mo_search_257 : decode b_Mo_search 257 = .ok (.iinc 6 1, 3) := by decide +kernel
theorem d_Mo_search_260 : decode b_Mo_search 260 = .ok (.goto (-157), 3) := by decide +kernel
theorem d_Mo_search_263 : decode b_Mo_search 263 = .ok (.iinc 5 (-1), 3) := by decide +kernel
theorem d_Mo_search_266 : decode b_Mo_search 266 = .ok (.goto (-179), 3) := by decide +kernel
theorem d_Mo_search_269 : decode b_Mo_search 269 = .ok (.return_, 1) := by decide +kernel
theorem d_Mo_digits_0 : decode b_Mo_digits 0 = .ok (.aload_n 0, 1) := by decide +kernel
theorem d_Mo_digits_1 : decode b_Mo_digits 1 = .ok (.iconst 0, 1) := by decide +kernel
theorem d_Mo_digits_2 : decode b_Mo_digits 2 = .ok (.putfield 48, 3) := by decide +kernel
theorem d_Mo_digits_5 : decode b_Mo_digits 5 = .ok (.aload_n 0, 1) := by decide +kernel
theorem d_Mo_digits_6 : decode b_Mo_digits 6 = .ok (.invokevirtual 132, 3) := by decide +kernel
theorem d_Mo_digits_9 : decode b_Mo_digits 9 = .ok (.iconst 4, 1) := by decide +kernel
theorem d_Mo_digits_10 : decode b_Mo_digits 10 = .ok (.if_icmp .eq 5, 3) := by decide +kernel
theorem d_Mo_digits_13 : decode b_Mo_digits 13 = .ok (.lconst 0, 1) := by decide +kernel
theorem d_Mo_digits_14 : decode b_Mo_digits 14 = .ok (.lreturn, 1) := by decide +kernel
theorem d_Mo_digits_15 : decode b_Mo_digits 15 = .ok (.aload_n 0, 1) := by decide +kernel
theorem d_Mo_digits_16 : decode b_Mo_digits 16 = .ok (.invokevirtual 135, 3) := by decide +kernel
theorem d_Mo_digits_19 : decode b_Mo_digits 19 = .ok (.lconst 0, 1) := by decide +kernel
theorem d_Mo_digits_20 : decode b_Mo_digits 20 = .ok (.lstore_n 1, 1) := by decide +kernel
theorem d_Mo_digits_21 : decode b_Mo_digits 21 = .ok (.aload_n 0, 1) := by decide +kernel
theorem d_Mo_digits_22 : decode b_Mo_digits 22 = .ok (.getfield 39, 3) := by decide +kernel
theorem d_Mo_digits_25 : decode b_Mo_digits 25 = .ok (.invokestatic 112, 3) := by decide +kernel
theorem d_Mo_digits_28 : decode b_Mo_digits 28 = .ok (.istore_n 3, 1) := by decide +kernel
theorem d_Mo_digits_29 : decode b_Mo_digits 29 = .ok (.iload_n 3, 1) := by decide +kernel
theorem d_Mo_digits_30 : decode b_Mo_digits 30 = .ok (.aload_n 0, 1) := by decide +kernel
theorem d_Mo_digits_31 : decode b_Mo_digits 31 = .ok (.getfield 39, 3) := by decide +kernel
theorem d_Mo_digits_34 : decode b_Mo_digits 34 = .ok (.invokestatic 126, 3) := by decide +kernel
theorem d_Mo_digits_37 : decode b_Mo_digits 37 = .ok (.if_icmp .lt 23, 3) := by decide +kernel
theorem d_Mo_digits_40 : decode b_Mo_digits 40 = .ok (.ldc2_w 138, 3) := by decide +kernel
theorem d_Mo_digits_43 : decode b_Mo_digits 43 = .ok (.lload_n 1, 1) := by decide +kernel
theorem d_Mo_digits_44 : decode b_Mo_digits 44 = .ok (.lmul, 1) := by decide +kernel
theorem d_Mo_digits_45 : decode b_Mo_digits 45 = .ok (.aload_n 0, 1) := by decide +kernel
theorem d_Mo_digits_46 : decode b_Mo_digits 46 = .ok (.getfield 39, 3) := by decide +kernel
theorem d_Mo_digits_49 : decode b_Mo_digits 49 = .ok (.iload_n 3, 1) := by decide +kernel
theorem d_Mo_digits_50 : decode b_Mo_digits 50 = .ok (.iaload, 1) := by decide +kernel
theorem d_Mo_digits_51 : decode b_Mo_digits 51 = .ok (.i2l, 1) := by decide +kernel
theorem d_Mo_digits_52 : decode b_Mo_digits 52 = .ok (.ladd, 1) := by decide +kernel
theorem d_Mo_digits_53 : decode b_Mo_digits 53 = .ok (.lstore_n 1, 1) := by decide +kernel
theorem d_Mo_digits_54 : decode b_Mo_digits 54 = .ok (.iinc 3 (-1), 3) := by decide +kernel
theorem d_Mo_digits_57 : decode b_Mo_digits 57 = .ok (.goto (-28), 3) := by decide +kernel
theorem d_Mo_digits_60 : decode b_Mo_digits 60 = .ok (.lload_n 1, 1) := by decide +kernel
theorem d_Mo_digits_61 : decode b_Mo_digits 61 = .ok (.lreturn, 1) := by decide +kernel
theorem d_Mo_tens_0 : decode b_Mo_tens 0 = .ok (.aload_n 0, 1) := by decide +kernel
theorem d_Mo_tens_1 : decode b_Mo_tens 1 = .ok (.iconst 0, 1) := by decide +kernel
theorem d_Mo_tens_2 : decode b_Mo_tens 2 = .ok (.putfield 48, 3) := by decide +kernel
theorem d_Mo_tens_5 : decode b_Mo_tens 5 = .ok (.aload_n 0, 1) := by decide +kernel
theorem d_Mo_tens_6 : decode b_Mo_tens 6 = .ok (.invokevirtual 132, 3) := by decide +kernel
theorem d_Mo_tens_9 : decode b_Mo_tens 9 = .ok (.iconst 4, 1) := by decide +kernel
theorem d_Mo_tens_10 : decode b_Mo_tens 10 = .ok (.if_icmp .eq 5, 3) := by decide +kernel
theorem d_Mo_tens_13 : decode b_Mo_tens 13 = .ok (.iconst 0, 1) := by decide +kernel
theorem d_Mo_tens_14 : decode b_Mo_tens 14 = .ok (.ireturn, 1) := by decide +kernel
theorem d_Mo_tens_15 : decode b_Mo_tens 15 = .ok (.aload_n 0, 1) := by decide +kernel
theorem d_Mo_tens_16 : decode b_Mo_tens 16 = .ok (.invokevirtual 135, 3) := by decide +kernel
theorem d_Mo_tens_19 : decode b_Mo_tens 19 = .ok (.aload_n 0, 1) := by decide +kernel
theorem d_Mo_tens_20 : decode b_Mo_tens 20 = .ok (.getfield 39, 3) := by decide +kernel
theorem d_Mo_tens_23 : decode b_Mo_tens 23 = .ok (.invokestatic 126, 3) := by decide +kernel
theorem d_Mo_tens_26 : decode b_Mo_tens 26 = .ok (.aload_n 0, 1) := by decide +kernel
theorem d_Mo_tens_27 : decode b_Mo_tens 27 = .ok (.getfield 96, 3) := by decide +kernel
theorem d_Mo_tens_30 : decode b_Mo_tens 30 = .ok (.isub, 1) := by decide +kernel
theorem d_Mo_tens_31 : decode b_Mo_tens 31 = .ok (.ireturn, 1) := by decide +kernel
theorem d_Mo_put_0 : decode b_Mo_put 0 = .ok (.aload_n 0, 1) := by decide +kernel
theorem d_Mo_put_1 : decode b_Mo_put 1 = .ok (.getfield 16, 3) := by decide +kernel
theorem d_Mo_put_4 : decode b_Mo_put 4 = .ok (.aload_n 0, 1) := by decide +kernel
theorem d_Mo_put_5 : decode b_Mo_put 5 = .ok (.getfield 140, 3) := by decide +kernel
theorem d_Mo_put_8 : decode b_Mo_put 8 = .ok (.iload_n 1, 1) := by decide +kernel
theorem d_Mo_put_9 : decode b_Mo_put 9 = .ok (.iastore, 1) := by decide +kernel
theorem d_Mo_put_10 : decode b_Mo_put 10 = .ok (.aload_n 0, 1) := by decide +kernel
theorem d_Mo_put_11 : decode b_Mo_put 11 = .ok (.dup, 1) := by decide +kernel
theorem d_Mo_put_12 : decode b_Mo_put 12 = .ok (.getfield 140, 3) := by decide +kernel
theorem d_Mo_put_15 : decode b_Mo_put 15 = .ok (.iconst 1, 1) := by decide +kernel
theorem d_Mo_put_16 : decode b_Mo_put 16 = .ok (.iadd, 1) := by decide +kernel
theorem d_Mo_put_17 : decode b_Mo_put 17 = .ok (.putfield 140, 3) := by decide +kernel
theorem d_Mo_put_20 : decode b_Mo_put 20 = .ok (.return_, 1) := by decide +kernel
theorem d_Mo_putNumber_0 : decode b_Mo_putNumber 0 = .ok (.iload_n 1, 1) := by decide +kernel
theorem d_Mo_putNumber_1 : decode b_Mo_putNumber 1 = .ok (.ifCond .ge 9, 3) := by decide +kernel
theorem d_Mo_putNumber_4 : decode b_Mo_putNumber 4 = .ok (.aload_n 0, 1) := by decide +kernel
theorem d_Mo_putNumber_5 : decode b_Mo_putNumber 5 = .ok (.bipush 45, 2) := by decide +kernel
theorem d_Mo_putNumber_7 : decode b_Mo_putNumber 7 = .ok (.invokevirtual 143, 3) := by decide +kernel
theorem d_Mo_putNumber_10 : decode b_Mo_putNumber 10 = .ok (.iload_n 1, 1) := by decide +kernel
theorem d_Mo_putNumber_11 : decode b_Mo_putNumber 11 = .ok (.ifCond .ge 8, 3) := by decide +kernel
theorem d_Mo_putNumber_14 : decode b_Mo_putNumber 14 = .ok (.iload_n 1, 1) := by decide +kernel
theorem d_Mo_putNumber_15 : decode b_Mo_putNumber 15 = .ok (.ineg, 1) := by decide +kernel
theorem d_Mo_putNumber_16 : decode b_Mo_putNumber 16 = .ok (.goto 4, 3) := by decide +kernel
theorem d_Mo_putNumber_19 : decode b_Mo_putNumber 19 = .ok (.iload_n 1, 1) := by decide +kernel
theorem d_Mo_putNumber_20 : decode b_Mo_putNumber 20 = .ok (.istore_n 2, 1) := by decide +kernel
theorem d_Mo_putNumber_21 : decode b_Mo_putNumber 21 = .ok (.iconst 1, 1) := by decide +kernel
theorem d_Mo_putNumber_22 : decode b_Mo_putNumber 22 = .ok (.istore_n 3, 1) := by decide +kernel
theorem d_Mo_putNumber_23 : decode b_Mo_putNumber 23 = .ok (.iload_n 2, 1) := by decide +kernel
theorem d_Mo_putNumber_24 : decode b_Mo_putNumber 24 = .ok (.iload_n 3, 1) := by decide +kernel
theorem d_Mo_putNumber_25 : decode b_Mo_putNumber 25 = .ok (.idiv, 1) := by decide +kernel
theorem d_Mo_putNumber_26 : decode b_Mo_putNumber 26 = .ok (.bipush 9, 2) := by decide +kernel
theorem d_Mo_putNumber_28 : decode b_Mo_putNumber 28 = .ok (.if_icmp .le 11, 3) := by decide +kernel
theorem d_Mo_putNumber_31 : decode b_Mo_putNumber 31 = .ok (.bipush 10, 2) := by decide +kernel
theorem d_Mo_putNumber_33 : decode b_Mo_putNumber 33 = .ok (.iload_n 3, 1) := by decide +kernel
theorem d_Mo_putNumber_34 : decode b_Mo_putNumber 34 = .ok (.imul, 1) := by decide +kernel
theorem d_Mo_putNumber_35 : decode b_Mo_putNumber 35 = .ok (.istore_n 3, 1) := by decide +kernel
theorem d_Mo_putNumber_36 : decode b_Mo_putNumber 36 = .ok (.goto (-13), 3) := by decide +kernel
theorem d_Mo_putNumber_39 : decode b_Mo_putNumber 39 = .ok (.iload_n 3, 1) := by decide +kernel
theorem d_Mo_putNumber_40 : decode b_Mo_putNumber 40 = .ok (.ifCond .le 24, 3) := by decide +kernel
theorem d_Mo_putNumber_43 : decode b_Mo_putNumber 43 = .ok (.aload_n 0, 1) := by decide +kernel
theorem d_Mo_putNumber_44 : decode b_Mo_putNumber 44 = .ok (.bipush 48, 2) := by decide +kernel
theorem d_Mo_putNumber_46 : decode b_Mo_putNumber 46 = .ok (.iload_n 2, 1) := by decide +kernel
theorem d_Mo_putNumber_47 : decode b_Mo_putNumber 47 = .ok (.iload_n 3, 1) := by decide +kernel
theorem d_Mo_putNumber_48 : decode b_Mo_putNumber 48 = .ok (.idiv, 1) := by decide +kernel
theorem d_Mo_putNumber_49 : decode b_Mo_putNumber 49 = .ok (.bipush 10, 2) := by decide +kernel
theorem d_Mo_putNumber_51 : decode b_Mo_putNumber 51 = .ok (.irem, 1) := by decide +kernel
theorem d_Mo_putNumber_52 : decode b_Mo_putNumber 52 = .ok (.iadd, 1) := by decide +kernel
theorem d_Mo_putNumber_53 : decode b_Mo_putNumber 53 = .ok (.invokevirtual 143, 3) := by decide +kernel
theorem d_Mo_putNumber_56 : decode b_Mo_putNumber 56 = .ok (.iload_n 3, 1) := by decide +kernel
theorem d_Mo_putNumber_57 : decode b_Mo_putNumber 57 = .ok (.bipush 10, 2) := by decide +kernel
theorem d_Mo_putNumber_59 : decode b_Mo_putNumber 59 = .ok (.idiv, 1) := by decide +kernel
theorem d_Mo_putNumber_60 : decode b_Mo_putNumber 60 = .ok (.istore_n 3, 1) := by decide +kernel
theorem d_Mo_putNumber_61 : decode b_Mo_putNumber 61 = .ok (.goto (-22), 3) := by decide +kernel
theorem d_Mo_putNumber_64 : decode b_Mo_putNumber 64 = .ok (.return_, 1) := by decide +kernel
theorem d_Mo_putOther_0 : decode b_Mo_putOther 0 = .ok (.aload_n 0, 1) := by decide +kernel
theorem d_Mo_putOther_1 : decode b_Mo_putOther 1 = .ok (.invokevirtual 132, 3) := by decide +kernel
theorem d_Mo_putOther_4 : decode b_Mo_putOther 4 = .ok (.istore_n 2, 1) := by decide +kernel
theorem d_Mo_putOther_5 : decode b_Mo_putOther 5 = .ok (.iload_n 2, 1) := by decide +kernel
theorem d_Mo_putOther_6 : decode b_Mo_putOther 6 = .ok (.iconst 1, 1) := by decide +kernel
theorem d_Mo_putOther_7 : decode b_Mo_putOther 7 = .ok (.if_icmp .le 16, 3) := by decide +kernel
theorem d_Mo_putOther_10 : decode b_Mo_putOther 10 = .ok (.aload_n 0, 1) := by decide +kernel
theorem d_Mo_putOther_11 : decode b_Mo_putOther 11 = .ok (.invokevirtual 147, 3) := by decide +kernel
theorem d_Mo_putOther_14 : decode b_Mo_putOther 14 = .ok (.ifCond .eq 9, 3) := by decide +kernel
theorem d_Mo_putOther_17 : decode b_Mo_putOther 17 = .ok (.aload_n 0, 1) := by decide +kernel
theorem d_Mo_putOther_18 : decode b_Mo_putOther 18 = .ok (.bipush 45, 2) := by decide +kernel
theorem d_Mo_putOther_20 : decode b_Mo_putOther 20 = .ok (.invokevirtual 143, 3) := by decide +kernel
theorem d_Mo_putOther_23 : decode b_Mo_putOther 23 = .ok (.iload_n 2, 1) := by decide +kernel
theorem d_Mo_putOther_24 : decode b_Mo_putOther 24 = .ok (.iconst 1, 1) := by decide +kernel
theorem d_Mo_putOther_25 : decode b_Mo_putOther 25 = .ok (.if_icmp .ne 24, 3) := by decide +kernel
theorem d_Mo_putOther_28 : decode b_Mo_putOther 28 = .ok (.aload_n 0, 1) := by decide +kernel
theorem d_Mo_putOther_29 : decode b_Mo_putOther 29 = .ok (.bipush 78, 2) := by decide +kernel
theorem d_Mo_putOther_31 : decode b_Mo_putOther 31 = .ok (.invokevirtual 143, 3) := by decide +kernel
theorem d_Mo_putOther_34 : decode b_Mo_putOther 34 = .ok (.aload_n 0, 1) := by decide +kernel
theorem d_Mo_putOther_35 : decode b_Mo_putOther 35 = .ok (.bipush 97, 2) := by decide +kernel
theorem d_Mo_putOther_37 : decode b_Mo_putOther 37 = .ok (.invokevirtual 143, 3) := by decide +kernel
theorem d_Mo_putOther_40 : decode b_Mo_putOther 40 = .ok (.aload_n 0, 1) := by decide +kernel
theorem d_Mo_putOther_41 : decode b_Mo_putOther 41 = .ok (.bipush 78, 2) := by decide +kernel
theorem d_Mo_putOther_43 : decode b_Mo_putOther 43 = .ok (.invokevirtual 143, 3) := by decide +kernel
theorem d_Mo_putOther_46 : decode b_Mo_putOther 46 = .ok (.goto 122, 3) := by decide +kernel
theorem d_Mo_putOther_49 : decode b_Mo_putOther 49 = .ok (.iload_n 2, 1) := by decide +kernel
theorem d_Mo_putOther_50 : decode b_Mo_putOther 50 = .ok (.iconst 2, 1) := by decide +kernel
theorem d_Mo_putOther_51 : decode b_Mo_putOther 51 = .ok (.if_icmp .ne 54, 3) := by decide +kernel
theorem d_Mo_putOther_54 : decode b_Mo_putOther 54 = .ok (.aload_n 0, 1) := by decide +kernel
theorem d_Mo_putOther_55 : decode b_Mo_putOther 55 = .ok (.bipush 73, 2) := by decide +kernel
theorem d_Mo_putOther_57 : decode b_Mo_putOther 57 = .ok (.invokevirtual 143, 3) := by decide +kernel
theorem d_Mo_putOther_60 : decode b_Mo_putOther 60 = .ok (.aload_n 0, 1) := by decide +kernel
theorem d_Mo_putOther_61 : decode b_Mo_putOther 61 = .ok (.bipush 110, 2) := by decide +kernel
theorem d_Mo_putOther_63 : decode b_Mo_putOther 63 = .ok (.invokevirtual 143, 3) := by decide +kernel
theorem d_Mo_putOther_66 : decode b_Mo_putOther 66 = .ok (.aload_n 0, 1) := by decide +kernel
theorem d_Mo_putOther_67 : decode b_Mo_putOther 67 = .ok (.bipush 102, 2) := by decide +kernel
theorem d_Mo_putOther_69 : decode b_Mo_putOther 69 = .ok (.invokevirtual 143, 3) := by decide +kernel
theorem d_Mo_putOther_72 : decode b_Mo_putOther 72 = .ok (.aload_n 0, 1) := by decide +kernel
theorem d_Mo_putOther_73 : decode b_Mo_putOther 73 = .ok (.bipush 105, 2) := by decide +kernel
theorem d_Mo_putOther_75 : decode b_Mo_putOther 75 = .ok (.invokevirtual 143, 3) := by decide +kernel
theorem d_Mo_putOther_78 : decode b_Mo_putOther 78 = .ok (.aload_n 0, 1) := by decide +kernel
theorem d_Mo_putOther_79 : decode b_Mo_putOther 79 = .ok (.bipush 110, 2) := by decide +kernel
theorem d_Mo_putOther_81 : decode b_Mo_putOther 81 = .ok (.invokevirtual 143, 3) := by decide +kernel
theorem d_Mo_putOther_84 : decode b_Mo_putOther 84 = .ok (.aload_n 0, 1) := by decide +kernel
theorem d_Mo_putOther_85 : decode b_Mo_putOther 85 = .ok (.bipush 105, 2) := by decide +kernel
theorem d_Mo_putOther_87 : decode b_Mo_putOther 87 = .ok (.invokevirtual 143, 3) := by decide +kernel
theorem d_Mo_putOther_90 : decode b_Mo_putOther 90 = .ok (.aload_n 0, 1) := by decide +kernel
theorem d_Mo_putOther_91 : decode b_Mo_putOther 91 = .ok (.bipush 116, 2) := by decide +kernel
theorem d_Mo_putOther_93 : decode b_Mo_putOther 93 = .ok (.invokevirtual 143, 3) := by decide +kernel
theorem d_Mo_putOther_96 : decode b_Mo_putOther 96 = .ok (.aload_n 0, 1) := by decide +kernel
theorem d_Mo_putOther_97 : decode b_Mo_putOther 97 = .ok (.bipush 121, 2) := by decide +kernel
theorem d_Mo_putOther_99 : decode b_Mo_putOther 99 = .ok (.invokevirtual 143, 3) := by decide +kernel
theorem d_Mo_putOther_102 : decode b_Mo_putOther 102 = .ok (.goto 66, 3) := by decide +kernel
theorem d_Mo_putOther_105 : decode b_Mo_putOther 105 = .ok (.iload_n 2, 1) := by decide +kernel
theorem d_Mo_putOther_106 : decode b_Mo_putOther 106 = .ok (.iconst 3, 1) := by decide +kernel
theorem d_Mo_putOther_107 : decode b_Mo_putOther 107 = .ok (.if_icmp .ne 61, 3) := by decide +kernel
theorem d_Mo_putOther_110 : decode b_Mo_putOther 110 = .ok (.aload_n 0, 1) := by decide +kernel
theorem d_Mo_putOther_111 : decode b_Mo_putOther 111 = .ok (.bipush 48, 2) := by decide +kernel
theorem d_Mo_putOther_113 : decode b_Mo_putOther 113 = .ok (.invokevirtual 143, 3) := by decide +kernel
theorem d_Mo_putOther_116 : decode b_Mo_putOther 116 = .ok (.iload_n 1, 1) := by decide +kernel
theorem d_Mo_putOther_117 : decode b_Mo_putOther 117 = .ok (.ifCond .eq 9, 3) := by decide +kernel
theorem d_Mo_putOther_120 : decode b_Mo_putOther 120 = .ok (.aload_n 0, 1) := by decide +kernel
theorem d_Mo_putOther_121 : decode b_Mo_putOther 121 = .ok (.bipush 120, 2) := by decide +kernel
theorem d_Mo_putOther_123 : decode b_Mo_putOther 123 = .ok (.invokevirtual 143, 3) := by decide +kernel
theorem d_Mo_putOther_126 : decode b_Mo_putOther 126 = .ok (.iload_n 1, 1) := by decide +kernel
theorem d_Mo_putOther_127 : decode b_Mo_putOther 127 = .ok (.ifCond .eq 9, 3) := by decide +kernel
theorem d_Mo_putOther_130 : decode b_Mo_putOther 130 = .ok (.aload_n 0, 1) := by decide +kernel
theorem d_Mo_putOther_131 : decode b_Mo_putOther 131 = .ok (.bipush 48, 2) := by decide +kernel
theorem d_Mo_putOther_133 : decode b_Mo_putOther 133 = .ok (.invokevirtual 143, 3) := by decide +kernel
theorem d_Mo_putOther_136 : decode b_Mo_putOther 136 = .ok (.aload_n 0, 1) := by decide +kernel
theorem d_Mo_putOther_137 : decode b_Mo_putOther 137 = .ok (.bipush 46, 2) := by decide +kernel
theorem d_Mo_putOther_139 : decode b_Mo_putOther 139 = .ok (.invokevirtual 143, 3) := by decide +kernel
theorem d_Mo_putOther_142 : decode b_Mo_putOther 142 = .ok (.aload_n 0, 1) := by decide +kernel
theorem d_Mo_putOther_143 : decode b_Mo_putOther 143 = .ok (.bipush 48, 2) := by decide +kernel
theorem d_Mo_putOther_145 : decode b_Mo_putOther 145 = .ok (.invokevirtual 143, 3) := by decide +kernel
theorem d_Mo_putOther_148 : decode b_Mo_putOther 148 = .ok (.iload_n 1, 1) := by decide +kernel
theorem d_Mo_putOther_149 : decode b_Mo_putOther 149 = .ok (.ifCond .eq 9, 3) := by decide +kernel
theorem d_Mo_putOther_152 : decode b_Mo_putOther 152 = .ok (.aload_n 0, 1) := by decide +kernel
theorem d_Mo_putOther_153 : decode b_Mo_putOther 153 = .ok (.bipush 112, 2) := by decide +kernel
theorem d_Mo_putOther_155 : decode b_Mo_putOther 155 = .ok (.invokevirtual 143, 3) := by decide +kernel
theorem d_Mo_putOther_158 : decode b_Mo_putOther 158 = .ok (.iload_n 1, 1) := by decide +kernel
theorem d_Mo_putOther_159 : decode b_Mo_putOther 159 = .ok (.ifCond .eq 9, 3) := by decide +kernel
theorem d_Mo_putOther_162 : decode b_Mo_putOther 162 = .ok (.aload_n 0, 1) := by decide +kernel
theorem d_Mo_putOther_163 : decode b_Mo_putOther 163 = .ok (.bipush 48, 2) := by decide +kernel
theorem d_Mo_putOther_165 : decode b_Mo_putOther 165 = .ok (.invokevirtual 143, 3) := by decide +kernel
theorem d_Mo_putOther_168 : decode b_Mo_putOther 168 = .ok (.iload_n 2, 1) := by decide +kernel
theorem d_Mo_putOther_169 : decode b_Mo_putOther 169 = .ok (.iconst 4, 1) := by decide +kernel
theorem d_Mo_putOther_170 : decode b_Mo_putOther 170 = .ok (.if_icmp .ge 7, 3) := by decide +kernel
theorem d_Mo_putOther_173 : decode b_Mo_putOther 173 = .ok (.iconst 1, 1) := by decide +kernel
theorem d_Mo_putOther_174 : decode b_Mo_putOther 174 = .ok (.goto 4, 3) := by decide +kernel
theorem d_Mo_putOther_177 : decode b_Mo_putOther 177 = .ok (.iconst 0, 1) := by decide +kernel
theorem d_Mo_putOther_178 : decode b_Mo_putOther 178 = .ok (.ireturn, 1) := by decide +kernel
theorem d_Mo_print_0 : decode b_Mo_print 0 = .ok (.aload_n 0, 1) := by decide +kernel
theorem d_Mo_print_1 : decode b_Mo_print 1 = .ok (.iconst 0, 1) := by decide +kernel
theorem d_Mo_print_2 : decode b_Mo_print 2 = .ok (.putfield 48, 3) := by decide +kernel
theorem d_Mo_print_5 : decode b_Mo_print 5 = .ok (.aload_n 0, 1) := by decide +kernel
theorem d_Mo_print_6 : decode b_Mo_print 6 = .ok (.iconst 1, 1) := by decide +kernel
theorem d_Mo_print_7 : decode b_Mo_print 7 = .ok (.putfield 67, 3) := by decide +kernel
theorem d_Mo_print_10 : decode b_Mo_print 10 = .ok (.aload_n 0, 1) := by decide +kernel
theorem d_Mo_print_11 : decode b_Mo_print 11 = .ok (.iload_n 1, 1) := by decide +kernel
theorem d_Mo_print_12 : decode b_Mo_print 12 = .ok (.putfield 51, 3) := by decide +kernel
theorem d_Mo_print_15 : decode b_Mo_print 15 = .ok (.aload_n 0, 1) := by decide +kernel
theorem d_Mo_print_16 : decode b_Mo_print 16 = .ok (.lload_n 2, 1) := by decide +kernel
theorem d_Mo_print_17 : decode b_Mo_print 17 = .ok (.putfield 55, 3) := by decide +kernel
theorem d_Mo_print_20 : decode b_Mo_print 20 = .ok (.aload_n 0, 1) := by decide +kernel
theorem d_Mo_print_21 : decode b_Mo_print 21 = .ok (.iconst 0, 1) := by decide +kernel
theorem d_Mo_print_22 : decode b_Mo_print 22 = .ok (.putfield 140, 3) := by decide +kernel
theorem d_Mo_print_25 : decode b_Mo_print 25 = .ok (.aload_n 0, 1) := by decide +kernel
theorem d_Mo_print_26 : decode b_Mo_print 26 = .ok (.iconst 0, 1) := by decide +kernel
theorem d_Mo_print_27 : decode b_Mo_print 27 = .ok (.invokevirtual 150, 3) := by decide +kernel
theorem d_Mo_print_30 : decode b_Mo_print 30 = .ok (.ifCond .eq 8, 3) := by decide +kernel
theorem d_Mo_print_33 : decode b_Mo_print 33 = .ok (.aload_n 0, 1) := by decide +kernel
theorem d_Mo_print_34 : decode b_Mo_print 34 = .ok (.getfield 140, 3) := by decide +kernel
theorem d_Mo_print_37 : decode b_Mo_print 37 = .ok (.ireturn, 1) := by decide +kernel
theorem d_Mo_print_38 : decode b_Mo_print 38 = .ok (.aload_n 0, 1) := by decide +kernel
theorem d_Mo_print_39 : decode b_Mo_print 39 = .ok (.invokevirtual 135, 3) := by decide +kernel
theorem d_Mo_print_42 : decode b_Mo_print 42 = .ok (.aload_n 0, 1) := by decide +kernel
theorem d_Mo_print_43 : decode b_Mo_print 43 = .ok (.getfield 39, 3) := by decide +kernel
theorem d_Mo_print_46 : decode b_Mo_print 46 = .ok (.invokestatic 112, 3) := by decide +kernel
theorem d_Mo_print_49 : decode b_Mo_print 49 = .ok (.istore 4, 2) := by decide +kernel
theorem d_Mo_print_51 : decode b_Mo_print 51 = .ok (.aload_n 0, 1) := by decide +kernel
theorem d_Mo_print_52 : decode b_Mo_print 52 = .ok (.getfield 39, 3) := by decide +kernel
theorem d_Mo_print_55 : decode b_Mo_print 55 = .ok (.invokestatic 126, 3) := by decide +kernel
theorem d_Mo_print_58 : decode b_Mo_print 58 = .ok (.istore 5, 2) := by decide +kernel
theorem d_Mo_print_60 : decode b_Mo_print 60 = .ok (.iload 4, 2) := by decide +kernel
theorem d_Mo_print_62 : decode b_Mo_print 62 = .ok (.aload_n 0, 1) := by decide +kernel
theorem d_Mo_print_63 : decode b_Mo_print 63 = .ok (.getfield 96, 3) := by decide +kernel
theorem d_Mo_print_66 : decode b_Mo_print 66 = .ok (.isub, 1) := by decide +kernel
theorem d_Mo_print_67 : decode b_Mo_print 67 = .ok (.istore 6, 2) := by decide +kernel
theorem d_Mo_print_69 : decode b_Mo_print 69 = .ok (.iload 6, 2) := by decide +kernel
theorem d_Mo_print_71 : decode b_Mo_print 71 = .ok (.aload_n 0, 1) := by decide +kernel
theorem d_Mo_print_72 : decode b_Mo_print 72 = .ok (.getfield 7, 3) := by decide +kernel
theorem d_Mo_print_75 : decode b_Mo_print 75 = .ok (.if_icmp .lt 16, 3) := by decide +kernel
theorem d_Mo_print_78 : decode b_Mo_print 78 = .ok (.iload 6, 2) := by decide +kernel
theorem d_Mo_print_80 : decode b_Mo_print 80 = .ok (.aload_n 0, 1) := by decide +kernel
theorem d_Mo_print_81 : decode b_Mo_print 81 = .ok (.getfield 13, 3) := by decide +kernel
theorem d_Mo_print_84 : decode b_Mo_print 84 = .ok (.if_icmp .ge 7, 3) := by decide +kernel
theorem d_Mo_print_87 : decode b_Mo_print 87 = .ok (.iconst 1, 1) := by decide +kernel
theorem d_Mo_print_88 : decode b_Mo_print 88 = .ok (.goto 4, 3) := by decide +kernel
theorem d_Mo_print_91 : decode b_Mo_print 91 = .ok (.iconst 0, 1) := by decide +kernel
theorem d_Mo_print_92 : decode b_Mo_print 92 = .ok (.istore 7, 2) := by decide +kernel
theorem d_Mo_print_94 : decode b_Mo_print 94 = .ok (.iload 7, 2) := by decide +kernel
theorem d_Mo_print_96 : decode b_Mo_print 96 = .ok (.ifCond .eq 15, 3) := by decide +kernel
theorem d_Mo_print_99 : decode b_Mo_print 99 = .ok (.iload 6, 2) := by decide +kernel
theorem d_Mo_print_101 : decode b_Mo_print 101 = .ok (.ifCond .ge 10, 3) := by decide +kernel
theorem d_Mo_print_104 : decode b_Mo_print 104 = .ok (.aload_n 0, 1) := by decide +kernel
theorem d_Mo_print_105 : decode b_Mo_print 105 = .ok (.getfield 96, 3) := by decide +kernel
theorem d_Mo_print_108 : decode b_Mo_print 108 = .ok (.goto 5, 3) := by decide +kernel
theorem d_Mo_print_111 : decode b_Mo_print 111 = .ok (.iload 4, 2) := by decide +kernel
theorem d_Mo_print_113 : decode b_Mo_print 113 = .ok (.istore 8, 2) := by decide +kernel
theorem d_Mo_print_115 : decode b_Mo_print 115 = .ok (.iload 7, 2) := by decide +kernel
theorem d_Mo_print_117 : decode b_Mo_print 117 = .ok (.ifCond .eq 10, 3) := by decide +kernel
theorem d_Mo_print_120 : decode b_Mo_print 120 = .ok (.aload_n 0, 1) := by decide +kernel
theorem d_Mo_print_121 : decode b_Mo_print 121 = .ok (.getfield 96, 3) := by decide +kernel
theorem d_Mo_print_124 : decode b_Mo_print 124 = .ok (.goto 5, 3) := by decide +kernel
theorem d_Mo_print_127 : decode b_Mo_print 127 = .ok (.iload 4, 2) := by decide +kernel
theorem d_Mo_print_129 : decode b_Mo_print 129 = .ok (.istore 9, 2) := by decide +kernel
theorem d_Mo_print_131 : decode b_Mo_print 131 = .ok (.iload 5, 2) := by decide +kernel
theorem d_Mo_print_133 : decode b_Mo_print 133 = .ok (.iload 9, 2) := by decide +kernel
theorem d_Mo_print_135 : decode b_Mo_print 135 = .ok (.if_icmp .ge 8, 3) := by decide +kernel
theorem d_Mo_print_138 : decode b_Mo_print 138 = .ok (.iload 5, 2) := by decide +kernel
theorem d_Mo_print_140 : decode b_Mo_print 140 = .ok (.goto 7, 3) := by decide +kernel
theorem d_Mo_print_143 : decode b_Mo_print 143 = .ok (.iload 9, 2) := by decide +kernel
theorem d_Mo_print_145 : decode b_Mo_print 145 = .ok (.iconst 1, 1) := by decide +kernel
theorem d_Mo_print_146 : decode b_Mo_print 146 = .ok (.isub, 1) := by decide +kernel
theorem d_Mo_print_147 : decode b_Mo_print 147 = .ok (.istore 10, 2) := by decide +kernel
theorem d_Mo_print_149 : decode b_Mo_print 149 = .ok (.iload 8, 2) := by decide +kernel
theorem d_Mo_print_151 : decode b_Mo_print 151 = .ok (.istore 11, 2) := by decide +kernel
theorem d_Mo_print_153 : decode b_Mo_print 153 = .ok (.iload 11, 2) := by decide +kernel
theorem d_Mo_print_155 : decode b_Mo_print 155 = .ok (.iload 10, 2) := by decide +kernel
theorem d_Mo_print_157 : decode b_Mo_print 157 = .ok (.if_icmp .lt 45, 3) := by decide +kernel
theorem d_Mo_print_160 : decode b_Mo_print 160 = .ok (.aload_n 0, 1) := by decide +kernel
theorem d_Mo_print_161 : decode b_Mo_print 161 = .ok (.bipush 48, 2) := by decide +kernel
theorem d_Mo_print_163 : decode b_Mo_print 163 = .ok (.iload 11, 2) := by decide +kernel
theorem d_Mo_print_165 : decode b_Mo_print 165 = .ok (.ifCond .ge 7, 3) := by decide +kernel
theorem d_Mo_print_168 : decode b_Mo_print 168 = .ok (.iconst 0, 1) := by decide +kernel
theorem d_Mo_print_169 : decode b_Mo_print 169 = .ok (.goto 10, 3) := by decide +kernel
theorem d_Mo_print_172 : decode b_Mo_print 172 = .ok (.aload_n 0, 1) := by decide +kernel
theorem d_Mo_print_173 : decode b_Mo_print 173 = .ok (.getfield 39, 3) := by decide +kernel
theorem d_Mo_print_176 : decode b_Mo_print 176 = .ok (.iload 11, 2) := by decide +kernel
theorem d_Mo_print_178 : decode b_Mo_print 178 = .ok (.iaload, 1) := by decide +kernel
theorem d_Mo_print_179 : decode b_Mo_print 179 = .ok (.iadd, 1) := by decide +kernel
theorem d_Mo_print_180 : decode b_Mo_print 180 = .ok (.invokevirtual 143, 3) := by decide +kernel
theorem d_Mo_print_183 : decode b_Mo_print 183 = .ok (.iload 11, 2) := by decide +kernel
theorem d_Mo_print_185 : decode b_Mo_print 185 = .ok (.iload 9, 2) := by decide +kernel
theorem d_Mo_print_187 : decode b_Mo_print 187 = .ok (.if_icmp .ne 9, 3) := by decide +kernel
theorem d_Mo_print_190 : decode b_Mo_print 190 = .ok (.aload_n 0, 1) := by decide +kernel
theorem d_Mo_print_191 : decode b_Mo_print 191 = .ok (.bipush 46, 2) := by decide +kernel
theorem d_Mo_print_193 : decode b_Mo_print 193 = .ok (.invokevirtual 143, 3) := by decide +kernel
theorem d_Mo_print_196 : decode b_Mo_print 196 = .ok (.iinc 11 (-1), 3) := by decide +kernel
theorem d_Mo_print_199 : decode b_Mo_print 199 = .ok (.goto (-46), 3) := by decide +kernel
theorem d_Mo_print_202 : decode b_Mo_print 202 = .ok (.iload 7, 2) := by decide +kernel
theorem d_Mo_print_204 : decode b_Mo_print 204 = .ok (.ifCond .ne 15, 3) := by decide +kernel
theorem d_Mo_print_207 : decode b_Mo_print 207 = .ok (.aload_n 0, 1) := by decide +kernel
theorem d_Mo_print_208 : decode b_Mo_print 208 = .ok (.bipush 69, 2) := by decide +kernel
theorem d_Mo_print_210 : decode b_Mo_print 210 = .ok (.invokevirtual 143, 3) := by decide +kernel
theorem d_Mo_print_213 : decode b_Mo_print 213 = .ok (.aload_n 0, 1) := by decide +kernel
theorem d_Mo_print_214 : decode b_Mo_print 214 = .ok (.iload 6, 2) := by decide +kernel
theorem d_Mo_print_216 : decode b_Mo_print 216 = .ok (.invokevirtual 154, 3) := by decide +kernel
theorem d_Mo_print_219 : decode b_Mo_print 219 = .ok (.aload_n 0, 1) := by decide +kernel
theorem d_Mo_print_220 : decode b_Mo_print 220 = .ok (.getfield 140, 3) := by decide +kernel
theorem d_Mo_print_223 : decode b_Mo_print 223 = .ok (.ireturn, 1) := by decide +kernel
theorem d_Mo_wide_0 : decode b_Mo_wide 0 = .ok (.aload_n 0, 1) := by decide +kernel
theorem d_Mo_wide_1 : decode b_Mo_wide 1 = .ok (.iconst 1, 1) := by decide +kernel
theorem d_Mo_wide_2 : decode b_Mo_wide 2 = .ok (.lload_n 1, 1) := by decide +kernel
theorem d_Mo_wide_3 : decode b_Mo_wide 3 = .ok (.invokevirtual 157, 3) := by decide +kernel
theorem d_Mo_wide_6 : decode b_Mo_wide 6 = .ok (.ireturn, 1) := by decide +kernel
theorem d_Mo_narrow_0 : decode b_Mo_narrow 0 = .ok (.aload_n 0, 1) := by decide +kernel
theorem d_Mo_narrow_1 : decode b_Mo_narrow 1 = .ok (.iconst 0, 1) := by decide +kernel
theorem d_Mo_narrow_2 : decode b_Mo_narrow 2 = .ok (.iload_n 1, 1) := by decide +kernel
theorem d_Mo_narrow_3 : decode b_Mo_narrow 3 = .ok (.i2l, 1) := by decide +kernel
theorem d_Mo_narrow_4 : decode b_Mo_narrow 4 = .ok (.invokevirtual 157, 3) := by decide +kernel
theorem d_Mo_narrow_7 : decode b_Mo_narrow 7 = .ok (.ireturn, 1) := by decide +kernel
theorem d_Mo_printHex_0 : decode b_Mo_printHex 0 = .ok (.aload_n 0, 1) := by decide +kernel
theorem d_Mo_printHex_1 : decode b_Mo_printHex 1 = .ok (.iconst 0, 1) := by decide +kernel
theorem d_Mo_printHex_2 : decode b_Mo_printHex 2 = .ok (.putfield 48, 3) := by decide +kernel
theorem d_Mo_printHex_5 : decode b_Mo_printHex 5 = .ok (.aload_n 0, 1) := by decide +kernel
theorem d_Mo_printHex_6 : decode b_Mo_printHex 6 = .ok (.iconst 1, 1) := by decide +kernel
theorem d_Mo_printHex_7 : decode b_Mo_printHex 7 = .ok (.putfield 67, 3) := by decide +kernel
theorem d_Mo_printHex_10 : decode b_Mo_printHex 10 = .ok (.aload_n 0, 1) := by decide +kernel
theorem d_Mo_printHex_11 : decode b_Mo_printHex 11 = .ok (.iload_n 1, 1) := by decide +kernel
theorem d_Mo_printHex_12 : decode b_Mo_printHex 12 = .ok (.putfield 51, 3) := by decide +kernel
theorem d_Mo_printHex_15 : decode b_Mo_printHex 15 = .ok (.aload_n 0, 1) := by decide +kernel
theorem d_Mo_printHex_16 : decode b_Mo_printHex 16 = .ok (.lload_n 2, 1) := by decide +kernel
theorem d_Mo_printHex_17 : decode b_Mo_printHex 17 = .ok (.putfield 55, 3) := by decide +kernel
theorem d_Mo_printHex_20 : decode b_Mo_printHex 20 = .ok (.aload_n 0, 1) := by decide +kernel
theorem d_Mo_printHex_21 : decode b_Mo_printHex 21 = .ok (.iconst 0, 1) := by decide +kernel
theorem d_Mo_printHex_22 : decode b_Mo_printHex 22 = .ok (.putfield 140, 3) := by decide +kernel
theorem d_Mo_printHex_25 : decode b_Mo_printHex 25 = .ok (.aload_n 0, 1) := by decide +kernel
theorem d_Mo_printHex_26 : decode b_Mo_printHex 26 = .ok (.iconst 1, 1) := by decide +kernel
theorem d_Mo_printHex_27 : decode b_Mo_printHex 27 = .ok (.invokevirtual 150, 3) := by decide +kernel
theorem d_Mo_printHex_30 : decode b_Mo_printHex 30 = .ok (.ifCond .eq 8, 3) := by decide +kernel
theorem d_Mo_printHex_33 : decode b_Mo_printHex 33 = .ok (.aload_n 0, 1) := by decide +kernel
theorem d_Mo_printHex_34 : decode b_Mo_printHex 34 = .ok (.getfield 140, 3) := by decide +kernel
theorem d_Mo_printHex_37 : decode b_Mo_printHex 37 = .ok (.ireturn, 1) := by decide +kernel
theorem d_Mo_printHex_38 : decode b_Mo_printHex 38 = .ok (.aload_n 0, 1) := by decide +kernel
theorem d_Mo_printHex_39 : decode b_Mo_printHex 39 = .ok (.invokevirtual 63, 3) := by decide +kernel
theorem d_Mo_printHex_42 : decode b_Mo_printHex 42 = .ok (.istore 4, 2) := by decide +kernel
theorem d_Mo_printHex_44 : decode b_Mo_printHex 44 = .ok (.aload_n 0, 1) := by decide +kernel
theorem d_Mo_printHex_45 : decode b_Mo_printHex 45 = .ok (.bipush 48, 2) := by decide +kernel
theorem d_Mo_printHex_47 : decode b_Mo_printHex 47 = .ok (.invokevirtual 143, 3) := by decide +kernel
theorem d_Mo_printHex_50 : decode b_Mo_printHex 50 = .ok (.aload_n 0, 1) := by decide +kernel
theorem d_Mo_printHex_51 : decode b_Mo_printHex 51 = .ok (.bipush 120, 2) := by decide +kernel
theorem d_Mo_printHex_53 : decode b_Mo_printHex 53 = .ok (.invokevirtual 143, 3) := by decide +kernel
theorem d_Mo_printHex_56 : decode b_Mo_printHex 56 = .ok (.aload_n 0, 1) := by decide +kernel
theorem d_Mo_printHex_57 : decode b_Mo_printHex 57 = .ok (.iload 4, 2) := by decide +kernel
theorem d_Mo_printHex_59 : decode b_Mo_printHex 59 = .ok (.ifCond .le 8, 3) := by decide +kernel
theorem d_Mo_printHex_62 : decode b_Mo_printHex 62 = .ok (.bipush 49, 2) := by decide +kernel
theorem d_Mo_printHex_64 : decode b_Mo_printHex 64 = .ok (.goto 5, 3) := by decide +kernel
theorem d_Mo_printHex_67 : decode b_Mo_printHex 67 = .ok (.bipush 48, 2) := by decide +kernel
theorem d_Mo_printHex_69 : decode b_Mo_printHex 69 = .ok (.invokevirtual 143, 3) := by decide +kernel
theorem d_Mo_printHex_72 : decode b_Mo_printHex 72 = .ok (.aload_n 0, 1) := by decide +kernel
theorem d_Mo_printHex_73 : decode b_Mo_printHex 73 = .ok (.bipush 46, 2) := by decide +kernel
theorem d_Mo_printHex_75 : decode b_Mo_printHex 75 = .ok (.invokevirtual 143, 3) := by decide +kernel
theorem d_Mo_printHex_78 : decode b_Mo_printHex 78 = .ok (.iload_n 1, 1) := by decide +kernel
theorem d_Mo_printHex_79 : decode b_Mo_printHex 79 = .ok (.ifCond .eq 10, 3) := by decide +kernel
theorem d_Mo_printHex_82 : decode b_Mo_printHex 82 = .ok (.aload_n 0, 1) := by decide +kernel
theorem d_Mo_printHex_83 : decode b_Mo_printHex 83 = .ok (.invokevirtual 74, 3) := by decide +kernel
theorem d_Mo_printHex_86 : decode b_Mo_printHex 86 = .ok (.goto 11, 3) := by decide +kernel
theorem d_Mo_printHex_89 : decode b_Mo_printHex 89 = .ok (.ldc2_w 86, 3) := by decide +kernel
theorem d_Mo_printHex_92 : decode b_Mo_printHex 92 = .ok (.aload_n 0, 1) := by decide +kernel
theorem d_Mo_printHex_93 : decode b_Mo_printHex 93 = .ok (.invokevirtual 74, 3) := by decide +kernel
theorem d_Mo_printHex_96 : decode b_Mo_printHex 96 = .ok (.lmul, 1) := by decide +kernel
theorem d_Mo_printHex_97 : decode b_Mo_printHex 97 = .ok (.lstore 5, 2) := by decide +kernel
theorem d_Mo_printHex_99 : decode b_Mo_printHex 99 = .ok (.iload_n 1, 1) := by decide +kernel
theorem d_Mo_printHex_100 : decode b_Mo_printHex 100 = .ok (.ifCond .eq 8, 3) := by decide +kernel
theorem d_Mo_printHex_103 : decode b_Mo_printHex 103 = .ok (.bipush 13, 2) := by decide +kernel
theorem d_Mo_printHex_105 : decode b_Mo_printHex 105 = .ok (.goto 5, 3) := by decide +kernel
theorem d_Mo_printHex_108 : decode b_Mo_printHex 108 = .ok (.bipush 6, 2) := by decide +kernel
theorem d_Mo_printHex_110 : decode b_Mo_printHex 110 = .ok (.istore 7, 2) := by decide +kernel
theorem d_Mo_printHex_112 : decode b_Mo_printHex 112 = .ok (.iload 7, 2) := by decide +kernel
theorem d_Mo_printHex_114 : decode b_Mo_printHex 114 = .ok (.iconst 1, 1) := by decide +kernel
theorem d_Mo_printHex_115 : decode b_Mo_printHex 115 = .ok (.isub, 1) := by decide +kernel
theorem d_Mo_printHex_116 : decode b_Mo_printHex 116 = .ok (.istore 8, 2) := by decide +kernel
theorem d_Mo_printHex_118 : decode b_Mo_printHex 118 = .ok (.iload 8, 2) := by decide +kernel
theorem d_Mo_printHex_120 : decode b_Mo_printHex 120 = .ok (.ifCond .lt 79, 3) := by decide +kernel
theorem d_Mo_printHex_123 : decode b_Mo_printHex 123 = .ok (.iload 8, 2) := by decide +kernel
theorem d_Mo_printHex_125 : decode b_Mo_printHex 125 = .ok (.iload 7, 2) := by decide +kernel
theorem d_Mo_printHex_127 : decode b_Mo_printHex 127 = .ok (.iconst 1, 1) := by decide +kernel
theorem d_Mo_printHex_128 : decode b_Mo_printHex 128 = .ok (.isub, 1) := by decide +kernel
theorem d_Mo_printHex_129 : decode b_Mo_printHex 129 = .ok (.if_icmp .ge 24, 3) := by decide +kernel
theorem d_Mo_printHex_132 : decode b_Mo_printHex 132 = .ok (.lload 5, 2) := by decide +kernel
theorem d_Mo_printHex_134 : decode b_Mo_printHex 134 = .ok (.lconst 1, 1) := by decide +kernel
theorem d_Mo_printHex_135 : decode b_Mo_printHex 135 = .ok (.iconst 4, 1) := by decide +kernel
theorem d_Mo_printHex_136 : decode b_Mo_printHex 136 = .ok (.iload 8, 2) := by decide +kernel
theorem d_Mo_printHex_138 : decode b_Mo_printHex 138 = .ok (.imul, 1) := by decide +kernel
theorem d_Mo_printHex_139 : decode b_Mo_printHex 139 = .ok (.iconst 4, 1) := by decide +kernel
theorem d_Mo_printHex_140 : decode b_Mo_printHex 140 = .ok (.iadd, 1) := by decide +kernel
theorem d_Mo_printHex_141 : decode b_Mo_printHex 141 = .ok (.lshl, 1) := by decide +kernel
theorem d_Mo_printHex_142 : decode b_Mo_printHex 142 = .ok (.lconst 1, 1) := by decide +kernel
theorem d_Mo_printHex_143 : decode b_Mo_printHex 143 = .ok (.lsub, 1) := by decide +kernel
theorem d_Mo_printHex_144 : decode b_Mo_printHex 144 = .ok (.land, 1) := by decide +kernel
theorem d_Mo_printHex_145 : decode b_Mo_printHex 145 = .ok (.lconst 0, 1) := by decide +kernel
theorem d_Mo_printHex_146 : decode b_Mo_printHex 146 = .ok (.lcmp, 1) := by decide +kernel
theorem d_Mo_printHex_147 : decode b_Mo_printHex 147 = .ok (.ifCond .ne 6, 3) := by decide +kernel
theorem d_Mo_printHex_150 : decode b_Mo_printHex 150 = .ok (.goto 43, 3) := by decide +kernel
theorem d_Mo_printHex_153 : decode b_Mo_printHex 153 = .ok (.lload 5, 2) := by decide +kernel
theorem d_Mo_printHex_155 : decode b_Mo_printHex 155 = .ok (.iconst 4, 1) := by decide +kernel
theorem d_Mo_printHex_156 : decode b_Mo_printHex 156 = .ok (.iload 8, 2) := by decide +kernel
theorem d_Mo_printHex_158 : decode b_Mo_printHex 158 = .ok (.imul, 1) := by decide +kernel
theorem d_Mo_printHex_159 : decode b_Mo_printHex 159 = .ok (.lshr, 1) := by decide +kernel
theorem d_Mo_printHex_160 : decode b_Mo_printHex 160 = .ok (.l2i, 1) := by decide +kernel
theorem d_Mo_printHex_161 : decode b_Mo_printHex 161 = .ok (.bipush 15, 2) := by decide +kernel
theorem d_Mo_printHex_163 : decode b_Mo_printHex 163 = .ok (.iand, 1) := by decide +kernel
theorem d_Mo_printHex_164 : decode b_Mo_printHex 164 = .ok (.istore 9, 2) := by decide +kernel
theorem d_Mo_printHex_166 : decode b_Mo_printHex 166 = .ok (.aload_n 0, 1) := by decide +kernel
theorem d_Mo_printHex_167 : decode b_Mo_printHex 167 = .ok (.iload 9, 2) := by decide +kernel
theorem d_Mo_printHex_169 : decode b_Mo_printHex 169 = .ok (.bipush 10, 2) := by decide +kernel
theorem d_Mo_printHex_171 : decode b_Mo_printHex 171 = .ok (.if_icmp .ge 11, 3) := by decide +kernel
theorem d_Mo_printHex_174 : decode b_Mo_printHex 174 = .ok (.bipush 48, 2) := by decide +kernel
theorem d_Mo_printHex_176 : decode b_Mo_printHex 176 = .ok (.iload 9, 2) := by decide +kernel
theorem d_Mo_printHex_178 : decode b_Mo_printHex 178 = .ok (.iadd, 1) := by decide +kernel
theorem d_Mo_printHex_179 : decode b_Mo_printHex 179 = .ok (.goto 11, 3) := by decide +kernel
theorem d_Mo_printHex_182 : decode b_Mo_printHex 182 = .ok (.bipush 97, 2) := by decide +kernel
theorem d_Mo_printHex_184 : decode b_Mo_printHex 184 = .ok (.iload 9, 2) := by decide +kernel
theorem d_Mo_printHex_186 : decode b_Mo_printHex 186 = .ok (.iadd, 1) := by decide +kernel
theorem d_Mo_printHex_187 : decode b_Mo_printHex 187 = .ok (.bipush 10, 2) := by decide +kernel
theorem d_Mo_printHex_189 : decode b_Mo_printHex 189 = .ok (.isub, 1) := by decide +kernel
theorem d_Mo_printHex_190 : decode b_Mo_printHex 190 = .ok (.invokevirtual 143, 3) := by decide +kernel
theorem d_Mo_printHex_193 : decode b_Mo_printHex 193 = .ok (.iinc 8 (-1), 3) := by decide +kernel
theorem d_Mo_printHex_196 : decode b_Mo_printHex 196 = .ok (.goto (-78), 3) := by decide +kernel
theorem d_Mo_printHex_199 : decode b_Mo_printHex 199 = .ok (.aload_n 0, 1) := by decide +kernel
theorem d_Mo_printHex_200 : decode b_Mo_printHex 200 = .ok (.bipush 112, 2) := by decide +kernel
theorem d_Mo_printHex_202 : decode b_Mo_printHex 202 = .ok (.invokevirtual 143, 3) := by decide +kernel
theorem d_Mo_printHex_205 : decode b_Mo_printHex 205 = .ok (.aload_n 0, 1) := by decide +kernel
theorem d_Mo_printHex_206 : decode b_Mo_printHex 206 = .ok (.iload 4, 2) := by decide +kernel
theorem d_Mo_printHex_208 : decode b_Mo_printHex 208 = .ok (.ifCond .ne 18, 3) := by decide +kernel
theorem d_Mo_printHex_211 : decode b_Mo_printHex 211 = .ok (.iload_n 1, 1) := by decide +kernel
theorem d_Mo_printHex_212 : decode b_Mo_printHex 212 = .ok (.ifCond .eq 9, 3) := by decide +kernel
theorem d_Mo_printHex_215 : decode b_Mo_printHex 215 = .ok (.sipush (-1022), 3) := by decide +kernel
theorem d_Mo_printHex_218 : decode b_Mo_printHex 218 = .ok (.goto 23, 3) := by decide +kernel
theorem d_Mo_printHex_221 : decode b_Mo_printHex 221 = .ok (.bipush (-126), 2) := by decide +kernel
theorem d_Mo_printHex_223 : decode b_Mo_printHex 223 = .ok (.goto 18, 3) := by decide +kernel
theorem d_Mo_printHex_226 : decode b_Mo_printHex 226 = .ok (.iload 4, 2) := by decide +kernel
theorem d_Mo_printHex_228 : decode b_Mo_printHex 228 = .ok (.iload_n 1, 1) := by decide +kernel
theorem d_Mo_printHex_229 : decode b_Mo_printHex 229 = .ok (.ifCond .eq 9, 3) := by decide +kernel
theorem d_Mo_printHex_232 : decode b_Mo_printHex 232 = .ok (.sipush 1023, 3) := by decide +kernel
theorem d_Mo_printHex_235 : decode b_Mo_printHex 235 = .ok (.goto 5, 3) := by decide +kernel
theorem d_Mo_printHex_238 : decode b_Mo_printHex 238 = .ok (.bipush 127, 2) := by decide +kernel
theorem d_Mo_printHex_240 : decode b_Mo_printHex 240 = .ok (.isub, 1) := by decide +kernel
theorem d_Mo_printHex_241 : decode b_Mo_printHex 241 = .ok (.invokevirtual 154, 3) := by decide +kernel
theorem d_Mo_printHex_244 : decode b_Mo_printHex 244 = .ok (.aload_n 0, 1) := by decide +kernel
theorem d_Mo_printHex_245 : decode b_Mo_printHex 245 = .ok (.getfield 140, 3) := by decide +kernel
theorem d_Mo_printHex_248 : decode b_Mo_printHex 248 = .ok (.ireturn, 1) := by decide +kernel
theorem d_Mo_wideHex_0 : decode b_Mo_wideHex 0 = .ok (.aload_n 0, 1) := by decide +kernel
theorem d_Mo_wideHex_1 : decode b_Mo_wideHex 1 = .ok (.iconst 1, 1) := by decide +kernel
theorem d_Mo_wideHex_2 : decode b_Mo_wideHex 2 = .ok (.lload_n 1, 1) := by decide +kernel
theorem d_Mo_wideHex_3 : decode b_Mo_wideHex 3 = .ok (.invokevirtual 161, 3) := by decide +kernel
theorem d_Mo_wideHex_6 : decode b_Mo_wideHex 6 = .ok (.ireturn, 1) := by decide +kernel
theorem d_Mo_narrowHex_0 : decode b_Mo_narrowHex 0 = .ok (.aload_n 0, 1) := by decide +kernel
theorem d_Mo_narrowHex_1 : decode b_Mo_narrowHex 1 = .ok (.iconst 0, 1) := by decide +kernel
theorem d_Mo_narrowHex_2 : decode b_Mo_narrowHex 2 = .ok (.iload_n 1, 1) := by decide +kernel
theorem d_Mo_narrowHex_3 : decode b_Mo_narrowHex 3 = .ok (.i2l, 1) := by decide +kernel
theorem d_Mo_narrowHex_4 : decode b_Mo_narrowHex 4 = .ok (.invokevirtual 161, 3) := by decide +kernel
theorem d_Mo_narrowHex_7 : decode b_Mo_narrowHex 7 = .ok (.ireturn, 1) := by decide +kernel
theorem d_Mo_characterAt_0 : decode b_Mo_characterAt 0 = .ok (.aload_n 0, 1) := by decide +kernel
theorem d_Mo_characterAt_1 : decode b_Mo_characterAt 1 = .ok (.iconst 0, 1) := by decide +kernel
theorem d_Mo_characterAt_2 : decode b_Mo_characterAt 2 = .ok (.putfield 48, 3) := by decide +kernel
theorem d_Mo_characterAt_5 : decode b_Mo_characterAt 5 = .ok (.iload_n 1, 1) := by decide +kernel
theorem d_Mo_characterAt_6 : decode b_Mo_characterAt 6 = .ok (.ifCond .lt 11, 3) := by decide +kernel
theorem d_Mo_characterAt_9 : decode b_Mo_characterAt 9 = .ok (.iload_n 1, 1) := by decide +kernel
theorem d_Mo_characterAt_10 : decode b_Mo_characterAt 10 = .ok (.aload_n 0, 1) := by decide +kernel
theorem d_Mo_characterAt_11 : decode b_Mo_characterAt 11 = .ok (.getfield 140, 3) := by decide +kernel
theorem d_Mo_characterAt_14 : decode b_Mo_characterAt 14 = .ok (.if_icmp .lt 7, 3) := by decide +kernel
theorem d_Mo_characterAt_17 : decode b_Mo_characterAt 17 = .ok (.iconst (-1), 1) := by decide +kernel
theorem d_Mo_characterAt_18 : decode b_Mo_characterAt 18 = .ok (.goto 9, 3) := by decide +kernel
theorem d_Mo_characterAt_21 : decode b_Mo_characterAt 21 = .ok (.aload_n 0, 1) := by decide +kernel
theorem d_Mo_characterAt_22 : decode b_Mo_characterAt 22 = .ok (.getfield 16, 3) := by decide +kernel
theorem d_Mo_characterAt_25 : decode b_Mo_characterAt 25 = .ok (.iload_n 1, 1) := by decide +kernel
theorem d_Mo_characterAt_26 : decode b_Mo_characterAt 26 = .ok (.iaload, 1) := by decide +kernel
theorem d_Mo_characterAt_27 : decode b_Mo_characterAt 27 = .ok (.ireturn, 1) := by decide +kernel
theorem d_Lw_law_0 : decode code 0 = .ok (.new 7, 3) := by decide +kernel
theorem d_Lw_law_3 : decode code 3 = .ok (.dup, 1) := by decide +kernel
theorem d_Lw_law_4 : decode code 4 = .ok (.invokespecial 9, 3) := by decide +kernel
theorem d_Lw_law_7 : decode code 7 = .ok (.astore_n 1, 1) := by decide +kernel
theorem d_Lw_law_8 : decode code 8 = .ok (.new 10, 3) := by decide +kernel
theorem d_Lw_law_11 : decode code 11 = .ok (.dup, 1) := by decide +kernel
theorem d_Lw_law_12 : decode code 12 = .ok (.invokespecial 12, 3) := by decide +kernel
theorem d_Lw_law_15 : decode code 15 = .ok (.astore_n 2, 1) := by decide +kernel
theorem d_Lw_law_16 : decode code 16 = .ok (.iconst 0, 1) := by decide +kernel
theorem d_Lw_law_17 : decode code 17 = .ok (.istore_n 3, 1) := by decide +kernel
theorem d_Lw_law_18 : decode code 18 = .ok (.iload_n 3, 1) := by decide +kernel
theorem d_Lw_law_19 : decode code 19 = .ok (.aload_n 0, 1) := by decide +kernel
theorem d_Lw_law_20 : decode code 20 = .ok (.arraylength, 1) := by decide +kernel
theorem d_Lw_law_21 : decode code 21 = .ok (.iconst 3, 1) := by decide +kernel
theorem d_Lw_law_22 : decode code 22 = .ok (.isub, 1) := by decide +kernel
theorem d_Lw_law_23 : decode code 23 = .ok (.if_icmp .gt 332, 3) := by decide +kernel
theorem d_Lw_law_26 : decode code 26 = .ok (.aload_n 0, 1) := by decide +kernel
theorem d_Lw_law_27 : decode code 27 = .ok (.iload_n 3, 1) := by decide +kernel
theorem d_Lw_law_28 : decode code 28 = .ok (.iaload, 1) := by decide +kernel
theorem d_Lw_law_29 : decode code 29 = .ok (.bipush 15, 2) := by decide +kernel
theorem d_Lw_law_31 : decode code 31 = .ok (.iand, 1) := by decide +kernel
theorem d_Lw_law_32 : decode code 32 = .ok (.tableswitch 317 0 9 #[56, 89, 142, 165, 218, 241, 264, 277, 290, 304], 56) := by decide +kernel
theorem d_Lw_law_88 : decode code 88 = .ok (.aload_n 1, 1) := by decide +kernel
theorem d_Lw_law_89 : decode code 89 = .ok (.aload_n 0, 1) := by decide +kernel
theorem d_Lw_law_90 : decode code 90 = .ok (.iload_n 3, 1) := by decide +kernel
theorem d_Lw_law_91 : decode code 91 = .ok (.iconst 1, 1) := by decide +kernel
theorem d_Lw_law_92 : decode code 92 = .ok (.iadd, 1) := by decide +kernel
theorem d_Lw_law_93 : decode code 93 = .ok (.iaload, 1) := by decide +kernel
theorem d_Lw_law_94 : decode code 94 = .ok (.aload_n 0, 1) := by decide +kernel
theorem d_Lw_law_95 : decode code 95 = .ok (.iload_n 3, 1) := by decide +kernel
theorem d_Lw_law_96 : decode code 96 = .ok (.iconst 2, 1) := by decide +kernel
theorem d_Lw_law_97 : decode code 97 = .ok (.iadd, 1) := by decide +kernel
theorem d_Lw_law_98 : decode code 98 = .ok (.iaload, 1) := by decide +kernel
theorem d_Lw_law_99 : decode code 99 = .ok (.invokevirtual 13, 3) := by decide +kernel
theorem d_Lw_law_102 : decode code 102 = .ok (.aload_n 2, 1) := by decide +kernel
theorem d_Lw_law_103 : decode code 103 = .ok (.aload_n 0, 1) := by decide +kernel
theorem d_Lw_law_104 : decode code 104 = .ok (.iload_n 3, 1) := by decide +kernel
theorem d_Lw_law_105 : decode code 105 = .ok (.iconst 1, 1) := by decide +kernel
theorem d_Lw_law_106 : decode code 106 = .ok (.iadd, 1) := by decide +kernel
theorem d_Lw_law_107 : decode code 107 = .ok (.iaload, 1) := by decide +kernel
theorem d_Lw_law_108 : decode code 108 = .ok (.aload_n 0, 1) := by decide +kernel
theorem d_Lw_law_109 : decode code 109 = .ok (.iload_n 3, 1) := by decide +kernel
theorem d_Lw_law_110 : decode code 110 = .ok (.iconst 2, 1) := by decide +kernel
theorem d_Lw_law_111 : decode code 111 = .ok (.iadd, 1) := by decide +kernel
theorem d_Lw_law_112 : decode code 112 = .ok (.iaload, 1) := by decide +kernel
theorem d_Lw_law_113 : decode code 113 = .ok (.invokevirtual 17, 3) := by decide +kernel
theorem d_Lw_law_116 : decode code 116 = .ok (.if_icmp .eq 233, 3) := by decide +kernel
theorem d_Lw_law_119 : decode code 119 = .ok (.iconst 0, 1) := by decide +kernel
theorem d_Lw_law_120 : decode code 120 = .ok (.ireturn, 1) := by decide +kernel
theorem d_Lw_law_121 : decode code 121 = .ok (.aload_n 1, 1) := by decide +kernel
theorem d_Lw_law_122 : decode code 122 = .ok (.aload_n 0, 1) := by decide +kernel
theorem d_Lw_law_123 : decode code 123 = .ok (.iload_n 3, 1) := by decide +kernel
theorem d_Lw_law_124 : decode code 124 = .ok (.iconst 1, 1) := by decide +kernel
theorem d_Lw_law_125 : decode code 125 = .ok (.iadd, 1) := by decide +kernel
theorem d_Lw_law_126 : decode code 126 = .ok (.iaload, 1) := by decide +kernel
theorem d_Lw_law_127 : decode code 127 = .ok (.i2l, 1) := by decide +kernel
theorem d_Lw_law_128 : decode code 128 = .ok (.bipush 32, 2) := by decide +kernel
theorem d_Lw_law_130 : decode code 130 = .ok (.lshl, 1) := by decide +kernel
theorem d_Lw_law_131 : decode code 131 = .ok (.aload_n 0, 1) := by decide +kernel
theorem d_Lw_law_132 : decode code 132 = .ok (.iload_n 3, 1) := by decide +kernel
theorem d_Lw_law_133 : decode code 133 = .ok (.iconst 2, 1) := by decide +kernel
theorem d_Lw_law_134 : decode code 134 = .ok (.iadd, 1) := by decide +kernel
theorem d_Lw_law_135 : decode code 135 = .ok (.iaload, 1) := by decide +kernel
theorem d_Lw_law_136 : decode code 136 = .ok (.i2l, 1) := by decide +kernel
theorem d_Lw_law_137 : decode code 137 = .ok (.ldc2_w 18, 3) := by decide +kernel
theorem d_Lw_law_140 : decode code 140 = .ok (.land, 1) := by decide +kernel
theorem d_Lw_law_141 : decode code 141 = .ok (.lor, 1) := by decide +kernel
theorem d_Lw_law_142 : decode code 142 = .ok (.invokevirtual 20, 3) := by decide +kernel
theorem d_Lw_law_145 : decode code 145 = .ok (.aload_n 2, 1) := by decide +kernel
theorem d_Lw_law_146 : decode code 146 = .ok (.aload_n 0, 1) := by decide +kernel
theorem d_Lw_law_147 : decode code 147 = .ok (.iload_n 3, 1) := by decide +kernel
theorem d_Lw_law_148 : decode code 148 = .ok (.iconst 1, 1) := by decide +kernel
theorem d_Lw_law_149 : decode code 149 = .ok (.iadd, 1) := by decide +kernel
theorem d_Lw_law_150 : decode code 150 = .ok (.iaload, 1) := by decide +kernel
theorem d_Lw_law_151 : decode code 151 = .ok (.i2l, 1) := by decide +kernel
theorem d_Lw_law_152 : decode code 152 = .ok (.bipush 32, 2) := by decide +kernel
theorem d_Lw_law_154 : decode code 154 = .ok (.lshl, 1) := by decide +kernel
theorem d_Lw_law_155 : decode code 155 = .ok (.aload_n 0, 1) := by decide +kernel
theorem d_Lw_law_156 : decode code 156 = .ok (.iload_n 3, 1) := by decide +kernel
theorem d_Lw_law_157 : decode code 157 = .ok (.iconst 2, 1) := by decide +kernel
theorem d_Lw_law_158 : decode code 158 = .ok (.iadd, 1) := by decide +kernel
theorem d_Lw_law_159 : decode code 159 = .ok (.iaload, 1) := by decide +kernel
theorem d_Lw_law_160 : decode code 160 = .ok (.i2l, 1) := by decide +kernel
theorem d_Lw_law_161 : decode code 161 = .ok (.ldc2_w 18, 3) := by decide +kernel
theorem d_Lw_law_164 : decode code 164 = .ok (.land, 1) := by decide +kernel
theorem d_Lw_law_165 : decode code 165 = .ok (.lor, 1) := by decide +kernel
theorem d_Lw_law_166 : decode code 166 = .ok (.invokevirtual 24, 3) := by decide +kernel
theorem d_Lw_law_169 : decode code 169 = .ok (.if_icmp .eq 180, 3) := by decide +kernel
theorem d_Lw_law_172 : decode code 172 = .ok (.iconst 0, 1) := by decide +kernel
theorem d_Lw_law_173 : decode code 173 = .ok (.ireturn, 1) := by decide +kernel
theorem d_Lw_law_174 : decode code 174 = .ok (.aload_n 1, 1) := by decide +kernel
theorem d_Lw_law_175 : decode code 175 = .ok (.aload_n 0, 1) := by decide +kernel
theorem d_Lw_law_176 : decode code 176 = .ok (.iload_n 3, 1) := by decide +kernel
theorem d_Lw_law_177 : decode code 177 = .ok (.iconst 1, 1) := by decide +kernel
theorem d_Lw_law_178 : decode code 178 = .ok (.iadd, 1) := by decide +kernel
theorem d_Lw_law_179 : decode code 179 = .ok (.iaload, 1) := by decide +kernel
theorem d_Lw_law_180 : decode code 180 = .ok (.invokevirtual 25, 3) := by decide +kernel
theorem d_Lw_law_183 : decode code 183 = .ok (.aload_n 2, 1) := by decide +kernel
theorem d_Lw_law_184 : decode code 184 = .ok (.aload_n 0, 1) := by decide +kernel
theorem d_Lw_law_185 : decode code 185 = .ok (.iload_n 3, 1) := by decide +kernel
theorem d_Lw_law_186 : decode code 186 = .ok (.iconst 1, 1) := by decide +kernel
theorem d_Lw_law_187 : decode code 187 = .ok (.iadd, 1) := by decide +kernel
theorem d_Lw_law_188 : decode code 188 = .ok (.iaload, 1) := by decide +kernel
theorem d_Lw_law_189 : decode code 189 = .ok (.invokevirtual 29, 3) := by decide +kernel
theorem d_Lw_law_192 : decode code 192 = .ok (.if_icmp .eq 157, 3) := by decide +kernel
theorem d_Lw_law_195 : decode code 195 = .ok (.iconst 0, 1) := by decide +kernel
theorem d_Lw_law_196 : decode code 196 = .ok (.ireturn, 1) := by decide +kernel
theorem d_Lw_law_197 : decode code 197 = .ok (.aload_n 1, 1) := by decide +kernel
theorem d_Lw_law_198 : decode code 198 = .ok (.aload_n 0, 1) := by decide +kernel
theorem d_Lw_law_199 : decode code 199 = .ok (.iload_n 3, 1) := by decide +kernel
theorem d_Lw_law_200 : decode code 200 = .ok (.iconst 1, 1) := by decide +kernel
theorem d_Lw_law_201 : decode code 201 = .ok (.iadd, 1) := by decide +kernel
theorem d_Lw_law_202 : decode code 202 = .ok (.iaload, 1) := by decide +kernel
theorem d_Lw_law_203 : decode code 203 = .ok (.i2l, 1) := by decide +kernel
theorem d_Lw_law_204 : decode code 204 = .ok (.bipush 32, 2) := by decide +kernel
theorem d_Lw_law_206 : decode code 206 = .ok (.lshl, 1) := by decide +kernel
theorem d_Lw_law_207 : decode code 207 = .ok (.aload_n 0, 1) := by decide +kernel
theorem d_Lw_law_208 : decode code 208 = .ok (.iload_n 3, 1) := by decide +kernel
theorem d_Lw_law_209 : decode code 209 = .ok (.iconst 2, 1) := by decide +kernel
theorem d_Lw_law_210 : decode code 210 = .ok (.iadd, 1) := by decide +kernel
theorem d_Lw_law_211 : decode code 211 = .ok (.iaload, 1) := by decide +kernel
theorem d_Lw_law_212 : decode code 212 = .ok (.i2l, 1) := by decide +kernel
theorem d_Lw_law_213 : decode code 213 = .ok (.ldc2_w 18, 3) := by decide +kernel
theorem d_Lw_law_216 : decode code 216 = .ok (.land, 1) := by decide +kernel
theorem d_Lw_law_217 : decode code 217 = .ok (.lor, 1) := by decide +kernel
theorem d_Lw_law_218 : decode code 218 = .ok (.invokevirtual 30, 3) := by decide +kernel
theorem d_Lw_law_221 : decode code 221 = .ok (.aload_n 2, 1) := by decide +kernel
theorem d_Lw_law_222 : decode code 222 = .ok (.aload_n 0, 1) := by decide +kernel
theorem d_Lw_law_223 : decode code 223 = .ok (.iload_n 3, 1) := by decide +kernel
theorem d_Lw_law_224 : decode code 224 = .ok (.iconst 1, 1) := by decide +kernel
theorem d_Lw_law_225 : decode code 225 = .ok (.iadd, 1) := by decide +kernel
theorem d_Lw_law_226 : decode code 226 = .ok (.iaload, 1) := by decide +kernel
theorem d_Lw_law_227 : decode code 227 = .ok (.i2l, 1) := by decide +kernel
theorem d_Lw_law_228 : decode code 228 = .ok (.bipush 32, 2) := by decide +kernel
theorem d_Lw_law_230 : decode code 230 = .ok (.lshl, 1) := by decide +kernel
theorem d_Lw_law_231 : decode code 231 = .ok (.aload_n 0, 1) := by decide +kernel
theorem d_Lw_law_232 : decode code 232 = .ok (.iload_n 3, 1) := by decide +kernel
theorem d_Lw_law_233 : decode code 233 = .ok (.iconst 2, 1) := by decide +kernel
theorem d_Lw_law_234 : decode code 234 = .ok (.iadd, 1) := by decide +kernel
theorem d_Lw_law_235 : decode code 235 = .ok (.iaload, 1) := by decide +kernel
theorem d_Lw_law_236 : decode code 236 = .ok (.i2l, 1) := by decide +kernel
theorem d_Lw_law_237 : decode code 237 = .ok (.ldc2_w 18, 3) := by decide +kernel
theorem d_Lw_law_240 : decode code 240 = .ok (.land, 1) := by decide +kernel
theorem d_Lw_law_241 : decode code 241 = .ok (.lor, 1) := by decide +kernel
theorem d_Lw_law_242 : decode code 242 = .ok (.invokevirtual 33, 3) := by decide +kernel
theorem d_Lw_law_245 : decode code 245 = .ok (.if_icmp .eq 104, 3) := by decide +kernel
theorem d_Lw_law_248 : decode code 248 = .ok (.iconst 0, 1) := by decide +kernel
theorem d_Lw_law_249 : decode code 249 = .ok (.ireturn, 1) := by decide +kernel
theorem d_Lw_law_250 : decode code 250 = .ok (.aload_n 1, 1) := by decide +kernel
theorem d_Lw_law_251 : decode code 251 = .ok (.aload_n 0, 1) := by decide +kernel
theorem d_Lw_law_252 : decode code 252 = .ok (.iload_n 3, 1) := by decide +kernel
theorem d_Lw_law_253 : decode code 253 = .ok (.iconst 1, 1) := by decide +kernel
theorem d_Lw_law_254 : decode code 254 = .ok (.iadd, 1) := by decide +kernel
theorem d_Lw_law_255 : decode code 255 = .ok (.iaload, 1) := by decide +kernel
theorem d_Lw_law_256 : decode code 256 = .ok (.invokevirtual 34, 3) := by decide +kernel
theorem d_Lw_law_259 : decode code 259 = .ok (.aload_n 2, 1) := by decide +kernel
theorem d_Lw_law_260 : decode code 260 = .ok (.aload_n 0, 1) := by decide +kernel
theorem d_Lw_law_261 : decode code 261 = .ok (.iload_n 3, 1) := by decide +kernel
theorem d_Lw_law_262 : decode code 262 = .ok (.iconst 1, 1) := by decide +kernel
theorem d_Lw_law_263 : decode code 263 = .ok (.iadd, 1) := by decide +kernel
theorem d_Lw_law_264 : decode code 264 = .ok (.iaload, 1) := by decide +kernel
theorem d_Lw_law_265 : decode code 265 = .ok (.invokevirtual 37, 3) := by decide +kernel
theorem d_Lw_law_268 : decode code 268 = .ok (.if_icmp .eq 81, 3) := by decide +kernel
theorem d_Lw_law_271 : decode code 271 = .ok (.iconst 0, 1) := by decide +kernel
theorem d_Lw_law_272 : decode code 272 = .ok (.ireturn, 1) := by decide +kernel
theorem d_Lw_law_273 : decode code 273 = .ok (.aload_n 1, 1) := by decide +kernel
theorem d_Lw_law_274 : decode code 274 = .ok (.aload_n 0, 1) := by decide +kernel
theorem d_Lw_law_275 : decode code 275 = .ok (.iload_n 3, 1) := by decide +kernel
theorem d_Lw_law_276 : decode code 276 = .ok (.iconst 1, 1) := by decide +kernel
theorem d_Lw_law_277 : decode code 277 = .ok (.iadd, 1) := by decide +kernel
theorem d_Lw_law_278 : decode code 278 = .ok (.iaload, 1) := by decide +kernel
theorem d_Lw_law_279 : decode code 279 = .ok (.invokevirtual 38, 3) := by decide +kernel
theorem d_Lw_law_282 : decode code 282 = .ok (.aload_n 2, 1) := by decide +kernel
theorem d_Lw_law_283 : decode code 283 = .ok (.aload_n 0, 1) := by decide +kernel
theorem d_Lw_law_284 : decode code 284 = .ok (.iload_n 3, 1) := by decide +kernel
theorem d_Lw_law_285 : decode code 285 = .ok (.iconst 1, 1) := by decide +kernel
theorem d_Lw_law_286 : decode code 286 = .ok (.iadd, 1) := by decide +kernel
theorem d_Lw_law_287 : decode code 287 = .ok (.iaload, 1) := by decide +kernel
theorem d_Lw_law_288 : decode code 288 = .ok (.invokevirtual 41, 3) := by decide +kernel
theorem d_Lw_law_291 : decode code 291 = .ok (.if_icmp .eq 58, 3) := by decide +kernel
theorem d_Lw_law_294 : decode code 294 = .ok (.iconst 0, 1) := by decide +kernel
theorem d_Lw_law_295 : decode code 295 = .ok (.ireturn, 1) := by decide +kernel
theorem d_Lw_law_296 : decode code 296 = .ok (.aload_n 1, 1) := by decide +kernel
theorem d_Lw_law_297 : decode code 297 = .ok (.invokevirtual 42, 3) := by decide +kernel
theorem d_Lw_law_300 : decode code 300 = .ok (.aload_n 2, 1) := by decide +kernel
theorem d_Lw_law_301 : decode code 301 = .ok (.invokevirtual 46, 3) := by decide +kernel
theorem d_Lw_law_304 : decode code 304 = .ok (.if_icmp .eq 45, 3) := by decide +kernel
theorem d_Lw_law_307 : decode code 307 = .ok (.iconst 0, 1) := by decide +kernel
theorem d_Lw_law_308 : decode code 308 = .ok (.ireturn, 1) := by decide +kernel
theorem d_Lw_law_309 : decode code 309 = .ok (.aload_n 1, 1) := by decide +kernel
theorem d_Lw_law_310 : decode code 310 = .ok (.invokevirtual 47, 3) := by decide +kernel
theorem d_Lw_law_313 : decode code 313 = .ok (.aload_n 2, 1) := by decide +kernel
theorem d_Lw_law_314 : decode code 314 = .ok (.invokevirtual 51, 3) := by decide +kernel
theorem d_Lw_law_317 : decode code 317 = .ok (.if_icmp .eq 32, 3) := by decide +kernel
theorem d_Lw_law_320 : decode code 320 = .ok (.iconst 0, 1) := by decide +kernel
theorem d_Lw_law_321 : decode code 321 = .ok (.ireturn, 1) := by decide +kernel
theorem d_Lw_law_322 : decode code 322 = .ok (.aload_n 1, 1) := by decide +kernel
theorem d_Lw_law_323 : decode code 323 = .ok (.invokevirtual 52, 3) := by decide +kernel
theorem d_Lw_law_326 : decode code 326 = .ok (.aload_n 2, 1) := by decide +kernel
theorem d_Lw_law_327 : decode code 327 = .ok (.invokevirtual 56, 3) := by decide +kernel
theorem d_Lw_law_330 : decode code 330 = .ok (.lcmp, 1) := by decide +kernel
theorem d_Lw_law_331 : decode code 331 = .ok (.ifCond .eq 18, 3) := by decide +kernel
theorem d_Lw_law_334 : decode code 334 = .ok (.iconst 0, 1) := by decide +kernel
theorem d_Lw_law_335 : decode code 335 = .ok (.ireturn, 1) := by decide +kernel
theorem d_Lw_law_336 : decode code 336 = .ok (.aload_n 1, 1) := by decide +kernel
theorem d_Lw_law_337 : decode code 337 = .ok (.invokevirtual 57, 3) := by decide +kernel
theorem d_Lw_law_340 : decode code 340 = .ok (.aload_n 2, 1) := by decide +kernel
theorem d_Lw_law_341 : decode code 341 = .ok (.invokevirtual 60, 3) := by decide +kernel
theorem d_Lw_law_344 : decode code 344 = .ok (.if_icmp .eq 5, 3) := by decide +kernel
theorem d_Lw_law_347 : decode code 347 = .ok (.iconst 0, 1) := by decide +kernel
theorem d_Lw_law_348 : decode code 348 = .ok (.ireturn, 1) := by decide +kernel
theorem d_Lw_law_349 : decode code 349 = .ok (.iinc 3 3, 3) := by decide +kernel
theorem d_Lw_law_352 : decode code 352 = .ok (.goto (-334), 3) := by decide +kernel
theorem d_Lw_law_355 : decode code 355 = .ok (.iconst 1, 1) := by decide +kernel
theorem d_Lw_law_356 : decode code 356 = .ok (.ireturn, 1) := by decide +kernel
end
section
theorem d_Ma_max_0 : decode b_Ma_max 0 = .ok (.iload_n 0, 1) := by decide +kernel
theorem d_Ma_max_1 : decode b_Ma_max 1 = .ok (.iload_n 1, 1) := by decide +kernel
theorem d_Ma_max_2 : decode b_Ma_max 2 = .ok (.if_icmp .lt 7, 3) := by decide +kernel
theorem d_Ma_max_5 : decode b_Ma_max 5 = .ok (.iload_n 0, 1) := by decide +kernel
theorem d_Ma_max_6 : decode b_Ma_max 6 = .ok (.goto 4, 3) := by decide +kernel
theorem d_Ma_max_9 : decode b_Ma_max 9 = .ok (.iload_n 1, 1) := by decide +kernel
theorem d_Ma_max_10 : decode b_Ma_max 10 = .ok (.ireturn, 1) := by decide +kernel
theorem d_JL_numberOfLeadingZeros_0 : decode b_JL_numberOfLeadingZeros 0 = .ok (.lload_n 0, 1) := by decide +kernel
theorem d_JL_numberOfLeadingZeros_1 : decode b_JL_numberOfLeadingZeros 1 = .ok (.bipush 32, 2) := by decide +kernel
theorem d_JL_numberOfLeadingZeros_3 : decode b_JL_numberOfLeadingZeros 3 = .ok (.lushr, 1) := by decide +kernel
theorem d_JL_numberOfLeadingZeros_4 : decode b_JL_numberOfLeadingZeros 4 = .ok (.l2i, 1) := by decide +kernel
theorem d_JL_numberOfLeadingZeros_5 : decode b_JL_numberOfLeadingZeros 5 = .ok (.istore_n 2, 1) := by decide +kernel
theorem d_JL_numberOfLeadingZeros_6 : decode b_JL_numberOfLeadingZeros 6 = .ok (.iload_n 2, 1) := by decide +kernel
theorem d_JL_numberOfLeadingZeros_7 : decode b_JL_numberOfLeadingZeros 7 = .ok (.ifCond .ne 14, 3) := by decide +kernel
theorem d_JL_numberOfLeadingZeros_10 : decode b_JL_numberOfLeadingZeros 10 = .ok (.bipush 32, 2) := by decide +kernel
theorem d_JL_numberOfLeadingZeros_12 : decode b_JL_numberOfLeadingZeros 12 = .ok (.lload_n 0, 1) := by decide +kernel
theorem d_JL_numberOfLeadingZeros_13 : decode b_JL_numberOfLeadingZeros 13 = .ok (.l2i, 1) := by decide +kernel
theorem d_JL_numberOfLeadingZeros_14 : decode b_JL_numberOfLeadingZeros 14 = .ok (.invokestatic 308, 3) := by decide +kernel
theorem d_JL_numberOfLeadingZeros_17 : decode b_JL_numberOfLeadingZeros 17 = .ok (.iadd, 1) := by decide +kernel
theorem d_JL_numberOfLeadingZeros_18 : decode b_JL_numberOfLeadingZeros 18 = .ok (.goto 7, 3) := by decide +kernel
theorem d_JL_numberOfLeadingZeros_21 : decode b_JL_numberOfLeadingZeros 21 = .ok (.iload_n 2, 1) := by decide +kernel
theorem d_JL_numberOfLeadingZeros_22 : decode b_JL_numberOfLeadingZeros 22 = .ok (.invokestatic 308, 3) := by decide +kernel
theorem d_JL_numberOfLeadingZeros_25 : decode b_JL_numberOfLeadingZeros 25 = .ok (.ireturn, 1) := by decide +kernel
theorem d_JI_numberOfLeadingZeros_0 : decode b_JI_numberOfLeadingZeros 0 = .ok (.iload_n 0, 1) := by decide +kernel
theorem d_JI_numberOfLeadingZeros_1 : decode b_JI_numberOfLeadingZeros 1 = .ok (.ifCond .gt 14, 3) := by decide +kernel
theorem d_JI_numberOfLeadingZeros_4 : decode b_JI_numberOfLeadingZeros 4 = .ok (.iload_n 0, 1) := by decide +kernel
theorem d_JI_numberOfLeadingZeros_5 : decode b_JI_numberOfLeadingZeros 5 = .ok (.ifCond .ne 8, 3) := by decide +kernel
theorem d_JI_numberOfLeadingZeros_8 : decode b_JI_numberOfLeadingZeros 8 = .ok (.bipush 32, 2) := by decide +kernel
theorem d_JI_numberOfLeadingZeros_10 : decode b_JI_numberOfLeadingZeros 10 = .ok (.goto 4, 3) := by decide +kernel
theorem d_JI_numberOfLeadingZeros_13 : decode b_JI_numberOfLeadingZeros 13 = .ok (.iconst 0, 1) := by decide +kernel
theorem d_JI_numberOfLeadingZeros_14 : decode b_JI_numberOfLeadingZeros 14 = .ok (.ireturn, 1) := by decide +kernel
theorem d_JI_numberOfLeadingZeros_15 : decode b_JI_numberOfLeadingZeros 15 = .ok (.bipush 31, 2) := by decide +kernel
theorem d_JI_numberOfLeadingZeros_17 : decode b_JI_numberOfLeadingZeros 17 = .ok (.istore_n 1, 1) := by decide +kernel
theorem d_JI_numberOfLeadingZeros_18 : decode b_JI_numberOfLeadingZeros 18 = .ok (.iload_n 0, 1) := by decide +kernel
theorem d_JI_numberOfLeadingZeros_19 : decode b_JI_numberOfLeadingZeros 19 = .ok (.ldc_w 264, 3) := by decide +kernel
theorem d_JI_numberOfLeadingZeros_22 : decode b_JI_numberOfLeadingZeros 22 = .ok (.if_icmp .lt 11, 3) := by decide +kernel
theorem d_JI_numberOfLeadingZeros_25 : decode b_JI_numberOfLeadingZeros 25 = .ok (.iinc 1 (-16), 3) := by decide +kernel
theorem d_JI_numberOfLeadingZeros_28 : decode b_JI_numberOfLeadingZeros 28 = .ok (.iload_n 0, 1) := by decide +kernel
theorem d_JI_numberOfLeadingZeros_29 : decode b_JI_numberOfLeadingZeros 29 = .ok (.bipush 16, 2) := by decide +kernel
theorem d_JI_numberOfLeadingZeros_31 : decode b_JI_numberOfLeadingZeros 31 = .ok (.iushr, 1) := by decide +kernel
theorem d_JI_numberOfLeadingZeros_32 : decode b_JI_numberOfLeadingZeros 32 = .ok (.istore_n 0, 1) := by decide +kernel
theorem d_JI_numberOfLeadingZeros_33 : decode b_JI_numberOfLeadingZeros 33 = .ok (.iload_n 0, 1) := by decide +kernel
theorem d_JI_numberOfLeadingZeros_34 : decode b_JI_numberOfLeadingZeros 34 = .ok (.sipush 256, 3) := by decide +kernel
theorem d_JI_numberOfLeadingZeros_37 : decode b_JI_numberOfLeadingZeros 37 = .ok (.if_icmp .lt 11, 3) := by decide +kernel
theorem d_JI_numberOfLeadingZeros_40 : decode b_JI_numberOfLeadingZeros 40 = .ok (.iinc 1 (-8), 3) := by decide +kernel
theorem d_JI_numberOfLeadingZeros_43 : decode b_JI_numberOfLeadingZeros 43 = .ok (.iload_n 0, 1) := by decide +kernel
theorem d_JI_numberOfLeadingZeros_44 : decode b_JI_numberOfLeadingZeros 44 = .ok (.bipush 8, 2) := by decide +kernel
theorem d_JI_numberOfLeadingZeros_46 : decode b_JI_numberOfLeadingZeros 46 = .ok (.iushr, 1) := by decide +kernel
theorem d_JI_numberOfLeadingZeros_47 : decode b_JI_numberOfLeadingZeros 47 = .ok (.istore_n 0, 1) := by decide +kernel
theorem d_JI_numberOfLeadingZeros_48 : decode b_JI_numberOfLeadingZeros 48 = .ok (.iload_n 0, 1) := by decide +kernel
theorem d_JI_numberOfLeadingZeros_49 : decode b_JI_numberOfLeadingZeros 49 = .ok (.bipush 16, 2) := by decide +kernel
theorem d_JI_numberOfLeadingZeros_51 : decode b_JI_numberOfLeadingZeros 51 = .ok (.if_icmp .lt 10, 3) := by decide +kernel
theorem d_JI_numberOfLeadingZeros_54 : decode b_JI_numberOfLeadingZeros 54 = .ok (.iinc 1 (-4), 3) := by decide +kernel
theorem d_JI_numberOfLeadingZeros_57 : decode b_JI_numberOfLeadingZeros 57 = .ok (.iload_n 0, 1) := by decide +kernel
theorem d_JI_numberOfLeadingZeros_58 : decode b_JI_numberOfLeadingZeros 58 = .ok (.iconst 4, 1) := by decide +kernel
theorem d_JI_numberOfLeadingZeros_59 : decode b_JI_numberOfLeadingZeros 59 = .ok (.iushr, 1) := by decide +kernel
theorem d_JI_numberOfLeadingZeros_60 : decode b_JI_numberOfLeadingZeros 60 = .ok (.istore_n 0, 1) := by decide +kernel
theorem d_JI_numberOfLeadingZeros_61 : decode b_JI_numberOfLeadingZeros 61 = .ok (.iload_n 0, 1) := by decide +kernel
theorem d_JI_numberOfLeadingZeros_62 : decode b_JI_numberOfLeadingZeros 62 = .ok (.iconst 4, 1) := by decide +kernel
theorem d_JI_numberOfLeadingZeros_63 : decode b_JI_numberOfLeadingZeros 63 = .ok (.if_icmp .lt 10, 3) := by decide +kernel
theorem d_JI_numberOfLeadingZeros_66 : decode b_JI_numberOfLeadingZeros 66 = .ok (.iinc 1 (-2), 3) := by decide +kernel
theorem d_JI_numberOfLeadingZeros_69 : decode b_JI_numberOfLeadingZeros 69 = .ok (.iload_n 0, 1) := by decide +kernel
theorem d_JI_numberOfLeadingZeros_70 : decode b_JI_numberOfLeadingZeros 70 = .ok (.iconst 2, 1) := by decide +kernel
theorem d_JI_numberOfLeadingZeros_71 : decode b_JI_numberOfLeadingZeros 71 = .ok (.iushr, 1) := by decide +kernel
theorem d_JI_numberOfLeadingZeros_72 : decode b_JI_numberOfLeadingZeros 72 = .ok (.istore_n 0, 1) := by decide +kernel
theorem d_JI_numberOfLeadingZeros_73 : decode b_JI_numberOfLeadingZeros 73 = .ok (.iload_n 1, 1) := by decide +kernel
theorem d_JI_numberOfLeadingZeros_74 : decode b_JI_numberOfLeadingZeros 74 = .ok (.iload_n 0, 1) := by decide +kernel
theorem d_JI_numberOfLeadingZeros_75 : decode b_JI_numberOfLeadingZeros 75 = .ok (.iconst 1, 1) := by decide +kernel
theorem d_JI_numberOfLeadingZeros_76 : decode b_JI_numberOfLeadingZeros 76 = .ok (.iushr, 1) := by decide +kernel
theorem d_JI_numberOfLeadingZeros_77 : decode b_JI_numberOfLeadingZeros 77 = .ok (.isub, 1) := by decide +kernel
theorem d_JI_numberOfLeadingZeros_78 : decode b_JI_numberOfLeadingZeros 78 = .ok (.ireturn, 1) := by decide +kernel
theorem d_Ma_min_0 : decode b_Ma_min 0 = .ok (.iload_n 0, 1) := by decide +kernel
theorem d_Ma_min_1 : decode b_Ma_min 1 = .ok (.iload_n 1, 1) := by decide +kernel
theorem d_Ma_min_2 : decode b_Ma_min 2 = .ok (.if_icmp .gt 7, 3) := by decide +kernel
theorem d_Ma_min_5 : decode b_Ma_min 5 = .ok (.iload_n 0, 1) := by decide +kernel
theorem d_Ma_min_6 : decode b_Ma_min 6 = .ok (.goto 4, 3) := by decide +kernel
theorem d_Ma_min_9 : decode b_Ma_min 9 = .ok (.iload_n 1, 1) := by decide +kernel
theorem d_Ma_min_10 : decode b_Ma_min 10 = .ok (.ireturn, 1) := by decide +kernel
theorem d_Ma_abs_0 : decode b_Ma_abs 0 = .ok (.iload_n 0, 1) := by decide +kernel
theorem d_Ma_abs_1 : decode b_Ma_abs 1 = .ok (.ifCond .ge 8, 3) := by decide +kernel
theorem d_Ma_abs_4 : decode b_Ma_abs 4 = .ok (.iload_n 0, 1) := by decide +kernel
theorem d_Ma_abs_6 : decode b_Ma_abs 6 = .ok (.goto 4, 3) := by decide +kernel
theorem d_Ma_abs_9 : decode b_Ma_abs 9 = .ok (.iload_n 0, 1) := by decide +kernel
theorem d_Ma_abs_10 : decode b_Ma_abs 10 = .ok (.ireturn, 1) := by decide +kernel
theorem d_St_length_0 : decode b_St_length 0 = .ok (.aload_n 0, 1) := by decide +kernel
theorem d_St_length_1 : decode b_St_length 1 = .ok (.getfield 9, 3) := by decide +kernel
theorem d_St_length_4 : decode b_St_length 4 = .ok (.arraylength, 1) := by decide +kernel
theorem d_St_length_5 : decode b_St_length 5 = .ok (.aload_n 0, 1) := by decide +kernel
theorem d_St_length_6 : decode b_St_length 6 = .ok (.invokevirtual 335, 3) := by decide +kernel
theorem d_St_length_9 : decode b_St_length 9 = .ok (.ishr, 1) := by decide +kernel
theorem d_St_length_10 : decode b_St_length 10 = .ok (.ireturn, 1) := by decide +kernel
theorem d_St_coder_0 : decode b_St_coder 0 = .ok (.getstatic 38, 3) := by decide +kernel
theorem d_St_coder_3 : decode b_St_coder 3 = .ok (.ifCond .eq 10, 3) := by decide +kernel
theorem d_St_coder_6 : decode b_St_coder 6 = .ok (.aload_n 0, 1) := by decide +kernel
theorem d_St_coder_7 : decode b_St_coder 7 = .ok (.getfield 15, 3) := by decide +kernel
theorem d_St_coder_10 : decode b_St_coder 10 = .ok (.goto 4, 3) := by decide +kernel
theorem d_St_coder_13 : decode b_St_coder 13 = .ok (.iconst 1, 1) := by decide +kernel
theorem d_St_coder_14 : decode b_St_coder 14 = .ok (.ireturn, 1) := by decide +kernel
theorem d_St_charAt_0 : decode b_St_charAt 0 = .ok (.aload_n 0, 1) := by decide +kernel
theorem d_St_charAt_1 : decode b_St_charAt 1 = .ok (.invokevirtual 492, 3) := by decide +kernel
theorem d_St_charAt_4 : decode b_St_charAt 4 = .ok (.ifCond .eq 12, 3) := by decide +kernel
theorem d_St_charAt_7 : decode b_St_charAt 7 = .ok (.aload_n 0, 1) := by decide +kernel
theorem d_St_charAt_8 : decode b_St_charAt 8 = .ok (.getfield 9, 3) := by decide +kernel
theorem d_St_charAt_11 : decode b_St_charAt 11 = .ok (.iload_n 1, 1) := by decide +kernel
theorem d_St_charAt_12 : decode b_St_charAt 12 = .ok (.invokestatic 495, 3) := by decide +kernel
theorem d_St_charAt_15 : decode b_St_charAt 15 = .ok (.ireturn, 1) := by decide +kernel
theorem d_St_charAt_16 : decode b_St_charAt 16 = .ok (.aload_n 0, 1) := by decide +kernel
theorem d_St_charAt_17 : decode b_St_charAt 17 = .ok (.getfield 9, 3) := by decide +kernel
theorem d_St_charAt_20 : decode b_St_charAt 20 = .ok (.iload_n 1, 1) := by decide +kernel
theorem d_St_charAt_21 : decode b_St_charAt 21 = .ok (.invokestatic 498, 3) := by decide +kernel
theorem d_St_charAt_24 : decode b_St_charAt 24 = .ok (.ireturn, 1) := by decide +kernel
theorem d_St_isLatin1_0 : decode b_St_isLatin1 0 = .ok (.getstatic 38, 3) := by decide +kernel
theorem d_St_isLatin1_3 : decode b_St_isLatin1 3 = .ok (.ifCond .eq 14, 3) := by decide +kernel
theorem d_St_isLatin1_6 : decode b_St_isLatin1 6 = .ok (.aload_n 0, 1) := by decide +kernel
theorem d_St_isLatin1_7 : decode b_St_isLatin1 7 = .ok (.getfield 15, 3) := by decide +kernel
theorem d_St_isLatin1_10 : decode b_St_isLatin1 10 = .ok (.ifCond .ne 7, 3) := by decide +kernel
theorem d_St_isLatin1_13 : decode b_St_isLatin1 13 = .ok (.iconst 1, 1) := by decide +kernel
theorem d_St_isLatin1_14 : decode b_St_isLatin1 14 = .ok (.goto 4, 3) := by decide +kernel
theorem d_St_isLatin1_17 : decode b_St_isLatin1 17 = .ok (.iconst 0, 1) := by decide +kernel
theorem d_St_isLatin1_18 : decode b_St_isLatin1 18 = .ok (.ireturn, 1) := by decide +kernel
theorem d_SL_charAt_0 : decode b_SL_charAt 0 = .ok (.iload_n 1, 1) := by decide +kernel
theorem d_SL_charAt_1 : decode b_SL_charAt 1 = .ok (.aload_n 0, 1) := by decide +kernel
theorem d_SL_charAt_2 : decode b_SL_charAt 2 = .ok (.arraylength, 1) := by decide +kernel
theorem d_SL_charAt_3 : decode b_SL_charAt 3 = .ok (.invokestatic 9, 3) := by decide +kernel
theorem d_SL_charAt_6 : decode b_SL_charAt 6 = .ok (.aload_n 0, 1) := by decide +kernel
theorem d_SL_charAt_7 : decode b_SL_charAt 7 = .ok (.iload_n 1, 1) := by decide +kernel
theorem d_SL_charAt_8 : decode b_SL_charAt 8 = .ok (.baload, 1) := by decide +kernel
theorem d_SL_charAt_9 : decode b_SL_charAt 9 = .ok (.sipush 255, 3) := by decide +kernel
theorem d_SL_charAt_12 : decode b_SL_charAt 12 = .ok (.iand, 1) := by decide +kernel
theorem d_SL_charAt_13 : decode b_SL_charAt 13 = .ok (.i2c, 1) := by decide +kernel
theorem d_SL_charAt_14 : decode b_SL_charAt 14 = .ok (.ireturn, 1) := by decide +kernel
theorem d_St_checkIndex_0 : decode b_St_checkIndex 0 = .ok (.iload_n 0, 1) := by decide +kernel
theorem d_St_checkIndex_1 : decode b_St_checkIndex 1 = .ok (.iload_n 1, 1) := by decide +kernel
theorem d_St_checkIndex_2 : decode b_St_checkIndex 2 = .ok (.getstatic 1053, 3) := by decide +kernel
theorem d_St_checkIndex_5 : decode b_St_checkIndex 5 = .ok (.invokestatic 1059, 3) := by decide +kernel
theorem d_St_checkIndex_8 : decode b_St_checkIndex 8 = .ok (.pop, 1) := by decide +kernel
theorem d_St_checkIndex_9 : decode b_St_checkIndex 9 = .ok (.return_, 1) := by decide +kernel
theorem d_Pr_checkIndex_0 : decode b_Pr_checkIndex 0 = .ok (.iload_n 0, 1) := by decide +kernel
theorem d_Pr_checkIndex_1 : decode b_Pr_checkIndex 1 = .ok (.ifCond .lt 8, 3) := by decide +kernel
theorem d_Pr_checkIndex_4 : decode b_Pr_checkIndex 4 = .ok (.iload_n 0, 1) := by decide +kernel
theorem d_Pr_checkIndex_5 : decode b_Pr_checkIndex 5 = .ok (.iload_n 1, 1) := by decide +kernel
theorem d_Pr_checkIndex_6 : decode b_Pr_checkIndex 6 = .ok (.if_icmp .lt 10, 3) := by decide +kernel
theorem d_Pr_checkIndex_9 : decode b_Pr_checkIndex 9 = .ok (.aload_n 2, 1) := by decide +kernel
theorem d_Pr_checkIndex_10 : decode b_Pr_checkIndex 10 = .ok (.iload_n 0, 1) := by decide +kernel
theorem d_Pr_checkIndex_11 : decode b_Pr_checkIndex 11 = .ok (.iload_n 1, 1) := by decide +kernel
theorem d_Pr_checkIndex_12 : decode b_Pr_checkIndex 12 = .ok (.invokestatic 95, 3) := by decide +kernel
theorem d_Pr_checkIndex_15 : decode b_Pr_checkIndex 15 = .ok (.athrow, 1) := by decide +kernel
theorem d_Pr_checkIndex_16 : decode b_Pr_checkIndex 16 = .ok (.iload_n 0, 1) := by decide +kernel
theorem d_Pr_checkIndex_17 : decode b_Pr_checkIndex 17 = .ok (.ireturn, 1) := by decide +kernel
end
section
/-! THE LAYER: contracts in one form. A method is given cells wc (apart), tables, and a background E that is never written; it leaves cells wn u. -/
section PW
/-- a background: it depends on the tables and on cells that are not in A -/
def pw_E (E : (Nat → Prop) → State → Heap → Prop) : Prop :=
  (∀ (A : Nat → Prop) (u U : State) (H : Heap), U.vm = u.vm → E A u H → E A U H) ∧ (∀ (A : Nat → Prop) (u U : State) (H : Heap), u.WarmedH U.vm → E A u H → E A U H) ∧
  (∀ (A : Nat → Prop) (U : State) (H H1 : Heap), E A U H → (∀ a : Nat, a < H.size → ¬ A a → H1[a]? = H[a]?) → E A U H1) ∧ (∀ (A B : Nat → Prop) (U : State) (H : Heap), E A U H → (∀ q, B q → A q) → E B U H)
def pw_0 : (Nat → Prop) → State → Heap → Prop := fun _ _ _ => True
theorem pw_0_ok : pw_E pw_0 := ⟨fun _ _ _ _ _ h => h, fun _ _ _ _ _ h => h, fun _ _ _ _ h _ => h, fun _ _ _ _ h _ => h⟩
def pw_P (D : va_G) (cl : List vw_C) (tys : List (ClassId × FieldType)) (E : (Nat → Prop) → State → Heap → Prop) (ws : va_W) (sz : Nat) : State → Prop := fun U => U.heap.size = sz ∧ va_P D cl ws U.heap ∧ va_K D cl tys U ∧ va_D (fun _ => True) ws ∧ E (va_A ws sz) U U.heap
def pw_B (D : va_G) (cl : List vw_C) (tys : List (ClassId × FieldType)) (A : Nat → Prop) (ws : va_W) : State → Prop := fun t => va_P D cl ws t.heap ∧ va_K D cl tys t ∧ va_D A ws
variable {p : Program} {l : Launch} {e : Env} {R : Room} {s : State} {m : MethodId} {args : Array Value} {below : List Frame} {meth : Method} {c : Code} {H : Heap} {locs : List Loc} {cells slots : Nat} {Q : State → Prop}
variable {pc mc ms : Nat} {ls : Array Slot} {rest st0 : List Value} {a : Array Value} {A : Nat → Prop} {D : va_G} {cl : List vw_C} {tys tysC : List (ClassId × FieldType)} {ws wc wr : va_W} {E : (Nat → Prop) → State → Heap → Prop}
theorem pw_blind {av : List Value} {sz : Nat} (hE : pw_E E) : FrameBlind (va_Pc av (pw_P D cl tys E ws sz)) := fun a U g mk q => by
  obtain ⟨q0, q1, qP, qK, qD, qE⟩ := q
  exact ⟨q0, q1, qP, va_K.moved (u := U) (U := U.calling g mk a) (Vm.Alike.refl U.vm) qK, qD, hE.1 _ U _ _ rfl qE⟩
theorem pw_pre {av : List Value} (hE : pw_E E) (hB : E A s s.heap) (hS : va_S A s.heap H locs) (hF : ∀ q, va_A wc H.size q → A q) (hP : va_P D cl wc H) (hD : va_D A wc) (hK : va_K D cl tysC s) :
    ∀ U : State, U.heap = H → s.WarmedH U.vm → va_Pc av (pw_P D cl tysC E wc H.size) av.toArray U := fun U hU hW =>
  ⟨rfl, by rw [hU], by rw [hU]; exact hP, va_K.moved hW.alike hK, hD.weaken (fun _ _ _ _ => trivial), by rw [hU]; exact hE.2.1 _ s U _ hW (hE.2.2.2 A _ _ _ (hE.2.2.1 _ _ _ _ hB hS.2.1) hF)⟩
theorem pw_preS {av : List Value} (hE : pw_E E) (hB : E A s s.heap) (hS : va_S A s.heap H locs) (hF : ∀ q, va_A wc H.size q → A q) (hP : va_P D cl wc H) (hD : va_D A wc) (hK : va_K D cl tysC s) :
    PreS s H (va_Pc av (pw_P D cl tysC E wc H.size)) av := ⟨pw_blind hE, pw_pre hE hB hS hF hP hD hK⟩
theorem pw_preV {C : String} {b : Addr} {As : List Value} (hE : pw_E E) (hB : E A s s.heap) (hS : va_S A s.heap H locs) (hF : ∀ q, va_A wc H.size q → A q) (hP : va_P D cl wc H) (hD : va_D A wc) (hK : va_K D cl tysC s)
    (hr : ∃ cellB : Cell, H[b]? = some cellB ∧ cellB.vm.isStatics = false ∧ s.vm.findClass C = some cellB.cls) : PreV s H C b (va_Pc (Value.ref b :: As) (pw_P D cl tysC E wc H.size)) As := ⟨pw_blind hE, hr, pw_pre hE hB hS hF hP hD hK⟩
theorem pw_calli {T : Type} {post : Int32 → T → Prop} {tn : T → List (ClassId × FieldType)} {wn : T → va_W} (isC isR : List Nat) (hC : isC.map (fun i => ws[i]?) = wc.map some) (hC2 : isC.filterMap (fun i => ws[i]?) = wc) (hR : isR.map (fun i => ws[i]?) = wr.map some) (hc : va_nd isC = true) (hn : va_nd isR = true) (hdis : ∀ i ∈ isR, i ∉ isC)
    (hP : va_P D cl ws H) (hD : va_D A ws) (hS : va_S A s.heap H locs) (hA : ∀ q : Nat, s.heap.size ≤ q → A q)
    (hr : va_P D cl wc H → va_D A wc → (∀ q, va_A wc H.size q → A q) → va_Run p l e R s m args below meth c H locs cells slots mc ms (F0 m pc ls st0) rest (va_Qi post (fun u => pw_B D cl (tn u) (va_A wc H.size) (wn u)) (va_A wc H.size) a) (va_A wc H.size))
    (kk : ∀ (r : Int32) (u : T) (H1 : Heap) (locs1 : List Loc), post r u → va_K D cl (tn u) s → va_P D cl (wr ++ wn u) H1 → va_D A (wr ++ wn u) → va_S A s.heap H1 locs1 → W p l e R s m args below meth c H1 locs1 (cells + mc) (slots + ms) Q (F0 m (pc + 3) ls (.int r :: rest))) :
    W p l e R s m args below meth c H locs cells slots Q (F0 m pc ls st0) := by
  have hFc := va_free (wc := wc) hD hS hA isC hC
  refine va_calli (hr (hP.sub isC hC2) (hD.sub isC hc hC) hFc) hS (fun q _ h => hFc q h) hFc (fun r u t H1 locs1 ht hvm hw hB hz1 hk1 hS1 => ?_)
  obtain ⟨hP1, hK1, hD1⟩ := hB
  rw [ht] at hP1
  obtain ⟨hP2, hD2⟩ := va_join (wr := wr) (w1 := wn u) hP hD isC isR hC hR hn hdis hk1 hFc hP1 hD1
  exact kk r u H1 locs1 hw (va_K.moved hvm.symm hK1) hP2 hD2 hS1
theorem pw_calll {T : Type} {post : Int64 → T → Prop} {tn : T → List (ClassId × FieldType)} {wn : T → va_W} (isC isR : List Nat) (hC : isC.map (fun i => ws[i]?) = wc.map some) (hC2 : isC.filterMap (fun i => ws[i]?) = wc) (hR : isR.map (fun i => ws[i]?) = wr.map some) (hc : va_nd isC = true) (hn : va_nd isR = true) (hdis : ∀ i ∈ isR, i ∉ isC)
    (hP : va_P D cl ws H) (hD : va_D A ws) (hS : va_S A s.heap H locs) (hA : ∀ q : Nat, s.heap.size ≤ q → A q)
    (hr : va_P D cl wc H → va_D A wc → (∀ q, va_A wc H.size q → A q) → va_Run p l e R s m args below meth c H locs cells slots mc ms (F0 m pc ls st0) rest (va_Ql post (fun u => pw_B D cl (tn u) (va_A wc H.size) (wn u)) (va_A wc H.size) a) (va_A wc H.size))
    (kk : ∀ (r : Int64) (u : T) (H1 : Heap) (locs1 : List Loc), post r u → va_K D cl (tn u) s → va_P D cl (wr ++ wn u) H1 → va_D A (wr ++ wn u) → va_S A s.heap H1 locs1 → W p l e R s m args below meth c H1 locs1 (cells + mc) (slots + ms) Q (F0 m (pc + 3) ls (.long r :: rest))) :
    W p l e R s m args below meth c H locs cells slots Q (F0 m pc ls st0) := by
  have hFc := va_free (wc := wc) hD hS hA isC hC
  refine va_calll (hr (hP.sub isC hC2) (hD.sub isC hc hC) hFc) hS (fun q _ h => hFc q h) hFc (fun r u t H1 locs1 ht hvm hw hB hz1 hk1 hS1 => ?_)
  obtain ⟨hP1, hK1, hD1⟩ := hB
  rw [ht] at hP1
  obtain ⟨hP2, hD2⟩ := va_join (wr := wr) (w1 := wn u) hP hD isC isR hC hR hn hdis hk1 hFc hP1 hD1
  exact kk r u H1 locs1 hw (va_K.moved hvm.symm hK1) hP2 hD2 hS1
theorem pw_callv {T : Type} {post : T → Prop} {tn : T → List (ClassId × FieldType)} {wn : T → va_W} (isC isR : List Nat) (hC : isC.map (fun i => ws[i]?) = wc.map some) (hC2 : isC.filterMap (fun i => ws[i]?) = wc) (hR : isR.map (fun i => ws[i]?) = wr.map some) (hc : va_nd isC = true) (hn : va_nd isR = true) (hdis : ∀ i ∈ isR, i ∉ isC)
    (hP : va_P D cl ws H) (hD : va_D A ws) (hS : va_S A s.heap H locs) (hA : ∀ q : Nat, s.heap.size ≤ q → A q)
    (hr : va_P D cl wc H → va_D A wc → (∀ q, va_A wc H.size q → A q) → va_Run p l e R s m args below meth c H locs cells slots mc ms (F0 m pc ls st0) rest (va_Qv post (fun u => pw_B D cl (tn u) (va_A wc H.size) (wn u)) (va_A wc H.size) a) (va_A wc H.size))
    (kk : ∀ (u : T) (H1 : Heap) (locs1 : List Loc), post u → va_K D cl (tn u) s → va_P D cl (wr ++ wn u) H1 → va_D A (wr ++ wn u) → va_S A s.heap H1 locs1 → W p l e R s m args below meth c H1 locs1 (cells + mc) (slots + ms) Q (F0 m (pc + 3) ls rest)) :
    W p l e R s m args below meth c H locs cells slots Q (F0 m pc ls st0) := by
  have hFc := va_free (wc := wc) hD hS hA isC hC
  refine va_callv (hr (hP.sub isC hC2) (hD.sub isC hc hC) hFc) hS (fun q _ h => hFc q h) hFc (fun u t H1 locs1 ht hvm hw hB hz1 hk1 hS1 => ?_)
  obtain ⟨hP1, hK1, hD1⟩ := hB
  rw [ht] at hP1
  obtain ⟨hP2, hD2⟩ := va_join (wr := wr) (w1 := wn u) hP hD isC isR hC hR hn hdis hk1 hFc hP1 hD1
  exact kk u H1 locs1 hw (va_K.moved hvm.symm hK1) hP2 hD2 hS1
theorem pw_metv {y : MethodName} {rm : Room} {cc : ByteArray} {maxL sz : Nat} {av : List Value} {T : Type} {post : T → Prop} {tn : T → List (ClassId × FieldType)} {wn : T → va_W}
    (hy : plainName y.cls = true) (hlen : (lg_sl av).length ≤ maxL)
    (body : ∀ (p : Program) (e : Env) (s : State) (m : MethodId) (args : Array Value) (below : List Frame) (meth : Method) (c : Code) (A : Nat → Prop) (Q : State → Prop) (H : Heap) (ls : Array Slot), p.tables.exec = Jvm.exec → c.code = cc → c.maxLocals = maxL → s.vm.findClass y.cls = some m.cls → (∀ w ∈ gT, w.before args s = true) → meth.name = y.name →
      (∀ q : Nat, s.heap.size ≤ q → A q) → E A s s.heap → va_P D cl wc H → va_K D cl tys s → va_D A wc → va_S A s.heap H [] →
      (∀ (H : Heap) (locs : List Loc) (ls : Array Slot) (pc : Nat) (u : T), decode cc pc = .ok (.return_, 1) → post u → va_P D cl (wn u) H → va_K D cl (tn u) s → va_D A (wn u) → va_S A s.heap H locs → W p l e rm s m args below meth c H locs mc ms Q (F0 m pc ls [])) →
      lv_has ls maxL (lv_args 0 av) → W p l e rm s m args below meth c H [] 0 0 Q (F0 m 0 ls [])) :
    Met l y (Cond.code y cc maxL none :: gT) rm (va_Pc av (pw_P D cl tys E wc sz)) (va_Qv post (fun u => pw_B D cl (tn u) (va_A wc sz) (wn u)) (va_A wc sz)) mc ms (va_A wc sz) := by
  refine Met.ofW (cc := cc) (maxL := maxL) (ret := none) hy rfl ?_
  intro p e s m args below meth c s₁ B hml hv
  obtain ⟨rfl, hsz, hP, hK, hD0, hE⟩ := hv
  subst hsz
  have hr := B.returns
  have hlocks := B.notSynchronized
  rw [lg_entry_eq]
  exact body p e s m _ below meth c (va_A wc s.heap.size) _ s.heap _ B.exec B.bytes hml (findClass_of_methodNamed B.named) (fun w h => atoms_spec (ws := Cond.code y cc maxL none :: gT) B.pre w (List.mem_cons_of_mem _ h)) (name_of_methodNamed B.named B.method).1 (fun q h => Or.inr h) hE hP hK hD0.self va_S.rf (fun H locs ls pc u hd hpost hP9 hK9 hD9 hS9 => W.vret B.exec B.bytes hr (fun t ht hW => ⟨⟨u, rfl, hpost, by rw [ht]; exact hP9, va_K.moved hW.alike hK9, hD9⟩, hS9.F ht⟩) hS9.2.2 hd) (lv_entry av hlen)
theorem pw_meti {y : MethodName} {rm : Room} {cc : ByteArray} {maxL sz : Nat} {av : List Value} {T : Type} {ty : FieldType} {post : Int32 → T → Prop} {tn : T → List (ClassId × FieldType)} {wn : T → va_W}
    (hy : plainName y.cls = true) (hlen : (lg_sl av).length ≤ maxL)
    (body : ∀ (p : Program) (e : Env) (s : State) (m : MethodId) (args : Array Value) (below : List Frame) (meth : Method) (c : Code) (A : Nat → Prop) (Q : State → Prop) (H : Heap) (ls : Array Slot), p.tables.exec = Jvm.exec → c.code = cc → c.maxLocals = maxL → s.vm.findClass y.cls = some m.cls → (∀ w ∈ gT, w.before args s = true) →
      (∀ q : Nat, s.heap.size ≤ q → A q) → E A s s.heap → va_P D cl wc H → va_K D cl tys s → va_D A wc → va_S A s.heap H [] →
      (∀ (H : Heap) (locs : List Loc) (ls : Array Slot) (pc : Nat) (r : Int32) (u : T), decode cc pc = .ok (.ireturn, 1) → narrow ty (.int r) = .int r → post r u → va_P D cl (wn u) H → va_K D cl (tn u) s → va_D A (wn u) → va_S A s.heap H locs → W p l e rm s m args below meth c H locs mc ms Q (F0 m pc ls [.int r])) →
      lv_has ls maxL (lv_args 0 av) → W p l e rm s m args below meth c H [] 0 0 Q (F0 m 0 ls [])) :
    Met l y (Cond.code y cc maxL (some ty) :: gT) rm (va_Pc av (pw_P D cl tys E wc sz)) (va_Qi post (fun u => pw_B D cl (tn u) (va_A wc sz) (wn u)) (va_A wc sz)) mc ms (va_A wc sz) := by
  refine Met.ofW (cc := cc) (maxL := maxL) (ret := some ty) hy rfl ?_
  intro p e s m args below meth c s₁ B hml hv
  obtain ⟨rfl, hsz, hP, hK, hD0, hE⟩ := hv
  subst hsz
  have hr := B.returns
  have hlocks := B.notSynchronized
  rw [lg_entry_eq]
  exact body p e s m _ below meth c (va_A wc s.heap.size) _ s.heap _ B.exec B.bytes hml (findClass_of_methodNamed B.named) (fun w h => atoms_spec (ws := Cond.code y cc maxL (some ty) :: gT) B.pre w (List.mem_cons_of_mem _ h)) (fun q h => Or.inr h) hE hP hK hD0.self va_S.rf (fun H locs ls pc r u hd hn hpost hP9 hK9 hD9 hS9 => W.zret B.exec B.bytes hr hn (fun t ht hW => ⟨⟨r, u, rfl, hpost, by rw [ht]; exact hP9, va_K.moved hW.alike hK9, hD9⟩, hS9.F ht⟩) hS9.2.2 hd) (lv_entry av hlen)
theorem pw_metl {y : MethodName} {rm : Room} {cc : ByteArray} {maxL sz : Nat} {av : List Value} {T : Type} {post : Int64 → T → Prop} {tn : T → List (ClassId × FieldType)} {wn : T → va_W}
    (hy : plainName y.cls = true) (hlen : (lg_sl av).length ≤ maxL)
    (body : ∀ (p : Program) (e : Env) (s : State) (m : MethodId) (args : Array Value) (below : List Frame) (meth : Method) (c : Code) (A : Nat → Prop) (Q : State → Prop) (H : Heap) (ls : Array Slot), p.tables.exec = Jvm.exec → c.code = cc → c.maxLocals = maxL → s.vm.findClass y.cls = some m.cls → (∀ w ∈ gT, w.before args s = true) →
      (∀ q : Nat, s.heap.size ≤ q → A q) → E A s s.heap → va_P D cl wc H → va_K D cl tys s → va_D A wc → va_S A s.heap H [] →
      (∀ (H : Heap) (locs : List Loc) (ls : Array Slot) (pc : Nat) (r : Int64) (u : T), decode cc pc = .ok (.lreturn, 1) → post r u → va_P D cl (wn u) H → va_K D cl (tn u) s → va_D A (wn u) → va_S A s.heap H locs → W p l e rm s m args below meth c H locs mc ms Q (F0 m pc ls [.long r])) →
      lv_has ls maxL (lv_args 0 av) → W p l e rm s m args below meth c H [] 0 0 Q (F0 m 0 ls [])) :
    Met l y (Cond.code y cc maxL (some .long) :: gT) rm (va_Pc av (pw_P D cl tys E wc sz)) (va_Ql post (fun u => pw_B D cl (tn u) (va_A wc sz) (wn u)) (va_A wc sz)) mc ms (va_A wc sz) := by
  refine Met.ofW (cc := cc) (maxL := maxL) (ret := some .long) hy rfl ?_
  intro p e s m args below meth c s₁ B hml hv
  obtain ⟨rfl, hsz, hP, hK, hD0, hE⟩ := hv
  subst hsz
  have hr := B.returns
  have hlocks := B.notSynchronized
  rw [lg_entry_eq]
  exact body p e s m _ below meth c (va_A wc s.heap.size) _ s.heap _ B.exec B.bytes hml (findClass_of_methodNamed B.named) (fun w h => atoms_spec (ws := Cond.code y cc maxL (some .long) :: gT) B.pre w (List.mem_cons_of_mem _ h)) (fun q h => Or.inr h) hE hP hK hD0.self va_S.rf (fun H locs ls pc r u hd hpost hP9 hK9 hD9 hS9 => W.lret B.exec B.bytes hr (fun t ht hW => ⟨⟨r, u, rfl, hpost, by rw [ht]; exact hP9, va_K.moved hW.alike hK9, hD9⟩, hS9.F ht⟩) hS9.2.2 hd) (lv_entry av hlen)
end PW
section LX
variable {p : Program} {l : Launch} {e : Env} {R : Room} {s : State} {m : MethodId} {args : Array Value} {below : List Frame} {meth : Method} {c : Code} {H : Heap} {locs : List Loc} {cells slots : Nat} {Q : State → Prop}
variable {cc : ByteArray} {pc : Nat} {ls : Array Slot} {rest : List Value}
/-- lcmp, then ifeq -/
theorem lx_eq (hexec : p.tables.exec = Jvm.exec) (hb : c.code = cc) {x y : Int64} {off : Int} {tgt : Nat} (hd1 : decode cc pc = .ok (.lcmp, 1)) (hd2 : decode cc (pc + 1) = .ok (.ifCond .eq off, 3)) (ht : ((pc + 1 : Nat) : Int) + off = (tgt : Int)) (kt : x = y → W p l e R s m args below meth c H locs cells slots Q (F0 m tgt ls rest)) (kf : ¬ x = y → W p l e R s m args below meth c H locs cells slots Q (F0 m (pc + 4) ls rest)) : W p l e R s m args below meth c H locs cells slots Q (F0 m pc ls (.long y :: .long x :: rest)) :=
  W.lcmp hexec hb hd1 (lv_if_eq hexec hb hd2 ht (fun h => kt ((lg_cmp_eq x y).mp h)) (fun h => kf (fun q => h ((lg_cmp_eq x y).mpr q))))
/-- lcmp, then ifne -/
theorem lx_ne (hexec : p.tables.exec = Jvm.exec) (hb : c.code = cc) {x y : Int64} {off : Int} {tgt : Nat} (hd1 : decode cc pc = .ok (.lcmp, 1)) (hd2 : decode cc (pc + 1) = .ok (.ifCond .ne off, 3)) (ht : ((pc + 1 : Nat) : Int) + off = (tgt : Int)) (kt : ¬ x = y → W p l e R s m args below meth c H locs cells slots Q (F0 m tgt ls rest)) (kf : x = y → W p l e R s m args below meth c H locs cells slots Q (F0 m (pc + 4) ls rest)) : W p l e R s m args below meth c H locs cells slots Q (F0 m pc ls (.long y :: .long x :: rest)) :=
  W.lcmp hexec hb hd1 (lv_if_ne hexec hb hd2 ht (fun h => kt (fun q => h ((lg_cmp_eq x y).mpr q))) (fun h => kf ((lg_cmp_eq x y).mp h)))
/-- lcmp, then iflt -/
theorem lx_lt (hexec : p.tables.exec = Jvm.exec) (hb : c.code = cc) {x y : Int64} {off : Int} {tgt : Nat} (hd1 : decode cc pc = .ok (.lcmp, 1)) (hd2 : decode cc (pc + 1) = .ok (.ifCond .lt off, 3)) (ht : ((pc + 1 : Nat) : Int) + off = (tgt : Int)) (kt : x < y → W p l e R s m args below meth c H locs cells slots Q (F0 m tgt ls rest)) (kf : ¬ x < y → W p l e R s m args below meth c H locs cells slots Q (F0 m (pc + 4) ls rest)) : W p l e R s m args below meth c H locs cells slots Q (F0 m pc ls (.long y :: .long x :: rest)) :=
  W.lcmp hexec hb hd1 (lv_if_lt hexec hb hd2 ht (fun h => kt ((lg_cmp_lt x y).mp h)) (fun h => kf (fun q => h ((lg_cmp_lt x y).mpr q))))
/-- lcmp, then ifge -/
theorem lx_ge (hexec : p.tables.exec = Jvm.exec) (hb : c.code = cc) {x y : Int64} {off : Int} {tgt : Nat} (hd1 : decode cc pc = .ok (.lcmp, 1)) (hd2 : decode cc (pc + 1) = .ok (.ifCond .ge off, 3)) (ht : ((pc + 1 : Nat) : Int) + off = (tgt : Int)) (kt : y ≤ x → W p l e R s m args below meth c H locs cells slots Q (F0 m tgt ls rest)) (kf : ¬ y ≤ x → W p l e R s m args below meth c H locs cells slots Q (F0 m (pc + 4) ls rest)) : W p l e R s m args below meth c H locs cells slots Q (F0 m pc ls (.long y :: .long x :: rest)) :=
  W.lcmp hexec hb hd1 (lv_if_ge hexec hb hd2 ht (fun h => kt ((lg_cmp_ge x y).mp h)) (fun h => kf (fun q => h ((lg_cmp_ge x y).mpr q))))
/-- lcmp, then ifgt -/
theorem lx_gt (hexec : p.tables.exec = Jvm.exec) (hb : c.code = cc) {x y : Int64} {off : Int} {tgt : Nat} (hd1 : decode cc pc = .ok (.lcmp, 1)) (hd2 : decode cc (pc + 1) = .ok (.ifCond .gt off, 3)) (ht : ((pc + 1 : Nat) : Int) + off = (tgt : Int)) (kt : y < x → W p l e R s m args below meth c H locs cells slots Q (F0 m tgt ls rest)) (kf : ¬ y < x → W p l e R s m args below meth c H locs cells slots Q (F0 m (pc + 4) ls rest)) : W p l e R s m args below meth c H locs cells slots Q (F0 m pc ls (.long y :: .long x :: rest)) :=
  W.lcmp hexec hb hd1 (lv_if_gt hexec hb hd2 ht (fun h => kt ((lg_cmp_gt x y).mp h)) (fun h => kf (fun q => h ((lg_cmp_gt x y).mpr q))))
/-- lcmp, then ifle -/
theorem lx_le (hexec : p.tables.exec = Jvm.exec) (hb : c.code = cc) {x y : Int64} {off : Int} {tgt : Nat} (hd1 : decode cc pc = .ok (.lcmp, 1)) (hd2 : decode cc (pc + 1) = .ok (.ifCond .le off, 3)) (ht : ((pc + 1 : Nat) : Int) + off = (tgt : Int)) (kt : x ≤ y → W p l e R s m args below meth c H locs cells slots Q (F0 m tgt ls rest)) (kf : ¬ x ≤ y → W p l e R s m args below meth c H locs cells slots Q (F0 m (pc + 4) ls rest)) : W p l e R s m args below meth c H locs cells slots Q (F0 m pc ls (.long y :: .long x :: rest)) :=
  W.lcmp hexec hb hd1 (lv_if_le hexec hb hd2 ht (fun h => kt ((lg_cmp_le x y).mp h)) (fun h => kf (fun q => h ((lg_cmp_le x y).mpr q))))
end LX
/-! the words of a callee -/
theorem gw_self {y : MethodName} {cc : ByteArray} {maxL : Nat} {ret : Option FieldType} (h : Cond.code y cc maxL ret ∈ gT) : GoodIn gT (Cond.code y cc maxL ret :: gT) := fun w hw => (List.mem_cons.mp hw).elim (fun e => by rw [e]; exact ⟨h, gT_good _ h⟩) (fun q => ⟨q, gT_good _ q⟩)
theorem gw_V {own C : String} {idx : Nat} {y : MethodName} {ws : List Cond} (h0 : GoodIn gT ws) (h1 : Cond.methodLink own idx y ∈ gT) (h2 : Cond.instanceMethod y ∈ gT) (h3 : Cond.selects C y y ∈ gT) (h4 : Cond.initialized C ∈ gT) : GoodIn gT (wsV own idx C y ws) := by
  intro w hw
  unfold wsV at hw
  rcases List.mem_append.mp hw with hw | hw
  · simp only [List.mem_cons, List.not_mem_nil, or_false] at hw
    rcases hw with rfl | rfl | rfl | rfl
    · exact ⟨h1, gT_good _ h1⟩
    · exact ⟨h2, gT_good _ h2⟩
    · exact ⟨h3, gT_good _ h3⟩
    · exact ⟨h4, gT_good _ h4⟩
  · exact h0 w hw
theorem gw_S {own : String} {idx : Nat} {y : MethodName} {ws : List Cond} (h0 : GoodIn gT ws) (h1 : Cond.methodLink own idx y ∈ gT) (h2 : Cond.static y ∈ gT) (h4 : Cond.initialized y.cls ∈ gT) : GoodIn gT (va_wsS own idx y ws) := by
  intro w hw
  unfold va_wsS at hw
  rcases List.mem_append.mp hw with hw | hw
  · simp only [List.mem_cons, List.not_mem_nil, or_false] at hw
    rcases hw with rfl | rfl | rfl
    · exact ⟨h1, gT_good _ h1⟩
    · exact ⟨h2, gT_good _ h2⟩
    · exact ⟨h4, gT_good _ h4⟩
  · exact h0 w hw
end
section
/-! WHOLE NUMBERS OF MANY WORDS: a row of longs holds V when word j is V / 2^(32 j) mod 2^32. -/
def bn_w (V j : Nat) : Nat := V / 2 ^ (32 * j) % 2 ^ 32
def bn_f (V : Nat) : Nat → Int64 := fun j => lN (bn_w V j)
/-- the words below i are X's, the others Y's -/
def bn_m (X Y i : Nat) : Nat → Int64 := fun j => if j < i then bn_f X j else bn_f Y j
theorem bn_w_lt (V j : Nat) : bn_w V j < 2 ^ 32 := Nat.mod_lt _ (by decide)
theorem bn_m_0 (X Y : Nat) : bn_m X Y 0 = bn_f Y := by
  funext j
  simp [bn_m]
theorem bn_m_at (X Y i : Nat) : bn_m X Y i i = lN (bn_w Y i) := by
  simp [bn_m, bn_f]
theorem bn_m_up (X Y i : Nat) : vp_updL (bn_m X Y i) i (lN (bn_w X i)) = bn_m X Y (i + 1) := by
  funext j
  unfold vp_updL bn_m
  by_cases h : j = i
  · subst h
    simp [bn_f]
  · by_cases h2 : j < i
    · simp [h, h2, Nat.lt_succ_of_lt h2]
    · have h3 : ¬ j < i + 1 := by omega
      simp [h, h2, h3]
theorem bn_pow (i : Nat) : 2 ^ (32 * (i + 1)) = 2 ^ (32 * i) * 2 ^ 32 := by
  rw [Nat.mul_add, Nat.pow_add]
theorem bn_ple {a b : Nat} (h : a ≤ b) : 2 ^ (32 * a) ≤ 2 ^ (32 * b) := Nat.pow_le_pow_right (by decide) (by omega)
theorem bn_w_0 {X n j : Nat} (hX : X < 2 ^ (32 * n)) (h : n ≤ j) : bn_w X j = 0 := by
  unfold bn_w
  rw [Nat.div_eq_of_lt (Nat.lt_of_lt_of_le hX (bn_ple h))]
theorem bn_m_all {X Y n : Nat} (hX : X < 2 ^ (32 * n)) (hY : Y < 2 ^ (32 * n)) : bn_m X Y n = bn_f X := by
  funext j
  unfold bn_m
  by_cases h : j < n
  · simp [h]
  · simp only [h, if_false]
    unfold bn_f
    rw [bn_w_0 hX (by omega), bn_w_0 hY (by omega)]
theorem bn_split (V F b : Nat) (hb : 0 < b) : V * F / b = V / b * F + V % b * F / b := by
  conv => lhs; rw [← Nat.div_add_mod V b]
  rw [Nat.add_mul, Nat.mul_assoc, Nat.mul_add_div hb]
/-- the carry into word i of V * F -/
def bn_c (V F i : Nat) : Nat := V % 2 ^ (32 * i) * F / 2 ^ (32 * i)
theorem bn_c_0 (V F : Nat) : bn_c V F 0 = 0 := by
  simp [bn_c, Nat.mod_one]
theorem bn_c_lt {V F i : Nat} (hF : 0 < F) : bn_c V F i < F := by
  unfold bn_c
  have hb : 0 < 2 ^ (32 * i) := Nat.two_pow_pos _
  refine (Nat.div_lt_iff_lt_mul hb).mpr ?_
  rw [Nat.mul_comm F]
  exact Nat.mul_lt_mul_of_pos_right (Nat.mod_lt _ hb) hF
theorem bn_t_lo (V F i : Nat) : (bn_w V i * F + bn_c V F i) % 2 ^ 32 = bn_w (V * F) i := by
  unfold bn_w bn_c
  have hb : 0 < 2 ^ (32 * i) := Nat.two_pow_pos _
  generalize 2 ^ (32 * i) = b at hb
  rw [bn_split V F b hb]
  have e2 : V / b * F = V / b % 2 ^ 32 * F + 2 ^ 32 * (V / b / 2 ^ 32 * F) := by
    conv => lhs; rw [← Nat.mod_add_div (V / b) (2 ^ 32)]
    rw [Nat.add_mul, Nat.mul_assoc]
  rw [e2, Nat.add_right_comm, Nat.add_mul_mod_self_left]
theorem bn_mod_succ (V i : Nat) : V % 2 ^ (32 * (i + 1)) = 2 ^ (32 * i) * bn_w V i + V % 2 ^ (32 * i) := by
  unfold bn_w
  rw [bn_pow, Nat.mod_mul]
  omega
theorem bn_t_hi (V F i : Nat) : (bn_w V i * F + bn_c V F i) / 2 ^ 32 = bn_c V F (i + 1) := by
  have hb : 0 < 2 ^ (32 * i) := Nat.two_pow_pos _
  unfold bn_c
  rw [bn_mod_succ, bn_pow, ← Nat.div_div_eq_div_mul, Nat.add_mul, Nat.mul_assoc, Nat.mul_add_div hb]
theorem bn_c_end {V F u : Nat} (h : V < 2 ^ (32 * u)) : bn_c V F u = V * F / 2 ^ (32 * u) := by
  unfold bn_c
  rw [Nat.mod_eq_of_lt h]
theorem bn_c_end0 {V F u : Nat} (h : V < 2 ^ (32 * u)) (h0 : bn_c V F u = 0) : V * F < 2 ^ (32 * u) := by
  rw [bn_c_end h] at h0
  rcases Nat.lt_or_ge (V * F) (2 ^ (32 * u)) with q | q
  · exact q
  · have := Nat.div_pos q (Nat.two_pow_pos _)
    omega
theorem bn_c_end1 {V F u : Nat} (h : V < 2 ^ (32 * u)) (hF : 0 < F) (hF2 : F ≤ 2 ^ 31) : bn_c V F u = bn_w (V * F) u ∧ V * F < 2 ^ (32 * (u + 1)) := by
  have h1 := bn_c_lt (V := V) (i := u) hF
  rw [bn_c_end h] at h1 ⊢
  constructor
  · unfold bn_w
    rw [Nat.mod_eq_of_lt]
    exact Nat.lt_of_lt_of_le h1 (Nat.le_trans hF2 (by decide))
  · rw [bn_pow, Nat.mul_comm (2 ^ (32 * u))]
    exact (Nat.div_lt_iff_lt_mul (Nat.two_pow_pos _)).mp (Nat.lt_of_lt_of_le h1 (Nat.le_trans hF2 (by decide)))
theorem bn_prod_lt {V F i : Nat} (hF : 0 < F) (hF2 : F ≤ 2 ^ 31) : bn_w V i * F + bn_c V F i < 2 ^ 63 := by
  have h1 := bn_w_lt V i
  have h2 := bn_c_lt (V := V) (i := i) hF
  have h3 : bn_w V i * F ≤ (2 ^ 32 - 1) * F := Nat.mul_le_mul_right _ (by omega)
  omega
/-- BORROW: the low i words of V - U -/
def bn_b (V U i : Nat) : Nat := if V % 2 ^ (32 * i) < U % 2 ^ (32 * i) then 1 else 0
theorem bn_b_0 (V U : Nat) : bn_b V U 0 = 0 := by
  simp [bn_b, Nat.mod_one]
theorem bn_b_le (V U i : Nat) : bn_b V U i ≤ 1 := by
  unfold bn_b
  split <;> omega
theorem bn_dsub {V U b : Nat} (hb : 0 < b) (h : U ≤ V) : ∃ z : Nat, z ≤ 1 ∧ (z = 1 ↔ V % b < U % b) ∧ (V - U) / b + U / b + z = V / b := by
  have hv := Nat.div_add_mod V b
  have hu := Nat.div_add_mod U b
  have hvl := Nat.mod_lt V hb
  have hul := Nat.mod_lt U hb
  generalize V / b = qv at *
  generalize U / b = qu at *
  generalize V % b = v at *
  generalize U % b = u at *
  by_cases hc : v < u
  · have hlt : qu < qv := by
      rcases Nat.lt_or_ge qu qv with q | q
      · exact q
      · have := Nat.mul_le_mul_left b q
        omega
    obtain ⟨k, rfl⟩ : ∃ k, qv = qu + 1 + k := ⟨qv - qu - 1, by omega⟩
    rw [Nat.mul_add, Nat.mul_add, Nat.mul_one] at hv
    have hd : V - U = b * k + (b + v - u) := by omega
    refine ⟨1, Nat.le_refl _, by simp [hc], ?_⟩
    rw [hd, Nat.mul_add_div hb, Nat.div_eq_of_lt (by omega)]
    omega
  · have hle : qu ≤ qv := by
      rcases Nat.lt_or_ge qv qu with q | q
      · have := Nat.mul_le_mul_left b (Nat.succ_le_of_lt q)
        rw [Nat.mul_succ] at this
        omega
      · exact q
    obtain ⟨k, rfl⟩ : ∃ k, qv = qu + k := ⟨qv - qu, by omega⟩
    rw [Nat.mul_add] at hv
    have hd : V - U = b * k + (v - u) := by omega
    refine ⟨0, by omega, by simp [hc], ?_⟩
    rw [hd, Nat.mul_add_div hb, Nat.div_eq_of_lt (by omega)]
    omega
theorem bn_s_lo {V U : Nat} (i : Nat) (h : U ≤ V) : ((bn_w V i : Int) - bn_w U i - bn_b V U i) % 4294967296 = bn_w (V - U) i := by
  unfold bn_w bn_b
  have hb : 0 < 2 ^ (32 * i) := Nat.two_pow_pos _
  generalize 2 ^ (32 * i) = b at hb
  obtain ⟨z, h1, h2, h3⟩ := bn_dsub hb h
  have h4 : (if V % b < U % b then 1 else 0 : Nat) = z := by
    by_cases hc : V % b < U % b
    · rw [if_pos hc, h2.mpr hc]
    · have : z ≠ 1 := fun e => hc (h2.mp e)
      rw [if_neg hc]
      omega
  rw [h4, show (2 : Nat) ^ 32 = 4294967296 from rfl]
  omega
theorem bn_s_hi (V U i : Nat) : ((bn_w V i : Int) - bn_w U i - bn_b V U i) / 4294967296 = - (bn_b V U (i + 1) : Int) := by
  have hv := bn_mod_succ V i
  have hu := bn_mod_succ U i
  have h1 := bn_w_lt V i
  have h2 := bn_w_lt U i
  have hb : 0 < 2 ^ (32 * i) := Nat.two_pow_pos _
  have e1 := Nat.mod_lt V hb
  have e2 := Nat.mod_lt U hb
  unfold bn_b
  rw [hv, hu]
  generalize 2 ^ (32 * i) = b at *
  generalize bn_w V i = wv at *
  generalize bn_w U i = wu at *
  generalize V % b = v at *
  generalize U % b = u at *
  rcases Nat.lt_trichotomy wv wu with q | q | q
  · have := Nat.mul_le_mul_left b (Nat.succ_le_of_lt q)
    rw [Nat.mul_succ] at this
    rw [if_pos (show b * wv + v < b * wu + u by omega)]
    split <;> omega
  · subst q
    by_cases hc : v < u
    · rw [if_pos hc, if_pos (show b * wv + v < b * wv + u by omega)]
      omega
    · rw [if_neg hc, if_neg (show ¬ b * wv + v < b * wv + u by omega)]
      omega
  · have := Nat.mul_le_mul_left b (Nat.succ_le_of_lt q)
    rw [Nat.mul_succ] at this
    rw [if_neg (show ¬ b * wv + v < b * wu + u by omega)]
    split <;> omega
/-- COMPARE, from above: the words from i + 1 on are alike -/
theorem bn_div_succ (V i : Nat) : V / 2 ^ (32 * i) = 2 ^ 32 * (V / 2 ^ (32 * (i + 1))) + bn_w V i := by
  unfold bn_w
  rw [bn_pow, ← Nat.div_div_eq_div_mul, Nat.div_add_mod]
theorem bn_cmp_lt {V U i : Nat} (h : V / 2 ^ (32 * (i + 1)) = U / 2 ^ (32 * (i + 1))) (hw : bn_w V i < bn_w U i) : V < U := by
  have h1 : V / 2 ^ (32 * i) < U / 2 ^ (32 * i) := by
    rw [bn_div_succ V i, bn_div_succ U i, h]
    omega
  rcases Nat.lt_or_ge V U with q | q
  · exact q
  · have := Nat.div_le_div_right (c := 2 ^ (32 * i)) q
    omega
theorem bn_cmp_eq {V U i : Nat} (h : V / 2 ^ (32 * (i + 1)) = U / 2 ^ (32 * (i + 1))) (hw : bn_w V i = bn_w U i) : V / 2 ^ (32 * i) = U / 2 ^ (32 * i) := by
  rw [bn_div_succ V i, bn_div_succ U i, h, hw]
theorem bn_div_0 {V n : Nat} (h : V < 2 ^ (32 * n)) : V / 2 ^ (32 * n) = 0 := Nat.div_eq_of_lt h
/-- COMPARE A SUM: the low i words of C - A - B, with the sign -/
def bn_d (A B C i : Nat) : Int := (C % 2 ^ (32 * i) : Nat) - (A % 2 ^ (32 * i) : Nat) - (B % 2 ^ (32 * i) : Nat)
theorem bn_d_0 (A B C : Nat) : bn_d A B C 0 = 0 := by
  simp [bn_d, Nat.mod_one]
theorem bn_d_succ (A B C i : Nat) : bn_d A B C (i + 1) = (2 ^ (32 * i) : Nat) * ((bn_w C i : Int) - bn_w A i - bn_w B i) + bn_d A B C i := by
  unfold bn_d
  rw [bn_mod_succ A, bn_mod_succ B, bn_mod_succ C]
  push_cast
  rw [Int.mul_sub, Int.mul_sub]
  omega
/-- the borrow into word i -/
def bn_e (A B C i : Nat) : Int := bn_d A B C i / (2 ^ (32 * i) : Nat)
theorem bn_e_0 (A B C : Nat) : bn_e A B C 0 = 0 := by
  simp [bn_e, bn_d_0]
theorem bn_e_q (A B C i : Nat) : bn_d A B C (i + 1) / (2 ^ (32 * i) : Nat) = (bn_w C i : Int) - bn_w A i - bn_w B i + bn_e A B C i := by
  have hb : ((2 ^ (32 * i) : Nat) : Int) ≠ 0 := by
    have : 0 < 2 ^ (32 * i) := Nat.two_pow_pos _
    omega
  unfold bn_e
  rw [bn_d_succ, Int.mul_add_ediv_left _ _ hb]
theorem bn_e_succ (A B C i : Nat) : ((bn_w C i : Int) - bn_w A i - bn_w B i + bn_e A B C i) / 4294967296 = bn_e A B C (i + 1) := by
  rw [← bn_e_q]
  unfold bn_e
  rw [bn_pow]
  rw [Int.natCast_mul, ← Int.ediv_ediv_of_nonneg (Int.natCast_nonneg _)]
  rfl
theorem bn_z_succ (A B C i : Nat) : bn_d A B C (i + 1) % (2 ^ (32 * (i + 1)) : Nat) = 0 ↔ bn_d A B C i % (2 ^ (32 * i) : Nat) = 0 ∧ ((bn_w C i : Int) - bn_w A i - bn_w B i + bn_e A B C i) % 4294967296 = 0 := by
  have hb : (0 : Int) < (2 ^ (32 * i) : Nat) := by
    have : 0 < 2 ^ (32 * i) := Nat.two_pow_pos _
    omega
  have h1 := Int.mul_ediv_add_emod (bn_d A B C (i + 1)) (2 ^ (32 * i) : Nat)
  rw [bn_e_q] at h1
  have h2 : bn_d A B C (i + 1) % (2 ^ (32 * i) : Nat) = bn_d A B C i % (2 ^ (32 * i) : Nat) := by
    rw [bn_d_succ, Int.mul_add_emod_self_left]
  rw [h2] at h1
  have h3 : (0 : Int) ≤ bn_d A B C i % (2 ^ (32 * i) : Nat) := Int.emod_nonneg _ (by omega)
  have h4 : bn_d A B C i % (2 ^ (32 * i) : Nat) < (2 ^ (32 * i) : Nat) := Int.emod_lt_of_pos _ hb
  rw [bn_pow, Int.natCast_mul]
  generalize (bn_w C i : Int) - bn_w A i - bn_w B i + bn_e A B C i = X at *
  generalize bn_d A B C i % (2 ^ (32 * i) : Nat) = r at *
  generalize bn_d A B C (i + 1) = D at *
  generalize ((2 ^ (32 * i) : Nat) : Int) = b at *
  rw [show ((2 ^ 32 : Nat) : Int) = 4294967296 from rfl]
  constructor
  · intro h
    obtain ⟨k, hk⟩ := Int.dvd_of_emod_eq_zero h
    rw [Int.mul_assoc] at hk
    have hr : r = b * (4294967296 * k - X) := by
      rw [Int.mul_sub]
      omega
    have hr0 : r = 0 := by
      have := Int.emod_eq_of_lt h3 h4
      rw [hr, Int.mul_emod_right] at this
      omega
    refine ⟨hr0, ?_⟩
    have : X = 4294967296 * k := Int.eq_of_mul_eq_mul_left (by omega) (show b * X = b * (4294967296 * k) by omega)
    omega
  · rintro ⟨hr, hX⟩
    obtain ⟨k, hk⟩ := Int.dvd_of_emod_eq_zero hX
    refine Int.emod_eq_zero_of_dvd ⟨k, ?_⟩
    rw [Int.mul_assoc, ← hk]
    omega
/-- the end: all words are seen -/
theorem bn_d_end {A B C n : Nat} (hA : A < 2 ^ (32 * n)) (hB : B < 2 ^ (32 * n)) (hC : C < 2 ^ (32 * n)) : (bn_e A B C n < 0 ↔ C < A + B) ∧ (¬ C < A + B → (bn_d A B C n % (2 ^ (32 * n) : Nat) = 0 ↔ C = A + B)) := by
  have hd : bn_d A B C n = (C : Int) - A - B := by
    unfold bn_d
    rw [Nat.mod_eq_of_lt hA, Nat.mod_eq_of_lt hB, Nat.mod_eq_of_lt hC]
  unfold bn_e
  rw [hd]
  generalize 2 ^ (32 * n) = b at *
  constructor
  · constructor
    · intro h
      have := Int.ediv_nonneg (a := (C : Int) - A - B) (b := (b : Int))
      rcases Nat.lt_or_ge C (A + B) with q | q
      · exact q
      · have := this (by omega) (by omega)
        omega
    · intro h
      exact Int.ediv_neg_of_neg_of_pos (by omega) (by omega)
  · intro h
    rw [Int.emod_eq_of_lt (by omega) (by omega)]
    omega
theorem bn_e_rng (A B C i : Nat) : -2 ≤ bn_e A B C i ∧ bn_e A B C i ≤ 0 := by
  have hb : 0 < 2 ^ (32 * i) := Nat.two_pow_pos _
  have h1 := Nat.mod_lt A hb
  have h2 := Nat.mod_lt B hb
  have h3 := Nat.mod_lt C hb
  unfold bn_e bn_d
  generalize 2 ^ (32 * i) = b at *
  generalize A % b = x at *
  generalize B % b = y at *
  generalize C % b = z at *
  constructor
  · refine (Int.le_ediv_iff_mul_le (by omega)).mpr ?_
    omega
  · have : ((z : Int) - x - y) / b < 1 := (Int.ediv_lt_iff_lt_mul (by omega)).mpr (by omega)
    omega
/-! LONGS WITH A SIGN -/
def lZ (z : Int) : Int64 := Int64.ofInt z
theorem lZ_N (n : Nat) : lN n = lZ n := Int64.ofInt_eq_ofNat.symm
theorem lZ_add (a b : Int) : lZ a + lZ b = lZ (a + b) := (Int64.ofInt_add a b).symm
theorem lZ_sub (a b : Int) : lZ a - lZ b = lZ (a - b) := (Int64.ofInt_sub a b).symm
theorem lZ_toInt {z : Int} (h1 : -2 ^ 63 ≤ z) (h2 : z < 2 ^ 63) : (lZ z).toInt = z := Int64.toInt_ofInt_of_le h1 h2
theorem lZ_lo (z : Int) : lZ z &&& 4294967295 = lN (z % 4294967296).toNat := by
  apply Int64.toBitVec_inj.mp
  apply BitVec.eq_of_toNat_eq
  show (BitVec.ofInt 64 z &&& 4294967295#64).toNat = (BitVec.ofNat 64 (z % 4294967296).toNat).toNat
  rw [BitVec.toNat_and, show (4294967295#64).toNat = 2 ^ 32 - 1 from by decide, Nat.and_two_pow_sub_one_eq_mod, BitVec.toNat_ofNat, BitVec.toNat_ofInt]
  omega
theorem lZ_shr {z : Int} {D : Int64} (hD : (D.toBitVec.smod 64).toNat = 32) (h1 : -2 ^ 63 ≤ z) (h2 : z < 2 ^ 63) : lZ z >>> D = lZ (z / 4294967296) := by
  apply Int64.toInt_inj.mp
  have e : (lZ z >>> D).toInt = (lZ z).toInt >>> 32 := by
    rw [← hD]
    exact BitVec.toInt_sshiftRight ..
  rw [e, Int.shiftRight_eq_div_pow, lZ_toInt h1 h2, lZ_toInt (by omega) (by omega)]
  rfl
theorem lZ_or (x y : Int64) : (x ||| y) = 0 ↔ x = 0 ∧ y = 0 := by
  rw [← Int64.toBitVec_inj, ← Int64.toBitVec_inj (a := x), ← Int64.toBitVec_inj (a := y)]
  exact BitVec.or_eq_zero_iff
theorem lZ_cmp0 {z : Int} (h1 : -2 ^ 63 ≤ z) (h2 : z < 2 ^ 63) : lZ z < 0 ↔ z < 0 := by
  rw [Int64.lt_iff_toInt_lt, lZ_toInt h1 h2]
  rfl
theorem lZ_bv (n : Nat) : (lN n).toBitVec = BitVec.ofNat 64 n := rfl
theorem lZ_nlo {n : Nat} (h : n < 2 ^ 64) : lN n &&& 4294967295 = lN (n % 2 ^ 32) := by
  rw [lZ_N, lZ_lo]
  congr 1
theorem lZ_nhi {n : Nat} (h : n < 2 ^ 64) : ((lN n).toUInt64 >>> ((32 : Int32).toInt64.toUInt64 &&& Int64.toUInt64 63)).toInt64 = lN (n / 2 ^ 32) := by
  have e : (lN n).toUInt64 >>> ((32 : Int32).toInt64.toUInt64 &&& Int64.toUInt64 63) = UInt64.ofNat (n / 2 ^ 32) := UInt64.toNat_inj.mp (by
    rw [UInt64.toNat_shiftRight, show (((32 : Int32).toInt64.toUInt64 &&& Int64.toUInt64 63).toNat % 64) = 32 from by decide, Nat.shiftRight_eq_div_pow, UInt64.toNat_ofNat']
    show (UInt64.ofNat n).toNat / 2 ^ 32 = _
    rw [UInt64.toNat_ofNat', Nat.mod_eq_of_lt h, Nat.mod_eq_of_lt (by omega)])
  rw [e]
  rfl
/-! INTS WITH A SIGN -/
def iZ (z : Int) : Int32 := Int32.ofInt z
theorem iZ_N (n : Nat) : nI n = iZ n := Int32.ofInt_eq_ofNat.symm
theorem iZ_add (a b : Int) : iZ a + iZ b = iZ (a + b) := (Int32.ofInt_add a b).symm
theorem iZ_sub (a b : Int) : iZ a - iZ b = iZ (a - b) := (Int32.ofInt_sub a b).symm
theorem iZ_mul (a b : Int) : iZ a * iZ b = iZ (a * b) := (Int32.ofInt_mul a b).symm
theorem iZ_neg (a : Int) : -iZ a = iZ (-a) := (Int32.ofInt_neg a).symm
theorem iZ_toInt {z : Int} (h1 : -2 ^ 31 ≤ z) (h2 : z < 2 ^ 31) : (iZ z).toInt = z := Int32.toInt_ofInt_of_le h1 h2
theorem iZ_le {a b : Int} (h1 : -2 ^ 31 ≤ a) (h2 : a < 2 ^ 31) (h3 : -2 ^ 31 ≤ b) (h4 : b < 2 ^ 31) : iZ a ≤ iZ b ↔ a ≤ b := by
  rw [Int32.le_iff_toInt_le, iZ_toInt h1 h2, iZ_toInt h3 h4]
theorem iZ_lt {a b : Int} (h1 : -2 ^ 31 ≤ a) (h2 : a < 2 ^ 31) (h3 : -2 ^ 31 ≤ b) (h4 : b < 2 ^ 31) : iZ a < iZ b ↔ a < b := by
  rw [Int32.lt_iff_toInt_lt, iZ_toInt h1 h2, iZ_toInt h3 h4]
theorem iZ_eq {a b : Int} (h1 : -2 ^ 31 ≤ a) (h2 : a < 2 ^ 31) (h3 : -2 ^ 31 ≤ b) (h4 : b < 2 ^ 31) : iZ a = iZ b ↔ a = b := by
  rw [← Int32.toInt_inj, iZ_toInt h1 h2, iZ_toInt h3 h4]
end
section
theorem wb_tb (n : Nat) : (lN n).toBitVec = BitVec.ofNat 64 n := rfl
theorem wb_inj {a b : Int64} (h : a.toBitVec = b.toBitVec) : a = b := Int64.toBitVec_inj.mp h
theorem wb_tn {n : Nat} (h : n < 2 ^ 64) : (lN n).toBitVec.toNat = n := by rw [wb_tb, BitVec.toNat_ofNat, Nat.mod_eq_of_lt h]
theorem wb_of (x : Int64) : ∃ n, n < 2 ^ 64 ∧ x = lN n := ⟨x.toBitVec.toNat, x.toBitVec.isLt, wb_inj (by rw [wb_tb]; simp)⟩
theorem wb_of32 (x : Int32) : ∃ n, n < 2 ^ 32 ∧ x = nI n := ⟨x.toBitVec.toNat, x.toBitVec.isLt, Int32.toBitVec_inj.mp (by show _ = BitVec.ofNat 32 _; simp)⟩
theorem wb_c : ∀ k, k < 64 → ((nI k).toInt64 &&& 63) = lN k := by decide +kernel
theorem wb_cu : ∀ k, k < 64 → ((nI k).toInt64.toUInt64 &&& Int64.toUInt64 63) = UInt64.ofNat k := by decide +kernel
theorem wb_sm : ∀ k, k < 64 → (BitVec.ofNat 64 k).smod 64 = BitVec.ofNat 64 k := by decide +kernel
theorem wb_pw {a b : Nat} (h : a ≤ b) : 2 ^ b = 2 ^ a * 2 ^ (b - a) := by rw [← Nat.pow_add]; congr 1; omega
theorem wb_lt2 {a b : Nat} (h : a < b) : 2 ^ a < 2 ^ b := Nat.pow_lt_pow_right (by decide) h
theorem wb_mod (n : Nat) : lN n = lN (n % 2 ^ 64) := wb_inj (by rw [wb_tb, wb_tb]; apply BitVec.eq_of_toNat_eq; rw [BitVec.toNat_ofNat, BitVec.toNat_ofNat, Nat.mod_mod])
theorem wb_shr {n k : Nat} (hn : n < 2 ^ 64) (hk : k < 64) : ((lN n).toUInt64 >>> ((nI k).toInt64.toUInt64 &&& Int64.toUInt64 63)).toInt64 = lN (n / 2 ^ k) := by
  rw [wb_cu k hk]
  apply wb_inj
  apply BitVec.eq_of_toNat_eq
  show ((lN n).toUInt64 >>> UInt64.ofNat k).toNat = (BitVec.ofNat 64 _).toNat
  have h1 : (UInt64.ofNat k).toNat = k := by
    show (BitVec.ofNat 64 k).toNat = k
    rw [BitVec.toNat_ofNat, Nat.mod_eq_of_lt (by omega)]
  have h2 : (lN n).toUInt64.toNat = n := wb_tn hn
  rw [UInt64.toNat_shiftRight, h1, h2, Nat.mod_eq_of_lt hk, Nat.shiftRight_eq_div_pow, BitVec.toNat_ofNat, Nat.mod_eq_of_lt (Nat.lt_of_le_of_lt (Nat.div_le_self _ _) hn)]
theorem wb_shl (n : Nat) {k : Nat} (hk : k < 64) : lN n <<< ((nI k).toInt64 &&& 63) = lN (n * 2 ^ k) := by
  rw [wb_c k hk]
  apply wb_inj
  rw [Int64.toBitVec_shiftLeft, wb_tb, wb_tb, wb_tb, wb_sm k hk]
  apply BitVec.eq_of_toNat_eq
  rw [BitVec.shiftLeft_eq', BitVec.toNat_shiftLeft, BitVec.toNat_ofNat, BitVec.toNat_ofNat, BitVec.toNat_ofNat, Nat.mod_eq_of_lt (show k < 2 ^ 64 by omega), Nat.shiftLeft_eq, Nat.mul_mod, Nat.mod_mod, ← Nat.mul_mod]
theorem wb_and {a b : Nat} (ha : a < 2 ^ 64) (hb : b < 2 ^ 64) : lN a &&& lN b = lN (a &&& b) := by
  apply wb_inj
  rw [Int64.toBitVec_and, wb_tb, wb_tb, wb_tb]
  apply BitVec.eq_of_toNat_eq
  rw [BitVec.toNat_and, BitVec.toNat_ofNat, BitVec.toNat_ofNat, BitVec.toNat_ofNat, Nat.mod_eq_of_lt ha, Nat.mod_eq_of_lt hb, Nat.mod_eq_of_lt (Nat.and_lt_two_pow _ hb)]
theorem wb_or {a b : Nat} (ha : a < 2 ^ 64) (hb : b < 2 ^ 64) : lN a ||| lN b = lN (a ||| b) := by
  apply wb_inj
  rw [Int64.toBitVec_or, wb_tb, wb_tb, wb_tb]
  apply BitVec.eq_of_toNat_eq
  rw [BitVec.toNat_or, BitVec.toNat_ofNat, BitVec.toNat_ofNat, BitVec.toNat_ofNat, Nat.mod_eq_of_lt ha, Nat.mod_eq_of_lt hb, Nat.mod_eq_of_lt (Nat.or_lt_two_pow ha hb)]
theorem wb_mask {n k : Nat} (hn : n < 2 ^ 64) (hk : k < 64) : lN n &&& lN (2 ^ k - 1) = lN (n % 2 ^ k) := by
  rw [wb_and hn (by have := wb_lt2 hk; omega), Nat.and_two_pow_sub_one_eq_mod]
theorem wb_a1 {n : Nat} (hn : n < 2 ^ 64) : lN n &&& 1 = lN (n % 2) := wb_mask (k := 1) hn (by decide)
theorem wb_bit {n k : Nat} (hn : n < 2 ^ 64) (hk : k < 64) : ((lN n).toUInt64 >>> ((nI k).toInt64.toUInt64 &&& Int64.toUInt64 63)).toInt64 &&& 1 = lN (n / 2 ^ k % 2) := by
  rw [wb_shr hn hk, wb_a1 (Nat.lt_of_le_of_lt (Nat.div_le_self _ _) hn)]
theorem iZ_max (a b : Nat) (ha : a < 2 ^ 30) (hb : b < 2 ^ 30) : (if nI a < nI b then nI b else nI a) = nI (max a b) := by
  by_cases h : a < b
  · rw [if_pos ((nI_ltI (by omega) (by omega)).mpr h), Nat.max_eq_right (by omega)]
  · rw [if_neg (fun q => h ((nI_ltI (by omega) (by omega)).mp q)), Nat.max_eq_left (by omega)]
theorem iZ_min (a b : Nat) (ha : a < 2 ^ 30) (hb : b < 2 ^ 30) : (if nI b < nI a then nI b else nI a) = nI (min a b) := by
  by_cases h : b < a
  · rw [if_pos ((nI_ltI (by omega) (by omega)).mpr h), Nat.min_eq_right (by omega)]
  · rw [if_neg (fun q => h ((nI_ltI (by omega) (by omega)).mp q)), Nat.min_eq_left (by omega)]
theorem iZ_minc {z : Int} (k : Nat) (h0 : 0 ≤ z) (h1 : z < 2 ^ 30) (hk : k < 2 ^ 30) : (if nI k < iZ z then nI k else iZ z) = nI (min z.toNat k) := by
  obtain ⟨a, rfl⟩ : ∃ a : Nat, z = a := ⟨z.toNat, by omega⟩
  rw [← iZ_N]
  exact iZ_min a k (by omega) hk
theorem iZ_pred (k : Nat) : nI k - 1 = iZ ((k : Int) - 1) := by
  rw [iZ_N]
  exact iZ_sub _ 1
theorem iZ_succ' (i : Nat) : iZ (((i + 1 : Nat) : Int) - 1) = nI i := by
  rw [iZ_N]
  congr 1
  omega
theorem bn_chunk (V b K : Nat) (z : Int) (h : 0 < z) : V * b ^ (min z.toNat K) * b ^ ((z + -(K : Int)).toNat) = V * b ^ z.toNat := by
  rw [Nat.mul_assoc, ← Nat.pow_add]
  congr 2
  rcases Nat.le_total z.toNat K with q | q
  · rw [Nat.min_eq_left q]; omega
  · rw [Nat.min_eq_right q]; omega
theorem bn_part {V b K : Nat} {z : Int} (hb : 0 < b) : V * b ^ (min z.toNat K) ≤ V * b ^ z.toNat := Nat.mul_le_mul_left _ (Nat.pow_le_pow_right hb (Nat.min_le_left _ _))
theorem lZ_nsub (a b : Nat) : lN a - lN b = lZ ((a : Int) - b) := by
  rw [lZ_N, lZ_N]
  exact lZ_sub _ _
/-- how V and U compare -/
def bn_cmp (V U : Nat) : Int32 := if V < U then -1 else if V = U then 0 else 1
theorem bn_cmp_l {V U : Nat} (h : V < U) : bn_cmp V U = -1 := if_pos h
theorem bn_cmp_e (V : Nat) : bn_cmp V V = 0 := by simp [bn_cmp]
theorem bn_cmp_g {V U : Nat} (h : U < V) : bn_cmp V U = 1 := by
  unfold bn_cmp
  rw [if_neg (by omega), if_neg (by omega)]
theorem bn_f_0 : bn_f 0 = fun _ => (0 : Int64) := by
  funext j
  simp [bn_f, bn_w]
  rfl
theorem bn_shl1 {k : Nat} (hk : k < 64) : (1 : Int64) <<< ((nI k).toInt64 &&& 63) = lN (2 ^ k) := by
  have := wb_shl 1 hk
  rw [Nat.one_mul] at this
  exact this
end
section
set_option maxHeartbeats 4000000 in
set_option maxRecDepth 100000 in
/-- smallPowerOfFive(k): 5 to the k -/
theorem c_Na_smallPowerOfFive (l : Launch) (dC : Nat → ClassId) (dI : Nat → Nat → Nat) (sz : Nat) (k : Nat) (hk : k ≤ 13) : Met l y_Na_smallPowerOfFive (Cond.code y_Na_smallPowerOfFive b_Na_smallPowerOfFive 4 (some .long) :: gT) ({ frames := 0, cells := 0, slots := 0, locals := 0 }) (va_Pc [.int (nI k)] (pw_P (dC, dI) cls [] pw_0 [] sz)) (va_Ql (fun (r : Int64) (uu : Unit) => r = lN (5 ^ k)) (fun (uu : Unit) => pw_B (dC, dI) cls [] (va_A [] sz) []) (va_A [] sz)) 0 0 (va_A [] sz) := by
  refine pw_metl (tn := fun (uu : Unit) => []) (wn := fun (uu : Unit) => []) (by decide) (Nat.le_of_ble_eq_true rfl) ?_
  intro p e s m args below meth c A Q H ls hx hb hml hown hts hA hE hP hK hD hS hret hl
  have hown : s.vm.findClass R_Na = some m.cls := hown
  have hl : lv_has ls 4 [(0, .int (nI k))] := hl
  refine lv_lconst (v := 1) hx hb d_Na_smallPowerOfFive_0 (by decide) ?_
  refine lv_lstore_n (lv' := [(1, .long 1), (0, .int (nI k))]) hx hb d_Na_smallPowerOfFive_1 rfl hl (by decide) rfl (fun ls hl => ?_)
  refine lv_iconst (v := 0) hx hb d_Na_smallPowerOfFive_2 (by decide) ?_
  refine lv_istore_n (lv' := [(3, .int 0), (1, .long 1), (0, .int (nI k))]) hx hb d_Na_smallPowerOfFive_3 rfl hl (by decide) rfl (fun ls hl => ?_)
  have lp : ∀ (n i : Nat) (H : Heap) (locs : List Loc) (ls : Array Slot), i ≤ k → k + 1 ≤ i + n → va_P (dC, dI) cls [] H → va_D A [] → va_S A s.heap H locs → lv_has ls 4 [(3, .int (nI i)), (1, .long (lN (5 ^ i))), (0, .int (nI k))] → W p l e { frames := 0, cells := 0, slots := 0, locals := 0 } s m args below meth c H locs 0 0 Q (F0 m 4 ls []) := by
    intro n
    induction n with
    | zero => intro i H locs ls h1 h2; exact absurd h2 (by omega)
    | succ n ih =>
      intro i H locs ls hi hn hP hD hS hl
      refine lv_iload_n hx hb d_Na_smallPowerOfFive_4 rfl (lv_at hl 0 rfl) ?_
      refine lv_iload_n hx hb d_Na_smallPowerOfFive_5 rfl (lv_at hl 2 rfl) ?_
      refine lv_icmp_ge (tgt := 21) hx hb d_Na_smallPowerOfFive_6 (by decide) (fun hc => ?_) (fun hc => ?_)
      · obtain rfl : i = k := by have := (nI_leI (by omega) (by omega)).mp hc; omega
        refine lv_lload_n hx hb d_Na_smallPowerOfFive_21 rfl (lv_at hl 1 rfl) ?_
        exact hret _ _ _ _ _ () d_Na_smallPowerOfFive_22 rfl hP hK hD hS
      · have hlt : i < k := by have := mt (nI_leI (a := k) (b := i) (by omega) (by omega)).mpr hc; omega
        refine lv_lload_n hx hb d_Na_smallPowerOfFive_9 rfl (lv_at hl 1 rfl) ?_
        refine lv_ldc2 (v := 5) hx hb hown (hts _ kl_Na_33) d_Na_smallPowerOfFive_10 ?_
        refine lv_lmul hx hb d_Na_smallPowerOfFive_13 ?_
        refine lv_topl (fun x_1 e_2 => ?_)
        obtain rfl : x_1 = lN (5 ^ (i + 1)) := e_2.trans (lN_mul (5 ^ i) 5)
        refine lv_lstore_n (lv' := [(1, .long (lN (5 ^ (i + 1)))), (3, .int (nI i)), (0, .int (nI k))]) hx hb d_Na_smallPowerOfFive_14 rfl hl (by decide) rfl (fun ls hl => ?_)
        refine lv_iinc (v := nI (i + 1)) (lv' := [(3, .int (nI (i + 1))), (1, .long (lN (5 ^ (i + 1)))), (0, .int (nI k))]) hx hb d_Na_smallPowerOfFive_15 hl (k := 1) rfl (nI_1 i) (by decide) rfl (fun ls hl => ?_)
        refine lv_goto (tgt := 4) hx hb d_Na_smallPowerOfFive_18 (by decide) ?_
        exact ih (i + 1) H locs ls (by omega) (by omega) hP hD hS (lv_sub hl [0, 1, 2] rfl)
  exact lp (k + 1) 0 H [] ls (Nat.zero_le _) (by omega) hP hD hS (lv_sub hl [0, 1, 2] rfl)
set_option maxHeartbeats 4000000 in
set_option maxRecDepth 100000 in
/-- become(V) -/
theorem c_Na_become (l : Launch) (dC : Nat → ClassId) (dI : Nat → Nat → Nat) (sz : Nat) (h w : Nat) (cJ : ClassId) (ux : Int32) (Y V : Nat) (hY : Y < 2 ^ (32 * 26)) (hV : V < 2 ^ 63) : Met l y_Na_become (Cond.code y_Na_become b_Na_become 6 none :: gT) ({ frames := 0, cells := 0, slots := 0, locals := 0 }) (va_Pc [.ref h, .long (lN V)] (pw_P (dC, dI) cls [(cJ, .long)] pw_0 [(h, .inr (2, [.ref w, .int ux])), (w, .inl (cJ, 26, .inr (.inl (bn_f Y))))] sz)) (va_Qv (fun (uu : Unit) => True) (fun (uu : Unit) => pw_B (dC, dI) cls [(cJ, .long)] (va_A [(h, .inr (2, [.ref w, .int ux])), (w, .inl (cJ, 26, .inr (.inl (bn_f Y))))] sz) [(h, .inr (2, [.ref w, .int (nI 2)])), (w, .inl (cJ, 26, .inr (.inl (bn_f V))))]) (va_A [(h, .inr (2, [.ref w, .int ux])), (w, .inl (cJ, 26, .inr (.inl (bn_f Y))))] sz)) 0 0 (va_A [(h, .inr (2, [.ref w, .int ux])), (w, .inl (cJ, 26, .inr (.inl (bn_f Y))))] sz) := by
  refine pw_metv (tn := fun (uu : Unit) => [(cJ, .long)]) (wn := fun (uu : Unit) => [(h, .inr (2, [.ref w, .int (nI 2)])), (w, .inl (cJ, 26, .inr (.inl (bn_f V))))]) (by decide) (Nat.le_of_ble_eq_true rfl) ?_
  intro p e s m args below meth c A Q H ls hx hb hml hown hts hnm hA hE hP hK hD hS hret hl
  have hown : s.vm.findClass R_Na = some m.cls := hown
  have hl : lv_has ls 6 [(0, .ref h), (1, .long (lN V))] := hl
  refine lv_lload_n hx hb d_Na_become_0 rfl (lv_at hl 1 rfl) ?_
  refine lv_lstore_n (lv' := [(3, .long (lN V)), (0, .ref h), (1, .long (lN V))]) hx hb d_Na_become_1 rfl hl (by decide) rfl (fun ls hl => ?_)
  refine lv_iconst (v := 0) hx hb d_Na_become_2 (by decide) ?_
  refine lv_istore (lv' := [(5, .int 0), (3, .long (lN V)), (0, .ref h), (1, .long (lN V))]) hx hb d_Na_become_3 hl (by decide) rfl (fun ls hl => ?_)
  have lp : ∀ (n i : Nat) (H : Heap) (locs : List Loc) (ls : Array Slot), (i ≤ 26) → (27 ≤ i + n) → va_P (dC, dI) cls [(h, .inr (2, [.ref w, .int ux])), (w, .inl (cJ, 26, .inr (.inl (bn_m V Y i))))] H → va_D A [(h, .inr (2, [.ref w, .int ux])), (w, .inl (cJ, 26, .inr (.inl (bn_m V Y i))))] → va_S A s.heap H locs → lv_has ls 6 [(5, .int (nI i)), (3, .long (lN (V / 2 ^ (32 * i)))), (0, .ref h), (1, .long (lN V))] → W p l e { frames := 0, cells := 0, slots := 0, locals := 0 } s m args below meth c H locs 0 0 Q (F0 m 5 ls []) := by
    intro n
    induction n with
    | zero => intro i H locs ls hi hn hP hD hS hl; exact absurd hn (by omega)
    | succ n ih =>
      intro i H locs ls hi hn hP hD hS hl
      refine lv_iload hx hb d_Na_become_5 (lv_at hl 0 rfl) ?_
      refine lv_aload_n hx hb d_Na_become_7 rfl (lv_at hl 2 rfl) ?_
      refine va_get (D := (dC, dI)) (ci := 2) (v := .ref w) (C := R_Na) (T := F_Na) (N := 2) hx hb hts i_Na hown hK hP 0 rfl rfl 0 (by decide) (hts _ fl_Na_9) (fun _ h9 => h9) rfl d_Na_become_8 ?_
      refine va_alen (v := nI 26) hx hb hK hP 1 0 rfl rfl rfl d_Na_become_11 ?_
      refine lv_icmp_ge (tgt := 38) hx hb d_Na_become_12 (by decide) (fun hc => ?_) (fun hc => ?_)
      · obtain rfl : i = 26 := by have := (nI_leI (a := 26) (b := i) (by omega) (by omega)).mp hc; omega
        refine lv_aload_n hx hb d_Na_become_38 rfl (lv_at hl 2 rfl) ?_
        refine lv_iconst (v := 2) hx hb d_Na_become_39 (by decide) ?_
        refine va_put (D := (dC, dI)) (ci := 2) (v := .int 2) (ty := .int) (C := R_Na) (T := F_Na) (N := 2) hx hb hts i_Na t_Na t_Na_ok n_Na hown hK hP hD hS 0 rfl rfl 1 (by decide) (hts _ fl_Na_13) (fun _ h9 => h9) rfl (by decide +kernel) rfl rfl (Nat.le_of_ble_eq_true rfl) d_Na_become_40 (fun H locs hP hD hS => ?_)
        have hP : va_P (dC, dI) cls [(h, .inr (2, [.ref w, .int 2])), (w, .inl (cJ, 26, .inr (.inl (bn_m V Y 26))))] H := hP
        have hD : va_D A [(h, .inr (2, [.ref w, .int 2])), (w, .inl (cJ, 26, .inr (.inl (bn_m V Y 26))))] := hD
        exact hret _ _ _ _ () d_Na_become_43 trivial (by rw [← bn_m_all (X := V) (Y := Y) (n := 26) (by omega) hY]; exact hP) hK (by rw [← bn_m_all (X := V) (Y := Y) (n := 26) (by omega) hY]; exact hD) hS
      · have hlt : i < 26 := by have := mt (nI_leI (a := 26) (b := i) (by omega) (by omega)).mpr hc; omega
        have hq : V / 2 ^ (32 * i) < 2 ^ 64 := Nat.lt_of_le_of_lt (Nat.div_le_self _ _) (by omega)
        refine lv_aload_n hx hb d_Na_become_15 rfl (lv_at hl 2 rfl) ?_
        refine va_get (D := (dC, dI)) (ci := 2) (v := .ref w) (C := R_Na) (T := F_Na) (N := 2) hx hb hts i_Na hown hK hP 0 rfl rfl 0 (by decide) (hts _ fl_Na_9) (fun _ h9 => h9) rfl d_Na_become_16 ?_
        refine lv_iload hx hb d_Na_become_19 (lv_at hl 0 rfl) ?_
        refine lv_lload_n hx hb d_Na_become_21 rfl (lv_at hl 1 rfl) ?_
        refine lv_ldc2 (v := 4294967295) hx hb hown (hts _ kl_Na_17) d_Na_become_22 ?_
        refine lv_land hx hb d_Na_become_25 ?_
        refine lv_topl (fun x_1 e_2 => ?_)
        obtain rfl : x_1 = lN (bn_w V i) := e_2.trans (lZ_nlo hq)
        refine va_last hx hb hK hP hD hS 1 0 rfl rfl (vp_in_nI hlt (by omega)) d_Na_become_26 (fun H locs hP hD hS => ?_)
        have e_3 : vp_updL (bn_m V Y i) (nI i).toNatClampNeg (lN (bn_w V i)) = bn_m V Y (i + 1) := by rw [nI_clamp (by omega)]; exact bn_m_up V Y i
        have hP : va_P (dC, dI) cls [(h, .inr (2, [.ref w, .int ux])), (w, .inl (cJ, 26, .inr (.inl (bn_m V Y (i + 1)))))] H := by rw [← e_3]; exact hP
        have hD : va_D A [(h, .inr (2, [.ref w, .int ux])), (w, .inl (cJ, 26, .inr (.inl (bn_m V Y (i + 1)))))] := by rw [← e_3]; exact hD
        refine lv_lload_n hx hb d_Na_become_27 rfl (lv_at hl 1 rfl) ?_
        refine lv_bipush (v := 32) hx hb d_Na_become_28 (by decide) ?_
        refine lv_lushr (v := lN (V / 2 ^ (32 * (i + 1)))) hx hb d_Na_become_30 (by rw [lZ_nhi hq, Nat.div_div_eq_div_mul, bn_pow]) ?_
        refine lv_lstore_n (lv' := [(3, .long (lN (V / 2 ^ (32 * (i + 1))))), (5, .int (nI i)), (0, .ref h), (1, .long (lN V))]) hx hb d_Na_become_31 rfl hl (by decide) rfl (fun ls hl => ?_)
        refine lv_iinc (v := nI (i + 1)) (lv' := [(5, .int (nI (i + 1))), (3, .long (lN (V / 2 ^ (32 * (i + 1))))), (0, .ref h), (1, .long (lN V))]) hx hb d_Na_become_32 hl (k := 1) rfl (nI_1 i) (by decide) rfl (fun ls hl => ?_)
        refine lv_goto (tgt := 5) hx hb d_Na_become_35 (by decide) ?_
        exact ih (i + 1) H locs ls (by omega) (by omega) hP hD hS (lv_sub hl [0, 1, 2, 3] rfl)
  have e0 : V / 2 ^ (32 * 0) = V := by simp
  exact lp 27 0 H [] ls (by omega) (by omega) (by rw [bn_m_0]; exact hP) (by rw [bn_m_0]; exact hD) hS (by rw [e0]; exact lv_sub hl [0, 1, 2, 3] rfl)
set_option maxHeartbeats 4000000 in
set_option maxRecDepth 100000 in
/-- times(F) -/
theorem c_Na_times (l : Launch) (dC : Nat → ClassId) (dI : Nat → Nat → Nat) (sz : Nat) (h w : Nat) (cJ : ClassId) (V u F : Nat) (hV : V < 2 ^ (32 * u)) (hu : u ≤ 26) (hF : 0 < F) (hF2 : F ≤ 2 ^ 31) (hB : V * F < 2 ^ (32 * 26)) : Met l y_Na_times (Cond.code y_Na_times b_Na_times 8 none :: gT) ({ frames := 0, cells := 0, slots := 0, locals := 0 }) (va_Pc [.ref h, .long (lN F)] (pw_P (dC, dI) cls [(cJ, .long)] pw_0 [(h, .inr (2, [.ref w, .int (nI u)])), (w, .inl (cJ, 26, .inr (.inl (bn_f V))))] sz)) (va_Qv (fun (u' : Nat) => u' ≤ 26 ∧ V * F < 2 ^ (32 * u')) (fun (u' : Nat) => pw_B (dC, dI) cls [(cJ, .long)] (va_A [(h, .inr (2, [.ref w, .int (nI u)])), (w, .inl (cJ, 26, .inr (.inl (bn_f V))))] sz) [(h, .inr (2, [.ref w, .int (nI u')])), (w, .inl (cJ, 26, .inr (.inl (bn_f (V * F)))))]) (va_A [(h, .inr (2, [.ref w, .int (nI u)])), (w, .inl (cJ, 26, .inr (.inl (bn_f V))))] sz)) 0 0 (va_A [(h, .inr (2, [.ref w, .int (nI u)])), (w, .inl (cJ, 26, .inr (.inl (bn_f V))))] sz) := by
  refine pw_metv (tn := fun (u' : Nat) => [(cJ, .long)]) (wn := fun (u' : Nat) => [(h, .inr (2, [.ref w, .int (nI u')])), (w, .inl (cJ, 26, .inr (.inl (bn_f (V * F)))))]) (by decide) (Nat.le_of_ble_eq_true rfl) ?_
  intro p e s m args below meth c A Q H ls hx hb hml hown hts hnm hA hE hP hK hD hS hret hl
  have hown : s.vm.findClass R_Na = some m.cls := hown
  have hl : lv_has ls 8 [(0, .ref h), (1, .long (lN F))] := hl
  refine lv_lconst (v := 0) hx hb d_Na_times_0 (by decide) ?_
  refine lv_lstore_n (lv' := [(3, .long 0), (0, .ref h), (1, .long (lN F))]) hx hb d_Na_times_1 rfl hl (by decide) rfl (fun ls hl => ?_)
  refine lv_iconst (v := 0) hx hb d_Na_times_2 (by decide) ?_
  refine lv_istore (lv' := [(5, .int 0), (3, .long 0), (0, .ref h), (1, .long (lN F))]) hx hb d_Na_times_3 hl (by decide) rfl (fun ls hl => ?_)
  have lp : ∀ (n i : Nat) (H : Heap) (locs : List Loc) (ls : Array Slot), (i ≤ u) → (u + 1 ≤ i + n) → va_P (dC, dI) cls [(h, .inr (2, [.ref w, .int (nI u)])), (w, .inl (cJ, 26, .inr (.inl (bn_m (V * F) V i))))] H → va_D A [(h, .inr (2, [.ref w, .int (nI u)])), (w, .inl (cJ, 26, .inr (.inl (bn_m (V * F) V i))))] → va_S A s.heap H locs → lv_has ls 8 [(5, .int (nI i)), (3, .long (lN (bn_c V F i))), (0, .ref h), (1, .long (lN F))] → W p l e { frames := 0, cells := 0, slots := 0, locals := 0 } s m args below meth c H locs 0 0 Q (F0 m 5 ls []) := by
    intro n
    induction n with
    | zero => intro i H locs ls hi hn hP hD hS hl; exact absurd hn (by omega)
    | succ n ih =>
      intro i H locs ls hi hn hP hD hS hl
      refine lv_iload hx hb d_Na_times_5 (lv_at hl 0 rfl) ?_
      refine lv_aload_n hx hb d_Na_times_7 rfl (lv_at hl 2 rfl) ?_
      refine va_get (D := (dC, dI)) (ci := 2) (v := .int (nI u)) (C := R_Na) (T := F_Na) (N := 2) hx hb hts i_Na hown hK hP 0 rfl rfl 1 (by decide) (hts _ fl_Na_13) (fun _ h9 => h9) rfl d_Na_times_8 ?_
      refine lv_icmp_ge (tgt := 62) hx hb d_Na_times_11 (by decide) (fun hc => ?_) (fun hc => ?_)
      · obtain rfl : i = u := by have := (nI_leI (by omega) (by omega)).mp hc; omega
        have hcl := bn_c_lt (V := V) (i := i) hF
        refine lv_lload_n hx hb d_Na_times_62 rfl (lv_at hl 1 rfl) ?_
        refine lv_lconst (v := 0) hx hb d_Na_times_63 (by decide) ?_
        refine lx_eq (tgt := 107) hx hb d_Na_times_64 d_Na_times_65 (by decide) (fun hz => ?_) (fun hz => ?_)
        · have hz0 : bn_c V F i = 0 := (pk_lEQ (a := bn_c V F i) (b := 0) (by omega) (by omega)).mp hz
          have h9 := bn_c_end0 hV hz0
          exact hret _ _ _ _ i d_Na_times_107 ⟨hu, h9⟩ (by rw [← bn_m_all h9 hV]; exact hP) hK (by rw [← bn_m_all h9 hV]; exact hD) hS
        · have hz0 : bn_c V F i ≠ 0 := fun q => hz (by rw [q]; rfl)
          refine lv_aload_n hx hb d_Na_times_68 rfl (lv_at hl 2 rfl) ?_
          refine va_get (D := (dC, dI)) (ci := 2) (v := .int (nI i)) (C := R_Na) (T := F_Na) (N := 2) hx hb hts i_Na hown hK hP 0 rfl rfl 1 (by decide) (hts _ fl_Na_13) (fun _ h9 => h9) rfl d_Na_times_69 ?_
          refine lv_if_lt (tgt := 107) hx hb d_Na_times_72 (by decide) (fun hq => ?_) (fun hq => ?_)
          · exact absurd hq (nI_pos (by omega))
          · refine lv_aload_n hx hb d_Na_times_75 rfl (lv_at hl 2 rfl) ?_
            refine va_get (D := (dC, dI)) (ci := 2) (v := .int (nI i)) (C := R_Na) (T := F_Na) (N := 2) hx hb hts i_Na hown hK hP 0 rfl rfl 1 (by decide) (hts _ fl_Na_13) (fun _ h9 => h9) rfl d_Na_times_76 ?_
            refine lv_aload_n hx hb d_Na_times_79 rfl (lv_at hl 2 rfl) ?_
            refine va_get (D := (dC, dI)) (ci := 2) (v := .ref w) (C := R_Na) (T := F_Na) (N := 2) hx hb hts i_Na hown hK hP 0 rfl rfl 0 (by decide) (hts _ fl_Na_9) (fun _ h9 => h9) rfl d_Na_times_80 ?_
            refine va_alen (v := nI 26) hx hb hK hP 1 0 rfl rfl rfl d_Na_times_83 ?_
            refine lv_icmp_ge (tgt := 107) hx hb d_Na_times_84 (by decide) (fun hq2 => ?_) (fun hq2 => ?_)
            · have h26 : 26 ≤ i := (nI_leI (a := 26) (b := i) (by omega) (by omega)).mp hq2
              obtain rfl : i = 26 := by omega
              exact absurd (by rw [bn_c_end hV]; exact Nat.div_eq_of_lt hB) hz0
            · have hlt : i < 26 := by have := mt (nI_leI (a := 26) (b := i) (by omega) (by omega)).mpr hq2; omega
              have h9 := bn_c_end1 hV hF hF2
              refine lv_aload_n hx hb d_Na_times_87 rfl (lv_at hl 2 rfl) ?_
              refine va_get (D := (dC, dI)) (ci := 2) (v := .ref w) (C := R_Na) (T := F_Na) (N := 2) hx hb hts i_Na hown hK hP 0 rfl rfl 0 (by decide) (hts _ fl_Na_9) (fun _ h9 => h9) rfl d_Na_times_88 ?_
              refine lv_aload_n hx hb d_Na_times_91 rfl (lv_at hl 2 rfl) ?_
              refine va_get (D := (dC, dI)) (ci := 2) (v := .int (nI i)) (C := R_Na) (T := F_Na) (N := 2) hx hb hts i_Na hown hK hP 0 rfl rfl 1 (by decide) (hts _ fl_Na_13) (fun _ h9 => h9) rfl d_Na_times_92 ?_
              refine lv_lload_n hx hb d_Na_times_95 rfl (lv_at hl 1 rfl) ?_
              refine va_last hx hb hK hP hD hS 1 0 rfl rfl (vp_in_nI hlt (by omega)) d_Na_times_96 (fun H locs hP hD hS => ?_)
              have e_1 : vp_updL (bn_m (V * F) V i) (nI i).toNatClampNeg (lN (bn_c V F i)) = bn_m (V * F) V (i + 1) := by rw [nI_clamp (by omega), h9.1]; exact bn_m_up (V * F) V i
              have hP : va_P (dC, dI) cls [(h, .inr (2, [.ref w, .int (nI i)])), (w, .inl (cJ, 26, .inr (.inl (bn_m (V * F) V (i + 1)))))] H := by rw [← e_1]; exact hP
              have hD : va_D A [(h, .inr (2, [.ref w, .int (nI i)])), (w, .inl (cJ, 26, .inr (.inl (bn_m (V * F) V (i + 1)))))] := by rw [← e_1]; exact hD
              refine lv_aload_n hx hb d_Na_times_97 rfl (lv_at hl 2 rfl) ?_
              refine lv_dup hx hb d_Na_times_98 rfl ?_
              refine va_get (D := (dC, dI)) (ci := 2) (v := .int (nI i)) (C := R_Na) (T := F_Na) (N := 2) hx hb hts i_Na hown hK hP 0 rfl rfl 1 (by decide) (hts _ fl_Na_13) (fun _ h9 => h9) rfl d_Na_times_99 ?_
              refine lv_iconst (v := 1) hx hb d_Na_times_102 (by decide) ?_
              refine lv_iadd hx hb d_Na_times_103 ?_
              refine lv_topi (fun x_2 e_3 => ?_)
              obtain rfl : x_2 = nI (i + 1) := e_3.trans (nI_1 i)
              refine va_put (D := (dC, dI)) (ci := 2) (v := .int (nI (i + 1))) (ty := .int) (C := R_Na) (T := F_Na) (N := 2) hx hb hts i_Na t_Na t_Na_ok n_Na hown hK hP hD hS 0 rfl rfl 1 (by decide) (hts _ fl_Na_13) (fun _ h9 => h9) rfl (by decide +kernel) rfl rfl (Nat.le_of_ble_eq_true rfl) d_Na_times_104 (fun H locs hP hD hS => ?_)
              have hP : va_P (dC, dI) cls [(h, .inr (2, [.ref w, .int (nI (i + 1))])), (w, .inl (cJ, 26, .inr (.inl (bn_m (V * F) V (i + 1)))))] H := hP
              have hD : va_D A [(h, .inr (2, [.ref w, .int (nI (i + 1))])), (w, .inl (cJ, 26, .inr (.inl (bn_m (V * F) V (i + 1)))))] := hD
              have hV1 : V < 2 ^ (32 * (i + 1)) := Nat.lt_of_lt_of_le hV (bn_ple (by omega))
              exact hret _ _ _ _ (i + 1) d_Na_times_107 ⟨by omega, h9.2⟩ (by rw [← bn_m_all h9.2 hV1]; exact hP) hK (by rw [← bn_m_all h9.2 hV1]; exact hD) hS
      · have hlt : i < u := by have := mt (nI_leI (a := u) (b := i) (by omega) (by omega)).mpr hc; omega
        refine lv_iload hx hb d_Na_times_14 (lv_at hl 0 rfl) ?_
        refine lv_aload_n hx hb d_Na_times_16 rfl (lv_at hl 2 rfl) ?_
        refine va_get (D := (dC, dI)) (ci := 2) (v := .ref w) (C := R_Na) (T := F_Na) (N := 2) hx hb hts i_Na hown hK hP 0 rfl rfl 0 (by decide) (hts _ fl_Na_9) (fun _ h9 => h9) rfl d_Na_times_17 ?_
        refine va_alen (v := nI 26) hx hb hK hP 1 0 rfl rfl rfl d_Na_times_20 ?_
        refine lv_icmp_ge (tgt := 62) hx hb d_Na_times_21 (by decide) (fun hq => ?_) (fun hq => ?_)
        · exact absurd ((nI_leI (a := 26) (b := i) (by omega) (by omega)).mp hq) (by omega)
        · have hpr := bn_prod_lt (V := V) (i := i) hF hF2
          refine lv_aload_n hx hb d_Na_times_24 rfl (lv_at hl 2 rfl) ?_
          refine va_get (D := (dC, dI)) (ci := 2) (v := .ref w) (C := R_Na) (T := F_Na) (N := 2) hx hb hts i_Na hown hK hP 0 rfl rfl 0 (by decide) (hts _ fl_Na_9) (fun _ h9 => h9) rfl d_Na_times_25 ?_
          refine lv_iload hx hb d_Na_times_28 (lv_at hl 0 rfl) ?_
          refine va_lald hx hb hK hP 1 0 rfl rfl (vp_in_nI (by omega) (by omega)) d_Na_times_30 ?_
          refine lv_topl (fun x_4 e_5 => ?_)
          obtain rfl : x_4 = lN (bn_w V i) := e_5.trans (by rw [nI_clamp (by omega)]; exact bn_m_at (V * F) V i)
          refine lv_lload_n hx hb d_Na_times_31 rfl (lv_at hl 3 rfl) ?_
          refine lv_lmul hx hb d_Na_times_32 ?_
          refine lv_topl (fun x_6 e_7 => ?_)
          obtain rfl : x_6 = lN (bn_w V i * F) := e_7.trans (lN_mul _ _)
          refine lv_lload_n hx hb d_Na_times_33 rfl (lv_at hl 1 rfl) ?_
          refine lv_ladd hx hb d_Na_times_34 ?_
          refine lv_topl (fun x_8 e_9 => ?_)
          obtain rfl : x_8 = lN (bn_w V i * F + bn_c V F i) := e_9.trans (lN_add _ _)
          refine lv_lstore (lv' := [(6, .long (lN (bn_w V i * F + bn_c V F i))), (5, .int (nI i)), (3, .long (lN (bn_c V F i))), (0, .ref h), (1, .long (lN F))]) hx hb d_Na_times_35 hl (by decide) rfl (fun ls hl => ?_)
          refine lv_aload_n hx hb d_Na_times_37 rfl (lv_at hl 3 rfl) ?_
          refine va_get (D := (dC, dI)) (ci := 2) (v := .ref w) (C := R_Na) (T := F_Na) (N := 2) hx hb hts i_Na hown hK hP 0 rfl rfl 0 (by decide) (hts _ fl_Na_9) (fun _ h9 => h9) rfl d_Na_times_38 ?_
          refine lv_iload hx hb d_Na_times_41 (lv_at hl 1 rfl) ?_
          refine lv_lload hx hb d_Na_times_43 (lv_at hl 0 rfl) ?_
          refine lv_ldc2 (v := 4294967295) hx hb hown (hts _ kl_Na_17) d_Na_times_45 ?_
          refine lv_land hx hb d_Na_times_48 ?_
          refine lv_topl (fun x_10 e_11 => ?_)
          obtain rfl : x_10 = lN (bn_w (V * F) i) := e_11.trans ((lZ_nlo (by omega)).trans (by rw [bn_t_lo]))
          refine va_last hx hb hK hP hD hS 1 0 rfl rfl (vp_in_nI (by omega) (by omega)) d_Na_times_49 (fun H locs hP hD hS => ?_)
          have e_12 : vp_updL (bn_m (V * F) V i) (nI i).toNatClampNeg (lN (bn_w (V * F) i)) = bn_m (V * F) V (i + 1) := by rw [nI_clamp (by omega)]; exact bn_m_up (V * F) V i
          have hP : va_P (dC, dI) cls [(h, .inr (2, [.ref w, .int (nI u)])), (w, .inl (cJ, 26, .inr (.inl (bn_m (V * F) V (i + 1)))))] H := by rw [← e_12]; exact hP
          have hD : va_D A [(h, .inr (2, [.ref w, .int (nI u)])), (w, .inl (cJ, 26, .inr (.inl (bn_m (V * F) V (i + 1)))))] := by rw [← e_12]; exact hD
          refine lv_lload hx hb d_Na_times_50 (lv_at hl 0 rfl) ?_
          refine lv_bipush (v := 32) hx hb d_Na_times_52 (by decide) ?_
          refine lv_lushr (v := lN (bn_c V F (i + 1))) hx hb d_Na_times_54 ((lZ_nhi (by omega)).trans (by rw [bn_t_hi])) ?_
          refine lv_lstore_n (lv' := [(3, .long (lN (bn_c V F (i + 1)))), (6, .long (lN (bn_w V i * F + bn_c V F i))), (5, .int (nI i)), (0, .ref h), (1, .long (lN F))]) hx hb d_Na_times_55 rfl hl (by decide) rfl (fun ls hl => ?_)
          refine lv_iinc (v := nI (i + 1)) (lv' := [(5, .int (nI (i + 1))), (3, .long (lN (bn_c V F (i + 1)))), (6, .long (lN (bn_w V i * F + bn_c V F i))), (0, .ref h), (1, .long (lN F))]) hx hb d_Na_times_56 hl (k := 2) rfl (nI_1 i) (by decide) rfl (fun ls hl => ?_)
          refine lv_goto (tgt := 5) hx hb d_Na_times_59 (by decide) ?_
          exact ih (i + 1) H locs ls (by omega) (by omega) hP hD hS (lv_sub hl [0, 1, 3, 4] rfl)
  exact lp (u + 1) 0 H [] ls (by omega) (by omega) (by rw [bn_m_0]; exact hP) (by rw [bn_m_0]; exact hD) hS (by rw [bn_c_0]; exact lv_sub hl [0, 1, 2, 3] rfl)
end
section
set_option maxHeartbeats 4000000 in
set_option maxRecDepth 100000 in
/-- timesFives(z): times 5 to the z; nothing for z below 1 -/
theorem c_Na_timesFives (l : Launch) (dC : Nat → ClassId) (dI : Nat → Nat → Nat) (sz : Nat) (h w : Nat) (cJ : ClassId) (V u : Nat) (z : Int) (hV : V < 2 ^ (32 * u)) (hu : u ≤ 26) (hz1 : -2 ^ 29 < z) (hz2 : z < 2 ^ 29) (hB : V * 5 ^ z.toNat < 2 ^ (32 * 26)) : Met l y_Na_timesFives (Cond.code y_Na_timesFives b_Na_timesFives 3 none :: gT) ({ frames := 1, cells := 0, slots := 0, locals := 27 }) (va_Pc [.ref h, .int (iZ z)] (pw_P (dC, dI) cls [(cJ, .long)] pw_0 [(h, .inr (2, [.ref w, .int (nI u)])), (w, .inl (cJ, 26, .inr (.inl (bn_f V))))] sz)) (va_Qv (fun (u' : Nat) => u' ≤ 26 ∧ V * 5 ^ z.toNat < 2 ^ (32 * u')) (fun (u' : Nat) => pw_B (dC, dI) cls [(cJ, .long)] (va_A [(h, .inr (2, [.ref w, .int (nI u)])), (w, .inl (cJ, 26, .inr (.inl (bn_f V))))] sz) [(h, .inr (2, [.ref w, .int (nI u')])), (w, .inl (cJ, 26, .inr (.inl (bn_f (V * 5 ^ z.toNat)))))]) (va_A [(h, .inr (2, [.ref w, .int (nI u)])), (w, .inl (cJ, 26, .inr (.inl (bn_f V))))] sz)) 0 0 (va_A [(h, .inr (2, [.ref w, .int (nI u)])), (w, .inl (cJ, 26, .inr (.inl (bn_f V))))] sz) := by
  refine pw_metv (tn := fun (u' : Nat) => [(cJ, .long)]) (wn := fun (u' : Nat) => [(h, .inr (2, [.ref w, .int (nI u')])), (w, .inl (cJ, 26, .inr (.inl (bn_f (V * 5 ^ z.toNat)))))]) (by decide) (Nat.le_of_ble_eq_true rfl) ?_
  intro p e s m args below meth c A Q H ls hx hb hml hown hts hnm hA hE hP hK hD hS hret hl
  have hown : s.vm.findClass R_Na = some m.cls := hown
  have hl : lv_has ls 3 [(0, .ref h), (1, .int (iZ z))] := hl
  refine lv_iload_n hx hb d_Na_timesFives_0 rfl (lv_at hl 1 rfl) ?_
  refine lv_istore_n (lv' := [(2, .int (iZ z)), (0, .ref h), (1, .int (iZ z))]) hx hb d_Na_timesFives_1 rfl hl (by decide) rfl (fun ls hl => ?_)
  have lp : ∀ (n : Nat) (y : Int) (X v : Nat) (H : Heap) (locs : List Loc) (ls : Array Slot), (y.toNat < n) → (-2 ^ 30 < y) → (y < 2 ^ 29) → (X < 2 ^ (32 * v)) → (v ≤ 26) → (X * 5 ^ y.toNat = V * 5 ^ z.toNat) → va_P (dC, dI) cls [(h, .inr (2, [.ref w, .int (nI v)])), (w, .inl (cJ, 26, .inr (.inl (bn_f X))))] H → va_D A [(h, .inr (2, [.ref w, .int (nI v)])), (w, .inl (cJ, 26, .inr (.inl (bn_f X))))] → va_S A s.heap H locs → lv_has ls 3 [(2, .int (iZ y)), (0, .ref h), (1, .int (iZ z))] → W p l e { frames := 1, cells := 0, slots := 0, locals := 27 } s m args below meth c H locs 0 0 Q (F0 m 2 ls []) := by
    intro n
    induction n with
    | zero => intro y X v H locs ls hn hy1 hy2 hX hv he hP hD hS hl; exact absurd hn (by omega)
    | succ n ih =>
      intro y X v H locs ls hn hy1 hy2 hX hv he hP hD hS hl
      refine lv_iload_n hx hb d_Na_timesFives_2 rfl (lv_at hl 0 rfl) ?_
      refine lv_if_le (tgt := 25) hx hb d_Na_timesFives_3 (by decide) (fun hc => ?_) (fun hc => ?_)
      · have hle : y ≤ 0 := (iZ_le (a := y) (b := 0) (by omega) (by omega) (by omega) (by omega)).mp hc
        have hX2 : X = V * 5 ^ z.toNat := by rw [← he, show y.toNat = 0 from by omega, Nat.pow_zero, Nat.mul_one]
        exact hret _ _ _ _ v d_Na_timesFives_25 ⟨hv, by rw [← hX2]; exact hX⟩ (by rw [← hX2]; exact hP) hK (by rw [← hX2]; exact hD) hS
      · have hgt : 0 < y := by have := mt (iZ_le (a := y) (b := 0) (by omega) (by omega) (by omega) (by omega)).mpr hc; omega
        have hpt := bn_part (V := X) (b := 5) (K := 13) (z := y) (by decide)
        have hk : min y.toNat 13 ≤ 13 := Nat.min_le_right _ _
        refine lv_aload_n hx hb d_Na_timesFives_6 rfl (lv_at hl 1 rfl) ?_
        refine lv_iload_n hx hb d_Na_timesFives_7 rfl (lv_at hl 0 rfl) ?_
        refine lv_bipush (v := 13) hx hb d_Na_timesFives_8 (by decide) ?_
        refine va_mmin hx hb (hml.trans hl.1.symm) hown (hts _ ml_Na_19) (hts _ sta_Ma_min) (hts _ ini_Ma) (hts _ cod_Ma_min) (Nat.le_of_ble_eq_true rfl) (Nat.le_of_ble_eq_true rfl) (Nat.zero_le _) (Nat.zero_le _) d_Na_timesFives_10 ?_
        refine lv_topi (fun x_1 e_2 => ?_)
        obtain rfl : x_1 = nI (min y.toNat 13) := e_2.trans (iZ_minc 13 (by omega) (by omega) (by omega))
        refine pw_calll (wc := []) (wr := [(h, .inr (2, [.ref w, .int (nI v)])), (w, .inl (cJ, 26, .inr (.inl (bn_f X))))]) [] [0, 1] rfl rfl rfl (by decide) (by decide) (by decide) hP hD hS hA (fun hPc hDc hF => va_runS (As := [.int (nI (min y.toNat 13))]) (rest := [.ref h]) ⟨hx, hb, hml, hown, hts⟩ (c_Na_smallPowerOfFive l dC dI H.size (min y.toNat 13) hk) (va_cwS 1 hts (gw_S (gw_self cod_Na_smallPowerOfFive) ml_Na_25 sta_Na_smallPowerOfFive ini_Na) rfl rfl rfl (by decide +kernel) ⟨Nat.le_of_ble_eq_true rfl, Nat.le_of_ble_eq_true rfl⟩) (pw_preS pw_0_ok (trivial : pw_0 A s s.heap) hS hF hPc hDc (hK.sub [] rfl)) rfl rfl hl.1 rfl (lv_room (Nat.le_of_ble_eq_true rfl)) d_Na_timesFives_13 ⟨Nat.le_of_ble_eq_true rfl, Nat.le_of_ble_eq_true rfl⟩) (fun r5 u5 H locs hw5 hK1 hP hD hS => ?_)
        have hP : va_P (dC, dI) cls [(h, .inr (2, [.ref w, .int (nI v)])), (w, .inl (cJ, 26, .inr (.inl (bn_f X))))] H := hP
        have hD : va_D A [(h, .inr (2, [.ref w, .int (nI v)])), (w, .inl (cJ, 26, .inr (.inl (bn_f X))))] := hD
        subst hw5
        have hF2 : 5 ^ min y.toNat 13 ≤ 2 ^ 31 := Nat.le_trans (Nat.pow_le_pow_right (by decide) hk) (by decide)
        refine pw_callv (wc := [(h, .inr (2, [.ref w, .int (nI v)])), (w, .inl (cJ, 26, .inr (.inl (bn_f X))))]) (wr := []) [0, 1] [] rfl rfl rfl (by decide) (by decide) (by decide) hP hD hS hA (fun hPc hDc hF => va_runV (As := [.long (lN (5 ^ min y.toNat 13))]) (rest := []) ⟨hx, hb, hml, hown, hts⟩ (c_Na_times l dC dI H.size h w cJ X v (5 ^ min y.toNat 13) hX hv (Nat.pow_pos (by decide)) hF2 (by omega)) (cwV 1 hts (gw_V (gw_self cod_Na_times) ml_Na_29 im_Na_times sel_Na_times ini_Na) rfl rfl rfl (by decide +kernel) ⟨Nat.le_of_ble_eq_true rfl, Nat.le_of_ble_eq_true rfl⟩) (pw_preV pw_0_ok (trivial : pw_0 A s s.heap) hS hF hPc hDc (hK.sub [0] rfl) (va_recv hK hPc (ci := 2) (q0 := 0) rfl rfl)) rfl rfl hl.1 rfl (lv_room (Nat.le_of_ble_eq_true rfl)) d_Na_timesFives_16 ⟨Nat.le_of_ble_eq_true rfl, Nat.le_of_ble_eq_true rfl⟩) (fun v2 H locs hw2 hK1 hP hD hS => ?_)
        have hP : va_P (dC, dI) cls [(h, .inr (2, [.ref w, .int (nI v2)])), (w, .inl (cJ, 26, .inr (.inl (bn_f (X * 5 ^ min y.toNat 13)))))] H := hP
        have hD : va_D A [(h, .inr (2, [.ref w, .int (nI v2)])), (w, .inl (cJ, 26, .inr (.inl (bn_f (X * 5 ^ min y.toNat 13)))))] := hD
        refine lv_iinc (v := iZ (y + -13)) (lv' := [(2, .int (iZ (y + -13))), (0, .ref h), (1, .int (iZ z))]) hx hb d_Na_timesFives_19 hl (k := 0) rfl (iZ_add y (-13)) (by decide) rfl (fun ls hl => ?_)
        refine lv_goto (tgt := 2) hx hb d_Na_timesFives_22 (by decide) ?_
        exact ih (y + -13) (X * 5 ^ min y.toNat 13) v2 H locs ls (by omega) (by omega) (by omega) hw2.2 hw2.1 (by rw [← he]; exact bn_chunk X 5 13 y hgt) hP hD hS (lv_sub hl [0, 1, 2] rfl)
  exact lp (z.toNat + 1) z V u H [] ls (by omega) (by omega) hz2 hV hu rfl hP hD hS (lv_sub hl [0, 1, 2] rfl)
set_option maxHeartbeats 4000000 in
set_option maxRecDepth 100000 in
/-- timesTwos(z): times 2 to the z; nothing for z below 1 -/
theorem c_Na_timesTwos (l : Launch) (dC : Nat → ClassId) (dI : Nat → Nat → Nat) (sz : Nat) (h w : Nat) (cJ : ClassId) (V u : Nat) (z : Int) (hV : V < 2 ^ (32 * u)) (hu : u ≤ 26) (hz1 : -2 ^ 29 < z) (hz2 : z < 2 ^ 29) (hB : V * 2 ^ z.toNat < 2 ^ (32 * 26)) : Met l y_Na_timesTwos (Cond.code y_Na_timesTwos b_Na_timesTwos 3 none :: gT) ({ frames := 1, cells := 0, slots := 0, locals := 27 }) (va_Pc [.ref h, .int (iZ z)] (pw_P (dC, dI) cls [(cJ, .long)] pw_0 [(h, .inr (2, [.ref w, .int (nI u)])), (w, .inl (cJ, 26, .inr (.inl (bn_f V))))] sz)) (va_Qv (fun (u' : Nat) => u' ≤ 26 ∧ V * 2 ^ z.toNat < 2 ^ (32 * u')) (fun (u' : Nat) => pw_B (dC, dI) cls [(cJ, .long)] (va_A [(h, .inr (2, [.ref w, .int (nI u)])), (w, .inl (cJ, 26, .inr (.inl (bn_f V))))] sz) [(h, .inr (2, [.ref w, .int (nI u')])), (w, .inl (cJ, 26, .inr (.inl (bn_f (V * 2 ^ z.toNat)))))]) (va_A [(h, .inr (2, [.ref w, .int (nI u)])), (w, .inl (cJ, 26, .inr (.inl (bn_f V))))] sz)) 0 0 (va_A [(h, .inr (2, [.ref w, .int (nI u)])), (w, .inl (cJ, 26, .inr (.inl (bn_f V))))] sz) := by
  refine pw_metv (tn := fun (u' : Nat) => [(cJ, .long)]) (wn := fun (u' : Nat) => [(h, .inr (2, [.ref w, .int (nI u')])), (w, .inl (cJ, 26, .inr (.inl (bn_f (V * 2 ^ z.toNat)))))]) (by decide) (Nat.le_of_ble_eq_true rfl) ?_
  intro p e s m args below meth c A Q H ls hx hb hml hown hts hnm hA hE hP hK hD hS hret hl
  have hown : s.vm.findClass R_Na = some m.cls := hown
  have hl : lv_has ls 3 [(0, .ref h), (1, .int (iZ z))] := hl
  refine lv_iload_n hx hb d_Na_timesTwos_0 rfl (lv_at hl 1 rfl) ?_
  refine lv_istore_n (lv' := [(2, .int (iZ z)), (0, .ref h), (1, .int (iZ z))]) hx hb d_Na_timesTwos_1 rfl hl (by decide) rfl (fun ls hl => ?_)
  have lp : ∀ (n : Nat) (y : Int) (X v : Nat) (H : Heap) (locs : List Loc) (ls : Array Slot), (y.toNat < n) → (-2 ^ 30 < y) → (y < 2 ^ 29) → (X < 2 ^ (32 * v)) → (v ≤ 26) → (X * 2 ^ y.toNat = V * 2 ^ z.toNat) → va_P (dC, dI) cls [(h, .inr (2, [.ref w, .int (nI v)])), (w, .inl (cJ, 26, .inr (.inl (bn_f X))))] H → va_D A [(h, .inr (2, [.ref w, .int (nI v)])), (w, .inl (cJ, 26, .inr (.inl (bn_f X))))] → va_S A s.heap H locs → lv_has ls 3 [(2, .int (iZ y)), (0, .ref h), (1, .int (iZ z))] → W p l e { frames := 1, cells := 0, slots := 0, locals := 27 } s m args below meth c H locs 0 0 Q (F0 m 2 ls []) := by
    intro n
    induction n with
    | zero => intro y X v H locs ls hn hy1 hy2 hX hv he hP hD hS hl; exact absurd hn (by omega)
    | succ n ih =>
      intro y X v H locs ls hn hy1 hy2 hX hv he hP hD hS hl
      refine lv_iload_n hx hb d_Na_timesTwos_2 rfl (lv_at hl 0 rfl) ?_
      refine lv_if_le (tgt := 24) hx hb d_Na_timesTwos_3 (by decide) (fun hc => ?_) (fun hc => ?_)
      · have hle : y ≤ 0 := (iZ_le (a := y) (b := 0) (by omega) (by omega) (by omega) (by omega)).mp hc
        have hX2 : X = V * 2 ^ z.toNat := by rw [← he, show y.toNat = 0 from by omega, Nat.pow_zero, Nat.mul_one]
        exact hret _ _ _ _ v d_Na_timesTwos_24 ⟨hv, by rw [← hX2]; exact hX⟩ (by rw [← hX2]; exact hP) hK (by rw [← hX2]; exact hD) hS
      · have hgt : 0 < y := by have := mt (iZ_le (a := y) (b := 0) (by omega) (by omega) (by omega) (by omega)).mpr hc; omega
        have hpt := bn_part (V := X) (b := 2) (K := 31) (z := y) (by decide)
        have hk : min y.toNat 31 ≤ 31 := Nat.min_le_right _ _
        refine lv_aload_n hx hb d_Na_timesTwos_6 rfl (lv_at hl 1 rfl) ?_
        refine lv_lconst (v := 1) hx hb d_Na_timesTwos_7 (by decide) ?_
        refine lv_iload_n hx hb d_Na_timesTwos_8 rfl (lv_at hl 0 rfl) ?_
        refine lv_bipush (v := 31) hx hb d_Na_timesTwos_9 (by decide) ?_
        refine va_mmin hx hb (hml.trans hl.1.symm) hown (hts _ ml_Na_19) (hts _ sta_Ma_min) (hts _ ini_Ma) (hts _ cod_Ma_min) (Nat.le_of_ble_eq_true rfl) (Nat.le_of_ble_eq_true rfl) (Nat.zero_le _) (Nat.zero_le _) d_Na_timesTwos_11 ?_
        refine lv_topi (fun x_1 e_2 => ?_)
        obtain rfl : x_1 = nI (min y.toNat 31) := e_2.trans (iZ_minc 31 (by omega) (by omega) (by omega))
        refine lv_lshl (v := lN (2 ^ min y.toNat 31)) hx hb d_Na_timesTwos_14 (bn_shl1 (by omega)) ?_
        have hF2 : 2 ^ min y.toNat 31 ≤ 2 ^ 31 := Nat.pow_le_pow_right (by decide) hk
        refine pw_callv (wc := [(h, .inr (2, [.ref w, .int (nI v)])), (w, .inl (cJ, 26, .inr (.inl (bn_f X))))]) (wr := []) [0, 1] [] rfl rfl rfl (by decide) (by decide) (by decide) hP hD hS hA (fun hPc hDc hF => va_runV (As := [.long (lN (2 ^ min y.toNat 31))]) (rest := []) ⟨hx, hb, hml, hown, hts⟩ (c_Na_times l dC dI H.size h w cJ X v (2 ^ min y.toNat 31) hX hv (Nat.pow_pos (by decide)) hF2 (by omega)) (cwV 1 hts (gw_V (gw_self cod_Na_times) ml_Na_29 im_Na_times sel_Na_times ini_Na) rfl rfl rfl (by decide +kernel) ⟨Nat.le_of_ble_eq_true rfl, Nat.le_of_ble_eq_true rfl⟩) (pw_preV pw_0_ok (trivial : pw_0 A s s.heap) hS hF hPc hDc (hK.sub [0] rfl) (va_recv hK hPc (ci := 2) (q0 := 0) rfl rfl)) rfl rfl hl.1 rfl (lv_room (Nat.le_of_ble_eq_true rfl)) d_Na_timesTwos_15 ⟨Nat.le_of_ble_eq_true rfl, Nat.le_of_ble_eq_true rfl⟩) (fun v2 H locs hw2 hK1 hP hD hS => ?_)
        have hP : va_P (dC, dI) cls [(h, .inr (2, [.ref w, .int (nI v2)])), (w, .inl (cJ, 26, .inr (.inl (bn_f (X * 2 ^ min y.toNat 31)))))] H := hP
        have hD : va_D A [(h, .inr (2, [.ref w, .int (nI v2)])), (w, .inl (cJ, 26, .inr (.inl (bn_f (X * 2 ^ min y.toNat 31)))))] := hD
        refine lv_iinc (v := iZ (y + -31)) (lv' := [(2, .int (iZ (y + -31))), (0, .ref h), (1, .int (iZ z))]) hx hb d_Na_timesTwos_18 hl (k := 0) rfl (iZ_add y (-31)) (by decide) rfl (fun ls hl => ?_)
        refine lv_goto (tgt := 2) hx hb d_Na_timesTwos_21 (by decide) ?_
        exact ih (y + -31) (X * 2 ^ min y.toNat 31) v2 H locs ls (by omega) (by omega) (by omega) hw2.2 hw2.1 (by rw [← he]; exact bn_chunk X 2 31 y hgt) hP hD hS (lv_sub hl [0, 1, 2] rfl)
  exact lp (z.toNat + 1) z V u H [] ls (by omega) (by omega) hz2 hV hu rfl hP hD hS (lv_sub hl [0, 1, 2] rfl)
set_option maxHeartbeats 4000000 in
set_option maxRecDepth 100000 in
/-- subtract -/
theorem c_Na_subtract (l : Launch) (dC : Nat → ClassId) (dI : Nat → Nat → Nat) (sz : Nat) (h w h2 w2 : Nat) (cJ : ClassId) (V u U : Nat) (ux : Int32) (hV : V < 2 ^ (32 * u)) (hu : u ≤ 26) (hUV : U ≤ V) : Met l y_Na_subtract (Cond.code y_Na_subtract b_Na_subtract 7 none :: gT) ({ frames := 0, cells := 0, slots := 0, locals := 0 }) (va_Pc [.ref h, .ref h2] (pw_P (dC, dI) cls [(cJ, .long)] pw_0 [(h, .inr (2, [.ref w, .int (nI u)])), (w, .inl (cJ, 26, .inr (.inl (bn_f V)))), (h2, .inr (2, [.ref w2, .int ux])), (w2, .inl (cJ, 26, .inr (.inl (bn_f U))))] sz)) (va_Qv (fun (uu : Unit) => True) (fun (uu : Unit) => pw_B (dC, dI) cls [(cJ, .long)] (va_A [(h, .inr (2, [.ref w, .int (nI u)])), (w, .inl (cJ, 26, .inr (.inl (bn_f V)))), (h2, .inr (2, [.ref w2, .int ux])), (w2, .inl (cJ, 26, .inr (.inl (bn_f U))))] sz) [(h, .inr (2, [.ref w, .int (nI u)])), (w, .inl (cJ, 26, .inr (.inl (bn_f (V - U))))), (h2, .inr (2, [.ref w2, .int ux])), (w2, .inl (cJ, 26, .inr (.inl (bn_f U))))]) (va_A [(h, .inr (2, [.ref w, .int (nI u)])), (w, .inl (cJ, 26, .inr (.inl (bn_f V)))), (h2, .inr (2, [.ref w2, .int ux])), (w2, .inl (cJ, 26, .inr (.inl (bn_f U))))] sz)) 0 0 (va_A [(h, .inr (2, [.ref w, .int (nI u)])), (w, .inl (cJ, 26, .inr (.inl (bn_f V)))), (h2, .inr (2, [.ref w2, .int ux])), (w2, .inl (cJ, 26, .inr (.inl (bn_f U))))] sz) := by
  refine pw_metv (tn := fun (uu : Unit) => [(cJ, .long)]) (wn := fun (uu : Unit) => [(h, .inr (2, [.ref w, .int (nI u)])), (w, .inl (cJ, 26, .inr (.inl (bn_f (V - U))))), (h2, .inr (2, [.ref w2, .int ux])), (w2, .inl (cJ, 26, .inr (.inl (bn_f U))))]) (by decide) (Nat.le_of_ble_eq_true rfl) ?_
  intro p e s m args below meth c A Q H ls hx hb hml hown hts hnm hA hE hP hK hD hS hret hl
  have hown : s.vm.findClass R_Na = some m.cls := hown
  have hl : lv_has ls 7 [(0, .ref h), (1, .ref h2)] := hl
  refine lv_lconst (v := 0) hx hb d_Na_subtract_0 (by decide) ?_
  refine lv_lstore_n (lv' := [(2, .long 0), (0, .ref h), (1, .ref h2)]) hx hb d_Na_subtract_1 rfl hl (by decide) rfl (fun ls hl => ?_)
  refine lv_iconst (v := 0) hx hb d_Na_subtract_2 (by decide) ?_
  refine lv_istore (lv' := [(4, .int 0), (2, .long 0), (0, .ref h), (1, .ref h2)]) hx hb d_Na_subtract_3 hl (by decide) rfl (fun ls hl => ?_)
  have lp : ∀ (n i : Nat) (H : Heap) (locs : List Loc) (ls : Array Slot), (i ≤ u) → (u + 1 ≤ i + n) → va_P (dC, dI) cls [(h, .inr (2, [.ref w, .int (nI u)])), (w, .inl (cJ, 26, .inr (.inl (bn_m (V - U) V i)))), (h2, .inr (2, [.ref w2, .int ux])), (w2, .inl (cJ, 26, .inr (.inl (bn_f U))))] H → va_D A [(h, .inr (2, [.ref w, .int (nI u)])), (w, .inl (cJ, 26, .inr (.inl (bn_m (V - U) V i)))), (h2, .inr (2, [.ref w2, .int ux])), (w2, .inl (cJ, 26, .inr (.inl (bn_f U))))] → va_S A s.heap H locs → lv_has ls 7 [(4, .int (nI i)), (2, .long (lZ (-(bn_b V U i : Int)))), (0, .ref h), (1, .ref h2)] → W p l e { frames := 0, cells := 0, slots := 0, locals := 0 } s m args below meth c H locs 0 0 Q (F0 m 5 ls []) := by
    intro n
    induction n with
    | zero => intro i H locs ls hi hn hP hD hS hl; exact absurd hn (by omega)
    | succ n ih =>
      intro i H locs ls hi hn hP hD hS hl
      refine lv_iload hx hb d_Na_subtract_5 (lv_at hl 0 rfl) ?_
      refine lv_aload_n hx hb d_Na_subtract_7 rfl (lv_at hl 2 rfl) ?_
      refine va_get (D := (dC, dI)) (ci := 2) (v := .int (nI u)) (C := R_Na) (T := F_Na) (N := 2) hx hb hts i_Na hown hK hP 0 rfl rfl 1 (by decide) (hts _ fl_Na_13) (fun _ h9 => h9) rfl d_Na_subtract_8 ?_
      refine lv_icmp_ge (tgt := 68) hx hb d_Na_subtract_11 (by decide) (fun hc => ?_) (fun hc => ?_)
      · obtain rfl : i = u := by have := (nI_leI (by omega) (by omega)).mp hc; omega
        have h9 : V - U < 2 ^ (32 * i) := Nat.lt_of_le_of_lt (Nat.sub_le _ _) hV
        exact hret _ _ _ _ () d_Na_subtract_68 trivial (by rw [← bn_m_all h9 hV]; exact hP) hK (by rw [← bn_m_all h9 hV]; exact hD) hS
      · have hlt : i < u := by have := mt (nI_leI (a := u) (b := i) (by omega) (by omega)).mpr hc; omega
        refine lv_iload hx hb d_Na_subtract_14 (lv_at hl 0 rfl) ?_
        refine lv_aload_n hx hb d_Na_subtract_16 rfl (lv_at hl 2 rfl) ?_
        refine va_get (D := (dC, dI)) (ci := 2) (v := .ref w) (C := R_Na) (T := F_Na) (N := 2) hx hb hts i_Na hown hK hP 0 rfl rfl 0 (by decide) (hts _ fl_Na_9) (fun _ h9 => h9) rfl d_Na_subtract_17 ?_
        refine va_alen (v := nI 26) hx hb hK hP 1 0 rfl rfl rfl d_Na_subtract_20 ?_
        refine lv_icmp_ge (tgt := 68) hx hb d_Na_subtract_21 (by decide) (fun hq => ?_) (fun hq => ?_)
        · exact absurd ((nI_leI (a := 26) (b := i) (by omega) (by omega)).mp hq) (by omega)
        · have hw1 := bn_w_lt V i
          have hw2 := bn_w_lt U i
          have hb1 := bn_b_le V U i
          refine lv_aload_n hx hb d_Na_subtract_24 rfl (lv_at hl 2 rfl) ?_
          refine va_get (D := (dC, dI)) (ci := 2) (v := .ref w) (C := R_Na) (T := F_Na) (N := 2) hx hb hts i_Na hown hK hP 0 rfl rfl 0 (by decide) (hts _ fl_Na_9) (fun _ h9 => h9) rfl d_Na_subtract_25 ?_
          refine lv_iload hx hb d_Na_subtract_28 (lv_at hl 0 rfl) ?_
          refine va_lald hx hb hK hP 1 0 rfl rfl (vp_in_nI (by omega) (by omega)) d_Na_subtract_30 ?_
          refine lv_topl (fun x_1 e_2 => ?_)
          obtain rfl : x_1 = lN (bn_w V i) := e_2.trans (by rw [nI_clamp (by omega)]; exact bn_m_at (V - U) V i)
          refine lv_aload_n hx hb d_Na_subtract_31 rfl (lv_at hl 3 rfl) ?_
          refine va_get (D := (dC, dI)) (ci := 2) (v := .ref w2) (C := R_Na) (T := F_Na) (N := 2) hx hb hts i_Na hown hK hP 2 rfl rfl 0 (by decide) (hts _ fl_Na_9) (fun _ h9 => h9) rfl d_Na_subtract_32 ?_
          refine lv_iload hx hb d_Na_subtract_35 (lv_at hl 0 rfl) ?_
          refine va_lald hx hb hK hP 3 0 rfl rfl (vp_in_nI (by omega) (by omega)) d_Na_subtract_37 ?_
          refine lv_topl (fun x_3 e_4 => ?_)
          obtain rfl : x_3 = lN (bn_w U i) := e_4.trans (by rw [nI_clamp (by omega)]; rfl)
          refine lv_lsub hx hb d_Na_subtract_38 ?_
          refine lv_topl (fun x_5 e_6 => ?_)
          obtain rfl : x_5 = lZ ((bn_w V i : Int) - bn_w U i) := e_6.trans (lZ_nsub _ _)
          refine lv_lload_n hx hb d_Na_subtract_39 rfl (lv_at hl 1 rfl) ?_
          refine lv_ladd hx hb d_Na_subtract_40 ?_
          refine lv_topl (fun x_7 e_8 => ?_)
          obtain rfl : x_7 = lZ ((bn_w V i : Int) - bn_w U i - bn_b V U i) := e_8.trans (lZ_add _ _)
          refine lv_lstore (lv' := [(5, .long (lZ ((bn_w V i : Int) - bn_w U i - bn_b V U i))), (4, .int (nI i)), (2, .long (lZ (-(bn_b V U i : Int)))), (0, .ref h), (1, .ref h2)]) hx hb d_Na_subtract_41 hl (by decide) rfl (fun ls hl => ?_)
          refine lv_aload_n hx hb d_Na_subtract_43 rfl (lv_at hl 3 rfl) ?_
          refine va_get (D := (dC, dI)) (ci := 2) (v := .ref w) (C := R_Na) (T := F_Na) (N := 2) hx hb hts i_Na hown hK hP 0 rfl rfl 0 (by decide) (hts _ fl_Na_9) (fun _ h9 => h9) rfl d_Na_subtract_44 ?_
          refine lv_iload hx hb d_Na_subtract_47 (lv_at hl 1 rfl) ?_
          refine lv_lload hx hb d_Na_subtract_49 (lv_at hl 0 rfl) ?_
          refine lv_ldc2 (v := 4294967295) hx hb hown (hts _ kl_Na_17) d_Na_subtract_51 ?_
          refine lv_land hx hb d_Na_subtract_54 ?_
          refine lv_topl (fun x_9 e_10 => ?_)
          obtain rfl : x_9 = lN (bn_w (V - U) i) := e_10.trans ((lZ_lo _).trans (by rw [bn_s_lo i hUV]; rfl))
          refine va_last hx hb hK hP hD hS 1 0 rfl rfl (vp_in_nI (by omega) (by omega)) d_Na_subtract_55 (fun H locs hP hD hS => ?_)
          have e_11 : vp_updL (bn_m (V - U) V i) (nI i).toNatClampNeg (lN (bn_w (V - U) i)) = bn_m (V - U) V (i + 1) := by rw [nI_clamp (by omega)]; exact bn_m_up (V - U) V i
          have hP : va_P (dC, dI) cls [(h, .inr (2, [.ref w, .int (nI u)])), (w, .inl (cJ, 26, .inr (.inl (bn_m (V - U) V (i + 1))))), (h2, .inr (2, [.ref w2, .int ux])), (w2, .inl (cJ, 26, .inr (.inl (bn_f U))))] H := by rw [← e_11]; exact hP
          have hD : va_D A [(h, .inr (2, [.ref w, .int (nI u)])), (w, .inl (cJ, 26, .inr (.inl (bn_m (V - U) V (i + 1))))), (h2, .inr (2, [.ref w2, .int ux])), (w2, .inl (cJ, 26, .inr (.inl (bn_f U))))] := by rw [← e_11]; exact hD
          refine lv_lload hx hb d_Na_subtract_56 (lv_at hl 0 rfl) ?_
          refine lv_bipush (v := 32) hx hb d_Na_subtract_58 (by decide) ?_
          refine lv_lshr (v := lZ (-(bn_b V U (i + 1) : Int))) hx hb d_Na_subtract_60 ((lZ_shr (by decide) (by omega) (by omega)).trans (by rw [bn_s_hi])) ?_
          refine lv_lstore_n (lv' := [(2, .long (lZ (-(bn_b V U (i + 1) : Int)))), (5, .long (lZ ((bn_w V i : Int) - bn_w U i - bn_b V U i))), (4, .int (nI i)), (0, .ref h), (1, .ref h2)]) hx hb d_Na_subtract_61 rfl hl (by decide) rfl (fun ls hl => ?_)
          refine lv_iinc (v := nI (i + 1)) (lv' := [(4, .int (nI (i + 1))), (2, .long (lZ (-(bn_b V U (i + 1) : Int)))), (5, .long (lZ ((bn_w V i : Int) - bn_w U i - bn_b V U i))), (0, .ref h), (1, .ref h2)]) hx hb d_Na_subtract_62 hl (k := 2) rfl (nI_1 i) (by decide) rfl (fun ls hl => ?_)
          refine lv_goto (tgt := 5) hx hb d_Na_subtract_65 (by decide) ?_
          exact ih (i + 1) H locs ls (by omega) (by omega) hP hD hS (lv_sub hl [0, 1, 3, 4] rfl)
  exact lp (u + 1) 0 H [] ls (by omega) (by omega) (by rw [bn_m_0]; exact hP) (by rw [bn_m_0]; exact hD) hS (by rw [bn_b_0]; exact lv_sub hl [0, 1, 2, 3] rfl)
end
section
set_option maxHeartbeats 4000000 in
set_option maxRecDepth 100000 in
/-- compareWith -/
theorem c_Na_compareWith (l : Launch) (dC : Nat → ClassId) (dI : Nat → Nat → Nat) (sz : Nat) (h w h2 w2 : Nat) (cJ : ClassId) (V u U v : Nat) (hV : V < 2 ^ (32 * u)) (hu : u ≤ 26) (hU : U < 2 ^ (32 * v)) (hv : v ≤ 26) : Met l y_Na_compareWith (Cond.code y_Na_compareWith b_Na_compareWith 4 (some .int) :: gT) ({ frames := 1, cells := 0, slots := 0, locals := 21 }) (va_Pc [.ref h, .ref h2] (pw_P (dC, dI) cls [(cJ, .long)] pw_0 [(h, .inr (2, [.ref w, .int (nI u)])), (w, .inl (cJ, 26, .inr (.inl (bn_f V)))), (h2, .inr (2, [.ref w2, .int (nI v)])), (w2, .inl (cJ, 26, .inr (.inl (bn_f U))))] sz)) (va_Qi (fun (r : Int32) (uu : Unit) => r = bn_cmp V U) (fun (uu : Unit) => pw_B (dC, dI) cls [(cJ, .long)] (va_A [(h, .inr (2, [.ref w, .int (nI u)])), (w, .inl (cJ, 26, .inr (.inl (bn_f V)))), (h2, .inr (2, [.ref w2, .int (nI v)])), (w2, .inl (cJ, 26, .inr (.inl (bn_f U))))] sz) [(h, .inr (2, [.ref w, .int (nI u)])), (w, .inl (cJ, 26, .inr (.inl (bn_f V)))), (h2, .inr (2, [.ref w2, .int (nI v)])), (w2, .inl (cJ, 26, .inr (.inl (bn_f U))))]) (va_A [(h, .inr (2, [.ref w, .int (nI u)])), (w, .inl (cJ, 26, .inr (.inl (bn_f V)))), (h2, .inr (2, [.ref w2, .int (nI v)])), (w2, .inl (cJ, 26, .inr (.inl (bn_f U))))] sz)) 0 0 (va_A [(h, .inr (2, [.ref w, .int (nI u)])), (w, .inl (cJ, 26, .inr (.inl (bn_f V)))), (h2, .inr (2, [.ref w2, .int (nI v)])), (w2, .inl (cJ, 26, .inr (.inl (bn_f U))))] sz) := by
  refine pw_meti (tn := fun (uu : Unit) => [(cJ, .long)]) (wn := fun (uu : Unit) => [(h, .inr (2, [.ref w, .int (nI u)])), (w, .inl (cJ, 26, .inr (.inl (bn_f V)))), (h2, .inr (2, [.ref w2, .int (nI v)])), (w2, .inl (cJ, 26, .inr (.inl (bn_f U))))]) (by decide) (Nat.le_of_ble_eq_true rfl) ?_
  intro p e s m args below meth c A Q H ls hx hb hml hown hts hA hE hP hK hD hS hret hl
  have hown : s.vm.findClass R_Na = some m.cls := hown
  have hl : lv_has ls 4 [(0, .ref h), (1, .ref h2)] := hl
  have hm1 : max u v ≤ 26 := Nat.max_le.mpr ⟨hu, hv⟩
  refine lv_aload_n hx hb d_Na_compareWith_0 rfl (lv_at hl 0 rfl) ?_
  refine va_get (D := (dC, dI)) (ci := 2) (v := .int (nI u)) (C := R_Na) (T := F_Na) (N := 2) hx hb hts i_Na hown hK hP 0 rfl rfl 1 (by decide) (hts _ fl_Na_13) (fun _ h9 => h9) rfl d_Na_compareWith_1 ?_
  refine lv_aload_n hx hb d_Na_compareWith_4 rfl (lv_at hl 1 rfl) ?_
  refine va_get (D := (dC, dI)) (ci := 2) (v := .int (nI v)) (C := R_Na) (T := F_Na) (N := 2) hx hb hts i_Na hown hK hP 2 rfl rfl 1 (by decide) (hts _ fl_Na_13) (fun _ h9 => h9) rfl d_Na_compareWith_5 ?_
  refine va_mmax hx hb (hml.trans hl.1.symm) hown (hts _ ml_Na_35) (hts _ sta_Ma_max) (hts _ ini_Ma) (hts _ cod_Ma_max) (Nat.le_of_ble_eq_true rfl) (Nat.le_of_ble_eq_true rfl) (Nat.zero_le _) (Nat.zero_le _) d_Na_compareWith_8 ?_
  refine lv_topi (fun x_1 e_2 => ?_)
  obtain rfl : x_1 = nI (max u v) := e_2.trans (iZ_max u v (by omega) (by omega))
  refine lv_aload_n hx hb d_Na_compareWith_11 rfl (lv_at hl 0 rfl) ?_
  refine va_get (D := (dC, dI)) (ci := 2) (v := .ref w) (C := R_Na) (T := F_Na) (N := 2) hx hb hts i_Na hown hK hP 0 rfl rfl 0 (by decide) (hts _ fl_Na_9) (fun _ h9 => h9) rfl d_Na_compareWith_12 ?_
  refine va_alen (v := nI 26) hx hb hK hP 1 0 rfl rfl rfl d_Na_compareWith_15 ?_
  refine va_mmin hx hb (hml.trans hl.1.symm) hown (hts _ ml_Na_19) (hts _ sta_Ma_min) (hts _ ini_Ma) (hts _ cod_Ma_min) (Nat.le_of_ble_eq_true rfl) (Nat.le_of_ble_eq_true rfl) (Nat.zero_le _) (Nat.zero_le _) d_Na_compareWith_16 ?_
  refine lv_topi (fun x_3 e_4 => ?_)
  obtain rfl : x_3 = nI (max u v) := e_4.trans ((iZ_min (max u v) 26 (by omega) (by omega)).trans (by rw [Nat.min_eq_left hm1]))
  refine lv_istore_n (lv' := [(2, .int (nI (max u v))), (0, .ref h), (1, .ref h2)]) hx hb d_Na_compareWith_19 rfl hl (by decide) rfl (fun ls hl => ?_)
  refine lv_iload_n hx hb d_Na_compareWith_20 rfl (lv_at hl 0 rfl) ?_
  refine lv_iconst (v := 1) hx hb d_Na_compareWith_21 (by decide) ?_
  refine lv_isub hx hb d_Na_compareWith_22 ?_
  refine lv_topi (fun x_5 e_6 => ?_)
  obtain rfl : x_5 = iZ (((max u v : Nat) : Int) - 1) := e_6.trans (iZ_pred _)
  refine lv_istore_n (lv' := [(3, .int (iZ (((max u v : Nat) : Int) - 1))), (2, .int (nI (max u v))), (0, .ref h), (1, .ref h2)]) hx hb d_Na_compareWith_23 rfl hl (by decide) rfl (fun ls hl => ?_)
  have lp : ∀ (n j : Nat) (H : Heap) (locs : List Loc) (ls : Array Slot), (j < n) → (j ≤ 26) → (V / 2 ^ (32 * j) = U / 2 ^ (32 * j)) → va_P (dC, dI) cls [(h, .inr (2, [.ref w, .int (nI u)])), (w, .inl (cJ, 26, .inr (.inl (bn_f V)))), (h2, .inr (2, [.ref w2, .int (nI v)])), (w2, .inl (cJ, 26, .inr (.inl (bn_f U))))] H → va_D A [(h, .inr (2, [.ref w, .int (nI u)])), (w, .inl (cJ, 26, .inr (.inl (bn_f V)))), (h2, .inr (2, [.ref w2, .int (nI v)])), (w2, .inl (cJ, 26, .inr (.inl (bn_f U))))] → va_S A s.heap H locs → lv_has ls 4 [(3, .int (iZ ((j : Int) - 1))), (0, .ref h), (1, .ref h2)] → W p l e { frames := 1, cells := 0, slots := 0, locals := 21 } s m args below meth c H locs 0 0 Q (F0 m 24 ls []) := by
    intro n
    induction n with
    | zero => intro j H locs ls hn hj hq hP hD hS hl; exact absurd hn (by omega)
    | succ n ih =>
      intro j H locs ls hn hj hq hP hD hS hl
      refine lv_iload_n hx hb d_Na_compareWith_24 rfl (lv_at hl 0 rfl) ?_
      refine lv_if_lt (tgt := 72) hx hb d_Na_compareWith_25 (by decide) (fun hc => ?_) (fun hc => ?_)
      · have hj0 : j = 0 := by have := (iZ_lt (a := (j : Int) - 1) (b := 0) (by omega) (by omega) (by omega) (by omega)).mp hc; omega
        subst hj0
        have hVU : V = U := by simpa using hq
        refine lv_iconst (v := 0) hx hb d_Na_compareWith_72 (by decide) ?_
        exact hret _ _ _ _ _ () d_Na_compareWith_73 (vp_nar_int _) (by rw [hVU, bn_cmp_e]) hP hK hD hS
      · have hj0 : 0 < j := by have := mt (iZ_lt (a := (j : Int) - 1) (b := 0) (by omega) (by omega) (by omega) (by omega)).mpr hc; omega
        obtain ⟨i, rfl⟩ : ∃ i, j = i + 1 := ⟨j - 1, by omega⟩
        rw [iZ_succ'] at hl
        have hw1 := bn_w_lt V i
        have hw2 := bn_w_lt U i
        refine lv_aload_n hx hb d_Na_compareWith_28 rfl (lv_at hl 1 rfl) ?_
        refine va_get (D := (dC, dI)) (ci := 2) (v := .ref w) (C := R_Na) (T := F_Na) (N := 2) hx hb hts i_Na hown hK hP 0 rfl rfl 0 (by decide) (hts _ fl_Na_9) (fun _ h9 => h9) rfl d_Na_compareWith_29 ?_
        refine lv_iload_n hx hb d_Na_compareWith_32 rfl (lv_at hl 0 rfl) ?_
        refine va_lald hx hb hK hP 1 0 rfl rfl (vp_in_nI (by omega) (by omega)) d_Na_compareWith_33 ?_
        refine lv_topl (fun x_7 e_8 => ?_)
        obtain rfl : x_7 = lN (bn_w V i) := e_8.trans (by rw [nI_clamp (by omega)]; rfl)
        refine lv_aload_n hx hb d_Na_compareWith_34 rfl (lv_at hl 2 rfl) ?_
        refine va_get (D := (dC, dI)) (ci := 2) (v := .ref w2) (C := R_Na) (T := F_Na) (N := 2) hx hb hts i_Na hown hK hP 2 rfl rfl 0 (by decide) (hts _ fl_Na_9) (fun _ h9 => h9) rfl d_Na_compareWith_35 ?_
        refine lv_iload_n hx hb d_Na_compareWith_38 rfl (lv_at hl 0 rfl) ?_
        refine va_lald hx hb hK hP 3 0 rfl rfl (vp_in_nI (by omega) (by omega)) d_Na_compareWith_39 ?_
        refine lv_topl (fun x_9 e_10 => ?_)
        obtain rfl : x_9 = lN (bn_w U i) := e_10.trans (by rw [nI_clamp (by omega)]; rfl)
        refine lx_eq (tgt := 66) hx hb d_Na_compareWith_40 d_Na_compareWith_41 (by decide) (fun hz => ?_) (fun hz => ?_)
        · have hz0 : bn_w V i = bn_w U i := (pk_lEQ (by omega) (by omega)).mp hz
          refine lv_iinc (v := iZ ((i : Int) - 1)) (lv' := [(3, .int (iZ ((i : Int) - 1))), (0, .ref h), (1, .ref h2)]) hx hb d_Na_compareWith_66 hl (k := 0) rfl (by rw [iZ_N]; exact iZ_add _ (-1)) (by decide) rfl (fun ls hl => ?_)
          refine lv_goto (tgt := 24) hx hb d_Na_compareWith_69 (by decide) ?_
          exact ih i H locs ls (by omega) (by omega) (bn_cmp_eq hq hz0) hP hD hS (lv_sub hl [0, 1, 2] rfl)
        · refine lv_aload_n hx hb d_Na_compareWith_44 rfl (lv_at hl 1 rfl) ?_
          refine va_get (D := (dC, dI)) (ci := 2) (v := .ref w) (C := R_Na) (T := F_Na) (N := 2) hx hb hts i_Na hown hK hP 0 rfl rfl 0 (by decide) (hts _ fl_Na_9) (fun _ h9 => h9) rfl d_Na_compareWith_45 ?_
          refine lv_iload_n hx hb d_Na_compareWith_48 rfl (lv_at hl 0 rfl) ?_
          refine va_lald hx hb hK hP 1 0 rfl rfl (vp_in_nI (by omega) (by omega)) d_Na_compareWith_49 ?_
          refine lv_topl (fun x_11 e_12 => ?_)
          obtain rfl : x_11 = lN (bn_w V i) := e_12.trans (by rw [nI_clamp (by omega)]; rfl)
          refine lv_aload_n hx hb d_Na_compareWith_50 rfl (lv_at hl 2 rfl) ?_
          refine va_get (D := (dC, dI)) (ci := 2) (v := .ref w2) (C := R_Na) (T := F_Na) (N := 2) hx hb hts i_Na hown hK hP 2 rfl rfl 0 (by decide) (hts _ fl_Na_9) (fun _ h9 => h9) rfl d_Na_compareWith_51 ?_
          refine lv_iload_n hx hb d_Na_compareWith_54 rfl (lv_at hl 0 rfl) ?_
          refine va_lald hx hb hK hP 3 0 rfl rfl (vp_in_nI (by omega) (by omega)) d_Na_compareWith_55 ?_
          refine lv_topl (fun x_13 e_14 => ?_)
          obtain rfl : x_13 = lN (bn_w U i) := e_14.trans (by rw [nI_clamp (by omega)]; rfl)
          refine lx_ge (tgt := 64) hx hb d_Na_compareWith_56 d_Na_compareWith_57 (by decide) (fun hy => ?_) (fun hy => ?_)
          · have hle : bn_w U i ≤ bn_w V i := (pk_lLE (by omega) (by omega)).mp hy
            have hne : bn_w V i ≠ bn_w U i := fun q => hz (by rw [q])
            refine lv_iconst (v := 1) hx hb d_Na_compareWith_64 (by decide) ?_
            exact hret _ _ _ _ _ () d_Na_compareWith_65 (vp_nar_int _) (bn_cmp_g (bn_cmp_lt hq.symm (by omega))).symm hP hK hD hS
          · have hlt : bn_w V i < bn_w U i := by have := mt (pk_lLE (a := bn_w U i) (b := bn_w V i) (by omega) (by omega)).mpr hy; omega
            refine lv_iconst (v := (-1)) hx hb d_Na_compareWith_60 (by decide) ?_
            refine lv_goto (tgt := 65) hx hb d_Na_compareWith_61 (by decide) ?_
            exact hret _ _ _ _ _ () d_Na_compareWith_65 (vp_nar_int _) (bn_cmp_l (bn_cmp_lt hq hlt)).symm hP hK hD hS
  have h1 : V < 2 ^ (32 * max u v) := Nat.lt_of_lt_of_le hV (bn_ple (Nat.le_max_left _ _))
  have h2 : U < 2 ^ (32 * max u v) := Nat.lt_of_lt_of_le hU (bn_ple (Nat.le_max_right _ _))
  exact lp (max u v + 1) (max u v) H [] ls (by omega) hm1 (by rw [bn_div_0 h1, bn_div_0 h2]) hP hD hS (lv_sub hl [0, 2, 3] rfl)
set_option maxHeartbeats 4000000 in
set_option maxRecDepth 100000 in
/-- compareSum -/
theorem c_Na_compareSum (l : Launch) (dC : Nat → ClassId) (dI : Nat → Nat → Nat) (sz : Nat) (h w h2 w2 h3 w3 : Nat) (cJ : ClassId) (X u Y v Z q : Nat) (hX : X < 2 ^ (32 * u)) (hu : u ≤ 26) (hY : Y < 2 ^ (32 * v)) (hv : v ≤ 26) (hZ : Z < 2 ^ (32 * q)) (hq : q ≤ 26) : Met l y_Na_compareSum (Cond.code y_Na_compareSum b_Na_compareSum 11 (some .int) :: gT) ({ frames := 1, cells := 0, slots := 0, locals := 21 }) (va_Pc [.ref h, .ref h2, .ref h3] (pw_P (dC, dI) cls [(cJ, .long)] pw_0 [(h, .inr (2, [.ref w, .int (nI u)])), (w, .inl (cJ, 26, .inr (.inl (bn_f X)))), (h2, .inr (2, [.ref w2, .int (nI v)])), (w2, .inl (cJ, 26, .inr (.inl (bn_f Y)))), (h3, .inr (2, [.ref w3, .int (nI q)])), (w3, .inl (cJ, 26, .inr (.inl (bn_f Z))))] sz)) (va_Qi (fun (r : Int32) (uu : Unit) => r = bn_cmp (X + Y) Z) (fun (uu : Unit) => pw_B (dC, dI) cls [(cJ, .long)] (va_A [(h, .inr (2, [.ref w, .int (nI u)])), (w, .inl (cJ, 26, .inr (.inl (bn_f X)))), (h2, .inr (2, [.ref w2, .int (nI v)])), (w2, .inl (cJ, 26, .inr (.inl (bn_f Y)))), (h3, .inr (2, [.ref w3, .int (nI q)])), (w3, .inl (cJ, 26, .inr (.inl (bn_f Z))))] sz) [(h, .inr (2, [.ref w, .int (nI u)])), (w, .inl (cJ, 26, .inr (.inl (bn_f X)))), (h2, .inr (2, [.ref w2, .int (nI v)])), (w2, .inl (cJ, 26, .inr (.inl (bn_f Y)))), (h3, .inr (2, [.ref w3, .int (nI q)])), (w3, .inl (cJ, 26, .inr (.inl (bn_f Z))))]) (va_A [(h, .inr (2, [.ref w, .int (nI u)])), (w, .inl (cJ, 26, .inr (.inl (bn_f X)))), (h2, .inr (2, [.ref w2, .int (nI v)])), (w2, .inl (cJ, 26, .inr (.inl (bn_f Y)))), (h3, .inr (2, [.ref w3, .int (nI q)])), (w3, .inl (cJ, 26, .inr (.inl (bn_f Z))))] sz)) 0 0 (va_A [(h, .inr (2, [.ref w, .int (nI u)])), (w, .inl (cJ, 26, .inr (.inl (bn_f X)))), (h2, .inr (2, [.ref w2, .int (nI v)])), (w2, .inl (cJ, 26, .inr (.inl (bn_f Y)))), (h3, .inr (2, [.ref w3, .int (nI q)])), (w3, .inl (cJ, 26, .inr (.inl (bn_f Z))))] sz) := by
  refine pw_meti (tn := fun (uu : Unit) => [(cJ, .long)]) (wn := fun (uu : Unit) => [(h, .inr (2, [.ref w, .int (nI u)])), (w, .inl (cJ, 26, .inr (.inl (bn_f X)))), (h2, .inr (2, [.ref w2, .int (nI v)])), (w2, .inl (cJ, 26, .inr (.inl (bn_f Y)))), (h3, .inr (2, [.ref w3, .int (nI q)])), (w3, .inl (cJ, 26, .inr (.inl (bn_f Z))))]) (by decide) (Nat.le_of_ble_eq_true rfl) ?_
  intro p e s m args below meth c A Q H ls hx hb hml hown hts hA hE hP hK hD hS hret hl
  have hown : s.vm.findClass R_Na = some m.cls := hown
  have hl : lv_has ls 11 [(0, .ref h), (1, .ref h2), (2, .ref h3)] := hl
  have hm1 : max (max u v) q ≤ 26 := Nat.max_le.mpr ⟨Nat.max_le.mpr ⟨hu, hv⟩, hq⟩
  have hm0 : max u v ≤ 26 := Nat.max_le.mpr ⟨hu, hv⟩
  refine lv_aload_n hx hb d_Na_compareSum_0 rfl (lv_at hl 0 rfl) ?_
  refine va_get (D := (dC, dI)) (ci := 2) (v := .int (nI u)) (C := R_Na) (T := F_Na) (N := 2) hx hb hts i_Na hown hK hP 0 rfl rfl 1 (by decide) (hts _ fl_Na_13) (fun _ h9 => h9) rfl d_Na_compareSum_1 ?_
  refine lv_aload_n hx hb d_Na_compareSum_4 rfl (lv_at hl 1 rfl) ?_
  refine va_get (D := (dC, dI)) (ci := 2) (v := .int (nI v)) (C := R_Na) (T := F_Na) (N := 2) hx hb hts i_Na hown hK hP 2 rfl rfl 1 (by decide) (hts _ fl_Na_13) (fun _ h9 => h9) rfl d_Na_compareSum_5 ?_
  refine va_mmax hx hb (hml.trans hl.1.symm) hown (hts _ ml_Na_35) (hts _ sta_Ma_max) (hts _ ini_Ma) (hts _ cod_Ma_max) (Nat.le_of_ble_eq_true rfl) (Nat.le_of_ble_eq_true rfl) (Nat.zero_le _) (Nat.zero_le _) d_Na_compareSum_8 ?_
  refine lv_topi (fun x_1 e_2 => ?_)
  obtain rfl : x_1 = nI (max u v) := e_2.trans (iZ_max u v (by omega) (by omega))
  refine lv_aload_n hx hb d_Na_compareSum_11 rfl (lv_at hl 2 rfl) ?_
  refine va_get (D := (dC, dI)) (ci := 2) (v := .int (nI q)) (C := R_Na) (T := F_Na) (N := 2) hx hb hts i_Na hown hK hP 4 rfl rfl 1 (by decide) (hts _ fl_Na_13) (fun _ h9 => h9) rfl d_Na_compareSum_12 ?_
  refine va_mmax hx hb (hml.trans hl.1.symm) hown (hts _ ml_Na_35) (hts _ sta_Ma_max) (hts _ ini_Ma) (hts _ cod_Ma_max) (Nat.le_of_ble_eq_true rfl) (Nat.le_of_ble_eq_true rfl) (Nat.zero_le _) (Nat.zero_le _) d_Na_compareSum_15 ?_
  refine lv_topi (fun x_3 e_4 => ?_)
  obtain rfl : x_3 = nI (max (max u v) q) := e_4.trans (iZ_max (max u v) q (by omega) (by omega))
  generalize hE0 : max (max u v) q = M at *
  refine lv_bipush (v := 26) hx hb d_Na_compareSum_18 (by decide) ?_
  refine va_mmin hx hb (hml.trans hl.1.symm) hown (hts _ ml_Na_19) (hts _ sta_Ma_min) (hts _ ini_Ma) (hts _ cod_Ma_min) (Nat.le_of_ble_eq_true rfl) (Nat.le_of_ble_eq_true rfl) (Nat.zero_le _) (Nat.zero_le _) d_Na_compareSum_20 ?_
  refine lv_topi (fun x_5 e_6 => ?_)
  obtain rfl : x_5 = nI M := e_6.trans ((iZ_min M 26 (by omega) (by omega)).trans (by rw [Nat.min_eq_left hm1]))
  refine lv_istore_n (lv' := [(3, .int (nI M)), (0, .ref h), (1, .ref h2), (2, .ref h3)]) hx hb d_Na_compareSum_23 rfl hl (by decide) rfl (fun ls hl => ?_)
  refine lv_lconst (v := 0) hx hb d_Na_compareSum_24 (by decide) ?_
  refine lv_lstore (lv' := [(4, .long 0), (3, .int (nI M)), (0, .ref h), (1, .ref h2), (2, .ref h3)]) hx hb d_Na_compareSum_25 hl (by decide) rfl (fun ls hl => ?_)
  refine lv_lconst (v := 0) hx hb d_Na_compareSum_27 (by decide) ?_
  refine lv_lstore (lv' := [(6, .long 0), (4, .long 0), (3, .int (nI M)), (0, .ref h), (1, .ref h2), (2, .ref h3)]) hx hb d_Na_compareSum_28 hl (by decide) rfl (fun ls hl => ?_)
  refine lv_iconst (v := 0) hx hb d_Na_compareSum_30 (by decide) ?_
  refine lv_istore (lv' := [(8, .int 0), (6, .long 0), (4, .long 0), (3, .int (nI M)), (0, .ref h), (1, .ref h2), (2, .ref h3)]) hx hb d_Na_compareSum_31 hl (by decide) rfl (fun ls hl => ?_)
  have lp : ∀ (n i : Nat) (sn : Int64) (H : Heap) (locs : List Loc) (ls : Array Slot), (i ≤ M) → (M + 1 ≤ i + n) → (sn = 0 ↔ bn_d X Y Z i % (2 ^ (32 * i) : Nat) = 0) → va_P (dC, dI) cls [(h, .inr (2, [.ref w, .int (nI u)])), (w, .inl (cJ, 26, .inr (.inl (bn_f X)))), (h2, .inr (2, [.ref w2, .int (nI v)])), (w2, .inl (cJ, 26, .inr (.inl (bn_f Y)))), (h3, .inr (2, [.ref w3, .int (nI q)])), (w3, .inl (cJ, 26, .inr (.inl (bn_f Z))))] H → va_D A [(h, .inr (2, [.ref w, .int (nI u)])), (w, .inl (cJ, 26, .inr (.inl (bn_f X)))), (h2, .inr (2, [.ref w2, .int (nI v)])), (w2, .inl (cJ, 26, .inr (.inl (bn_f Y)))), (h3, .inr (2, [.ref w3, .int (nI q)])), (w3, .inl (cJ, 26, .inr (.inl (bn_f Z))))] → va_S A s.heap H locs → lv_has ls 11 [(8, .int (nI i)), (6, .long sn), (4, .long (lZ (bn_e X Y Z i))), (3, .int (nI M)), (0, .ref h), (1, .ref h2), (2, .ref h3)] → W p l e { frames := 1, cells := 0, slots := 0, locals := 21 } s m args below meth c H locs 0 0 Q (F0 m 33 ls []) := by
    intro n
    induction n with
    | zero => intro i sn H locs ls hi hn hs hP hD hS hl; exact absurd hn (by omega)
    | succ n ih =>
      intro i sn H locs ls hi hn hs hP hD hS hl
      refine lv_iload hx hb d_Na_compareSum_33 (lv_at hl 0 rfl) ?_
      refine lv_iload_n hx hb d_Na_compareSum_35 rfl (lv_at hl 3 rfl) ?_
      refine lv_icmp_ge (tgt := 91) hx hb d_Na_compareSum_36 (by decide) (fun hc => ?_) (fun hc => ?_)
      · obtain rfl : i = M := by have := (nI_leI (by omega) (by omega)).mp hc; omega
        have hX1 : X < 2 ^ (32 * i) := Nat.lt_of_lt_of_le hX (bn_ple (by have := Nat.le_max_left u v; have := Nat.le_max_left (max u v) q; omega))
        have hY1 : Y < 2 ^ (32 * i) := Nat.lt_of_lt_of_le hY (bn_ple (by have := Nat.le_max_right u v; have := Nat.le_max_left (max u v) q; omega))
        have hZ1 : Z < 2 ^ (32 * i) := Nat.lt_of_lt_of_le hZ (bn_ple (by have := Nat.le_max_right (max u v) q; omega))
        have h9 := bn_d_end hX1 hY1 hZ1
        have hr := bn_e_rng X Y Z i
        refine lv_lload hx hb d_Na_compareSum_91 (lv_at hl 2 rfl) ?_
        refine lv_lconst (v := 0) hx hb d_Na_compareSum_93 (by decide) ?_
        refine lx_ge (tgt := 100) hx hb d_Na_compareSum_94 d_Na_compareSum_95 (by decide) (fun hz => ?_) (fun hz => ?_)
        · have hge : ¬ Z < X + Y := fun g => by have := h9.1.mpr g; exact absurd ((lZ_cmp0 (by omega) (by omega)).mpr this) (Int64.not_lt.mpr hz)
          refine lv_lload hx hb d_Na_compareSum_100 (lv_at hl 1 rfl) ?_
          refine lv_lconst (v := 0) hx hb d_Na_compareSum_102 (by decide) ?_
          refine lx_ne (tgt := 111) hx hb d_Na_compareSum_103 d_Na_compareSum_104 (by decide) (fun hy => ?_) (fun hy => ?_)
          · have he : Z ≠ X + Y := fun g => hy (hs.mpr ((h9.2 hge).mpr g))
            refine lv_iconst (v := (-1)) hx hb d_Na_compareSum_111 (by decide) ?_
            exact hret _ _ _ _ _ () d_Na_compareSum_112 (vp_nar_int _) (bn_cmp_l (by omega)).symm hP hK hD hS
          · have he : Z = X + Y := (h9.2 hge).mp (hs.mp hy)
            refine lv_iconst (v := 0) hx hb d_Na_compareSum_107 (by decide) ?_
            refine lv_goto (tgt := 112) hx hb d_Na_compareSum_108 (by decide) ?_
            exact hret _ _ _ _ _ () d_Na_compareSum_112 (vp_nar_int _) (by rw [he, bn_cmp_e]) hP hK hD hS
        · have hlt : Z < X + Y := h9.1.mp (by rcases Int.lt_or_le (bn_e X Y Z i) 0 with g | g; exact g; exact absurd (by rw [show bn_e X Y Z i = 0 from by omega]; exact Int64.le_refl _) hz)
          refine lv_iconst (v := 1) hx hb d_Na_compareSum_98 (by decide) ?_
          exact hret _ _ _ _ _ () d_Na_compareSum_99 (vp_nar_int _) (bn_cmp_g hlt).symm hP hK hD hS
      · have hlt : i < M := by have := mt (nI_leI (a := M) (b := i) (by omega) (by omega)).mpr hc; omega
        have hw1 := bn_w_lt X i
        have hw2 := bn_w_lt Y i
        have hw3 := bn_w_lt Z i
        have hr := bn_e_rng X Y Z i
        refine lv_aload_n hx hb d_Na_compareSum_39 rfl (lv_at hl 6 rfl) ?_
        refine va_get (D := (dC, dI)) (ci := 2) (v := .ref w3) (C := R_Na) (T := F_Na) (N := 2) hx hb hts i_Na hown hK hP 4 rfl rfl 0 (by decide) (hts _ fl_Na_9) (fun _ h9 => h9) rfl d_Na_compareSum_40 ?_
        refine lv_iload hx hb d_Na_compareSum_43 (lv_at hl 0 rfl) ?_
        refine va_lald hx hb hK hP 5 0 rfl rfl (vp_in_nI (by omega) (by omega)) d_Na_compareSum_45 ?_
        refine lv_topl (fun x_7 e_8 => ?_)
        obtain rfl : x_7 = lN (bn_w Z i) := e_8.trans (by rw [nI_clamp (by omega)]; rfl)
        refine lv_aload_n hx hb d_Na_compareSum_46 rfl (lv_at hl 4 rfl) ?_
        refine va_get (D := (dC, dI)) (ci := 2) (v := .ref w) (C := R_Na) (T := F_Na) (N := 2) hx hb hts i_Na hown hK hP 0 rfl rfl 0 (by decide) (hts _ fl_Na_9) (fun _ h9 => h9) rfl d_Na_compareSum_47 ?_
        refine lv_iload hx hb d_Na_compareSum_50 (lv_at hl 0 rfl) ?_
        refine va_lald hx hb hK hP 1 0 rfl rfl (vp_in_nI (by omega) (by omega)) d_Na_compareSum_52 ?_
        refine lv_topl (fun x_9 e_10 => ?_)
        obtain rfl : x_9 = lN (bn_w X i) := e_10.trans (by rw [nI_clamp (by omega)]; rfl)
        refine lv_lsub hx hb d_Na_compareSum_53 ?_
        refine lv_topl (fun x_11 e_12 => ?_)
        obtain rfl : x_11 = lZ ((bn_w Z i : Int) - bn_w X i) := e_12.trans (lZ_nsub _ _)
        refine lv_aload_n hx hb d_Na_compareSum_54 rfl (lv_at hl 5 rfl) ?_
        refine va_get (D := (dC, dI)) (ci := 2) (v := .ref w2) (C := R_Na) (T := F_Na) (N := 2) hx hb hts i_Na hown hK hP 2 rfl rfl 0 (by decide) (hts _ fl_Na_9) (fun _ h9 => h9) rfl d_Na_compareSum_55 ?_
        refine lv_iload hx hb d_Na_compareSum_58 (lv_at hl 0 rfl) ?_
        refine va_lald hx hb hK hP 3 0 rfl rfl (vp_in_nI (by omega) (by omega)) d_Na_compareSum_60 ?_
        refine lv_topl (fun x_13 e_14 => ?_)
        obtain rfl : x_13 = lN (bn_w Y i) := e_14.trans (by rw [nI_clamp (by omega)]; rfl)
        refine lv_lsub hx hb d_Na_compareSum_61 ?_
        refine lv_topl (fun x_15 e_16 => ?_)
        obtain rfl : x_15 = lZ ((bn_w Z i : Int) - bn_w X i - bn_w Y i) := e_16.trans (by rw [lZ_N]; exact lZ_sub _ _)
        refine lv_lload hx hb d_Na_compareSum_62 (lv_at hl 2 rfl) ?_
        refine lv_ladd hx hb d_Na_compareSum_64 ?_
        refine lv_topl (fun x_17 e_18 => ?_)
        obtain rfl : x_17 = lZ ((bn_w Z i : Int) - bn_w X i - bn_w Y i + bn_e X Y Z i) := e_18.trans (lZ_add _ _)
        refine lv_lstore (lv' := [(9, .long (lZ ((bn_w Z i : Int) - bn_w X i - bn_w Y i + bn_e X Y Z i))), (8, .int (nI i)), (6, .long sn), (4, .long (lZ (bn_e X Y Z i))), (3, .int (nI M)), (0, .ref h), (1, .ref h2), (2, .ref h3)]) hx hb d_Na_compareSum_65 hl (by decide) rfl (fun ls hl => ?_)
        refine lv_lload hx hb d_Na_compareSum_67 (lv_at hl 2 rfl) ?_
        refine lv_lload hx hb d_Na_compareSum_69 (lv_at hl 0 rfl) ?_
        refine lv_ldc2 (v := 4294967295) hx hb hown (hts _ kl_Na_17) d_Na_compareSum_71 ?_
        refine lv_land hx hb d_Na_compareSum_74 ?_
        refine lv_topl (fun x_19 e_20 => ?_)
        obtain rfl : x_19 = lN (((bn_w Z i : Int) - bn_w X i - bn_w Y i + bn_e X Y Z i) % 4294967296).toNat := e_20.trans (lZ_lo _)
        refine lv_lor hx hb d_Na_compareSum_75 ?_
        refine lv_topl (fun sn2 hsn2 => ?_)
        refine lv_lstore (lv' := [(6, .long sn2), (9, .long (lZ ((bn_w Z i : Int) - bn_w X i - bn_w Y i + bn_e X Y Z i))), (8, .int (nI i)), (4, .long (lZ (bn_e X Y Z i))), (3, .int (nI M)), (0, .ref h), (1, .ref h2), (2, .ref h3)]) hx hb d_Na_compareSum_76 hl (by decide) rfl (fun ls hl => ?_)
        refine lv_lload hx hb d_Na_compareSum_78 (lv_at hl 1 rfl) ?_
        refine lv_bipush (v := 32) hx hb d_Na_compareSum_80 (by decide) ?_
        refine lv_lshr (v := lZ (bn_e X Y Z (i + 1))) hx hb d_Na_compareSum_82 ((lZ_shr (by decide) (by omega) (by omega)).trans (by rw [bn_e_succ])) ?_
        refine lv_lstore (lv' := [(4, .long (lZ (bn_e X Y Z (i + 1)))), (6, .long sn2), (9, .long (lZ ((bn_w Z i : Int) - bn_w X i - bn_w Y i + bn_e X Y Z i))), (8, .int (nI i)), (3, .int (nI M)), (0, .ref h), (1, .ref h2), (2, .ref h3)]) hx hb d_Na_compareSum_83 hl (by decide) rfl (fun ls hl => ?_)
        refine lv_iinc (v := nI (i + 1)) (lv' := [(8, .int (nI (i + 1))), (4, .long (lZ (bn_e X Y Z (i + 1)))), (6, .long sn2), (9, .long (lZ ((bn_w Z i : Int) - bn_w X i - bn_w Y i + bn_e X Y Z i))), (3, .int (nI M)), (0, .ref h), (1, .ref h2), (2, .ref h3)]) hx hb d_Na_compareSum_85 hl (k := 3) rfl (nI_1 i) (by decide) rfl (fun ls hl => ?_)
        refine lv_goto (tgt := 33) hx hb d_Na_compareSum_88 (by decide) ?_
        have hs2 : sn2 = 0 ↔ bn_d X Y Z (i + 1) % (2 ^ (32 * (i + 1)) : Nat) = 0 := by
          rw [bn_z_succ, ← hs, hsn2, lZ_or]
          have hb : ∀ g : Int, (lN (g % 4294967296).toNat = 0) ↔ g % 4294967296 = 0 := fun g => by
            have := pk_lEQ (a := (g % 4294967296).toNat) (b := 0) (by omega) (by omega)
            exact this.trans (by omega)
          rw [hb]
        exact ih (i + 1) sn2 H locs ls (by omega) (by omega) hs2 hP hD hS (lv_sub hl [0, 2, 1, 4, 5, 6, 7] rfl)
  exact lp (M + 1) 0 0 H [] ls (by omega) (by omega) (by simp [Int.emod_one]) hP hD hS (by rw [bn_e_0]; exact lv_sub hl [0, 1, 2, 3, 4, 5, 6] rfl)
set_option maxHeartbeats 4000000 in
set_option maxRecDepth 100000 in
/-- compareSum of a number and itself -/
theorem c_Na_compareSumS (l : Launch) (dC : Nat → ClassId) (dI : Nat → Nat → Nat) (sz : Nat) (h w h3 w3 : Nat) (cJ : ClassId) (X u Z q : Nat) (hX : X < 2 ^ (32 * u)) (hu : u ≤ 26) (hZ : Z < 2 ^ (32 * q)) (hq : q ≤ 26) : Met l y_Na_compareSum (Cond.code y_Na_compareSum b_Na_compareSum 11 (some .int) :: gT) ({ frames := 1, cells := 0, slots := 0, locals := 21 }) (va_Pc [.ref h, .ref h, .ref h3] (pw_P (dC, dI) cls [(cJ, .long)] pw_0 [(h, .inr (2, [.ref w, .int (nI u)])), (w, .inl (cJ, 26, .inr (.inl (bn_f X)))), (h3, .inr (2, [.ref w3, .int (nI q)])), (w3, .inl (cJ, 26, .inr (.inl (bn_f Z))))] sz)) (va_Qi (fun (r : Int32) (uu : Unit) => r = bn_cmp (X + X) Z) (fun (uu : Unit) => pw_B (dC, dI) cls [(cJ, .long)] (va_A [(h, .inr (2, [.ref w, .int (nI u)])), (w, .inl (cJ, 26, .inr (.inl (bn_f X)))), (h3, .inr (2, [.ref w3, .int (nI q)])), (w3, .inl (cJ, 26, .inr (.inl (bn_f Z))))] sz) [(h, .inr (2, [.ref w, .int (nI u)])), (w, .inl (cJ, 26, .inr (.inl (bn_f X)))), (h3, .inr (2, [.ref w3, .int (nI q)])), (w3, .inl (cJ, 26, .inr (.inl (bn_f Z))))]) (va_A [(h, .inr (2, [.ref w, .int (nI u)])), (w, .inl (cJ, 26, .inr (.inl (bn_f X)))), (h3, .inr (2, [.ref w3, .int (nI q)])), (w3, .inl (cJ, 26, .inr (.inl (bn_f Z))))] sz)) 0 0 (va_A [(h, .inr (2, [.ref w, .int (nI u)])), (w, .inl (cJ, 26, .inr (.inl (bn_f X)))), (h3, .inr (2, [.ref w3, .int (nI q)])), (w3, .inl (cJ, 26, .inr (.inl (bn_f Z))))] sz) := by
  refine pw_meti (tn := fun (uu : Unit) => [(cJ, .long)]) (wn := fun (uu : Unit) => [(h, .inr (2, [.ref w, .int (nI u)])), (w, .inl (cJ, 26, .inr (.inl (bn_f X)))), (h3, .inr (2, [.ref w3, .int (nI q)])), (w3, .inl (cJ, 26, .inr (.inl (bn_f Z))))]) (by decide) (Nat.le_of_ble_eq_true rfl) ?_
  intro p e s m args below meth c A Q H ls hx hb hml hown hts hA hE hP hK hD hS hret hl
  have hown : s.vm.findClass R_Na = some m.cls := hown
  have hl : lv_has ls 11 [(0, .ref h), (1, .ref h), (2, .ref h3)] := hl
  have hm1 : max (max u u) q ≤ 26 := Nat.max_le.mpr ⟨Nat.max_le.mpr ⟨hu, hu⟩, hq⟩
  have hm0 : max u u ≤ 26 := Nat.max_le.mpr ⟨hu, hu⟩
  refine lv_aload_n hx hb d_Na_compareSum_0 rfl (lv_at hl 0 rfl) ?_
  refine va_get (D := (dC, dI)) (ci := 2) (v := .int (nI u)) (C := R_Na) (T := F_Na) (N := 2) hx hb hts i_Na hown hK hP 0 rfl rfl 1 (by decide) (hts _ fl_Na_13) (fun _ h9 => h9) rfl d_Na_compareSum_1 ?_
  refine lv_aload_n hx hb d_Na_compareSum_4 rfl (lv_at hl 1 rfl) ?_
  refine va_get (D := (dC, dI)) (ci := 2) (v := .int (nI u)) (C := R_Na) (T := F_Na) (N := 2) hx hb hts i_Na hown hK hP 0 rfl rfl 1 (by decide) (hts _ fl_Na_13) (fun _ h9 => h9) rfl d_Na_compareSum_5 ?_
  refine va_mmax hx hb (hml.trans hl.1.symm) hown (hts _ ml_Na_35) (hts _ sta_Ma_max) (hts _ ini_Ma) (hts _ cod_Ma_max) (Nat.le_of_ble_eq_true rfl) (Nat.le_of_ble_eq_true rfl) (Nat.zero_le _) (Nat.zero_le _) d_Na_compareSum_8 ?_
  refine lv_topi (fun x_1 e_2 => ?_)
  obtain rfl : x_1 = nI (max u u) := e_2.trans (iZ_max u u (by omega) (by omega))
  refine lv_aload_n hx hb d_Na_compareSum_11 rfl (lv_at hl 2 rfl) ?_
  refine va_get (D := (dC, dI)) (ci := 2) (v := .int (nI q)) (C := R_Na) (T := F_Na) (N := 2) hx hb hts i_Na hown hK hP 2 rfl rfl 1 (by decide) (hts _ fl_Na_13) (fun _ h9 => h9) rfl d_Na_compareSum_12 ?_
  refine va_mmax hx hb (hml.trans hl.1.symm) hown (hts _ ml_Na_35) (hts _ sta_Ma_max) (hts _ ini_Ma) (hts _ cod_Ma_max) (Nat.le_of_ble_eq_true rfl) (Nat.le_of_ble_eq_true rfl) (Nat.zero_le _) (Nat.zero_le _) d_Na_compareSum_15 ?_
  refine lv_topi (fun x_3 e_4 => ?_)
  obtain rfl : x_3 = nI (max (max u u) q) := e_4.trans (iZ_max (max u u) q (by omega) (by omega))
  generalize hE0 : max (max u u) q = M at *
  refine lv_bipush (v := 26) hx hb d_Na_compareSum_18 (by decide) ?_
  refine va_mmin hx hb (hml.trans hl.1.symm) hown (hts _ ml_Na_19) (hts _ sta_Ma_min) (hts _ ini_Ma) (hts _ cod_Ma_min) (Nat.le_of_ble_eq_true rfl) (Nat.le_of_ble_eq_true rfl) (Nat.zero_le _) (Nat.zero_le _) d_Na_compareSum_20 ?_
  refine lv_topi (fun x_5 e_6 => ?_)
  obtain rfl : x_5 = nI M := e_6.trans ((iZ_min M 26 (by omega) (by omega)).trans (by rw [Nat.min_eq_left hm1]))
  refine lv_istore_n (lv' := [(3, .int (nI M)), (0, .ref h), (1, .ref h), (2, .ref h3)]) hx hb d_Na_compareSum_23 rfl hl (by decide) rfl (fun ls hl => ?_)
  refine lv_lconst (v := 0) hx hb d_Na_compareSum_24 (by decide) ?_
  refine lv_lstore (lv' := [(4, .long 0), (3, .int (nI M)), (0, .ref h), (1, .ref h), (2, .ref h3)]) hx hb d_Na_compareSum_25 hl (by decide) rfl (fun ls hl => ?_)
  refine lv_lconst (v := 0) hx hb d_Na_compareSum_27 (by decide) ?_
  refine lv_lstore (lv' := [(6, .long 0), (4, .long 0), (3, .int (nI M)), (0, .ref h), (1, .ref h), (2, .ref h3)]) hx hb d_Na_compareSum_28 hl (by decide) rfl (fun ls hl => ?_)
  refine lv_iconst (v := 0) hx hb d_Na_compareSum_30 (by decide) ?_
  refine lv_istore (lv' := [(8, .int 0), (6, .long 0), (4, .long 0), (3, .int (nI M)), (0, .ref h), (1, .ref h), (2, .ref h3)]) hx hb d_Na_compareSum_31 hl (by decide) rfl (fun ls hl => ?_)
  have lp : ∀ (n i : Nat) (sn : Int64) (H : Heap) (locs : List Loc) (ls : Array Slot), (i ≤ M) → (M + 1 ≤ i + n) → (sn = 0 ↔ bn_d X X Z i % (2 ^ (32 * i) : Nat) = 0) → va_P (dC, dI) cls [(h, .inr (2, [.ref w, .int (nI u)])), (w, .inl (cJ, 26, .inr (.inl (bn_f X)))), (h3, .inr (2, [.ref w3, .int (nI q)])), (w3, .inl (cJ, 26, .inr (.inl (bn_f Z))))] H → va_D A [(h, .inr (2, [.ref w, .int (nI u)])), (w, .inl (cJ, 26, .inr (.inl (bn_f X)))), (h3, .inr (2, [.ref w3, .int (nI q)])), (w3, .inl (cJ, 26, .inr (.inl (bn_f Z))))] → va_S A s.heap H locs → lv_has ls 11 [(8, .int (nI i)), (6, .long sn), (4, .long (lZ (bn_e X X Z i))), (3, .int (nI M)), (0, .ref h), (1, .ref h), (2, .ref h3)] → W p l e { frames := 1, cells := 0, slots := 0, locals := 21 } s m args below meth c H locs 0 0 Q (F0 m 33 ls []) := by
    intro n
    induction n with
    | zero => intro i sn H locs ls hi hn hs hP hD hS hl; exact absurd hn (by omega)
    | succ n ih =>
      intro i sn H locs ls hi hn hs hP hD hS hl
      refine lv_iload hx hb d_Na_compareSum_33 (lv_at hl 0 rfl) ?_
      refine lv_iload_n hx hb d_Na_compareSum_35 rfl (lv_at hl 3 rfl) ?_
      refine lv_icmp_ge (tgt := 91) hx hb d_Na_compareSum_36 (by decide) (fun hc => ?_) (fun hc => ?_)
      · obtain rfl : i = M := by have := (nI_leI (by omega) (by omega)).mp hc; omega
        have hX1 : X < 2 ^ (32 * i) := Nat.lt_of_lt_of_le hX (bn_ple (by have := Nat.le_max_left u u; have := Nat.le_max_left (max u u) q; omega))
        have hY1 : X < 2 ^ (32 * i) := hX1
        have hZ1 : Z < 2 ^ (32 * i) := Nat.lt_of_lt_of_le hZ (bn_ple (by have := Nat.le_max_right (max u u) q; omega))
        have h9 := bn_d_end hX1 hY1 hZ1
        have hr := bn_e_rng X X Z i
        refine lv_lload hx hb d_Na_compareSum_91 (lv_at hl 2 rfl) ?_
        refine lv_lconst (v := 0) hx hb d_Na_compareSum_93 (by decide) ?_
        refine lx_ge (tgt := 100) hx hb d_Na_compareSum_94 d_Na_compareSum_95 (by decide) (fun hz => ?_) (fun hz => ?_)
        · have hge : ¬ Z < X + X := fun g => by have := h9.1.mpr g; exact absurd ((lZ_cmp0 (by omega) (by omega)).mpr this) (Int64.not_lt.mpr hz)
          refine lv_lload hx hb d_Na_compareSum_100 (lv_at hl 1 rfl) ?_
          refine lv_lconst (v := 0) hx hb d_Na_compareSum_102 (by decide) ?_
          refine lx_ne (tgt := 111) hx hb d_Na_compareSum_103 d_Na_compareSum_104 (by decide) (fun hy => ?_) (fun hy => ?_)
          · have he : Z ≠ X + X := fun g => hy (hs.mpr ((h9.2 hge).mpr g))
            refine lv_iconst (v := (-1)) hx hb d_Na_compareSum_111 (by decide) ?_
            exact hret _ _ _ _ _ () d_Na_compareSum_112 (vp_nar_int _) (bn_cmp_l (by omega)).symm hP hK hD hS
          · have he : Z = X + X := (h9.2 hge).mp (hs.mp hy)
            refine lv_iconst (v := 0) hx hb d_Na_compareSum_107 (by decide) ?_
            refine lv_goto (tgt := 112) hx hb d_Na_compareSum_108 (by decide) ?_
            exact hret _ _ _ _ _ () d_Na_compareSum_112 (vp_nar_int _) (by rw [he, bn_cmp_e]) hP hK hD hS
        · have hlt : Z < X + X := h9.1.mp (by rcases Int.lt_or_le (bn_e X X Z i) 0 with g | g; exact g; exact absurd (by rw [show bn_e X X Z i = 0 from by omega]; exact Int64.le_refl _) hz)
          refine lv_iconst (v := 1) hx hb d_Na_compareSum_98 (by decide) ?_
          exact hret _ _ _ _ _ () d_Na_compareSum_99 (vp_nar_int _) (bn_cmp_g hlt).symm hP hK hD hS
      · have hlt : i < M := by have := mt (nI_leI (a := M) (b := i) (by omega) (by omega)).mpr hc; omega
        have hw1 := bn_w_lt X i
        have hw2 := bn_w_lt X i
        have hw3 := bn_w_lt Z i
        have hr := bn_e_rng X X Z i
        refine lv_aload_n hx hb d_Na_compareSum_39 rfl (lv_at hl 6 rfl) ?_
        refine va_get (D := (dC, dI)) (ci := 2) (v := .ref w3) (C := R_Na) (T := F_Na) (N := 2) hx hb hts i_Na hown hK hP 2 rfl rfl 0 (by decide) (hts _ fl_Na_9) (fun _ h9 => h9) rfl d_Na_compareSum_40 ?_
        refine lv_iload hx hb d_Na_compareSum_43 (lv_at hl 0 rfl) ?_
        refine va_lald hx hb hK hP 3 0 rfl rfl (vp_in_nI (by omega) (by omega)) d_Na_compareSum_45 ?_
        refine lv_topl (fun x_7 e_8 => ?_)
        obtain rfl : x_7 = lN (bn_w Z i) := e_8.trans (by rw [nI_clamp (by omega)]; rfl)
        refine lv_aload_n hx hb d_Na_compareSum_46 rfl (lv_at hl 4 rfl) ?_
        refine va_get (D := (dC, dI)) (ci := 2) (v := .ref w) (C := R_Na) (T := F_Na) (N := 2) hx hb hts i_Na hown hK hP 0 rfl rfl 0 (by decide) (hts _ fl_Na_9) (fun _ h9 => h9) rfl d_Na_compareSum_47 ?_
        refine lv_iload hx hb d_Na_compareSum_50 (lv_at hl 0 rfl) ?_
        refine va_lald hx hb hK hP 1 0 rfl rfl (vp_in_nI (by omega) (by omega)) d_Na_compareSum_52 ?_
        refine lv_topl (fun x_9 e_10 => ?_)
        obtain rfl : x_9 = lN (bn_w X i) := e_10.trans (by rw [nI_clamp (by omega)]; rfl)
        refine lv_lsub hx hb d_Na_compareSum_53 ?_
        refine lv_topl (fun x_11 e_12 => ?_)
        obtain rfl : x_11 = lZ ((bn_w Z i : Int) - bn_w X i) := e_12.trans (lZ_nsub _ _)
        refine lv_aload_n hx hb d_Na_compareSum_54 rfl (lv_at hl 5 rfl) ?_
        refine va_get (D := (dC, dI)) (ci := 2) (v := .ref w) (C := R_Na) (T := F_Na) (N := 2) hx hb hts i_Na hown hK hP 0 rfl rfl 0 (by decide) (hts _ fl_Na_9) (fun _ h9 => h9) rfl d_Na_compareSum_55 ?_
        refine lv_iload hx hb d_Na_compareSum_58 (lv_at hl 0 rfl) ?_
        refine va_lald hx hb hK hP 1 0 rfl rfl (vp_in_nI (by omega) (by omega)) d_Na_compareSum_60 ?_
        refine lv_topl (fun x_13 e_14 => ?_)
        obtain rfl : x_13 = lN (bn_w X i) := e_14.trans (by rw [nI_clamp (by omega)]; rfl)
        refine lv_lsub hx hb d_Na_compareSum_61 ?_
        refine lv_topl (fun x_15 e_16 => ?_)
        obtain rfl : x_15 = lZ ((bn_w Z i : Int) - bn_w X i - bn_w X i) := e_16.trans (by rw [lZ_N]; exact lZ_sub _ _)
        refine lv_lload hx hb d_Na_compareSum_62 (lv_at hl 2 rfl) ?_
        refine lv_ladd hx hb d_Na_compareSum_64 ?_
        refine lv_topl (fun x_17 e_18 => ?_)
        obtain rfl : x_17 = lZ ((bn_w Z i : Int) - bn_w X i - bn_w X i + bn_e X X Z i) := e_18.trans (lZ_add _ _)
        refine lv_lstore (lv' := [(9, .long (lZ ((bn_w Z i : Int) - bn_w X i - bn_w X i + bn_e X X Z i))), (8, .int (nI i)), (6, .long sn), (4, .long (lZ (bn_e X X Z i))), (3, .int (nI M)), (0, .ref h), (1, .ref h), (2, .ref h3)]) hx hb d_Na_compareSum_65 hl (by decide) rfl (fun ls hl => ?_)
        refine lv_lload hx hb d_Na_compareSum_67 (lv_at hl 2 rfl) ?_
        refine lv_lload hx hb d_Na_compareSum_69 (lv_at hl 0 rfl) ?_
        refine lv_ldc2 (v := 4294967295) hx hb hown (hts _ kl_Na_17) d_Na_compareSum_71 ?_
        refine lv_land hx hb d_Na_compareSum_74 ?_
        refine lv_topl (fun x_19 e_20 => ?_)
        obtain rfl : x_19 = lN (((bn_w Z i : Int) - bn_w X i - bn_w X i + bn_e X X Z i) % 4294967296).toNat := e_20.trans (lZ_lo _)
        refine lv_lor hx hb d_Na_compareSum_75 ?_
        refine lv_topl (fun sn2 hsn2 => ?_)
        refine lv_lstore (lv' := [(6, .long sn2), (9, .long (lZ ((bn_w Z i : Int) - bn_w X i - bn_w X i + bn_e X X Z i))), (8, .int (nI i)), (4, .long (lZ (bn_e X X Z i))), (3, .int (nI M)), (0, .ref h), (1, .ref h), (2, .ref h3)]) hx hb d_Na_compareSum_76 hl (by decide) rfl (fun ls hl => ?_)
        refine lv_lload hx hb d_Na_compareSum_78 (lv_at hl 1 rfl) ?_
        refine lv_bipush (v := 32) hx hb d_Na_compareSum_80 (by decide) ?_
        refine lv_lshr (v := lZ (bn_e X X Z (i + 1))) hx hb d_Na_compareSum_82 ((lZ_shr (by decide) (by omega) (by omega)).trans (by rw [bn_e_succ])) ?_
        refine lv_lstore (lv' := [(4, .long (lZ (bn_e X X Z (i + 1)))), (6, .long sn2), (9, .long (lZ ((bn_w Z i : Int) - bn_w X i - bn_w X i + bn_e X X Z i))), (8, .int (nI i)), (3, .int (nI M)), (0, .ref h), (1, .ref h), (2, .ref h3)]) hx hb d_Na_compareSum_83 hl (by decide) rfl (fun ls hl => ?_)
        refine lv_iinc (v := nI (i + 1)) (lv' := [(8, .int (nI (i + 1))), (4, .long (lZ (bn_e X X Z (i + 1)))), (6, .long sn2), (9, .long (lZ ((bn_w Z i : Int) - bn_w X i - bn_w X i + bn_e X X Z i))), (3, .int (nI M)), (0, .ref h), (1, .ref h), (2, .ref h3)]) hx hb d_Na_compareSum_85 hl (k := 3) rfl (nI_1 i) (by decide) rfl (fun ls hl => ?_)
        refine lv_goto (tgt := 33) hx hb d_Na_compareSum_88 (by decide) ?_
        have hs2 : sn2 = 0 ↔ bn_d X X Z (i + 1) % (2 ^ (32 * (i + 1)) : Nat) = 0 := by
          rw [bn_z_succ, ← hs, hsn2, lZ_or]
          have hb : ∀ g : Int, (lN (g % 4294967296).toNat = 0) ↔ g % 4294967296 = 0 := fun g => by
            have := pk_lEQ (a := (g % 4294967296).toNat) (b := 0) (by omega) (by omega)
            exact this.trans (by omega)
          rw [hb]
        exact ih (i + 1) sn2 H locs ls (by omega) (by omega) hs2 hP hD hS (lv_sub hl [0, 2, 1, 4, 5, 6, 7] rfl)
  exact lp (M + 1) 0 0 H [] ls (by omega) (by omega) (by simp [Int.emod_one]) hP hD hS (by rw [bn_e_0]; exact lv_sub hl [0, 1, 2, 3, 4, 5, 6] rfl)
end
section
/-! TEXTS: a row holds the codes t from its start on -/
def tx (f : Nat → Int32) (t : List Nat) : Prop := ∀ j, j < t.length → f j = nI (t.getD j 0)
theorem tx_nil (f : Nat → Int32) : tx f [] := fun j h => absurd h (Nat.not_lt_zero j)
theorem tx_put {f : Nat → Int32} {t : List Nat} (ch : Nat) (h : tx f t) : tx (upd f t.length (nI ch)) (t ++ [ch]) := by
  intro j hj
  unfold upd
  by_cases e : j = t.length
  · subst e
    simp
  · have hlt : j < t.length := by
      rw [List.length_append, List.length_singleton] at hj
      omega
    rw [if_neg e, h j hlt, List.getD_eq_getElem?_getD, List.getD_eq_getElem?_getD, List.getElem?_append_left hlt]
theorem tx_nar {ch : Nat} (h : ch < 65536) : vp_nar .char (nI ch) = nI ch := by
  unfold vp_nar
  rw [(pk_charN h).1]
/-- what codeAt answers -/
def tx_at (t : List Nat) (k : Int32) : Int32 := if 0 ≤ k.toInt ∧ k.toInt < t.length then nI (t.getD k.toInt.toNat 0) else -1
theorem tx_at_in {t : List Nat} {j : Nat} (hj : j < t.length) (hb : j < 2 ^ 31) : tx_at t (nI j) = nI (t.getD j 0) := by
  unfold tx_at
  rw [nI_toInt hb, if_pos ⟨by omega, by omega⟩]
  rfl
theorem tx_at_neg {t : List Nat} {k : Int32} (h : k < 0) : tx_at t k = -1 := by
  unfold tx_at
  rw [Int32.lt_iff_toInt_lt, Int32.toInt_zero] at h
  rw [if_neg (by omega)]
theorem tx_at_out {t : List Nat} {k : Int32} (ht : t.length < 2 ^ 31) (h : nI t.length ≤ k) : tx_at t k = -1 := by
  unfold tx_at
  rw [Int32.le_iff_toInt_le, nI_toInt ht] at h
  rw [if_neg (by omega)]
/-- a whole number of at most four digits: a digit where the number reaches its unit -/
def dws (n U : Nat) : List Nat := if U ≤ n ∨ U = 1 then [48 + n / U % 10] else []
def dw (n : Nat) : List Nat := dws n 1000 ++ (dws n 100 ++ (dws n 10 ++ dws n 1))
theorem dws_len (n U : Nat) : (dws n U).length ≤ 1 := by
  unfold dws
  split <;> simp
def dwz (z : Int) : List Nat := (if z < 0 then [45] else []) ++ dw z.natAbs
theorem dw_len (n : Nat) : (dw n).length ≤ 4 := by
  unfold dw
  have h1 := dws_len n 1000
  have h2 := dws_len n 100
  have h3 := dws_len n 10
  have h4 := dws_len n 1
  simp only [List.length_append]
  omega
theorem dwz_len (z : Int) : (dwz z).length ≤ 5 := by
  unfold dwz
  have := dw_len z.natAbs
  by_cases h : z < 0 <;> simp [h] <;> omega
/-- the hexadecimal digits of fr, of p places, from place k - 1 down, but no zeros at the end -/
def hxc (v : Nat) : Nat := if v < 10 then 48 + v else 87 + v
def hxl (fr p : Nat) : Nat → List Nat
  | 0 => []
  | k + 1 => if k + 1 < p ∧ fr % 16 ^ (k + 1) = 0 then hxl fr p k else hxc (fr / 16 ^ k % 16) :: hxl fr p k
theorem hxl_len (fr p : Nat) : ∀ k, (hxl fr p k).length ≤ k := by
  intro k
  induction k with
  | zero => simp [hxl]
  | succ k ih =>
    unfold hxl
    split
    · omega
    · simp; omega
theorem hxc_lt {v : Nat} (h : v < 16) : hxc v < 128 := by
  unfold hxc
  split <;> omega
theorem hx_mod (fr k : Nat) : fr % 16 ^ (k + 1) = 16 ^ k * (fr / 16 ^ k % 16) + fr % 16 ^ k := by
  rw [Nat.pow_succ, Nat.mod_mul]
  omega
/-- below the last digit that isn't 0 nothing is written -/
theorem hxl_end {fr p : Nat} : ∀ k, k < p → fr % 16 ^ k = 0 → hxl fr p k = [] := by
  intro k
  induction k with
  | zero => intro _ _; rfl
  | succ k ih =>
    intro hk h0
    have h1 := hx_mod fr k
    have hp : 0 < 16 ^ k := Nat.pow_pos (by decide)
    have h2 : fr % 16 ^ k = 0 := by omega
    unfold hxl
    rw [if_pos ⟨hk, h0⟩]
    exact ih (by omega) h2
theorem hx_lo (n : Nat) : nI n &&& 15 = nI (n % 16) := by
  rw [pk_and (nI n) (m := 15) 4 (by decide)]
  congr 1
  show (BitVec.ofNat 32 n).toNat % 2 ^ 4 = _
  rw [BitVec.toNat_ofNat]
  omega
theorem hx_pow (i : Nat) : 2 ^ (4 * i) = 16 ^ i := by rw [Nat.pow_mul]
theorem hx_sh {fr i : Nat} (hf : fr < 2 ^ 64) (hi : i < 16) : ((lN fr).toUInt64 >>> (((4 : Int32) * nI i).toInt64.toUInt64 &&& Int64.toUInt64 63)).toInt64 = lN (fr / 16 ^ i) := by
  rw [show (4 : Int32) * nI i = nI (4 * i) from pk_mul 4 i, wb_shr hf (by omega), hx_pow]
theorem hx_dvd {fr a k : Nat} (h : a ≤ k) (h0 : fr % 16 ^ k = 0) : fr % 16 ^ a = 0 :=
  Nat.mod_eq_zero_of_dvd (Nat.dvd_trans (Nat.pow_dvd_pow 16 h) (Nat.dvd_of_mod_eq_zero h0))
theorem hxl_go {fr p k : Nat} (h : k + 1 < p → fr % 16 ^ (k + 1) ≠ 0) : hxl fr p (k + 1) = hxc (fr / 16 ^ k % 16) :: hxl fr p k := by
  rw [hxl, if_neg (fun q => h q.1 q.2)]
theorem iZ_abs {z : Int} (h1 : -2 ^ 30 < z) (h2 : z < 2 ^ 30) : (if 0 ≤ iZ z then iZ z else 0 - iZ z) = nI z.natAbs := by
  by_cases h : 0 ≤ z
  · rw [if_pos (show (0 : Int32) ≤ iZ z from (iZ_le (a := 0) (b := z) (by omega) (by omega) (by omega) (by omega)).mpr h), iZ_N]
    congr 1
    omega
  · rw [if_neg (show ¬ (0 : Int32) ≤ iZ z from fun q => h ((iZ_le (a := 0) (b := z) (by omega) (by omega) (by omega) (by omega)).mp q)), iZ_N]
    refine (iZ_sub 0 z).trans ?_
    congr 1
    omega
end
section
set_option maxHeartbeats 4000000 in
set_option maxRecDepth 100000 in
/-- clear -/
theorem c_Te_clear (l : Launch) (dC : Nat → ClassId) (dI : Nat → Nat → Nat) (sz : Nat) (h w : Nat) (cC : ClassId) (f : Nat → Int32) (ux : Int32)  : Met l y_Te_clear (Cond.code y_Te_clear b_Te_clear 1 none :: gT) ({ frames := 0, cells := 0, slots := 0, locals := 0 }) (va_Pc [.ref h] (pw_P (dC, dI) cls [(cC, .char)] pw_0 [(h, .inr (3, [.ref w, .int ux])), (w, .inl (cC, 64, .inl (f)))] sz)) (va_Qv (fun (uu : Unit) => True) (fun (uu : Unit) => pw_B (dC, dI) cls [(cC, .char)] (va_A [(h, .inr (3, [.ref w, .int ux])), (w, .inl (cC, 64, .inl (f)))] sz) [(h, .inr (3, [.ref w, .int 0])), (w, .inl (cC, 64, .inl (f)))]) (va_A [(h, .inr (3, [.ref w, .int ux])), (w, .inl (cC, 64, .inl (f)))] sz)) 0 0 (va_A [(h, .inr (3, [.ref w, .int ux])), (w, .inl (cC, 64, .inl (f)))] sz) := by
  refine pw_metv (tn := fun (uu : Unit) => [(cC, .char)]) (wn := fun (uu : Unit) => [(h, .inr (3, [.ref w, .int 0])), (w, .inl (cC, 64, .inl (f)))]) (by decide) (Nat.le_of_ble_eq_true rfl) ?_
  intro p e s m args below meth c A Q H ls hx hb hml hown hts hnm hA hE hP hK hD hS hret hl
  have hown : s.vm.findClass R_Te = some m.cls := hown
  have hl : lv_has ls 1 [(0, .ref h)] := hl
  refine lv_aload_n hx hb d_Te_clear_0 rfl (lv_at hl 0 rfl) ?_
  refine lv_iconst (v := 0) hx hb d_Te_clear_1 (by decide) ?_
  refine va_put (D := (dC, dI)) (ci := 3) (v := .int 0) (ty := .int) (C := R_Te) (T := F_Te) (N := 2) hx hb hts i_Te t_Te t_Te_ok n_Te hown hK hP hD hS 0 rfl rfl 1 (by decide) (hts _ fl_Te_13) (fun _ h9 => h9) rfl (by decide +kernel) rfl rfl (Nat.le_of_ble_eq_true rfl) d_Te_clear_2 (fun H locs hP hD hS => ?_)
  have hP : va_P (dC, dI) cls [(h, .inr (3, [.ref w, .int 0])), (w, .inl (cC, 64, .inl (f)))] H := hP
  have hD : va_D A [(h, .inr (3, [.ref w, .int 0])), (w, .inl (cC, 64, .inl (f)))] := hD
  exact hret _ _ _ _ () d_Te_clear_5 trivial hP hK hD hS
set_option maxHeartbeats 4000000 in
set_option maxRecDepth 100000 in
/-- put -/
theorem c_Te_put (l : Launch) (dC : Nat → ClassId) (dI : Nat → Nat → Nat) (sz : Nat) (h w : Nat) (cC : ClassId) (f : Nat → Int32) (t : List Nat) (ch : Nat) (hf : tx f t) (ht : t.length < 64) (hc : ch < 65536) : Met l y_Te_put (Cond.code y_Te_put b_Te_put 2 none :: gT) ({ frames := 0, cells := 0, slots := 0, locals := 0 }) (va_Pc [.ref h, .int (nI ch)] (pw_P (dC, dI) cls [(cC, .char)] pw_0 [(h, .inr (3, [.ref w, .int (nI t.length)])), (w, .inl (cC, 64, .inl (f)))] sz)) (va_Qv (fun (f2 : Nat → Int32) => tx f2 (t ++ [ch])) (fun (f2 : Nat → Int32) => pw_B (dC, dI) cls [(cC, .char)] (va_A [(h, .inr (3, [.ref w, .int (nI t.length)])), (w, .inl (cC, 64, .inl (f)))] sz) [(h, .inr (3, [.ref w, .int (nI (t ++ [ch]).length)])), (w, .inl (cC, 64, .inl (f2)))]) (va_A [(h, .inr (3, [.ref w, .int (nI t.length)])), (w, .inl (cC, 64, .inl (f)))] sz)) 0 0 (va_A [(h, .inr (3, [.ref w, .int (nI t.length)])), (w, .inl (cC, 64, .inl (f)))] sz) := by
  refine pw_metv (tn := fun (f2 : Nat → Int32) => [(cC, .char)]) (wn := fun (f2 : Nat → Int32) => [(h, .inr (3, [.ref w, .int (nI (t ++ [ch]).length)])), (w, .inl (cC, 64, .inl (f2)))]) (by decide) (Nat.le_of_ble_eq_true rfl) ?_
  intro p e s m args below meth c A Q H ls hx hb hml hown hts hnm hA hE hP hK hD hS hret hl
  have hown : s.vm.findClass R_Te = some m.cls := hown
  have hl : lv_has ls 2 [(0, .ref h), (1, .int (nI ch))] := hl
  refine lv_aload_n hx hb d_Te_put_0 rfl (lv_at hl 0 rfl) ?_
  refine va_get (D := (dC, dI)) (ci := 3) (v := .int (nI t.length)) (C := R_Te) (T := F_Te) (N := 2) hx hb hts i_Te hown hK hP 0 rfl rfl 1 (by decide) (hts _ fl_Te_13) (fun _ h9 => h9) rfl d_Te_put_1 ?_
  refine lv_if_lt (tgt := 39) hx hb d_Te_put_4 (by decide) (fun hq => ?_) (fun hq => ?_)
  · exact absurd hq (nI_pos (by omega))
  · refine lv_aload_n hx hb d_Te_put_7 rfl (lv_at hl 0 rfl) ?_
    refine va_get (D := (dC, dI)) (ci := 3) (v := .int (nI t.length)) (C := R_Te) (T := F_Te) (N := 2) hx hb hts i_Te hown hK hP 0 rfl rfl 1 (by decide) (hts _ fl_Te_13) (fun _ h9 => h9) rfl d_Te_put_8 ?_
    refine lv_aload_n hx hb d_Te_put_11 rfl (lv_at hl 0 rfl) ?_
    refine va_get (D := (dC, dI)) (ci := 3) (v := .ref w) (C := R_Te) (T := F_Te) (N := 2) hx hb hts i_Te hown hK hP 0 rfl rfl 0 (by decide) (hts _ fl_Te_9) (fun _ h9 => h9) rfl d_Te_put_12 ?_
    refine va_alen (v := nI 64) hx hb hK hP 1 0 rfl rfl rfl d_Te_put_15 ?_
    refine lv_icmp_ge (tgt := 39) hx hb d_Te_put_16 (by decide) (fun hq2 => ?_) (fun hq2 => ?_)
    · exact absurd ((nI_leI (a := 64) (b := t.length) (by omega) (by omega)).mp hq2) (by omega)
    · refine lv_aload_n hx hb d_Te_put_19 rfl (lv_at hl 0 rfl) ?_
      refine va_get (D := (dC, dI)) (ci := 3) (v := .ref w) (C := R_Te) (T := F_Te) (N := 2) hx hb hts i_Te hown hK hP 0 rfl rfl 0 (by decide) (hts _ fl_Te_9) (fun _ h9 => h9) rfl d_Te_put_20 ?_
      refine lv_aload_n hx hb d_Te_put_23 rfl (lv_at hl 0 rfl) ?_
      refine va_get (D := (dC, dI)) (ci := 3) (v := .int (nI t.length)) (C := R_Te) (T := F_Te) (N := 2) hx hb hts i_Te hown hK hP 0 rfl rfl 1 (by decide) (hts _ fl_Te_13) (fun _ h9 => h9) rfl d_Te_put_24 ?_
      refine lv_iload_n hx hb d_Te_put_27 rfl (lv_at hl 1 rfl) ?_
      refine va_cast hx hb hK hP hD hS 1 0 rfl rfl (vp_in_nI ht (by omega)) d_Te_put_28 (fun H locs hP hD hS => ?_)
      have e_1 : upd f (nI t.length).toNatClampNeg (vp_nar .char (nI ch)) = upd f t.length (nI ch) := by rw [nI_clamp (by omega), tx_nar hc]
      have hP : va_P (dC, dI) cls [(h, .inr (3, [.ref w, .int (nI t.length)])), (w, .inl (cC, 64, .inl (upd f t.length (nI ch))))] H := by rw [← e_1]; exact hP
      have hD : va_D A [(h, .inr (3, [.ref w, .int (nI t.length)])), (w, .inl (cC, 64, .inl (upd f t.length (nI ch))))] := by rw [← e_1]; exact hD
      refine lv_aload_n hx hb d_Te_put_29 rfl (lv_at hl 0 rfl) ?_
      refine lv_dup hx hb d_Te_put_30 rfl ?_
      refine va_get (D := (dC, dI)) (ci := 3) (v := .int (nI t.length)) (C := R_Te) (T := F_Te) (N := 2) hx hb hts i_Te hown hK hP 0 rfl rfl 1 (by decide) (hts _ fl_Te_13) (fun _ h9 => h9) rfl d_Te_put_31 ?_
      refine lv_iconst (v := 1) hx hb d_Te_put_34 (by decide) ?_
      refine lv_iadd hx hb d_Te_put_35 ?_
      refine lv_topi (fun x_2 e_3 => ?_)
      obtain rfl : x_2 = nI (t ++ [ch]).length := e_3.trans ((nI_1 _).trans (by rw [List.length_append]; rfl))
      refine va_put (D := (dC, dI)) (ci := 3) (v := .int (nI (t ++ [ch]).length)) (ty := .int) (C := R_Te) (T := F_Te) (N := 2) hx hb hts i_Te t_Te t_Te_ok n_Te hown hK hP hD hS 0 rfl rfl 1 (by decide) (hts _ fl_Te_13) (fun _ h9 => h9) rfl (by decide +kernel) rfl rfl (Nat.le_of_ble_eq_true rfl) d_Te_put_36 (fun H locs hP hD hS => ?_)
      have hP : va_P (dC, dI) cls [(h, .inr (3, [.ref w, .int (nI (t ++ [ch]).length)])), (w, .inl (cC, 64, .inl (upd f t.length (nI ch))))] H := hP
      have hD : va_D A [(h, .inr (3, [.ref w, .int (nI (t ++ [ch]).length)])), (w, .inl (cC, 64, .inl (upd f t.length (nI ch))))] := hD
      exact hret _ _ _ _ (upd f t.length (nI ch)) d_Te_put_39 (tx_put ch hf) hP hK hD hS
set_option maxHeartbeats 4000000 in
set_option maxRecDepth 100000 in
/-- codeAt -/
theorem c_Te_codeAt (l : Launch) (dC : Nat → ClassId) (dI : Nat → Nat → Nat) (sz : Nat) (h w : Nat) (cC : ClassId) (f : Nat → Int32) (t : List Nat) (k : Int32) (hf : tx f t) (ht : t.length ≤ 64) : Met l y_Te_codeAt (Cond.code y_Te_codeAt b_Te_codeAt 2 (some .int) :: gT) ({ frames := 0, cells := 0, slots := 0, locals := 0 }) (va_Pc [.ref h, .int k] (pw_P (dC, dI) cls [(cC, .char)] pw_0 [(h, .inr (3, [.ref w, .int (nI t.length)])), (w, .inl (cC, 64, .inl (f)))] sz)) (va_Qi (fun (r : Int32) (uu : Unit) => r = tx_at t k) (fun (uu : Unit) => pw_B (dC, dI) cls [(cC, .char)] (va_A [(h, .inr (3, [.ref w, .int (nI t.length)])), (w, .inl (cC, 64, .inl (f)))] sz) [(h, .inr (3, [.ref w, .int (nI t.length)])), (w, .inl (cC, 64, .inl (f)))]) (va_A [(h, .inr (3, [.ref w, .int (nI t.length)])), (w, .inl (cC, 64, .inl (f)))] sz)) 0 0 (va_A [(h, .inr (3, [.ref w, .int (nI t.length)])), (w, .inl (cC, 64, .inl (f)))] sz) := by
  refine pw_meti (tn := fun (uu : Unit) => [(cC, .char)]) (wn := fun (uu : Unit) => [(h, .inr (3, [.ref w, .int (nI t.length)])), (w, .inl (cC, 64, .inl (f)))]) (by decide) (Nat.le_of_ble_eq_true rfl) ?_
  intro p e s m args below meth c A Q H ls hx hb hml hown hts hA hE hP hK hD hS hret hl
  have hown : s.vm.findClass R_Te = some m.cls := hown
  have hl : lv_has ls 2 [(0, .ref h), (1, .int k)] := hl
  refine lv_iload_n hx hb d_Te_codeAt_0 rfl (lv_at hl 1 rfl) ?_
  refine lv_if_lt (tgt := 30) hx hb d_Te_codeAt_1 (by decide) (fun hq => ?_) (fun hq => ?_)
  · refine lv_iconst (v := (-1)) hx hb d_Te_codeAt_30 (by decide) ?_
    exact hret _ _ _ _ _ () d_Te_codeAt_31 (vp_nar_int _) (tx_at_neg hq).symm hP hK hD hS
  · refine lv_iload_n hx hb d_Te_codeAt_4 rfl (lv_at hl 1 rfl) ?_
    refine lv_aload_n hx hb d_Te_codeAt_5 rfl (lv_at hl 0 rfl) ?_
    refine va_get (D := (dC, dI)) (ci := 3) (v := .int (nI t.length)) (C := R_Te) (T := F_Te) (N := 2) hx hb hts i_Te hown hK hP 0 rfl rfl 1 (by decide) (hts _ fl_Te_13) (fun _ h9 => h9) rfl d_Te_codeAt_6 ?_
    refine lv_icmp_ge (tgt := 30) hx hb d_Te_codeAt_9 (by decide) (fun hq2 => ?_) (fun hq2 => ?_)
    · refine lv_iconst (v := (-1)) hx hb d_Te_codeAt_30 (by decide) ?_
      exact hret _ _ _ _ _ () d_Te_codeAt_31 (vp_nar_int _) (tx_at_out (by omega) hq2).symm hP hK hD hS
    · refine lv_iload_n hx hb d_Te_codeAt_12 rfl (lv_at hl 1 rfl) ?_
      refine lv_aload_n hx hb d_Te_codeAt_13 rfl (lv_at hl 0 rfl) ?_
      refine va_get (D := (dC, dI)) (ci := 3) (v := .ref w) (C := R_Te) (T := F_Te) (N := 2) hx hb hts i_Te hown hK hP 0 rfl rfl 0 (by decide) (hts _ fl_Te_9) (fun _ h9 => h9) rfl d_Te_codeAt_14 ?_
      refine va_alen (v := nI 64) hx hb hK hP 1 0 rfl rfl rfl d_Te_codeAt_17 ?_
      obtain ⟨j, hj, rfl⟩ : ∃ j : Nat, j < t.length ∧ k = nI j := by
        obtain ⟨j, hj, rfl⟩ := nI_of hq
        exact ⟨j, by have := mt (nI_leI (a := t.length) (b := j) (by omega) hj).mpr hq2; omega, rfl⟩
      refine lv_icmp_ge (tgt := 30) hx hb d_Te_codeAt_18 (by decide) (fun hq3 => ?_) (fun hq3 => ?_)
      · exact absurd ((nI_leI (a := 64) (b := j) (by omega) (by omega)).mp hq3) (by omega)
      · refine lv_aload_n hx hb d_Te_codeAt_21 rfl (lv_at hl 0 rfl) ?_
        refine va_get (D := (dC, dI)) (ci := 3) (v := .ref w) (C := R_Te) (T := F_Te) (N := 2) hx hb hts i_Te hown hK hP 0 rfl rfl 0 (by decide) (hts _ fl_Te_9) (fun _ h9 => h9) rfl d_Te_codeAt_22 ?_
        refine lv_iload_n hx hb d_Te_codeAt_25 rfl (lv_at hl 1 rfl) ?_
        refine va_cald hx hb hK hP 1 0 rfl rfl (vp_in_nI (by omega) (by omega)) d_Te_codeAt_26 ?_
        refine lv_topi (fun x_1 e_2 => ?_)
        obtain rfl : x_1 = nI (t.getD j 0) := e_2.trans (by rw [nI_clamp (by omega)]; exact hf j hj)
        refine lv_goto (tgt := 31) hx hb d_Te_codeAt_27 (by decide) ?_
        exact hret _ _ _ _ _ () d_Te_codeAt_31 (vp_nar_int _) (tx_at_in hj (by omega)).symm hP hK hD hS
set_option maxHeartbeats 4000000 in
set_option maxRecDepth 100000 in
/-- hexDigit -/
theorem c_Te_hexDigit (l : Launch) (dC : Nat → ClassId) (dI : Nat → Nat → Nat) (sz : Nat) (v : Nat) (hv : v < 16) : Met l y_Te_hexDigit (Cond.code y_Te_hexDigit b_Te_hexDigit 1 (some .char) :: gT) ({ frames := 0, cells := 0, slots := 0, locals := 0 }) (va_Pc [.int (nI v)] (pw_P (dC, dI) cls [] pw_0 [] sz)) (va_Qi (fun (r : Int32) (uu : Unit) => r = nI (hxc v)) (fun (uu : Unit) => pw_B (dC, dI) cls [] (va_A [] sz) []) (va_A [] sz)) 0 0 (va_A [] sz) := by
  refine pw_meti (tn := fun (uu : Unit) => []) (wn := fun (uu : Unit) => []) (by decide) (Nat.le_of_ble_eq_true rfl) ?_
  intro p e s m args below meth c A Q H ls hx hb hml hown hts hA hE hP hK hD hS hret hl
  have hown : s.vm.findClass R_Te = some m.cls := hown
  have hl : lv_has ls 1 [(0, .int (nI v))] := hl
  refine lv_iload_n hx hb d_Te_hexDigit_0 rfl (lv_at hl 0 rfl) ?_
  refine lv_bipush (v := 10) hx hb d_Te_hexDigit_1 (by decide) ?_
  refine lv_icmp_ge (tgt := 13) hx hb d_Te_hexDigit_3 (by decide) (fun hq => ?_) (fun hq => ?_)
  · have h10 : 10 ≤ v := (nI_leI (a := 10) (b := v) (by omega) (by omega)).mp hq
    have e1 : hxc v = 87 + v := if_neg (by omega)
    refine lv_bipush (v := 97) hx hb d_Te_hexDigit_13 (by decide) ?_
    refine lv_iload_n hx hb d_Te_hexDigit_15 rfl (lv_at hl 0 rfl) ?_
    refine lv_iadd hx hb d_Te_hexDigit_16 ?_
    refine lv_bipush (v := 10) hx hb d_Te_hexDigit_17 (by decide) ?_
    refine lv_isub hx hb d_Te_hexDigit_19 ?_
    refine lv_topi (fun x_1 e_2 => ?_)
    obtain rfl : x_1 = nI (hxc v) := e_2.trans (by rw [e1, show (97 : Int32) = nI 97 from rfl, nI_add, show (10 : Int32) = nI 10 from rfl, pk_sub (by omega)]; congr 1; omega)
    refine lv_i2c (v := nI (hxc v)) hx hb d_Te_hexDigit_20 ((pk_char _).trans (by rw [pk_tn (by have := hxc_lt hv; omega), Nat.mod_eq_of_lt (by have := hxc_lt hv; omega)])) ?_
    exact hret _ _ _ _ _ () d_Te_hexDigit_21 (pk_charN (by have := hxc_lt hv; omega)).1 rfl hP hK hD hS
  · have h10 : v < 10 := by have := mt (nI_leI (a := 10) (b := v) (by omega) (by omega)).mpr hq; omega
    have e1 : hxc v = 48 + v := if_pos (by omega)
    refine lv_bipush (v := 48) hx hb d_Te_hexDigit_6 (by decide) ?_
    refine lv_iload_n hx hb d_Te_hexDigit_8 rfl (lv_at hl 0 rfl) ?_
    refine lv_iadd hx hb d_Te_hexDigit_9 ?_
    refine lv_topi (fun x_3 e_4 => ?_)
    obtain rfl : x_3 = nI (hxc v) := e_4.trans (by rw [e1, show (48 : Int32) = nI 48 from rfl, nI_add])
    refine lv_goto (tgt := 20) hx hb d_Te_hexDigit_10 (by decide) ?_
    refine lv_i2c (v := nI (hxc v)) hx hb d_Te_hexDigit_20 ((pk_char _).trans (by rw [pk_tn (by have := hxc_lt hv; omega), Nat.mod_eq_of_lt (by have := hxc_lt hv; omega)])) ?_
    exact hret _ _ _ _ _ () d_Te_hexDigit_21 (pk_charN (by have := hxc_lt hv; omega)).1 rfl hP hK hD hS
end
section
set_option maxHeartbeats 4000000 in
set_option maxRecDepth 100000 in
/-- putWhole -/
theorem c_Te_putWhole (l : Launch) (dC : Nat → ClassId) (dI : Nat → Nat → Nat) (sz : Nat) (h w : Nat) (cC : ClassId) (f : Nat → Int32) (t : List Nat) (z : Int) (hf : tx f t) (ht : t.length + 5 ≤ 64) (hz1 : -10000 < z) (hz2 : z < 10000) : Met l y_Te_putWhole (Cond.code y_Te_putWhole b_Te_putWhole 4 none :: gT) ({ frames := 1, cells := 0, slots := 0, locals := 21 }) (va_Pc [.ref h, .int (iZ z)] (pw_P (dC, dI) cls [(cC, .char)] pw_0 [(h, .inr (3, [.ref w, .int (nI t.length)])), (w, .inl (cC, 64, .inl (f)))] sz)) (va_Qv (fun (f2 : Nat → Int32) => tx f2 (t ++ dwz z)) (fun (f2 : Nat → Int32) => pw_B (dC, dI) cls [(cC, .char)] (va_A [(h, .inr (3, [.ref w, .int (nI t.length)])), (w, .inl (cC, 64, .inl (f)))] sz) [(h, .inr (3, [.ref w, .int (nI (t ++ dwz z).length)])), (w, .inl (cC, 64, .inl (f2)))]) (va_A [(h, .inr (3, [.ref w, .int (nI t.length)])), (w, .inl (cC, 64, .inl (f)))] sz)) 0 0 (va_A [(h, .inr (3, [.ref w, .int (nI t.length)])), (w, .inl (cC, 64, .inl (f)))] sz) := by
  refine pw_metv (tn := fun (f2 : Nat → Int32) => [(cC, .char)]) (wn := fun (f2 : Nat → Int32) => [(h, .inr (3, [.ref w, .int (nI (t ++ dwz z).length)])), (w, .inl (cC, 64, .inl (f2)))]) (by decide) (Nat.le_of_ble_eq_true rfl) ?_
  intro p e s m args below meth c A Q H ls hx hb hml hown hts hnm hA hE hP hK hD hS hret hl
  have hown : s.vm.findClass R_Te = some m.cls := hown
  have hl : lv_has ls 4 [(0, .ref h), (1, .int (iZ z))] := hl
  have un : ∀ (U U2 : Nat) (f : Nat → Int32) (tt : List Nat) (H : Heap) (locs : List Loc) (ls : Array Slot), 0 < U → U ≤ 1000 → U / 10 = U2 → tx f tt → tt.length < 64 → (∀ (f : Nat → Int32) (H : Heap) (locs : List Loc) (ls : Array Slot), tx f (tt ++ dws z.natAbs U) → va_P (dC, dI) cls [(h, .inr (3, [.ref w, .int (nI (tt ++ dws z.natAbs U).length)])), (w, .inl (cC, 64, .inl (f)))] H → va_D A [(h, .inr (3, [.ref w, .int (nI (tt ++ dws z.natAbs U).length)])), (w, .inl (cC, 64, .inl (f)))] → va_S A s.heap H locs → lv_has ls 4 [(3, .int (nI U2)), (2, .int (nI z.natAbs)), (0, .ref h), (1, .int (iZ z))] → W p l e { frames := 1, cells := 0, slots := 0, locals := 21 } s m args below meth c H locs 0 0 Q (F0 m 19 ls [])) → va_P (dC, dI) cls [(h, .inr (3, [.ref w, .int (nI tt.length)])), (w, .inl (cC, 64, .inl (f)))] H → va_D A [(h, .inr (3, [.ref w, .int (nI tt.length)])), (w, .inl (cC, 64, .inl (f)))] → va_S A s.heap H locs → lv_has ls 4 [(3, .int (nI U)), (2, .int (nI z.natAbs)), (0, .ref h), (1, .int (iZ z))] → W p l e { frames := 1, cells := 0, slots := 0, locals := 21 } s m args below meth c H locs 0 0 Q (F0 m 19 ls []) := by
    intro U U2 f tt H locs ls hU hU1 hU2 hf ht kk hP hD hS hl
    refine lv_iload_n hx hb d_Te_putWhole_19 rfl (lv_at hl 0 rfl) ?_
    refine lv_iconst (v := 1) hx hb d_Te_putWhole_20 (by decide) ?_
    refine lv_icmp_lt (tgt := 56) hx hb d_Te_putWhole_21 (by decide) (fun hq => ?_) (fun hq => ?_)
    · exact absurd ((nI_ltI (a := U) (b := 1) (by omega) (by omega)).mp hq) (by omega)
    · refine lv_iload_n hx hb d_Te_putWhole_24 rfl (lv_at hl 1 rfl) ?_
      refine lv_iload_n hx hb d_Te_putWhole_25 rfl (lv_at hl 0 rfl) ?_
      refine lv_icmp_ge (tgt := 34) hx hb d_Te_putWhole_26 (by decide) (fun hq2 => ?_) (fun hq2 => ?_)
      · have hge : U ≤ z.natAbs := (nI_leI (by omega) (by omega)).mp hq2
        have hd : dws z.natAbs U = [48 + z.natAbs / U % 10] := if_pos (Or.inl hge)
        rw [hd] at kk
        refine lv_aload_n hx hb d_Te_putWhole_34 rfl (lv_at hl 2 rfl) ?_
        refine lv_bipush (v := 48) hx hb d_Te_putWhole_35 (by decide) ?_
        refine lv_iload_n hx hb d_Te_putWhole_37 rfl (lv_at hl 1 rfl) ?_
        refine lv_iload_n hx hb d_Te_putWhole_38 rfl (lv_at hl 0 rfl) ?_
        have hne : ¬ nI U = 0 := nI_ne0 hU (by omega)
        refine lv_idiv hx hb d_Te_putWhole_39 hne ?_
        refine lv_topi (fun x_1 e_2 => ?_)
        obtain rfl : x_1 = nI (z.natAbs / U) := e_2.trans (pk_div (by omega) hU (by omega))
        refine lv_bipush (v := 10) hx hb d_Te_putWhole_40 (by decide) ?_
        refine lv_irem hx hb d_Te_putWhole_42 (by decide) ?_
        refine lv_topi (fun x_3 e_4 => ?_)
        obtain rfl : x_3 = nI (z.natAbs / U % 10) := e_4.trans (pk_rem (d := 10) (by have := Nat.div_le_self z.natAbs U; omega) (by omega) (by omega))
        refine lv_iadd hx hb d_Te_putWhole_43 ?_
        refine lv_topi (fun x_5 e_6 => ?_)
        obtain rfl : x_5 = nI (48 + z.natAbs / U % 10) := e_6.trans (nI_add 48 _)
        refine lv_i2c (v := nI (48 + z.natAbs / U % 10)) hx hb d_Te_putWhole_44 ((pk_char _).trans (by rw [pk_tn (by omega), Nat.mod_eq_of_lt (by omega)])) ?_
        refine pw_callv (wc := [(h, .inr (3, [.ref w, .int (nI tt.length)])), (w, .inl (cC, 64, .inl (f)))]) (wr := []) [0, 1] [] rfl rfl rfl (by decide) (by decide) (by decide) hP hD hS hA (fun hPc hDc hF => va_runV (As := [.int (nI (48 + z.natAbs / U % 10))]) (rest := []) ⟨hx, hb, hml, hown, hts⟩ (c_Te_put l dC dI H.size h w cC f tt (48 + z.natAbs / U % 10) hf ht (by omega)) (cwV 1 hts (gw_V (gw_self cod_Te_put) ml_Te_27 im_Te_put sel_Te_put ini_Te) rfl rfl rfl (by decide +kernel) ⟨Nat.le_of_ble_eq_true rfl, Nat.le_of_ble_eq_true rfl⟩) (pw_preV pw_0_ok (trivial : pw_0 A s s.heap) hS hF hPc hDc (hK.sub [0] rfl) (va_recv hK hPc (ci := 3) (q0 := 0) rfl rfl)) rfl rfl hl.1 rfl (lv_room (Nat.le_of_ble_eq_true rfl)) d_Te_putWhole_45 ⟨Nat.le_of_ble_eq_true rfl, Nat.le_of_ble_eq_true rfl⟩) (fun f3 H locs hw3 hK1 hP hD hS => ?_)
        have hP : va_P (dC, dI) cls [(h, .inr (3, [.ref w, .int (nI (tt ++ [48 + z.natAbs / U % 10]).length)])), (w, .inl (cC, 64, .inl (f3)))] H := hP
        have hD : va_D A [(h, .inr (3, [.ref w, .int (nI (tt ++ [48 + z.natAbs / U % 10]).length)])), (w, .inl (cC, 64, .inl (f3)))] := hD
        refine lv_iload_n hx hb d_Te_putWhole_48 rfl (lv_at hl 0 rfl) ?_
        refine lv_bipush (v := 10) hx hb d_Te_putWhole_49 (by decide) ?_
        refine lv_idiv hx hb d_Te_putWhole_51 (by decide) ?_
        refine lv_topi (fun x_7 e_8 => ?_)
        obtain rfl : x_7 = nI U2 := e_8.trans ((pk_div (d := 10) (by omega) (by omega) (by omega)).trans (by rw [hU2]))
        refine lv_istore_n (lv' := [(3, .int (nI U2)), (2, .int (nI z.natAbs)), (0, .ref h), (1, .int (iZ z))]) hx hb d_Te_putWhole_52 rfl hl (by decide) rfl (fun ls hl => ?_)
        refine lv_goto (tgt := 19) hx hb d_Te_putWhole_53 (by decide) ?_
        exact kk f3 H _ ls hw3 hP hD hS (lv_sub hl [0, 1, 2, 3] rfl)
      · have hlt : z.natAbs < U := by have := mt (nI_leI (a := U) (b := z.natAbs) (by omega) (by omega)).mpr hq2; omega
        refine lv_iload_n hx hb d_Te_putWhole_29 rfl (lv_at hl 0 rfl) ?_
        refine lv_iconst (v := 1) hx hb d_Te_putWhole_30 (by decide) ?_
        refine lv_icmp_ne (tgt := 48) hx hb d_Te_putWhole_31 (by decide) (fun hq3 => ?_) (fun hq3 => ?_)
        · have hne : U ≠ 1 := fun e => hq3 (by rw [e]; rfl)
          have hd : dws z.natAbs U = [] := if_neg (by omega)
          rw [hd, List.append_nil] at kk
          refine lv_iload_n hx hb d_Te_putWhole_48 rfl (lv_at hl 0 rfl) ?_
          refine lv_bipush (v := 10) hx hb d_Te_putWhole_49 (by decide) ?_
          refine lv_idiv hx hb d_Te_putWhole_51 (by decide) ?_
          refine lv_topi (fun x_9 e_10 => ?_)
          obtain rfl : x_9 = nI U2 := e_10.trans ((pk_div (d := 10) (by omega) (by omega) (by omega)).trans (by rw [hU2]))
          refine lv_istore_n (lv' := [(3, .int (nI U2)), (2, .int (nI z.natAbs)), (0, .ref h), (1, .int (iZ z))]) hx hb d_Te_putWhole_52 rfl hl (by decide) rfl (fun ls hl => ?_)
          refine lv_goto (tgt := 19) hx hb d_Te_putWhole_53 (by decide) ?_
          exact kk f H _ ls hf hP hD hS (lv_sub hl [0, 1, 2, 3] rfl)
        · have h1 : U = 1 := (nI_eq (a := U) (b := 1) (by omega) (by omega)).mp hq3
          have hd : dws z.natAbs U = [48 + z.natAbs / U % 10] := if_pos (Or.inr h1)
          rw [hd] at kk
          refine lv_aload_n hx hb d_Te_putWhole_34 rfl (lv_at hl 2 rfl) ?_
          refine lv_bipush (v := 48) hx hb d_Te_putWhole_35 (by decide) ?_
          refine lv_iload_n hx hb d_Te_putWhole_37 rfl (lv_at hl 1 rfl) ?_
          refine lv_iload_n hx hb d_Te_putWhole_38 rfl (lv_at hl 0 rfl) ?_
          have hne : ¬ nI U = 0 := nI_ne0 hU (by omega)
          refine lv_idiv hx hb d_Te_putWhole_39 hne ?_
          refine lv_topi (fun x_11 e_12 => ?_)
          obtain rfl : x_11 = nI (z.natAbs / U) := e_12.trans (pk_div (by omega) hU (by omega))
          refine lv_bipush (v := 10) hx hb d_Te_putWhole_40 (by decide) ?_
          refine lv_irem hx hb d_Te_putWhole_42 (by decide) ?_
          refine lv_topi (fun x_13 e_14 => ?_)
          obtain rfl : x_13 = nI (z.natAbs / U % 10) := e_14.trans (pk_rem (d := 10) (by have := Nat.div_le_self z.natAbs U; omega) (by omega) (by omega))
          refine lv_iadd hx hb d_Te_putWhole_43 ?_
          refine lv_topi (fun x_15 e_16 => ?_)
          obtain rfl : x_15 = nI (48 + z.natAbs / U % 10) := e_16.trans (nI_add 48 _)
          refine lv_i2c (v := nI (48 + z.natAbs / U % 10)) hx hb d_Te_putWhole_44 ((pk_char _).trans (by rw [pk_tn (by omega), Nat.mod_eq_of_lt (by omega)])) ?_
          refine pw_callv (wc := [(h, .inr (3, [.ref w, .int (nI tt.length)])), (w, .inl (cC, 64, .inl (f)))]) (wr := []) [0, 1] [] rfl rfl rfl (by decide) (by decide) (by decide) hP hD hS hA (fun hPc hDc hF => va_runV (As := [.int (nI (48 + z.natAbs / U % 10))]) (rest := []) ⟨hx, hb, hml, hown, hts⟩ (c_Te_put l dC dI H.size h w cC f tt (48 + z.natAbs / U % 10) hf ht (by omega)) (cwV 1 hts (gw_V (gw_self cod_Te_put) ml_Te_27 im_Te_put sel_Te_put ini_Te) rfl rfl rfl (by decide +kernel) ⟨Nat.le_of_ble_eq_true rfl, Nat.le_of_ble_eq_true rfl⟩) (pw_preV pw_0_ok (trivial : pw_0 A s s.heap) hS hF hPc hDc (hK.sub [0] rfl) (va_recv hK hPc (ci := 3) (q0 := 0) rfl rfl)) rfl rfl hl.1 rfl (lv_room (Nat.le_of_ble_eq_true rfl)) d_Te_putWhole_45 ⟨Nat.le_of_ble_eq_true rfl, Nat.le_of_ble_eq_true rfl⟩) (fun f3 H locs hw3 hK1 hP hD hS => ?_)
          have hP : va_P (dC, dI) cls [(h, .inr (3, [.ref w, .int (nI (tt ++ [48 + z.natAbs / U % 10]).length)])), (w, .inl (cC, 64, .inl (f3)))] H := hP
          have hD : va_D A [(h, .inr (3, [.ref w, .int (nI (tt ++ [48 + z.natAbs / U % 10]).length)])), (w, .inl (cC, 64, .inl (f3)))] := hD
          refine lv_iload_n hx hb d_Te_putWhole_48 rfl (lv_at hl 0 rfl) ?_
          refine lv_bipush (v := 10) hx hb d_Te_putWhole_49 (by decide) ?_
          refine lv_idiv hx hb d_Te_putWhole_51 (by decide) ?_
          refine lv_topi (fun x_17 e_18 => ?_)
          obtain rfl : x_17 = nI U2 := e_18.trans ((pk_div (d := 10) (by omega) (by omega) (by omega)).trans (by rw [hU2]))
          refine lv_istore_n (lv' := [(3, .int (nI U2)), (2, .int (nI z.natAbs)), (0, .ref h), (1, .int (iZ z))]) hx hb d_Te_putWhole_52 rfl hl (by decide) rfl (fun ls hl => ?_)
          refine lv_goto (tgt := 19) hx hb d_Te_putWhole_53 (by decide) ?_
          exact kk f3 H _ ls hw3 hP hD hS (lv_sub hl [0, 1, 2, 3] rfl)
  have k10 : ∀ (f : Nat → Int32) (t1 : List Nat) (H : Heap) (locs : List Loc) (ls : Array Slot), tx f t1 → t1.length + 4 ≤ 64 → t1 ++ dw z.natAbs = t ++ dwz z → va_P (dC, dI) cls [(h, .inr (3, [.ref w, .int (nI t1.length)])), (w, .inl (cC, 64, .inl (f)))] H → va_D A [(h, .inr (3, [.ref w, .int (nI t1.length)])), (w, .inl (cC, 64, .inl (f)))] → va_S A s.heap H locs → lv_has ls 4 [(0, .ref h), (1, .int (iZ z))] → W p l e { frames := 1, cells := 0, slots := 0, locals := 21 } s m args below meth c H locs 0 0 Q (F0 m 10 ls []) := by
    intro f t1 H locs ls hf ht1 he hP hD hS hl
    refine lv_iload_n hx hb d_Te_putWhole_10 rfl (lv_at hl 1 rfl) ?_
    refine va_mabs hx hb (hml.trans hl.1.symm) hown (hts _ ml_Te_31) (hts _ sta_Ma_abs) (hts _ ini_Ma) (hts _ cod_Ma_abs) (Nat.le_of_ble_eq_true rfl) (Nat.le_of_ble_eq_true rfl) (Nat.zero_le _) (Nat.zero_le _) d_Te_putWhole_11 ?_
    refine lv_topi (fun x_19 e_20 => ?_)
    obtain rfl : x_19 = nI z.natAbs := e_20.trans (iZ_abs (by omega) (by omega))
    refine lv_istore_n (lv' := [(2, .int (nI z.natAbs)), (0, .ref h), (1, .int (iZ z))]) hx hb d_Te_putWhole_14 rfl hl (by decide) rfl (fun ls hl => ?_)
    refine lv_sipush (v := 1000) hx hb d_Te_putWhole_15 (by decide) ?_
    refine lv_istore_n (lv' := [(3, .int 1000), (2, .int (nI z.natAbs)), (0, .ref h), (1, .int (iZ z))]) hx hb d_Te_putWhole_18 rfl hl (by decide) rfl (fun ls hl => ?_)
    have g1 := dws_len z.natAbs 1000
    have g2 := dws_len z.natAbs 100
    have g3 := dws_len z.natAbs 10
    have g4 := dws_len z.natAbs 1
    refine un 1000 100 f t1 H _ ls (by omega) (by omega) rfl hf (by omega) ?_ hP hD hS (lv_sub hl [0, 1, 2, 3] rfl)
    intro f H locs ls hf hP hD hS hl
    refine un 100 10 f _ H _ ls (by omega) (by omega) rfl hf (by simp only [List.length_append]; omega) ?_ hP hD hS hl
    intro f H locs ls hf hP hD hS hl
    refine un 10 1 f _ H _ ls (by omega) (by omega) rfl hf (by simp only [List.length_append]; omega) ?_ hP hD hS hl
    intro f H locs ls hf hP hD hS hl
    refine un 1 0 f _ H _ ls (by omega) (by omega) rfl hf (by simp only [List.length_append]; omega) ?_ hP hD hS hl
    intro f H locs ls hf hP hD hS hl
    have he2 : t1 ++ dws z.natAbs 1000 ++ dws z.natAbs 100 ++ dws z.natAbs 10 ++ dws z.natAbs 1 = t ++ dwz z := by rw [← he]; simp [dw, List.append_assoc]
    rw [he2] at hf hP hD
    refine lv_iload_n hx hb d_Te_putWhole_19 rfl (lv_at hl 0 rfl) ?_
    refine lv_iconst (v := 1) hx hb d_Te_putWhole_20 (by decide) ?_
    refine lv_icmp_lt (tgt := 56) hx hb d_Te_putWhole_21 (by decide) (fun hq => ?_) (fun hq => ?_)
    · exact hret _ _ _ _ f d_Te_putWhole_56 hf hP hK hD hS
    · exact absurd ((nI_ltI (a := 0) (b := 1) (by omega) (by omega)).mpr (by omega)) hq
  refine lv_iload_n hx hb d_Te_putWhole_0 rfl (lv_at hl 1 rfl) ?_
  refine lv_if_ge (tgt := 10) hx hb d_Te_putWhole_1 (by decide) (fun hq => ?_) (fun hq => ?_)
  · have hz : ¬ z < 0 := by have := (iZ_le (a := 0) (b := z) (by omega) (by omega) (by omega) (by omega)).mp hq; omega
    exact k10 f t H [] ls hf (by omega) (by rw [dwz, if_neg hz, List.nil_append]) hP hD hS (lv_sub hl [0, 1] rfl)
  · have hz : z < 0 := by have := mt (iZ_le (a := 0) (b := z) (by omega) (by omega) (by omega) (by omega)).mpr hq; omega
    refine lv_aload_n hx hb d_Te_putWhole_4 rfl (lv_at hl 0 rfl) ?_
    refine lv_bipush (v := 45) hx hb d_Te_putWhole_5 (by decide) ?_
    refine pw_callv (wc := [(h, .inr (3, [.ref w, .int (nI t.length)])), (w, .inl (cC, 64, .inl (f)))]) (wr := []) [0, 1] [] rfl rfl rfl (by decide) (by decide) (by decide) hP hD hS hA (fun hPc hDc hF => va_runV (As := [.int 45]) (rest := []) ⟨hx, hb, hml, hown, hts⟩ (c_Te_put l dC dI H.size h w cC f t 45 hf (by omega) (by omega)) (cwV 1 hts (gw_V (gw_self cod_Te_put) ml_Te_27 im_Te_put sel_Te_put ini_Te) rfl rfl rfl (by decide +kernel) ⟨Nat.le_of_ble_eq_true rfl, Nat.le_of_ble_eq_true rfl⟩) (pw_preV pw_0_ok (trivial : pw_0 A s s.heap) hS hF hPc hDc (hK.sub [0] rfl) (va_recv hK hPc (ci := 3) (q0 := 0) rfl rfl)) rfl rfl hl.1 rfl (lv_room (Nat.le_of_ble_eq_true rfl)) d_Te_putWhole_7 ⟨Nat.le_of_ble_eq_true rfl, Nat.le_of_ble_eq_true rfl⟩) (fun f3 H locs hw3 hK1 hP hD hS => ?_)
    have hP : va_P (dC, dI) cls [(h, .inr (3, [.ref w, .int (nI (t ++ [45]).length)])), (w, .inl (cC, 64, .inl (f3)))] H := hP
    have hD : va_D A [(h, .inr (3, [.ref w, .int (nI (t ++ [45]).length)])), (w, .inl (cC, 64, .inl (f3)))] := hD
    exact k10 f3 (t ++ [45]) H locs ls hw3 (by rw [List.length_append, List.length_singleton]; omega) (by rw [dwz, if_pos hz, List.append_assoc]) hP hD hS (lv_sub hl [0, 1] rfl)
set_option maxHeartbeats 4000000 in
set_option maxRecDepth 100000 in
/-- putHexPlaces -/
theorem c_Te_putHexPlaces (l : Launch) (dC : Nat → ClassId) (dI : Nat → Nat → Nat) (sz : Nat) (h w : Nat) (cC : ClassId) (f : Nat → Int32) (t : List Nat) (fr q : Nat) (hf : tx f t) (ht : t.length + q ≤ 64) (hq0 : 0 < q) (hq1 : q ≤ 13) (hfr : fr < 2 ^ 63) : Met l y_Te_putHexPlaces (Cond.code y_Te_putHexPlaces b_Te_putHexPlaces 6 none :: gT) ({ frames := 1, cells := 0, slots := 0, locals := 25 }) (va_Pc [.ref h, .long (lN fr), .int (nI q)] (pw_P (dC, dI) cls [(cC, .char)] pw_0 [(h, .inr (3, [.ref w, .int (nI t.length)])), (w, .inl (cC, 64, .inl (f)))] sz)) (va_Qv (fun (f2 : Nat → Int32) => tx f2 (t ++ hxl fr q q)) (fun (f2 : Nat → Int32) => pw_B (dC, dI) cls [(cC, .char)] (va_A [(h, .inr (3, [.ref w, .int (nI t.length)])), (w, .inl (cC, 64, .inl (f)))] sz) [(h, .inr (3, [.ref w, .int (nI (t ++ hxl fr q q).length)])), (w, .inl (cC, 64, .inl (f2)))]) (va_A [(h, .inr (3, [.ref w, .int (nI t.length)])), (w, .inl (cC, 64, .inl (f)))] sz)) 0 0 (va_A [(h, .inr (3, [.ref w, .int (nI t.length)])), (w, .inl (cC, 64, .inl (f)))] sz) := by
  refine pw_metv (tn := fun (f2 : Nat → Int32) => [(cC, .char)]) (wn := fun (f2 : Nat → Int32) => [(h, .inr (3, [.ref w, .int (nI (t ++ hxl fr q q).length)])), (w, .inl (cC, 64, .inl (f2)))]) (by decide) (Nat.le_of_ble_eq_true rfl) ?_
  intro p e s m args below meth c A Q H ls hx hb hml hown hts hnm hA hE hP hK hD hS hret hl
  have hown : s.vm.findClass R_Te = some m.cls := hown
  have hl : lv_has ls 6 [(0, .ref h), (1, .long (lN fr)), (3, .int (nI q))] := hl
  have lp2 : ∀ (n k a : Nat) (f : Nat → Int32) (tt : List Nat) (H : Heap) (locs : List Loc) (ls : Array Slot), (k < n) → (a ≤ k) → (k ≤ q) → (a < q) → (fr % 16 ^ a = 0) → (a + 1 < q → fr % 16 ^ (a + 1) ≠ 0) → (tx f tt) → (tt ++ hxl fr q k = t ++ hxl fr q q) → (tt.length + k ≤ 64) → va_P (dC, dI) cls [(h, .inr (3, [.ref w, .int (nI tt.length)])), (w, .inl (cC, 64, .inl (f)))] H → va_D A [(h, .inr (3, [.ref w, .int (nI tt.length)])), (w, .inl (cC, 64, .inl (f)))] → va_S A s.heap H locs → lv_has ls 6 [(5, .int (iZ ((k : Int) - 1))), (4, .int (nI a)), (0, .ref h), (1, .long (lN fr)), (3, .int (nI q))] → W p l e { frames := 1, cells := 0, slots := 0, locals := 25 } s m args below meth c H locs 0 0 Q (F0 m 37 ls []) := by
    intro n
    induction n with
    | zero => intro k a f tt H locs ls hn hak hkq haq ha0 ha1 hf he htt hP hD hS hl; exact absurd hn (by omega)
    | succ n ih =>
      intro k a f tt H locs ls hn hak hkq haq ha0 ha1 hf he htt hP hD hS hl
      refine lv_iload hx hb d_Te_putHexPlaces_37 (lv_at hl 0 rfl) ?_
      refine lv_iload hx hb d_Te_putHexPlaces_39 (lv_at hl 1 rfl) ?_
      refine lv_icmp_lt (tgt := 67) hx hb d_Te_putHexPlaces_41 (by decide) (fun hc => ?_) (fun hc => ?_)
      · have hka : k = a := by rw [iZ_N] at hc; have := (iZ_lt (by omega) (by omega) (by omega) (by omega)).mp hc; omega
        rw [hka, hxl_end a haq ha0, List.append_nil] at he
        rw [he] at hf hP hD
        exact hret _ _ _ _ f d_Te_putHexPlaces_67 hf hP hK hD hS
      · have hka : a < k := by rw [iZ_N] at hc; have := mt (iZ_lt (a := (k : Int) - 1) (b := (a : Int)) (by omega) (by omega) (by omega) (by omega)).mpr hc; omega
        obtain ⟨j, rfl⟩ : ∃ j, k = j + 1 := ⟨k - 1, by omega⟩
        rw [iZ_succ'] at hl
        rw [hxl_go (fun g g2 => ha1 (by omega) (hx_dvd (by omega) g2))] at he
        refine lv_aload_n hx hb d_Te_putHexPlaces_44 rfl (lv_at hl 2 rfl) ?_
        refine lv_lload_n hx hb d_Te_putHexPlaces_45 rfl (lv_at hl 3 rfl) ?_
        refine lv_iconst (v := 4) hx hb d_Te_putHexPlaces_46 (by decide) ?_
        refine lv_iload hx hb d_Te_putHexPlaces_47 (lv_at hl 0 rfl) ?_
        refine lv_imul hx hb d_Te_putHexPlaces_49 ?_
        refine lv_lushr (v := lN (fr / 16 ^ j)) hx hb d_Te_putHexPlaces_50 (hx_sh (by omega) (by omega)) ?_
        refine lv_l2i (v := nI (fr / 16 ^ j)) hx hb d_Te_putHexPlaces_51 (lN_i _) ?_
        refine lv_bipush (v := 15) hx hb d_Te_putHexPlaces_52 (by decide) ?_
        refine lv_iand hx hb d_Te_putHexPlaces_54 ?_
        refine lv_topi (fun x_1 e_2 => ?_)
        obtain rfl : x_1 = nI (fr / 16 ^ j % 16) := e_2.trans (hx_lo _)
        have hd16 : fr / 16 ^ j % 16 < 16 := Nat.mod_lt _ (by decide)
        refine pw_calli (wc := []) (wr := [(h, .inr (3, [.ref w, .int (nI tt.length)])), (w, .inl (cC, 64, .inl (f)))]) [] [0, 1] rfl rfl rfl (by decide) (by decide) (by decide) hP hD hS hA (fun hPc hDc hF => va_runS (As := [.int (nI (fr / 16 ^ j % 16))]) (rest := [.ref h]) ⟨hx, hb, hml, hown, hts⟩ (c_Te_hexDigit l dC dI H.size (fr / 16 ^ j % 16) hd16) (va_cwS 1 hts (gw_S (gw_self cod_Te_hexDigit) ml_Te_39 sta_Te_hexDigit ini_Te) rfl rfl rfl (by decide +kernel) ⟨Nat.le_of_ble_eq_true rfl, Nat.le_of_ble_eq_true rfl⟩) (pw_preS pw_0_ok (trivial : pw_0 A s s.heap) hS hF hPc hDc (hK.sub [] rfl)) rfl rfl hl.1 rfl (lv_room (Nat.le_of_ble_eq_true rfl)) d_Te_putHexPlaces_55 ⟨Nat.le_of_ble_eq_true rfl, Nat.le_of_ble_eq_true rfl⟩) (fun r5 u5 H locs hw5 hK1 hP hD hS => ?_)
        have hP : va_P (dC, dI) cls [(h, .inr (3, [.ref w, .int (nI tt.length)])), (w, .inl (cC, 64, .inl (f)))] H := hP
        have hD : va_D A [(h, .inr (3, [.ref w, .int (nI tt.length)])), (w, .inl (cC, 64, .inl (f)))] := hD
        subst hw5
        refine pw_callv (wc := [(h, .inr (3, [.ref w, .int (nI tt.length)])), (w, .inl (cC, 64, .inl (f)))]) (wr := []) [0, 1] [] rfl rfl rfl (by decide) (by decide) (by decide) hP hD hS hA (fun hPc hDc hF => va_runV (As := [.int (nI (hxc (fr / 16 ^ j % 16)))]) (rest := []) ⟨hx, hb, hml, hown, hts⟩ (c_Te_put l dC dI H.size h w cC f tt (hxc (fr / 16 ^ j % 16)) hf (by omega) (by have := hxc_lt hd16; omega)) (cwV 1 hts (gw_V (gw_self cod_Te_put) ml_Te_27 im_Te_put sel_Te_put ini_Te) rfl rfl rfl (by decide +kernel) ⟨Nat.le_of_ble_eq_true rfl, Nat.le_of_ble_eq_true rfl⟩) (pw_preV pw_0_ok (trivial : pw_0 A s s.heap) hS hF hPc hDc (hK.sub [0] rfl) (va_recv hK hPc (ci := 3) (q0 := 0) rfl rfl)) rfl rfl hl.1 rfl (lv_room (Nat.le_of_ble_eq_true rfl)) d_Te_putHexPlaces_58 ⟨Nat.le_of_ble_eq_true rfl, Nat.le_of_ble_eq_true rfl⟩) (fun f3 H locs hw3 hK1 hP hD hS => ?_)
        have hP : va_P (dC, dI) cls [(h, .inr (3, [.ref w, .int (nI (tt ++ [hxc (fr / 16 ^ j % 16)]).length)])), (w, .inl (cC, 64, .inl (f3)))] H := hP
        have hD : va_D A [(h, .inr (3, [.ref w, .int (nI (tt ++ [hxc (fr / 16 ^ j % 16)]).length)])), (w, .inl (cC, 64, .inl (f3)))] := hD
        refine lv_iinc (v := iZ ((j : Int) - 1)) (lv' := [(5, .int (iZ ((j : Int) - 1))), (4, .int (nI a)), (0, .ref h), (1, .long (lN fr)), (3, .int (nI q))]) hx hb d_Te_putHexPlaces_61 hl (k := 0) rfl (by rw [iZ_N]; exact iZ_add _ (-1)) (by decide) rfl (fun ls hl => ?_)
        refine lv_goto (tgt := 37) hx hb d_Te_putHexPlaces_64 (by decide) ?_
        exact ih j a f3 (tt ++ [hxc (fr / 16 ^ j % 16)]) H locs ls (by omega) (by omega) (by omega) haq ha0 ha1 hw3 (by rw [← he]; simp) (by rw [List.length_append, List.length_singleton]; omega) hP hD hS (lv_sub hl [0, 1, 2, 3, 4] rfl)
  have k32 : ∀ (a : Nat) (H : Heap) (locs : List Loc) (ls : Array Slot), a < q → fr % 16 ^ a = 0 → (a + 1 < q → fr % 16 ^ (a + 1) ≠ 0) → va_P (dC, dI) cls [(h, .inr (3, [.ref w, .int (nI t.length)])), (w, .inl (cC, 64, .inl (f)))] H → va_D A [(h, .inr (3, [.ref w, .int (nI t.length)])), (w, .inl (cC, 64, .inl (f)))] → va_S A s.heap H locs → lv_has ls 6 [(4, .int (nI a)), (0, .ref h), (1, .long (lN fr)), (3, .int (nI q))] → W p l e { frames := 1, cells := 0, slots := 0, locals := 25 } s m args below meth c H locs 0 0 Q (F0 m 32 ls []) := by
    intro a H locs ls haq ha0 ha1 hP hD hS hl
    refine lv_iload_n hx hb d_Te_putHexPlaces_32 rfl (lv_at hl 3 rfl) ?_
    refine lv_iconst (v := 1) hx hb d_Te_putHexPlaces_33 (by decide) ?_
    refine lv_isub hx hb d_Te_putHexPlaces_34 ?_
    refine lv_topi (fun x_3 e_4 => ?_)
    obtain rfl : x_3 = iZ ((q : Int) - 1) := e_4.trans (iZ_pred _)
    refine lv_istore (lv' := [(5, .int (iZ ((q : Int) - 1))), (4, .int (nI a)), (0, .ref h), (1, .long (lN fr)), (3, .int (nI q))]) hx hb d_Te_putHexPlaces_35 hl (by decide) rfl (fun ls hl => ?_)
    exact lp2 (q + 1) q a f t H locs ls (by omega) (by omega) (by omega) haq ha0 ha1 hf rfl (by omega) hP hD hS (lv_sub hl [0, 1, 2, 3, 4] rfl)
  refine lv_iconst (v := 0) hx hb d_Te_putHexPlaces_0 (by decide) ?_
  refine lv_istore (lv' := [(4, .int 0), (0, .ref h), (1, .long (lN fr)), (3, .int (nI q))]) hx hb d_Te_putHexPlaces_1 hl (by decide) rfl (fun ls hl => ?_)
  have lp : ∀ (n a : Nat) (H : Heap) (locs : List Loc) (ls : Array Slot), (q ≤ a + n) → (a < q) → (fr % 16 ^ a = 0) → va_P (dC, dI) cls [(h, .inr (3, [.ref w, .int (nI t.length)])), (w, .inl (cC, 64, .inl (f)))] H → va_D A [(h, .inr (3, [.ref w, .int (nI t.length)])), (w, .inl (cC, 64, .inl (f)))] → va_S A s.heap H locs → lv_has ls 6 [(4, .int (nI a)), (0, .ref h), (1, .long (lN fr)), (3, .int (nI q))] → W p l e { frames := 1, cells := 0, slots := 0, locals := 25 } s m args below meth c H locs 0 0 Q (F0 m 3 ls []) := by
    intro n
    induction n with
    | zero => intro a H locs ls hn haq ha0 hP hD hS hl; exact absurd hn (by omega)
    | succ n ih =>
      intro a H locs ls hn haq ha0 hP hD hS hl
      refine lv_iload hx hb d_Te_putHexPlaces_3 (lv_at hl 0 rfl) ?_
      refine lv_iload_n hx hb d_Te_putHexPlaces_5 rfl (lv_at hl 3 rfl) ?_
      refine lv_iconst (v := 1) hx hb d_Te_putHexPlaces_6 (by decide) ?_
      refine lv_isub hx hb d_Te_putHexPlaces_7 ?_
      refine lv_topi (fun x_5 e_6 => ?_)
      obtain rfl : x_5 = nI (q - 1) := e_6.trans (pk_sub (a := q) (b := 1) (by omega))
      refine lv_icmp_ge (tgt := 32) hx hb d_Te_putHexPlaces_8 (by decide) (fun hc => ?_) (fun hc => ?_)
      · have hge : q - 1 ≤ a := (nI_leI (by omega) (by omega)).mp hc
        exact k32 a H locs ls haq ha0 (fun g => absurd g (by omega)) hP hD hS (lv_sub hl [0, 1, 2, 3] rfl)
      · have hlt : a < q - 1 := by have := mt (nI_leI (a := q - 1) (b := a) (by omega) (by omega)).mpr hc; omega
        refine lv_lload_n hx hb d_Te_putHexPlaces_11 rfl (lv_at hl 2 rfl) ?_
        refine lv_iconst (v := 4) hx hb d_Te_putHexPlaces_12 (by decide) ?_
        refine lv_iload hx hb d_Te_putHexPlaces_13 (lv_at hl 0 rfl) ?_
        refine lv_imul hx hb d_Te_putHexPlaces_15 ?_
        refine lv_lushr (v := lN (fr / 16 ^ a)) hx hb d_Te_putHexPlaces_16 (hx_sh (by omega) (by omega)) ?_
        refine lv_ldc2 (v := 15) hx hb hown (hts _ kl_Te_37) d_Te_putHexPlaces_17 ?_
        refine lv_land hx hb d_Te_putHexPlaces_20 ?_
        refine lv_topl (fun x_7 e_8 => ?_)
        obtain rfl : x_7 = lN (fr / 16 ^ a % 16) := e_8.trans (wb_mask (k := 4) (Nat.lt_of_le_of_lt (Nat.div_le_self _ _) (by omega)) (by omega))
        refine lv_lconst (v := 0) hx hb d_Te_putHexPlaces_21 (by decide) ?_
        have hm := hx_mod fr a
        have hd16 : fr / 16 ^ a % 16 < 16 := Nat.mod_lt _ (by decide)
        have hpw : 0 < 16 ^ a := Nat.pow_pos (by decide)
        refine lx_ne (tgt := 32) hx hb d_Te_putHexPlaces_22 d_Te_putHexPlaces_23 (by decide) (fun hz => ?_) (fun hz => ?_)
        · have hz0 : fr / 16 ^ a % 16 ≠ 0 := fun g => hz (by rw [g]; rfl)
          have hm2 : 0 < 16 ^ a * (fr / 16 ^ a % 16) := Nat.mul_pos hpw (by omega)
          exact k32 a H locs ls haq ha0 (fun _ g => by omega) hP hD hS (lv_sub hl [0, 1, 2, 3] rfl)
        · have hz0 : fr / 16 ^ a % 16 = 0 := (pk_lEQ (b := 0) (by omega) (by omega)).mp hz
          rw [hz0, Nat.mul_zero] at hm
          refine lv_iinc (v := nI (a + 1)) (lv' := [(4, .int (nI (a + 1))), (0, .ref h), (1, .long (lN fr)), (3, .int (nI q))]) hx hb d_Te_putHexPlaces_26 hl (k := 0) rfl (nI_1 _) (by decide) rfl (fun ls hl => ?_)
          refine lv_goto (tgt := 3) hx hb d_Te_putHexPlaces_29 (by decide) ?_
          exact ih (a + 1) H locs ls (by omega) (by omega) (by omega) hP hD hS (lv_sub hl [0, 1, 2, 3] rfl)
  exact lp (q + 1) 0 H [] ls (by omega) (by omega) (by simp [Nat.mod_one]) hP hD hS (lv_sub hl [0, 1, 2, 3] rfl)
end
section
/-! DECIMALS: D has n digits; a row g holds them, the lowest first -/
def isnd (D n : Nat) : Prop := D < 10 ^ n ∧ ∀ j, j < n → 10 ^ j ≤ D
def dgs (g : Nat → Int32) (D n : Nat) : Prop := ∀ j, j < n → g j = nI (48 + D / 10 ^ j % 10)
theorem isnd_u {D a b : Nat} (ha : isnd D a) (hb : isnd D b) : a = b := by
  rcases Nat.lt_trichotomy a b with q | q | q
  · have := hb.2 a q; have := ha.1; omega
  · exact q
  · have := ha.2 b q; have := hb.1; omega
theorem isnd_le {D n : Nat} (h : isnd D n) (hD : D < 10 ^ 19) : n ≤ 19 := by
  rcases Nat.lt_or_ge 19 n with q | q
  · have := h.2 19 q; omega
  · exact q
theorem dgs_put {g : Nat → Int32} {D i : Nat} (h : dgs g D i) : dgs (upd g i (nI (48 + D / 10 ^ i % 10))) D (i + 1) := by
  intro j hj
  unfold upd
  by_cases e : j = i
  · rw [if_pos e, e]
  · rw [if_neg e, h j (by omega)]
/-- the code of the digit of D * 10^t at the place of 10^p, z = p - t -/
def dga (D : Nat) (z : Int) : Nat := if 0 ≤ z then 48 + D / 10 ^ z.toNat % 10 else 48
theorem dga_lt (D : Nat) (z : Int) : dga D z < 58 := by
  unfold dga
  split <;> omega
theorem dec_div {D i : Nat} : D / 10 ^ i / 10 = D / 10 ^ (i + 1) := by
  rw [Nat.div_div_eq_div_mul, Nat.pow_succ]
end
section
set_option maxHeartbeats 4000000 in
set_option maxRecDepth 100000 in
/-- clear -/
theorem c_De_clear (l : Launch) (dC : Nat → ClassId) (dI : Nat → Nat → Nat) (sz : Nat) (h w : Nat) (cC : ClassId) (g : Nat → Int32) (n t : Int32) (d : Int64)  : Met l y_De_clear (Cond.code y_De_clear b_De_clear 1 none :: gT) ({ frames := 0, cells := 0, slots := 0, locals := 0 }) (va_Pc [.ref h] (pw_P (dC, dI) cls [(cC, .char)] pw_0 [(h, .inr (0, [.ref w, .int n, .long d, .int t])), (w, .inl (cC, 19, .inl (g)))] sz)) (va_Qv (fun (uu : Unit) => True) (fun (uu : Unit) => pw_B (dC, dI) cls [(cC, .char)] (va_A [(h, .inr (0, [.ref w, .int n, .long d, .int t])), (w, .inl (cC, 19, .inl (g)))] sz) [(h, .inr (0, [.ref w, .int (nI 0), .long (lN 0), .int (iZ 0)])), (w, .inl (cC, 19, .inl (g)))]) (va_A [(h, .inr (0, [.ref w, .int n, .long d, .int t])), (w, .inl (cC, 19, .inl (g)))] sz)) 0 0 (va_A [(h, .inr (0, [.ref w, .int n, .long d, .int t])), (w, .inl (cC, 19, .inl (g)))] sz) := by
  refine pw_metv (tn := fun (uu : Unit) => [(cC, .char)]) (wn := fun (uu : Unit) => [(h, .inr (0, [.ref w, .int (nI 0), .long (lN 0), .int (iZ 0)])), (w, .inl (cC, 19, .inl (g)))]) (by decide) (Nat.le_of_ble_eq_true rfl) ?_
  intro p e s m args below meth c A Q H ls hx hb hml hown hts hnm hA hE hP hK hD hS hret hl
  have hown : s.vm.findClass R_De = some m.cls := hown
  have hl : lv_has ls 1 [(0, .ref h)] := hl
  refine lv_aload_n hx hb d_De_clear_0 rfl (lv_at hl 0 rfl) ?_
  refine lv_iconst (v := 0) hx hb d_De_clear_1 (by decide) ?_
  refine va_put (D := (dC, dI)) (ci := 0) (v := .int 0) (ty := .int) (C := R_De) (T := F_De) (N := 4) hx hb hts i_De t_De t_De_ok n_De hown hK hP hD hS 0 rfl rfl 1 (by decide) (hts _ fl_De_13) (fun _ h9 => h9) rfl (by decide +kernel) rfl rfl (Nat.le_of_ble_eq_true rfl) d_De_clear_2 (fun H locs hP hD hS => ?_)
  have hP : va_P (dC, dI) cls [(h, .inr (0, [.ref w, .int 0, .long d, .int t])), (w, .inl (cC, 19, .inl (g)))] H := hP
  have hD : va_D A [(h, .inr (0, [.ref w, .int 0, .long d, .int t])), (w, .inl (cC, 19, .inl (g)))] := hD
  refine lv_aload_n hx hb d_De_clear_5 rfl (lv_at hl 0 rfl) ?_
  refine lv_lconst (v := 0) hx hb d_De_clear_6 (by decide) ?_
  refine va_put (D := (dC, dI)) (ci := 0) (v := .long 0) (ty := .long) (C := R_De) (T := F_De) (N := 4) hx hb hts i_De t_De t_De_ok n_De hown hK hP hD hS 0 rfl rfl 2 (by decide) (hts _ fl_De_17) (fun _ h9 => h9) rfl (by decide +kernel) rfl rfl (Nat.le_of_ble_eq_true rfl) d_De_clear_7 (fun H locs hP hD hS => ?_)
  have hP : va_P (dC, dI) cls [(h, .inr (0, [.ref w, .int 0, .long 0, .int t])), (w, .inl (cC, 19, .inl (g)))] H := hP
  have hD : va_D A [(h, .inr (0, [.ref w, .int 0, .long 0, .int t])), (w, .inl (cC, 19, .inl (g)))] := hD
  refine lv_aload_n hx hb d_De_clear_10 rfl (lv_at hl 0 rfl) ?_
  refine lv_iconst (v := 0) hx hb d_De_clear_11 (by decide) ?_
  refine va_put (D := (dC, dI)) (ci := 0) (v := .int 0) (ty := .int) (C := R_De) (T := F_De) (N := 4) hx hb hts i_De t_De t_De_ok n_De hown hK hP hD hS 0 rfl rfl 3 (by decide) (hts _ fl_De_21) (fun _ h9 => h9) rfl (by decide +kernel) rfl rfl (Nat.le_of_ble_eq_true rfl) d_De_clear_12 (fun H locs hP hD hS => ?_)
  have hP : va_P (dC, dI) cls [(h, .inr (0, [.ref w, .int 0, .long 0, .int 0])), (w, .inl (cC, 19, .inl (g)))] H := hP
  have hD : va_D A [(h, .inr (0, [.ref w, .int 0, .long 0, .int 0])), (w, .inl (cC, 19, .inl (g)))] := hD
  exact hret _ _ _ _ () d_De_clear_15 trivial hP hK hD hS
set_option maxHeartbeats 4000000 in
set_option maxRecDepth 100000 in
/-- spread -/
theorem c_De_spread (l : Launch) (dC : Nat → ClassId) (dI : Nat → Nat → Nat) (sz : Nat) (h w : Nat) (cC : ClassId) (g : Nat → Int32) (n0 t : Int32) (D : Nat) (hD : D < 2 ^ 63) : Met l y_De_spread (Cond.code y_De_spread b_De_spread 3 none :: gT) ({ frames := 0, cells := 0, slots := 0, locals := 0 }) (va_Pc [.ref h] (pw_P (dC, dI) cls [(cC, .char)] pw_0 [(h, .inr (0, [.ref w, .int n0, .long (lN D), .int t])), (w, .inl (cC, 19, .inl (g)))] sz)) (va_Qv (fun (uu : Nat × (Nat → Int32)) => isnd D uu.1 ∧ dgs uu.2 D uu.1) (fun (uu : Nat × (Nat → Int32)) => pw_B (dC, dI) cls [(cC, .char)] (va_A [(h, .inr (0, [.ref w, .int n0, .long (lN D), .int t])), (w, .inl (cC, 19, .inl (g)))] sz) [(h, .inr (0, [.ref w, .int (nI uu.1), .long (lN D), .int t])), (w, .inl (cC, 19, .inl (uu.2)))]) (va_A [(h, .inr (0, [.ref w, .int n0, .long (lN D), .int t])), (w, .inl (cC, 19, .inl (g)))] sz)) 0 0 (va_A [(h, .inr (0, [.ref w, .int n0, .long (lN D), .int t])), (w, .inl (cC, 19, .inl (g)))] sz) := by
  refine pw_metv (tn := fun (uu : Nat × (Nat → Int32)) => [(cC, .char)]) (wn := fun (uu : Nat × (Nat → Int32)) => [(h, .inr (0, [.ref w, .int (nI uu.1), .long (lN D), .int t])), (w, .inl (cC, 19, .inl (uu.2)))]) (by decide) (Nat.le_of_ble_eq_true rfl) ?_
  intro p e s m args below meth c A Q H ls hx hb hml hown hts hnm hA hE hP hK hD hS hret hl
  have hown : s.vm.findClass R_De = some m.cls := hown
  have hl : lv_has ls 3 [(0, .ref h)] := hl
  refine lv_aload_n hx hb d_De_spread_0 rfl (lv_at hl 0 rfl) ?_
  refine va_get (D := (dC, dI)) (ci := 0) (v := .long (lN D)) (C := R_De) (T := F_De) (N := 4) hx hb hts i_De hown hK hP 0 rfl rfl 2 (by decide) (hts _ fl_De_17) (fun _ h9 => h9) rfl d_De_spread_1 ?_
  refine lv_lstore_n (lv' := [(1, .long (lN D)), (0, .ref h)]) hx hb d_De_spread_4 rfl hl (by decide) rfl (fun ls hl => ?_)
  refine lv_aload_n hx hb d_De_spread_5 rfl (lv_at hl 1 rfl) ?_
  refine lv_iconst (v := 0) hx hb d_De_spread_6 (by decide) ?_
  refine va_put (D := (dC, dI)) (ci := 0) (v := .int 0) (ty := .int) (C := R_De) (T := F_De) (N := 4) hx hb hts i_De t_De t_De_ok n_De hown hK hP hD hS 0 rfl rfl 1 (by decide) (hts _ fl_De_13) (fun _ h9 => h9) rfl (by decide +kernel) rfl rfl (Nat.le_of_ble_eq_true rfl) d_De_spread_7 (fun H locs hP hD hS => ?_)
  have hP : va_P (dC, dI) cls [(h, .inr (0, [.ref w, .int 0, .long (lN D), .int t])), (w, .inl (cC, 19, .inl (g)))] H := hP
  have hD : va_D A [(h, .inr (0, [.ref w, .int 0, .long (lN D), .int t])), (w, .inl (cC, 19, .inl (g)))] := hD
  have lp : ∀ (n i : Nat) (g : Nat → Int32) (H : Heap) (locs : List Loc) (ls : Array Slot), (19 < i + n) → (i ≤ 19) → (∀ j, j < i → 10 ^ j ≤ D) → (dgs g D i) → va_P (dC, dI) cls [(h, .inr (0, [.ref w, .int (nI i), .long (lN D), .int t])), (w, .inl (cC, 19, .inl (g)))] H → va_D A [(h, .inr (0, [.ref w, .int (nI i), .long (lN D), .int t])), (w, .inl (cC, 19, .inl (g)))] → va_S A s.heap H locs → lv_has ls 3 [(1, .long (lN (D / 10 ^ i))), (0, .ref h)] → W p l e { frames := 0, cells := 0, slots := 0, locals := 0 } s m args below meth c H locs 0 0 Q (F0 m 10 ls []) := by
    intro n
    induction n with
    | zero => intro i g H locs ls hn hi hj hg hP hD hS hl; exact absurd hn (by omega)
    | succ n ih =>
      intro i g H locs ls hn hi hj hg hP hD hS hl
      have hq : D / 10 ^ i ≤ D := Nat.div_le_self _ _
      refine lv_lload_n hx hb d_De_spread_10 rfl (lv_at hl 0 rfl) ?_
      refine lv_lconst (v := 0) hx hb d_De_spread_11 (by decide) ?_
      refine lx_le (tgt := 67) hx hb d_De_spread_12 d_De_spread_13 (by decide) (fun hc => ?_) (fun hc => ?_)
      · have h0 : D / 10 ^ i ≤ 0 := (pk_lLE (b := 0) (by omega) (by omega)).mp hc
        have hlt : D < 10 ^ i := by
          rcases Nat.lt_or_ge D (10 ^ i) with g9 | g9
          · exact g9
          · have := Nat.div_pos g9 (Nat.pow_pos (n := i) (show 0 < 10 by decide)); omega
        exact hret _ _ _ _ (i, g) d_De_spread_67 ⟨⟨hlt, hj⟩, hg⟩ hP hK hD hS
      · have h0 : 0 < D / 10 ^ i := by have := mt (pk_lLE (a := D / 10 ^ i) (b := 0) (by omega) (by omega)).mpr hc; omega
        have hge : 10 ^ i ≤ D := by
          rcases Nat.lt_or_ge D (10 ^ i) with g9 | g9
          · rw [Nat.div_eq_of_lt g9] at h0; omega
          · exact g9
        refine lv_aload_n hx hb d_De_spread_16 rfl (lv_at hl 1 rfl) ?_
        refine va_get (D := (dC, dI)) (ci := 0) (v := .int (nI i)) (C := R_De) (T := F_De) (N := 4) hx hb hts i_De hown hK hP 0 rfl rfl 1 (by decide) (hts _ fl_De_13) (fun _ h9 => h9) rfl d_De_spread_17 ?_
        refine lv_aload_n hx hb d_De_spread_20 rfl (lv_at hl 1 rfl) ?_
        refine va_get (D := (dC, dI)) (ci := 0) (v := .ref w) (C := R_De) (T := F_De) (N := 4) hx hb hts i_De hown hK hP 0 rfl rfl 0 (by decide) (hts _ fl_De_9) (fun _ h9 => h9) rfl d_De_spread_21 ?_
        refine va_alen (v := nI 19) hx hb hK hP 1 0 rfl rfl rfl d_De_spread_24 ?_
        refine lv_icmp_ge (tgt := 67) hx hb d_De_spread_25 (by decide) (fun hc2 => ?_) (fun hc2 => ?_)
        · have h19 : 19 ≤ i := (nI_leI (a := 19) (b := i) (by omega) (by omega)).mp hc2
          have : i = 19 := by omega
          subst this
          exact absurd hge (by omega)
        · have h19 : i < 19 := by have := mt (nI_leI (a := 19) (b := i) (by omega) (by omega)).mpr hc2; omega
          refine lv_aload_n hx hb d_De_spread_28 rfl (lv_at hl 1 rfl) ?_
          refine va_get (D := (dC, dI)) (ci := 0) (v := .ref w) (C := R_De) (T := F_De) (N := 4) hx hb hts i_De hown hK hP 0 rfl rfl 0 (by decide) (hts _ fl_De_9) (fun _ h9 => h9) rfl d_De_spread_29 ?_
          refine lv_aload_n hx hb d_De_spread_32 rfl (lv_at hl 1 rfl) ?_
          refine va_get (D := (dC, dI)) (ci := 0) (v := .int (nI i)) (C := R_De) (T := F_De) (N := 4) hx hb hts i_De hown hK hP 0 rfl rfl 1 (by decide) (hts _ fl_De_13) (fun _ h9 => h9) rfl d_De_spread_33 ?_
          refine lv_ldc2 (v := 48) hx hb hown (hts _ kl_De_29) d_De_spread_36 ?_
          refine lv_lload_n hx hb d_De_spread_39 rfl (lv_at hl 0 rfl) ?_
          refine lv_ldc2 (v := 10) hx hb hown (hts _ kl_De_24) d_De_spread_40 ?_
          refine lv_lrem hx hb d_De_spread_43 (by decide) ?_
          refine lv_topl (fun x_1 e_2 => ?_)
          obtain rfl : x_1 = lN (D / 10 ^ i % 10) := e_2.trans (pk_lRem (b := 10) (by omega) (by omega) (by omega))
          refine lv_ladd hx hb d_De_spread_44 ?_
          refine lv_topl (fun x_3 e_4 => ?_)
          obtain rfl : x_3 = lN (48 + D / 10 ^ i % 10) := e_4.trans (lN_add 48 _)
          refine lv_l2i (v := nI (48 + D / 10 ^ i % 10)) hx hb d_De_spread_45 (lN_i _) ?_
          refine lv_i2c (v := nI (48 + D / 10 ^ i % 10)) hx hb d_De_spread_46 ((pk_char _).trans (by rw [pk_tn (by omega), Nat.mod_eq_of_lt (by omega)])) ?_
          refine va_cast hx hb hK hP hD hS 1 0 rfl rfl (vp_in_nI h19 (by omega)) d_De_spread_47 (fun H locs hP hD hS => ?_)
          have e_5 : upd g (nI i).toNatClampNeg (vp_nar .char (nI (48 + D / 10 ^ i % 10))) = upd g i (nI (48 + D / 10 ^ i % 10)) := by rw [nI_clamp (by omega), tx_nar (by omega)]
          have hP : va_P (dC, dI) cls [(h, .inr (0, [.ref w, .int (nI i), .long (lN D), .int t])), (w, .inl (cC, 19, .inl (upd g i (nI (48 + D / 10 ^ i % 10)))))] H := by rw [← e_5]; exact hP
          have hD : va_D A [(h, .inr (0, [.ref w, .int (nI i), .long (lN D), .int t])), (w, .inl (cC, 19, .inl (upd g i (nI (48 + D / 10 ^ i % 10)))))] := by rw [← e_5]; exact hD
          refine lv_lload_n hx hb d_De_spread_48 rfl (lv_at hl 0 rfl) ?_
          refine lv_ldc2 (v := 10) hx hb hown (hts _ kl_De_24) d_De_spread_49 ?_
          refine lv_ldiv hx hb d_De_spread_52 (by decide) ?_
          refine lv_topl (fun x_6 e_7 => ?_)
          obtain rfl : x_6 = lN (D / 10 ^ (i + 1)) := e_7.trans ((pk_lDiv (b := 10) (by omega) (by omega) (by omega)).trans (by rw [dec_div]))
          refine lv_lstore_n (lv' := [(1, .long (lN (D / 10 ^ (i + 1)))), (0, .ref h)]) hx hb d_De_spread_53 rfl hl (by decide) rfl (fun ls hl => ?_)
          refine lv_aload_n hx hb d_De_spread_54 rfl (lv_at hl 1 rfl) ?_
          refine lv_dup hx hb d_De_spread_55 rfl ?_
          refine va_get (D := (dC, dI)) (ci := 0) (v := .int (nI i)) (C := R_De) (T := F_De) (N := 4) hx hb hts i_De hown hK hP 0 rfl rfl 1 (by decide) (hts _ fl_De_13) (fun _ h9 => h9) rfl d_De_spread_56 ?_
          refine lv_iconst (v := 1) hx hb d_De_spread_59 (by decide) ?_
          refine lv_iadd hx hb d_De_spread_60 ?_
          refine lv_topi (fun x_8 e_9 => ?_)
          obtain rfl : x_8 = nI (i + 1) := e_9.trans (nI_1 _)
          refine va_put (D := (dC, dI)) (ci := 0) (v := .int (nI (i + 1))) (ty := .int) (C := R_De) (T := F_De) (N := 4) hx hb hts i_De t_De t_De_ok n_De hown hK hP hD hS 0 rfl rfl 1 (by decide) (hts _ fl_De_13) (fun _ h9 => h9) rfl (by decide +kernel) rfl rfl (Nat.le_of_ble_eq_true rfl) d_De_spread_61 (fun H locs hP hD hS => ?_)
          have hP : va_P (dC, dI) cls [(h, .inr (0, [.ref w, .int (nI (i + 1)), .long (lN D), .int t])), (w, .inl (cC, 19, .inl (upd g i (nI (48 + D / 10 ^ i % 10)))))] H := hP
          have hD : va_D A [(h, .inr (0, [.ref w, .int (nI (i + 1)), .long (lN D), .int t])), (w, .inl (cC, 19, .inl (upd g i (nI (48 + D / 10 ^ i % 10)))))] := hD
          refine lv_goto (tgt := 10) hx hb d_De_spread_64 (by decide) ?_
          exact ih (i + 1) (upd g i (nI (48 + D / 10 ^ i % 10))) H locs ls (by omega) (by omega) (fun j h9 => by rcases Nat.lt_or_ge j i with q | q; exact hj j q; rw [show j = i from by omega]; exact hge) (dgs_put hg) hP hD hS (lv_sub hl [0, 1] rfl)
  exact lp 20 0 g H _ ls (by omega) (by omega) (fun j h9 => absurd h9 (Nat.not_lt_zero j)) (fun j h9 => absurd h9 (Nat.not_lt_zero j)) hP hD hS (by rw [Nat.pow_zero, Nat.div_one]; exact lv_sub hl [0, 1] rfl)
set_option maxHeartbeats 4000000 in
set_option maxRecDepth 100000 in
/-- become -/
theorem c_De_become (l : Launch) (dC : Nat → ClassId) (dI : Nat → Nat → Nat) (sz : Nat) (h w : Nat) (cC : ClassId) (g : Nat → Int32) (n0 t0 : Int32) (d0 : Int64) (N : Nat) (P : Int) (hN0 : 0 < N) (hN : N < 2 ^ 63) (hP1 : -2 ^ 20 < P) (hP2 : P < 2 ^ 20) : Met l y_De_become (Cond.code y_De_become b_De_become 5 none :: gT) ({ frames := 1, cells := 0, slots := 0, locals := 22 }) (va_Pc [.ref h, .long (lN N), .int (iZ P)] (pw_P (dC, dI) cls [(cC, .char)] pw_0 [(h, .inr (0, [.ref w, .int n0, .long d0, .int t0])), (w, .inl (cC, 19, .inl (g)))] sz)) (va_Qv (fun (uu : Nat × Nat × Nat × (Nat → Int32)) => uu.1 * 10 ^ uu.2.1 = N ∧ uu.1 % 10 ≠ 0 ∧ isnd uu.1 uu.2.2.1 ∧ dgs uu.2.2.2 uu.1 uu.2.2.1 ∧ uu.2.1 < 19) (fun (uu : Nat × Nat × Nat × (Nat → Int32)) => pw_B (dC, dI) cls [(cC, .char)] (va_A [(h, .inr (0, [.ref w, .int n0, .long d0, .int t0])), (w, .inl (cC, 19, .inl (g)))] sz) [(h, .inr (0, [.ref w, .int (nI uu.2.2.1), .long (lN uu.1), .int (iZ (P + uu.2.1))])), (w, .inl (cC, 19, .inl (uu.2.2.2)))]) (va_A [(h, .inr (0, [.ref w, .int n0, .long d0, .int t0])), (w, .inl (cC, 19, .inl (g)))] sz)) 0 0 (va_A [(h, .inr (0, [.ref w, .int n0, .long d0, .int t0])), (w, .inl (cC, 19, .inl (g)))] sz) := by
  refine pw_metv (tn := fun (uu : Nat × Nat × Nat × (Nat → Int32)) => [(cC, .char)]) (wn := fun (uu : Nat × Nat × Nat × (Nat → Int32)) => [(h, .inr (0, [.ref w, .int (nI uu.2.2.1), .long (lN uu.1), .int (iZ (P + uu.2.1))])), (w, .inl (cC, 19, .inl (uu.2.2.2)))]) (by decide) (Nat.le_of_ble_eq_true rfl) ?_
  intro p e s m args below meth c A Q H ls hx hb hml hown hts hnm hA hE hP hK hD hS hret hl
  have hown : s.vm.findClass R_De = some m.cls := hown
  have hl : lv_has ls 5 [(0, .ref h), (1, .long (lN N)), (3, .int (iZ P))] := hl
  refine lv_aload_n hx hb d_De_become_0 rfl (lv_at hl 0 rfl) ?_
  refine lv_lload_n hx hb d_De_become_1 rfl (lv_at hl 1 rfl) ?_
  refine va_put (D := (dC, dI)) (ci := 0) (v := .long (lN N)) (ty := .long) (C := R_De) (T := F_De) (N := 4) hx hb hts i_De t_De t_De_ok n_De hown hK hP hD hS 0 rfl rfl 2 (by decide) (hts _ fl_De_17) (fun _ h9 => h9) rfl (by decide +kernel) rfl rfl (Nat.le_of_ble_eq_true rfl) d_De_become_2 (fun H locs hP hD hS => ?_)
  have hP : va_P (dC, dI) cls [(h, .inr (0, [.ref w, .int n0, .long (lN N), .int t0])), (w, .inl (cC, 19, .inl (g)))] H := hP
  have hD : va_D A [(h, .inr (0, [.ref w, .int n0, .long (lN N), .int t0])), (w, .inl (cC, 19, .inl (g)))] := hD
  refine lv_aload_n hx hb d_De_become_5 rfl (lv_at hl 0 rfl) ?_
  refine lv_iload_n hx hb d_De_become_6 rfl (lv_at hl 2 rfl) ?_
  refine va_put (D := (dC, dI)) (ci := 0) (v := .int (iZ P)) (ty := .int) (C := R_De) (T := F_De) (N := 4) hx hb hts i_De t_De t_De_ok n_De hown hK hP hD hS 0 rfl rfl 3 (by decide) (hts _ fl_De_21) (fun _ h9 => h9) rfl (by decide +kernel) rfl rfl (Nat.le_of_ble_eq_true rfl) d_De_become_7 (fun H locs hP hD hS => ?_)
  have hP : va_P (dC, dI) cls [(h, .inr (0, [.ref w, .int n0, .long (lN N), .int (iZ P)])), (w, .inl (cC, 19, .inl (g)))] H := hP
  have hD : va_D A [(h, .inr (0, [.ref w, .int n0, .long (lN N), .int (iZ P)])), (w, .inl (cC, 19, .inl (g)))] := hD
  refine lv_iconst (v := 0) hx hb d_De_become_10 (by decide) ?_
  refine lv_istore (lv' := [(4, .int 0), (0, .ref h), (1, .long (lN N)), (3, .int (iZ P))]) hx hb d_De_become_11 hl (by decide) rfl (fun ls hl => ?_)
  have lp : ∀ (n k D : Nat) (H : Heap) (locs : List Loc) (ls : Array Slot), (19 < k + n) → (k ≤ 19) → (D * 10 ^ k = N) → va_P (dC, dI) cls [(h, .inr (0, [.ref w, .int n0, .long (lN D), .int (iZ (P + k))])), (w, .inl (cC, 19, .inl (g)))] H → va_D A [(h, .inr (0, [.ref w, .int n0, .long (lN D), .int (iZ (P + k))])), (w, .inl (cC, 19, .inl (g)))] → va_S A s.heap H locs → lv_has ls 5 [(4, .int (nI k)), (0, .ref h), (1, .long (lN N)), (3, .int (iZ P))] → W p l e { frames := 1, cells := 0, slots := 0, locals := 22 } s m args below meth c H locs 0 0 Q (F0 m 13 ls []) := by
    intro n
    induction n with
    | zero => intro k D H locs ls hn hk he hP hD hS hl; exact absurd hn (by omega)
    | succ n ih =>
      intro k D H locs ls hn hk he hP hD hS hl
      have hp : 0 < 10 ^ k := Nat.pow_pos (by decide)
      have hDN : D ≤ N := by rw [← he]; exact Nat.le_mul_of_pos_right _ hp
      have hD0 : 0 < D := by rcases Nat.eq_zero_or_pos D with q | q; rw [q, Nat.zero_mul] at he; omega; exact q
      have hkN : 10 ^ k ≤ N := by rw [← he]; exact Nat.le_mul_of_pos_left _ hD0
      refine lv_iload hx hb d_De_become_13 (lv_at hl 0 rfl) ?_
      refine lv_bipush (v := 19) hx hb d_De_become_15 (by decide) ?_
      refine lv_icmp_ge (tgt := 61) hx hb d_De_become_17 (by decide) (fun hc => ?_) (fun hc => ?_)
      · have h19 : 19 ≤ k := (nI_leI (a := 19) (b := k) (by omega) (by omega)).mp hc
        have : k = 19 := by omega
        subst this
        exact absurd hkN (by omega)
      · have h19 : k < 19 := by have := mt (nI_leI (a := 19) (b := k) (by omega) (by omega)).mpr hc; omega
        refine lv_aload_n hx hb d_De_become_20 rfl (lv_at hl 1 rfl) ?_
        refine va_get (D := (dC, dI)) (ci := 0) (v := .long (lN D)) (C := R_De) (T := F_De) (N := 4) hx hb hts i_De hown hK hP 0 rfl rfl 2 (by decide) (hts _ fl_De_17) (fun _ h9 => h9) rfl d_De_become_21 ?_
        refine lv_ldc2 (v := 10) hx hb hown (hts _ kl_De_24) d_De_become_24 ?_
        refine lv_lrem hx hb d_De_become_27 (by decide) ?_
        refine lv_topl (fun x_1 e_2 => ?_)
        obtain rfl : x_1 = lN (D % 10) := e_2.trans (pk_lRem (b := 10) (by omega) (by omega) (by omega))
        refine lv_lconst (v := 0) hx hb d_De_become_28 (by decide) ?_
        refine lx_ne (tgt := 61) hx hb d_De_become_29 d_De_become_30 (by decide) (fun hz => ?_) (fun hz => ?_)
        · have hz0 : D % 10 ≠ 0 := fun q => hz (by rw [q]; rfl)
          refine lv_aload_n hx hb d_De_become_61 rfl (lv_at hl 1 rfl) ?_
          refine pw_callv (wc := [(h, .inr (0, [.ref w, .int n0, .long (lN D), .int (iZ (P + k))])), (w, .inl (cC, 19, .inl (g)))]) (wr := []) [0, 1] [] rfl rfl rfl (by decide) (by decide) (by decide) hP hD hS hA (fun hPc hDc hF => va_runV (As := []) (rest := []) ⟨hx, hb, hml, hown, hts⟩ (c_De_spread l dC dI H.size h w cC g n0 (iZ (P + k)) D (by omega)) (cwV 0 hts (gw_V (gw_self cod_De_spread) ml_De_26 im_De_spread sel_De_spread ini_De) rfl rfl rfl (by decide +kernel) ⟨Nat.le_of_ble_eq_true rfl, Nat.le_of_ble_eq_true rfl⟩) (pw_preV pw_0_ok (trivial : pw_0 A s s.heap) hS hF hPc hDc (hK.sub [0] rfl) (va_recv hK hPc (ci := 0) (q0 := 0) rfl rfl)) rfl rfl hl.1 rfl (lv_room (Nat.le_of_ble_eq_true rfl)) d_De_become_62 ⟨Nat.le_of_ble_eq_true rfl, Nat.le_of_ble_eq_true rfl⟩) (fun uu H locs hw hK1 hP hD hS => ?_)
          have hP : va_P (dC, dI) cls [(h, .inr (0, [.ref w, .int (nI uu.1), .long (lN D), .int (iZ (P + k))])), (w, .inl (cC, 19, .inl (uu.2)))] H := hP
          have hD : va_D A [(h, .inr (0, [.ref w, .int (nI uu.1), .long (lN D), .int (iZ (P + k))])), (w, .inl (cC, 19, .inl (uu.2)))] := hD
          exact hret _ _ _ _ (D, k, uu.1, uu.2) d_De_become_65 ⟨he, hz0, hw.1, hw.2, h19⟩ hP hK hD hS
        · have hz0 : D % 10 = 0 := (pk_lEQ (b := 0) (by omega) (by omega)).mp hz
          refine lv_aload_n hx hb d_De_become_33 rfl (lv_at hl 1 rfl) ?_
          refine lv_dup hx hb d_De_become_34 rfl ?_
          refine va_get (D := (dC, dI)) (ci := 0) (v := .long (lN D)) (C := R_De) (T := F_De) (N := 4) hx hb hts i_De hown hK hP 0 rfl rfl 2 (by decide) (hts _ fl_De_17) (fun _ h9 => h9) rfl d_De_become_35 ?_
          refine lv_ldc2 (v := 10) hx hb hown (hts _ kl_De_24) d_De_become_38 ?_
          refine lv_ldiv hx hb d_De_become_41 (by decide) ?_
          refine lv_topl (fun x_3 e_4 => ?_)
          obtain rfl : x_3 = lN (D / 10) := e_4.trans (pk_lDiv (b := 10) (by omega) (by omega) (by omega))
          refine va_put (D := (dC, dI)) (ci := 0) (v := .long (lN (D / 10))) (ty := .long) (C := R_De) (T := F_De) (N := 4) hx hb hts i_De t_De t_De_ok n_De hown hK hP hD hS 0 rfl rfl 2 (by decide) (hts _ fl_De_17) (fun _ h9 => h9) rfl (by decide +kernel) rfl rfl (Nat.le_of_ble_eq_true rfl) d_De_become_42 (fun H locs hP hD hS => ?_)
          have hP : va_P (dC, dI) cls [(h, .inr (0, [.ref w, .int n0, .long (lN (D / 10)), .int (iZ (P + k))])), (w, .inl (cC, 19, .inl (g)))] H := hP
          have hD : va_D A [(h, .inr (0, [.ref w, .int n0, .long (lN (D / 10)), .int (iZ (P + k))])), (w, .inl (cC, 19, .inl (g)))] := hD
          refine lv_aload_n hx hb d_De_become_45 rfl (lv_at hl 1 rfl) ?_
          refine lv_dup hx hb d_De_become_46 rfl ?_
          refine va_get (D := (dC, dI)) (ci := 0) (v := .int (iZ (P + k))) (C := R_De) (T := F_De) (N := 4) hx hb hts i_De hown hK hP 0 rfl rfl 3 (by decide) (hts _ fl_De_21) (fun _ h9 => h9) rfl d_De_become_47 ?_
          refine lv_iconst (v := 1) hx hb d_De_become_50 (by decide) ?_
          refine lv_iadd hx hb d_De_become_51 ?_
          refine lv_topi (fun x_5 e_6 => ?_)
          obtain rfl : x_5 = iZ (P + ((k + 1 : Nat) : Int)) := e_6.trans ((iZ_add _ 1).trans (by congr 1; omega))
          refine va_put (D := (dC, dI)) (ci := 0) (v := .int (iZ (P + ((k + 1 : Nat) : Int)))) (ty := .int) (C := R_De) (T := F_De) (N := 4) hx hb hts i_De t_De t_De_ok n_De hown hK hP hD hS 0 rfl rfl 3 (by decide) (hts _ fl_De_21) (fun _ h9 => h9) rfl (by decide +kernel) rfl rfl (Nat.le_of_ble_eq_true rfl) d_De_become_52 (fun H locs hP hD hS => ?_)
          have hP : va_P (dC, dI) cls [(h, .inr (0, [.ref w, .int n0, .long (lN (D / 10)), .int (iZ (P + ((k + 1 : Nat) : Int)))])), (w, .inl (cC, 19, .inl (g)))] H := hP
          have hD : va_D A [(h, .inr (0, [.ref w, .int n0, .long (lN (D / 10)), .int (iZ (P + ((k + 1 : Nat) : Int)))])), (w, .inl (cC, 19, .inl (g)))] := hD
          refine lv_iinc (v := nI (k + 1)) (lv' := [(4, .int (nI (k + 1))), (0, .ref h), (1, .long (lN N)), (3, .int (iZ P))]) hx hb d_De_become_55 hl (k := 0) rfl (nI_1 _) (by decide) rfl (fun ls hl => ?_)
          refine lv_goto (tgt := 13) hx hb d_De_become_58 (by decide) ?_
          exact ih (k + 1) (D / 10) H locs ls (by omega) (by omega) (by rw [← he, Nat.pow_succ, Nat.mul_comm (10 ^ k), ← Nat.mul_assoc]; congr 1; omega) hP hD hS (lv_sub hl [0, 1, 2, 3] rfl)
  exact lp 20 0 N H _ ls (by omega) (by omega) (by rw [Nat.pow_zero, Nat.mul_one]) (by rw [show P + ((0 : Nat) : Int) = P from by omega]; exact hP) (by rw [show P + ((0 : Nat) : Int) = P from by omega]; exact hD) hS (lv_sub hl [0, 1, 2, 3] rfl)
set_option maxHeartbeats 4000000 in
set_option maxRecDepth 100000 in
/-- firstPlace -/
theorem c_De_firstPlace (l : Launch) (dC : Nat → ClassId) (dI : Nat → Nat → Nat) (sz : Nat) (h w : Nat) (cC : ClassId) (g : Nat → Int32) (n : Nat) (d : Int64) (T : Int)  : Met l y_De_firstPlace (Cond.code y_De_firstPlace b_De_firstPlace 1 (some .int) :: gT) ({ frames := 0, cells := 0, slots := 0, locals := 0 }) (va_Pc [.ref h] (pw_P (dC, dI) cls [(cC, .char)] pw_0 [(h, .inr (0, [.ref w, .int (nI n), .long d, .int (iZ T)])), (w, .inl (cC, 19, .inl (g)))] sz)) (va_Qi (fun (r : Int32) (uu : Unit) => r = iZ (T + n - 1)) (fun (uu : Unit) => pw_B (dC, dI) cls [(cC, .char)] (va_A [(h, .inr (0, [.ref w, .int (nI n), .long d, .int (iZ T)])), (w, .inl (cC, 19, .inl (g)))] sz) [(h, .inr (0, [.ref w, .int (nI n), .long d, .int (iZ T)])), (w, .inl (cC, 19, .inl (g)))]) (va_A [(h, .inr (0, [.ref w, .int (nI n), .long d, .int (iZ T)])), (w, .inl (cC, 19, .inl (g)))] sz)) 0 0 (va_A [(h, .inr (0, [.ref w, .int (nI n), .long d, .int (iZ T)])), (w, .inl (cC, 19, .inl (g)))] sz) := by
  refine pw_meti (tn := fun (uu : Unit) => [(cC, .char)]) (wn := fun (uu : Unit) => [(h, .inr (0, [.ref w, .int (nI n), .long d, .int (iZ T)])), (w, .inl (cC, 19, .inl (g)))]) (by decide) (Nat.le_of_ble_eq_true rfl) ?_
  intro p e s m args below meth c A Q H ls hx hb hml hown hts hA hE hP hK hD hS hret hl
  have hown : s.vm.findClass R_De = some m.cls := hown
  have hl : lv_has ls 1 [(0, .ref h)] := hl
  refine lv_aload_n hx hb d_De_firstPlace_0 rfl (lv_at hl 0 rfl) ?_
  refine va_get (D := (dC, dI)) (ci := 0) (v := .int (iZ T)) (C := R_De) (T := F_De) (N := 4) hx hb hts i_De hown hK hP 0 rfl rfl 3 (by decide) (hts _ fl_De_21) (fun _ h9 => h9) rfl d_De_firstPlace_1 ?_
  refine lv_aload_n hx hb d_De_firstPlace_4 rfl (lv_at hl 0 rfl) ?_
  refine va_get (D := (dC, dI)) (ci := 0) (v := .int (nI n)) (C := R_De) (T := F_De) (N := 4) hx hb hts i_De hown hK hP 0 rfl rfl 1 (by decide) (hts _ fl_De_13) (fun _ h9 => h9) rfl d_De_firstPlace_5 ?_
  refine lv_iadd hx hb d_De_firstPlace_8 ?_
  refine lv_topi (fun x_1 e_2 => ?_)
  obtain rfl : x_1 = iZ (T + n) := e_2.trans (by rw [iZ_N]; exact iZ_add _ _)
  refine lv_iconst (v := 1) hx hb d_De_firstPlace_9 (by decide) ?_
  refine lv_isub hx hb d_De_firstPlace_10 ?_
  refine lv_topi (fun x_3 e_4 => ?_)
  obtain rfl : x_3 = iZ (T + n - 1) := e_4.trans (iZ_sub _ 1)
  exact hret _ _ _ _ _ () d_De_firstPlace_11 (vp_nar_int _) rfl hP hK hD hS
set_option maxHeartbeats 4000000 in
set_option maxRecDepth 100000 in
/-- digitAt -/
theorem c_De_digitAt (l : Launch) (dC : Nat → ClassId) (dI : Nat → Nat → Nat) (sz : Nat) (h w : Nat) (cC : ClassId) (g : Nat → Int32) (D n : Nat) (T P : Int) (hn : isnd D n) (hg : dgs g D n) (hD : D < 2 ^ 63) (h1 : -2 ^ 20 < T) (h2 : T < 2 ^ 20) (h3 : -2 ^ 20 < P) (h4 : P < 2 ^ 20) : Met l y_De_digitAt (Cond.code y_De_digitAt b_De_digitAt 3 (some .char) :: gT) ({ frames := 0, cells := 0, slots := 0, locals := 0 }) (va_Pc [.ref h, .int (iZ P)] (pw_P (dC, dI) cls [(cC, .char)] pw_0 [(h, .inr (0, [.ref w, .int (nI n), .long (lN D), .int (iZ T)])), (w, .inl (cC, 19, .inl (g)))] sz)) (va_Qi (fun (r : Int32) (uu : Unit) => r = nI (dga D (P - T))) (fun (uu : Unit) => pw_B (dC, dI) cls [(cC, .char)] (va_A [(h, .inr (0, [.ref w, .int (nI n), .long (lN D), .int (iZ T)])), (w, .inl (cC, 19, .inl (g)))] sz) [(h, .inr (0, [.ref w, .int (nI n), .long (lN D), .int (iZ T)])), (w, .inl (cC, 19, .inl (g)))]) (va_A [(h, .inr (0, [.ref w, .int (nI n), .long (lN D), .int (iZ T)])), (w, .inl (cC, 19, .inl (g)))] sz)) 0 0 (va_A [(h, .inr (0, [.ref w, .int (nI n), .long (lN D), .int (iZ T)])), (w, .inl (cC, 19, .inl (g)))] sz) := by
  refine pw_meti (tn := fun (uu : Unit) => [(cC, .char)]) (wn := fun (uu : Unit) => [(h, .inr (0, [.ref w, .int (nI n), .long (lN D), .int (iZ T)])), (w, .inl (cC, 19, .inl (g)))]) (by decide) (Nat.le_of_ble_eq_true rfl) ?_
  intro p e s m args below meth c A Q H ls hx hb hml hown hts hA hE hP hK hD hS hret hl
  have hown : s.vm.findClass R_De = some m.cls := hown
  have hl : lv_has ls 3 [(0, .ref h), (1, .int (iZ P))] := hl
  have hn19 : n ≤ 19 := isnd_le hn (by omega)
  have hD7 := hD
  refine lv_iload_n hx hb d_De_digitAt_0 rfl (lv_at hl 1 rfl) ?_
  refine lv_aload_n hx hb d_De_digitAt_1 rfl (lv_at hl 0 rfl) ?_
  refine va_get (D := (dC, dI)) (ci := 0) (v := .int (iZ T)) (C := R_De) (T := F_De) (N := 4) hx hb hts i_De hown hK hP 0 rfl rfl 3 (by decide) (hts _ fl_De_21) (fun _ h9 => h9) rfl d_De_digitAt_2 ?_
  refine lv_isub hx hb d_De_digitAt_5 ?_
  refine lv_topi (fun x_1 e_2 => ?_)
  obtain rfl : x_1 = iZ (P - T) := e_2.trans (iZ_sub _ _)
  refine lv_istore_n (lv' := [(2, .int (iZ (P - T))), (0, .ref h), (1, .int (iZ P))]) hx hb d_De_digitAt_6 rfl hl (by decide) rfl (fun ls hl => ?_)
  refine lv_iload_n hx hb d_De_digitAt_7 rfl (lv_at hl 0 rfl) ?_
  refine lv_if_lt (tgt := 37) hx hb d_De_digitAt_8 (by decide) (fun hc => ?_) (fun hc => ?_)
  · have hz : P - T < 0 := (iZ_lt (b := 0) (by omega) (by omega) (by omega) (by omega)).mp hc
    have e0 : dga D (P - T) = 48 := if_neg (by omega)
    refine lv_bipush (v := 48) hx hb d_De_digitAt_37 (by decide) ?_
    exact hret _ _ _ _ _ () d_De_digitAt_39 rfl (by rw [e0]; rfl) hP hK hD hS
  · have hz : 0 ≤ P - T := by have := mt (iZ_lt (a := P - T) (b := 0) (by omega) (by omega) (by omega) (by omega)).mpr hc; omega
    obtain ⟨j, hj⟩ : ∃ j : Nat, P - T = j := ⟨(P - T).toNat, by omega⟩
    rw [hj, ← iZ_N] at hl
    have hda : dga D (P - T) = 48 + D / 10 ^ j % 10 := by rw [hj]; exact if_pos (by omega)
    refine lv_iload_n hx hb d_De_digitAt_11 rfl (lv_at hl 0 rfl) ?_
    refine lv_aload_n hx hb d_De_digitAt_12 rfl (lv_at hl 1 rfl) ?_
    refine va_get (D := (dC, dI)) (ci := 0) (v := .int (nI n)) (C := R_De) (T := F_De) (N := 4) hx hb hts i_De hown hK hP 0 rfl rfl 1 (by decide) (hts _ fl_De_13) (fun _ h9 => h9) rfl d_De_digitAt_13 ?_
    refine lv_icmp_ge (tgt := 37) hx hb d_De_digitAt_16 (by decide) (fun hc2 => ?_) (fun hc2 => ?_)
    · have hge : n ≤ j := (nI_leI (by omega) (by omega)).mp hc2
      have e0 : dga D (P - T) = 48 := by rw [hda, Nat.div_eq_of_lt (Nat.lt_of_lt_of_le hn.1 (Nat.pow_le_pow_right (by decide) hge))]
      refine lv_bipush (v := 48) hx hb d_De_digitAt_37 (by decide) ?_
      exact hret _ _ _ _ _ () d_De_digitAt_39 rfl (by rw [e0]; rfl) hP hK hD hS
    · have hlt : j < n := by have := mt (nI_leI (a := n) (b := j) (by omega) (by omega)).mpr hc2; omega
      refine lv_iload_n hx hb d_De_digitAt_19 rfl (lv_at hl 0 rfl) ?_
      refine lv_aload_n hx hb d_De_digitAt_20 rfl (lv_at hl 1 rfl) ?_
      refine va_get (D := (dC, dI)) (ci := 0) (v := .ref w) (C := R_De) (T := F_De) (N := 4) hx hb hts i_De hown hK hP 0 rfl rfl 0 (by decide) (hts _ fl_De_9) (fun _ h9 => h9) rfl d_De_digitAt_21 ?_
      refine va_alen (v := nI 19) hx hb hK hP 1 0 rfl rfl rfl d_De_digitAt_24 ?_
      refine lv_icmp_ge (tgt := 37) hx hb d_De_digitAt_25 (by decide) (fun hc3 => ?_) (fun hc3 => ?_)
      · exact absurd ((nI_leI (a := 19) (b := j) (by omega) (by omega)).mp hc3) (by omega)
      · refine lv_aload_n hx hb d_De_digitAt_28 rfl (lv_at hl 1 rfl) ?_
        refine va_get (D := (dC, dI)) (ci := 0) (v := .ref w) (C := R_De) (T := F_De) (N := 4) hx hb hts i_De hown hK hP 0 rfl rfl 0 (by decide) (hts _ fl_De_9) (fun _ h9 => h9) rfl d_De_digitAt_29 ?_
        refine lv_iload_n hx hb d_De_digitAt_32 rfl (lv_at hl 0 rfl) ?_
        refine va_cald hx hb hK hP 1 0 rfl rfl (vp_in_nI (by omega) (by omega)) d_De_digitAt_33 ?_
        refine lv_topi (fun x_3 e_4 => ?_)
        obtain rfl : x_3 = nI (48 + D / 10 ^ j % 10) := e_4.trans (by rw [nI_clamp (by omega)]; exact hg j hlt)
        refine lv_goto (tgt := 39) hx hb d_De_digitAt_34 (by decide) ?_
        exact hret _ _ _ _ _ () d_De_digitAt_39 (pk_charN (by omega)).1 (by rw [hda]) hP hK hD hS
end
section
/-! BIT LENGTHS -/
def isbl (v b : Nat) : Prop := v < 2 ^ b ∧ (b = 0 ∨ 2 ^ (b - 1) ≤ v)
theorem isbl_lt {v b k : Nat} (h : isbl v b) (hk : v < 2 ^ k) : b ≤ k := by
  rcases Nat.lt_or_ge k b with q | q
  · rcases h.2 with g | g
    · omega
    · have := Nat.pow_le_pow_right (show 0 < 2 by decide) (show k ≤ b - 1 by omega)
      omega
  · exact q
theorem isbl_ge {v b k : Nat} (h : isbl v b) (hk : 2 ^ k ≤ v) : k < b := by
  rcases Nat.lt_or_ge k b with q | q
  · exact q
  · have := Nat.pow_le_pow_right (show 0 < 2 by decide) q
    have := h.1
    omega
theorem isbl_shr {v b k : Nat} (h : isbl v b) (hk : k < b) : isbl (v / 2 ^ k) (b - k) := by
  have hp : 0 < 2 ^ k := Nat.two_pow_pos _
  constructor
  · refine (Nat.div_lt_iff_lt_mul hp).mpr ?_
    rw [← Nat.pow_add, show b - k + k = b from by omega]
    exact h.1
  · rcases h.2 with g | g
    · omega
    · right
      refine (Nat.le_div_iff_mul_le hp).mpr ?_
      rw [← Nat.pow_add, show b - k - 1 + k = b - 1 from by omega]
      exact g
theorem isbl_pos {v b : Nat} (h : isbl v b) (hv : 0 < v) : 0 < b := by
  rcases Nat.eq_zero_or_pos b with q | q
  · have := h.1; rw [q] at this; omega
  · exact q
theorem nI_m {n k : Nat} (h : k ≤ n) : nI n + Int32.ofInt (-(k : Int)) = nI (n - k) := by
  rw [iZ_N, iZ_N]
  refine (iZ_add _ _).trans ?_
  congr 1
  omega
theorem iZ_shr20 {z : Int} (h1 : -2 ^ 31 ≤ z) (h2 : z < 2 ^ 31) : iZ z >>> ((20 : Int32) &&& 31) = iZ (z / 1048576) := by
  apply Int32.toInt_inj.mp
  rw [pk_shr (iZ z) _ 20 (by decide), iZ_toInt h1 h2, iZ_toInt (by omega) (by omega), Int.shiftRight_eq_div_pow]
  rfl
/-! THE FINDER -/
/-- a first guess at the place of the first digit -/
def fd_hp (b : Nat) (q : Int) : Int := ((b : Int) - 1 + q) * 315653 / 1048576 + 1
def wi (cmp : Int32) (ev : Nat) : Nat := if cmp < 0 ∨ cmp = 0 ∧ ev = 1 then 1 else 0
theorem wi_le (cmp : Int32) (ev : Nat) : wi cmp ev ≤ 1 := by
  unfold wi
  split <;> omega
def fd_dc (lb X U : Nat) : Int32 := if lb = 1 then bn_cmp (X + X) U else bn_cmp X U
def fd_dn (lb ev X U : Nat) : Nat := wi (fd_dc lb X U) ev
def fd_up (ev X U O : Nat) : Nat := wi (-(bn_cmp (X + U) O)) ev
def fd_nr (X O m : Nat) : Nat := if 0 < bn_cmp (X + X) O ∨ bn_cmp (X + X) O = 0 ∧ m % 2 = 1 then 1 else 0
theorem fd_dn_le (lb ev X U : Nat) : fd_dn lb ev X U ≤ 1 := wi_le _ _
theorem fd_up_le (ev X U O : Nat) : fd_up ev X U O ≤ 1 := wi_le _ _
theorem fd_nr_le (X O m : Nat) : fd_nr X O m ≤ 1 := by
  unfold fd_nr
  split <;> omega
theorem nI_b0 {x : Nat} (h : x ≤ 1) : nI x = 0 ↔ x = 0 := nI_eq (b := 0) (by omega) (by omega)
theorem nI_bz {x : Nat} (h : x ≤ 1) : narrow .boolean (.int (nI x)) = .int (nI x) := by
  rcases (show x = 0 ∨ x = 1 by omega) with rfl | rfl <;> rfl
theorem nI_big {v : Nat} (h : 2 ^ 31 ≤ v) (h2 : v < 2 ^ 32) : ¬ (0 : Int32) < nI v ∧ ¬ nI v = 0 := by
  have e : (nI v).toInt = (v : Int) - 2 ^ 32 := by
    have e2 : nI v = iZ ((v : Int) - 2 ^ 32) := by
      rw [iZ_N]
      apply Int32.toBitVec_inj.mp
      show BitVec.ofInt 32 _ = BitVec.ofInt 32 _
      apply BitVec.eq_of_toNat_eq
      rw [BitVec.toNat_ofInt, BitVec.toNat_ofInt]
      omega
    rw [e2, iZ_toInt (by omega) (by omega)]
  constructor
  · rw [Int32.lt_iff_toInt_lt, e, Int32.toInt_zero]
    omega
  · intro q
    rw [q, Int32.toInt_zero] at e
    omega
theorem fd_quot {X O d : Nat} (h1 : d * O ≤ X) (h2 : X - d * O < O) : X / O = d ∧ X % O = X - d * O := by
  have hO : 0 < O := by omega
  have e : X = O * d + (X - d * O) := by rw [Nat.mul_comm O d]; omega
  constructor
  · conv => lhs; rw [e]
    rw [Nat.mul_add_div hO, Nat.div_eq_of_lt h2, Nat.add_zero]
  · conv => lhs; rw [e]
    rw [Nat.mul_add_mod, Nat.mod_eq_of_lt h2]
theorem bn_cmp_lt0 {V U : Nat} : bn_cmp V U < 0 ↔ V < U := by
  unfold bn_cmp
  by_cases h : V < U
  · rw [if_pos h]; exact ⟨fun _ => h, fun _ => by decide⟩
  · rw [if_neg h]
    by_cases h2 : V = U
    · rw [if_pos h2]; exact ⟨fun q => absurd q (by decide), fun q => absurd q h⟩
    · rw [if_neg h2]; exact ⟨fun q => absurd q (by decide), fun q => absurd q h⟩
theorem bn_cmp_ge0 {V U : Nat} : 0 ≤ bn_cmp V U ↔ U ≤ V := by
  unfold bn_cmp
  by_cases h : V < U
  · rw [if_pos h]; exact ⟨fun q => absurd q (by decide), fun q => absurd h (by omega)⟩
  · rw [if_neg h]
    by_cases h2 : V = U
    · rw [if_pos h2]; exact ⟨fun _ => by omega, fun _ => by decide⟩
    · rw [if_neg h2]; exact ⟨fun _ => by omega, fun _ => by decide⟩
/-- the first n digits of R / O, and what they leave -/
def fd_m (R O n : Nat) : Nat := R * 10 ^ (n - 1) / O
def fd_r (R O n : Nat) : Nat := R * 10 ^ (n - 1) % O
theorem fd_step {R O n : Nat} (hO : 0 < O) (hn : 0 < n) : fd_m R O (n + 1) = fd_m R O n * 10 + fd_r R O n * 10 / O ∧ fd_r R O (n + 1) = fd_r R O n * 10 % O := by
  unfold fd_m fd_r
  obtain ⟨k, rfl⟩ : ∃ k, n = k + 1 := ⟨n - 1, by omega⟩
  simp only [Nat.add_sub_cancel]
  have e : R * 10 ^ (k + 1) = O * (R * 10 ^ k / O * 10) + R * 10 ^ k % O * 10 := by
    have := Nat.div_add_mod (R * 10 ^ k) O
    rw [Nat.pow_succ, ← Nat.mul_assoc, ← Nat.mul_assoc, ← Nat.add_mul, this]
  constructor
  · rw [e, Nat.mul_add_div hO]
  · rw [e, Nat.mul_add_mod]
theorem fd_m_lt {R O n : Nat} (hO : 0 < O) (hR : R < 10 * O) (hn : 0 < n) : fd_m R O n < 10 ^ n := by
  unfold fd_m
  refine (Nat.div_lt_iff_lt_mul hO).mpr ?_
  obtain ⟨k, rfl⟩ : ∃ k, n = k + 1 := ⟨n - 1, by omega⟩
  rw [Nat.add_sub_cancel, Nat.pow_succ, Nat.mul_assoc, Nat.mul_comm (10 ^ k)]
  exact Nat.mul_lt_mul_of_pos_right hR (Nat.pow_pos (by decide))
theorem fd_m_pos {R O n : Nat} (hO : 0 < O) (hR : O ≤ R) : 0 < fd_m R O n := by
  unfold fd_m
  refine Nat.div_pos (Nat.le_trans hR (Nat.le_mul_of_pos_right _ (Nat.pow_pos (by decide)))) hO
/-- what find leaves: n digits, the nearer one of two; zeros at the end are taken off -/
def fd_res (lb ev R U O : Nat) (P : Int) (D : Nat) (t : Int) : Prop :=
  ∃ n k : Nat, 2 ≤ n ∧ n ≤ 17 ∧ (∀ j, 2 ≤ j → j < n → fd_dn lb ev (fd_r R O j) (U * 10 ^ (j - 1)) = 0 ∧ fd_up ev (fd_r R O j) (U * 10 ^ (j - 1)) O = 0) ∧
    (n = 17 ∨ fd_dn lb ev (fd_r R O n) (U * 10 ^ (n - 1)) ≠ 0 ∨ fd_up ev (fd_r R O n) (U * 10 ^ (n - 1)) O ≠ 0) ∧
    D * 10 ^ k = fd_m R O n + (if fd_up ev (fd_r R O n) (U * 10 ^ (n - 1)) O ≠ 0 ∧ (fd_dn lb ev (fd_r R O n) (U * 10 ^ (n - 1)) = 0 ∨ fd_nr (fd_r R O n) O (fd_m R O n) ≠ 0) then 1 else 0) ∧
    D % 10 ≠ 0 ∧ t = P - (n - 1 : Nat) + k ∧ k < 19
def fd_ev (S : Nat) : Nat := if S % 2 = 0 then 1 else 0
end
section
set_option maxHeartbeats 4000000 in
set_option maxRecDepth 100000 in
/-- Integer.numberOfLeadingZeros -/
theorem c_JI_nlz (l : Launch) (dC : Nat → ClassId) (dI : Nat → Nat → Nat) (sz : Nat) (v b : Nat) (hv : isbl v b) (hb2 : b ≤ 32) : Met l y_JI_numberOfLeadingZeros (Cond.code y_JI_numberOfLeadingZeros b_JI_numberOfLeadingZeros 2 (some .int) :: gT) ({ frames := 0, cells := 0, slots := 0, locals := 0 }) (va_Pc [.int (nI v)] (pw_P (dC, dI) cls [] pw_0 [] sz)) (va_Qi (fun (r : Int32) (uu : Unit) => r = nI (32 - b)) (fun (uu : Unit) => pw_B (dC, dI) cls [] (va_A [] sz) []) (va_A [] sz)) 0 0 (va_A [] sz) := by
  refine pw_meti (tn := fun (uu : Unit) => []) (wn := fun (uu : Unit) => []) (by decide) (Nat.le_of_ble_eq_true rfl) ?_
  intro p e s m args below meth c A Q H ls hx hb hml hown hts hA hE hP hK hD hS hret hl
  have hown : s.vm.findClass R_JI = some m.cls := hown
  have hl : lv_has ls 2 [(0, .int (nI v))] := hl
  have hv32 : v < 2 ^ 32 := Nat.lt_of_lt_of_le hv.1 (Nat.pow_le_pow_right (by decide) hb2)
  have k73 : ∀ (i n d : Nat) (H : Heap) (locs : List Loc) (ls : Array Slot), isbl i d → 0 < d → d ≤ 2 → n + b = 31 + d → n ≤ 31 → va_P (dC, dI) cls [] H → va_D A [] → va_S A s.heap H locs → lv_has ls 2 [(1, .int (nI n)), (0, .int (nI i))] → W p l e { frames := 0, cells := 0, slots := 0, locals := 0 } s m args below meth c H locs 0 0 Q (F0 m 73 ls []) := by
    intro i n d H locs ls hi hd0 hd hn hn31 hP hD hS hl
    have hi4 : i < 2 ^ 2 := Nat.lt_of_lt_of_le hi.1 (Nat.pow_le_pow_right (by decide) hd)
    have hdi : i / 2 = d - 1 := by
      rcases (show d = 1 ∨ d = 2 by omega) with rfl | rfl
      · have h1 := hi.1; omega
      · rcases hi.2 with g | g; omega; have h1 := hi.1; simp at g; omega
    refine lv_iload_n hx hb d_JI_numberOfLeadingZeros_73 rfl (lv_at hl 0 rfl) ?_
    refine lv_iload_n hx hb d_JI_numberOfLeadingZeros_74 rfl (lv_at hl 1 rfl) ?_
    refine lv_iconst (v := 1) hx hb d_JI_numberOfLeadingZeros_75 (by decide) ?_
    refine lv_iushr (v := nI (d - 1)) hx hb d_JI_numberOfLeadingZeros_76 ((pk_ushrN (n := i) (by omega) 1 1 (by decide)).trans (by rw [Nat.pow_one, hdi])) ?_
    refine lv_isub hx hb d_JI_numberOfLeadingZeros_77 ?_
    refine lv_topi (fun x_1 e_2 => ?_)
    obtain rfl : x_1 = nI (32 - b) := e_2.trans ((pk_sub (by omega)).trans (by congr 1; omega))
    exact hret _ _ _ _ _ () d_JI_numberOfLeadingZeros_78 (vp_nar_int _) rfl hP hK hD hS
  have k61 : ∀ (i n d : Nat) (H : Heap) (locs : List Loc) (ls : Array Slot), isbl i d → 0 < d → d ≤ 4 → n + b = 31 + d → n ≤ 31 → va_P (dC, dI) cls [] H → va_D A [] → va_S A s.heap H locs → lv_has ls 2 [(1, .int (nI n)), (0, .int (nI i))] → W p l e { frames := 0, cells := 0, slots := 0, locals := 0 } s m args below meth c H locs 0 0 Q (F0 m 61 ls []) := by
    intro i n d H locs ls hi hd0 hd hn hn31 hP hD hS hl
    have hi31 : i < 2 ^ 31 := Nat.lt_of_lt_of_le hi.1 (Nat.pow_le_pow_right (by decide) (by omega))
    refine lv_iload_n hx hb d_JI_numberOfLeadingZeros_61 rfl (lv_at hl 1 rfl) ?_
    refine lv_iconst (v := 4) hx hb d_JI_numberOfLeadingZeros_62 (by decide) ?_
    refine lv_icmp_lt (tgt := 73) hx hb d_JI_numberOfLeadingZeros_63 (by decide) (fun hc => ?_) (fun hc => ?_)
    · have hlt : i < 2 ^ 2 := (nI_ltI (a := i) (b := 4) (by omega) (by omega)).mp hc
      exact k73 i n d H locs ls hi hd0 (isbl_lt hi hlt) hn hn31 hP hD hS hl
    · have hge : 2 ^ 2 ≤ i := by have := mt (nI_ltI (a := i) (b := 4) (by omega) (by omega)).mpr hc; omega
      have hkd := isbl_ge hi hge
      refine lv_iinc (v := nI (n - 2)) (lv' := [(1, .int (nI (n - 2))), (0, .int (nI i))]) hx hb d_JI_numberOfLeadingZeros_66 hl (k := 0) rfl (nI_m (k := 2) (by omega)) (by decide) rfl (fun ls hl => ?_)
      refine lv_iload_n hx hb d_JI_numberOfLeadingZeros_69 rfl (lv_at hl 1 rfl) ?_
      refine lv_iconst (v := 2) hx hb d_JI_numberOfLeadingZeros_70 (by decide) ?_
      refine lv_iushr (v := nI (i / 2 ^ 2)) hx hb d_JI_numberOfLeadingZeros_71 (pk_ushrN (n := i) (by omega) 2 2 (by decide)) ?_
      refine lv_istore_n (lv' := [(0, .int (nI (i / 2 ^ 2))), (1, .int (nI (n - 2)))]) hx hb d_JI_numberOfLeadingZeros_72 rfl hl (by decide) rfl (fun ls hl => ?_)
      exact k73 (i / 2 ^ 2) (n - 2) (d - 2) H locs ls (isbl_shr hi hkd) (by omega) (by omega) (by omega) (by omega) hP hD hS (lv_sub hl [1, 0] rfl)
  have k48 : ∀ (i n d : Nat) (H : Heap) (locs : List Loc) (ls : Array Slot), isbl i d → 0 < d → d ≤ 8 → n + b = 31 + d → n ≤ 31 → va_P (dC, dI) cls [] H → va_D A [] → va_S A s.heap H locs → lv_has ls 2 [(1, .int (nI n)), (0, .int (nI i))] → W p l e { frames := 0, cells := 0, slots := 0, locals := 0 } s m args below meth c H locs 0 0 Q (F0 m 48 ls []) := by
    intro i n d H locs ls hi hd0 hd hn hn31 hP hD hS hl
    have hi31 : i < 2 ^ 31 := Nat.lt_of_lt_of_le hi.1 (Nat.pow_le_pow_right (by decide) (by omega))
    refine lv_iload_n hx hb d_JI_numberOfLeadingZeros_48 rfl (lv_at hl 1 rfl) ?_
    refine lv_bipush (v := 16) hx hb d_JI_numberOfLeadingZeros_49 (by decide) ?_
    refine lv_icmp_lt (tgt := 61) hx hb d_JI_numberOfLeadingZeros_51 (by decide) (fun hc => ?_) (fun hc => ?_)
    · have hlt : i < 2 ^ 4 := (nI_ltI (a := i) (b := 16) (by omega) (by omega)).mp hc
      exact k61 i n d H locs ls hi hd0 (isbl_lt hi hlt) hn hn31 hP hD hS hl
    · have hge : 2 ^ 4 ≤ i := by have := mt (nI_ltI (a := i) (b := 16) (by omega) (by omega)).mpr hc; omega
      have hkd := isbl_ge hi hge
      refine lv_iinc (v := nI (n - 4)) (lv' := [(1, .int (nI (n - 4))), (0, .int (nI i))]) hx hb d_JI_numberOfLeadingZeros_54 hl (k := 0) rfl (nI_m (k := 4) (by omega)) (by decide) rfl (fun ls hl => ?_)
      refine lv_iload_n hx hb d_JI_numberOfLeadingZeros_57 rfl (lv_at hl 1 rfl) ?_
      refine lv_iconst (v := 4) hx hb d_JI_numberOfLeadingZeros_58 (by decide) ?_
      refine lv_iushr (v := nI (i / 2 ^ 4)) hx hb d_JI_numberOfLeadingZeros_59 (pk_ushrN (n := i) (by omega) 4 4 (by decide)) ?_
      refine lv_istore_n (lv' := [(0, .int (nI (i / 2 ^ 4))), (1, .int (nI (n - 4)))]) hx hb d_JI_numberOfLeadingZeros_60 rfl hl (by decide) rfl (fun ls hl => ?_)
      exact k61 (i / 2 ^ 4) (n - 4) (d - 4) H locs ls (isbl_shr hi hkd) (by omega) (by omega) (by omega) (by omega) hP hD hS (lv_sub hl [1, 0] rfl)
  have k33 : ∀ (i n d : Nat) (H : Heap) (locs : List Loc) (ls : Array Slot), isbl i d → 0 < d → d ≤ 16 → n + b = 31 + d → n ≤ 31 → va_P (dC, dI) cls [] H → va_D A [] → va_S A s.heap H locs → lv_has ls 2 [(1, .int (nI n)), (0, .int (nI i))] → W p l e { frames := 0, cells := 0, slots := 0, locals := 0 } s m args below meth c H locs 0 0 Q (F0 m 33 ls []) := by
    intro i n d H locs ls hi hd0 hd hn hn31 hP hD hS hl
    have hi31 : i < 2 ^ 31 := Nat.lt_of_lt_of_le hi.1 (Nat.pow_le_pow_right (by decide) (by omega))
    refine lv_iload_n hx hb d_JI_numberOfLeadingZeros_33 rfl (lv_at hl 1 rfl) ?_
    refine lv_sipush (v := 256) hx hb d_JI_numberOfLeadingZeros_34 (by decide) ?_
    refine lv_icmp_lt (tgt := 48) hx hb d_JI_numberOfLeadingZeros_37 (by decide) (fun hc => ?_) (fun hc => ?_)
    · have hlt : i < 2 ^ 8 := (nI_ltI (a := i) (b := 256) (by omega) (by omega)).mp hc
      exact k48 i n d H locs ls hi hd0 (isbl_lt hi hlt) hn hn31 hP hD hS hl
    · have hge : 2 ^ 8 ≤ i := by have := mt (nI_ltI (a := i) (b := 256) (by omega) (by omega)).mpr hc; omega
      have hkd := isbl_ge hi hge
      refine lv_iinc (v := nI (n - 8)) (lv' := [(1, .int (nI (n - 8))), (0, .int (nI i))]) hx hb d_JI_numberOfLeadingZeros_40 hl (k := 0) rfl (nI_m (k := 8) (by omega)) (by decide) rfl (fun ls hl => ?_)
      refine lv_iload_n hx hb d_JI_numberOfLeadingZeros_43 rfl (lv_at hl 1 rfl) ?_
      refine lv_bipush (v := 8) hx hb d_JI_numberOfLeadingZeros_44 (by decide) ?_
      refine lv_iushr (v := nI (i / 2 ^ 8)) hx hb d_JI_numberOfLeadingZeros_46 (pk_ushrN (n := i) (by omega) 8 8 (by decide)) ?_
      refine lv_istore_n (lv' := [(0, .int (nI (i / 2 ^ 8))), (1, .int (nI (n - 8)))]) hx hb d_JI_numberOfLeadingZeros_47 rfl hl (by decide) rfl (fun ls hl => ?_)
      exact k48 (i / 2 ^ 8) (n - 8) (d - 8) H locs ls (isbl_shr hi hkd) (by omega) (by omega) (by omega) (by omega) hP hD hS (lv_sub hl [1, 0] rfl)
  have k18 : ∀ (i n d : Nat) (H : Heap) (locs : List Loc) (ls : Array Slot), isbl i d → 0 < d → d ≤ 31 → n + b = 31 + d → n ≤ 31 → va_P (dC, dI) cls [] H → va_D A [] → va_S A s.heap H locs → lv_has ls 2 [(1, .int (nI n)), (0, .int (nI i))] → W p l e { frames := 0, cells := 0, slots := 0, locals := 0 } s m args below meth c H locs 0 0 Q (F0 m 18 ls []) := by
    intro i n d H locs ls hi hd0 hd hn hn31 hP hD hS hl
    have hi31 : i < 2 ^ 31 := Nat.lt_of_lt_of_le hi.1 (Nat.pow_le_pow_right (by decide) (by omega))
    refine lv_iload_n hx hb d_JI_numberOfLeadingZeros_18 rfl (lv_at hl 1 rfl) ?_
    refine lv_ldcw (v := 65536) hx hb hown (hts _ ko_JI_264) d_JI_numberOfLeadingZeros_19 ?_
    refine lv_icmp_lt (tgt := 33) hx hb d_JI_numberOfLeadingZeros_22 (by decide) (fun hc => ?_) (fun hc => ?_)
    · have hlt : i < 2 ^ 16 := (nI_ltI (a := i) (b := 65536) (by omega) (by omega)).mp hc
      exact k33 i n d H locs ls hi hd0 (isbl_lt hi hlt) hn hn31 hP hD hS hl
    · have hge : 2 ^ 16 ≤ i := by have := mt (nI_ltI (a := i) (b := 65536) (by omega) (by omega)).mpr hc; omega
      have hkd := isbl_ge hi hge
      refine lv_iinc (v := nI (n - 16)) (lv' := [(1, .int (nI (n - 16))), (0, .int (nI i))]) hx hb d_JI_numberOfLeadingZeros_25 hl (k := 0) rfl (nI_m (k := 16) (by omega)) (by decide) rfl (fun ls hl => ?_)
      refine lv_iload_n hx hb d_JI_numberOfLeadingZeros_28 rfl (lv_at hl 1 rfl) ?_
      refine lv_bipush (v := 16) hx hb d_JI_numberOfLeadingZeros_29 (by decide) ?_
      refine lv_iushr (v := nI (i / 2 ^ 16)) hx hb d_JI_numberOfLeadingZeros_31 (pk_ushrN (n := i) (by omega) 16 16 (by decide)) ?_
      refine lv_istore_n (lv' := [(0, .int (nI (i / 2 ^ 16))), (1, .int (nI (n - 16)))]) hx hb d_JI_numberOfLeadingZeros_32 rfl hl (by decide) rfl (fun ls hl => ?_)
      exact k33 (i / 2 ^ 16) (n - 16) (d - 16) H locs ls (isbl_shr hi hkd) (by omega) (by omega) (by omega) (by omega) hP hD hS (lv_sub hl [1, 0] rfl)
  refine lv_iload_n hx hb d_JI_numberOfLeadingZeros_0 rfl (lv_at hl 0 rfl) ?_
  refine lv_if_gt (tgt := 15) hx hb d_JI_numberOfLeadingZeros_1 (by decide) (fun hc => ?_) (fun hc => ?_)
  · have hpos : 0 < v ∧ v < 2 ^ 31 := by
      rcases Nat.lt_or_ge v (2 ^ 31) with q | q
      · exact ⟨(nI_ltI (a := 0) (b := v) (by omega) (by omega)).mp hc, q⟩
      · exact absurd hc (nI_big q hv32).1
    refine lv_bipush (v := 31) hx hb d_JI_numberOfLeadingZeros_15 (by decide) ?_
    refine lv_istore_n (lv' := [(1, .int 31), (0, .int (nI v))]) hx hb d_JI_numberOfLeadingZeros_17 rfl hl (by decide) rfl (fun ls hl => ?_)
    exact k18 v 31 b H _ ls hv (isbl_pos hv hpos.1) (isbl_lt hv hpos.2) (by omega) (by omega) hP hD hS (lv_sub hl [0, 1] rfl)
  · refine lv_iload_n hx hb d_JI_numberOfLeadingZeros_4 rfl (lv_at hl 0 rfl) ?_
    refine lv_if_ne (tgt := 13) hx hb d_JI_numberOfLeadingZeros_5 (by decide) (fun hz => ?_) (fun hz => ?_)
    · have hb32 : b = 32 := by
        rcases Nat.lt_or_ge v (2 ^ 31) with q | q
        · exfalso; rcases Nat.eq_zero_or_pos v with g | g
          · exact hz (by rw [g]; rfl)
          · exact hc ((nI_ltI (a := 0) (b := v) (by omega) (by omega)).mpr g)
        · have := isbl_ge hv q; omega
      refine lv_iconst (v := 0) hx hb d_JI_numberOfLeadingZeros_13 (by decide) ?_
      exact hret _ _ _ _ _ () d_JI_numberOfLeadingZeros_14 (vp_nar_int _) (by rw [hb32]; rfl) hP hK hD hS
    · have hv0 : v = 0 := by
        rcases Nat.lt_or_ge v (2 ^ 31) with q | q
        · exact (nI_eq (a := v) (b := 0) (by omega) (by omega)).mp hz
        · exact absurd hz (nI_big q hv32).2
      have hb0 : b = 0 := by have := isbl_lt (k := 0) hv (by rw [hv0]; decide); omega
      refine lv_bipush (v := 32) hx hb d_JI_numberOfLeadingZeros_8 (by decide) ?_
      refine lv_goto (tgt := 14) hx hb d_JI_numberOfLeadingZeros_10 (by decide) ?_
      exact hret _ _ _ _ _ () d_JI_numberOfLeadingZeros_14 (vp_nar_int _) (by rw [hb0]; rfl) hP hK hD hS
set_option maxHeartbeats 4000000 in
set_option maxRecDepth 100000 in
/-- Long.numberOfLeadingZeros -/
theorem c_JL_nlz (l : Launch) (dC : Nat → ClassId) (dI : Nat → Nat → Nat) (sz : Nat) (v b : Nat) (hv : isbl v b) (hb2 : b ≤ 63) : Met l y_JL_numberOfLeadingZeros (Cond.code y_JL_numberOfLeadingZeros b_JL_numberOfLeadingZeros 3 (some .int) :: gT) ({ frames := 1, cells := 0, slots := 0, locals := 21 }) (va_Pc [.long (lN v)] (pw_P (dC, dI) cls [] pw_0 [] sz)) (va_Qi (fun (r : Int32) (uu : Unit) => r = nI (64 - b)) (fun (uu : Unit) => pw_B (dC, dI) cls [] (va_A [] sz) []) (va_A [] sz)) 0 0 (va_A [] sz) := by
  refine pw_meti (tn := fun (uu : Unit) => []) (wn := fun (uu : Unit) => []) (by decide) (Nat.le_of_ble_eq_true rfl) ?_
  intro p e s m args below meth c A Q H ls hx hb hml hown hts hA hE hP hK hD hS hret hl
  have hown : s.vm.findClass R_JL = some m.cls := hown
  have hl : lv_has ls 3 [(0, .long (lN v))] := hl
  have hv63 : v < 2 ^ 63 := Nat.lt_of_lt_of_le hv.1 (Nat.pow_le_pow_right (by decide) hb2)
  refine lv_lload_n hx hb d_JL_numberOfLeadingZeros_0 rfl (lv_at hl 0 rfl) ?_
  refine lv_bipush (v := 32) hx hb d_JL_numberOfLeadingZeros_1 (by decide) ?_
  refine lv_lushr (v := lN (v / 2 ^ 32)) hx hb d_JL_numberOfLeadingZeros_3 (lZ_nhi (by omega)) ?_
  refine lv_l2i (v := nI (v / 2 ^ 32)) hx hb d_JL_numberOfLeadingZeros_4 (lN_i _) ?_
  refine lv_istore_n (lv' := [(2, .int (nI (v / 2 ^ 32))), (0, .long (lN v))]) hx hb d_JL_numberOfLeadingZeros_5 rfl hl (by decide) rfl (fun ls hl => ?_)
  refine lv_iload_n hx hb d_JL_numberOfLeadingZeros_6 rfl (lv_at hl 0 rfl) ?_
  refine lv_if_ne (tgt := 21) hx hb d_JL_numberOfLeadingZeros_7 (by decide) (fun hz => ?_) (fun hz => ?_)
  · have hz0 : v / 2 ^ 32 ≠ 0 := fun q => hz (by rw [q]; rfl)
    have hge : 2 ^ 32 ≤ v := by omega
    have hkb := isbl_ge hv hge
    refine lv_iload_n hx hb d_JL_numberOfLeadingZeros_21 rfl (lv_at hl 0 rfl) ?_
    refine pw_calli (wc := []) (wr := []) [] [] rfl rfl rfl (by decide) (by decide) (by decide) hP hD hS hA (fun hPc hDc hF => va_runS (As := [.int (nI (v / 2 ^ 32))]) (rest := []) ⟨hx, hb, hml, hown, hts⟩ (c_JI_nlz l dC dI H.size (v / 2 ^ 32) (b - 32) (isbl_shr hv hkb) (by omega)) (va_cwS 1 hts (gw_S (gw_self cod_JI_numberOfLeadingZeros) ml_JL_308 sta_JI_numberOfLeadingZeros ini_JI) rfl rfl rfl (by decide +kernel) ⟨Nat.le_of_ble_eq_true rfl, Nat.le_of_ble_eq_true rfl⟩) (pw_preS pw_0_ok (trivial : pw_0 A s s.heap) hS hF hPc hDc (hK.sub [] rfl)) rfl rfl hl.1 rfl (lv_room (Nat.le_of_ble_eq_true rfl)) d_JL_numberOfLeadingZeros_22 ⟨Nat.le_of_ble_eq_true rfl, Nat.le_of_ble_eq_true rfl⟩) (fun r5 u5 H locs hw5 hK1 hP hD hS => ?_)
    have hP : va_P (dC, dI) cls [] H := hP
    have hD : va_D A [] := hD
    exact hret _ _ _ _ _ () d_JL_numberOfLeadingZeros_25 (vp_nar_int _) (by rw [hw5]; congr 1; omega) hP hK hD hS
  · have hz0 : v / 2 ^ 32 = 0 := (nI_eq (a := v / 2 ^ 32) (b := 0) (by omega) (by omega)).mp hz
    have hlt : v < 2 ^ 32 := by omega
    refine lv_bipush (v := 32) hx hb d_JL_numberOfLeadingZeros_10 (by decide) ?_
    refine lv_lload_n hx hb d_JL_numberOfLeadingZeros_12 rfl (lv_at hl 1 rfl) ?_
    refine lv_l2i (v := nI v) hx hb d_JL_numberOfLeadingZeros_13 (lN_i _) ?_
    have hb32 := isbl_lt hv hlt
    refine pw_calli (wc := []) (wr := []) [] [] rfl rfl rfl (by decide) (by decide) (by decide) hP hD hS hA (fun hPc hDc hF => va_runS (As := [.int (nI v)]) (rest := [.int 32]) ⟨hx, hb, hml, hown, hts⟩ (c_JI_nlz l dC dI H.size v b hv hb32) (va_cwS 1 hts (gw_S (gw_self cod_JI_numberOfLeadingZeros) ml_JL_308 sta_JI_numberOfLeadingZeros ini_JI) rfl rfl rfl (by decide +kernel) ⟨Nat.le_of_ble_eq_true rfl, Nat.le_of_ble_eq_true rfl⟩) (pw_preS pw_0_ok (trivial : pw_0 A s s.heap) hS hF hPc hDc (hK.sub [] rfl)) rfl rfl hl.1 rfl (lv_room (Nat.le_of_ble_eq_true rfl)) d_JL_numberOfLeadingZeros_14 ⟨Nat.le_of_ble_eq_true rfl, Nat.le_of_ble_eq_true rfl⟩) (fun r5 u5 H locs hw5 hK1 hP hD hS => ?_)
    have hP : va_P (dC, dI) cls [] H := hP
    have hD : va_D A [] := hD
    refine lv_iadd hx hb d_JL_numberOfLeadingZeros_17 ?_
    refine lv_topi (fun x_1 e_2 => ?_)
    obtain rfl : x_1 = nI (64 - b) := e_2.trans (by rw [hw5]; exact (nI_add 32 _).trans (by congr 1; omega))
    refine lv_goto (tgt := 25) hx hb d_JL_numberOfLeadingZeros_18 (by decide) ?_
    exact hret _ _ _ _ _ () d_JL_numberOfLeadingZeros_25 (vp_nar_int _) rfl hP hK hD hS
set_option maxHeartbeats 4000000 in
set_option maxRecDepth 100000 in
/-- highestPlace -/
theorem c_Fi_highestPlace (l : Launch) (dC : Nat → ClassId) (dI : Nat → Nat → Nat) (sz : Nat) (v b : Nat) (q : Int) (hv : isbl v b) (hb2 : b ≤ 63) (hq1 : -2000 < q) (hq2 : q < 2000) : Met l y_Fi_highestPlace (Cond.code y_Fi_highestPlace b_Fi_highestPlace 4 (some .int) :: gT) ({ frames := 2, cells := 0, slots := 0, locals := 43 }) (va_Pc [.long (lN v), .int (iZ q)] (pw_P (dC, dI) cls [] pw_0 [] sz)) (va_Qi (fun (r : Int32) (uu : Unit) => r = iZ (fd_hp b q)) (fun (uu : Unit) => pw_B (dC, dI) cls [] (va_A [] sz) []) (va_A [] sz)) 0 0 (va_A [] sz) := by
  refine pw_meti (tn := fun (uu : Unit) => []) (wn := fun (uu : Unit) => []) (by decide) (Nat.le_of_ble_eq_true rfl) ?_
  intro p e s m args below meth c A Q H ls hx hb hml hown hts hA hE hP hK hD hS hret hl
  have hown : s.vm.findClass R_Fi = some m.cls := hown
  have hl : lv_has ls 4 [(0, .long (lN v)), (2, .int (iZ q))] := hl
  refine lv_bipush (v := 63) hx hb d_Fi_highestPlace_0 (by decide) ?_
  refine lv_lload_n hx hb d_Fi_highestPlace_2 rfl (lv_at hl 0 rfl) ?_
  refine pw_calli (wc := []) (wr := []) [] [] rfl rfl rfl (by decide) (by decide) (by decide) hP hD hS hA (fun hPc hDc hF => va_runS (As := [.long (lN v)]) (rest := [.int 63]) ⟨hx, hb, hml, hown, hts⟩ (c_JL_nlz l dC dI H.size v b hv hb2) (va_cwS 1 hts (gw_S (gw_self cod_JL_numberOfLeadingZeros) ml_Fi_64 sta_JL_numberOfLeadingZeros ini_JL) rfl rfl rfl (by decide +kernel) ⟨Nat.le_of_ble_eq_true rfl, Nat.le_of_ble_eq_true rfl⟩) (pw_preS pw_0_ok (trivial : pw_0 A s s.heap) hS hF hPc hDc (hK.sub [] rfl)) rfl rfl hl.1 rfl (lv_room (Nat.le_of_ble_eq_true rfl)) d_Fi_highestPlace_3 ⟨Nat.le_of_ble_eq_true rfl, Nat.le_of_ble_eq_true rfl⟩) (fun r5 u5 H locs hw5 hK1 hP hD hS => ?_)
  have hP : va_P (dC, dI) cls [] H := hP
  have hD : va_D A [] := hD
  refine lv_isub hx hb d_Fi_highestPlace_6 ?_
  refine lv_topi (fun x_1 e_2 => ?_)
  obtain rfl : x_1 = iZ ((b : Int) - 1) := e_2.trans (by rw [hw5, iZ_N]; exact (iZ_sub 63 _).trans (by congr 1; omega))
  refine lv_iload_n hx hb d_Fi_highestPlace_7 rfl (lv_at hl 1 rfl) ?_
  refine lv_iadd hx hb d_Fi_highestPlace_8 ?_
  refine lv_topi (fun x_3 e_4 => ?_)
  obtain rfl : x_3 = iZ ((b : Int) - 1 + q) := e_4.trans (iZ_add _ _)
  refine lv_istore_n (lv' := [(3, .int (iZ ((b : Int) - 1 + q))), (0, .long (lN v)), (2, .int (iZ q))]) hx hb d_Fi_highestPlace_9 rfl hl (by decide) rfl (fun ls hl => ?_)
  refine lv_iload_n hx hb d_Fi_highestPlace_10 rfl (lv_at hl 0 rfl) ?_
  refine lv_ldc (v := 315653) hx hb hown (hts _ ko_Fi_70) d_Fi_highestPlace_11 ?_
  refine lv_imul hx hb d_Fi_highestPlace_13 ?_
  refine lv_topi (fun x_5 e_6 => ?_)
  obtain rfl : x_5 = iZ (((b : Int) - 1 + q) * 315653) := e_6.trans (iZ_mul _ 315653)
  refine lv_bipush (v := 20) hx hb d_Fi_highestPlace_14 (by decide) ?_
  refine lv_ishr hx hb d_Fi_highestPlace_16 ?_
  refine lv_topi (fun x_7 e_8 => ?_)
  obtain rfl : x_7 = iZ (((b : Int) - 1 + q) * 315653 / 1048576) := e_8.trans (iZ_shr20 (by omega) (by omega))
  refine lv_iconst (v := 1) hx hb d_Fi_highestPlace_17 (by decide) ?_
  refine lv_iadd hx hb d_Fi_highestPlace_18 ?_
  refine lv_topi (fun x_9 e_10 => ?_)
  obtain rfl : x_9 = iZ (fd_hp b q) := e_10.trans (iZ_add _ 1)
  exact hret _ _ _ _ _ () d_Fi_highestPlace_19 (vp_nar_int _) rfl hP hK hD hS
end
section
set_option maxHeartbeats 4000000 in
set_option maxRecDepth 100000 in
/-- tenfold -/
theorem c_Fi_tenfold (l : Launch) (dC : Nat → ClassId) (dI : Nat → Nat → Nat) (sz : Nat) (hf q1 w1 q2 w2 q3 w3 : Nat) (cJ : ClassId) (X xu U xa : Nat) (O : Nat) (xo : Int32) (hX : X < 2 ^ (32 * xu)) (hxu : xu ≤ 26) (hU : U < 2 ^ (32 * xa)) (hxa : xa ≤ 26) (hX10 : X * 10 < 2 ^ (32 * 26)) (hU10 : U * 10 < 2 ^ (32 * 26)) : Met l y_Fi_tenfold (Cond.code y_Fi_tenfold b_Fi_tenfold 1 none :: gT) ({ frames := 1, cells := 0, slots := 0, locals := 27 }) (va_Pc [.ref hf] (pw_P (dC, dI) cls [(cJ, .long)] pw_0 [(hf, .inr (1, [.ref q1, .ref q2, .ref q3])), (q1, .inr (2, [.ref w1, .int (nI xu)])), (w1, .inl (cJ, 26, .inr (.inl (bn_f X)))), (q2, .inr (2, [.ref w2, .int (nI xa)])), (w2, .inl (cJ, 26, .inr (.inl (bn_f U)))), (q3, .inr (2, [.ref w3, .int xo])), (w3, .inl (cJ, 26, .inr (.inl (bn_f O))))] sz)) (va_Qv (fun (u2 : Nat × Nat) => (u2.1 ≤ 26 ∧ X * 10 < 2 ^ (32 * u2.1)) ∧ u2.2 ≤ 26 ∧ U * 10 < 2 ^ (32 * u2.2)) (fun (u2 : Nat × Nat) => pw_B (dC, dI) cls [(cJ, .long)] (va_A [(hf, .inr (1, [.ref q1, .ref q2, .ref q3])), (q1, .inr (2, [.ref w1, .int (nI xu)])), (w1, .inl (cJ, 26, .inr (.inl (bn_f X)))), (q2, .inr (2, [.ref w2, .int (nI xa)])), (w2, .inl (cJ, 26, .inr (.inl (bn_f U)))), (q3, .inr (2, [.ref w3, .int xo])), (w3, .inl (cJ, 26, .inr (.inl (bn_f O))))] sz) [(hf, .inr (1, [.ref q1, .ref q2, .ref q3])), (q1, .inr (2, [.ref w1, .int (nI u2.1)])), (w1, .inl (cJ, 26, .inr (.inl (bn_f (X * 10))))), (q2, .inr (2, [.ref w2, .int (nI u2.2)])), (w2, .inl (cJ, 26, .inr (.inl (bn_f (U * 10))))), (q3, .inr (2, [.ref w3, .int xo])), (w3, .inl (cJ, 26, .inr (.inl (bn_f O))))]) (va_A [(hf, .inr (1, [.ref q1, .ref q2, .ref q3])), (q1, .inr (2, [.ref w1, .int (nI xu)])), (w1, .inl (cJ, 26, .inr (.inl (bn_f X)))), (q2, .inr (2, [.ref w2, .int (nI xa)])), (w2, .inl (cJ, 26, .inr (.inl (bn_f U)))), (q3, .inr (2, [.ref w3, .int xo])), (w3, .inl (cJ, 26, .inr (.inl (bn_f O))))] sz)) 0 0 (va_A [(hf, .inr (1, [.ref q1, .ref q2, .ref q3])), (q1, .inr (2, [.ref w1, .int (nI xu)])), (w1, .inl (cJ, 26, .inr (.inl (bn_f X)))), (q2, .inr (2, [.ref w2, .int (nI xa)])), (w2, .inl (cJ, 26, .inr (.inl (bn_f U)))), (q3, .inr (2, [.ref w3, .int xo])), (w3, .inl (cJ, 26, .inr (.inl (bn_f O))))] sz) := by
  refine pw_metv (tn := fun (u2 : Nat × Nat) => [(cJ, .long)]) (wn := fun (u2 : Nat × Nat) => [(hf, .inr (1, [.ref q1, .ref q2, .ref q3])), (q1, .inr (2, [.ref w1, .int (nI u2.1)])), (w1, .inl (cJ, 26, .inr (.inl (bn_f (X * 10))))), (q2, .inr (2, [.ref w2, .int (nI u2.2)])), (w2, .inl (cJ, 26, .inr (.inl (bn_f (U * 10))))), (q3, .inr (2, [.ref w3, .int xo])), (w3, .inl (cJ, 26, .inr (.inl (bn_f O))))]) (by decide) (Nat.le_of_ble_eq_true rfl) ?_
  intro p e s m args below meth c A Q H ls hx hb hml hown hts hnm hA hE hP hK hD hS hret hl
  have hown : s.vm.findClass R_Fi = some m.cls := hown
  have hl : lv_has ls 1 [(0, .ref hf)] := hl
  refine lv_aload_n hx hb d_Fi_tenfold_0 rfl (lv_at hl 0 rfl) ?_
  refine va_get (D := (dC, dI)) (ci := 1) (v := .ref q1) (C := R_Fi) (T := F_Fi) (N := 3) hx hb hts i_Fi hown hK hP 0 rfl rfl 0 (by decide) (hts _ fl_Fi_10) (fun _ h9 => h9) rfl d_Fi_tenfold_1 ?_
  refine lv_ldc2 (v := 10) hx hb hown (hts _ kl_Fi_41) d_Fi_tenfold_4 ?_
  refine pw_callv (wc := [(q1, .inr (2, [.ref w1, .int (nI xu)])), (w1, .inl (cJ, 26, .inr (.inl (bn_f X))))]) (wr := [(hf, .inr (1, [.ref q1, .ref q2, .ref q3])), (q2, .inr (2, [.ref w2, .int (nI xa)])), (w2, .inl (cJ, 26, .inr (.inl (bn_f U)))), (q3, .inr (2, [.ref w3, .int xo])), (w3, .inl (cJ, 26, .inr (.inl (bn_f O))))]) [1, 2] [0, 3, 4, 5, 6] rfl rfl rfl (by decide) (by decide) (by decide) hP hD hS hA (fun hPc hDc hF => va_runV (As := [.long 10]) (rest := []) ⟨hx, hb, hml, hown, hts⟩ (c_Na_times l dC dI H.size q1 w1 cJ X xu 10 hX hxu (by omega) (by omega) hX10) (cwV 1 hts (gw_V (gw_self cod_Na_times) ml_Fi_83 im_Na_times sel_Na_times ini_Na) rfl rfl rfl (by decide +kernel) ⟨Nat.le_of_ble_eq_true rfl, Nat.le_of_ble_eq_true rfl⟩) (pw_preV pw_0_ok (trivial : pw_0 A s s.heap) hS hF hPc hDc (hK.sub [0] rfl) (va_recv hK hPc (ci := 2) (q0 := 0) rfl rfl)) rfl rfl hl.1 rfl (lv_room (Nat.le_of_ble_eq_true rfl)) d_Fi_tenfold_7 ⟨Nat.le_of_ble_eq_true rfl, Nat.le_of_ble_eq_true rfl⟩) (fun v1 H locs hg1 hK1 hP hD hS => ?_)
  have hP : va_P (dC, dI) cls [(hf, .inr (1, [.ref q1, .ref q2, .ref q3])), (q1, .inr (2, [.ref w1, .int (nI v1)])), (w1, .inl (cJ, 26, .inr (.inl (bn_f (X * 10))))), (q2, .inr (2, [.ref w2, .int (nI xa)])), (w2, .inl (cJ, 26, .inr (.inl (bn_f U)))), (q3, .inr (2, [.ref w3, .int xo])), (w3, .inl (cJ, 26, .inr (.inl (bn_f O))))] H := hP.sub [0, 5, 6, 1, 2, 3, 4] rfl
  have hD : va_D A [(hf, .inr (1, [.ref q1, .ref q2, .ref q3])), (q1, .inr (2, [.ref w1, .int (nI v1)])), (w1, .inl (cJ, 26, .inr (.inl (bn_f (X * 10))))), (q2, .inr (2, [.ref w2, .int (nI xa)])), (w2, .inl (cJ, 26, .inr (.inl (bn_f U)))), (q3, .inr (2, [.ref w3, .int xo])), (w3, .inl (cJ, 26, .inr (.inl (bn_f O))))] := hD.sub [0, 5, 6, 1, 2, 3, 4] (by decide) rfl
  refine lv_aload_n hx hb d_Fi_tenfold_10 rfl (lv_at hl 0 rfl) ?_
  refine va_get (D := (dC, dI)) (ci := 1) (v := .ref q2) (C := R_Fi) (T := F_Fi) (N := 3) hx hb hts i_Fi hown hK hP 0 rfl rfl 1 (by decide) (hts _ fl_Fi_16) (fun _ h9 => h9) rfl d_Fi_tenfold_11 ?_
  refine lv_ldc2 (v := 10) hx hb hown (hts _ kl_Fi_41) d_Fi_tenfold_14 ?_
  refine pw_callv (wc := [(q2, .inr (2, [.ref w2, .int (nI xa)])), (w2, .inl (cJ, 26, .inr (.inl (bn_f U))))]) (wr := [(hf, .inr (1, [.ref q1, .ref q2, .ref q3])), (q1, .inr (2, [.ref w1, .int (nI v1)])), (w1, .inl (cJ, 26, .inr (.inl (bn_f (X * 10))))), (q3, .inr (2, [.ref w3, .int xo])), (w3, .inl (cJ, 26, .inr (.inl (bn_f O))))]) [3, 4] [0, 1, 2, 5, 6] rfl rfl rfl (by decide) (by decide) (by decide) hP hD hS hA (fun hPc hDc hF => va_runV (As := [.long 10]) (rest := []) ⟨hx, hb, hml, hown, hts⟩ (c_Na_times l dC dI H.size q2 w2 cJ U xa 10 hU hxa (by omega) (by omega) hU10) (cwV 1 hts (gw_V (gw_self cod_Na_times) ml_Fi_83 im_Na_times sel_Na_times ini_Na) rfl rfl rfl (by decide +kernel) ⟨Nat.le_of_ble_eq_true rfl, Nat.le_of_ble_eq_true rfl⟩) (pw_preV pw_0_ok (trivial : pw_0 A s s.heap) hS hF hPc hDc (hK.sub [0] rfl) (va_recv hK hPc (ci := 2) (q0 := 0) rfl rfl)) rfl rfl hl.1 rfl (lv_room (Nat.le_of_ble_eq_true rfl)) d_Fi_tenfold_17 ⟨Nat.le_of_ble_eq_true rfl, Nat.le_of_ble_eq_true rfl⟩) (fun v2 H locs hg2 hK1 hP hD hS => ?_)
  have hP : va_P (dC, dI) cls [(hf, .inr (1, [.ref q1, .ref q2, .ref q3])), (q1, .inr (2, [.ref w1, .int (nI v1)])), (w1, .inl (cJ, 26, .inr (.inl (bn_f (X * 10))))), (q2, .inr (2, [.ref w2, .int (nI v2)])), (w2, .inl (cJ, 26, .inr (.inl (bn_f (U * 10))))), (q3, .inr (2, [.ref w3, .int xo])), (w3, .inl (cJ, 26, .inr (.inl (bn_f O))))] H := hP.sub [0, 1, 2, 5, 6, 3, 4] rfl
  have hD : va_D A [(hf, .inr (1, [.ref q1, .ref q2, .ref q3])), (q1, .inr (2, [.ref w1, .int (nI v1)])), (w1, .inl (cJ, 26, .inr (.inl (bn_f (X * 10))))), (q2, .inr (2, [.ref w2, .int (nI v2)])), (w2, .inl (cJ, 26, .inr (.inl (bn_f (U * 10))))), (q3, .inr (2, [.ref w3, .int xo])), (w3, .inl (cJ, 26, .inr (.inl (bn_f O))))] := hD.sub [0, 1, 2, 5, 6, 3, 4] (by decide) rfl
  exact hret _ _ _ _ (v1, v2) d_Fi_tenfold_20 ⟨hg1, hg2⟩ hP hK hD hS
set_option maxHeartbeats 4000000 in
set_option maxRecDepth 100000 in
/-- takeDigit -/
theorem c_Fi_takeDigit (l : Launch) (dC : Nat → ClassId) (dI : Nat → Nat → Nat) (sz : Nat) (hf q1 w1 q2 w2 q3 w3 : Nat) (cJ : ClassId) (X xu : Nat) (U : Nat) (xa : Int32) (O xo : Nat) (hX : X < 2 ^ (32 * xu)) (hxu : xu ≤ 26) (hO : O < 2 ^ (32 * xo)) (hxo : xo ≤ 26) (hXO : X < 10 * O) : Met l y_Fi_takeDigit (Cond.code y_Fi_takeDigit b_Fi_takeDigit 2 (some .int) :: gT) ({ frames := 2, cells := 0, slots := 0, locals := 45 }) (va_Pc [.ref hf] (pw_P (dC, dI) cls [(cJ, .long)] pw_0 [(hf, .inr (1, [.ref q1, .ref q2, .ref q3])), (q1, .inr (2, [.ref w1, .int (nI xu)])), (w1, .inl (cJ, 26, .inr (.inl (bn_f X)))), (q2, .inr (2, [.ref w2, .int xa])), (w2, .inl (cJ, 26, .inr (.inl (bn_f U)))), (q3, .inr (2, [.ref w3, .int (nI xo)])), (w3, .inl (cJ, 26, .inr (.inl (bn_f O))))] sz)) (va_Qi (fun (r : Int32) (uu : Unit) => r = nI (X / O)) (fun (uu : Unit) => pw_B (dC, dI) cls [(cJ, .long)] (va_A [(hf, .inr (1, [.ref q1, .ref q2, .ref q3])), (q1, .inr (2, [.ref w1, .int (nI xu)])), (w1, .inl (cJ, 26, .inr (.inl (bn_f X)))), (q2, .inr (2, [.ref w2, .int xa])), (w2, .inl (cJ, 26, .inr (.inl (bn_f U)))), (q3, .inr (2, [.ref w3, .int (nI xo)])), (w3, .inl (cJ, 26, .inr (.inl (bn_f O))))] sz) [(hf, .inr (1, [.ref q1, .ref q2, .ref q3])), (q1, .inr (2, [.ref w1, .int (nI xu)])), (w1, .inl (cJ, 26, .inr (.inl (bn_f (X % O))))), (q2, .inr (2, [.ref w2, .int xa])), (w2, .inl (cJ, 26, .inr (.inl (bn_f U)))), (q3, .inr (2, [.ref w3, .int (nI xo)])), (w3, .inl (cJ, 26, .inr (.inl (bn_f O))))]) (va_A [(hf, .inr (1, [.ref q1, .ref q2, .ref q3])), (q1, .inr (2, [.ref w1, .int (nI xu)])), (w1, .inl (cJ, 26, .inr (.inl (bn_f X)))), (q2, .inr (2, [.ref w2, .int xa])), (w2, .inl (cJ, 26, .inr (.inl (bn_f U)))), (q3, .inr (2, [.ref w3, .int (nI xo)])), (w3, .inl (cJ, 26, .inr (.inl (bn_f O))))] sz)) 0 0 (va_A [(hf, .inr (1, [.ref q1, .ref q2, .ref q3])), (q1, .inr (2, [.ref w1, .int (nI xu)])), (w1, .inl (cJ, 26, .inr (.inl (bn_f X)))), (q2, .inr (2, [.ref w2, .int xa])), (w2, .inl (cJ, 26, .inr (.inl (bn_f U)))), (q3, .inr (2, [.ref w3, .int (nI xo)])), (w3, .inl (cJ, 26, .inr (.inl (bn_f O))))] sz) := by
  refine pw_meti (tn := fun (uu : Unit) => [(cJ, .long)]) (wn := fun (uu : Unit) => [(hf, .inr (1, [.ref q1, .ref q2, .ref q3])), (q1, .inr (2, [.ref w1, .int (nI xu)])), (w1, .inl (cJ, 26, .inr (.inl (bn_f (X % O))))), (q2, .inr (2, [.ref w2, .int xa])), (w2, .inl (cJ, 26, .inr (.inl (bn_f U)))), (q3, .inr (2, [.ref w3, .int (nI xo)])), (w3, .inl (cJ, 26, .inr (.inl (bn_f O))))]) (by decide) (Nat.le_of_ble_eq_true rfl) ?_
  intro p e s m args below meth c A Q H ls hx hb hml hown hts hA hE hP hK hD hS hret hl
  have hown : s.vm.findClass R_Fi = some m.cls := hown
  have hl : lv_has ls 2 [(0, .ref hf)] := hl
  refine lv_iconst (v := 0) hx hb d_Fi_takeDigit_0 (by decide) ?_
  refine lv_istore_n (lv' := [(1, .int 0), (0, .ref hf)]) hx hb d_Fi_takeDigit_1 rfl hl (by decide) rfl (fun ls hl => ?_)
  have lp : ∀ (n d : Nat) (H : Heap) (locs : List Loc) (ls : Array Slot), (10 ≤ d + n) → (d ≤ 9) → (d * O ≤ X) → va_P (dC, dI) cls [(hf, .inr (1, [.ref q1, .ref q2, .ref q3])), (q1, .inr (2, [.ref w1, .int (nI xu)])), (w1, .inl (cJ, 26, .inr (.inl (bn_f (X - d * O))))), (q2, .inr (2, [.ref w2, .int xa])), (w2, .inl (cJ, 26, .inr (.inl (bn_f U)))), (q3, .inr (2, [.ref w3, .int (nI xo)])), (w3, .inl (cJ, 26, .inr (.inl (bn_f O))))] H → va_D A [(hf, .inr (1, [.ref q1, .ref q2, .ref q3])), (q1, .inr (2, [.ref w1, .int (nI xu)])), (w1, .inl (cJ, 26, .inr (.inl (bn_f (X - d * O))))), (q2, .inr (2, [.ref w2, .int xa])), (w2, .inl (cJ, 26, .inr (.inl (bn_f U)))), (q3, .inr (2, [.ref w3, .int (nI xo)])), (w3, .inl (cJ, 26, .inr (.inl (bn_f O))))] → va_S A s.heap H locs → lv_has ls 2 [(1, .int (nI d)), (0, .ref hf)] → W p l e { frames := 2, cells := 0, slots := 0, locals := 45 } s m args below meth c H locs 0 0 Q (F0 m 2 ls []) := by
    intro n
    induction n with
    | zero => intro d H locs ls hn hd hdX hP hD hS hl; exact absurd hn (by omega)
    | succ n ih =>
      intro d H locs ls hn hd hdX hP hD hS hl
      refine lv_iload_n hx hb d_Fi_takeDigit_2 rfl (lv_at hl 0 rfl) ?_
      refine lv_bipush (v := 9) hx hb d_Fi_takeDigit_3 (by decide) ?_
      refine lv_icmp_ge (tgt := 39) hx hb d_Fi_takeDigit_5 (by decide) (fun hc => ?_) (fun hc => ?_)
      · have h9 : 9 ≤ d := (nI_leI (a := 9) (b := d) (by omega) (by omega)).mp hc
        have hlt : X - d * O < O := by rw [show d = 9 from by omega] at hdX ⊢; omega
        have hfq := fd_quot hdX hlt
        rw [← hfq.2] at hP hD
        rw [← hfq.1] at hl
        refine lv_iload_n hx hb d_Fi_takeDigit_39 rfl (lv_at hl 0 rfl) ?_
        exact hret _ _ _ _ _ () d_Fi_takeDigit_40 (vp_nar_int _) rfl hP hK hD hS
      · have h9 : d < 9 := by have := mt (nI_leI (a := 9) (b := d) (by omega) (by omega)).mpr hc; omega
        have hXd : X - d * O < 2 ^ (32 * xu) := Nat.lt_of_le_of_lt (Nat.sub_le _ _) hX
        refine lv_aload_n hx hb d_Fi_takeDigit_8 rfl (lv_at hl 1 rfl) ?_
        refine va_get (D := (dC, dI)) (ci := 1) (v := .ref q1) (C := R_Fi) (T := F_Fi) (N := 3) hx hb hts i_Fi hown hK hP 0 rfl rfl 0 (by decide) (hts _ fl_Fi_10) (fun _ h9 => h9) rfl d_Fi_takeDigit_9 ?_
        refine lv_aload_n hx hb d_Fi_takeDigit_12 rfl (lv_at hl 1 rfl) ?_
        refine va_get (D := (dC, dI)) (ci := 1) (v := .ref q3) (C := R_Fi) (T := F_Fi) (N := 3) hx hb hts i_Fi hown hK hP 0 rfl rfl 2 (by decide) (hts _ fl_Fi_19) (fun _ h9 => h9) rfl d_Fi_takeDigit_13 ?_
        refine pw_calli (wc := [(q1, .inr (2, [.ref w1, .int (nI xu)])), (w1, .inl (cJ, 26, .inr (.inl (bn_f (X - d * O))))), (q3, .inr (2, [.ref w3, .int (nI xo)])), (w3, .inl (cJ, 26, .inr (.inl (bn_f O))))]) (wr := [(hf, .inr (1, [.ref q1, .ref q2, .ref q3])), (q2, .inr (2, [.ref w2, .int xa])), (w2, .inl (cJ, 26, .inr (.inl (bn_f U))))]) [1, 2, 5, 6] [0, 3, 4] rfl rfl rfl (by decide) (by decide) (by decide) hP hD hS hA (fun hPc hDc hF => va_runV (As := [.ref q3]) (rest := []) ⟨hx, hb, hml, hown, hts⟩ (c_Na_compareWith l dC dI H.size q1 w1 q3 w3 cJ (X - d * O) xu O xo hXd hxu hO hxo) (cwV 1 hts (gw_V (gw_self cod_Na_compareWith) ml_Fi_30 im_Na_compareWith sel_Na_compareWith ini_Na) rfl rfl rfl (by decide +kernel) ⟨Nat.le_of_ble_eq_true rfl, Nat.le_of_ble_eq_true rfl⟩) (pw_preV pw_0_ok (trivial : pw_0 A s s.heap) hS hF hPc hDc (hK.sub [0] rfl) (va_recv hK hPc (ci := 2) (q0 := 0) rfl rfl)) rfl rfl hl.1 rfl (lv_room (Nat.le_of_ble_eq_true rfl)) d_Fi_takeDigit_16 ⟨Nat.le_of_ble_eq_true rfl, Nat.le_of_ble_eq_true rfl⟩) (fun r5 u5 H locs hw5 hK1 hP hD hS => ?_)
        have hP : va_P (dC, dI) cls [(hf, .inr (1, [.ref q1, .ref q2, .ref q3])), (q1, .inr (2, [.ref w1, .int (nI xu)])), (w1, .inl (cJ, 26, .inr (.inl (bn_f (X - d * O))))), (q2, .inr (2, [.ref w2, .int xa])), (w2, .inl (cJ, 26, .inr (.inl (bn_f U)))), (q3, .inr (2, [.ref w3, .int (nI xo)])), (w3, .inl (cJ, 26, .inr (.inl (bn_f O))))] H := hP.sub [0, 3, 4, 1, 2, 5, 6] rfl
        have hD : va_D A [(hf, .inr (1, [.ref q1, .ref q2, .ref q3])), (q1, .inr (2, [.ref w1, .int (nI xu)])), (w1, .inl (cJ, 26, .inr (.inl (bn_f (X - d * O))))), (q2, .inr (2, [.ref w2, .int xa])), (w2, .inl (cJ, 26, .inr (.inl (bn_f U)))), (q3, .inr (2, [.ref w3, .int (nI xo)])), (w3, .inl (cJ, 26, .inr (.inl (bn_f O))))] := hD.sub [0, 3, 4, 1, 2, 5, 6] (by decide) rfl
        subst hw5
        refine lv_if_lt (tgt := 39) hx hb d_Fi_takeDigit_19 (by decide) (fun hc2 => ?_) (fun hc2 => ?_)
        · have hlt : X - d * O < O := bn_cmp_lt0.mp hc2
          have hfq := fd_quot hdX hlt
          rw [← hfq.2] at hP hD
          rw [← hfq.1] at hl
          refine lv_iload_n hx hb d_Fi_takeDigit_39 rfl (lv_at hl 0 rfl) ?_
          exact hret _ _ _ _ _ () d_Fi_takeDigit_40 (vp_nar_int _) rfl hP hK hD hS
        · have hge : O ≤ X - d * O := by have := mt (bn_cmp_lt0 (V := X - d * O) (U := O)).mpr hc2; omega
          refine lv_aload_n hx hb d_Fi_takeDigit_22 rfl (lv_at hl 1 rfl) ?_
          refine va_get (D := (dC, dI)) (ci := 1) (v := .ref q1) (C := R_Fi) (T := F_Fi) (N := 3) hx hb hts i_Fi hown hK hP 0 rfl rfl 0 (by decide) (hts _ fl_Fi_10) (fun _ h9 => h9) rfl d_Fi_takeDigit_23 ?_
          refine lv_aload_n hx hb d_Fi_takeDigit_26 rfl (lv_at hl 1 rfl) ?_
          refine va_get (D := (dC, dI)) (ci := 1) (v := .ref q3) (C := R_Fi) (T := F_Fi) (N := 3) hx hb hts i_Fi hown hK hP 0 rfl rfl 2 (by decide) (hts _ fl_Fi_19) (fun _ h9 => h9) rfl d_Fi_takeDigit_27 ?_
          refine pw_callv (wc := [(q1, .inr (2, [.ref w1, .int (nI xu)])), (w1, .inl (cJ, 26, .inr (.inl (bn_f (X - d * O))))), (q3, .inr (2, [.ref w3, .int (nI xo)])), (w3, .inl (cJ, 26, .inr (.inl (bn_f O))))]) (wr := [(hf, .inr (1, [.ref q1, .ref q2, .ref q3])), (q2, .inr (2, [.ref w2, .int xa])), (w2, .inl (cJ, 26, .inr (.inl (bn_f U))))]) [1, 2, 5, 6] [0, 3, 4] rfl rfl rfl (by decide) (by decide) (by decide) hP hD hS hA (fun hPc hDc hF => va_runV (As := [.ref q3]) (rest := []) ⟨hx, hb, hml, hown, hts⟩ (c_Na_subtract l dC dI H.size q1 w1 q3 w3 cJ (X - d * O) xu O (nI xo) hXd hxu hge) (cwV 1 hts (gw_V (gw_self cod_Na_subtract) ml_Fi_86 im_Na_subtract sel_Na_subtract ini_Na) rfl rfl rfl (by decide +kernel) ⟨Nat.le_of_ble_eq_true rfl, Nat.le_of_ble_eq_true rfl⟩) (pw_preV pw_0_ok (trivial : pw_0 A s s.heap) hS hF hPc hDc (hK.sub [0] rfl) (va_recv hK hPc (ci := 2) (q0 := 0) rfl rfl)) rfl rfl hl.1 rfl (lv_room (Nat.le_of_ble_eq_true rfl)) d_Fi_takeDigit_30 ⟨Nat.le_of_ble_eq_true rfl, Nat.le_of_ble_eq_true rfl⟩) (fun u6 H locs hw6 hK1 hP hD hS => ?_)
          have hP : va_P (dC, dI) cls [(hf, .inr (1, [.ref q1, .ref q2, .ref q3])), (q1, .inr (2, [.ref w1, .int (nI xu)])), (w1, .inl (cJ, 26, .inr (.inl (bn_f (X - d * O - O))))), (q2, .inr (2, [.ref w2, .int xa])), (w2, .inl (cJ, 26, .inr (.inl (bn_f U)))), (q3, .inr (2, [.ref w3, .int (nI xo)])), (w3, .inl (cJ, 26, .inr (.inl (bn_f O))))] H := hP.sub [0, 3, 4, 1, 2, 5, 6] rfl
          have hD : va_D A [(hf, .inr (1, [.ref q1, .ref q2, .ref q3])), (q1, .inr (2, [.ref w1, .int (nI xu)])), (w1, .inl (cJ, 26, .inr (.inl (bn_f (X - d * O - O))))), (q2, .inr (2, [.ref w2, .int xa])), (w2, .inl (cJ, 26, .inr (.inl (bn_f U)))), (q3, .inr (2, [.ref w3, .int (nI xo)])), (w3, .inl (cJ, 26, .inr (.inl (bn_f O))))] := hD.sub [0, 3, 4, 1, 2, 5, 6] (by decide) rfl
          have e1 : X - d * O - O = X - (d + 1) * O := by rw [Nat.add_mul, Nat.one_mul]; omega
          rw [e1] at hP hD
          refine lv_iinc (v := nI (d + 1)) (lv' := [(1, .int (nI (d + 1))), (0, .ref hf)]) hx hb d_Fi_takeDigit_33 hl (k := 0) rfl (nI_1 _) (by decide) rfl (fun ls hl => ?_)
          refine lv_goto (tgt := 2) hx hb d_Fi_takeDigit_36 (by decide) ?_
          exact ih (d + 1) H locs ls (by omega) (by omega) (by rw [Nat.add_mul, Nat.one_mul]; omega) hP hD hS (lv_sub hl [0, 1] rfl)
  have e0 : X - 0 * O = X := by omega
  exact lp 10 0 H _ ls (by omega) (by omega) (by omega) (by rw [e0]; exact hP) (by rw [e0]; exact hD) hS (lv_sub hl [0, 1] rfl)
set_option maxHeartbeats 4000000 in
set_option maxRecDepth 100000 in
/-- compareDown -/
theorem c_Fi_compareDown (l : Launch) (dC : Nat → ClassId) (dI : Nat → Nat → Nat) (sz : Nat) (hf q1 w1 q2 w2 q3 w3 : Nat) (cJ : ClassId) (X xu U xa O xo : Nat) (lb : Nat) (hX : X < 2 ^ (32 * xu)) (hxu : xu ≤ 26) (hU : U < 2 ^ (32 * xa)) (hxa : xa ≤ 26) (hO : O < 2 ^ (32 * xo)) (hxo : xo ≤ 26) (hlb : lb ≤ 1) : Met l y_Fi_compareDown (Cond.code y_Fi_compareDown b_Fi_compareDown 2 (some .int) :: gT) ({ frames := 2, cells := 0, slots := 0, locals := 55 }) (va_Pc [.ref hf, .int (nI lb)] (pw_P (dC, dI) cls [(cJ, .long)] pw_0 [(hf, .inr (1, [.ref q1, .ref q2, .ref q3])), (q1, .inr (2, [.ref w1, .int (nI xu)])), (w1, .inl (cJ, 26, .inr (.inl (bn_f X)))), (q2, .inr (2, [.ref w2, .int (nI xa)])), (w2, .inl (cJ, 26, .inr (.inl (bn_f U)))), (q3, .inr (2, [.ref w3, .int (nI xo)])), (w3, .inl (cJ, 26, .inr (.inl (bn_f O))))] sz)) (va_Qi (fun (r : Int32) (uu : Unit) => r = fd_dc lb X U) (fun (uu : Unit) => pw_B (dC, dI) cls [(cJ, .long)] (va_A [(hf, .inr (1, [.ref q1, .ref q2, .ref q3])), (q1, .inr (2, [.ref w1, .int (nI xu)])), (w1, .inl (cJ, 26, .inr (.inl (bn_f X)))), (q2, .inr (2, [.ref w2, .int (nI xa)])), (w2, .inl (cJ, 26, .inr (.inl (bn_f U)))), (q3, .inr (2, [.ref w3, .int (nI xo)])), (w3, .inl (cJ, 26, .inr (.inl (bn_f O))))] sz) [(hf, .inr (1, [.ref q1, .ref q2, .ref q3])), (q1, .inr (2, [.ref w1, .int (nI xu)])), (w1, .inl (cJ, 26, .inr (.inl (bn_f X)))), (q2, .inr (2, [.ref w2, .int (nI xa)])), (w2, .inl (cJ, 26, .inr (.inl (bn_f U)))), (q3, .inr (2, [.ref w3, .int (nI xo)])), (w3, .inl (cJ, 26, .inr (.inl (bn_f O))))]) (va_A [(hf, .inr (1, [.ref q1, .ref q2, .ref q3])), (q1, .inr (2, [.ref w1, .int (nI xu)])), (w1, .inl (cJ, 26, .inr (.inl (bn_f X)))), (q2, .inr (2, [.ref w2, .int (nI xa)])), (w2, .inl (cJ, 26, .inr (.inl (bn_f U)))), (q3, .inr (2, [.ref w3, .int (nI xo)])), (w3, .inl (cJ, 26, .inr (.inl (bn_f O))))] sz)) 0 0 (va_A [(hf, .inr (1, [.ref q1, .ref q2, .ref q3])), (q1, .inr (2, [.ref w1, .int (nI xu)])), (w1, .inl (cJ, 26, .inr (.inl (bn_f X)))), (q2, .inr (2, [.ref w2, .int (nI xa)])), (w2, .inl (cJ, 26, .inr (.inl (bn_f U)))), (q3, .inr (2, [.ref w3, .int (nI xo)])), (w3, .inl (cJ, 26, .inr (.inl (bn_f O))))] sz) := by
  refine pw_meti (tn := fun (uu : Unit) => [(cJ, .long)]) (wn := fun (uu : Unit) => [(hf, .inr (1, [.ref q1, .ref q2, .ref q3])), (q1, .inr (2, [.ref w1, .int (nI xu)])), (w1, .inl (cJ, 26, .inr (.inl (bn_f X)))), (q2, .inr (2, [.ref w2, .int (nI xa)])), (w2, .inl (cJ, 26, .inr (.inl (bn_f U)))), (q3, .inr (2, [.ref w3, .int (nI xo)])), (w3, .inl (cJ, 26, .inr (.inl (bn_f O))))]) (by decide) (Nat.le_of_ble_eq_true rfl) ?_
  intro p e s m args below meth c A Q H ls hx hb hml hown hts hA hE hP hK hD hS hret hl
  have hown : s.vm.findClass R_Fi = some m.cls := hown
  have hl : lv_has ls 2 [(0, .ref hf), (1, .int (nI lb))] := hl
  refine lv_iload_n hx hb d_Fi_compareDown_0 rfl (lv_at hl 1 rfl) ?_
  refine lv_if_eq (tgt := 22) hx hb d_Fi_compareDown_1 (by decide) (fun hc => ?_) (fun hc => ?_)
  · have h0 : lb = 0 := (nI_b0 hlb).mp hc
    have ed : fd_dc lb X U = bn_cmp X U := if_neg (by omega)
    refine lv_aload_n hx hb d_Fi_compareDown_22 rfl (lv_at hl 0 rfl) ?_
    refine va_get (D := (dC, dI)) (ci := 1) (v := .ref q1) (C := R_Fi) (T := F_Fi) (N := 3) hx hb hts i_Fi hown hK hP 0 rfl rfl 0 (by decide) (hts _ fl_Fi_10) (fun _ h9 => h9) rfl d_Fi_compareDown_23 ?_
    refine lv_aload_n hx hb d_Fi_compareDown_26 rfl (lv_at hl 0 rfl) ?_
    refine va_get (D := (dC, dI)) (ci := 1) (v := .ref q2) (C := R_Fi) (T := F_Fi) (N := 3) hx hb hts i_Fi hown hK hP 0 rfl rfl 1 (by decide) (hts _ fl_Fi_16) (fun _ h9 => h9) rfl d_Fi_compareDown_27 ?_
    refine pw_calli (wc := [(q1, .inr (2, [.ref w1, .int (nI xu)])), (w1, .inl (cJ, 26, .inr (.inl (bn_f X)))), (q2, .inr (2, [.ref w2, .int (nI xa)])), (w2, .inl (cJ, 26, .inr (.inl (bn_f U))))]) (wr := [(hf, .inr (1, [.ref q1, .ref q2, .ref q3])), (q3, .inr (2, [.ref w3, .int (nI xo)])), (w3, .inl (cJ, 26, .inr (.inl (bn_f O))))]) [1, 2, 3, 4] [0, 5, 6] rfl rfl rfl (by decide) (by decide) (by decide) hP hD hS hA (fun hPc hDc hF => va_runV (As := [.ref q2]) (rest := []) ⟨hx, hb, hml, hown, hts⟩ (c_Na_compareWith l dC dI H.size q1 w1 q2 w2 cJ X xu U xa hX hxu hU hxa) (cwV 1 hts (gw_V (gw_self cod_Na_compareWith) ml_Fi_30 im_Na_compareWith sel_Na_compareWith ini_Na) rfl rfl rfl (by decide +kernel) ⟨Nat.le_of_ble_eq_true rfl, Nat.le_of_ble_eq_true rfl⟩) (pw_preV pw_0_ok (trivial : pw_0 A s s.heap) hS hF hPc hDc (hK.sub [0] rfl) (va_recv hK hPc (ci := 2) (q0 := 0) rfl rfl)) rfl rfl hl.1 rfl (lv_room (Nat.le_of_ble_eq_true rfl)) d_Fi_compareDown_30 ⟨Nat.le_of_ble_eq_true rfl, Nat.le_of_ble_eq_true rfl⟩) (fun r5 u5 H locs hw5 hK1 hP hD hS => ?_)
    have hP : va_P (dC, dI) cls [(hf, .inr (1, [.ref q1, .ref q2, .ref q3])), (q1, .inr (2, [.ref w1, .int (nI xu)])), (w1, .inl (cJ, 26, .inr (.inl (bn_f X)))), (q2, .inr (2, [.ref w2, .int (nI xa)])), (w2, .inl (cJ, 26, .inr (.inl (bn_f U)))), (q3, .inr (2, [.ref w3, .int (nI xo)])), (w3, .inl (cJ, 26, .inr (.inl (bn_f O))))] H := hP.sub [0, 3, 4, 5, 6, 1, 2] rfl
    have hD : va_D A [(hf, .inr (1, [.ref q1, .ref q2, .ref q3])), (q1, .inr (2, [.ref w1, .int (nI xu)])), (w1, .inl (cJ, 26, .inr (.inl (bn_f X)))), (q2, .inr (2, [.ref w2, .int (nI xa)])), (w2, .inl (cJ, 26, .inr (.inl (bn_f U)))), (q3, .inr (2, [.ref w3, .int (nI xo)])), (w3, .inl (cJ, 26, .inr (.inl (bn_f O))))] := hD.sub [0, 3, 4, 5, 6, 1, 2] (by decide) rfl
    exact hret _ _ _ _ _ () d_Fi_compareDown_33 (vp_nar_int _) (by rw [ed]; exact hw5) hP hK hD hS
  · have h0 : lb = 1 := by have := mt (nI_b0 hlb).mpr hc; omega
    have ed : fd_dc lb X U = bn_cmp (X + X) U := if_pos h0
    refine lv_aload_n hx hb d_Fi_compareDown_4 rfl (lv_at hl 0 rfl) ?_
    refine va_get (D := (dC, dI)) (ci := 1) (v := .ref q1) (C := R_Fi) (T := F_Fi) (N := 3) hx hb hts i_Fi hown hK hP 0 rfl rfl 0 (by decide) (hts _ fl_Fi_10) (fun _ h9 => h9) rfl d_Fi_compareDown_5 ?_
    refine lv_aload_n hx hb d_Fi_compareDown_8 rfl (lv_at hl 0 rfl) ?_
    refine va_get (D := (dC, dI)) (ci := 1) (v := .ref q1) (C := R_Fi) (T := F_Fi) (N := 3) hx hb hts i_Fi hown hK hP 0 rfl rfl 0 (by decide) (hts _ fl_Fi_10) (fun _ h9 => h9) rfl d_Fi_compareDown_9 ?_
    refine lv_aload_n hx hb d_Fi_compareDown_12 rfl (lv_at hl 0 rfl) ?_
    refine va_get (D := (dC, dI)) (ci := 1) (v := .ref q2) (C := R_Fi) (T := F_Fi) (N := 3) hx hb hts i_Fi hown hK hP 0 rfl rfl 1 (by decide) (hts _ fl_Fi_16) (fun _ h9 => h9) rfl d_Fi_compareDown_13 ?_
    refine pw_calli (wc := [(q1, .inr (2, [.ref w1, .int (nI xu)])), (w1, .inl (cJ, 26, .inr (.inl (bn_f X)))), (q2, .inr (2, [.ref w2, .int (nI xa)])), (w2, .inl (cJ, 26, .inr (.inl (bn_f U))))]) (wr := [(hf, .inr (1, [.ref q1, .ref q2, .ref q3])), (q3, .inr (2, [.ref w3, .int (nI xo)])), (w3, .inl (cJ, 26, .inr (.inl (bn_f O))))]) [1, 2, 3, 4] [0, 5, 6] rfl rfl rfl (by decide) (by decide) (by decide) hP hD hS hA (fun hPc hDc hF => va_runS (As := [.ref q1, .ref q1, .ref q2]) (rest := []) ⟨hx, hb, hml, hown, hts⟩ (c_Na_compareSumS l dC dI H.size q1 w1 q2 w2 cJ X xu U xa hX hxu hU hxa) (va_cwS 3 hts (gw_S (gw_self cod_Na_compareSum) ml_Fi_90 sta_Na_compareSum ini_Na) rfl rfl rfl (by decide +kernel) ⟨Nat.le_of_ble_eq_true rfl, Nat.le_of_ble_eq_true rfl⟩) (pw_preS pw_0_ok (trivial : pw_0 A s s.heap) hS hF hPc hDc (hK.sub [0] rfl)) rfl rfl hl.1 rfl (lv_room (Nat.le_of_ble_eq_true rfl)) d_Fi_compareDown_16 ⟨Nat.le_of_ble_eq_true rfl, Nat.le_of_ble_eq_true rfl⟩) (fun r5 u5 H locs hw5 hK1 hP hD hS => ?_)
    have hP : va_P (dC, dI) cls [(hf, .inr (1, [.ref q1, .ref q2, .ref q3])), (q1, .inr (2, [.ref w1, .int (nI xu)])), (w1, .inl (cJ, 26, .inr (.inl (bn_f X)))), (q2, .inr (2, [.ref w2, .int (nI xa)])), (w2, .inl (cJ, 26, .inr (.inl (bn_f U)))), (q3, .inr (2, [.ref w3, .int (nI xo)])), (w3, .inl (cJ, 26, .inr (.inl (bn_f O))))] H := hP.sub [0, 3, 4, 5, 6, 1, 2] rfl
    have hD : va_D A [(hf, .inr (1, [.ref q1, .ref q2, .ref q3])), (q1, .inr (2, [.ref w1, .int (nI xu)])), (w1, .inl (cJ, 26, .inr (.inl (bn_f X)))), (q2, .inr (2, [.ref w2, .int (nI xa)])), (w2, .inl (cJ, 26, .inr (.inl (bn_f U)))), (q3, .inr (2, [.ref w3, .int (nI xo)])), (w3, .inl (cJ, 26, .inr (.inl (bn_f O))))] := hD.sub [0, 3, 4, 5, 6, 1, 2] (by decide) rfl
    refine lv_goto (tgt := 33) hx hb d_Fi_compareDown_19 (by decide) ?_
    exact hret _ _ _ _ _ () d_Fi_compareDown_33 (vp_nar_int _) (by rw [ed]; exact hw5) hP hK hD hS
set_option maxHeartbeats 4000000 in
set_option maxRecDepth 100000 in
/-- compareUp -/
theorem c_Fi_compareUp (l : Launch) (dC : Nat → ClassId) (dI : Nat → Nat → Nat) (sz : Nat) (hf q1 w1 q2 w2 q3 w3 : Nat) (cJ : ClassId) (X xu U xa O xo : Nat) (hX : X < 2 ^ (32 * xu)) (hxu : xu ≤ 26) (hU : U < 2 ^ (32 * xa)) (hxa : xa ≤ 26) (hO : O < 2 ^ (32 * xo)) (hxo : xo ≤ 26) : Met l y_Fi_compareUp (Cond.code y_Fi_compareUp b_Fi_compareUp 1 (some .int) :: gT) ({ frames := 2, cells := 0, slots := 0, locals := 55 }) (va_Pc [.ref hf] (pw_P (dC, dI) cls [(cJ, .long)] pw_0 [(hf, .inr (1, [.ref q1, .ref q2, .ref q3])), (q1, .inr (2, [.ref w1, .int (nI xu)])), (w1, .inl (cJ, 26, .inr (.inl (bn_f X)))), (q2, .inr (2, [.ref w2, .int (nI xa)])), (w2, .inl (cJ, 26, .inr (.inl (bn_f U)))), (q3, .inr (2, [.ref w3, .int (nI xo)])), (w3, .inl (cJ, 26, .inr (.inl (bn_f O))))] sz)) (va_Qi (fun (r : Int32) (uu : Unit) => r = -(bn_cmp (X + U) O)) (fun (uu : Unit) => pw_B (dC, dI) cls [(cJ, .long)] (va_A [(hf, .inr (1, [.ref q1, .ref q2, .ref q3])), (q1, .inr (2, [.ref w1, .int (nI xu)])), (w1, .inl (cJ, 26, .inr (.inl (bn_f X)))), (q2, .inr (2, [.ref w2, .int (nI xa)])), (w2, .inl (cJ, 26, .inr (.inl (bn_f U)))), (q3, .inr (2, [.ref w3, .int (nI xo)])), (w3, .inl (cJ, 26, .inr (.inl (bn_f O))))] sz) [(hf, .inr (1, [.ref q1, .ref q2, .ref q3])), (q1, .inr (2, [.ref w1, .int (nI xu)])), (w1, .inl (cJ, 26, .inr (.inl (bn_f X)))), (q2, .inr (2, [.ref w2, .int (nI xa)])), (w2, .inl (cJ, 26, .inr (.inl (bn_f U)))), (q3, .inr (2, [.ref w3, .int (nI xo)])), (w3, .inl (cJ, 26, .inr (.inl (bn_f O))))]) (va_A [(hf, .inr (1, [.ref q1, .ref q2, .ref q3])), (q1, .inr (2, [.ref w1, .int (nI xu)])), (w1, .inl (cJ, 26, .inr (.inl (bn_f X)))), (q2, .inr (2, [.ref w2, .int (nI xa)])), (w2, .inl (cJ, 26, .inr (.inl (bn_f U)))), (q3, .inr (2, [.ref w3, .int (nI xo)])), (w3, .inl (cJ, 26, .inr (.inl (bn_f O))))] sz)) 0 0 (va_A [(hf, .inr (1, [.ref q1, .ref q2, .ref q3])), (q1, .inr (2, [.ref w1, .int (nI xu)])), (w1, .inl (cJ, 26, .inr (.inl (bn_f X)))), (q2, .inr (2, [.ref w2, .int (nI xa)])), (w2, .inl (cJ, 26, .inr (.inl (bn_f U)))), (q3, .inr (2, [.ref w3, .int (nI xo)])), (w3, .inl (cJ, 26, .inr (.inl (bn_f O))))] sz) := by
  refine pw_meti (tn := fun (uu : Unit) => [(cJ, .long)]) (wn := fun (uu : Unit) => [(hf, .inr (1, [.ref q1, .ref q2, .ref q3])), (q1, .inr (2, [.ref w1, .int (nI xu)])), (w1, .inl (cJ, 26, .inr (.inl (bn_f X)))), (q2, .inr (2, [.ref w2, .int (nI xa)])), (w2, .inl (cJ, 26, .inr (.inl (bn_f U)))), (q3, .inr (2, [.ref w3, .int (nI xo)])), (w3, .inl (cJ, 26, .inr (.inl (bn_f O))))]) (by decide) (Nat.le_of_ble_eq_true rfl) ?_
  intro p e s m args below meth c A Q H ls hx hb hml hown hts hA hE hP hK hD hS hret hl
  have hown : s.vm.findClass R_Fi = some m.cls := hown
  have hl : lv_has ls 1 [(0, .ref hf)] := hl
  refine lv_aload_n hx hb d_Fi_compareUp_0 rfl (lv_at hl 0 rfl) ?_
  refine va_get (D := (dC, dI)) (ci := 1) (v := .ref q1) (C := R_Fi) (T := F_Fi) (N := 3) hx hb hts i_Fi hown hK hP 0 rfl rfl 0 (by decide) (hts _ fl_Fi_10) (fun _ h9 => h9) rfl d_Fi_compareUp_1 ?_
  refine lv_aload_n hx hb d_Fi_compareUp_4 rfl (lv_at hl 0 rfl) ?_
  refine va_get (D := (dC, dI)) (ci := 1) (v := .ref q2) (C := R_Fi) (T := F_Fi) (N := 3) hx hb hts i_Fi hown hK hP 0 rfl rfl 1 (by decide) (hts _ fl_Fi_16) (fun _ h9 => h9) rfl d_Fi_compareUp_5 ?_
  refine lv_aload_n hx hb d_Fi_compareUp_8 rfl (lv_at hl 0 rfl) ?_
  refine va_get (D := (dC, dI)) (ci := 1) (v := .ref q3) (C := R_Fi) (T := F_Fi) (N := 3) hx hb hts i_Fi hown hK hP 0 rfl rfl 2 (by decide) (hts _ fl_Fi_19) (fun _ h9 => h9) rfl d_Fi_compareUp_9 ?_
  refine pw_calli (wc := [(q1, .inr (2, [.ref w1, .int (nI xu)])), (w1, .inl (cJ, 26, .inr (.inl (bn_f X)))), (q2, .inr (2, [.ref w2, .int (nI xa)])), (w2, .inl (cJ, 26, .inr (.inl (bn_f U)))), (q3, .inr (2, [.ref w3, .int (nI xo)])), (w3, .inl (cJ, 26, .inr (.inl (bn_f O))))]) (wr := [(hf, .inr (1, [.ref q1, .ref q2, .ref q3]))]) [1, 2, 3, 4, 5, 6] [0] rfl rfl rfl (by decide) (by decide) (by decide) hP hD hS hA (fun hPc hDc hF => va_runS (As := [.ref q1, .ref q2, .ref q3]) (rest := []) ⟨hx, hb, hml, hown, hts⟩ (c_Na_compareSum l dC dI H.size q1 w1 q2 w2 q3 w3 cJ X xu U xa O xo hX hxu hU hxa hO hxo) (va_cwS 3 hts (gw_S (gw_self cod_Na_compareSum) ml_Fi_90 sta_Na_compareSum ini_Na) rfl rfl rfl (by decide +kernel) ⟨Nat.le_of_ble_eq_true rfl, Nat.le_of_ble_eq_true rfl⟩) (pw_preS pw_0_ok (trivial : pw_0 A s s.heap) hS hF hPc hDc (hK.sub [0] rfl)) rfl rfl hl.1 rfl (lv_room (Nat.le_of_ble_eq_true rfl)) d_Fi_compareUp_12 ⟨Nat.le_of_ble_eq_true rfl, Nat.le_of_ble_eq_true rfl⟩) (fun r5 u5 H locs hw5 hK1 hP hD hS => ?_)
  have hP : va_P (dC, dI) cls [(hf, .inr (1, [.ref q1, .ref q2, .ref q3])), (q1, .inr (2, [.ref w1, .int (nI xu)])), (w1, .inl (cJ, 26, .inr (.inl (bn_f X)))), (q2, .inr (2, [.ref w2, .int (nI xa)])), (w2, .inl (cJ, 26, .inr (.inl (bn_f U)))), (q3, .inr (2, [.ref w3, .int (nI xo)])), (w3, .inl (cJ, 26, .inr (.inl (bn_f O))))] H := hP
  have hD : va_D A [(hf, .inr (1, [.ref q1, .ref q2, .ref q3])), (q1, .inr (2, [.ref w1, .int (nI xu)])), (w1, .inl (cJ, 26, .inr (.inl (bn_f X)))), (q2, .inr (2, [.ref w2, .int (nI xa)])), (w2, .inl (cJ, 26, .inr (.inl (bn_f U)))), (q3, .inr (2, [.ref w3, .int (nI xo)])), (w3, .inl (cJ, 26, .inr (.inl (bn_f O))))] := hD
  refine lv_ineg hx hb d_Fi_compareUp_15 ?_
  exact hret _ _ _ _ _ () d_Fi_compareUp_16 (vp_nar_int _) (by rw [hw5]) hP hK hD hS
set_option maxHeartbeats 4000000 in
set_option maxRecDepth 100000 in
/-- isWithin -/
theorem c_Fi_isWithin (l : Launch) (dC : Nat → ClassId) (dI : Nat → Nat → Nat) (sz : Nat) (cmp : Int32) (ev : Nat) (hev : ev ≤ 1) : Met l y_Fi_isWithin (Cond.code y_Fi_isWithin b_Fi_isWithin 2 (some .boolean) :: gT) ({ frames := 0, cells := 0, slots := 0, locals := 0 }) (va_Pc [.int cmp, .int (nI ev)] (pw_P (dC, dI) cls [] pw_0 [] sz)) (va_Qi (fun (r : Int32) (uu : Unit) => r = nI (wi cmp ev)) (fun (uu : Unit) => pw_B (dC, dI) cls [] (va_A [] sz) []) (va_A [] sz)) 0 0 (va_A [] sz) := by
  refine pw_meti (tn := fun (uu : Unit) => []) (wn := fun (uu : Unit) => []) (by decide) (Nat.le_of_ble_eq_true rfl) ?_
  intro p e s m args below meth c A Q H ls hx hb hml hown hts hA hE hP hK hD hS hret hl
  have hown : s.vm.findClass R_Fi = some m.cls := hown
  have hl : lv_has ls 2 [(0, .int cmp), (1, .int (nI ev))] := hl
  refine lv_iload_n hx hb d_Fi_isWithin_0 rfl (lv_at hl 0 rfl) ?_
  refine lv_if_lt (tgt := 12) hx hb d_Fi_isWithin_1 (by decide) (fun hc => ?_) (fun hc => ?_)
  · have e1 : wi cmp ev = 1 := if_pos (Or.inl hc)
    refine lv_iconst (v := 1) hx hb d_Fi_isWithin_12 (by decide) ?_
    refine lv_goto (tgt := 17) hx hb d_Fi_isWithin_13 (by decide) ?_
    exact hret _ _ _ _ _ () d_Fi_isWithin_17 rfl (by rw [e1]; rfl) hP hK hD hS
  · refine lv_iload_n hx hb d_Fi_isWithin_4 rfl (lv_at hl 0 rfl) ?_
    refine lv_if_ne (tgt := 16) hx hb d_Fi_isWithin_5 (by decide) (fun hc2 => ?_) (fun hc2 => ?_)
    · have e1 : wi cmp ev = 0 := if_neg (fun q => q.elim hc (fun q2 => hc2 q2.1))
      refine lv_iconst (v := 0) hx hb d_Fi_isWithin_16 (by decide) ?_
      exact hret _ _ _ _ _ () d_Fi_isWithin_17 rfl (by rw [e1]; rfl) hP hK hD hS
    · refine lv_iload_n hx hb d_Fi_isWithin_8 rfl (lv_at hl 1 rfl) ?_
      refine lv_if_eq (tgt := 16) hx hb d_Fi_isWithin_9 (by decide) (fun hc3 => ?_) (fun hc3 => ?_)
      · have e1 : wi cmp ev = 0 := if_neg (fun q => q.elim hc (fun q2 => by have := (nI_b0 hev).mp hc3; omega))
        refine lv_iconst (v := 0) hx hb d_Fi_isWithin_16 (by decide) ?_
        exact hret _ _ _ _ _ () d_Fi_isWithin_17 rfl (by rw [e1]; rfl) hP hK hD hS
      · have h1 : ev = 1 := by have := mt (nI_b0 hev).mpr hc3; omega
        have e1 : wi cmp ev = 1 := if_pos (Or.inr ⟨hc2, h1⟩)
        refine lv_iconst (v := 1) hx hb d_Fi_isWithin_12 (by decide) ?_
        refine lv_goto (tgt := 17) hx hb d_Fi_isWithin_13 (by decide) ?_
        exact hret _ _ _ _ _ () d_Fi_isWithin_17 rfl (by rw [e1]; rfl) hP hK hD hS
set_option maxHeartbeats 4000000 in
set_option maxRecDepth 100000 in
/-- isUpNearer -/
theorem c_Fi_isUpNearer (l : Launch) (dC : Nat → ClassId) (dI : Nat → Nat → Nat) (sz : Nat) (hf q1 w1 q2 w2 q3 w3 : Nat) (cJ : ClassId) (X xu U xa O xo : Nat) (m9 : Nat) (hX : X < 2 ^ (32 * xu)) (hxu : xu ≤ 26) (hU : U < 2 ^ (32 * xa)) (hxa : xa ≤ 26) (hO : O < 2 ^ (32 * xo)) (hxo : xo ≤ 26) (hm9 : m9 < 2 ^ 63) : Met l y_Fi_isUpNearer (Cond.code y_Fi_isUpNearer b_Fi_isUpNearer 4 (some .boolean) :: gT) ({ frames := 2, cells := 0, slots := 0, locals := 55 }) (va_Pc [.ref hf, .long (lN m9)] (pw_P (dC, dI) cls [(cJ, .long)] pw_0 [(hf, .inr (1, [.ref q1, .ref q2, .ref q3])), (q1, .inr (2, [.ref w1, .int (nI xu)])), (w1, .inl (cJ, 26, .inr (.inl (bn_f X)))), (q2, .inr (2, [.ref w2, .int (nI xa)])), (w2, .inl (cJ, 26, .inr (.inl (bn_f U)))), (q3, .inr (2, [.ref w3, .int (nI xo)])), (w3, .inl (cJ, 26, .inr (.inl (bn_f O))))] sz)) (va_Qi (fun (r : Int32) (uu : Unit) => r = nI (fd_nr X O m9)) (fun (uu : Unit) => pw_B (dC, dI) cls [(cJ, .long)] (va_A [(hf, .inr (1, [.ref q1, .ref q2, .ref q3])), (q1, .inr (2, [.ref w1, .int (nI xu)])), (w1, .inl (cJ, 26, .inr (.inl (bn_f X)))), (q2, .inr (2, [.ref w2, .int (nI xa)])), (w2, .inl (cJ, 26, .inr (.inl (bn_f U)))), (q3, .inr (2, [.ref w3, .int (nI xo)])), (w3, .inl (cJ, 26, .inr (.inl (bn_f O))))] sz) [(hf, .inr (1, [.ref q1, .ref q2, .ref q3])), (q1, .inr (2, [.ref w1, .int (nI xu)])), (w1, .inl (cJ, 26, .inr (.inl (bn_f X)))), (q2, .inr (2, [.ref w2, .int (nI xa)])), (w2, .inl (cJ, 26, .inr (.inl (bn_f U)))), (q3, .inr (2, [.ref w3, .int (nI xo)])), (w3, .inl (cJ, 26, .inr (.inl (bn_f O))))]) (va_A [(hf, .inr (1, [.ref q1, .ref q2, .ref q3])), (q1, .inr (2, [.ref w1, .int (nI xu)])), (w1, .inl (cJ, 26, .inr (.inl (bn_f X)))), (q2, .inr (2, [.ref w2, .int (nI xa)])), (w2, .inl (cJ, 26, .inr (.inl (bn_f U)))), (q3, .inr (2, [.ref w3, .int (nI xo)])), (w3, .inl (cJ, 26, .inr (.inl (bn_f O))))] sz)) 0 0 (va_A [(hf, .inr (1, [.ref q1, .ref q2, .ref q3])), (q1, .inr (2, [.ref w1, .int (nI xu)])), (w1, .inl (cJ, 26, .inr (.inl (bn_f X)))), (q2, .inr (2, [.ref w2, .int (nI xa)])), (w2, .inl (cJ, 26, .inr (.inl (bn_f U)))), (q3, .inr (2, [.ref w3, .int (nI xo)])), (w3, .inl (cJ, 26, .inr (.inl (bn_f O))))] sz) := by
  refine pw_meti (tn := fun (uu : Unit) => [(cJ, .long)]) (wn := fun (uu : Unit) => [(hf, .inr (1, [.ref q1, .ref q2, .ref q3])), (q1, .inr (2, [.ref w1, .int (nI xu)])), (w1, .inl (cJ, 26, .inr (.inl (bn_f X)))), (q2, .inr (2, [.ref w2, .int (nI xa)])), (w2, .inl (cJ, 26, .inr (.inl (bn_f U)))), (q3, .inr (2, [.ref w3, .int (nI xo)])), (w3, .inl (cJ, 26, .inr (.inl (bn_f O))))]) (by decide) (Nat.le_of_ble_eq_true rfl) ?_
  intro p e s m args below meth c A Q H ls hx hb hml hown hts hA hE hP hK hD hS hret hl
  have hown : s.vm.findClass R_Fi = some m.cls := hown
  have hl : lv_has ls 4 [(0, .ref hf), (1, .long (lN m9))] := hl
  refine lv_aload_n hx hb d_Fi_isUpNearer_0 rfl (lv_at hl 0 rfl) ?_
  refine va_get (D := (dC, dI)) (ci := 1) (v := .ref q1) (C := R_Fi) (T := F_Fi) (N := 3) hx hb hts i_Fi hown hK hP 0 rfl rfl 0 (by decide) (hts _ fl_Fi_10) (fun _ h9 => h9) rfl d_Fi_isUpNearer_1 ?_
  refine lv_aload_n hx hb d_Fi_isUpNearer_4 rfl (lv_at hl 0 rfl) ?_
  refine va_get (D := (dC, dI)) (ci := 1) (v := .ref q1) (C := R_Fi) (T := F_Fi) (N := 3) hx hb hts i_Fi hown hK hP 0 rfl rfl 0 (by decide) (hts _ fl_Fi_10) (fun _ h9 => h9) rfl d_Fi_isUpNearer_5 ?_
  refine lv_aload_n hx hb d_Fi_isUpNearer_8 rfl (lv_at hl 0 rfl) ?_
  refine va_get (D := (dC, dI)) (ci := 1) (v := .ref q3) (C := R_Fi) (T := F_Fi) (N := 3) hx hb hts i_Fi hown hK hP 0 rfl rfl 2 (by decide) (hts _ fl_Fi_19) (fun _ h9 => h9) rfl d_Fi_isUpNearer_9 ?_
  refine pw_calli (wc := [(q1, .inr (2, [.ref w1, .int (nI xu)])), (w1, .inl (cJ, 26, .inr (.inl (bn_f X)))), (q3, .inr (2, [.ref w3, .int (nI xo)])), (w3, .inl (cJ, 26, .inr (.inl (bn_f O))))]) (wr := [(hf, .inr (1, [.ref q1, .ref q2, .ref q3])), (q2, .inr (2, [.ref w2, .int (nI xa)])), (w2, .inl (cJ, 26, .inr (.inl (bn_f U))))]) [1, 2, 5, 6] [0, 3, 4] rfl rfl rfl (by decide) (by decide) (by decide) hP hD hS hA (fun hPc hDc hF => va_runS (As := [.ref q1, .ref q1, .ref q3]) (rest := []) ⟨hx, hb, hml, hown, hts⟩ (c_Na_compareSumS l dC dI H.size q1 w1 q3 w3 cJ X xu O xo hX hxu hO hxo) (va_cwS 3 hts (gw_S (gw_self cod_Na_compareSum) ml_Fi_90 sta_Na_compareSum ini_Na) rfl rfl rfl (by decide +kernel) ⟨Nat.le_of_ble_eq_true rfl, Nat.le_of_ble_eq_true rfl⟩) (pw_preS pw_0_ok (trivial : pw_0 A s s.heap) hS hF hPc hDc (hK.sub [0] rfl)) rfl rfl hl.1 rfl (lv_room (Nat.le_of_ble_eq_true rfl)) d_Fi_isUpNearer_12 ⟨Nat.le_of_ble_eq_true rfl, Nat.le_of_ble_eq_true rfl⟩) (fun r5 u5 H locs hw5 hK1 hP hD hS => ?_)
  have hP : va_P (dC, dI) cls [(hf, .inr (1, [.ref q1, .ref q2, .ref q3])), (q1, .inr (2, [.ref w1, .int (nI xu)])), (w1, .inl (cJ, 26, .inr (.inl (bn_f X)))), (q2, .inr (2, [.ref w2, .int (nI xa)])), (w2, .inl (cJ, 26, .inr (.inl (bn_f U)))), (q3, .inr (2, [.ref w3, .int (nI xo)])), (w3, .inl (cJ, 26, .inr (.inl (bn_f O))))] H := hP.sub [0, 3, 4, 1, 2, 5, 6] rfl
  have hD : va_D A [(hf, .inr (1, [.ref q1, .ref q2, .ref q3])), (q1, .inr (2, [.ref w1, .int (nI xu)])), (w1, .inl (cJ, 26, .inr (.inl (bn_f X)))), (q2, .inr (2, [.ref w2, .int (nI xa)])), (w2, .inl (cJ, 26, .inr (.inl (bn_f U)))), (q3, .inr (2, [.ref w3, .int (nI xo)])), (w3, .inl (cJ, 26, .inr (.inl (bn_f O))))] := hD.sub [0, 3, 4, 1, 2, 5, 6] (by decide) rfl
  subst hw5
  refine lv_istore_n (lv' := [(3, .int (bn_cmp (X + X) O)), (0, .ref hf), (1, .long (lN m9))]) hx hb d_Fi_isUpNearer_15 rfl hl (by decide) rfl (fun ls hl => ?_)
  refine lv_iload_n hx hb d_Fi_isUpNearer_16 rfl (lv_at hl 0 rfl) ?_
  refine lv_if_gt (tgt := 32) hx hb d_Fi_isUpNearer_17 (by decide) (fun hc => ?_) (fun hc => ?_)
  · have e1 : fd_nr X O m9 = 1 := if_pos (Or.inl hc)
    refine lv_iconst (v := 1) hx hb d_Fi_isUpNearer_32 (by decide) ?_
    refine lv_goto (tgt := 37) hx hb d_Fi_isUpNearer_33 (by decide) ?_
    exact hret _ _ _ _ _ () d_Fi_isUpNearer_37 rfl (by rw [e1]; rfl) hP hK hD hS
  · refine lv_iload_n hx hb d_Fi_isUpNearer_20 rfl (lv_at hl 0 rfl) ?_
    refine lv_if_ne (tgt := 36) hx hb d_Fi_isUpNearer_21 (by decide) (fun hc2 => ?_) (fun hc2 => ?_)
    · have e1 : fd_nr X O m9 = 0 := if_neg (fun q => q.elim hc (fun q2 => hc2 q2.1))
      refine lv_iconst (v := 0) hx hb d_Fi_isUpNearer_36 (by decide) ?_
      exact hret _ _ _ _ _ () d_Fi_isUpNearer_37 rfl (by rw [e1]; rfl) hP hK hD hS
    · refine lv_lload_n hx hb d_Fi_isUpNearer_24 rfl (lv_at hl 2 rfl) ?_
      refine lv_lconst (v := 1) hx hb d_Fi_isUpNearer_25 (by decide) ?_
      refine lv_land hx hb d_Fi_isUpNearer_26 ?_
      refine lv_topl (fun x_1 e_2 => ?_)
      obtain rfl : x_1 = lN (m9 % 2) := e_2.trans (wb_a1 (by omega))
      refine lv_lconst (v := 1) hx hb d_Fi_isUpNearer_27 (by decide) ?_
      refine lx_ne (tgt := 36) hx hb d_Fi_isUpNearer_28 d_Fi_isUpNearer_29 (by decide) (fun hc3 => ?_) (fun hc3 => ?_)
      · have hne : m9 % 2 ≠ 1 := fun q => hc3 (by rw [q]; rfl)
        have e1 : fd_nr X O m9 = 0 := if_neg (fun q => q.elim hc (fun q2 => hne q2.2))
        refine lv_iconst (v := 0) hx hb d_Fi_isUpNearer_36 (by decide) ?_
        exact hret _ _ _ _ _ () d_Fi_isUpNearer_37 rfl (by rw [e1]; rfl) hP hK hD hS
      · have he : m9 % 2 = 1 := (pk_lEQ (a := m9 % 2) (b := 1) (by omega) (by omega)).mp hc3
        have e1 : fd_nr X O m9 = 1 := if_pos (Or.inr ⟨hc2, he⟩)
        refine lv_iconst (v := 1) hx hb d_Fi_isUpNearer_32 (by decide) ?_
        refine lv_goto (tgt := 37) hx hb d_Fi_isUpNearer_33 (by decide) ?_
        exact hret _ _ _ _ _ () d_Fi_isUpNearer_37 rfl (by rw [e1]; rfl) hP hK hD hS
end
section
set_option maxHeartbeats 4000000 in
set_option maxRecDepth 100000 in
/-- scale -/
theorem c_Fi_scale (l : Launch) (dC : Nat → ClassId) (dI : Nat → Nat → Nat) (sz : Nat) (hf q1 w1 q2 w2 q3 w3 : Nat) (cJ : ClassId) (X U O : Nat) (xu xa xo : Int32) (S : Nat) (q P : Int) (hX : X < 2 ^ (32 * 26)) (hU : U < 2 ^ (32 * 26)) (hO : O < 2 ^ (32 * 26)) (hS0 : 0 < S) (hS : S < 2 ^ 62) (hq1 : -2000 < q) (hq2 : q < 2000) (hp1 : -2000 < P) (hp2 : P < 2000) (hB1 : 2 * S * 5 ^ (-P).toNat * 2 ^ (q - 1 - P).toNat < 2 ^ (32 * 26)) (hB3 : 1 * 5 ^ P.toNat * 2 ^ (-(q - 1 - P)).toNat < 2 ^ (32 * 26)) : Met l y_Fi_scale (Cond.code y_Fi_scale b_Fi_scale 6 none :: gT) ({ frames := 2, cells := 0, slots := 0, locals := 49 }) (va_Pc [.ref hf, .long (lN S), .int (iZ q), .int (iZ P)] (pw_P (dC, dI) cls [(cJ, .long)] pw_0 [(hf, .inr (1, [.ref q1, .ref q2, .ref q3])), (q1, .inr (2, [.ref w1, .int xu])), (w1, .inl (cJ, 26, .inr (.inl (bn_f X)))), (q2, .inr (2, [.ref w2, .int xa])), (w2, .inl (cJ, 26, .inr (.inl (bn_f U)))), (q3, .inr (2, [.ref w3, .int xo])), (w3, .inl (cJ, 26, .inr (.inl (bn_f O))))] sz)) (va_Qv (fun (u3 : Nat × Nat × Nat) => (u3.1 ≤ 26 ∧ 2 * S * 5 ^ (-P).toNat * 2 ^ (q - 1 - P).toNat < 2 ^ (32 * u3.1)) ∧ (u3.2.1 ≤ 26 ∧ 1 * 5 ^ (-P).toNat * 2 ^ (q - 1 - P).toNat < 2 ^ (32 * u3.2.1)) ∧ (u3.2.2 ≤ 26 ∧ 1 * 5 ^ P.toNat * 2 ^ (-(q - 1 - P)).toNat < 2 ^ (32 * u3.2.2))) (fun (u3 : Nat × Nat × Nat) => pw_B (dC, dI) cls [(cJ, .long)] (va_A [(hf, .inr (1, [.ref q1, .ref q2, .ref q3])), (q1, .inr (2, [.ref w1, .int xu])), (w1, .inl (cJ, 26, .inr (.inl (bn_f X)))), (q2, .inr (2, [.ref w2, .int xa])), (w2, .inl (cJ, 26, .inr (.inl (bn_f U)))), (q3, .inr (2, [.ref w3, .int xo])), (w3, .inl (cJ, 26, .inr (.inl (bn_f O))))] sz) [(hf, .inr (1, [.ref q1, .ref q2, .ref q3])), (q1, .inr (2, [.ref w1, .int (nI u3.1)])), (w1, .inl (cJ, 26, .inr (.inl (bn_f (2 * S * 5 ^ (-P).toNat * 2 ^ (q - 1 - P).toNat))))), (q2, .inr (2, [.ref w2, .int (nI u3.2.1)])), (w2, .inl (cJ, 26, .inr (.inl (bn_f (1 * 5 ^ (-P).toNat * 2 ^ (q - 1 - P).toNat))))), (q3, .inr (2, [.ref w3, .int (nI u3.2.2)])), (w3, .inl (cJ, 26, .inr (.inl (bn_f (1 * 5 ^ P.toNat * 2 ^ (-(q - 1 - P)).toNat)))))]) (va_A [(hf, .inr (1, [.ref q1, .ref q2, .ref q3])), (q1, .inr (2, [.ref w1, .int xu])), (w1, .inl (cJ, 26, .inr (.inl (bn_f X)))), (q2, .inr (2, [.ref w2, .int xa])), (w2, .inl (cJ, 26, .inr (.inl (bn_f U)))), (q3, .inr (2, [.ref w3, .int xo])), (w3, .inl (cJ, 26, .inr (.inl (bn_f O))))] sz)) 0 0 (va_A [(hf, .inr (1, [.ref q1, .ref q2, .ref q3])), (q1, .inr (2, [.ref w1, .int xu])), (w1, .inl (cJ, 26, .inr (.inl (bn_f X)))), (q2, .inr (2, [.ref w2, .int xa])), (w2, .inl (cJ, 26, .inr (.inl (bn_f U)))), (q3, .inr (2, [.ref w3, .int xo])), (w3, .inl (cJ, 26, .inr (.inl (bn_f O))))] sz) := by
  refine pw_metv (tn := fun (u3 : Nat × Nat × Nat) => [(cJ, .long)]) (wn := fun (u3 : Nat × Nat × Nat) => [(hf, .inr (1, [.ref q1, .ref q2, .ref q3])), (q1, .inr (2, [.ref w1, .int (nI u3.1)])), (w1, .inl (cJ, 26, .inr (.inl (bn_f (2 * S * 5 ^ (-P).toNat * 2 ^ (q - 1 - P).toNat))))), (q2, .inr (2, [.ref w2, .int (nI u3.2.1)])), (w2, .inl (cJ, 26, .inr (.inl (bn_f (1 * 5 ^ (-P).toNat * 2 ^ (q - 1 - P).toNat))))), (q3, .inr (2, [.ref w3, .int (nI u3.2.2)])), (w3, .inl (cJ, 26, .inr (.inl (bn_f (1 * 5 ^ P.toNat * 2 ^ (-(q - 1 - P)).toNat)))))]) (by decide) (Nat.le_of_ble_eq_true rfl) ?_
  intro p e s m args below meth c A Q H ls hx hb hml hown hts hnm hA hE hP hK hD hS hret hl
  have hown : s.vm.findClass R_Fi = some m.cls := hown
  have hl : lv_has ls 6 [(0, .ref hf), (1, .long (lN S)), (3, .int (iZ q)), (4, .int (iZ P))] := hl
  have hp5 : 0 < 5 ^ (-P).toNat := Nat.pow_pos (by decide)
  have hp2t : 0 < 2 ^ (q - 1 - P).toNat := Nat.pow_pos (by decide)
  have hp2u : 0 < 2 ^ (-(q - 1 - P)).toNat := Nat.pow_pos (by decide)
  have hB0 : 2 * S * 5 ^ (-P).toNat < 2 ^ (32 * 26) := Nat.lt_of_le_of_lt (Nat.le_mul_of_pos_right _ hp2t) hB1
  have hB2a : 1 * 5 ^ (-P).toNat ≤ 2 * S * 5 ^ (-P).toNat := Nat.mul_le_mul_right _ (by omega)
  have hB2 : 1 * 5 ^ (-P).toNat * 2 ^ (q - 1 - P).toNat < 2 ^ (32 * 26) := Nat.lt_of_le_of_lt (Nat.mul_le_mul_right _ hB2a) hB1
  have hB2b : 1 * 5 ^ (-P).toNat < 2 ^ (32 * 26) := Nat.lt_of_le_of_lt hB2a hB0
  have hB3a : 1 * 5 ^ P.toNat < 2 ^ (32 * 26) := Nat.lt_of_le_of_lt (Nat.le_mul_of_pos_right _ hp2u) hB3
  refine lv_aload_n hx hb d_Fi_scale_0 rfl (lv_at hl 0 rfl) ?_
  refine va_get (D := (dC, dI)) (ci := 1) (v := .ref q1) (C := R_Fi) (T := F_Fi) (N := 3) hx hb hts i_Fi hown hK hP 0 rfl rfl 0 (by decide) (hts _ fl_Fi_10) (fun _ h9 => h9) rfl d_Fi_scale_1 ?_
  refine lv_ldc2 (v := 2) hx hb hown (hts _ kl_Fi_71) d_Fi_scale_4 ?_
  refine lv_lload_n hx hb d_Fi_scale_7 rfl (lv_at hl 1 rfl) ?_
  refine lv_lmul hx hb d_Fi_scale_8 ?_
  refine lv_topl (fun x_1 e_2 => ?_)
  obtain rfl : x_1 = lN (2 * S) := e_2.trans (lN_mul 2 S)
  refine pw_callv (wc := [(q1, .inr (2, [.ref w1, .int xu])), (w1, .inl (cJ, 26, .inr (.inl (bn_f X))))]) (wr := [(hf, .inr (1, [.ref q1, .ref q2, .ref q3])), (q2, .inr (2, [.ref w2, .int xa])), (w2, .inl (cJ, 26, .inr (.inl (bn_f U)))), (q3, .inr (2, [.ref w3, .int xo])), (w3, .inl (cJ, 26, .inr (.inl (bn_f O))))]) [1, 2] [0, 3, 4, 5, 6] rfl rfl rfl (by decide) (by decide) (by decide) hP hD hS hA (fun hPc hDc hF => va_runV (As := [.long (lN (2 * S))]) (rest := []) ⟨hx, hb, hml, hown, hts⟩ (c_Na_become l dC dI H.size q1 w1 cJ xu X (2 * S) hX (by omega)) (cwV 1 hts (gw_V (gw_self cod_Na_become) ml_Fi_73 im_Na_become sel_Na_become ini_Na) rfl rfl rfl (by decide +kernel) ⟨Nat.le_of_ble_eq_true rfl, Nat.le_of_ble_eq_true rfl⟩) (pw_preV pw_0_ok (trivial : pw_0 A s s.heap) hS hF hPc hDc (hK.sub [0] rfl) (va_recv hK hPc (ci := 2) (q0 := 0) rfl rfl)) rfl rfl hl.1 rfl (lv_room (Nat.le_of_ble_eq_true rfl)) d_Fi_scale_9 ⟨Nat.le_of_ble_eq_true rfl, Nat.le_of_ble_eq_true rfl⟩) (fun v1 H locs hg1 hK1 hP hD hS => ?_)
  have hP : va_P (dC, dI) cls [(hf, .inr (1, [.ref q1, .ref q2, .ref q3])), (q1, .inr (2, [.ref w1, .int (nI 2)])), (w1, .inl (cJ, 26, .inr (.inl (bn_f (2 * S))))), (q2, .inr (2, [.ref w2, .int xa])), (w2, .inl (cJ, 26, .inr (.inl (bn_f U)))), (q3, .inr (2, [.ref w3, .int xo])), (w3, .inl (cJ, 26, .inr (.inl (bn_f O))))] H := hP.sub [0, 5, 6, 1, 2, 3, 4] rfl
  have hD : va_D A [(hf, .inr (1, [.ref q1, .ref q2, .ref q3])), (q1, .inr (2, [.ref w1, .int (nI 2)])), (w1, .inl (cJ, 26, .inr (.inl (bn_f (2 * S))))), (q2, .inr (2, [.ref w2, .int xa])), (w2, .inl (cJ, 26, .inr (.inl (bn_f U)))), (q3, .inr (2, [.ref w3, .int xo])), (w3, .inl (cJ, 26, .inr (.inl (bn_f O))))] := hD.sub [0, 5, 6, 1, 2, 3, 4] (by decide) rfl
  refine lv_aload_n hx hb d_Fi_scale_12 rfl (lv_at hl 0 rfl) ?_
  refine va_get (D := (dC, dI)) (ci := 1) (v := .ref q2) (C := R_Fi) (T := F_Fi) (N := 3) hx hb hts i_Fi hown hK hP 0 rfl rfl 1 (by decide) (hts _ fl_Fi_16) (fun _ h9 => h9) rfl d_Fi_scale_13 ?_
  refine lv_lconst (v := 1) hx hb d_Fi_scale_16 (by decide) ?_
  refine pw_callv (wc := [(q2, .inr (2, [.ref w2, .int xa])), (w2, .inl (cJ, 26, .inr (.inl (bn_f U))))]) (wr := [(hf, .inr (1, [.ref q1, .ref q2, .ref q3])), (q1, .inr (2, [.ref w1, .int (nI 2)])), (w1, .inl (cJ, 26, .inr (.inl (bn_f (2 * S))))), (q3, .inr (2, [.ref w3, .int xo])), (w3, .inl (cJ, 26, .inr (.inl (bn_f O))))]) [3, 4] [0, 1, 2, 5, 6] rfl rfl rfl (by decide) (by decide) (by decide) hP hD hS hA (fun hPc hDc hF => va_runV (As := [.long 1]) (rest := []) ⟨hx, hb, hml, hown, hts⟩ (c_Na_become l dC dI H.size q2 w2 cJ xa U 1 hU (by omega)) (cwV 1 hts (gw_V (gw_self cod_Na_become) ml_Fi_73 im_Na_become sel_Na_become ini_Na) rfl rfl rfl (by decide +kernel) ⟨Nat.le_of_ble_eq_true rfl, Nat.le_of_ble_eq_true rfl⟩) (pw_preV pw_0_ok (trivial : pw_0 A s s.heap) hS hF hPc hDc (hK.sub [0] rfl) (va_recv hK hPc (ci := 2) (q0 := 0) rfl rfl)) rfl rfl hl.1 rfl (lv_room (Nat.le_of_ble_eq_true rfl)) d_Fi_scale_17 ⟨Nat.le_of_ble_eq_true rfl, Nat.le_of_ble_eq_true rfl⟩) (fun v2 H locs hg2 hK1 hP hD hS => ?_)
  have hP : va_P (dC, dI) cls [(hf, .inr (1, [.ref q1, .ref q2, .ref q3])), (q1, .inr (2, [.ref w1, .int (nI 2)])), (w1, .inl (cJ, 26, .inr (.inl (bn_f (2 * S))))), (q2, .inr (2, [.ref w2, .int (nI 2)])), (w2, .inl (cJ, 26, .inr (.inl (bn_f 1)))), (q3, .inr (2, [.ref w3, .int xo])), (w3, .inl (cJ, 26, .inr (.inl (bn_f O))))] H := hP.sub [0, 1, 2, 5, 6, 3, 4] rfl
  have hD : va_D A [(hf, .inr (1, [.ref q1, .ref q2, .ref q3])), (q1, .inr (2, [.ref w1, .int (nI 2)])), (w1, .inl (cJ, 26, .inr (.inl (bn_f (2 * S))))), (q2, .inr (2, [.ref w2, .int (nI 2)])), (w2, .inl (cJ, 26, .inr (.inl (bn_f 1)))), (q3, .inr (2, [.ref w3, .int xo])), (w3, .inl (cJ, 26, .inr (.inl (bn_f O))))] := hD.sub [0, 1, 2, 5, 6, 3, 4] (by decide) rfl
  refine lv_aload_n hx hb d_Fi_scale_20 rfl (lv_at hl 0 rfl) ?_
  refine va_get (D := (dC, dI)) (ci := 1) (v := .ref q3) (C := R_Fi) (T := F_Fi) (N := 3) hx hb hts i_Fi hown hK hP 0 rfl rfl 2 (by decide) (hts _ fl_Fi_19) (fun _ h9 => h9) rfl d_Fi_scale_21 ?_
  refine lv_lconst (v := 1) hx hb d_Fi_scale_24 (by decide) ?_
  refine pw_callv (wc := [(q3, .inr (2, [.ref w3, .int xo])), (w3, .inl (cJ, 26, .inr (.inl (bn_f O))))]) (wr := [(hf, .inr (1, [.ref q1, .ref q2, .ref q3])), (q1, .inr (2, [.ref w1, .int (nI 2)])), (w1, .inl (cJ, 26, .inr (.inl (bn_f (2 * S))))), (q2, .inr (2, [.ref w2, .int (nI 2)])), (w2, .inl (cJ, 26, .inr (.inl (bn_f 1))))]) [5, 6] [0, 1, 2, 3, 4] rfl rfl rfl (by decide) (by decide) (by decide) hP hD hS hA (fun hPc hDc hF => va_runV (As := [.long 1]) (rest := []) ⟨hx, hb, hml, hown, hts⟩ (c_Na_become l dC dI H.size q3 w3 cJ xo O 1 hO (by omega)) (cwV 1 hts (gw_V (gw_self cod_Na_become) ml_Fi_73 im_Na_become sel_Na_become ini_Na) rfl rfl rfl (by decide +kernel) ⟨Nat.le_of_ble_eq_true rfl, Nat.le_of_ble_eq_true rfl⟩) (pw_preV pw_0_ok (trivial : pw_0 A s s.heap) hS hF hPc hDc (hK.sub [0] rfl) (va_recv hK hPc (ci := 2) (q0 := 0) rfl rfl)) rfl rfl hl.1 rfl (lv_room (Nat.le_of_ble_eq_true rfl)) d_Fi_scale_25 ⟨Nat.le_of_ble_eq_true rfl, Nat.le_of_ble_eq_true rfl⟩) (fun v3 H locs hg3 hK1 hP hD hS => ?_)
  have hP : va_P (dC, dI) cls [(hf, .inr (1, [.ref q1, .ref q2, .ref q3])), (q1, .inr (2, [.ref w1, .int (nI 2)])), (w1, .inl (cJ, 26, .inr (.inl (bn_f (2 * S))))), (q2, .inr (2, [.ref w2, .int (nI 2)])), (w2, .inl (cJ, 26, .inr (.inl (bn_f 1)))), (q3, .inr (2, [.ref w3, .int (nI 2)])), (w3, .inl (cJ, 26, .inr (.inl (bn_f 1))))] H := hP
  have hD : va_D A [(hf, .inr (1, [.ref q1, .ref q2, .ref q3])), (q1, .inr (2, [.ref w1, .int (nI 2)])), (w1, .inl (cJ, 26, .inr (.inl (bn_f (2 * S))))), (q2, .inr (2, [.ref w2, .int (nI 2)])), (w2, .inl (cJ, 26, .inr (.inl (bn_f 1)))), (q3, .inr (2, [.ref w3, .int (nI 2)])), (w3, .inl (cJ, 26, .inr (.inl (bn_f 1))))] := hD
  refine lv_aload_n hx hb d_Fi_scale_28 rfl (lv_at hl 0 rfl) ?_
  refine va_get (D := (dC, dI)) (ci := 1) (v := .ref q1) (C := R_Fi) (T := F_Fi) (N := 3) hx hb hts i_Fi hown hK hP 0 rfl rfl 0 (by decide) (hts _ fl_Fi_10) (fun _ h9 => h9) rfl d_Fi_scale_29 ?_
  refine lv_iload hx hb d_Fi_scale_32 (lv_at hl 3 rfl) ?_
  refine lv_ineg hx hb d_Fi_scale_34 ?_
  refine lv_topi (fun x_3 e_4 => ?_)
  obtain rfl : x_3 = iZ (-P) := e_4.trans (iZ_neg _)
  refine pw_callv (wc := [(q1, .inr (2, [.ref w1, .int (nI 2)])), (w1, .inl (cJ, 26, .inr (.inl (bn_f (2 * S)))))]) (wr := [(hf, .inr (1, [.ref q1, .ref q2, .ref q3])), (q2, .inr (2, [.ref w2, .int (nI 2)])), (w2, .inl (cJ, 26, .inr (.inl (bn_f 1)))), (q3, .inr (2, [.ref w3, .int (nI 2)])), (w3, .inl (cJ, 26, .inr (.inl (bn_f 1))))]) [1, 2] [0, 3, 4, 5, 6] rfl rfl rfl (by decide) (by decide) (by decide) hP hD hS hA (fun hPc hDc hF => va_runV (As := [.int (iZ (-P))]) (rest := []) ⟨hx, hb, hml, hown, hts⟩ (c_Na_timesFives l dC dI H.size q1 w1 cJ (2 * S) 2 (-P) (by omega) (by omega) (by omega) (by omega) hB0) (cwV 1 hts (gw_V (gw_self cod_Na_timesFives) ml_Fi_76 im_Na_timesFives sel_Na_timesFives ini_Na) rfl rfl rfl (by decide +kernel) ⟨Nat.le_of_ble_eq_true rfl, Nat.le_of_ble_eq_true rfl⟩) (pw_preV pw_0_ok (trivial : pw_0 A s s.heap) hS hF hPc hDc (hK.sub [0] rfl) (va_recv hK hPc (ci := 2) (q0 := 0) rfl rfl)) rfl rfl hl.1 rfl (lv_room (Nat.le_of_ble_eq_true rfl)) d_Fi_scale_35 ⟨Nat.le_of_ble_eq_true rfl, Nat.le_of_ble_eq_true rfl⟩) (fun v4 H locs hg4 hK1 hP hD hS => ?_)
  have hP : va_P (dC, dI) cls [(hf, .inr (1, [.ref q1, .ref q2, .ref q3])), (q1, .inr (2, [.ref w1, .int (nI v4)])), (w1, .inl (cJ, 26, .inr (.inl (bn_f (2 * S * 5 ^ (-P).toNat))))), (q2, .inr (2, [.ref w2, .int (nI 2)])), (w2, .inl (cJ, 26, .inr (.inl (bn_f 1)))), (q3, .inr (2, [.ref w3, .int (nI 2)])), (w3, .inl (cJ, 26, .inr (.inl (bn_f 1))))] H := hP.sub [0, 5, 6, 1, 2, 3, 4] rfl
  have hD : va_D A [(hf, .inr (1, [.ref q1, .ref q2, .ref q3])), (q1, .inr (2, [.ref w1, .int (nI v4)])), (w1, .inl (cJ, 26, .inr (.inl (bn_f (2 * S * 5 ^ (-P).toNat))))), (q2, .inr (2, [.ref w2, .int (nI 2)])), (w2, .inl (cJ, 26, .inr (.inl (bn_f 1)))), (q3, .inr (2, [.ref w3, .int (nI 2)])), (w3, .inl (cJ, 26, .inr (.inl (bn_f 1))))] := hD.sub [0, 5, 6, 1, 2, 3, 4] (by decide) rfl
  refine lv_aload_n hx hb d_Fi_scale_38 rfl (lv_at hl 0 rfl) ?_
  refine va_get (D := (dC, dI)) (ci := 1) (v := .ref q2) (C := R_Fi) (T := F_Fi) (N := 3) hx hb hts i_Fi hown hK hP 0 rfl rfl 1 (by decide) (hts _ fl_Fi_16) (fun _ h9 => h9) rfl d_Fi_scale_39 ?_
  refine lv_iload hx hb d_Fi_scale_42 (lv_at hl 3 rfl) ?_
  refine lv_ineg hx hb d_Fi_scale_44 ?_
  refine lv_topi (fun x_5 e_6 => ?_)
  obtain rfl : x_5 = iZ (-P) := e_6.trans (iZ_neg _)
  refine pw_callv (wc := [(q2, .inr (2, [.ref w2, .int (nI 2)])), (w2, .inl (cJ, 26, .inr (.inl (bn_f 1))))]) (wr := [(hf, .inr (1, [.ref q1, .ref q2, .ref q3])), (q1, .inr (2, [.ref w1, .int (nI v4)])), (w1, .inl (cJ, 26, .inr (.inl (bn_f (2 * S * 5 ^ (-P).toNat))))), (q3, .inr (2, [.ref w3, .int (nI 2)])), (w3, .inl (cJ, 26, .inr (.inl (bn_f 1))))]) [3, 4] [0, 1, 2, 5, 6] rfl rfl rfl (by decide) (by decide) (by decide) hP hD hS hA (fun hPc hDc hF => va_runV (As := [.int (iZ (-P))]) (rest := []) ⟨hx, hb, hml, hown, hts⟩ (c_Na_timesFives l dC dI H.size q2 w2 cJ 1 2 (-P) (by omega) (by omega) (by omega) (by omega) hB2b) (cwV 1 hts (gw_V (gw_self cod_Na_timesFives) ml_Fi_76 im_Na_timesFives sel_Na_timesFives ini_Na) rfl rfl rfl (by decide +kernel) ⟨Nat.le_of_ble_eq_true rfl, Nat.le_of_ble_eq_true rfl⟩) (pw_preV pw_0_ok (trivial : pw_0 A s s.heap) hS hF hPc hDc (hK.sub [0] rfl) (va_recv hK hPc (ci := 2) (q0 := 0) rfl rfl)) rfl rfl hl.1 rfl (lv_room (Nat.le_of_ble_eq_true rfl)) d_Fi_scale_45 ⟨Nat.le_of_ble_eq_true rfl, Nat.le_of_ble_eq_true rfl⟩) (fun v5 H locs hg5 hK1 hP hD hS => ?_)
  have hP : va_P (dC, dI) cls [(hf, .inr (1, [.ref q1, .ref q2, .ref q3])), (q1, .inr (2, [.ref w1, .int (nI v4)])), (w1, .inl (cJ, 26, .inr (.inl (bn_f (2 * S * 5 ^ (-P).toNat))))), (q2, .inr (2, [.ref w2, .int (nI v5)])), (w2, .inl (cJ, 26, .inr (.inl (bn_f (1 * 5 ^ (-P).toNat))))), (q3, .inr (2, [.ref w3, .int (nI 2)])), (w3, .inl (cJ, 26, .inr (.inl (bn_f 1))))] H := hP.sub [0, 1, 2, 5, 6, 3, 4] rfl
  have hD : va_D A [(hf, .inr (1, [.ref q1, .ref q2, .ref q3])), (q1, .inr (2, [.ref w1, .int (nI v4)])), (w1, .inl (cJ, 26, .inr (.inl (bn_f (2 * S * 5 ^ (-P).toNat))))), (q2, .inr (2, [.ref w2, .int (nI v5)])), (w2, .inl (cJ, 26, .inr (.inl (bn_f (1 * 5 ^ (-P).toNat))))), (q3, .inr (2, [.ref w3, .int (nI 2)])), (w3, .inl (cJ, 26, .inr (.inl (bn_f 1))))] := hD.sub [0, 1, 2, 5, 6, 3, 4] (by decide) rfl
  refine lv_aload_n hx hb d_Fi_scale_48 rfl (lv_at hl 0 rfl) ?_
  refine va_get (D := (dC, dI)) (ci := 1) (v := .ref q3) (C := R_Fi) (T := F_Fi) (N := 3) hx hb hts i_Fi hown hK hP 0 rfl rfl 2 (by decide) (hts _ fl_Fi_19) (fun _ h9 => h9) rfl d_Fi_scale_49 ?_
  refine lv_iload hx hb d_Fi_scale_52 (lv_at hl 3 rfl) ?_
  refine pw_callv (wc := [(q3, .inr (2, [.ref w3, .int (nI 2)])), (w3, .inl (cJ, 26, .inr (.inl (bn_f 1))))]) (wr := [(hf, .inr (1, [.ref q1, .ref q2, .ref q3])), (q1, .inr (2, [.ref w1, .int (nI v4)])), (w1, .inl (cJ, 26, .inr (.inl (bn_f (2 * S * 5 ^ (-P).toNat))))), (q2, .inr (2, [.ref w2, .int (nI v5)])), (w2, .inl (cJ, 26, .inr (.inl (bn_f (1 * 5 ^ (-P).toNat)))))]) [5, 6] [0, 1, 2, 3, 4] rfl rfl rfl (by decide) (by decide) (by decide) hP hD hS hA (fun hPc hDc hF => va_runV (As := [.int (iZ P)]) (rest := []) ⟨hx, hb, hml, hown, hts⟩ (c_Na_timesFives l dC dI H.size q3 w3 cJ 1 2 P (by omega) (by omega) (by omega) (by omega) hB3a) (cwV 1 hts (gw_V (gw_self cod_Na_timesFives) ml_Fi_76 im_Na_timesFives sel_Na_timesFives ini_Na) rfl rfl rfl (by decide +kernel) ⟨Nat.le_of_ble_eq_true rfl, Nat.le_of_ble_eq_true rfl⟩) (pw_preV pw_0_ok (trivial : pw_0 A s s.heap) hS hF hPc hDc (hK.sub [0] rfl) (va_recv hK hPc (ci := 2) (q0 := 0) rfl rfl)) rfl rfl hl.1 rfl (lv_room (Nat.le_of_ble_eq_true rfl)) d_Fi_scale_54 ⟨Nat.le_of_ble_eq_true rfl, Nat.le_of_ble_eq_true rfl⟩) (fun v6 H locs hg6 hK1 hP hD hS => ?_)
  have hP : va_P (dC, dI) cls [(hf, .inr (1, [.ref q1, .ref q2, .ref q3])), (q1, .inr (2, [.ref w1, .int (nI v4)])), (w1, .inl (cJ, 26, .inr (.inl (bn_f (2 * S * 5 ^ (-P).toNat))))), (q2, .inr (2, [.ref w2, .int (nI v5)])), (w2, .inl (cJ, 26, .inr (.inl (bn_f (1 * 5 ^ (-P).toNat))))), (q3, .inr (2, [.ref w3, .int (nI v6)])), (w3, .inl (cJ, 26, .inr (.inl (bn_f (1 * 5 ^ P.toNat)))))] H := hP
  have hD : va_D A [(hf, .inr (1, [.ref q1, .ref q2, .ref q3])), (q1, .inr (2, [.ref w1, .int (nI v4)])), (w1, .inl (cJ, 26, .inr (.inl (bn_f (2 * S * 5 ^ (-P).toNat))))), (q2, .inr (2, [.ref w2, .int (nI v5)])), (w2, .inl (cJ, 26, .inr (.inl (bn_f (1 * 5 ^ (-P).toNat))))), (q3, .inr (2, [.ref w3, .int (nI v6)])), (w3, .inl (cJ, 26, .inr (.inl (bn_f (1 * 5 ^ P.toNat)))))] := hD
  refine lv_iload_n hx hb d_Fi_scale_57 rfl (lv_at hl 2 rfl) ?_
  refine lv_iconst (v := 1) hx hb d_Fi_scale_58 (by decide) ?_
  refine lv_isub hx hb d_Fi_scale_59 ?_
  refine lv_topi (fun x_7 e_8 => ?_)
  obtain rfl : x_7 = iZ (q - 1) := e_8.trans (iZ_sub _ 1)
  refine lv_iload hx hb d_Fi_scale_60 (lv_at hl 3 rfl) ?_
  refine lv_isub hx hb d_Fi_scale_62 ?_
  refine lv_topi (fun x_9 e_10 => ?_)
  obtain rfl : x_9 = iZ (q - 1 - P) := e_10.trans (iZ_sub _ _)
  refine lv_istore (lv' := [(5, .int (iZ (q - 1 - P))), (0, .ref hf), (1, .long (lN S)), (3, .int (iZ q)), (4, .int (iZ P))]) hx hb d_Fi_scale_63 hl (by decide) rfl (fun ls hl => ?_)
  refine lv_aload_n hx hb d_Fi_scale_65 rfl (lv_at hl 1 rfl) ?_
  refine va_get (D := (dC, dI)) (ci := 1) (v := .ref q1) (C := R_Fi) (T := F_Fi) (N := 3) hx hb hts i_Fi hown hK hP 0 rfl rfl 0 (by decide) (hts _ fl_Fi_10) (fun _ h9 => h9) rfl d_Fi_scale_66 ?_
  refine lv_iload hx hb d_Fi_scale_69 (lv_at hl 0 rfl) ?_
  refine pw_callv (wc := [(q1, .inr (2, [.ref w1, .int (nI v4)])), (w1, .inl (cJ, 26, .inr (.inl (bn_f (2 * S * 5 ^ (-P).toNat)))))]) (wr := [(hf, .inr (1, [.ref q1, .ref q2, .ref q3])), (q2, .inr (2, [.ref w2, .int (nI v5)])), (w2, .inl (cJ, 26, .inr (.inl (bn_f (1 * 5 ^ (-P).toNat))))), (q3, .inr (2, [.ref w3, .int (nI v6)])), (w3, .inl (cJ, 26, .inr (.inl (bn_f (1 * 5 ^ P.toNat)))))]) [1, 2] [0, 3, 4, 5, 6] rfl rfl rfl (by decide) (by decide) (by decide) hP hD hS hA (fun hPc hDc hF => va_runV (As := [.int (iZ (q - 1 - P))]) (rest := []) ⟨hx, hb, hml, hown, hts⟩ (c_Na_timesTwos l dC dI H.size q1 w1 cJ (2 * S * 5 ^ (-P).toNat) v4 (q - 1 - P) hg4.2 hg4.1 (by omega) (by omega) hB1) (cwV 1 hts (gw_V (gw_self cod_Na_timesTwos) ml_Fi_80 im_Na_timesTwos sel_Na_timesTwos ini_Na) rfl rfl rfl (by decide +kernel) ⟨Nat.le_of_ble_eq_true rfl, Nat.le_of_ble_eq_true rfl⟩) (pw_preV pw_0_ok (trivial : pw_0 A s s.heap) hS hF hPc hDc (hK.sub [0] rfl) (va_recv hK hPc (ci := 2) (q0 := 0) rfl rfl)) rfl rfl hl.1 rfl (lv_room (Nat.le_of_ble_eq_true rfl)) d_Fi_scale_71 ⟨Nat.le_of_ble_eq_true rfl, Nat.le_of_ble_eq_true rfl⟩) (fun v7 H locs hg7 hK1 hP hD hS => ?_)
  have hP : va_P (dC, dI) cls [(hf, .inr (1, [.ref q1, .ref q2, .ref q3])), (q1, .inr (2, [.ref w1, .int (nI v7)])), (w1, .inl (cJ, 26, .inr (.inl (bn_f (2 * S * 5 ^ (-P).toNat * 2 ^ (q - 1 - P).toNat))))), (q2, .inr (2, [.ref w2, .int (nI v5)])), (w2, .inl (cJ, 26, .inr (.inl (bn_f (1 * 5 ^ (-P).toNat))))), (q3, .inr (2, [.ref w3, .int (nI v6)])), (w3, .inl (cJ, 26, .inr (.inl (bn_f (1 * 5 ^ P.toNat)))))] H := hP.sub [0, 5, 6, 1, 2, 3, 4] rfl
  have hD : va_D A [(hf, .inr (1, [.ref q1, .ref q2, .ref q3])), (q1, .inr (2, [.ref w1, .int (nI v7)])), (w1, .inl (cJ, 26, .inr (.inl (bn_f (2 * S * 5 ^ (-P).toNat * 2 ^ (q - 1 - P).toNat))))), (q2, .inr (2, [.ref w2, .int (nI v5)])), (w2, .inl (cJ, 26, .inr (.inl (bn_f (1 * 5 ^ (-P).toNat))))), (q3, .inr (2, [.ref w3, .int (nI v6)])), (w3, .inl (cJ, 26, .inr (.inl (bn_f (1 * 5 ^ P.toNat)))))] := hD.sub [0, 5, 6, 1, 2, 3, 4] (by decide) rfl
  refine lv_aload_n hx hb d_Fi_scale_74 rfl (lv_at hl 1 rfl) ?_
  refine va_get (D := (dC, dI)) (ci := 1) (v := .ref q2) (C := R_Fi) (T := F_Fi) (N := 3) hx hb hts i_Fi hown hK hP 0 rfl rfl 1 (by decide) (hts _ fl_Fi_16) (fun _ h9 => h9) rfl d_Fi_scale_75 ?_
  refine lv_iload hx hb d_Fi_scale_78 (lv_at hl 0 rfl) ?_
  refine pw_callv (wc := [(q2, .inr (2, [.ref w2, .int (nI v5)])), (w2, .inl (cJ, 26, .inr (.inl (bn_f (1 * 5 ^ (-P).toNat)))))]) (wr := [(hf, .inr (1, [.ref q1, .ref q2, .ref q3])), (q1, .inr (2, [.ref w1, .int (nI v7)])), (w1, .inl (cJ, 26, .inr (.inl (bn_f (2 * S * 5 ^ (-P).toNat * 2 ^ (q - 1 - P).toNat))))), (q3, .inr (2, [.ref w3, .int (nI v6)])), (w3, .inl (cJ, 26, .inr (.inl (bn_f (1 * 5 ^ P.toNat)))))]) [3, 4] [0, 1, 2, 5, 6] rfl rfl rfl (by decide) (by decide) (by decide) hP hD hS hA (fun hPc hDc hF => va_runV (As := [.int (iZ (q - 1 - P))]) (rest := []) ⟨hx, hb, hml, hown, hts⟩ (c_Na_timesTwos l dC dI H.size q2 w2 cJ (1 * 5 ^ (-P).toNat) v5 (q - 1 - P) hg5.2 hg5.1 (by omega) (by omega) hB2) (cwV 1 hts (gw_V (gw_self cod_Na_timesTwos) ml_Fi_80 im_Na_timesTwos sel_Na_timesTwos ini_Na) rfl rfl rfl (by decide +kernel) ⟨Nat.le_of_ble_eq_true rfl, Nat.le_of_ble_eq_true rfl⟩) (pw_preV pw_0_ok (trivial : pw_0 A s s.heap) hS hF hPc hDc (hK.sub [0] rfl) (va_recv hK hPc (ci := 2) (q0 := 0) rfl rfl)) rfl rfl hl.1 rfl (lv_room (Nat.le_of_ble_eq_true rfl)) d_Fi_scale_80 ⟨Nat.le_of_ble_eq_true rfl, Nat.le_of_ble_eq_true rfl⟩) (fun v8 H locs hg8 hK1 hP hD hS => ?_)
  have hP : va_P (dC, dI) cls [(hf, .inr (1, [.ref q1, .ref q2, .ref q3])), (q1, .inr (2, [.ref w1, .int (nI v7)])), (w1, .inl (cJ, 26, .inr (.inl (bn_f (2 * S * 5 ^ (-P).toNat * 2 ^ (q - 1 - P).toNat))))), (q2, .inr (2, [.ref w2, .int (nI v8)])), (w2, .inl (cJ, 26, .inr (.inl (bn_f (1 * 5 ^ (-P).toNat * 2 ^ (q - 1 - P).toNat))))), (q3, .inr (2, [.ref w3, .int (nI v6)])), (w3, .inl (cJ, 26, .inr (.inl (bn_f (1 * 5 ^ P.toNat)))))] H := hP.sub [0, 1, 2, 5, 6, 3, 4] rfl
  have hD : va_D A [(hf, .inr (1, [.ref q1, .ref q2, .ref q3])), (q1, .inr (2, [.ref w1, .int (nI v7)])), (w1, .inl (cJ, 26, .inr (.inl (bn_f (2 * S * 5 ^ (-P).toNat * 2 ^ (q - 1 - P).toNat))))), (q2, .inr (2, [.ref w2, .int (nI v8)])), (w2, .inl (cJ, 26, .inr (.inl (bn_f (1 * 5 ^ (-P).toNat * 2 ^ (q - 1 - P).toNat))))), (q3, .inr (2, [.ref w3, .int (nI v6)])), (w3, .inl (cJ, 26, .inr (.inl (bn_f (1 * 5 ^ P.toNat)))))] := hD.sub [0, 1, 2, 5, 6, 3, 4] (by decide) rfl
  refine lv_aload_n hx hb d_Fi_scale_83 rfl (lv_at hl 1 rfl) ?_
  refine va_get (D := (dC, dI)) (ci := 1) (v := .ref q3) (C := R_Fi) (T := F_Fi) (N := 3) hx hb hts i_Fi hown hK hP 0 rfl rfl 2 (by decide) (hts _ fl_Fi_19) (fun _ h9 => h9) rfl d_Fi_scale_84 ?_
  refine lv_iload hx hb d_Fi_scale_87 (lv_at hl 0 rfl) ?_
  refine lv_ineg hx hb d_Fi_scale_89 ?_
  refine lv_topi (fun x_11 e_12 => ?_)
  obtain rfl : x_11 = iZ (-(q - 1 - P)) := e_12.trans (iZ_neg _)
  refine pw_callv (wc := [(q3, .inr (2, [.ref w3, .int (nI v6)])), (w3, .inl (cJ, 26, .inr (.inl (bn_f (1 * 5 ^ P.toNat)))))]) (wr := [(hf, .inr (1, [.ref q1, .ref q2, .ref q3])), (q1, .inr (2, [.ref w1, .int (nI v7)])), (w1, .inl (cJ, 26, .inr (.inl (bn_f (2 * S * 5 ^ (-P).toNat * 2 ^ (q - 1 - P).toNat))))), (q2, .inr (2, [.ref w2, .int (nI v8)])), (w2, .inl (cJ, 26, .inr (.inl (bn_f (1 * 5 ^ (-P).toNat * 2 ^ (q - 1 - P).toNat)))))]) [5, 6] [0, 1, 2, 3, 4] rfl rfl rfl (by decide) (by decide) (by decide) hP hD hS hA (fun hPc hDc hF => va_runV (As := [.int (iZ (-(q - 1 - P)))]) (rest := []) ⟨hx, hb, hml, hown, hts⟩ (c_Na_timesTwos l dC dI H.size q3 w3 cJ (1 * 5 ^ P.toNat) v6 (-(q - 1 - P)) hg6.2 hg6.1 (by omega) (by omega) hB3) (cwV 1 hts (gw_V (gw_self cod_Na_timesTwos) ml_Fi_80 im_Na_timesTwos sel_Na_timesTwos ini_Na) rfl rfl rfl (by decide +kernel) ⟨Nat.le_of_ble_eq_true rfl, Nat.le_of_ble_eq_true rfl⟩) (pw_preV pw_0_ok (trivial : pw_0 A s s.heap) hS hF hPc hDc (hK.sub [0] rfl) (va_recv hK hPc (ci := 2) (q0 := 0) rfl rfl)) rfl rfl hl.1 rfl (lv_room (Nat.le_of_ble_eq_true rfl)) d_Fi_scale_90 ⟨Nat.le_of_ble_eq_true rfl, Nat.le_of_ble_eq_true rfl⟩) (fun v9 H locs hg9 hK1 hP hD hS => ?_)
  have hP : va_P (dC, dI) cls [(hf, .inr (1, [.ref q1, .ref q2, .ref q3])), (q1, .inr (2, [.ref w1, .int (nI v7)])), (w1, .inl (cJ, 26, .inr (.inl (bn_f (2 * S * 5 ^ (-P).toNat * 2 ^ (q - 1 - P).toNat))))), (q2, .inr (2, [.ref w2, .int (nI v8)])), (w2, .inl (cJ, 26, .inr (.inl (bn_f (1 * 5 ^ (-P).toNat * 2 ^ (q - 1 - P).toNat))))), (q3, .inr (2, [.ref w3, .int (nI v9)])), (w3, .inl (cJ, 26, .inr (.inl (bn_f (1 * 5 ^ P.toNat * 2 ^ (-(q - 1 - P)).toNat)))))] H := hP
  have hD : va_D A [(hf, .inr (1, [.ref q1, .ref q2, .ref q3])), (q1, .inr (2, [.ref w1, .int (nI v7)])), (w1, .inl (cJ, 26, .inr (.inl (bn_f (2 * S * 5 ^ (-P).toNat * 2 ^ (q - 1 - P).toNat))))), (q2, .inr (2, [.ref w2, .int (nI v8)])), (w2, .inl (cJ, 26, .inr (.inl (bn_f (1 * 5 ^ (-P).toNat * 2 ^ (q - 1 - P).toNat))))), (q3, .inr (2, [.ref w3, .int (nI v9)])), (w3, .inl (cJ, 26, .inr (.inl (bn_f (1 * 5 ^ P.toNat * 2 ^ (-(q - 1 - P)).toNat)))))] := hD
  exact hret _ _ _ _ (v7, v8, v9) d_Fi_scale_93 ⟨hg7, hg8, hg9⟩ hP hK hD hS
end
section
set_option maxHeartbeats 4000000 in
set_option maxRecDepth 100000 in
/-- find -/
theorem c_Fi_find (l : Launch) (dC : Nat → ClassId) (dI : Nat → Nat → Nat) (sz : Nat) (hf q1 w1 q2 w2 q3 w3 : Nat) (cJ : ClassId) (hd wd : Nat) (cC : ClassId) (X U O : Nat) (xu xa xo : Int32) (g : Nat → Int32) (n0 t0 : Int32) (d0 : Int64) (S b : Nat) (q P : Int) (lb R0 U0 O0 : Nat) (hX : X < 2 ^ (32 * 26)) (hU : U < 2 ^ (32 * 26)) (hO : O < 2 ^ (32 * 26)) (hbl : isbl S b) (hb2 : b ≤ 62) (hS0 : 0 < S) (hq1 : -2000 < q) (hq2 : q < 2000) (hlb : lb ≤ 1) (hp : fd_hp b q = P) (hp1 : -2000 < P) (hp2 : P < 2000) (hR : 2 * S * 5 ^ (-P).toNat * 2 ^ (q - 1 - P).toNat = R0) (hU0 : 1 * 5 ^ (-P).toNat * 2 ^ (q - 1 - P).toNat = U0) (hO0 : 1 * 5 ^ P.toNat * 2 ^ (-(q - 1 - P)).toNat = O0) (hBR : R0 * 10 < 2 ^ (32 * 26)) (hBU : U0 * 10 ^ 17 < 2 ^ (32 * 26)) (hBO : O0 * 10 < 2 ^ (32 * 26)) (hlo : O0 ≤ R0 * 10) (hhi : R0 < 10 * O0) : Met l y_Fi_find (Cond.code y_Fi_find b_Fi_find 13 none :: gT) ({ frames := 3, cells := 0, slots := 0, locals := 78 }) (va_Pc [.ref hf, .long (lN S), .int (iZ q), .int (nI lb), .ref hd] (pw_P (dC, dI) cls [(cJ, .long), (cC, .char)] pw_0 [(hf, .inr (1, [.ref q1, .ref q2, .ref q3])), (q1, .inr (2, [.ref w1, .int xu])), (w1, .inl (cJ, 26, .inr (.inl (bn_f X)))), (q2, .inr (2, [.ref w2, .int xa])), (w2, .inl (cJ, 26, .inr (.inl (bn_f U)))), (q3, .inr (2, [.ref w3, .int xo])), (w3, .inl (cJ, 26, .inr (.inl (bn_f O)))), (hd, .inr (0, [.ref wd, .int n0, .long d0, .int t0])), (wd, .inl (cC, 19, .inl (g)))] sz)) (va_Qv (fun (z : (Nat × Nat × Nat) × (Int32 × Int32 × Int32) × (Nat × Int × Nat × (Nat → Int32))) => (z.1.1 < 2 ^ (32 * 26) ∧ z.1.2.1 < 2 ^ (32 * 26) ∧ z.1.2.2 < 2 ^ (32 * 26)) ∧ fd_res lb (fd_ev S) (if R0 < O0 then R0 * 10 else R0) (if R0 < O0 then U0 * 10 else U0) O0 (if R0 < O0 then P - 1 else P) z.2.2.1 z.2.2.2.1 ∧ isnd z.2.2.1 z.2.2.2.2.1 ∧ dgs z.2.2.2.2.2 z.2.2.1 z.2.2.2.2.1 ∧ z.2.2.1 < 2 ^ 63) (fun (z : (Nat × Nat × Nat) × (Int32 × Int32 × Int32) × (Nat × Int × Nat × (Nat → Int32))) => pw_B (dC, dI) cls [(cJ, .long), (cC, .char)] (va_A [(hf, .inr (1, [.ref q1, .ref q2, .ref q3])), (q1, .inr (2, [.ref w1, .int xu])), (w1, .inl (cJ, 26, .inr (.inl (bn_f X)))), (q2, .inr (2, [.ref w2, .int xa])), (w2, .inl (cJ, 26, .inr (.inl (bn_f U)))), (q3, .inr (2, [.ref w3, .int xo])), (w3, .inl (cJ, 26, .inr (.inl (bn_f O)))), (hd, .inr (0, [.ref wd, .int n0, .long d0, .int t0])), (wd, .inl (cC, 19, .inl (g)))] sz) [(hf, .inr (1, [.ref q1, .ref q2, .ref q3])), (q1, .inr (2, [.ref w1, .int z.2.1.1])), (w1, .inl (cJ, 26, .inr (.inl (bn_f z.1.1)))), (q2, .inr (2, [.ref w2, .int z.2.1.2.1])), (w2, .inl (cJ, 26, .inr (.inl (bn_f z.1.2.1)))), (q3, .inr (2, [.ref w3, .int z.2.1.2.2])), (w3, .inl (cJ, 26, .inr (.inl (bn_f z.1.2.2)))), (hd, .inr (0, [.ref wd, .int (nI z.2.2.2.2.1), .long (lN z.2.2.1), .int (iZ z.2.2.2.1)])), (wd, .inl (cC, 19, .inl (z.2.2.2.2.2)))]) (va_A [(hf, .inr (1, [.ref q1, .ref q2, .ref q3])), (q1, .inr (2, [.ref w1, .int xu])), (w1, .inl (cJ, 26, .inr (.inl (bn_f X)))), (q2, .inr (2, [.ref w2, .int xa])), (w2, .inl (cJ, 26, .inr (.inl (bn_f U)))), (q3, .inr (2, [.ref w3, .int xo])), (w3, .inl (cJ, 26, .inr (.inl (bn_f O)))), (hd, .inr (0, [.ref wd, .int n0, .long d0, .int t0])), (wd, .inl (cC, 19, .inl (g)))] sz)) 0 0 (va_A [(hf, .inr (1, [.ref q1, .ref q2, .ref q3])), (q1, .inr (2, [.ref w1, .int xu])), (w1, .inl (cJ, 26, .inr (.inl (bn_f X)))), (q2, .inr (2, [.ref w2, .int xa])), (w2, .inl (cJ, 26, .inr (.inl (bn_f U)))), (q3, .inr (2, [.ref w3, .int xo])), (w3, .inl (cJ, 26, .inr (.inl (bn_f O)))), (hd, .inr (0, [.ref wd, .int n0, .long d0, .int t0])), (wd, .inl (cC, 19, .inl (g)))] sz) := by
  refine pw_metv (tn := fun (z : (Nat × Nat × Nat) × (Int32 × Int32 × Int32) × (Nat × Int × Nat × (Nat → Int32))) => [(cJ, .long), (cC, .char)]) (wn := fun (z : (Nat × Nat × Nat) × (Int32 × Int32 × Int32) × (Nat × Int × Nat × (Nat → Int32))) => [(hf, .inr (1, [.ref q1, .ref q2, .ref q3])), (q1, .inr (2, [.ref w1, .int z.2.1.1])), (w1, .inl (cJ, 26, .inr (.inl (bn_f z.1.1)))), (q2, .inr (2, [.ref w2, .int z.2.1.2.1])), (w2, .inl (cJ, 26, .inr (.inl (bn_f z.1.2.1)))), (q3, .inr (2, [.ref w3, .int z.2.1.2.2])), (w3, .inl (cJ, 26, .inr (.inl (bn_f z.1.2.2)))), (hd, .inr (0, [.ref wd, .int (nI z.2.2.2.2.1), .long (lN z.2.2.1), .int (iZ z.2.2.2.1)])), (wd, .inl (cC, 19, .inl (z.2.2.2.2.2)))]) (by decide) (Nat.le_of_ble_eq_true rfl) ?_
  intro p e s m args below meth c A Q H ls hx hb hml hown hts hnm hA hE hP hK hD hS hret hl
  have hown : s.vm.findClass R_Fi = some m.cls := hown
  have hl : lv_has ls 13 [(0, .ref hf), (1, .long (lN S)), (3, .int (iZ q)), (4, .int (nI lb)), (5, .ref hd)] := hl
  have hO00 : 0 < O0 := by rw [← hO0]; exact Nat.mul_pos (Nat.mul_pos (by decide) (Nat.pow_pos (by decide))) (Nat.pow_pos (by decide))
  have hS62 : S < 2 ^ 62 := Nat.lt_of_lt_of_le hbl.1 (Nat.pow_le_pow_right (by decide) hb2)
  have hev : fd_ev S ≤ 1 := by unfold fd_ev; split <;> omega
  have k159 : ∀ (R1 U1 : Nat) (P1 : Int) (j bD bU fl x1 x2 x3 : Nat) (H : Heap) (locs : List Loc) (ls : Array Slot), R1 = (if R0 < O0 then R0 * 10 else R0) → U1 = (if R0 < O0 then U0 * 10 else U0) → P1 = (if R0 < O0 then P - 1 else P) → O0 ≤ R1 → R1 < 10 * O0 → U1 * 10 ^ 16 < 2 ^ (32 * 26) → -2002 < P1 → P1 < 2000 → 2 ≤ j → j ≤ 17 → fl = (if bU ≠ 0 ∧ (bD = 0 ∨ fd_nr (fd_r R1 O0 j) O0 (fd_m R1 O0 j) ≠ 0) then 1 else 0) → bD = fd_dn lb (fd_ev S) (fd_r R1 O0 (j)) (U1 * 10 ^ (j - 1)) → bU = fd_up (fd_ev S) (fd_r R1 O0 (j)) (U1 * 10 ^ (j - 1)) O0 → (∀ k, 2 ≤ k → k < j → fd_dn lb (fd_ev S) (fd_r R1 O0 (k)) (U1 * 10 ^ (k - 1)) = 0 ∧ fd_up (fd_ev S) (fd_r R1 O0 (k)) (U1 * 10 ^ (k - 1)) O0 = 0) → (j = 17 ∨ bD ≠ 0 ∨ bU ≠ 0) → va_P (dC, dI) cls [(hf, .inr (1, [.ref q1, .ref q2, .ref q3])), (q1, .inr (2, [.ref w1, .int (nI x1)])), (w1, .inl (cJ, 26, .inr (.inl (bn_f (fd_r R1 O0 j))))), (q2, .inr (2, [.ref w2, .int (nI x2)])), (w2, .inl (cJ, 26, .inr (.inl (bn_f (U1 * 10 ^ (j - 1)))))), (q3, .inr (2, [.ref w3, .int (nI x3)])), (w3, .inl (cJ, 26, .inr (.inl (bn_f O0)))), (hd, .inr (0, [.ref wd, .int n0, .long d0, .int t0])), (wd, .inl (cC, 19, .inl (g)))] H → va_D A [(hf, .inr (1, [.ref q1, .ref q2, .ref q3])), (q1, .inr (2, [.ref w1, .int (nI x1)])), (w1, .inl (cJ, 26, .inr (.inl (bn_f (fd_r R1 O0 j))))), (q2, .inr (2, [.ref w2, .int (nI x2)])), (w2, .inl (cJ, 26, .inr (.inl (bn_f (U1 * 10 ^ (j - 1)))))), (q3, .inr (2, [.ref w3, .int (nI x3)])), (w3, .inl (cJ, 26, .inr (.inl (bn_f O0)))), (hd, .inr (0, [.ref wd, .int n0, .long d0, .int t0])), (wd, .inl (cC, 19, .inl (g)))] → va_S A s.heap H locs → lv_has ls 13 [(12, .int (nI (j + 1))), (10, .long (lN (fd_m R1 O0 j))), (9, .int (nI bU)), (8, .int (nI bD)), (7, .int (nI (fd_ev S))), (6, .int (iZ (P1 - ((j - 1 : Nat) : Int)))), (0, .ref hf), (1, .long (lN S)), (3, .int (iZ q)), (4, .int (nI lb)), (5, .ref hd)] → W p l e { frames := 3, cells := 0, slots := 0, locals := 78 } s m args below meth c H locs 0 0 Q (F0 m 159 ls [.int (nI fl)]) := by
    intro R1 U1 P1 j bD bU fl x1 x2 x3 H locs ls hL1 hL2 hL3 hRlo hRhi hU16 hP1 hP2 hj2 hj17 hfl hbD hbU hprev hend hP hD hS hl
    have hfl1 : fl ≤ 1 := by rw [hfl]; split <;> omega
    have hm1 := fd_m_lt (n := j) hO00 hRhi (by omega)
    have hm2 := fd_m_pos (n := j) hO00 hRlo
    have hm3 : 10 ^ j ≤ 10 ^ 17 := Nat.pow_le_pow_right (by decide) hj17
    have hrl : fd_r R1 O0 j < O0 := Nat.mod_lt _ hO00
    have hue : U1 * 10 ^ (j - 1) ≤ U1 * 10 ^ 16 := Nat.mul_le_mul_left _ (Nat.pow_le_pow_right (by decide) (by omega))
    refine lv_istore (lv' := [(12, .int (nI fl)), (10, .long (lN (fd_m R1 O0 j))), (9, .int (nI bU)), (8, .int (nI bD)), (7, .int (nI (fd_ev S))), (6, .int (iZ (P1 - ((j - 1 : Nat) : Int)))), (0, .ref hf), (1, .long (lN S)), (3, .int (iZ q)), (4, .int (nI lb)), (5, .ref hd)]) hx hb d_Fi_find_159 hl (by decide) rfl (fun ls hl => ?_)
    refine lv_aload hx hb d_Fi_find_161 (lv_at hl 10 rfl) ?_
    refine lv_iload hx hb d_Fi_find_163 (lv_at hl 0 rfl) ?_
    refine lv_if_eq (tgt := 175) hx hb d_Fi_find_165 (by decide) (fun hz => ?_) (fun hz => ?_)
    · have hf0 : fl = 0 := (nI_b0 hfl1).mp hz
      refine lv_lload hx hb d_Fi_find_175 (lv_at hl 1 rfl) ?_
      refine lv_topl (fun x_1 e_2 => ?_)
      obtain rfl : x_1 = lN (fd_m R1 O0 j + fl) := e_2.trans (by rw [hf0, Nat.add_zero])
      have hres : fd_res lb (fd_ev S) R1 U1 O0 P1 = fd_res lb (fd_ev S) (if R0 < O0 then R0 * 10 else R0) (if R0 < O0 then U0 * 10 else U0) O0 (if R0 < O0 then P - 1 else P) := by rw [← hL1, ← hL2, ← hL3]
      refine lv_iload hx hb d_Fi_find_177 (lv_at hl 5 rfl) ?_
      refine pw_callv (wc := [(hd, .inr (0, [.ref wd, .int n0, .long d0, .int t0])), (wd, .inl (cC, 19, .inl (g)))]) (wr := [(hf, .inr (1, [.ref q1, .ref q2, .ref q3])), (q1, .inr (2, [.ref w1, .int (nI x1)])), (w1, .inl (cJ, 26, .inr (.inl (bn_f (fd_r R1 O0 j))))), (q2, .inr (2, [.ref w2, .int (nI x2)])), (w2, .inl (cJ, 26, .inr (.inl (bn_f (U1 * 10 ^ (j - 1)))))), (q3, .inr (2, [.ref w3, .int (nI x3)])), (w3, .inl (cJ, 26, .inr (.inl (bn_f O0))))]) [7, 8] [0, 1, 2, 3, 4, 5, 6] rfl rfl rfl (by decide) (by decide) (by decide) hP hD hS hA (fun hPc hDc hF => va_runV (As := [.long (lN (fd_m R1 O0 j + fl)), .int (iZ (P1 - ((j - 1 : Nat) : Int)))]) (rest := []) ⟨hx, hb, hml, hown, hts⟩ (c_De_become l dC dI H.size hd wd cC g n0 t0 d0 (fd_m R1 O0 j + fl) (P1 - ((j - 1 : Nat) : Int)) (by omega) (by omega) (by omega) (by omega)) (cwV 2 hts (gw_V (gw_self cod_De_become) ml_Fi_58 im_De_become sel_De_become ini_De) rfl rfl rfl (by decide +kernel) ⟨Nat.le_of_ble_eq_true rfl, Nat.le_of_ble_eq_true rfl⟩) (pw_preV pw_0_ok (trivial : pw_0 A s s.heap) hS hF hPc hDc (hK.sub [1] rfl) (va_recv hK hPc (ci := 0) (q0 := 0) rfl rfl)) rfl rfl hl.1 rfl (lv_room (Nat.le_of_ble_eq_true rfl)) d_Fi_find_179 ⟨Nat.le_of_ble_eq_true rfl, Nat.le_of_ble_eq_true rfl⟩) (fun ud H locs hwd hK1 hP hD hS => ?_)
      have hP : va_P (dC, dI) cls [(hf, .inr (1, [.ref q1, .ref q2, .ref q3])), (q1, .inr (2, [.ref w1, .int (nI x1)])), (w1, .inl (cJ, 26, .inr (.inl (bn_f (fd_r R1 O0 j))))), (q2, .inr (2, [.ref w2, .int (nI x2)])), (w2, .inl (cJ, 26, .inr (.inl (bn_f (U1 * 10 ^ (j - 1)))))), (q3, .inr (2, [.ref w3, .int (nI x3)])), (w3, .inl (cJ, 26, .inr (.inl (bn_f O0)))), (hd, .inr (0, [.ref wd, .int (nI ud.2.2.1), .long (lN ud.1), .int (iZ (P1 - ((j - 1 : Nat) : Int) + ud.2.1))])), (wd, .inl (cC, 19, .inl (ud.2.2.2)))] H := hP
      have hD : va_D A [(hf, .inr (1, [.ref q1, .ref q2, .ref q3])), (q1, .inr (2, [.ref w1, .int (nI x1)])), (w1, .inl (cJ, 26, .inr (.inl (bn_f (fd_r R1 O0 j))))), (q2, .inr (2, [.ref w2, .int (nI x2)])), (w2, .inl (cJ, 26, .inr (.inl (bn_f (U1 * 10 ^ (j - 1)))))), (q3, .inr (2, [.ref w3, .int (nI x3)])), (w3, .inl (cJ, 26, .inr (.inl (bn_f O0)))), (hd, .inr (0, [.ref wd, .int (nI ud.2.2.1), .long (lN ud.1), .int (iZ (P1 - ((j - 1 : Nat) : Int) + ud.2.1))])), (wd, .inl (cC, 19, .inl (ud.2.2.2)))] := hD
      obtain ⟨D, k, nn, gg⟩ := ud
      obtain ⟨h1, h2, h3, h4, h5⟩ := hwd
      have hDle : D ≤ fd_m R1 O0 j + fl := by rw [← h1]; exact Nat.le_mul_of_pos_right _ (Nat.pow_pos (by decide))
      exact hret _ _ _ _ ((fd_r R1 O0 j, U1 * 10 ^ (j - 1), O0), (nI x1, nI x2, nI x3), (D, P1 - ((j - 1 : Nat) : Int) + k, nn, gg)) d_Fi_find_182 ⟨⟨by dsimp only; omega, by dsimp only; omega, by dsimp only; omega⟩, hres ▸ ⟨j, k, hj2, hj17, hprev, (by rw [← hbD, ← hbU]; exact hend), (by rw [← hbD, ← hbU, ← hfl]; exact h1), h2, rfl, h5⟩, h3, h4, by dsimp only; omega⟩ hP hK hD hS
    · have hf1 : fl = 1 := by have := mt (nI_b0 hfl1).mpr hz; omega
      refine lv_lload hx hb d_Fi_find_168 (lv_at hl 1 rfl) ?_
      refine lv_lconst (v := 1) hx hb d_Fi_find_170 (by decide) ?_
      refine lv_ladd hx hb d_Fi_find_171 ?_
      refine lv_topl (fun x_3 e_4 => ?_)
      obtain rfl : x_3 = lN (fd_m R1 O0 j + fl) := e_4.trans ((lN_1 _).trans (by rw [hf1]))
      refine lv_goto (tgt := 177) hx hb d_Fi_find_172 (by decide) ?_
      have hres : fd_res lb (fd_ev S) R1 U1 O0 P1 = fd_res lb (fd_ev S) (if R0 < O0 then R0 * 10 else R0) (if R0 < O0 then U0 * 10 else U0) O0 (if R0 < O0 then P - 1 else P) := by rw [← hL1, ← hL2, ← hL3]
      refine lv_iload hx hb d_Fi_find_177 (lv_at hl 5 rfl) ?_
      refine pw_callv (wc := [(hd, .inr (0, [.ref wd, .int n0, .long d0, .int t0])), (wd, .inl (cC, 19, .inl (g)))]) (wr := [(hf, .inr (1, [.ref q1, .ref q2, .ref q3])), (q1, .inr (2, [.ref w1, .int (nI x1)])), (w1, .inl (cJ, 26, .inr (.inl (bn_f (fd_r R1 O0 j))))), (q2, .inr (2, [.ref w2, .int (nI x2)])), (w2, .inl (cJ, 26, .inr (.inl (bn_f (U1 * 10 ^ (j - 1)))))), (q3, .inr (2, [.ref w3, .int (nI x3)])), (w3, .inl (cJ, 26, .inr (.inl (bn_f O0))))]) [7, 8] [0, 1, 2, 3, 4, 5, 6] rfl rfl rfl (by decide) (by decide) (by decide) hP hD hS hA (fun hPc hDc hF => va_runV (As := [.long (lN (fd_m R1 O0 j + fl)), .int (iZ (P1 - ((j - 1 : Nat) : Int)))]) (rest := []) ⟨hx, hb, hml, hown, hts⟩ (c_De_become l dC dI H.size hd wd cC g n0 t0 d0 (fd_m R1 O0 j + fl) (P1 - ((j - 1 : Nat) : Int)) (by omega) (by omega) (by omega) (by omega)) (cwV 2 hts (gw_V (gw_self cod_De_become) ml_Fi_58 im_De_become sel_De_become ini_De) rfl rfl rfl (by decide +kernel) ⟨Nat.le_of_ble_eq_true rfl, Nat.le_of_ble_eq_true rfl⟩) (pw_preV pw_0_ok (trivial : pw_0 A s s.heap) hS hF hPc hDc (hK.sub [1] rfl) (va_recv hK hPc (ci := 0) (q0 := 0) rfl rfl)) rfl rfl hl.1 rfl (lv_room (Nat.le_of_ble_eq_true rfl)) d_Fi_find_179 ⟨Nat.le_of_ble_eq_true rfl, Nat.le_of_ble_eq_true rfl⟩) (fun ud H locs hwd hK1 hP hD hS => ?_)
      have hP : va_P (dC, dI) cls [(hf, .inr (1, [.ref q1, .ref q2, .ref q3])), (q1, .inr (2, [.ref w1, .int (nI x1)])), (w1, .inl (cJ, 26, .inr (.inl (bn_f (fd_r R1 O0 j))))), (q2, .inr (2, [.ref w2, .int (nI x2)])), (w2, .inl (cJ, 26, .inr (.inl (bn_f (U1 * 10 ^ (j - 1)))))), (q3, .inr (2, [.ref w3, .int (nI x3)])), (w3, .inl (cJ, 26, .inr (.inl (bn_f O0)))), (hd, .inr (0, [.ref wd, .int (nI ud.2.2.1), .long (lN ud.1), .int (iZ (P1 - ((j - 1 : Nat) : Int) + ud.2.1))])), (wd, .inl (cC, 19, .inl (ud.2.2.2)))] H := hP
      have hD : va_D A [(hf, .inr (1, [.ref q1, .ref q2, .ref q3])), (q1, .inr (2, [.ref w1, .int (nI x1)])), (w1, .inl (cJ, 26, .inr (.inl (bn_f (fd_r R1 O0 j))))), (q2, .inr (2, [.ref w2, .int (nI x2)])), (w2, .inl (cJ, 26, .inr (.inl (bn_f (U1 * 10 ^ (j - 1)))))), (q3, .inr (2, [.ref w3, .int (nI x3)])), (w3, .inl (cJ, 26, .inr (.inl (bn_f O0)))), (hd, .inr (0, [.ref wd, .int (nI ud.2.2.1), .long (lN ud.1), .int (iZ (P1 - ((j - 1 : Nat) : Int) + ud.2.1))])), (wd, .inl (cC, 19, .inl (ud.2.2.2)))] := hD
      obtain ⟨D, k, nn, gg⟩ := ud
      obtain ⟨h1, h2, h3, h4, h5⟩ := hwd
      have hDle : D ≤ fd_m R1 O0 j + fl := by rw [← h1]; exact Nat.le_mul_of_pos_right _ (Nat.pow_pos (by decide))
      exact hret _ _ _ _ ((fd_r R1 O0 j, U1 * 10 ^ (j - 1), O0), (nI x1, nI x2, nI x3), (D, P1 - ((j - 1 : Nat) : Int) + k, nn, gg)) d_Fi_find_182 ⟨⟨by dsimp only; omega, by dsimp only; omega, by dsimp only; omega⟩, hres ▸ ⟨j, k, hj2, hj17, hprev, (by rw [← hbD, ← hbU]; exact hend), (by rw [← hbD, ← hbU, ← hfl]; exact h1), h2, rfl, h5⟩, h3, h4, by dsimp only; omega⟩ hP hK hD hS
  have k135 : ∀ (R1 U1 : Nat) (P1 : Int) (j bD bU x1 x2 x3 : Nat) (H : Heap) (locs : List Loc) (ls : Array Slot), R1 = (if R0 < O0 then R0 * 10 else R0) → U1 = (if R0 < O0 then U0 * 10 else U0) → P1 = (if R0 < O0 then P - 1 else P) → O0 ≤ R1 → R1 < 10 * O0 → U1 * 10 ^ 16 < 2 ^ (32 * 26) → -2002 < P1 → P1 < 2000 → 2 ≤ j → j ≤ 17 → fd_r R1 O0 j < 2 ^ (32 * x1) → x1 ≤ 26 → U1 * 10 ^ (j - 1) < 2 ^ (32 * x2) → x2 ≤ 26 → O0 < 2 ^ (32 * x3) → x3 ≤ 26 → bD = fd_dn lb (fd_ev S) (fd_r R1 O0 (j)) (U1 * 10 ^ (j - 1)) → bU = fd_up (fd_ev S) (fd_r R1 O0 (j)) (U1 * 10 ^ (j - 1)) O0 → (∀ k, 2 ≤ k → k < j → fd_dn lb (fd_ev S) (fd_r R1 O0 (k)) (U1 * 10 ^ (k - 1)) = 0 ∧ fd_up (fd_ev S) (fd_r R1 O0 (k)) (U1 * 10 ^ (k - 1)) O0 = 0) → (j = 17 ∨ bD ≠ 0 ∨ bU ≠ 0) → va_P (dC, dI) cls [(hf, .inr (1, [.ref q1, .ref q2, .ref q3])), (q1, .inr (2, [.ref w1, .int (nI x1)])), (w1, .inl (cJ, 26, .inr (.inl (bn_f (fd_r R1 O0 j))))), (q2, .inr (2, [.ref w2, .int (nI x2)])), (w2, .inl (cJ, 26, .inr (.inl (bn_f (U1 * 10 ^ (j - 1)))))), (q3, .inr (2, [.ref w3, .int (nI x3)])), (w3, .inl (cJ, 26, .inr (.inl (bn_f O0)))), (hd, .inr (0, [.ref wd, .int n0, .long d0, .int t0])), (wd, .inl (cC, 19, .inl (g)))] H → va_D A [(hf, .inr (1, [.ref q1, .ref q2, .ref q3])), (q1, .inr (2, [.ref w1, .int (nI x1)])), (w1, .inl (cJ, 26, .inr (.inl (bn_f (fd_r R1 O0 j))))), (q2, .inr (2, [.ref w2, .int (nI x2)])), (w2, .inl (cJ, 26, .inr (.inl (bn_f (U1 * 10 ^ (j - 1)))))), (q3, .inr (2, [.ref w3, .int (nI x3)])), (w3, .inl (cJ, 26, .inr (.inl (bn_f O0)))), (hd, .inr (0, [.ref wd, .int n0, .long d0, .int t0])), (wd, .inl (cC, 19, .inl (g)))] → va_S A s.heap H locs → lv_has ls 13 [(12, .int (nI (j + 1))), (10, .long (lN (fd_m R1 O0 j))), (9, .int (nI bU)), (8, .int (nI bD)), (7, .int (nI (fd_ev S))), (6, .int (iZ (P1 - ((j - 1 : Nat) : Int)))), (0, .ref hf), (1, .long (lN S)), (3, .int (iZ q)), (4, .int (nI lb)), (5, .ref hd)] → W p l e { frames := 3, cells := 0, slots := 0, locals := 78 } s m args below meth c H locs 0 0 Q (F0 m 135 ls []) := by
    intro R1 U1 P1 j bD bU x1 x2 x3 H locs ls hL1 hL2 hL3 hRlo hRhi hU16 hP1 hP2 hj2 hj17 hx1 hx1b hx2 hx2b hx3 hx3b hbD hbU hprev hend hP hD hS hl
    have hbD1 : bD ≤ 1 := by rw [hbD]; exact fd_dn_le _ _ _ _
    have hbU1 : bU ≤ 1 := by rw [hbU]; exact fd_up_le _ _ _ _
    have hm1 := fd_m_lt (n := j) hO00 hRhi (by omega)
    have hm3 : 10 ^ j ≤ 10 ^ 17 := Nat.pow_le_pow_right (by decide) hj17
    refine lv_iload hx hb d_Fi_find_135 (lv_at hl 2 rfl) ?_
    refine lv_if_eq (tgt := 158) hx hb d_Fi_find_137 (by decide) (fun hz => ?_) (fun hz => ?_)
    · have h0 : bU = 0 := (nI_b0 hbU1).mp hz
      refine lv_iconst (v := 0) hx hb d_Fi_find_158 (by decide) ?_
      exact k159 R1 U1 P1 j bD bU 0 x1 x2 x3 H _ ls hL1 hL2 hL3 hRlo hRhi hU16 hP1 hP2 hj2 hj17 (by rw [if_neg (fun g9 => g9.1 h0)]) hbD hbU hprev hend hP hD hS hl
    · have h0 : bU ≠ 0 := fun g9 => hz ((nI_b0 hbU1).mpr g9)
      refine lv_iload hx hb d_Fi_find_140 (lv_at hl 3 rfl) ?_
      refine lv_if_eq (tgt := 154) hx hb d_Fi_find_142 (by decide) (fun hz2 => ?_) (fun hz2 => ?_)
      · have h2 : bD = 0 := (nI_b0 hbD1).mp hz2
        refine lv_iconst (v := 1) hx hb d_Fi_find_154 (by decide) ?_
        refine lv_goto (tgt := 159) hx hb d_Fi_find_155 (by decide) ?_
        exact k159 R1 U1 P1 j bD bU 1 x1 x2 x3 H _ ls hL1 hL2 hL3 hRlo hRhi hU16 hP1 hP2 hj2 hj17 (by rw [if_pos ⟨h0, Or.inl h2⟩]) hbD hbU hprev hend hP hD hS hl
      · have h2 : bD ≠ 0 := fun g9 => hz2 ((nI_b0 hbD1).mpr g9)
        refine lv_aload_n hx hb d_Fi_find_145 rfl (lv_at hl 6 rfl) ?_
        refine lv_lload hx hb d_Fi_find_146 (lv_at hl 1 rfl) ?_
        refine pw_calli (wc := [(hf, .inr (1, [.ref q1, .ref q2, .ref q3])), (q1, .inr (2, [.ref w1, .int (nI x1)])), (w1, .inl (cJ, 26, .inr (.inl (bn_f (fd_r R1 O0 j))))), (q2, .inr (2, [.ref w2, .int (nI x2)])), (w2, .inl (cJ, 26, .inr (.inl (bn_f (U1 * 10 ^ (j - 1)))))), (q3, .inr (2, [.ref w3, .int (nI x3)])), (w3, .inl (cJ, 26, .inr (.inl (bn_f O0))))]) (wr := [(hd, .inr (0, [.ref wd, .int n0, .long d0, .int t0])), (wd, .inl (cC, 19, .inl (g)))]) [0, 1, 2, 3, 4, 5, 6] [7, 8] rfl rfl rfl (by decide) (by decide) (by decide) hP hD hS hA (fun hPc hDc hF => va_runV (As := [.long (lN (fd_m R1 O0 j))]) (rest := []) ⟨hx, hb, hml, hown, hts⟩ (c_Fi_isUpNearer l dC dI H.size hf q1 w1 q2 w2 q3 w3 cJ (fd_r R1 O0 j) x1 (U1 * 10 ^ (j - 1)) x2 O0 x3 (fd_m R1 O0 j) hx1 hx1b hx2 hx2b hx3 hx3b (by omega)) (cwV 1 hts (gw_V (gw_self cod_Fi_isUpNearer) ml_Fi_54 im_Fi_isUpNearer sel_Fi_isUpNearer ini_Fi) rfl rfl rfl (by decide +kernel) ⟨Nat.le_of_ble_eq_true rfl, Nat.le_of_ble_eq_true rfl⟩) (pw_preV pw_0_ok (trivial : pw_0 A s s.heap) hS hF hPc hDc (hK.sub [0] rfl) (va_recv hK hPc (ci := 1) (q0 := 0) rfl rfl)) rfl rfl hl.1 rfl (lv_room (Nat.le_of_ble_eq_true rfl)) d_Fi_find_148 ⟨Nat.le_of_ble_eq_true rfl, Nat.le_of_ble_eq_true rfl⟩) (fun r5 u5 H locs hw5 hK1 hP hD hS => ?_)
        have hP : va_P (dC, dI) cls [(hf, .inr (1, [.ref q1, .ref q2, .ref q3])), (q1, .inr (2, [.ref w1, .int (nI x1)])), (w1, .inl (cJ, 26, .inr (.inl (bn_f (fd_r R1 O0 j))))), (q2, .inr (2, [.ref w2, .int (nI x2)])), (w2, .inl (cJ, 26, .inr (.inl (bn_f (U1 * 10 ^ (j - 1)))))), (q3, .inr (2, [.ref w3, .int (nI x3)])), (w3, .inl (cJ, 26, .inr (.inl (bn_f O0)))), (hd, .inr (0, [.ref wd, .int n0, .long d0, .int t0])), (wd, .inl (cC, 19, .inl (g)))] H := hP.sub [2, 3, 4, 5, 6, 7, 8, 0, 1] rfl
        have hD : va_D A [(hf, .inr (1, [.ref q1, .ref q2, .ref q3])), (q1, .inr (2, [.ref w1, .int (nI x1)])), (w1, .inl (cJ, 26, .inr (.inl (bn_f (fd_r R1 O0 j))))), (q2, .inr (2, [.ref w2, .int (nI x2)])), (w2, .inl (cJ, 26, .inr (.inl (bn_f (U1 * 10 ^ (j - 1)))))), (q3, .inr (2, [.ref w3, .int (nI x3)])), (w3, .inl (cJ, 26, .inr (.inl (bn_f O0)))), (hd, .inr (0, [.ref wd, .int n0, .long d0, .int t0])), (wd, .inl (cC, 19, .inl (g)))] := hD.sub [2, 3, 4, 5, 6, 7, 8, 0, 1] (by decide) rfl
        subst hw5
        refine lv_if_eq (tgt := 158) hx hb d_Fi_find_151 (by decide) (fun hz3 => ?_) (fun hz3 => ?_)
        · have h3 : fd_nr (fd_r R1 O0 j) O0 (fd_m R1 O0 j) = 0 := (nI_b0 (fd_nr_le _ _ _)).mp hz3
          refine lv_iconst (v := 0) hx hb d_Fi_find_158 (by decide) ?_
          exact k159 R1 U1 P1 j bD bU 0 x1 x2 x3 H _ ls hL1 hL2 hL3 hRlo hRhi hU16 hP1 hP2 hj2 hj17 (by rw [if_neg (fun g9 => g9.2.elim h2 (fun g8 => g8 h3))]) hbD hbU hprev hend hP hD hS hl
        · have h3 : fd_nr (fd_r R1 O0 j) O0 (fd_m R1 O0 j) ≠ 0 := fun g9 => hz3 ((nI_b0 (fd_nr_le _ _ _)).mpr g9)
          refine lv_iconst (v := 1) hx hb d_Fi_find_154 (by decide) ?_
          refine lv_goto (tgt := 159) hx hb d_Fi_find_155 (by decide) ?_
          exact k159 R1 U1 P1 j bD bU 1 x1 x2 x3 H _ ls hL1 hL2 hL3 hRlo hRhi hU16 hP1 hP2 hj2 hj17 (by rw [if_pos ⟨h0, Or.inr h3⟩]) hbD hbU hprev hend hP hD hS hl
  have k49 : ∀ (R1 U1 : Nat) (P1 : Int) (x1 x2 x3 : Nat) (H : Heap) (locs : List Loc) (ls : Array Slot), R1 = (if R0 < O0 then R0 * 10 else R0) → U1 = (if R0 < O0 then U0 * 10 else U0) → P1 = (if R0 < O0 then P - 1 else P) → O0 ≤ R1 → R1 < 10 * O0 → U1 * 10 ^ 16 < 2 ^ (32 * 26) → -2002 < P1 → P1 < 2000 → R1 < 2 ^ (32 * x1) → x1 ≤ 26 → U1 < 2 ^ (32 * x2) → x2 ≤ 26 → O0 < 2 ^ (32 * x3) → x3 ≤ 26 → va_P (dC, dI) cls [(hf, .inr (1, [.ref q1, .ref q2, .ref q3])), (q1, .inr (2, [.ref w1, .int (nI x1)])), (w1, .inl (cJ, 26, .inr (.inl (bn_f R1)))), (q2, .inr (2, [.ref w2, .int (nI x2)])), (w2, .inl (cJ, 26, .inr (.inl (bn_f U1)))), (q3, .inr (2, [.ref w3, .int (nI x3)])), (w3, .inl (cJ, 26, .inr (.inl (bn_f O0)))), (hd, .inr (0, [.ref wd, .int n0, .long d0, .int t0])), (wd, .inl (cC, 19, .inl (g)))] H → va_D A [(hf, .inr (1, [.ref q1, .ref q2, .ref q3])), (q1, .inr (2, [.ref w1, .int (nI x1)])), (w1, .inl (cJ, 26, .inr (.inl (bn_f R1)))), (q2, .inr (2, [.ref w2, .int (nI x2)])), (w2, .inl (cJ, 26, .inr (.inl (bn_f U1)))), (q3, .inr (2, [.ref w3, .int (nI x3)])), (w3, .inl (cJ, 26, .inr (.inl (bn_f O0)))), (hd, .inr (0, [.ref wd, .int n0, .long d0, .int t0])), (wd, .inl (cC, 19, .inl (g)))] → va_S A s.heap H locs → lv_has ls 13 [(6, .int (iZ P1)), (0, .ref hf), (1, .long (lN S)), (3, .int (iZ q)), (4, .int (nI lb)), (5, .ref hd)] → W p l e { frames := 3, cells := 0, slots := 0, locals := 78 } s m args below meth c H locs 0 0 Q (F0 m 49 ls [.int (nI (fd_ev S))]) := by
    intro R1 U1 P1 x1 x2 x3 H locs ls hL1 hL2 hL3 hRlo hRhi hU16 hP1 hP2 hx1 hx1b hx2 hx2b hx3 hx3b hP hD hS hl
    have lp : ∀ (n j bD bU x1 x2 : Nat) (H : Heap) (locs : List Loc) (ls : Array Slot), (18 ≤ j + n) → (1 ≤ j) → (j ≤ 17) → (fd_r R1 O0 j < 2 ^ (32 * x1)) → (x1 ≤ 26) → (U1 * 10 ^ (j - 1) < 2 ^ (32 * x2)) → (x2 ≤ 26) → ((j = 1 ∧ bD = 0 ∧ bU = 0) ∨ (2 ≤ j ∧ bD = fd_dn lb (fd_ev S) (fd_r R1 O0 (j)) (U1 * 10 ^ (j - 1)) ∧ bU = fd_up (fd_ev S) (fd_r R1 O0 (j)) (U1 * 10 ^ (j - 1)) O0)) → (∀ k, 2 ≤ k → k < j → fd_dn lb (fd_ev S) (fd_r R1 O0 (k)) (U1 * 10 ^ (k - 1)) = 0 ∧ fd_up (fd_ev S) (fd_r R1 O0 (k)) (U1 * 10 ^ (k - 1)) O0 = 0) → va_P (dC, dI) cls [(hf, .inr (1, [.ref q1, .ref q2, .ref q3])), (q1, .inr (2, [.ref w1, .int (nI x1)])), (w1, .inl (cJ, 26, .inr (.inl (bn_f (fd_r R1 O0 j))))), (q2, .inr (2, [.ref w2, .int (nI x2)])), (w2, .inl (cJ, 26, .inr (.inl (bn_f (U1 * 10 ^ (j - 1)))))), (q3, .inr (2, [.ref w3, .int (nI x3)])), (w3, .inl (cJ, 26, .inr (.inl (bn_f O0)))), (hd, .inr (0, [.ref wd, .int n0, .long d0, .int t0])), (wd, .inl (cC, 19, .inl (g)))] H → va_D A [(hf, .inr (1, [.ref q1, .ref q2, .ref q3])), (q1, .inr (2, [.ref w1, .int (nI x1)])), (w1, .inl (cJ, 26, .inr (.inl (bn_f (fd_r R1 O0 j))))), (q2, .inr (2, [.ref w2, .int (nI x2)])), (w2, .inl (cJ, 26, .inr (.inl (bn_f (U1 * 10 ^ (j - 1)))))), (q3, .inr (2, [.ref w3, .int (nI x3)])), (w3, .inl (cJ, 26, .inr (.inl (bn_f O0)))), (hd, .inr (0, [.ref wd, .int n0, .long d0, .int t0])), (wd, .inl (cC, 19, .inl (g)))] → va_S A s.heap H locs → lv_has ls 13 [(12, .int (nI (j + 1))), (10, .long (lN (fd_m R1 O0 j))), (9, .int (nI bU)), (8, .int (nI bD)), (7, .int (nI (fd_ev S))), (6, .int (iZ (P1 - ((j - 1 : Nat) : Int)))), (0, .ref hf), (1, .long (lN S)), (3, .int (iZ q)), (4, .int (nI lb)), (5, .ref hd)] → W p l e { frames := 3, cells := 0, slots := 0, locals := 78 } s m args below meth c H locs 0 0 Q (F0 m 67 ls []) := by
      intro n
      induction n with
      | zero => intro j bD bU x1 x2 H locs ls hn hj1 hj17 hx1 hx1b hx2 hx2b hfl hprev hP hD hS hl; exact absurd hn (by omega)
      | succ n ih =>
        intro j bD bU x1 x2 H locs ls hn hj1 hj17 hx1 hx1b hx2 hx2b hfl hprev hP hD hS hl
        have hb1 : bD ≤ 1 ∧ bU ≤ 1 := by
          rcases hfl with g9 | g9
          · omega
          · rw [g9.2.1, g9.2.2]; exact ⟨fd_dn_le _ _ _ _, fd_up_le _ _ _ _⟩
        refine lv_iload hx hb d_Fi_find_67 (lv_at hl 0 rfl) ?_
        refine lv_bipush (v := 17) hx hb d_Fi_find_69 (by decide) ?_
        refine lv_icmp_gt (tgt := 135) hx hb d_Fi_find_71 (by decide) (fun hc => ?_) (fun hc => ?_)
        · have h17 : 17 < j + 1 := (nI_ltI (a := 17) (b := j + 1) (by omega) (by omega)).mp hc
          have hj2 : 2 ≤ j ∧ bD = fd_dn lb (fd_ev S) (fd_r R1 O0 (j)) (U1 * 10 ^ (j - 1)) ∧ bU = fd_up (fd_ev S) (fd_r R1 O0 (j)) (U1 * 10 ^ (j - 1)) O0 := by
            rcases hfl with g9 | g9
            · exfalso; omega
            · exact g9
          exact k135 R1 U1 P1 j bD bU x1 x2 x3 H locs ls hL1 hL2 hL3 hRlo hRhi hU16 hP1 hP2 hj2.1 hj17 hx1 hx1b hx2 hx2b hx3 hx3b hj2.2.1 hj2.2.2 hprev (Or.inl (by omega)) hP hD hS hl
        · have h17 : j + 1 ≤ 17 := by have := mt (nI_ltI (a := 17) (b := j + 1) (by omega) (by omega)).mpr hc; omega
          refine lv_iload hx hb d_Fi_find_74 (lv_at hl 3 rfl) ?_
          refine lv_if_ne (tgt := 135) hx hb d_Fi_find_76 (by decide) (fun hc2 => ?_) (fun hc2 => ?_)
          · have h2 : bD ≠ 0 := fun g9 => hc2 ((nI_b0 hb1.1).mpr g9)
            have hj2 : 2 ≤ j ∧ bD = fd_dn lb (fd_ev S) (fd_r R1 O0 (j)) (U1 * 10 ^ (j - 1)) ∧ bU = fd_up (fd_ev S) (fd_r R1 O0 (j)) (U1 * 10 ^ (j - 1)) O0 := by
              rcases hfl with g9 | g9
              · exfalso; omega
              · exact g9
            exact k135 R1 U1 P1 j bD bU x1 x2 x3 H locs ls hL1 hL2 hL3 hRlo hRhi hU16 hP1 hP2 hj2.1 hj17 hx1 hx1b hx2 hx2b hx3 hx3b hj2.2.1 hj2.2.2 hprev (Or.inr (Or.inl h2)) hP hD hS hl
          · have h2 : bD = 0 := (nI_b0 hb1.1).mp hc2
            refine lv_iload hx hb d_Fi_find_79 (lv_at hl 2 rfl) ?_
            refine lv_if_ne (tgt := 135) hx hb d_Fi_find_81 (by decide) (fun hc3 => ?_) (fun hc3 => ?_)
            · have h3 : bU ≠ 0 := fun g9 => hc3 ((nI_b0 hb1.2).mpr g9)
              have hj2 : 2 ≤ j ∧ bD = fd_dn lb (fd_ev S) (fd_r R1 O0 (j)) (U1 * 10 ^ (j - 1)) ∧ bU = fd_up (fd_ev S) (fd_r R1 O0 (j)) (U1 * 10 ^ (j - 1)) O0 := by
                rcases hfl with g9 | g9
                · exfalso; omega
                · exact g9
              exact k135 R1 U1 P1 j bD bU x1 x2 x3 H locs ls hL1 hL2 hL3 hRlo hRhi hU16 hP1 hP2 hj2.1 hj17 hx1 hx1b hx2 hx2b hx3 hx3b hj2.2.1 hj2.2.2 hprev (Or.inr (Or.inr h3)) hP hD hS hl
            · have h3 : bU = 0 := (nI_b0 hb1.2).mp hc3
              have hrl : fd_r R1 O0 j < O0 := Nat.mod_lt _ hO00
              have hue : U1 * 10 ^ (j - 1) * 10 ≤ U1 * 10 ^ 16 := by rw [Nat.mul_assoc, ← Nat.pow_succ]; exact Nat.mul_le_mul_left _ (Nat.pow_le_pow_right (by decide) (by omega))
              have hUn : U1 * 10 ^ (j - 1) * 10 = U1 * 10 ^ (j + 1 - 1) := by rw [Nat.mul_assoc, ← Nat.pow_succ]; congr 2; omega
              have hst := fd_step (R := R1) hO00 (show 0 < j from hj1)
              refine lv_aload_n hx hb d_Fi_find_84 rfl (lv_at hl 6 rfl) ?_
              refine pw_callv (wc := [(hf, .inr (1, [.ref q1, .ref q2, .ref q3])), (q1, .inr (2, [.ref w1, .int (nI x1)])), (w1, .inl (cJ, 26, .inr (.inl (bn_f (fd_r R1 O0 j))))), (q2, .inr (2, [.ref w2, .int (nI x2)])), (w2, .inl (cJ, 26, .inr (.inl (bn_f (U1 * 10 ^ (j - 1)))))), (q3, .inr (2, [.ref w3, .int (nI x3)])), (w3, .inl (cJ, 26, .inr (.inl (bn_f O0))))]) (wr := [(hd, .inr (0, [.ref wd, .int n0, .long d0, .int t0])), (wd, .inl (cC, 19, .inl (g)))]) [0, 1, 2, 3, 4, 5, 6] [7, 8] rfl rfl rfl (by decide) (by decide) (by decide) hP hD hS hA (fun hPc hDc hF => va_runV (As := []) (rest := []) ⟨hx, hb, hml, hown, hts⟩ (c_Fi_tenfold l dC dI H.size hf q1 w1 q2 w2 q3 w3 cJ (fd_r R1 O0 j) x1 (U1 * 10 ^ (j - 1)) x2 O0 (nI x3) hx1 hx1b hx2 hx2b (by omega) (by omega)) (cwV 0 hts (gw_V (gw_self cod_Fi_tenfold) ml_Fi_34 im_Fi_tenfold sel_Fi_tenfold ini_Fi) rfl rfl rfl (by decide +kernel) ⟨Nat.le_of_ble_eq_true rfl, Nat.le_of_ble_eq_true rfl⟩) (pw_preV pw_0_ok (trivial : pw_0 A s s.heap) hS hF hPc hDc (hK.sub [0] rfl) (va_recv hK hPc (ci := 1) (q0 := 0) rfl rfl)) rfl rfl hl.1 rfl (lv_room (Nat.le_of_ble_eq_true rfl)) d_Fi_find_85 ⟨Nat.le_of_ble_eq_true rfl, Nat.le_of_ble_eq_true rfl⟩) (fun ut H locs hwt hK1 hP hD hS => ?_)
              have hP : va_P (dC, dI) cls [(hf, .inr (1, [.ref q1, .ref q2, .ref q3])), (q1, .inr (2, [.ref w1, .int (nI ut.1)])), (w1, .inl (cJ, 26, .inr (.inl (bn_f (fd_r R1 O0 j * 10))))), (q2, .inr (2, [.ref w2, .int (nI ut.2)])), (w2, .inl (cJ, 26, .inr (.inl (bn_f (U1 * 10 ^ (j - 1) * 10))))), (q3, .inr (2, [.ref w3, .int (nI x3)])), (w3, .inl (cJ, 26, .inr (.inl (bn_f O0)))), (hd, .inr (0, [.ref wd, .int n0, .long d0, .int t0])), (wd, .inl (cC, 19, .inl (g)))] H := hP.sub [2, 3, 4, 5, 6, 7, 8, 0, 1] rfl
              have hD : va_D A [(hf, .inr (1, [.ref q1, .ref q2, .ref q3])), (q1, .inr (2, [.ref w1, .int (nI ut.1)])), (w1, .inl (cJ, 26, .inr (.inl (bn_f (fd_r R1 O0 j * 10))))), (q2, .inr (2, [.ref w2, .int (nI ut.2)])), (w2, .inl (cJ, 26, .inr (.inl (bn_f (U1 * 10 ^ (j - 1) * 10))))), (q3, .inr (2, [.ref w3, .int (nI x3)])), (w3, .inl (cJ, 26, .inr (.inl (bn_f O0)))), (hd, .inr (0, [.ref wd, .int n0, .long d0, .int t0])), (wd, .inl (cC, 19, .inl (g)))] := hD.sub [2, 3, 4, 5, 6, 7, 8, 0, 1] (by decide) rfl
              obtain ⟨y1, y2⟩ := ut
              rw [hUn] at hwt hP hD
              obtain ⟨⟨hy1b, hy1⟩, hy2b, hy2⟩ := hwt
              have hP : va_P (dC, dI) cls [(hf, .inr (1, [.ref q1, .ref q2, .ref q3])), (q1, .inr (2, [.ref w1, .int (nI y1)])), (w1, .inl (cJ, 26, .inr (.inl (bn_f (fd_r R1 O0 j * 10))))), (q2, .inr (2, [.ref w2, .int (nI y2)])), (w2, .inl (cJ, 26, .inr (.inl (bn_f (U1 * 10 ^ (j + 1 - 1)))))), (q3, .inr (2, [.ref w3, .int (nI x3)])), (w3, .inl (cJ, 26, .inr (.inl (bn_f O0)))), (hd, .inr (0, [.ref wd, .int n0, .long d0, .int t0])), (wd, .inl (cC, 19, .inl (g)))] H := hP
              have hD : va_D A [(hf, .inr (1, [.ref q1, .ref q2, .ref q3])), (q1, .inr (2, [.ref w1, .int (nI y1)])), (w1, .inl (cJ, 26, .inr (.inl (bn_f (fd_r R1 O0 j * 10))))), (q2, .inr (2, [.ref w2, .int (nI y2)])), (w2, .inl (cJ, 26, .inr (.inl (bn_f (U1 * 10 ^ (j + 1 - 1)))))), (q3, .inr (2, [.ref w3, .int (nI x3)])), (w3, .inl (cJ, 26, .inr (.inl (bn_f O0)))), (hd, .inr (0, [.ref wd, .int n0, .long d0, .int t0])), (wd, .inl (cC, 19, .inl (g)))] := hD
              refine lv_iinc (v := iZ (P1 - ((j + 1 - 1 : Nat) : Int))) (lv' := [(6, .int (iZ (P1 - ((j + 1 - 1 : Nat) : Int)))), (12, .int (nI (j + 1))), (10, .long (lN (fd_m R1 O0 j))), (9, .int (nI bU)), (8, .int (nI bD)), (7, .int (nI (fd_ev S))), (0, .ref hf), (1, .long (lN S)), (3, .int (iZ q)), (4, .int (nI lb)), (5, .ref hd)]) hx hb d_Fi_find_88 hl (k := 5) rfl ((iZ_add _ (-1)).trans (by congr 1; omega)) (by decide) rfl (fun ls hl => ?_)
              refine lv_lload hx hb d_Fi_find_91 (lv_at hl 2 rfl) ?_
              refine lv_ldc2 (v := 10) hx hb hown (hts _ kl_Fi_41) d_Fi_find_93 ?_
              refine lv_lmul hx hb d_Fi_find_96 ?_
              refine lv_topl (fun x_5 e_6 => ?_)
              obtain rfl : x_5 = lN (fd_m R1 O0 j * 10) := e_6.trans (lN_mul _ 10)
              refine lv_aload_n hx hb d_Fi_find_97 rfl (lv_at hl 6 rfl) ?_
              refine pw_calli (wc := [(hf, .inr (1, [.ref q1, .ref q2, .ref q3])), (q1, .inr (2, [.ref w1, .int (nI y1)])), (w1, .inl (cJ, 26, .inr (.inl (bn_f (fd_r R1 O0 j * 10))))), (q2, .inr (2, [.ref w2, .int (nI y2)])), (w2, .inl (cJ, 26, .inr (.inl (bn_f (U1 * 10 ^ (j + 1 - 1)))))), (q3, .inr (2, [.ref w3, .int (nI x3)])), (w3, .inl (cJ, 26, .inr (.inl (bn_f O0))))]) (wr := [(hd, .inr (0, [.ref wd, .int n0, .long d0, .int t0])), (wd, .inl (cC, 19, .inl (g)))]) [0, 1, 2, 3, 4, 5, 6] [7, 8] rfl rfl rfl (by decide) (by decide) (by decide) hP hD hS hA (fun hPc hDc hF => va_runV (As := []) (rest := [.long (lN (fd_m R1 O0 j * 10))]) ⟨hx, hb, hml, hown, hts⟩ (c_Fi_takeDigit l dC dI H.size hf q1 w1 q2 w2 q3 w3 cJ (fd_r R1 O0 j * 10) y1 (U1 * 10 ^ (j + 1 - 1)) (nI y2) O0 x3 hy1 hy1b hx3 hx3b (by omega)) (cwV 0 hts (gw_V (gw_self cod_Fi_takeDigit) ml_Fi_37 im_Fi_takeDigit sel_Fi_takeDigit ini_Fi) rfl rfl rfl (by decide +kernel) ⟨Nat.le_of_ble_eq_true rfl, Nat.le_of_ble_eq_true rfl⟩) (pw_preV pw_0_ok (trivial : pw_0 A s s.heap) hS hF hPc hDc (hK.sub [0] rfl) (va_recv hK hPc (ci := 1) (q0 := 0) rfl rfl)) rfl rfl hl.1 rfl (lv_room (Nat.le_of_ble_eq_true rfl)) d_Fi_find_98 ⟨Nat.le_of_ble_eq_true rfl, Nat.le_of_ble_eq_true rfl⟩) (fun r6 u6 H locs hw6 hK1 hP hD hS => ?_)
              have hP : va_P (dC, dI) cls [(hf, .inr (1, [.ref q1, .ref q2, .ref q3])), (q1, .inr (2, [.ref w1, .int (nI y1)])), (w1, .inl (cJ, 26, .inr (.inl (bn_f (fd_r R1 O0 j * 10 % O0))))), (q2, .inr (2, [.ref w2, .int (nI y2)])), (w2, .inl (cJ, 26, .inr (.inl (bn_f (U1 * 10 ^ (j + 1 - 1)))))), (q3, .inr (2, [.ref w3, .int (nI x3)])), (w3, .inl (cJ, 26, .inr (.inl (bn_f O0)))), (hd, .inr (0, [.ref wd, .int n0, .long d0, .int t0])), (wd, .inl (cC, 19, .inl (g)))] H := hP.sub [2, 3, 4, 5, 6, 7, 8, 0, 1] rfl
              have hD : va_D A [(hf, .inr (1, [.ref q1, .ref q2, .ref q3])), (q1, .inr (2, [.ref w1, .int (nI y1)])), (w1, .inl (cJ, 26, .inr (.inl (bn_f (fd_r R1 O0 j * 10 % O0))))), (q2, .inr (2, [.ref w2, .int (nI y2)])), (w2, .inl (cJ, 26, .inr (.inl (bn_f (U1 * 10 ^ (j + 1 - 1)))))), (q3, .inr (2, [.ref w3, .int (nI x3)])), (w3, .inl (cJ, 26, .inr (.inl (bn_f O0)))), (hd, .inr (0, [.ref wd, .int n0, .long d0, .int t0])), (wd, .inl (cC, 19, .inl (g)))] := hD.sub [2, 3, 4, 5, 6, 7, 8, 0, 1] (by decide) rfl
              have hdg : fd_r R1 O0 j * 10 / O0 < 10 := (Nat.div_lt_iff_lt_mul hO00).mpr (by omega)
              subst hw6
              rw [← hst.2] at hP hD
              have hP : va_P (dC, dI) cls [(hf, .inr (1, [.ref q1, .ref q2, .ref q3])), (q1, .inr (2, [.ref w1, .int (nI y1)])), (w1, .inl (cJ, 26, .inr (.inl (bn_f (fd_r R1 O0 (j + 1)))))), (q2, .inr (2, [.ref w2, .int (nI y2)])), (w2, .inl (cJ, 26, .inr (.inl (bn_f (U1 * 10 ^ ((j + 1) - 1)))))), (q3, .inr (2, [.ref w3, .int (nI x3)])), (w3, .inl (cJ, 26, .inr (.inl (bn_f O0)))), (hd, .inr (0, [.ref wd, .int n0, .long d0, .int t0])), (wd, .inl (cC, 19, .inl (g)))] H := hP
              have hD : va_D A [(hf, .inr (1, [.ref q1, .ref q2, .ref q3])), (q1, .inr (2, [.ref w1, .int (nI y1)])), (w1, .inl (cJ, 26, .inr (.inl (bn_f (fd_r R1 O0 (j + 1)))))), (q2, .inr (2, [.ref w2, .int (nI y2)])), (w2, .inl (cJ, 26, .inr (.inl (bn_f (U1 * 10 ^ ((j + 1) - 1)))))), (q3, .inr (2, [.ref w3, .int (nI x3)])), (w3, .inl (cJ, 26, .inr (.inl (bn_f O0)))), (hd, .inr (0, [.ref wd, .int n0, .long d0, .int t0])), (wd, .inl (cC, 19, .inl (g)))] := hD
              refine lv_i2l (v := lN (fd_r R1 O0 j * 10 / O0)) hx hb d_Fi_find_101 (nI_l (by omega)) ?_
              refine lv_ladd hx hb d_Fi_find_102 ?_
              refine lv_topl (fun x_7 e_8 => ?_)
              obtain rfl : x_7 = lN (fd_m R1 O0 (j + 1)) := e_8.trans ((lN_add _ _).trans (by rw [hst.1]))
              refine lv_lstore (lv' := [(10, .long (lN (fd_m R1 O0 (j + 1)))), (6, .int (iZ (P1 - ((j + 1 - 1 : Nat) : Int)))), (12, .int (nI (j + 1))), (9, .int (nI bU)), (8, .int (nI bD)), (7, .int (nI (fd_ev S))), (0, .ref hf), (1, .long (lN S)), (3, .int (iZ q)), (4, .int (nI lb)), (5, .ref hd)]) hx hb d_Fi_find_103 hl (by decide) rfl (fun ls hl => ?_)
              have hrl2 : fd_r R1 O0 (j + 1) < 2 ^ (32 * y1) := by rw [hst.2]; exact Nat.lt_of_le_of_lt (Nat.mod_le _ _) hy1
              refine lv_aload_n hx hb d_Fi_find_105 rfl (lv_at hl 6 rfl) ?_
              refine lv_iload hx hb d_Fi_find_106 (lv_at hl 9 rfl) ?_
              refine pw_calli (wc := [(hf, .inr (1, [.ref q1, .ref q2, .ref q3])), (q1, .inr (2, [.ref w1, .int (nI y1)])), (w1, .inl (cJ, 26, .inr (.inl (bn_f (fd_r R1 O0 (j + 1)))))), (q2, .inr (2, [.ref w2, .int (nI y2)])), (w2, .inl (cJ, 26, .inr (.inl (bn_f (U1 * 10 ^ ((j + 1) - 1)))))), (q3, .inr (2, [.ref w3, .int (nI x3)])), (w3, .inl (cJ, 26, .inr (.inl (bn_f O0))))]) (wr := [(hd, .inr (0, [.ref wd, .int n0, .long d0, .int t0])), (wd, .inl (cC, 19, .inl (g)))]) [0, 1, 2, 3, 4, 5, 6] [7, 8] rfl rfl rfl (by decide) (by decide) (by decide) hP hD hS hA (fun hPc hDc hF => va_runV (As := [.int (nI lb)]) (rest := []) ⟨hx, hb, hml, hown, hts⟩ (c_Fi_compareDown l dC dI H.size hf q1 w1 q2 w2 q3 w3 cJ (fd_r R1 O0 (j + 1)) y1 (U1 * 10 ^ (j + 1 - 1)) y2 O0 x3 lb hrl2 hy1b hy2 hy2b hx3 hx3b hlb) (cwV 1 hts (gw_V (gw_self cod_Fi_compareDown) ml_Fi_43 im_Fi_compareDown sel_Fi_compareDown ini_Fi) rfl rfl rfl (by decide +kernel) ⟨Nat.le_of_ble_eq_true rfl, Nat.le_of_ble_eq_true rfl⟩) (pw_preV pw_0_ok (trivial : pw_0 A s s.heap) hS hF hPc hDc (hK.sub [0] rfl) (va_recv hK hPc (ci := 1) (q0 := 0) rfl rfl)) rfl rfl hl.1 rfl (lv_room (Nat.le_of_ble_eq_true rfl)) d_Fi_find_108 ⟨Nat.le_of_ble_eq_true rfl, Nat.le_of_ble_eq_true rfl⟩) (fun r7 u7 H locs hw7 hK1 hP hD hS => ?_)
              have hP : va_P (dC, dI) cls [(hf, .inr (1, [.ref q1, .ref q2, .ref q3])), (q1, .inr (2, [.ref w1, .int (nI y1)])), (w1, .inl (cJ, 26, .inr (.inl (bn_f (fd_r R1 O0 (j + 1)))))), (q2, .inr (2, [.ref w2, .int (nI y2)])), (w2, .inl (cJ, 26, .inr (.inl (bn_f (U1 * 10 ^ ((j + 1) - 1)))))), (q3, .inr (2, [.ref w3, .int (nI x3)])), (w3, .inl (cJ, 26, .inr (.inl (bn_f O0)))), (hd, .inr (0, [.ref wd, .int n0, .long d0, .int t0])), (wd, .inl (cC, 19, .inl (g)))] H := hP.sub [2, 3, 4, 5, 6, 7, 8, 0, 1] rfl
              have hD : va_D A [(hf, .inr (1, [.ref q1, .ref q2, .ref q3])), (q1, .inr (2, [.ref w1, .int (nI y1)])), (w1, .inl (cJ, 26, .inr (.inl (bn_f (fd_r R1 O0 (j + 1)))))), (q2, .inr (2, [.ref w2, .int (nI y2)])), (w2, .inl (cJ, 26, .inr (.inl (bn_f (U1 * 10 ^ ((j + 1) - 1)))))), (q3, .inr (2, [.ref w3, .int (nI x3)])), (w3, .inl (cJ, 26, .inr (.inl (bn_f O0)))), (hd, .inr (0, [.ref wd, .int n0, .long d0, .int t0])), (wd, .inl (cC, 19, .inl (g)))] := hD.sub [2, 3, 4, 5, 6, 7, 8, 0, 1] (by decide) rfl
              refine lv_iload hx hb d_Fi_find_111 (lv_at hl 5 rfl) ?_
              refine pw_calli (wc := []) (wr := [(hf, .inr (1, [.ref q1, .ref q2, .ref q3])), (q1, .inr (2, [.ref w1, .int (nI y1)])), (w1, .inl (cJ, 26, .inr (.inl (bn_f (fd_r R1 O0 (j + 1)))))), (q2, .inr (2, [.ref w2, .int (nI y2)])), (w2, .inl (cJ, 26, .inr (.inl (bn_f (U1 * 10 ^ ((j + 1) - 1)))))), (q3, .inr (2, [.ref w3, .int (nI x3)])), (w3, .inl (cJ, 26, .inr (.inl (bn_f O0)))), (hd, .inr (0, [.ref wd, .int n0, .long d0, .int t0])), (wd, .inl (cC, 19, .inl (g)))]) [] [0, 1, 2, 3, 4, 5, 6, 7, 8] rfl rfl rfl (by decide) (by decide) (by decide) hP hD hS hA (fun hPc hDc hF => va_runS (As := [.int r7, .int (nI (fd_ev S))]) (rest := []) ⟨hx, hb, hml, hown, hts⟩ (c_Fi_isWithin l dC dI H.size r7 (fd_ev S) hev) (va_cwS 2 hts (gw_S (gw_self cod_Fi_isWithin) ml_Fi_47 sta_Fi_isWithin ini_Fi) rfl rfl rfl (by decide +kernel) ⟨Nat.le_of_ble_eq_true rfl, Nat.le_of_ble_eq_true rfl⟩) (pw_preS pw_0_ok (trivial : pw_0 A s s.heap) hS hF hPc hDc (hK.sub [] rfl)) rfl rfl hl.1 rfl (lv_room (Nat.le_of_ble_eq_true rfl)) d_Fi_find_113 ⟨Nat.le_of_ble_eq_true rfl, Nat.le_of_ble_eq_true rfl⟩) (fun r8 u8 H locs hw8 hK1 hP hD hS => ?_)
              have hP : va_P (dC, dI) cls [(hf, .inr (1, [.ref q1, .ref q2, .ref q3])), (q1, .inr (2, [.ref w1, .int (nI y1)])), (w1, .inl (cJ, 26, .inr (.inl (bn_f (fd_r R1 O0 (j + 1)))))), (q2, .inr (2, [.ref w2, .int (nI y2)])), (w2, .inl (cJ, 26, .inr (.inl (bn_f (U1 * 10 ^ ((j + 1) - 1)))))), (q3, .inr (2, [.ref w3, .int (nI x3)])), (w3, .inl (cJ, 26, .inr (.inl (bn_f O0)))), (hd, .inr (0, [.ref wd, .int n0, .long d0, .int t0])), (wd, .inl (cC, 19, .inl (g)))] H := hP
              have hD : va_D A [(hf, .inr (1, [.ref q1, .ref q2, .ref q3])), (q1, .inr (2, [.ref w1, .int (nI y1)])), (w1, .inl (cJ, 26, .inr (.inl (bn_f (fd_r R1 O0 (j + 1)))))), (q2, .inr (2, [.ref w2, .int (nI y2)])), (w2, .inl (cJ, 26, .inr (.inl (bn_f (U1 * 10 ^ ((j + 1) - 1)))))), (q3, .inr (2, [.ref w3, .int (nI x3)])), (w3, .inl (cJ, 26, .inr (.inl (bn_f O0)))), (hd, .inr (0, [.ref wd, .int n0, .long d0, .int t0])), (wd, .inl (cC, 19, .inl (g)))] := hD
              have hw8 : r8 = nI (fd_dn lb (fd_ev S) (fd_r R1 O0 (j + 1)) (U1 * 10 ^ (j + 1 - 1))) := by rw [hw8, hw7]; rfl
              subst hw8
              refine lv_istore (lv' := [(8, .int (nI (fd_dn lb (fd_ev S) (fd_r R1 O0 (j + 1)) (U1 * 10 ^ (j + 1 - 1))))), (10, .long (lN (fd_m R1 O0 (j + 1)))), (6, .int (iZ (P1 - ((j + 1 - 1 : Nat) : Int)))), (12, .int (nI (j + 1))), (9, .int (nI bU)), (7, .int (nI (fd_ev S))), (0, .ref hf), (1, .long (lN S)), (3, .int (iZ q)), (4, .int (nI lb)), (5, .ref hd)]) hx hb d_Fi_find_116 hl (by decide) rfl (fun ls hl => ?_)
              refine lv_aload_n hx hb d_Fi_find_118 rfl (lv_at hl 6 rfl) ?_
              refine pw_calli (wc := [(hf, .inr (1, [.ref q1, .ref q2, .ref q3])), (q1, .inr (2, [.ref w1, .int (nI y1)])), (w1, .inl (cJ, 26, .inr (.inl (bn_f (fd_r R1 O0 (j + 1)))))), (q2, .inr (2, [.ref w2, .int (nI y2)])), (w2, .inl (cJ, 26, .inr (.inl (bn_f (U1 * 10 ^ ((j + 1) - 1)))))), (q3, .inr (2, [.ref w3, .int (nI x3)])), (w3, .inl (cJ, 26, .inr (.inl (bn_f O0))))]) (wr := [(hd, .inr (0, [.ref wd, .int n0, .long d0, .int t0])), (wd, .inl (cC, 19, .inl (g)))]) [0, 1, 2, 3, 4, 5, 6] [7, 8] rfl rfl rfl (by decide) (by decide) (by decide) hP hD hS hA (fun hPc hDc hF => va_runV (As := []) (rest := []) ⟨hx, hb, hml, hown, hts⟩ (c_Fi_compareUp l dC dI H.size hf q1 w1 q2 w2 q3 w3 cJ (fd_r R1 O0 (j + 1)) y1 (U1 * 10 ^ (j + 1 - 1)) y2 O0 x3 hrl2 hy1b hy2 hy2b hx3 hx3b) (cwV 0 hts (gw_V (gw_self cod_Fi_compareUp) ml_Fi_51 im_Fi_compareUp sel_Fi_compareUp ini_Fi) rfl rfl rfl (by decide +kernel) ⟨Nat.le_of_ble_eq_true rfl, Nat.le_of_ble_eq_true rfl⟩) (pw_preV pw_0_ok (trivial : pw_0 A s s.heap) hS hF hPc hDc (hK.sub [0] rfl) (va_recv hK hPc (ci := 1) (q0 := 0) rfl rfl)) rfl rfl hl.1 rfl (lv_room (Nat.le_of_ble_eq_true rfl)) d_Fi_find_119 ⟨Nat.le_of_ble_eq_true rfl, Nat.le_of_ble_eq_true rfl⟩) (fun r9 u9 H locs hw9 hK1 hP hD hS => ?_)
              have hP : va_P (dC, dI) cls [(hf, .inr (1, [.ref q1, .ref q2, .ref q3])), (q1, .inr (2, [.ref w1, .int (nI y1)])), (w1, .inl (cJ, 26, .inr (.inl (bn_f (fd_r R1 O0 (j + 1)))))), (q2, .inr (2, [.ref w2, .int (nI y2)])), (w2, .inl (cJ, 26, .inr (.inl (bn_f (U1 * 10 ^ ((j + 1) - 1)))))), (q3, .inr (2, [.ref w3, .int (nI x3)])), (w3, .inl (cJ, 26, .inr (.inl (bn_f O0)))), (hd, .inr (0, [.ref wd, .int n0, .long d0, .int t0])), (wd, .inl (cC, 19, .inl (g)))] H := hP.sub [2, 3, 4, 5, 6, 7, 8, 0, 1] rfl
              have hD : va_D A [(hf, .inr (1, [.ref q1, .ref q2, .ref q3])), (q1, .inr (2, [.ref w1, .int (nI y1)])), (w1, .inl (cJ, 26, .inr (.inl (bn_f (fd_r R1 O0 (j + 1)))))), (q2, .inr (2, [.ref w2, .int (nI y2)])), (w2, .inl (cJ, 26, .inr (.inl (bn_f (U1 * 10 ^ ((j + 1) - 1)))))), (q3, .inr (2, [.ref w3, .int (nI x3)])), (w3, .inl (cJ, 26, .inr (.inl (bn_f O0)))), (hd, .inr (0, [.ref wd, .int n0, .long d0, .int t0])), (wd, .inl (cC, 19, .inl (g)))] := hD.sub [2, 3, 4, 5, 6, 7, 8, 0, 1] (by decide) rfl
              refine lv_iload hx hb d_Fi_find_122 (lv_at hl 5 rfl) ?_
              refine pw_calli (wc := []) (wr := [(hf, .inr (1, [.ref q1, .ref q2, .ref q3])), (q1, .inr (2, [.ref w1, .int (nI y1)])), (w1, .inl (cJ, 26, .inr (.inl (bn_f (fd_r R1 O0 (j + 1)))))), (q2, .inr (2, [.ref w2, .int (nI y2)])), (w2, .inl (cJ, 26, .inr (.inl (bn_f (U1 * 10 ^ ((j + 1) - 1)))))), (q3, .inr (2, [.ref w3, .int (nI x3)])), (w3, .inl (cJ, 26, .inr (.inl (bn_f O0)))), (hd, .inr (0, [.ref wd, .int n0, .long d0, .int t0])), (wd, .inl (cC, 19, .inl (g)))]) [] [0, 1, 2, 3, 4, 5, 6, 7, 8] rfl rfl rfl (by decide) (by decide) (by decide) hP hD hS hA (fun hPc hDc hF => va_runS (As := [.int r9, .int (nI (fd_ev S))]) (rest := []) ⟨hx, hb, hml, hown, hts⟩ (c_Fi_isWithin l dC dI H.size r9 (fd_ev S) hev) (va_cwS 2 hts (gw_S (gw_self cod_Fi_isWithin) ml_Fi_47 sta_Fi_isWithin ini_Fi) rfl rfl rfl (by decide +kernel) ⟨Nat.le_of_ble_eq_true rfl, Nat.le_of_ble_eq_true rfl⟩) (pw_preS pw_0_ok (trivial : pw_0 A s s.heap) hS hF hPc hDc (hK.sub [] rfl)) rfl rfl hl.1 rfl (lv_room (Nat.le_of_ble_eq_true rfl)) d_Fi_find_124 ⟨Nat.le_of_ble_eq_true rfl, Nat.le_of_ble_eq_true rfl⟩) (fun ra ua H locs hwa hK1 hP hD hS => ?_)
              have hP : va_P (dC, dI) cls [(hf, .inr (1, [.ref q1, .ref q2, .ref q3])), (q1, .inr (2, [.ref w1, .int (nI y1)])), (w1, .inl (cJ, 26, .inr (.inl (bn_f (fd_r R1 O0 (j + 1)))))), (q2, .inr (2, [.ref w2, .int (nI y2)])), (w2, .inl (cJ, 26, .inr (.inl (bn_f (U1 * 10 ^ ((j + 1) - 1)))))), (q3, .inr (2, [.ref w3, .int (nI x3)])), (w3, .inl (cJ, 26, .inr (.inl (bn_f O0)))), (hd, .inr (0, [.ref wd, .int n0, .long d0, .int t0])), (wd, .inl (cC, 19, .inl (g)))] H := hP
              have hD : va_D A [(hf, .inr (1, [.ref q1, .ref q2, .ref q3])), (q1, .inr (2, [.ref w1, .int (nI y1)])), (w1, .inl (cJ, 26, .inr (.inl (bn_f (fd_r R1 O0 (j + 1)))))), (q2, .inr (2, [.ref w2, .int (nI y2)])), (w2, .inl (cJ, 26, .inr (.inl (bn_f (U1 * 10 ^ ((j + 1) - 1)))))), (q3, .inr (2, [.ref w3, .int (nI x3)])), (w3, .inl (cJ, 26, .inr (.inl (bn_f O0)))), (hd, .inr (0, [.ref wd, .int n0, .long d0, .int t0])), (wd, .inl (cC, 19, .inl (g)))] := hD
              have hwa : ra = nI (fd_up (fd_ev S) (fd_r R1 O0 (j + 1)) (U1 * 10 ^ (j + 1 - 1)) O0) := by rw [hwa, hw9]; rfl
              subst hwa
              refine lv_istore (lv' := [(9, .int (nI (fd_up (fd_ev S) (fd_r R1 O0 (j + 1)) (U1 * 10 ^ (j + 1 - 1)) O0))), (8, .int (nI (fd_dn lb (fd_ev S) (fd_r R1 O0 (j + 1)) (U1 * 10 ^ (j + 1 - 1))))), (10, .long (lN (fd_m R1 O0 (j + 1)))), (6, .int (iZ (P1 - ((j + 1 - 1 : Nat) : Int)))), (12, .int (nI (j + 1))), (7, .int (nI (fd_ev S))), (0, .ref hf), (1, .long (lN S)), (3, .int (iZ q)), (4, .int (nI lb)), (5, .ref hd)]) hx hb d_Fi_find_127 hl (by decide) rfl (fun ls hl => ?_)
              refine lv_iinc (v := nI (j + 1 + 1)) (lv' := [(12, .int (nI (j + 1 + 1))), (9, .int (nI (fd_up (fd_ev S) (fd_r R1 O0 (j + 1)) (U1 * 10 ^ (j + 1 - 1)) O0))), (8, .int (nI (fd_dn lb (fd_ev S) (fd_r R1 O0 (j + 1)) (U1 * 10 ^ (j + 1 - 1))))), (10, .long (lN (fd_m R1 O0 (j + 1)))), (6, .int (iZ (P1 - ((j + 1 - 1 : Nat) : Int)))), (7, .int (nI (fd_ev S))), (0, .ref hf), (1, .long (lN S)), (3, .int (iZ q)), (4, .int (nI lb)), (5, .ref hd)]) hx hb d_Fi_find_129 hl (k := 4) rfl (nI_1 _) (by decide) rfl (fun ls hl => ?_)
              refine lv_goto (tgt := 67) hx hb d_Fi_find_132 (by decide) ?_
              refine ih (j + 1) (fd_dn lb (fd_ev S) (fd_r R1 O0 (j + 1)) (U1 * 10 ^ (j + 1 - 1))) (fd_up (fd_ev S) (fd_r R1 O0 (j + 1)) (U1 * 10 ^ (j + 1 - 1)) O0) y1 y2 H _ ls (by omega) (by omega) (by omega) hrl2 hy1b hy2 hy2b (Or.inr ⟨by omega, rfl, rfl⟩) (fun k hk1 hk2 => ?_) hP hD hS (lv_sub hl [0, 3, 1, 2, 5, 4, 6, 7, 8, 9, 10] rfl)
              rcases Nat.lt_or_ge k j with g9 | g9
              · exact hprev k hk1 g9
              · obtain rfl : k = j := by omega
                rcases hfl with g8 | g8
                · omega
                · exact ⟨by rw [← g8.2.1]; exact h2, by rw [← g8.2.2]; exact h3⟩
    refine lv_istore (lv' := [(7, .int (nI (fd_ev S))), (6, .int (iZ P1)), (0, .ref hf), (1, .long (lN S)), (3, .int (iZ q)), (4, .int (nI lb)), (5, .ref hd)]) hx hb d_Fi_find_49 hl (by decide) rfl (fun ls hl => ?_)
    refine lv_iconst (v := 0) hx hb d_Fi_find_51 (by decide) ?_
    refine lv_istore (lv' := [(8, .int 0), (7, .int (nI (fd_ev S))), (6, .int (iZ P1)), (0, .ref hf), (1, .long (lN S)), (3, .int (iZ q)), (4, .int (nI lb)), (5, .ref hd)]) hx hb d_Fi_find_52 hl (by decide) rfl (fun ls hl => ?_)
    refine lv_iconst (v := 0) hx hb d_Fi_find_54 (by decide) ?_
    refine lv_istore (lv' := [(9, .int 0), (8, .int 0), (7, .int (nI (fd_ev S))), (6, .int (iZ P1)), (0, .ref hf), (1, .long (lN S)), (3, .int (iZ q)), (4, .int (nI lb)), (5, .ref hd)]) hx hb d_Fi_find_55 hl (by decide) rfl (fun ls hl => ?_)
    refine lv_aload_n hx hb d_Fi_find_57 rfl (lv_at hl 4 rfl) ?_
    refine pw_calli (wc := [(hf, .inr (1, [.ref q1, .ref q2, .ref q3])), (q1, .inr (2, [.ref w1, .int (nI x1)])), (w1, .inl (cJ, 26, .inr (.inl (bn_f R1)))), (q2, .inr (2, [.ref w2, .int (nI x2)])), (w2, .inl (cJ, 26, .inr (.inl (bn_f U1)))), (q3, .inr (2, [.ref w3, .int (nI x3)])), (w3, .inl (cJ, 26, .inr (.inl (bn_f O0))))]) (wr := [(hd, .inr (0, [.ref wd, .int n0, .long d0, .int t0])), (wd, .inl (cC, 19, .inl (g)))]) [0, 1, 2, 3, 4, 5, 6] [7, 8] rfl rfl rfl (by decide) (by decide) (by decide) hP hD hS hA (fun hPc hDc hF => va_runV (As := []) (rest := []) ⟨hx, hb, hml, hown, hts⟩ (c_Fi_takeDigit l dC dI H.size hf q1 w1 q2 w2 q3 w3 cJ R1 x1 U1 (nI x2) O0 x3 hx1 hx1b hx3 hx3b hRhi) (cwV 0 hts (gw_V (gw_self cod_Fi_takeDigit) ml_Fi_37 im_Fi_takeDigit sel_Fi_takeDigit ini_Fi) rfl rfl rfl (by decide +kernel) ⟨Nat.le_of_ble_eq_true rfl, Nat.le_of_ble_eq_true rfl⟩) (pw_preV pw_0_ok (trivial : pw_0 A s s.heap) hS hF hPc hDc (hK.sub [0] rfl) (va_recv hK hPc (ci := 1) (q0 := 0) rfl rfl)) rfl rfl hl.1 rfl (lv_room (Nat.le_of_ble_eq_true rfl)) d_Fi_find_58 ⟨Nat.le_of_ble_eq_true rfl, Nat.le_of_ble_eq_true rfl⟩) (fun r6 u6 H locs hw6 hK1 hP hD hS => ?_)
    have hP : va_P (dC, dI) cls [(hf, .inr (1, [.ref q1, .ref q2, .ref q3])), (q1, .inr (2, [.ref w1, .int (nI x1)])), (w1, .inl (cJ, 26, .inr (.inl (bn_f (R1 % O0))))), (q2, .inr (2, [.ref w2, .int (nI x2)])), (w2, .inl (cJ, 26, .inr (.inl (bn_f U1)))), (q3, .inr (2, [.ref w3, .int (nI x3)])), (w3, .inl (cJ, 26, .inr (.inl (bn_f O0)))), (hd, .inr (0, [.ref wd, .int n0, .long d0, .int t0])), (wd, .inl (cC, 19, .inl (g)))] H := hP.sub [2, 3, 4, 5, 6, 7, 8, 0, 1] rfl
    have hD : va_D A [(hf, .inr (1, [.ref q1, .ref q2, .ref q3])), (q1, .inr (2, [.ref w1, .int (nI x1)])), (w1, .inl (cJ, 26, .inr (.inl (bn_f (R1 % O0))))), (q2, .inr (2, [.ref w2, .int (nI x2)])), (w2, .inl (cJ, 26, .inr (.inl (bn_f U1)))), (q3, .inr (2, [.ref w3, .int (nI x3)])), (w3, .inl (cJ, 26, .inr (.inl (bn_f O0)))), (hd, .inr (0, [.ref wd, .int n0, .long d0, .int t0])), (wd, .inl (cC, 19, .inl (g)))] := hD.sub [2, 3, 4, 5, 6, 7, 8, 0, 1] (by decide) rfl
    have hdg : R1 / O0 < 10 := (Nat.div_lt_iff_lt_mul hO00).mpr (by omega)
    have em : R1 / O0 = fd_m R1 O0 1 := by simp [fd_m]
    have er : R1 % O0 = fd_r R1 O0 1 := by simp [fd_r]
    have eu : U1 * 10 ^ (1 - 1) = U1 := by simp
    subst hw6
    refine lv_i2l (v := lN (fd_m R1 O0 1)) hx hb d_Fi_find_61 ((nI_l (by omega)).trans (by rw [em])) ?_
    refine lv_lstore (lv' := [(10, .long (lN (fd_m R1 O0 1))), (9, .int 0), (8, .int 0), (7, .int (nI (fd_ev S))), (6, .int (iZ P1)), (0, .ref hf), (1, .long (lN S)), (3, .int (iZ q)), (4, .int (nI lb)), (5, .ref hd)]) hx hb d_Fi_find_62 hl (by decide) rfl (fun ls hl => ?_)
    refine lv_iconst (v := 2) hx hb d_Fi_find_64 (by decide) ?_
    refine lv_istore (lv' := [(12, .int 2), (10, .long (lN (fd_m R1 O0 1))), (9, .int 0), (8, .int 0), (7, .int (nI (fd_ev S))), (6, .int (iZ P1)), (0, .ref hf), (1, .long (lN S)), (3, .int (iZ q)), (4, .int (nI lb)), (5, .ref hd)]) hx hb d_Fi_find_65 hl (by decide) rfl (fun ls hl => ?_)
    have hP6 : P1 - ((1 - 1 : Nat) : Int) = P1 := by omega
    exact lp 17 1 0 0 x1 x2 H _ ls (by omega) (by omega) (by omega) (by rw [← er]; exact Nat.lt_of_le_of_lt (Nat.mod_le _ _) hx1) hx1b (by rw [eu]; exact hx2) hx2b (Or.inl ⟨rfl, rfl, rfl⟩) (fun k hk1 hk2 => by omega) (by rw [← er, eu]; exact hP) (by rw [← er, eu]; exact hD) hS (by rw [hP6]; exact lv_sub hl [0, 1, 2, 3, 4, 5, 6, 7, 8, 9, 10] rfl)
  have k36 : ∀ (R1 U1 : Nat) (P1 : Int) (x1 x2 x3 : Nat) (H : Heap) (locs : List Loc) (ls : Array Slot), R1 = (if R0 < O0 then R0 * 10 else R0) → U1 = (if R0 < O0 then U0 * 10 else U0) → P1 = (if R0 < O0 then P - 1 else P) → O0 ≤ R1 → R1 < 10 * O0 → U1 * 10 ^ 16 < 2 ^ (32 * 26) → -2002 < P1 → P1 < 2000 → R1 < 2 ^ (32 * x1) → x1 ≤ 26 → U1 < 2 ^ (32 * x2) → x2 ≤ 26 → O0 < 2 ^ (32 * x3) → x3 ≤ 26 → va_P (dC, dI) cls [(hf, .inr (1, [.ref q1, .ref q2, .ref q3])), (q1, .inr (2, [.ref w1, .int (nI x1)])), (w1, .inl (cJ, 26, .inr (.inl (bn_f R1)))), (q2, .inr (2, [.ref w2, .int (nI x2)])), (w2, .inl (cJ, 26, .inr (.inl (bn_f U1)))), (q3, .inr (2, [.ref w3, .int (nI x3)])), (w3, .inl (cJ, 26, .inr (.inl (bn_f O0)))), (hd, .inr (0, [.ref wd, .int n0, .long d0, .int t0])), (wd, .inl (cC, 19, .inl (g)))] H → va_D A [(hf, .inr (1, [.ref q1, .ref q2, .ref q3])), (q1, .inr (2, [.ref w1, .int (nI x1)])), (w1, .inl (cJ, 26, .inr (.inl (bn_f R1)))), (q2, .inr (2, [.ref w2, .int (nI x2)])), (w2, .inl (cJ, 26, .inr (.inl (bn_f U1)))), (q3, .inr (2, [.ref w3, .int (nI x3)])), (w3, .inl (cJ, 26, .inr (.inl (bn_f O0)))), (hd, .inr (0, [.ref wd, .int n0, .long d0, .int t0])), (wd, .inl (cC, 19, .inl (g)))] → va_S A s.heap H locs → lv_has ls 13 [(6, .int (iZ P1)), (0, .ref hf), (1, .long (lN S)), (3, .int (iZ q)), (4, .int (nI lb)), (5, .ref hd)] → W p l e { frames := 3, cells := 0, slots := 0, locals := 78 } s m args below meth c H locs 0 0 Q (F0 m 36 ls []) := by
    intro R1 U1 P1 x1 x2 x3 H locs ls hL1 hL2 hL3 hRlo hRhi hU16 hP1 hP2 hx1 hx1b hx2 hx2b hx3 hx3b hP hD hS hl
    refine lv_lload_n hx hb d_Fi_find_36 rfl (lv_at hl 2 rfl) ?_
    refine lv_lconst (v := 1) hx hb d_Fi_find_37 (by decide) ?_
    refine lv_land hx hb d_Fi_find_38 ?_
    refine lv_topl (fun x_9 e_10 => ?_)
    obtain rfl : x_9 = lN (S % 2) := e_10.trans (wb_a1 (by omega))
    refine lv_lconst (v := 0) hx hb d_Fi_find_39 (by decide) ?_
    refine lx_ne (tgt := 48) hx hb d_Fi_find_40 d_Fi_find_41 (by decide) (fun hz => ?_) (fun hz => ?_)
    · have he : fd_ev S = 0 := if_neg (fun g9 => hz (by rw [g9]; rfl))
      refine lv_iconst (v := 0) hx hb d_Fi_find_48 (by decide) ?_
      refine lv_topi (fun x_11 e_12 => ?_)
      obtain rfl : x_11 = nI (fd_ev S) := e_12.trans (by rw [he]; rfl)
      exact k49 R1 U1 P1 x1 x2 x3 H locs ls hL1 hL2 hL3 hRlo hRhi hU16 hP1 hP2 hx1 hx1b hx2 hx2b hx3 hx3b hP hD hS hl
    · have he : fd_ev S = 1 := if_pos ((pk_lEQ (a := S % 2) (b := 0) (by omega) (by omega)).mp hz)
      refine lv_iconst (v := 1) hx hb d_Fi_find_44 (by decide) ?_
      refine lv_topi (fun x_13 e_14 => ?_)
      obtain rfl : x_13 = nI (fd_ev S) := e_14.trans (by rw [he]; rfl)
      refine lv_goto (tgt := 49) hx hb d_Fi_find_45 (by decide) ?_
      exact k49 R1 U1 P1 x1 x2 x3 H locs ls hL1 hL2 hL3 hRlo hRhi hU16 hP1 hP2 hx1 hx1b hx2 hx2b hx3 hx3b hP hD hS hl
  refine lv_lload_n hx hb d_Fi_find_0 rfl (lv_at hl 1 rfl) ?_
  refine lv_iload_n hx hb d_Fi_find_1 rfl (lv_at hl 2 rfl) ?_
  refine pw_calli (wc := []) (wr := [(hf, .inr (1, [.ref q1, .ref q2, .ref q3])), (q1, .inr (2, [.ref w1, .int xu])), (w1, .inl (cJ, 26, .inr (.inl (bn_f X)))), (q2, .inr (2, [.ref w2, .int xa])), (w2, .inl (cJ, 26, .inr (.inl (bn_f U)))), (q3, .inr (2, [.ref w3, .int xo])), (w3, .inl (cJ, 26, .inr (.inl (bn_f O)))), (hd, .inr (0, [.ref wd, .int n0, .long d0, .int t0])), (wd, .inl (cC, 19, .inl (g)))]) [] [0, 1, 2, 3, 4, 5, 6, 7, 8] rfl rfl rfl (by decide) (by decide) (by decide) hP hD hS hA (fun hPc hDc hF => va_runS (As := [.long (lN S), .int (iZ q)]) (rest := []) ⟨hx, hb, hml, hown, hts⟩ (c_Fi_highestPlace l dC dI H.size S b q hbl (by omega) hq1 hq2) (va_cwS 2 hts (gw_S (gw_self cod_Fi_highestPlace) ml_Fi_22 sta_Fi_highestPlace ini_Fi) rfl rfl rfl (by decide +kernel) ⟨Nat.le_of_ble_eq_true rfl, Nat.le_of_ble_eq_true rfl⟩) (pw_preS pw_0_ok (trivial : pw_0 A s s.heap) hS hF hPc hDc (hK.sub [] rfl)) rfl rfl hl.1 rfl (lv_room (Nat.le_of_ble_eq_true rfl)) d_Fi_find_2 ⟨Nat.le_of_ble_eq_true rfl, Nat.le_of_ble_eq_true rfl⟩) (fun r5 u5 H locs hw5 hK1 hP hD hS => ?_)
  have hP : va_P (dC, dI) cls [(hf, .inr (1, [.ref q1, .ref q2, .ref q3])), (q1, .inr (2, [.ref w1, .int xu])), (w1, .inl (cJ, 26, .inr (.inl (bn_f X)))), (q2, .inr (2, [.ref w2, .int xa])), (w2, .inl (cJ, 26, .inr (.inl (bn_f U)))), (q3, .inr (2, [.ref w3, .int xo])), (w3, .inl (cJ, 26, .inr (.inl (bn_f O)))), (hd, .inr (0, [.ref wd, .int n0, .long d0, .int t0])), (wd, .inl (cC, 19, .inl (g)))] H := hP
  have hD : va_D A [(hf, .inr (1, [.ref q1, .ref q2, .ref q3])), (q1, .inr (2, [.ref w1, .int xu])), (w1, .inl (cJ, 26, .inr (.inl (bn_f X)))), (q2, .inr (2, [.ref w2, .int xa])), (w2, .inl (cJ, 26, .inr (.inl (bn_f U)))), (q3, .inr (2, [.ref w3, .int xo])), (w3, .inl (cJ, 26, .inr (.inl (bn_f O)))), (hd, .inr (0, [.ref wd, .int n0, .long d0, .int t0])), (wd, .inl (cC, 19, .inl (g)))] := hD
  rw [hp] at hw5
  subst hw5
  refine lv_istore (lv' := [(6, .int (iZ P)), (0, .ref hf), (1, .long (lN S)), (3, .int (iZ q)), (4, .int (nI lb)), (5, .ref hd)]) hx hb d_Fi_find_5 hl (by decide) rfl (fun ls hl => ?_)
  refine lv_aload_n hx hb d_Fi_find_7 rfl (lv_at hl 1 rfl) ?_
  refine lv_lload_n hx hb d_Fi_find_8 rfl (lv_at hl 2 rfl) ?_
  refine lv_iload_n hx hb d_Fi_find_9 rfl (lv_at hl 3 rfl) ?_
  refine lv_iload hx hb d_Fi_find_10 (lv_at hl 0 rfl) ?_
  refine pw_callv (wc := [(hf, .inr (1, [.ref q1, .ref q2, .ref q3])), (q1, .inr (2, [.ref w1, .int xu])), (w1, .inl (cJ, 26, .inr (.inl (bn_f X)))), (q2, .inr (2, [.ref w2, .int xa])), (w2, .inl (cJ, 26, .inr (.inl (bn_f U)))), (q3, .inr (2, [.ref w3, .int xo])), (w3, .inl (cJ, 26, .inr (.inl (bn_f O))))]) (wr := [(hd, .inr (0, [.ref wd, .int n0, .long d0, .int t0])), (wd, .inl (cC, 19, .inl (g)))]) [0, 1, 2, 3, 4, 5, 6] [7, 8] rfl rfl rfl (by decide) (by decide) (by decide) hP hD hS hA (fun hPc hDc hF => va_runV (As := [.long (lN S), .int (iZ q), .int (iZ P)]) (rest := []) ⟨hx, hb, hml, hown, hts⟩ (c_Fi_scale l dC dI H.size hf q1 w1 q2 w2 q3 w3 cJ X U O xu xa xo S q P hX hU hO hS0 hS62 hq1 hq2 hp1 hp2 (by rw [hR]; omega) (by rw [hO0]; omega)) (cwV 3 hts (gw_V (gw_self cod_Fi_scale) ml_Fi_26 im_Fi_scale sel_Fi_scale ini_Fi) rfl rfl rfl (by decide +kernel) ⟨Nat.le_of_ble_eq_true rfl, Nat.le_of_ble_eq_true rfl⟩) (pw_preV pw_0_ok (trivial : pw_0 A s s.heap) hS hF hPc hDc (hK.sub [0] rfl) (va_recv hK hPc (ci := 1) (q0 := 0) rfl rfl)) rfl rfl hl.1 rfl (lv_room (Nat.le_of_ble_eq_true rfl)) d_Fi_find_12 ⟨Nat.le_of_ble_eq_true rfl, Nat.le_of_ble_eq_true rfl⟩) (fun us H locs hws hK1 hP hD hS => ?_)
  have hP : va_P (dC, dI) cls [(hf, .inr (1, [.ref q1, .ref q2, .ref q3])), (q1, .inr (2, [.ref w1, .int (nI us.1)])), (w1, .inl (cJ, 26, .inr (.inl (bn_f (2 * S * 5 ^ (-P).toNat * 2 ^ (q - 1 - P).toNat))))), (q2, .inr (2, [.ref w2, .int (nI us.2.1)])), (w2, .inl (cJ, 26, .inr (.inl (bn_f (1 * 5 ^ (-P).toNat * 2 ^ (q - 1 - P).toNat))))), (q3, .inr (2, [.ref w3, .int (nI us.2.2)])), (w3, .inl (cJ, 26, .inr (.inl (bn_f (1 * 5 ^ P.toNat * 2 ^ (-(q - 1 - P)).toNat))))), (hd, .inr (0, [.ref wd, .int n0, .long d0, .int t0])), (wd, .inl (cC, 19, .inl (g)))] H := hP.sub [2, 3, 4, 5, 6, 7, 8, 0, 1] rfl
  have hD : va_D A [(hf, .inr (1, [.ref q1, .ref q2, .ref q3])), (q1, .inr (2, [.ref w1, .int (nI us.1)])), (w1, .inl (cJ, 26, .inr (.inl (bn_f (2 * S * 5 ^ (-P).toNat * 2 ^ (q - 1 - P).toNat))))), (q2, .inr (2, [.ref w2, .int (nI us.2.1)])), (w2, .inl (cJ, 26, .inr (.inl (bn_f (1 * 5 ^ (-P).toNat * 2 ^ (q - 1 - P).toNat))))), (q3, .inr (2, [.ref w3, .int (nI us.2.2)])), (w3, .inl (cJ, 26, .inr (.inl (bn_f (1 * 5 ^ P.toNat * 2 ^ (-(q - 1 - P)).toNat))))), (hd, .inr (0, [.ref wd, .int n0, .long d0, .int t0])), (wd, .inl (cC, 19, .inl (g)))] := hD.sub [2, 3, 4, 5, 6, 7, 8, 0, 1] (by decide) rfl
  obtain ⟨x1, x2, x3⟩ := us
  rw [hR, hU0, hO0] at hws hP hD
  obtain ⟨⟨hx1b, hx1⟩, ⟨hx2b, hx2⟩, hx3b, hx3⟩ := hws
  have hP : va_P (dC, dI) cls [(hf, .inr (1, [.ref q1, .ref q2, .ref q3])), (q1, .inr (2, [.ref w1, .int (nI x1)])), (w1, .inl (cJ, 26, .inr (.inl (bn_f R0)))), (q2, .inr (2, [.ref w2, .int (nI x2)])), (w2, .inl (cJ, 26, .inr (.inl (bn_f U0)))), (q3, .inr (2, [.ref w3, .int (nI x3)])), (w3, .inl (cJ, 26, .inr (.inl (bn_f O0)))), (hd, .inr (0, [.ref wd, .int n0, .long d0, .int t0])), (wd, .inl (cC, 19, .inl (g)))] H := hP
  have hD : va_D A [(hf, .inr (1, [.ref q1, .ref q2, .ref q3])), (q1, .inr (2, [.ref w1, .int (nI x1)])), (w1, .inl (cJ, 26, .inr (.inl (bn_f R0)))), (q2, .inr (2, [.ref w2, .int (nI x2)])), (w2, .inl (cJ, 26, .inr (.inl (bn_f U0)))), (q3, .inr (2, [.ref w3, .int (nI x3)])), (w3, .inl (cJ, 26, .inr (.inl (bn_f O0)))), (hd, .inr (0, [.ref wd, .int n0, .long d0, .int t0])), (wd, .inl (cC, 19, .inl (g)))] := hD
  refine lv_aload_n hx hb d_Fi_find_15 rfl (lv_at hl 1 rfl) ?_
  refine va_get (D := (dC, dI)) (ci := 1) (v := .ref q1) (C := R_Fi) (T := F_Fi) (N := 3) hx hb hts i_Fi hown hK hP 0 rfl rfl 0 (by decide) (hts _ fl_Fi_10) (fun _ h9 => h9) rfl d_Fi_find_16 ?_
  refine lv_aload_n hx hb d_Fi_find_19 rfl (lv_at hl 1 rfl) ?_
  refine va_get (D := (dC, dI)) (ci := 1) (v := .ref q3) (C := R_Fi) (T := F_Fi) (N := 3) hx hb hts i_Fi hown hK hP 0 rfl rfl 2 (by decide) (hts _ fl_Fi_19) (fun _ h9 => h9) rfl d_Fi_find_20 ?_
  refine pw_calli (wc := [(q1, .inr (2, [.ref w1, .int (nI x1)])), (w1, .inl (cJ, 26, .inr (.inl (bn_f R0)))), (q3, .inr (2, [.ref w3, .int (nI x3)])), (w3, .inl (cJ, 26, .inr (.inl (bn_f O0))))]) (wr := [(hf, .inr (1, [.ref q1, .ref q2, .ref q3])), (q2, .inr (2, [.ref w2, .int (nI x2)])), (w2, .inl (cJ, 26, .inr (.inl (bn_f U0)))), (hd, .inr (0, [.ref wd, .int n0, .long d0, .int t0])), (wd, .inl (cC, 19, .inl (g)))]) [1, 2, 5, 6] [0, 3, 4, 7, 8] rfl rfl rfl (by decide) (by decide) (by decide) hP hD hS hA (fun hPc hDc hF => va_runV (As := [.ref q3]) (rest := []) ⟨hx, hb, hml, hown, hts⟩ (c_Na_compareWith l dC dI H.size q1 w1 q3 w3 cJ R0 x1 O0 x3 hx1 hx1b hx3 hx3b) (cwV 1 hts (gw_V (gw_self cod_Na_compareWith) ml_Fi_30 im_Na_compareWith sel_Na_compareWith ini_Na) rfl rfl rfl (by decide +kernel) ⟨Nat.le_of_ble_eq_true rfl, Nat.le_of_ble_eq_true rfl⟩) (pw_preV pw_0_ok (trivial : pw_0 A s s.heap) hS hF hPc hDc (hK.sub [0] rfl) (va_recv hK hPc (ci := 2) (q0 := 0) rfl rfl)) rfl rfl hl.1 rfl (lv_room (Nat.le_of_ble_eq_true rfl)) d_Fi_find_23 ⟨Nat.le_of_ble_eq_true rfl, Nat.le_of_ble_eq_true rfl⟩) (fun r5 u5 H locs hw5 hK1 hP hD hS => ?_)
  have hP : va_P (dC, dI) cls [(hf, .inr (1, [.ref q1, .ref q2, .ref q3])), (q1, .inr (2, [.ref w1, .int (nI x1)])), (w1, .inl (cJ, 26, .inr (.inl (bn_f R0)))), (q2, .inr (2, [.ref w2, .int (nI x2)])), (w2, .inl (cJ, 26, .inr (.inl (bn_f U0)))), (q3, .inr (2, [.ref w3, .int (nI x3)])), (w3, .inl (cJ, 26, .inr (.inl (bn_f O0)))), (hd, .inr (0, [.ref wd, .int n0, .long d0, .int t0])), (wd, .inl (cC, 19, .inl (g)))] H := hP.sub [0, 5, 6, 1, 2, 7, 8, 3, 4] rfl
  have hD : va_D A [(hf, .inr (1, [.ref q1, .ref q2, .ref q3])), (q1, .inr (2, [.ref w1, .int (nI x1)])), (w1, .inl (cJ, 26, .inr (.inl (bn_f R0)))), (q2, .inr (2, [.ref w2, .int (nI x2)])), (w2, .inl (cJ, 26, .inr (.inl (bn_f U0)))), (q3, .inr (2, [.ref w3, .int (nI x3)])), (w3, .inl (cJ, 26, .inr (.inl (bn_f O0)))), (hd, .inr (0, [.ref wd, .int n0, .long d0, .int t0])), (wd, .inl (cC, 19, .inl (g)))] := hD.sub [0, 5, 6, 1, 2, 7, 8, 3, 4] (by decide) rfl
  subst hw5
  refine lv_if_ge (tgt := 36) hx hb d_Fi_find_26 (by decide) (fun hz => ?_) (fun hz => ?_)
  · have hge : O0 ≤ R0 := bn_cmp_ge0.mp hz
    have hn : ¬ R0 < O0 := by omega
    have h16 : U0 * 10 ^ 16 ≤ U0 * 10 ^ 17 := Nat.mul_le_mul_left _ (Nat.pow_le_pow_right (by decide) (by decide))
    exact k36 R0 U0 P x1 x2 x3 H _ ls (by rw [if_neg hn]) (by rw [if_neg hn]) (by rw [if_neg hn]) hge hhi (Nat.lt_of_le_of_lt h16 hBU) (by omega) (by omega) hx1 hx1b hx2 hx2b hx3 hx3b hP hD hS hl
  · have hlt : R0 < O0 := by have := mt (bn_cmp_ge0 (V := R0) (U := O0)).mpr hz; omega
    have h17 : U0 * 10 * 10 ^ 16 = U0 * 10 ^ 17 := by rw [Nat.mul_assoc]
    refine lv_aload_n hx hb d_Fi_find_29 rfl (lv_at hl 1 rfl) ?_
    refine pw_callv (wc := [(hf, .inr (1, [.ref q1, .ref q2, .ref q3])), (q1, .inr (2, [.ref w1, .int (nI x1)])), (w1, .inl (cJ, 26, .inr (.inl (bn_f R0)))), (q2, .inr (2, [.ref w2, .int (nI x2)])), (w2, .inl (cJ, 26, .inr (.inl (bn_f U0)))), (q3, .inr (2, [.ref w3, .int (nI x3)])), (w3, .inl (cJ, 26, .inr (.inl (bn_f O0))))]) (wr := [(hd, .inr (0, [.ref wd, .int n0, .long d0, .int t0])), (wd, .inl (cC, 19, .inl (g)))]) [0, 1, 2, 3, 4, 5, 6] [7, 8] rfl rfl rfl (by decide) (by decide) (by decide) hP hD hS hA (fun hPc hDc hF => va_runV (As := []) (rest := []) ⟨hx, hb, hml, hown, hts⟩ (c_Fi_tenfold l dC dI H.size hf q1 w1 q2 w2 q3 w3 cJ R0 x1 U0 x2 O0 (nI x3) hx1 hx1b hx2 hx2b hBR (by omega)) (cwV 0 hts (gw_V (gw_self cod_Fi_tenfold) ml_Fi_34 im_Fi_tenfold sel_Fi_tenfold ini_Fi) rfl rfl rfl (by decide +kernel) ⟨Nat.le_of_ble_eq_true rfl, Nat.le_of_ble_eq_true rfl⟩) (pw_preV pw_0_ok (trivial : pw_0 A s s.heap) hS hF hPc hDc (hK.sub [0] rfl) (va_recv hK hPc (ci := 1) (q0 := 0) rfl rfl)) rfl rfl hl.1 rfl (lv_room (Nat.le_of_ble_eq_true rfl)) d_Fi_find_30 ⟨Nat.le_of_ble_eq_true rfl, Nat.le_of_ble_eq_true rfl⟩) (fun ut H locs hwt hK1 hP hD hS => ?_)
    have hP : va_P (dC, dI) cls [(hf, .inr (1, [.ref q1, .ref q2, .ref q3])), (q1, .inr (2, [.ref w1, .int (nI ut.1)])), (w1, .inl (cJ, 26, .inr (.inl (bn_f (R0 * 10))))), (q2, .inr (2, [.ref w2, .int (nI ut.2)])), (w2, .inl (cJ, 26, .inr (.inl (bn_f (U0 * 10))))), (q3, .inr (2, [.ref w3, .int (nI x3)])), (w3, .inl (cJ, 26, .inr (.inl (bn_f O0)))), (hd, .inr (0, [.ref wd, .int n0, .long d0, .int t0])), (wd, .inl (cC, 19, .inl (g)))] H := hP.sub [2, 3, 4, 5, 6, 7, 8, 0, 1] rfl
    have hD : va_D A [(hf, .inr (1, [.ref q1, .ref q2, .ref q3])), (q1, .inr (2, [.ref w1, .int (nI ut.1)])), (w1, .inl (cJ, 26, .inr (.inl (bn_f (R0 * 10))))), (q2, .inr (2, [.ref w2, .int (nI ut.2)])), (w2, .inl (cJ, 26, .inr (.inl (bn_f (U0 * 10))))), (q3, .inr (2, [.ref w3, .int (nI x3)])), (w3, .inl (cJ, 26, .inr (.inl (bn_f O0)))), (hd, .inr (0, [.ref wd, .int n0, .long d0, .int t0])), (wd, .inl (cC, 19, .inl (g)))] := hD.sub [2, 3, 4, 5, 6, 7, 8, 0, 1] (by decide) rfl
    obtain ⟨⟨hy1b, hy1⟩, hy2b, hy2⟩ := hwt
    refine lv_iinc (v := iZ (P - 1)) (lv' := [(6, .int (iZ (P - 1))), (0, .ref hf), (1, .long (lN S)), (3, .int (iZ q)), (4, .int (nI lb)), (5, .ref hd)]) hx hb d_Fi_find_33 hl (k := 0) rfl (iZ_add P (-1)) (by decide) rfl (fun ls hl => ?_)
    exact k36 (R0 * 10) (U0 * 10) (P - 1) ut.1 ut.2 x3 H _ ls (by rw [if_pos hlt]) (by rw [if_pos hlt]) (by rw [if_pos hlt]) hlo (by omega) (by rw [h17]; exact hBU) (by omega) (by omega) hy1 hy1b hy2 hy2b hx3 hx3b hP hD hS hl
end
section
/-! THE BACKGROUND: links among nest mates, the enum's constants, the texts: never written -/
def cb_nest : List Cond := [.methodLinkNest R_Bt 9 y_Fi_init R_Bt, .methodLinkNest R_Fi 9 y_Na_init R_Bt, .methodLinkNest R_Bt 18 y_De_init R_Bt, .methodLinkNest R_Bt 25 y_Te_init R_Bt, .fieldLinkNest R_Bt 64 R_De "d" "J" R_Bt, .fieldLinkNest R_Bt 68 R_De "t" "I" R_Bt, .fieldLinkNest R_Bt 84 R_Te "used" "I" R_Bt]
def cb_nm : List String := ["WIDE", "NARROW"]
def cb_fb : List Int32 := [52, 23]
def cb_te : List Int32 := [2047, 255]
def cb_bi : List Int32 := [1023, 127]
def cb_hp : List Int32 := [13, 6]
def cb_F : List (String × String × String × List Int32) := [(R_La, "fractionBits", "I", cb_fb), (R_La, "topExponent", "I", cb_te), (R_La, "bias", "I", cb_bi), (R_La, "hexPlaces", "I", cb_hp)]
def cb_idx : List Nat := [78, 130, 135, 162, 164, 90]
def cb_txt : List String := ["0.0", "NaN", "Infinity", "0x0.", "0x1.", "0x0.0p0"]
def cb_str : List (List Nat) := [[48, 46, 48], [78, 97, 78], [73, 110, 102, 105, 110, 105, 116, 121], [48, 120, 48, 46], [48, 120, 49, 46], [48, 120, 48, 46, 48, 112, 48]]
def cb_len : List Nat := [3, 3, 8, 4, 4, 7]
def cb_byt : List (List Int32) := [[48, 46, 48], [78, 97, 78], [73, 110, 102, 105, 110, 105, 116, 121], [48, 120, 48, 46], [48, 120, 49, 46], [48, 120, 48, 46, 48, 112, 48]]
theorem cb_s_len : ∀ i, i < 6 → (cb_str.getD i []).length = cb_len.getD i 0 ∧ cb_len.getD i 0 ≤ 8 := by decide +kernel
theorem cb_s_at : ∀ i, i < 6 → ∀ j, j < 8 → j < cb_len.getD i 0 → (cb_byt.getD i []).getD j 0 &&& 255 = nI ((cb_str.getD i []).getD j 0) ∧ (cb_str.getD i []).getD j 0 < 128 := by decide +kernel
def cb_E (ad adK adV : Nat → Nat) : (Nat → Prop) → State → Heap → Prop := fun A U H =>
  (∀ w ∈ cb_nest, va_Nw w U) ∧ va_En R_La "LBinaryText$Layout;" cb_nm cb_F ad A U H ∧ va_Z R_St "COMPACT_STRINGS" "Z" (.int 1) A U H ∧ va_Zq R_Pr "SIOOBE_FORMATTER" "Ljava/util/function/BiFunction;" A U H ∧ vk_S 6 cb_len cb_byt adK adV A U H ∧ (∀ i, i < 6 → vk_R R_Bt (cb_idx.getD i 0) (cb_txt.getD i "") (adK i) U)
theorem cb_alike {u U : State} (h : U.vm = u.vm) : u.vm.Alike U.vm := by
  rw [h]
  exact Vm.Alike.refl _
theorem cb_nest_tab : ∀ w ∈ cb_nest, w.onTables = true := by
  intro w hw
  simp only [cb_nest, List.mem_cons, List.not_mem_nil, or_false] at hw
  rcases hw with rfl | rfl | rfl | rfl | rfl | rfl | rfl <;> rfl
theorem cb_nest_warm {u U : State} (hW : u.WarmedH U.vm) : ∀ w ∈ cb_nest, va_Nw w u → va_Nw w U := by
  intro w hw h
  simp only [cb_nest, List.mem_cons, List.not_mem_nil, or_false] at hw
  rcases hw with rfl | rfl | rfl | rfl | rfl | rfl | rfl
  · exact va_Nw.warmM hW h
  · exact va_Nw.warmM hW h
  · exact va_Nw.warmM hW h
  · exact va_Nw.warmM hW h
  · exact va_Nw.warmF hW h
  · exact va_Nw.warmF hW h
  · exact va_Nw.warmF hW h
theorem cb_E_ok (ad adK adV : Nat → Nat) : pw_E (cb_E ad adK adV) := by
  refine ⟨fun A u U H hv h => ?_, fun A u U H hW h => ?_, fun A U H H1 h hq => ?_, fun A B U H h hAB => ?_⟩
  · exact ⟨fun w hw => va_Nw.same (cb_nest_tab w hw) hv.symm (h.1 w hw), va_En.moved (cb_alike hv) h.2.1, va_Z.moved (cb_alike hv) h.2.2.1, va_Zq.moved (cb_alike hv) h.2.2.2.1, vk_S.moved (cb_alike hv) h.2.2.2.2.1, fun i hi => vk_R.same hv (h.2.2.2.2.2 i hi)⟩
  · exact ⟨fun w hw => cb_nest_warm hW w hw (h.1 w hw), va_En.moved hW.alike h.2.1, va_Z.moved hW.alike h.2.2.1, va_Zq.moved hW.alike h.2.2.2.1, vk_S.moved hW.alike h.2.2.2.2.1, fun i hi => vk_R.warm hW (h.2.2.2.2.2 i hi)⟩
  · exact ⟨h.1, h.2.1.kept hq, h.2.2.1.kept hq, h.2.2.2.1.kept hq, h.2.2.2.2.1.kept hq, h.2.2.2.2.2⟩
  · exact ⟨h.1, h.2.1.narrow hAB, h.2.2.1.narrow hAB, h.2.2.2.1.narrow hAB, h.2.2.2.2.1.narrow hAB, h.2.2.2.2.2⟩
end
section
theorem tk_1 {l : List Nat} {j : Nat} (h : j < l.length) : l.take j ++ [l.getD j 0] = l.take (j + 1) := by
  rw [List.take_add_one, List.getD_eq_getElem?_getD, List.getElem?_eq_getElem h]
  rfl
set_option maxHeartbeats 4000000 in
set_option maxRecDepth 100000 in
theorem c_St_coder (l : Launch) (dC : Nat → ClassId) (dI : Nat → Nat → Nat) (sz : Nat) (ad adK adV : Nat → Nat) (i : Nat) (hi : i < 6) : Met l y_St_coder (Cond.code y_St_coder b_St_coder 1 (some .byte) :: gT) ({ frames := 0, cells := 0, slots := 0, locals := 0 }) (va_Pc [.ref (adK i)] (pw_P (dC, dI) cls [] (cb_E ad adK adV) [] sz)) (va_Qi (fun (r : Int32) (uu : Unit) => r = 0) (fun (uu : Unit) => pw_B (dC, dI) cls [] (va_A [] sz) []) (va_A [] sz)) 0 0 (va_A [] sz) := by
  refine pw_meti (tn := fun (uu : Unit) => []) (wn := fun (uu : Unit) => []) (by decide) (Nat.le_of_ble_eq_true rfl) ?_
  intro p e s m args below meth c A Q H ls hx hb hml hown hts hA hE hP hK hD hS hret hl
  have hown : s.vm.findClass R_St = some m.cls := hown
  have hl : lv_has ls 1 [(0, .ref (adK i))] := hl
  refine va_gets hx hb hE.2.2.1 hS hown (hts _ fl_St_38) (fun _ h9 => h9) d_St_coder_0 ?_
  refine lv_if_eq (tgt := 13) hx hb d_St_coder_3 (by decide) (fun hc => ?_) (fun hc => ?_)
  · exact absurd hc (by decide)
  · refine lv_aload_n hx hb d_St_coder_6 rfl (lv_at hl 0 rfl) ?_
    refine vk_getf (v := .int 0) hx hb (hE.2.2.2.2.1.1 i hi).2.1 hS hown (hts _ fl_St_15) (fun _ h9 => h9) d_St_coder_7 ?_
    refine lv_goto (tgt := 14) hx hb d_St_coder_10 (by decide) ?_
    exact hret _ _ _ _ _ () d_St_coder_14 rfl rfl hP hK hD hS
set_option maxHeartbeats 4000000 in
set_option maxRecDepth 100000 in
theorem c_St_isLatin1 (l : Launch) (dC : Nat → ClassId) (dI : Nat → Nat → Nat) (sz : Nat) (ad adK adV : Nat → Nat) (i : Nat) (hi : i < 6) : Met l y_St_isLatin1 (Cond.code y_St_isLatin1 b_St_isLatin1 1 (some .boolean) :: gT) ({ frames := 0, cells := 0, slots := 0, locals := 0 }) (va_Pc [.ref (adK i)] (pw_P (dC, dI) cls [] (cb_E ad adK adV) [] sz)) (va_Qi (fun (r : Int32) (uu : Unit) => r = 1) (fun (uu : Unit) => pw_B (dC, dI) cls [] (va_A [] sz) []) (va_A [] sz)) 0 0 (va_A [] sz) := by
  refine pw_meti (tn := fun (uu : Unit) => []) (wn := fun (uu : Unit) => []) (by decide) (Nat.le_of_ble_eq_true rfl) ?_
  intro p e s m args below meth c A Q H ls hx hb hml hown hts hA hE hP hK hD hS hret hl
  have hown : s.vm.findClass R_St = some m.cls := hown
  have hl : lv_has ls 1 [(0, .ref (adK i))] := hl
  refine va_gets hx hb hE.2.2.1 hS hown (hts _ fl_St_38) (fun _ h9 => h9) d_St_isLatin1_0 ?_
  refine lv_if_eq (tgt := 17) hx hb d_St_isLatin1_3 (by decide) (fun hc => ?_) (fun hc => ?_)
  · exact absurd hc (by decide)
  · refine lv_aload_n hx hb d_St_isLatin1_6 rfl (lv_at hl 0 rfl) ?_
    refine vk_getf (v := .int 0) hx hb (hE.2.2.2.2.1.1 i hi).2.1 hS hown (hts _ fl_St_15) (fun _ h9 => h9) d_St_isLatin1_7 ?_
    refine lv_if_ne (tgt := 17) hx hb d_St_isLatin1_10 (by decide) (fun hc2 => ?_) (fun hc2 => ?_)
    · exact absurd rfl hc2
    · refine lv_iconst (v := 1) hx hb d_St_isLatin1_13 (by decide) ?_
      refine lv_goto (tgt := 18) hx hb d_St_isLatin1_14 (by decide) ?_
      exact hret _ _ _ _ _ () d_St_isLatin1_18 rfl rfl hP hK hD hS
set_option maxHeartbeats 4000000 in
set_option maxRecDepth 100000 in
theorem c_St_length (l : Launch) (dC : Nat → ClassId) (dI : Nat → Nat → Nat) (sz : Nat) (ad adK adV : Nat → Nat) (i : Nat) (hi : i < 6) : Met l y_St_length (Cond.code y_St_length b_St_length 1 (some .int) :: gT) ({ frames := 1, cells := 0, slots := 0, locals := 20 }) (va_Pc [.ref (adK i)] (pw_P (dC, dI) cls [] (cb_E ad adK adV) [] sz)) (va_Qi (fun (r : Int32) (uu : Unit) => r = nI (cb_len.getD i 0)) (fun (uu : Unit) => pw_B (dC, dI) cls [] (va_A [] sz) []) (va_A [] sz)) 0 0 (va_A [] sz) := by
  refine pw_meti (tn := fun (uu : Unit) => []) (wn := fun (uu : Unit) => []) (by decide) (Nat.le_of_ble_eq_true rfl) ?_
  intro p e s m args below meth c A Q H ls hx hb hml hown hts hA hE hP hK hD hS hret hl
  have hown : s.vm.findClass R_St = some m.cls := hown
  have hl : lv_has ls 1 [(0, .ref (adK i))] := hl
  have hln := (cb_s_len i hi).2
  refine lv_aload_n hx hb d_St_length_0 rfl (lv_at hl 0 rfl) ?_
  refine vk_getf (v := .ref (adV i)) hx hb (hE.2.2.2.2.1.1 i hi).2.2.1 hS hown (hts _ fl_St_9) (fun _ h9 => h9) d_St_length_1 ?_
  refine va_tlen (v := nI (cb_len.getD i 0)) hx hb (hE.2.2.2.2.1.1 i hi).2.2.2 hS rfl d_St_length_4 ?_
  refine lv_aload_n hx hb d_St_length_5 rfl (lv_at hl 0 rfl) ?_
  refine pw_calli (wc := []) (wr := []) [] [] rfl rfl rfl (by decide) (by decide) (by decide) hP hD hS hA (fun hPc hDc hF => va_runV (As := []) (rest := [.int (nI (cb_len.getD i 0))]) ⟨hx, hb, hml, hown, hts⟩ (c_St_coder l dC dI H.size ad adK adV i hi) (cwV 0 hts (gw_V (gw_self cod_St_coder) ml_St_335 im_St_coder sel_St_coder ini_St) rfl rfl rfl (by decide +kernel) ⟨Nat.le_of_ble_eq_true rfl, Nat.le_of_ble_eq_true rfl⟩) (pw_preV (cb_E_ok ad adK adV) hE hS hF hPc hDc (hK.sub [] rfl) (vk_recv hE.2.2.2.2.1 hi hS)) rfl rfl hl.1 rfl (lv_room (Nat.le_of_ble_eq_true rfl)) d_St_length_6 ⟨Nat.le_of_ble_eq_true rfl, Nat.le_of_ble_eq_true rfl⟩) (fun r5 u5 H locs hw5 hK1 hP hD hS => ?_)
  have hP : va_P (dC, dI) cls [] H := hP
  have hD : va_D A [] := hD
  subst hw5
  refine lv_ishr hx hb d_St_length_9 ?_
  refine lv_topi (fun x_1 e_2 => ?_)
  obtain rfl : x_1 = nI (cb_len.getD i 0) := e_2.trans (sc_shr0 (by omega))
  exact hret _ _ _ _ _ () d_St_length_10 (vp_nar_int _) rfl hP hK hD hS
set_option maxHeartbeats 4000000 in
set_option maxRecDepth 100000 in
theorem c_Pr_checkIndexN (l : Launch) (dC : Nat → ClassId) (dI : Nat → Nat → Nat) (sz : Nat) (k n : Nat) (hk : k < n) (hn : n < 2 ^ 31) : Met l y_Pr_checkIndex (Cond.code y_Pr_checkIndex b_Pr_checkIndex 3 (some .int) :: gT) ({ frames := 0, cells := 0, slots := 0, locals := 0 }) (va_Pc [.int (nI k), .int (nI n), .null] (pw_P (dC, dI) cls [] pw_0 [] sz)) (va_Qi (fun (r : Int32) (uu : Unit) => True) (fun (uu : Unit) => pw_B (dC, dI) cls [] (va_A [] sz) []) (va_A [] sz)) 0 0 (va_A [] sz) := by
  refine pw_meti (tn := fun (uu : Unit) => []) (wn := fun (uu : Unit) => []) (by decide) (Nat.le_of_ble_eq_true rfl) ?_
  intro p e s m args below meth c A Q H ls hx hb hml hown hts hA hE hP hK hD hS hret hl
  have hown : s.vm.findClass R_Pr = some m.cls := hown
  have hl : lv_has ls 3 [(0, .int (nI k)), (1, .int (nI n)), (2, .null)] := hl
  refine lv_iload_n hx hb d_Pr_checkIndex_0 rfl (lv_at hl 0 rfl) ?_
  refine lv_if_lt (tgt := 9) hx hb d_Pr_checkIndex_1 (by decide) (fun hc => ?_) (fun hc => ?_)
  · exact absurd hc (nI_pos (by omega))
  · refine lv_iload_n hx hb d_Pr_checkIndex_4 rfl (lv_at hl 0 rfl) ?_
    refine lv_iload_n hx hb d_Pr_checkIndex_5 rfl (lv_at hl 1 rfl) ?_
    refine lv_icmp_lt (tgt := 16) hx hb d_Pr_checkIndex_6 (by decide) (fun hc2 => ?_) (fun hc2 => ?_)
    · refine lv_iload_n hx hb d_Pr_checkIndex_16 rfl (lv_at hl 0 rfl) ?_
      exact hret _ _ _ _ _ () d_Pr_checkIndex_17 (vp_nar_int _) trivial hP hK hD hS
    · exact absurd ((nI_ltI (by omega) (by omega)).mpr hk) hc2
set_option maxHeartbeats 4000000 in
set_option maxRecDepth 100000 in
theorem c_Pr_checkIndexR (l : Launch) (dC : Nat → ClassId) (dI : Nat → Nat → Nat) (sz : Nat) (t9 : Nat) (k n : Nat) (hk : k < n) (hn : n < 2 ^ 31) : Met l y_Pr_checkIndex (Cond.code y_Pr_checkIndex b_Pr_checkIndex 3 (some .int) :: gT) ({ frames := 0, cells := 0, slots := 0, locals := 0 }) (va_Pc [.int (nI k), .int (nI n), .ref t9] (pw_P (dC, dI) cls [] pw_0 [] sz)) (va_Qi (fun (r : Int32) (uu : Unit) => True) (fun (uu : Unit) => pw_B (dC, dI) cls [] (va_A [] sz) []) (va_A [] sz)) 0 0 (va_A [] sz) := by
  refine pw_meti (tn := fun (uu : Unit) => []) (wn := fun (uu : Unit) => []) (by decide) (Nat.le_of_ble_eq_true rfl) ?_
  intro p e s m args below meth c A Q H ls hx hb hml hown hts hA hE hP hK hD hS hret hl
  have hown : s.vm.findClass R_Pr = some m.cls := hown
  have hl : lv_has ls 3 [(0, .int (nI k)), (1, .int (nI n)), (2, .ref t9)] := hl
  refine lv_iload_n hx hb d_Pr_checkIndex_0 rfl (lv_at hl 0 rfl) ?_
  refine lv_if_lt (tgt := 9) hx hb d_Pr_checkIndex_1 (by decide) (fun hc => ?_) (fun hc => ?_)
  · exact absurd hc (nI_pos (by omega))
  · refine lv_iload_n hx hb d_Pr_checkIndex_4 rfl (lv_at hl 0 rfl) ?_
    refine lv_iload_n hx hb d_Pr_checkIndex_5 rfl (lv_at hl 1 rfl) ?_
    refine lv_icmp_lt (tgt := 16) hx hb d_Pr_checkIndex_6 (by decide) (fun hc2 => ?_) (fun hc2 => ?_)
    · refine lv_iload_n hx hb d_Pr_checkIndex_16 rfl (lv_at hl 0 rfl) ?_
      exact hret _ _ _ _ _ () d_Pr_checkIndex_17 (vp_nar_int _) trivial hP hK hD hS
    · exact absurd ((nI_ltI (by omega) (by omega)).mpr hk) hc2
set_option maxHeartbeats 4000000 in
set_option maxRecDepth 100000 in
theorem c_St_checkIndex (l : Launch) (dC : Nat → ClassId) (dI : Nat → Nat → Nat) (sz : Nat) (ad adK adV : Nat → Nat) (k n : Nat) (hk : k < n) (hn : n < 2 ^ 31) : Met l y_St_checkIndex (Cond.code y_St_checkIndex b_St_checkIndex 2 none :: gT) ({ frames := 1, cells := 0, slots := 0, locals := 22 }) (va_Pc [.int (nI k), .int (nI n)] (pw_P (dC, dI) cls [] (cb_E ad adK adV) [] sz)) (va_Qv (fun (uu : Unit) => True) (fun (uu : Unit) => pw_B (dC, dI) cls [] (va_A [] sz) []) (va_A [] sz)) 0 0 (va_A [] sz) := by
  refine pw_metv (tn := fun (uu : Unit) => []) (wn := fun (uu : Unit) => []) (by decide) (Nat.le_of_ble_eq_true rfl) ?_
  intro p e s m args below meth c A Q H ls hx hb hml hown hts hnm hA hE hP hK hD hS hret hl
  have hown : s.vm.findClass R_St = some m.cls := hown
  have hl : lv_has ls 2 [(0, .int (nI k)), (1, .int (nI n))] := hl
  refine lv_iload_n hx hb d_St_checkIndex_0 rfl (lv_at hl 0 rfl) ?_
  refine lv_iload_n hx hb d_St_checkIndex_1 rfl (lv_at hl 1 rfl) ?_
  rcases hE.2.2.2.1 with hz | ⟨t9, hz⟩
  · refine va_gets hx hb hz hS hown (hts _ fl_St_1053) (fun _ h9 => h9) d_St_checkIndex_2 ?_
    refine pw_calli (wc := []) (wr := []) [] [] rfl rfl rfl (by decide) (by decide) (by decide) hP hD hS hA (fun hPc hDc hF => va_runS (As := [.int (nI k), .int (nI n), .null]) (rest := []) ⟨hx, hb, hml, hown, hts⟩ (c_Pr_checkIndexN l dC dI H.size k n hk hn) (va_cwS 3 hts (gw_S (gw_self cod_Pr_checkIndex) ml_St_1059 sta_Pr_checkIndex ini_Pr) rfl rfl rfl (by decide +kernel) ⟨Nat.le_of_ble_eq_true rfl, Nat.le_of_ble_eq_true rfl⟩) (pw_preS pw_0_ok (trivial : pw_0 A s s.heap) hS hF hPc hDc (hK.sub [] rfl)) rfl rfl hl.1 rfl (lv_room (Nat.le_of_ble_eq_true rfl)) d_St_checkIndex_5 ⟨Nat.le_of_ble_eq_true rfl, Nat.le_of_ble_eq_true rfl⟩) (fun r5 u5 H locs hw5 hK1 hP hD hS => ?_)
    have hP : va_P (dC, dI) cls [] H := hP
    have hD : va_D A [] := hD
    refine lv_pop hx hb d_St_checkIndex_8 rfl ?_
    exact hret _ _ _ _ () d_St_checkIndex_9 trivial hP hK hD hS
  · refine va_gets hx hb hz hS hown (hts _ fl_St_1053) (fun _ h9 => h9) d_St_checkIndex_2 ?_
    refine pw_calli (wc := []) (wr := []) [] [] rfl rfl rfl (by decide) (by decide) (by decide) hP hD hS hA (fun hPc hDc hF => va_runS (As := [.int (nI k), .int (nI n), .ref t9]) (rest := []) ⟨hx, hb, hml, hown, hts⟩ (c_Pr_checkIndexR l dC dI H.size t9 k n hk hn) (va_cwS 3 hts (gw_S (gw_self cod_Pr_checkIndex) ml_St_1059 sta_Pr_checkIndex ini_Pr) rfl rfl rfl (by decide +kernel) ⟨Nat.le_of_ble_eq_true rfl, Nat.le_of_ble_eq_true rfl⟩) (pw_preS pw_0_ok (trivial : pw_0 A s s.heap) hS hF hPc hDc (hK.sub [] rfl)) rfl rfl hl.1 rfl (lv_room (Nat.le_of_ble_eq_true rfl)) d_St_checkIndex_5 ⟨Nat.le_of_ble_eq_true rfl, Nat.le_of_ble_eq_true rfl⟩) (fun r5 u5 H locs hw5 hK1 hP hD hS => ?_)
    have hP : va_P (dC, dI) cls [] H := hP
    have hD : va_D A [] := hD
    refine lv_pop hx hb d_St_checkIndex_8 rfl ?_
    exact hret _ _ _ _ () d_St_checkIndex_9 trivial hP hK hD hS
set_option maxHeartbeats 4000000 in
set_option maxRecDepth 100000 in
theorem c_SL_charAt (l : Launch) (dC : Nat → ClassId) (dI : Nat → Nat → Nat) (sz : Nat) (ad adK adV : Nat → Nat) (i k : Nat) (hi : i < 6) (hk : k < cb_len.getD i 0) : Met l y_SL_charAt (Cond.code y_SL_charAt b_SL_charAt 2 (some .char) :: gT) ({ frames := 2, cells := 0, slots := 0, locals := 43 }) (va_Pc [.ref (adV i), .int (nI k)] (pw_P (dC, dI) cls [] (cb_E ad adK adV) [] sz)) (va_Qi (fun (r : Int32) (uu : Unit) => r = nI ((cb_str.getD i []).getD k 0)) (fun (uu : Unit) => pw_B (dC, dI) cls [] (va_A [] sz) []) (va_A [] sz)) 0 0 (va_A [] sz) := by
  refine pw_meti (tn := fun (uu : Unit) => []) (wn := fun (uu : Unit) => []) (by decide) (Nat.le_of_ble_eq_true rfl) ?_
  intro p e s m args below meth c A Q H ls hx hb hml hown hts hA hE hP hK hD hS hret hl
  have hown : s.vm.findClass R_SL = some m.cls := hown
  have hl : lv_has ls 2 [(0, .ref (adV i)), (1, .int (nI k))] := hl
  have hln := (cb_s_len i hi).2
  have hat := cb_s_at i hi k (by omega) hk
  refine lv_iload_n hx hb d_SL_charAt_0 rfl (lv_at hl 1 rfl) ?_
  refine lv_aload_n hx hb d_SL_charAt_1 rfl (lv_at hl 0 rfl) ?_
  refine va_tlen (v := nI (cb_len.getD i 0)) hx hb (hE.2.2.2.2.1.1 i hi).2.2.2 hS rfl d_SL_charAt_2 ?_
  refine pw_callv (wc := []) (wr := []) [] [] rfl rfl rfl (by decide) (by decide) (by decide) hP hD hS hA (fun hPc hDc hF => va_runS (As := [.int (nI k), .int (nI (cb_len.getD i 0))]) (rest := []) ⟨hx, hb, hml, hown, hts⟩ (c_St_checkIndex l dC dI H.size ad adK adV k (cb_len.getD i 0) hk (by omega)) (va_cwS 2 hts (gw_S (gw_self cod_St_checkIndex) ml_SL_9 sta_St_checkIndex ini_St) rfl rfl rfl (by decide +kernel) ⟨Nat.le_of_ble_eq_true rfl, Nat.le_of_ble_eq_true rfl⟩) (pw_preS (cb_E_ok ad adK adV) hE hS hF hPc hDc (hK.sub [] rfl)) rfl rfl hl.1 rfl (lv_room (Nat.le_of_ble_eq_true rfl)) d_SL_charAt_3 ⟨Nat.le_of_ble_eq_true rfl, Nat.le_of_ble_eq_true rfl⟩) (fun u5 H locs hw5 hK1 hP hD hS => ?_)
  have hP : va_P (dC, dI) cls [] H := hP
  have hD : va_D A [] := hD
  refine lv_aload_n hx hb d_SL_charAt_6 rfl (lv_at hl 0 rfl) ?_
  refine lv_iload_n hx hb d_SL_charAt_7 rfl (lv_at hl 1 rfl) ?_
  refine va_tb (v := .int ((cb_byt.getD i []).getD k 0)) hx hb (hE.2.2.2.2.1.1 i hi).2.2.2 hS (vp_in_nI hk (by omega)) (by rw [nI_clamp (by omega)]) d_SL_charAt_8 ?_
  refine lv_sipush (v := 255) hx hb d_SL_charAt_9 (by decide) ?_
  refine lv_iand hx hb d_SL_charAt_12 ?_
  refine lv_topi (fun x_1 e_2 => ?_)
  obtain rfl : x_1 = nI ((cb_str.getD i []).getD k 0) := e_2.trans (hat.1)
  refine lv_i2c (v := nI ((cb_str.getD i []).getD k 0)) hx hb d_SL_charAt_13 ((pk_char _).trans (by rw [pk_tn (by omega), Nat.mod_eq_of_lt (by omega)])) ?_
  exact hret _ _ _ _ _ () d_SL_charAt_14 (pk_charN (by omega)).1 rfl hP hK hD hS
set_option maxHeartbeats 4000000 in
set_option maxRecDepth 100000 in
theorem c_St_charAt (l : Launch) (dC : Nat → ClassId) (dI : Nat → Nat → Nat) (sz : Nat) (ad adK adV : Nat → Nat) (i k : Nat) (hi : i < 6) (hk : k < cb_len.getD i 0) : Met l y_St_charAt (Cond.code y_St_charAt b_St_charAt 2 (some .char) :: gT) ({ frames := 3, cells := 0, slots := 0, locals := 64 }) (va_Pc [.ref (adK i), .int (nI k)] (pw_P (dC, dI) cls [] (cb_E ad adK adV) [] sz)) (va_Qi (fun (r : Int32) (uu : Unit) => r = nI ((cb_str.getD i []).getD k 0)) (fun (uu : Unit) => pw_B (dC, dI) cls [] (va_A [] sz) []) (va_A [] sz)) 0 0 (va_A [] sz) := by
  refine pw_meti (tn := fun (uu : Unit) => []) (wn := fun (uu : Unit) => []) (by decide) (Nat.le_of_ble_eq_true rfl) ?_
  intro p e s m args below meth c A Q H ls hx hb hml hown hts hA hE hP hK hD hS hret hl
  have hown : s.vm.findClass R_St = some m.cls := hown
  have hl : lv_has ls 2 [(0, .ref (adK i)), (1, .int (nI k))] := hl
  have hln := (cb_s_len i hi).2
  have hat := cb_s_at i hi k (by omega) hk
  refine lv_aload_n hx hb d_St_charAt_0 rfl (lv_at hl 0 rfl) ?_
  refine pw_calli (wc := []) (wr := []) [] [] rfl rfl rfl (by decide) (by decide) (by decide) hP hD hS hA (fun hPc hDc hF => va_runV (As := []) (rest := []) ⟨hx, hb, hml, hown, hts⟩ (c_St_isLatin1 l dC dI H.size ad adK adV i hi) (cwV 0 hts (gw_V (gw_self cod_St_isLatin1) ml_St_492 im_St_isLatin1 sel_St_isLatin1 ini_St) rfl rfl rfl (by decide +kernel) ⟨Nat.le_of_ble_eq_true rfl, Nat.le_of_ble_eq_true rfl⟩) (pw_preV (cb_E_ok ad adK adV) hE hS hF hPc hDc (hK.sub [] rfl) (vk_recv hE.2.2.2.2.1 hi hS)) rfl rfl hl.1 rfl (lv_room (Nat.le_of_ble_eq_true rfl)) d_St_charAt_1 ⟨Nat.le_of_ble_eq_true rfl, Nat.le_of_ble_eq_true rfl⟩) (fun r5 u5 H locs hw5 hK1 hP hD hS => ?_)
  have hP : va_P (dC, dI) cls [] H := hP
  have hD : va_D A [] := hD
  subst hw5
  refine lv_if_eq (tgt := 16) hx hb d_St_charAt_4 (by decide) (fun hc => ?_) (fun hc => ?_)
  · exact absurd hc (by decide)
  · refine lv_aload_n hx hb d_St_charAt_7 rfl (lv_at hl 0 rfl) ?_
    refine vk_getf (v := .ref (adV i)) hx hb (hE.2.2.2.2.1.1 i hi).2.2.1 hS hown (hts _ fl_St_9) (fun _ h9 => h9) d_St_charAt_8 ?_
    refine lv_iload_n hx hb d_St_charAt_11 rfl (lv_at hl 1 rfl) ?_
    refine pw_calli (wc := []) (wr := []) [] [] rfl rfl rfl (by decide) (by decide) (by decide) hP hD hS hA (fun hPc hDc hF => va_runS (As := [.ref (adV i), .int (nI k)]) (rest := []) ⟨hx, hb, hml, hown, hts⟩ (c_SL_charAt l dC dI H.size ad adK adV i k hi hk) (va_cwS 2 hts (gw_S (gw_self cod_SL_charAt) ml_St_495 sta_SL_charAt ini_SL) rfl rfl rfl (by decide +kernel) ⟨Nat.le_of_ble_eq_true rfl, Nat.le_of_ble_eq_true rfl⟩) (pw_preS (cb_E_ok ad adK adV) hE hS hF hPc hDc (hK.sub [] rfl)) rfl rfl hl.1 rfl (lv_room (Nat.le_of_ble_eq_true rfl)) d_St_charAt_12 ⟨Nat.le_of_ble_eq_true rfl, Nat.le_of_ble_eq_true rfl⟩) (fun r6 u6 H locs hw6 hK1 hP hD hS => ?_)
    have hP : va_P (dC, dI) cls [] H := hP
    have hD : va_D A [] := hD
    exact hret _ _ _ _ _ () d_St_charAt_15 (by rw [hw6]; exact (pk_charN (by omega)).1) hw6 hP hK hD hS
set_option maxHeartbeats 4000000 in
set_option maxRecDepth 100000 in
/-- putAll -/
theorem c_Te_putAll (l : Launch) (dC : Nat → ClassId) (dI : Nat → Nat → Nat) (sz : Nat) (ad adK adV : Nat → Nat) (h w : Nat) (cC : ClassId) (f : Nat → Int32) (t : List Nat) (i : Nat) (hf : tx f t) (ht : t.length + 8 ≤ 64) (hi : i < 6) : Met l y_Te_putAll (Cond.code y_Te_putAll b_Te_putAll 3 none :: gT) ({ frames := 4, cells := 0, slots := 0, locals := 85 }) (va_Pc [.ref h, .ref (adK i)] (pw_P (dC, dI) cls [(cC, .char)] (cb_E ad adK adV) [(h, .inr (3, [.ref w, .int (nI t.length)])), (w, .inl (cC, 64, .inl (f)))] sz)) (va_Qv (fun (f2 : Nat → Int32) => tx f2 (t ++ cb_str.getD i [])) (fun (f2 : Nat → Int32) => pw_B (dC, dI) cls [(cC, .char)] (va_A [(h, .inr (3, [.ref w, .int (nI t.length)])), (w, .inl (cC, 64, .inl (f)))] sz) [(h, .inr (3, [.ref w, .int (nI (t ++ cb_str.getD i []).length)])), (w, .inl (cC, 64, .inl (f2)))]) (va_A [(h, .inr (3, [.ref w, .int (nI t.length)])), (w, .inl (cC, 64, .inl (f)))] sz)) 0 0 (va_A [(h, .inr (3, [.ref w, .int (nI t.length)])), (w, .inl (cC, 64, .inl (f)))] sz) := by
  refine pw_metv (tn := fun (f2 : Nat → Int32) => [(cC, .char)]) (wn := fun (f2 : Nat → Int32) => [(h, .inr (3, [.ref w, .int (nI (t ++ cb_str.getD i []).length)])), (w, .inl (cC, 64, .inl (f2)))]) (by decide) (Nat.le_of_ble_eq_true rfl) ?_
  intro p e s m args below meth c A Q H ls hx hb hml hown hts hnm hA hE hP hK hD hS hret hl
  have hown : s.vm.findClass R_Te = some m.cls := hown
  have hl : lv_has ls 3 [(0, .ref h), (1, .ref (adK i))] := hl
  have hln := cb_s_len i hi
  refine lv_iconst (v := 0) hx hb d_Te_putAll_0 (by decide) ?_
  refine lv_istore_n (lv' := [(2, .int 0), (0, .ref h), (1, .ref (adK i))]) hx hb d_Te_putAll_1 rfl hl (by decide) rfl (fun ls hl => ?_)
  have lp : ∀ (n j : Nat) (f : Nat → Int32) (H : Heap) (locs : List Loc) (ls : Array Slot), (9 ≤ j + n) → (j ≤ cb_len.getD i 0) → (tx f (t ++ (cb_str.getD i []).take j)) → va_P (dC, dI) cls [(h, .inr (3, [.ref w, .int (nI (t ++ (cb_str.getD i []).take j).length)])), (w, .inl (cC, 64, .inl (f)))] H → va_D A [(h, .inr (3, [.ref w, .int (nI (t ++ (cb_str.getD i []).take j).length)])), (w, .inl (cC, 64, .inl (f)))] → va_S A s.heap H locs → lv_has ls 3 [(2, .int (nI j)), (0, .ref h), (1, .ref (adK i))] → W p l e { frames := 4, cells := 0, slots := 0, locals := 85 } s m args below meth c H locs 0 0 Q (F0 m 2 ls []) := by
    intro n
    induction n with
    | zero => intro j f H locs ls hn hj hf hP hD hS hl; exact absurd hn (by omega)
    | succ n ih =>
      intro j f H locs ls hn hj hf hP hD hS hl
      refine lv_iload_n hx hb d_Te_putAll_2 rfl (lv_at hl 0 rfl) ?_
      refine lv_aload_n hx hb d_Te_putAll_3 rfl (lv_at hl 2 rfl) ?_
      refine pw_calli (wc := []) (wr := [(h, .inr (3, [.ref w, .int (nI (t ++ (cb_str.getD i []).take j).length)])), (w, .inl (cC, 64, .inl (f)))]) [] [0, 1] rfl rfl rfl (by decide) (by decide) (by decide) hP hD hS hA (fun hPc hDc hF => va_runV (As := []) (rest := [.int (nI j)]) ⟨hx, hb, hml, hown, hts⟩ (c_St_length l dC dI H.size ad adK adV i hi) (cwV 0 hts (gw_V (gw_self cod_St_length) ml_Te_17 im_St_length sel_St_length ini_St) rfl rfl rfl (by decide +kernel) ⟨Nat.le_of_ble_eq_true rfl, Nat.le_of_ble_eq_true rfl⟩) (pw_preV (cb_E_ok ad adK adV) hE hS hF hPc hDc (hK.sub [] rfl) (vk_recv hE.2.2.2.2.1 hi hS)) rfl rfl hl.1 rfl (lv_room (Nat.le_of_ble_eq_true rfl)) d_Te_putAll_4 ⟨Nat.le_of_ble_eq_true rfl, Nat.le_of_ble_eq_true rfl⟩) (fun r5 u5 H locs hw5 hK1 hP hD hS => ?_)
      have hP : va_P (dC, dI) cls [(h, .inr (3, [.ref w, .int (nI (t ++ (cb_str.getD i []).take j).length)])), (w, .inl (cC, 64, .inl (f)))] H := hP
      have hD : va_D A [(h, .inr (3, [.ref w, .int (nI (t ++ (cb_str.getD i []).take j).length)])), (w, .inl (cC, 64, .inl (f)))] := hD
      subst hw5
      refine lv_icmp_ge (tgt := 25) hx hb d_Te_putAll_7 (by decide) (fun hc => ?_) (fun hc => ?_)
      · have hge : cb_len.getD i 0 ≤ j := (nI_leI (by omega) (by omega)).mp hc
        rw [List.take_of_length_le (by omega)] at hf hP hD
        exact hret _ _ _ _ f d_Te_putAll_25 hf hP hK hD hS
      · have hlt : j < cb_len.getD i 0 := by have := mt (nI_leI (a := cb_len.getD i 0) (b := j) (by omega) (by omega)).mpr hc; omega
        have hat := cb_s_at i hi j (by omega) hlt
        refine lv_aload_n hx hb d_Te_putAll_10 rfl (lv_at hl 1 rfl) ?_
        refine lv_aload_n hx hb d_Te_putAll_11 rfl (lv_at hl 2 rfl) ?_
        refine lv_iload_n hx hb d_Te_putAll_12 rfl (lv_at hl 0 rfl) ?_
        refine pw_calli (wc := []) (wr := [(h, .inr (3, [.ref w, .int (nI (t ++ (cb_str.getD i []).take j).length)])), (w, .inl (cC, 64, .inl (f)))]) [] [0, 1] rfl rfl rfl (by decide) (by decide) (by decide) hP hD hS hA (fun hPc hDc hF => va_runV (As := [.int (nI j)]) (rest := [.ref h]) ⟨hx, hb, hml, hown, hts⟩ (c_St_charAt l dC dI H.size ad adK adV i j hi hlt) (cwV 1 hts (gw_V (gw_self cod_St_charAt) ml_Te_23 im_St_charAt sel_St_charAt ini_St) rfl rfl rfl (by decide +kernel) ⟨Nat.le_of_ble_eq_true rfl, Nat.le_of_ble_eq_true rfl⟩) (pw_preV (cb_E_ok ad adK adV) hE hS hF hPc hDc (hK.sub [] rfl) (vk_recv hE.2.2.2.2.1 hi hS)) rfl rfl hl.1 rfl (lv_room (Nat.le_of_ble_eq_true rfl)) d_Te_putAll_13 ⟨Nat.le_of_ble_eq_true rfl, Nat.le_of_ble_eq_true rfl⟩) (fun r6 u6 H locs hw6 hK1 hP hD hS => ?_)
        have hP : va_P (dC, dI) cls [(h, .inr (3, [.ref w, .int (nI (t ++ (cb_str.getD i []).take j).length)])), (w, .inl (cC, 64, .inl (f)))] H := hP
        have hD : va_D A [(h, .inr (3, [.ref w, .int (nI (t ++ (cb_str.getD i []).take j).length)])), (w, .inl (cC, 64, .inl (f)))] := hD
        subst hw6
        refine pw_callv (wc := [(h, .inr (3, [.ref w, .int (nI (t ++ (cb_str.getD i []).take j).length)])), (w, .inl (cC, 64, .inl (f)))]) (wr := []) [0, 1] [] rfl rfl rfl (by decide) (by decide) (by decide) hP hD hS hA (fun hPc hDc hF => va_runV (As := [.int (nI ((cb_str.getD i []).getD j 0))]) (rest := []) ⟨hx, hb, hml, hown, hts⟩ (c_Te_put l dC dI H.size h w cC f (t ++ (cb_str.getD i []).take j) ((cb_str.getD i []).getD j 0) hf (by rw [List.length_append, List.length_take]; omega) (by omega)) (cwV 1 hts (gw_V (gw_self cod_Te_put) ml_Te_27 im_Te_put sel_Te_put ini_Te) rfl rfl rfl (by decide +kernel) ⟨Nat.le_of_ble_eq_true rfl, Nat.le_of_ble_eq_true rfl⟩) (pw_preV pw_0_ok (trivial : pw_0 A s s.heap) hS hF hPc hDc (hK.sub [0] rfl) (va_recv hK hPc (ci := 3) (q0 := 0) rfl rfl)) rfl rfl hl.1 rfl (lv_room (Nat.le_of_ble_eq_true rfl)) d_Te_putAll_16 ⟨Nat.le_of_ble_eq_true rfl, Nat.le_of_ble_eq_true rfl⟩) (fun f3 H locs hw3 hK1 hP hD hS => ?_)
        have hP : va_P (dC, dI) cls [(h, .inr (3, [.ref w, .int (nI ((t ++ (cb_str.getD i []).take j) ++ [(cb_str.getD i []).getD j 0]).length)])), (w, .inl (cC, 64, .inl (f3)))] H := hP
        have hD : va_D A [(h, .inr (3, [.ref w, .int (nI ((t ++ (cb_str.getD i []).take j) ++ [(cb_str.getD i []).getD j 0]).length)])), (w, .inl (cC, 64, .inl (f3)))] := hD
        rw [List.append_assoc, tk_1 (by omega)] at hw3 hP hD
        refine lv_iinc (v := nI (j + 1)) (lv' := [(2, .int (nI (j + 1))), (0, .ref h), (1, .ref (adK i))]) hx hb d_Te_putAll_19 hl (k := 0) rfl (nI_1 _) (by decide) rfl (fun ls hl => ?_)
        refine lv_goto (tgt := 2) hx hb d_Te_putAll_22 (by decide) ?_
        exact ih (j + 1) f3 H _ ls (by omega) (by omega) hw3 hP hD hS (lv_sub hl [0, 1, 2] rfl)
  have e0 : t ++ (cb_str.getD i []).take 0 = t := by rw [List.take_zero, List.append_nil]
  exact lp 9 0 f H _ ls (by omega) (by omega) (by rw [e0]; exact hf) (by rw [e0]; exact hP) (by rw [e0]; exact hD) hS (lv_sub hl [0, 1, 2] rfl)
end
section
/-! THE LAYOUTS: 0 is WIDE, 1 is NARROW -/
def FB (i : Nat) : Nat := if i = 0 then 52 else 23
def EB (i : Nat) : Nat := if i = 0 then 11 else 8
def BI (i : Nat) : Nat := if i = 0 then 1023 else 127
def HX (i : Nat) : Nat := if i = 0 then 13 else 6
theorem la_fb : ∀ i, i < 2 → cb_fb.getD i 0 = nI (FB i) := by decide +kernel
theorem la_te : ∀ i, i < 2 → cb_te.getD i 0 = nI (2 ^ EB i - 1) := by decide +kernel
theorem la_bi : ∀ i, i < 2 → cb_bi.getD i 0 = nI (BI i) := by decide +kernel
theorem la_hp : ∀ i, i < 2 → cb_hp.getD i 0 = nI (HX i) := by decide +kernel
theorem la_b (i : Nat) : FB i ≤ 52 ∧ 23 ≤ FB i ∧ EB i ≤ 11 ∧ 8 ≤ EB i ∧ BI i ≤ 1023 ∧ 127 ≤ BI i ∧ HX i ≤ 13 ∧ 6 ≤ HX i ∧ FB i ≤ 4 * HX i ∧ 4 * HX i - FB i ≤ 1 ∧ FB i + EB i ≤ 63 := by
  unfold FB EB BI HX
  split <;> decide
theorem nI_maskw (n : Nat) {k : Nat} (hk : k ≤ 11) : nI n &&& nI (2 ^ k - 1) = nI (n % 2 ^ k) := by
  have h2 : 2 ^ k ≤ 2 ^ 11 := Nat.pow_le_pow_right (by decide) hk
  have h3 : 0 < 2 ^ k := Nat.two_pow_pos _
  rw [pk_and (nI n) (m := nI (2 ^ k - 1)) k (by rw [pk_tn (by omega)])]
  congr 1
  show (BitVec.ofNat 32 n).toNat % 2 ^ k = _
  rw [BitVec.toNat_ofNat, Nat.mod_mod_of_dvd]
  exact Nat.pow_dvd_pow 2 (by omega)
theorem lN_bitw {n k : Nat} (hn : n < 2 ^ 64) (hk : k < 63) : lN n &&& lN (2 ^ k) = 0 ↔ n / 2 ^ k % 2 = 0 := by
  have h1 : 2 ^ k < 2 ^ 64 := Nat.pow_lt_pow_right (by decide) (by omega)
  rw [wb_and hn h1]
  have h2 : n &&& 2 ^ k < 2 ^ 63 := Nat.lt_of_le_of_lt Nat.and_le_right (Nat.pow_lt_pow_right (by decide) hk)
  have h3 : lN (n &&& 2 ^ k) = 0 ↔ n &&& 2 ^ k = 0 := pk_lEQ (b := 0) h2 (by decide)
  rw [h3]
  have hb : n.testBit k = decide (n / 2 ^ k % 2 = 1) := Nat.testBit_eq_decide_div_mod_eq
  constructor
  · intro h
    have h4 : (n &&& 2 ^ k).testBit k = false := by rw [h]; exact Nat.zero_testBit k
    rw [Nat.testBit_and, Nat.testBit_two_pow_self, Bool.and_true, hb] at h4
    have := of_decide_eq_false h4
    omega
  · intro h
    apply Nat.eq_of_testBit_eq
    intro j
    rw [Nat.testBit_and, Nat.zero_testBit]
    by_cases e : k = j
    · subst e
      rw [hb, decide_eq_false (by omega), Bool.false_and]
    · rw [Nat.testBit_two_pow_of_ne e, Bool.and_false]
end
section
set_option maxHeartbeats 4000000 in
set_option maxRecDepth 100000 in
theorem c_La_hiddenOne (l : Launch) (dC : Nat → ClassId) (dI : Nat → Nat → Nat) (sz : Nat) (ad adK adV : Nat → Nat) (i : Nat)  (hi : i < 2)  : Met l y_La_hiddenOne (Cond.code y_La_hiddenOne b_La_hiddenOne 1 (some .long) :: gT) ({ frames := 0, cells := 0, slots := 0, locals := 0 }) (va_Pc [.ref (ad i)] (pw_P (dC, dI) cls [] (cb_E ad adK adV) [] sz)) (va_Ql (fun (r : Int64) (uu : Unit) => r = lN (2 ^ FB i)) (fun (uu : Unit) => pw_B (dC, dI) cls [] (va_A [] sz) []) (va_A [] sz)) 0 0 (va_A [] sz) := by
  refine pw_metl (tn := fun (uu : Unit) => []) (wn := fun (uu : Unit) => []) (by decide) (Nat.le_of_ble_eq_true rfl) ?_
  intro p e s m args below meth c A Q H ls hx hb hml hown hts hA hE hP hK hD hS hret hl
  have hown : s.vm.findClass R_La = some m.cls := hown
  have hl : lv_has ls 1 [(0, .ref (ad i))] := hl
  have hb9 := la_b i
  refine lv_lconst (v := 1) hx hb d_La_hiddenOne_0 (by decide) ?_
  refine lv_aload_n hx hb d_La_hiddenOne_1 rfl (lv_at hl 0 rfl) ?_
  refine va_getE (q := (R_La, "fractionBits", "I", cb_fb)) hx hb hE.2.1 hi hS hown (List.mem_of_getElem? (i := 0) rfl) (hts _ fl_La_29) (fun _ h9 => h9) d_La_hiddenOne_2 ?_
  refine lv_topi (fun x_1 e_2 => ?_)
  obtain rfl : x_1 = nI (FB i) := e_2.trans (la_fb i hi)
  refine lv_lshl (v := lN (2 ^ FB i)) hx hb d_La_hiddenOne_5 (bn_shl1 (by omega)) ?_
  exact hret _ _ _ _ _ () d_La_hiddenOne_6 rfl hP hK hD hS
set_option maxHeartbeats 4000000 in
set_option maxRecDepth 100000 in
theorem c_La_exponentOf (l : Launch) (dC : Nat → ClassId) (dI : Nat → Nat → Nat) (sz : Nat) (ad adK adV : Nat → Nat) (i : Nat) (b : Nat) (hi : i < 2) (hbb : b < 2 ^ 64) : Met l y_La_exponentOf (Cond.code y_La_exponentOf b_La_exponentOf 3 (some .int) :: gT) ({ frames := 0, cells := 0, slots := 0, locals := 0 }) (va_Pc [.ref (ad i), .long (lN b)] (pw_P (dC, dI) cls [] (cb_E ad adK adV) [] sz)) (va_Qi (fun (r : Int32) (uu : Unit) => r = nI (b / 2 ^ FB i % 2 ^ EB i)) (fun (uu : Unit) => pw_B (dC, dI) cls [] (va_A [] sz) []) (va_A [] sz)) 0 0 (va_A [] sz) := by
  refine pw_meti (tn := fun (uu : Unit) => []) (wn := fun (uu : Unit) => []) (by decide) (Nat.le_of_ble_eq_true rfl) ?_
  intro p e s m args below meth c A Q H ls hx hb hml hown hts hA hE hP hK hD hS hret hl
  have hown : s.vm.findClass R_La = some m.cls := hown
  have hl : lv_has ls 3 [(0, .ref (ad i)), (1, .long (lN b))] := hl
  have hb9 := la_b i
  refine lv_lload_n hx hb d_La_exponentOf_0 rfl (lv_at hl 1 rfl) ?_
  refine lv_aload_n hx hb d_La_exponentOf_1 rfl (lv_at hl 0 rfl) ?_
  refine va_getE (q := (R_La, "fractionBits", "I", cb_fb)) hx hb hE.2.1 hi hS hown (List.mem_of_getElem? (i := 0) rfl) (hts _ fl_La_29) (fun _ h9 => h9) d_La_exponentOf_2 ?_
  refine lv_topi (fun x_1 e_2 => ?_)
  obtain rfl : x_1 = nI (FB i) := e_2.trans (la_fb i hi)
  refine lv_lushr (v := lN (b / 2 ^ FB i)) hx hb d_La_exponentOf_5 (wb_shr hbb (by omega)) ?_
  refine lv_l2i (v := nI (b / 2 ^ FB i)) hx hb d_La_exponentOf_6 (lN_i _) ?_
  refine lv_aload_n hx hb d_La_exponentOf_7 rfl (lv_at hl 0 rfl) ?_
  refine va_getE (q := (R_La, "topExponent", "I", cb_te)) hx hb hE.2.1 hi hS hown (List.mem_of_getElem? (i := 1) rfl) (hts _ fl_La_33) (fun _ h9 => h9) d_La_exponentOf_8 ?_
  refine lv_topi (fun x_3 e_4 => ?_)
  obtain rfl : x_3 = nI (2 ^ EB i - 1) := e_4.trans (la_te i hi)
  refine lv_iand hx hb d_La_exponentOf_11 ?_
  refine lv_topi (fun x_5 e_6 => ?_)
  obtain rfl : x_5 = nI (b / 2 ^ FB i % 2 ^ EB i) := e_6.trans (nI_maskw _ (by omega))
  exact hret _ _ _ _ _ () d_La_exponentOf_12 (vp_nar_int _) rfl hP hK hD hS
set_option maxHeartbeats 4000000 in
set_option maxRecDepth 100000 in
theorem c_La_fractionOf (l : Launch) (dC : Nat → ClassId) (dI : Nat → Nat → Nat) (sz : Nat) (ad adK adV : Nat → Nat) (i : Nat) (b : Nat) (hi : i < 2) (hbb : b < 2 ^ 64) : Met l y_La_fractionOf (Cond.code y_La_fractionOf b_La_fractionOf 3 (some .long) :: gT) ({ frames := 1, cells := 0, slots := 0, locals := 20 }) (va_Pc [.ref (ad i), .long (lN b)] (pw_P (dC, dI) cls [] (cb_E ad adK adV) [] sz)) (va_Ql (fun (r : Int64) (uu : Unit) => r = lN (b % 2 ^ FB i)) (fun (uu : Unit) => pw_B (dC, dI) cls [] (va_A [] sz) []) (va_A [] sz)) 0 0 (va_A [] sz) := by
  refine pw_metl (tn := fun (uu : Unit) => []) (wn := fun (uu : Unit) => []) (by decide) (Nat.le_of_ble_eq_true rfl) ?_
  intro p e s m args below meth c A Q H ls hx hb hml hown hts hA hE hP hK hD hS hret hl
  have hown : s.vm.findClass R_La = some m.cls := hown
  have hl : lv_has ls 3 [(0, .ref (ad i)), (1, .long (lN b))] := hl
  have hb9 := la_b i
  refine lv_lload_n hx hb d_La_fractionOf_0 rfl (lv_at hl 1 rfl) ?_
  refine lv_aload_n hx hb d_La_fractionOf_1 rfl (lv_at hl 0 rfl) ?_
  refine pw_calll (wc := []) (wr := []) [] [] rfl rfl rfl (by decide) (by decide) (by decide) hP hD hS hA (fun hPc hDc hF => va_runV (As := []) (rest := [.long (lN b)]) ⟨hx, hb, hml, hown, hts⟩ (c_La_hiddenOne l dC dI H.size ad adK adV i hi) (cwV 0 hts (gw_V (gw_self cod_La_hiddenOne) ml_La_42 im_La_hiddenOne sel_La_hiddenOne ini_La) rfl rfl rfl (by decide +kernel) ⟨Nat.le_of_ble_eq_true rfl, Nat.le_of_ble_eq_true rfl⟩) (pw_preV (cb_E_ok ad adK adV) hE hS hF hPc hDc (hK.sub [] rfl) (va_recvE hE.2.1 hi hS)) rfl rfl hl.1 rfl (lv_room (Nat.le_of_ble_eq_true rfl)) d_La_fractionOf_2 ⟨Nat.le_of_ble_eq_true rfl, Nat.le_of_ble_eq_true rfl⟩) (fun r5 u5 H locs hw5 hK1 hP hD hS => ?_)
  have hP : va_P (dC, dI) cls [] H := hP
  have hD : va_D A [] := hD
  subst hw5
  refine lv_lconst (v := 1) hx hb d_La_fractionOf_5 (by decide) ?_
  refine lv_lsub hx hb d_La_fractionOf_6 ?_
  refine lv_topl (fun x_1 e_2 => ?_)
  obtain rfl : x_1 = lN (2 ^ FB i - 1) := e_2.trans (lN_sub (b := 1) (Nat.one_le_two_pow))
  refine lv_land hx hb d_La_fractionOf_7 ?_
  refine lv_topl (fun x_3 e_4 => ?_)
  obtain rfl : x_3 = lN (b % 2 ^ FB i) := e_4.trans (wb_mask hbb (by omega))
  exact hret _ _ _ _ _ () d_La_fractionOf_8 rfl hP hK hD hS
set_option maxHeartbeats 4000000 in
set_option maxRecDepth 100000 in
theorem c_La_hexFractionOf (l : Launch) (dC : Nat → ClassId) (dI : Nat → Nat → Nat) (sz : Nat) (ad adK adV : Nat → Nat) (i : Nat) (b : Nat) (hi : i < 2) (hbb : b < 2 ^ 64) : Met l y_La_hexFractionOf (Cond.code y_La_hexFractionOf b_La_hexFractionOf 3 (some .long) :: gT) ({ frames := 2, cells := 0, slots := 0, locals := 42 }) (va_Pc [.ref (ad i), .long (lN b)] (pw_P (dC, dI) cls [] (cb_E ad adK adV) [] sz)) (va_Ql (fun (r : Int64) (uu : Unit) => r = lN (b % 2 ^ FB i * 2 ^ (4 * HX i - FB i))) (fun (uu : Unit) => pw_B (dC, dI) cls [] (va_A [] sz) []) (va_A [] sz)) 0 0 (va_A [] sz) := by
  refine pw_metl (tn := fun (uu : Unit) => []) (wn := fun (uu : Unit) => []) (by decide) (Nat.le_of_ble_eq_true rfl) ?_
  intro p e s m args below meth c A Q H ls hx hb hml hown hts hA hE hP hK hD hS hret hl
  have hown : s.vm.findClass R_La = some m.cls := hown
  have hl : lv_has ls 3 [(0, .ref (ad i)), (1, .long (lN b))] := hl
  have hb9 := la_b i
  refine lv_aload_n hx hb d_La_hexFractionOf_0 rfl (lv_at hl 0 rfl) ?_
  refine lv_lload_n hx hb d_La_hexFractionOf_1 rfl (lv_at hl 1 rfl) ?_
  refine pw_calll (wc := []) (wr := []) [] [] rfl rfl rfl (by decide) (by decide) (by decide) hP hD hS hA (fun hPc hDc hF => va_runV (As := [.long (lN b)]) (rest := []) ⟨hx, hb, hml, hown, hts⟩ (c_La_fractionOf l dC dI H.size ad adK adV i b hi hbb) (cwV 1 hts (gw_V (gw_self cod_La_fractionOf) ml_La_46 im_La_fractionOf sel_La_fractionOf ini_La) rfl rfl rfl (by decide +kernel) ⟨Nat.le_of_ble_eq_true rfl, Nat.le_of_ble_eq_true rfl⟩) (pw_preV (cb_E_ok ad adK adV) hE hS hF hPc hDc (hK.sub [] rfl) (va_recvE hE.2.1 hi hS)) rfl rfl hl.1 rfl (lv_room (Nat.le_of_ble_eq_true rfl)) d_La_hexFractionOf_2 ⟨Nat.le_of_ble_eq_true rfl, Nat.le_of_ble_eq_true rfl⟩) (fun r5 u5 H locs hw5 hK1 hP hD hS => ?_)
  have hP : va_P (dC, dI) cls [] H := hP
  have hD : va_D A [] := hD
  subst hw5
  refine lv_iconst (v := 4) hx hb d_La_hexFractionOf_5 (by decide) ?_
  refine lv_aload_n hx hb d_La_hexFractionOf_6 rfl (lv_at hl 0 rfl) ?_
  refine va_getE (q := (R_La, "hexPlaces", "I", cb_hp)) hx hb hE.2.1 hi hS hown (List.mem_of_getElem? (i := 3) rfl) (hts _ fl_La_39) (fun _ h9 => h9) d_La_hexFractionOf_7 ?_
  refine lv_topi (fun x_1 e_2 => ?_)
  obtain rfl : x_1 = nI (HX i) := e_2.trans (la_hp i hi)
  refine lv_imul hx hb d_La_hexFractionOf_10 ?_
  refine lv_topi (fun x_3 e_4 => ?_)
  obtain rfl : x_3 = nI (4 * HX i) := e_4.trans (pk_mul 4 _)
  refine lv_aload_n hx hb d_La_hexFractionOf_11 rfl (lv_at hl 0 rfl) ?_
  refine va_getE (q := (R_La, "fractionBits", "I", cb_fb)) hx hb hE.2.1 hi hS hown (List.mem_of_getElem? (i := 0) rfl) (hts _ fl_La_29) (fun _ h9 => h9) d_La_hexFractionOf_12 ?_
  refine lv_topi (fun x_5 e_6 => ?_)
  obtain rfl : x_5 = nI (FB i) := e_6.trans (la_fb i hi)
  refine lv_isub hx hb d_La_hexFractionOf_15 ?_
  refine lv_topi (fun x_7 e_8 => ?_)
  obtain rfl : x_7 = nI (4 * HX i - FB i) := e_8.trans (pk_sub (by omega))
  refine lv_lshl (v := lN (b % 2 ^ FB i * 2 ^ (4 * HX i - FB i))) hx hb d_La_hexFractionOf_16 (wb_shl _ (by omega)) ?_
  exact hret _ _ _ _ _ () d_La_hexFractionOf_17 rfl hP hK hD hS
set_option maxHeartbeats 4000000 in
set_option maxRecDepth 100000 in
theorem c_La_signOf (l : Launch) (dC : Nat → ClassId) (dI : Nat → Nat → Nat) (sz : Nat) (ad adK adV : Nat → Nat) (i : Nat) (b : Nat) (hi : i < 2) (hbb : b < 2 ^ 64) : Met l y_La_signOf (Cond.code y_La_signOf b_La_signOf 3 (some .boolean) :: gT) ({ frames := 0, cells := 0, slots := 0, locals := 0 }) (va_Pc [.ref (ad i), .long (lN b)] (pw_P (dC, dI) cls [] (cb_E ad adK adV) [] sz)) (va_Qi (fun (r : Int32) (uu : Unit) => r = nI (b / 2 ^ (FB i + EB i) % 2)) (fun (uu : Unit) => pw_B (dC, dI) cls [] (va_A [] sz) []) (va_A [] sz)) 0 0 (va_A [] sz) := by
  refine pw_meti (tn := fun (uu : Unit) => []) (wn := fun (uu : Unit) => []) (by decide) (Nat.le_of_ble_eq_true rfl) ?_
  intro p e s m args below meth c A Q H ls hx hb hml hown hts hA hE hP hK hD hS hret hl
  have hown : s.vm.findClass R_La = some m.cls := hown
  have hl : lv_has ls 3 [(0, .ref (ad i)), (1, .long (lN b))] := hl
  have hb9 := la_b i
  refine lv_lload_n hx hb d_La_signOf_0 rfl (lv_at hl 1 rfl) ?_
  refine lv_aload_n hx hb d_La_signOf_1 rfl (lv_at hl 0 rfl) ?_
  refine va_getE (q := (R_La, "fractionBits", "I", cb_fb)) hx hb hE.2.1 hi hS hown (List.mem_of_getElem? (i := 0) rfl) (hts _ fl_La_29) (fun _ h9 => h9) d_La_signOf_2 ?_
  refine lv_topi (fun x_1 e_2 => ?_)
  obtain rfl : x_1 = nI (FB i) := e_2.trans (la_fb i hi)
  refine lv_lushr (v := lN (b / 2 ^ FB i)) hx hb d_La_signOf_5 (wb_shr hbb (by omega)) ?_
  refine lv_aload_n hx hb d_La_signOf_6 rfl (lv_at hl 0 rfl) ?_
  refine va_getE (q := (R_La, "topExponent", "I", cb_te)) hx hb hE.2.1 hi hS hown (List.mem_of_getElem? (i := 1) rfl) (hts _ fl_La_33) (fun _ h9 => h9) d_La_signOf_7 ?_
  refine lv_topi (fun x_3 e_4 => ?_)
  obtain rfl : x_3 = nI (2 ^ EB i - 1) := e_4.trans (la_te i hi)
  refine lv_iconst (v := 1) hx hb d_La_signOf_10 (by decide) ?_
  refine lv_iadd hx hb d_La_signOf_11 ?_
  refine lv_topi (fun x_5 e_6 => ?_)
  obtain rfl : x_5 = nI (2 ^ EB i) := e_6.trans ((nI_1 _).trans (by rw [Nat.sub_add_cancel Nat.one_le_two_pow]))
  have hp11 : 2 ^ EB i ≤ 2 ^ 11 := Nat.pow_le_pow_right (by decide) (by omega)
  have hdd : b / 2 ^ FB i / 2 ^ EB i = b / 2 ^ (FB i + EB i) := by rw [Nat.div_div_eq_div_mul, Nat.pow_add]
  have hbw := lN_bitw (n := b / 2 ^ FB i) (k := EB i) (Nat.lt_of_le_of_lt (Nat.div_le_self _ _) hbb) (by omega)
  rw [hdd] at hbw
  refine lv_i2l (v := lN (2 ^ EB i)) hx hb d_La_signOf_12 (nI_l (by omega)) ?_
  refine lv_land hx hb d_La_signOf_13 ?_
  refine lv_lconst (v := 0) hx hb d_La_signOf_14 (by decide) ?_
  refine lx_eq (tgt := 23) hx hb d_La_signOf_15 d_La_signOf_16 (by decide) (fun hz => ?_) (fun hz => ?_)
  · have h0 : b / 2 ^ (FB i + EB i) % 2 = 0 := hbw.mp hz
    refine lv_iconst (v := 0) hx hb d_La_signOf_23 (by decide) ?_
    exact hret _ _ _ _ _ () d_La_signOf_24 rfl (by rw [h0]; rfl) hP hK hD hS
  · have h0 : b / 2 ^ (FB i + EB i) % 2 = 1 := by have := mt hbw.mpr hz; omega
    refine lv_iconst (v := 1) hx hb d_La_signOf_19 (by decide) ?_
    refine lv_goto (tgt := 24) hx hb d_La_signOf_20 (by decide) ?_
    exact hret _ _ _ _ _ () d_La_signOf_24 rfl (by rw [h0]; rfl) hP hK hD hS
set_option maxHeartbeats 4000000 in
set_option maxRecDepth 100000 in
theorem c_La_binaryExponentOf (l : Launch) (dC : Nat → ClassId) (dI : Nat → Nat → Nat) (sz : Nat) (ad adK adV : Nat → Nat) (i : Nat) (e9 : Nat) (hi : i < 2) (he9 : e9 < 4096) : Met l y_La_binaryExponentOf (Cond.code y_La_binaryExponentOf b_La_binaryExponentOf 2 (some .int) :: gT) ({ frames := 1, cells := 0, slots := 0, locals := 21 }) (va_Pc [.ref (ad i), .int (nI e9)] (pw_P (dC, dI) cls [] (cb_E ad adK adV) [] sz)) (va_Qi (fun (r : Int32) (uu : Unit) => r = iZ (((max e9 1 : Nat) : Int) - BI i)) (fun (uu : Unit) => pw_B (dC, dI) cls [] (va_A [] sz) []) (va_A [] sz)) 0 0 (va_A [] sz) := by
  refine pw_meti (tn := fun (uu : Unit) => []) (wn := fun (uu : Unit) => []) (by decide) (Nat.le_of_ble_eq_true rfl) ?_
  intro p e s m args below meth c A Q H ls hx hb hml hown hts hA hE hP hK hD hS hret hl
  have hown : s.vm.findClass R_La = some m.cls := hown
  have hl : lv_has ls 2 [(0, .ref (ad i)), (1, .int (nI e9))] := hl
  have hb9 := la_b i
  refine lv_iload_n hx hb d_La_binaryExponentOf_0 rfl (lv_at hl 1 rfl) ?_
  refine lv_iconst (v := 1) hx hb d_La_binaryExponentOf_1 (by decide) ?_
  refine va_mmax hx hb (hml.trans hl.1.symm) hown (hts _ ml_La_50) (hts _ sta_Ma_max) (hts _ ini_Ma) (hts _ cod_Ma_max) (Nat.le_of_ble_eq_true rfl) (Nat.le_of_ble_eq_true rfl) (Nat.zero_le _) (Nat.zero_le _) d_La_binaryExponentOf_2 ?_
  refine lv_topi (fun x_1 e_2 => ?_)
  obtain rfl : x_1 = nI (max e9 1) := e_2.trans (iZ_max e9 1 (by omega) (by omega))
  refine lv_aload_n hx hb d_La_binaryExponentOf_5 rfl (lv_at hl 0 rfl) ?_
  refine va_getE (q := (R_La, "bias", "I", cb_bi)) hx hb hE.2.1 hi hS hown (List.mem_of_getElem? (i := 2) rfl) (hts _ fl_La_36) (fun _ h9 => h9) d_La_binaryExponentOf_6 ?_
  refine lv_topi (fun x_3 e_4 => ?_)
  obtain rfl : x_3 = nI (BI i) := e_4.trans (la_bi i hi)
  refine lv_isub hx hb d_La_binaryExponentOf_9 ?_
  refine lv_topi (fun x_5 e_6 => ?_)
  obtain rfl : x_5 = iZ (((max e9 1 : Nat) : Int) - BI i) := e_6.trans (by rw [iZ_N, iZ_N]; exact iZ_sub _ _)
  exact hret _ _ _ _ _ () d_La_binaryExponentOf_10 (vp_nar_int _) rfl hP hK hD hS
set_option maxHeartbeats 4000000 in
set_option maxRecDepth 100000 in
theorem c_La_powerOf (l : Launch) (dC : Nat → ClassId) (dI : Nat → Nat → Nat) (sz : Nat) (ad adK adV : Nat → Nat) (i : Nat) (e9 : Nat) (hi : i < 2) (he9 : e9 < 4096) : Met l y_La_powerOf (Cond.code y_La_powerOf b_La_powerOf 2 (some .int) :: gT) ({ frames := 2, cells := 0, slots := 0, locals := 42 }) (va_Pc [.ref (ad i), .int (nI e9)] (pw_P (dC, dI) cls [] (cb_E ad adK adV) [] sz)) (va_Qi (fun (r : Int32) (uu : Unit) => r = iZ (((max e9 1 : Nat) : Int) - BI i - FB i)) (fun (uu : Unit) => pw_B (dC, dI) cls [] (va_A [] sz) []) (va_A [] sz)) 0 0 (va_A [] sz) := by
  refine pw_meti (tn := fun (uu : Unit) => []) (wn := fun (uu : Unit) => []) (by decide) (Nat.le_of_ble_eq_true rfl) ?_
  intro p e s m args below meth c A Q H ls hx hb hml hown hts hA hE hP hK hD hS hret hl
  have hown : s.vm.findClass R_La = some m.cls := hown
  have hl : lv_has ls 2 [(0, .ref (ad i)), (1, .int (nI e9))] := hl
  have hb9 := la_b i
  refine lv_aload_n hx hb d_La_powerOf_0 rfl (lv_at hl 0 rfl) ?_
  refine lv_iload_n hx hb d_La_powerOf_1 rfl (lv_at hl 1 rfl) ?_
  refine pw_calli (wc := []) (wr := []) [] [] rfl rfl rfl (by decide) (by decide) (by decide) hP hD hS hA (fun hPc hDc hF => va_runV (As := [.int (nI e9)]) (rest := []) ⟨hx, hb, hml, hown, hts⟩ (c_La_binaryExponentOf l dC dI H.size ad adK adV i e9 hi he9) (cwV 1 hts (gw_V (gw_self cod_La_binaryExponentOf) ml_La_56 im_La_binaryExponentOf sel_La_binaryExponentOf ini_La) rfl rfl rfl (by decide +kernel) ⟨Nat.le_of_ble_eq_true rfl, Nat.le_of_ble_eq_true rfl⟩) (pw_preV (cb_E_ok ad adK adV) hE hS hF hPc hDc (hK.sub [] rfl) (va_recvE hE.2.1 hi hS)) rfl rfl hl.1 rfl (lv_room (Nat.le_of_ble_eq_true rfl)) d_La_powerOf_2 ⟨Nat.le_of_ble_eq_true rfl, Nat.le_of_ble_eq_true rfl⟩) (fun r5 u5 H locs hw5 hK1 hP hD hS => ?_)
  have hP : va_P (dC, dI) cls [] H := hP
  have hD : va_D A [] := hD
  subst hw5
  refine lv_aload_n hx hb d_La_powerOf_5 rfl (lv_at hl 0 rfl) ?_
  refine va_getE (q := (R_La, "fractionBits", "I", cb_fb)) hx hb hE.2.1 hi hS hown (List.mem_of_getElem? (i := 0) rfl) (hts _ fl_La_29) (fun _ h9 => h9) d_La_powerOf_6 ?_
  refine lv_topi (fun x_1 e_2 => ?_)
  obtain rfl : x_1 = nI (FB i) := e_2.trans (la_fb i hi)
  refine lv_isub hx hb d_La_powerOf_9 ?_
  refine lv_topi (fun x_3 e_4 => ?_)
  obtain rfl : x_3 = iZ (((max e9 1 : Nat) : Int) - BI i - FB i) := e_4.trans (by rw [iZ_N]; exact iZ_sub _ _)
  exact hret _ _ _ _ _ () d_La_powerOf_10 (vp_nar_int _) rfl hP hK hD hS
end
section
/-! WHAT THE CLASS PRINTS -/
def kdo (i e fr : Nat) : Nat := if e = 2 ^ EB i - 1 then (if fr = 0 then 2 else 1) else if e = 0 ∧ fr = 0 then 3 else 4
theorem kdo_le (i e fr : Nat) : 1 ≤ kdo i e fr ∧ kdo i e fr ≤ 4 := by
  unfold kdo
  split
  · split <;> omega
  · split <;> omega
/-- the digits' codes from the place of ten a down to b -/
def plc (D : Nat) (T a : Int) : Nat → List Nat
  | 0 => []
  | k + 1 => dga D (a - T) :: plc D T (a - 1) k
theorem plc_len (D : Nat) (T : Int) : ∀ (k : Nat) (a : Int), (plc D T a k).length = k := by
  intro k
  induction k with
  | zero => intro a; rfl
  | succ k ih => intro a; rw [plc, List.length_cons, ih]
def pls (D : Nat) (T a b : Int) : List Nat := plc D T a (a - b + 1).toNat
theorem pls_len (D : Nat) (T a b : Int) : (pls D T a b).length = (a - b + 1).toNat := plc_len D T _ a
def dtx (lo hi : Int) (D n : Nat) (T : Int) : List Nat :=
  if lo ≤ T + n - 1 ∧ T + n - 1 < hi then pls D T (max (T + n - 1) 0) 0 ++ ([46] ++ pls D T (-1) (min T (-1)))
  else pls D T (T + n - 1) (T + n - 1) ++ ([46] ++ (pls D T (T + n - 1 - 1) (min T (T + n - 1 - 1)) ++ ([69] ++ dwz (T + n - 1))))
theorem iZ_maxz (a b : Int) (h1 : -2 ^ 30 < a) (h2 : a < 2 ^ 30) (h3 : -2 ^ 30 < b) (h4 : b < 2 ^ 30) : (if iZ a < iZ b then iZ b else iZ a) = iZ (max a b) := by
  by_cases h : a < b
  · rw [if_pos ((iZ_lt (by omega) (by omega) (by omega) (by omega)).mpr h), Int.max_eq_right (by omega)]
  · rw [if_neg (fun q => h ((iZ_lt (by omega) (by omega) (by omega) (by omega)).mp q)), Int.max_eq_left (by omega)]
theorem iZ_minz (a b : Int) (h1 : -2 ^ 30 < a) (h2 : a < 2 ^ 30) (h3 : -2 ^ 30 < b) (h4 : b < 2 ^ 30) : (if iZ b < iZ a then iZ b else iZ a) = iZ (min a b) := by
  by_cases h : b < a
  · rw [if_pos ((iZ_lt (by omega) (by omega) (by omega) (by omega)).mpr h), Int.min_eq_right (by omega)]
  · rw [if_neg (fun q => h ((iZ_lt (by omega) (by omega) (by omega) (by omega)).mp q)), Int.min_eq_left (by omega)]
/-- the hexadecimal text, without the sign -/
def htxt (i b : Nat) : List Nat := cb_str.getD (if b / 2 ^ FB i % 2 ^ EB i = 0 then 3 else 4) [] ++ (hxl (b % 2 ^ FB i * 2 ^ (4 * HX i - FB i)) (HX i) (HX i) ++ ([112] ++ dwz (((max (b / 2 ^ FB i % 2 ^ EB i) 1 : Nat) : Int) - BI i)))
end
section
set_option maxHeartbeats 4000000 in
set_option maxRecDepth 100000 in
/-- kindOf -/
theorem c_Bt_kindOf (l : Launch) (dC : Nat → ClassId) (dI : Nat → Nat → Nat) (sz : Nat) (ad adK adV : Nat → Nat) (i e9 fr : Nat) (hi : i < 2) (he9 : e9 < 2 ^ 31) (hfr : fr < 2 ^ 63) : Met l y_Bt_kindOf (Cond.code y_Bt_kindOf b_Bt_kindOf 4 (some .int) :: gT) ({ frames := 0, cells := 0, slots := 0, locals := 0 }) (va_Pc [.ref (ad i), .int (nI e9), .long (lN fr)] (pw_P (dC, dI) cls [] (cb_E ad adK adV) [] sz)) (va_Qi (fun (r : Int32) (uu : Unit) => r = nI (kdo i e9 fr)) (fun (uu : Unit) => pw_B (dC, dI) cls [] (va_A [] sz) []) (va_A [] sz)) 0 0 (va_A [] sz) := by
  refine pw_meti (tn := fun (uu : Unit) => []) (wn := fun (uu : Unit) => []) (by decide) (Nat.le_of_ble_eq_true rfl) ?_
  intro p e s m args below meth c A Q H ls hx hb hml hown hts hA hE hP hK hD hS hret hl
  have hown : s.vm.findClass R_Bt = some m.cls := hown
  have hl : lv_has ls 4 [(0, .ref (ad i)), (1, .int (nI e9)), (2, .long (lN fr))] := hl
  have hb9 := la_b i
  have hp11 : 2 ^ EB i ≤ 2 ^ 11 := Nat.pow_le_pow_right (by decide) (by omega)
  refine lv_iload_n hx hb d_Bt_kindOf_0 rfl (lv_at hl 1 rfl) ?_
  refine lv_aload_n hx hb d_Bt_kindOf_1 rfl (lv_at hl 0 rfl) ?_
  refine va_getE (q := (R_La, "topExponent", "I", cb_te)) hx hb hE.2.1 hi hS hown (List.mem_of_getElem? (i := 1) rfl) (hts _ fl_Bt_127) (fun _ h9 => h9) d_Bt_kindOf_2 ?_
  refine lv_topi (fun x_1 e_2 => ?_)
  obtain rfl : x_1 = nI (2 ^ EB i - 1) := e_2.trans (la_te i hi)
  refine lv_icmp_ne (tgt := 20) hx hb d_Bt_kindOf_5 (by decide) (fun hc => ?_) (fun hc => ?_)
  · have hne : e9 ≠ 2 ^ EB i - 1 := fun q => hc (by rw [q])
    refine lv_iload_n hx hb d_Bt_kindOf_20 rfl (lv_at hl 1 rfl) ?_
    refine lv_if_ne (tgt := 34) hx hb d_Bt_kindOf_21 (by decide) (fun hc2 => ?_) (fun hc2 => ?_)
    · have h0 : e9 ≠ 0 := fun q => hc2 (by rw [q]; rfl)
      have hk : kdo i e9 fr = 4 := by unfold kdo; rw [if_neg hne, if_neg (by omega)]
      refine lv_iconst (v := 4) hx hb d_Bt_kindOf_34 (by decide) ?_
      exact hret _ _ _ _ _ () d_Bt_kindOf_35 (vp_nar_int _) (by rw [hk]; rfl) hP hK hD hS
    · have h0 : e9 = 0 := (nI_eq (b := 0) he9 (by omega)).mp hc2
      refine lv_lload_n hx hb d_Bt_kindOf_24 rfl (lv_at hl 2 rfl) ?_
      refine lv_lconst (v := 0) hx hb d_Bt_kindOf_25 (by decide) ?_
      refine lx_ne (tgt := 34) hx hb d_Bt_kindOf_26 d_Bt_kindOf_27 (by decide) (fun hc3 => ?_) (fun hc3 => ?_)
      · have h1 : fr ≠ 0 := fun q => hc3 (by rw [q]; rfl)
        have hk : kdo i e9 fr = 4 := by unfold kdo; rw [if_neg hne, if_neg (by omega)]
        refine lv_iconst (v := 4) hx hb d_Bt_kindOf_34 (by decide) ?_
        exact hret _ _ _ _ _ () d_Bt_kindOf_35 (vp_nar_int _) (by rw [hk]; rfl) hP hK hD hS
      · have h1 : fr = 0 := (pk_lEQ (a := fr) (b := 0) hfr (by omega)).mp hc3
        have hk : kdo i e9 fr = 3 := by unfold kdo; rw [if_neg hne, if_pos ⟨h0, h1⟩]
        refine lv_iconst (v := 3) hx hb d_Bt_kindOf_30 (by decide) ?_
        refine lv_goto (tgt := 35) hx hb d_Bt_kindOf_31 (by decide) ?_
        exact hret _ _ _ _ _ () d_Bt_kindOf_35 (vp_nar_int _) (by rw [hk]; rfl) hP hK hD hS
  · have he : e9 = 2 ^ EB i - 1 := (nI_eq he9 (by omega)).mp hc
    refine lv_lload_n hx hb d_Bt_kindOf_8 rfl (lv_at hl 2 rfl) ?_
    refine lv_lconst (v := 0) hx hb d_Bt_kindOf_9 (by decide) ?_
    refine lx_ne (tgt := 18) hx hb d_Bt_kindOf_10 d_Bt_kindOf_11 (by decide) (fun hc3 => ?_) (fun hc3 => ?_)
    · have h1 : fr ≠ 0 := fun q => hc3 (by rw [q]; rfl)
      have hk : kdo i e9 fr = 1 := by unfold kdo; rw [if_pos he, if_neg h1]
      refine lv_iconst (v := 1) hx hb d_Bt_kindOf_18 (by decide) ?_
      exact hret _ _ _ _ _ () d_Bt_kindOf_19 (vp_nar_int _) (by rw [hk]; rfl) hP hK hD hS
    · have h1 : fr = 0 := (pk_lEQ (a := fr) (b := 0) hfr (by omega)).mp hc3
      have hk : kdo i e9 fr = 2 := by unfold kdo; rw [if_pos he, if_pos h1]
      refine lv_iconst (v := 2) hx hb d_Bt_kindOf_14 (by decide) ?_
      refine lv_goto (tgt := 19) hx hb d_Bt_kindOf_15 (by decide) ?_
      exact hret _ _ _ _ _ () d_Bt_kindOf_19 (vp_nar_int _) (by rw [hk]; rfl) hP hK hD hS
set_option maxHeartbeats 4000000 in
set_option maxRecDepth 100000 in
/-- putPlaces -/
theorem c_Bt_putPlaces (l : Launch) (dC : Nat → ClassId) (dI : Nat → Nat → Nat) (sz : Nat) (hB hf q1 w1 q2 w2 q3 w3 hd wd ht wt : Nat) (cJ cC : ClassId) (lo hi9 : Int) (kd mi : Nat) (X U O : Nat) (xu xa xo : Int32) (g : Nat → Int32) (n D : Nat) (T : Int) (f : Nat → Int32) (t : List Nat) (a b : Int)  (hn : isnd D n) (hg : dgs g D n) (hD9 : D < 2 ^ 63) (hT1 : -2 ^ 19 < T) (hT2 : T < 2 ^ 19) (htx : tx f t) (ha1 : -2 ^ 19 < a) (ha2 : a < 2 ^ 19) (hb1 : -2 ^ 19 < b) (hb2 : b < 2 ^ 19) (hlen : t.length + (a - b + 1).toNat ≤ 64) : Met l y_Bt_putPlaces (Cond.code y_Bt_putPlaces b_Bt_putPlaces 4 none :: gT) ({ frames := 1, cells := 0, slots := 0, locals := 22 }) (va_Pc [.ref hB, .int (iZ a), .int (iZ b)] (pw_P (dC, dI) cls [(cJ, .long), (cC, .char)] pw_0 [(hB, .inr (4, [.ref hf, .ref hd, .ref ht, .int (iZ lo), .int (iZ hi9), .int (nI kd), .int (nI mi)])), (hf, .inr (1, [.ref q1, .ref q2, .ref q3])), (q1, .inr (2, [.ref w1, .int xu])), (w1, .inl (cJ, 26, .inr (.inl (bn_f X)))), (q2, .inr (2, [.ref w2, .int xa])), (w2, .inl (cJ, 26, .inr (.inl (bn_f U)))), (q3, .inr (2, [.ref w3, .int xo])), (w3, .inl (cJ, 26, .inr (.inl (bn_f O)))), (hd, .inr (0, [.ref wd, .int (nI n), .long (lN D), .int (iZ T)])), (wd, .inl (cC, 19, .inl (g))), (ht, .inr (3, [.ref wt, .int (nI t.length)])), (wt, .inl (cC, 64, .inl (f)))] sz)) (va_Qv (fun (f2 : Nat → Int32) => tx f2 (t ++ pls D T a b)) (fun (f2 : Nat → Int32) => pw_B (dC, dI) cls [(cJ, .long), (cC, .char)] (va_A [(hB, .inr (4, [.ref hf, .ref hd, .ref ht, .int (iZ lo), .int (iZ hi9), .int (nI kd), .int (nI mi)])), (hf, .inr (1, [.ref q1, .ref q2, .ref q3])), (q1, .inr (2, [.ref w1, .int xu])), (w1, .inl (cJ, 26, .inr (.inl (bn_f X)))), (q2, .inr (2, [.ref w2, .int xa])), (w2, .inl (cJ, 26, .inr (.inl (bn_f U)))), (q3, .inr (2, [.ref w3, .int xo])), (w3, .inl (cJ, 26, .inr (.inl (bn_f O)))), (hd, .inr (0, [.ref wd, .int (nI n), .long (lN D), .int (iZ T)])), (wd, .inl (cC, 19, .inl (g))), (ht, .inr (3, [.ref wt, .int (nI t.length)])), (wt, .inl (cC, 64, .inl (f)))] sz) [(hB, .inr (4, [.ref hf, .ref hd, .ref ht, .int (iZ lo), .int (iZ hi9), .int (nI kd), .int (nI mi)])), (hf, .inr (1, [.ref q1, .ref q2, .ref q3])), (q1, .inr (2, [.ref w1, .int xu])), (w1, .inl (cJ, 26, .inr (.inl (bn_f X)))), (q2, .inr (2, [.ref w2, .int xa])), (w2, .inl (cJ, 26, .inr (.inl (bn_f U)))), (q3, .inr (2, [.ref w3, .int xo])), (w3, .inl (cJ, 26, .inr (.inl (bn_f O)))), (hd, .inr (0, [.ref wd, .int (nI n), .long (lN D), .int (iZ T)])), (wd, .inl (cC, 19, .inl (g))), (ht, .inr (3, [.ref wt, .int (nI (t ++ pls D T a b).length)])), (wt, .inl (cC, 64, .inl (f2)))]) (va_A [(hB, .inr (4, [.ref hf, .ref hd, .ref ht, .int (iZ lo), .int (iZ hi9), .int (nI kd), .int (nI mi)])), (hf, .inr (1, [.ref q1, .ref q2, .ref q3])), (q1, .inr (2, [.ref w1, .int xu])), (w1, .inl (cJ, 26, .inr (.inl (bn_f X)))), (q2, .inr (2, [.ref w2, .int xa])), (w2, .inl (cJ, 26, .inr (.inl (bn_f U)))), (q3, .inr (2, [.ref w3, .int xo])), (w3, .inl (cJ, 26, .inr (.inl (bn_f O)))), (hd, .inr (0, [.ref wd, .int (nI n), .long (lN D), .int (iZ T)])), (wd, .inl (cC, 19, .inl (g))), (ht, .inr (3, [.ref wt, .int (nI t.length)])), (wt, .inl (cC, 64, .inl (f)))] sz)) 0 0 (va_A [(hB, .inr (4, [.ref hf, .ref hd, .ref ht, .int (iZ lo), .int (iZ hi9), .int (nI kd), .int (nI mi)])), (hf, .inr (1, [.ref q1, .ref q2, .ref q3])), (q1, .inr (2, [.ref w1, .int xu])), (w1, .inl (cJ, 26, .inr (.inl (bn_f X)))), (q2, .inr (2, [.ref w2, .int xa])), (w2, .inl (cJ, 26, .inr (.inl (bn_f U)))), (q3, .inr (2, [.ref w3, .int xo])), (w3, .inl (cJ, 26, .inr (.inl (bn_f O)))), (hd, .inr (0, [.ref wd, .int (nI n), .long (lN D), .int (iZ T)])), (wd, .inl (cC, 19, .inl (g))), (ht, .inr (3, [.ref wt, .int (nI t.length)])), (wt, .inl (cC, 64, .inl (f)))] sz) := by
  refine pw_metv (tn := fun (f2 : Nat → Int32) => [(cJ, .long), (cC, .char)]) (wn := fun (f2 : Nat → Int32) => [(hB, .inr (4, [.ref hf, .ref hd, .ref ht, .int (iZ lo), .int (iZ hi9), .int (nI kd), .int (nI mi)])), (hf, .inr (1, [.ref q1, .ref q2, .ref q3])), (q1, .inr (2, [.ref w1, .int xu])), (w1, .inl (cJ, 26, .inr (.inl (bn_f X)))), (q2, .inr (2, [.ref w2, .int xa])), (w2, .inl (cJ, 26, .inr (.inl (bn_f U)))), (q3, .inr (2, [.ref w3, .int xo])), (w3, .inl (cJ, 26, .inr (.inl (bn_f O)))), (hd, .inr (0, [.ref wd, .int (nI n), .long (lN D), .int (iZ T)])), (wd, .inl (cC, 19, .inl (g))), (ht, .inr (3, [.ref wt, .int (nI (t ++ pls D T a b).length)])), (wt, .inl (cC, 64, .inl (f2)))]) (by decide) (Nat.le_of_ble_eq_true rfl) ?_
  intro p e s m args below meth c A Q H ls hx hb hml hown hts hnm hA hE hP hK hD hS hret hl
  have hown : s.vm.findClass R_Bt = some m.cls := hown
  have hl : lv_has ls 4 [(0, .ref hB), (1, .int (iZ a)), (2, .int (iZ b))] := hl
  refine lv_iload_n hx hb d_Bt_putPlaces_0 rfl (lv_at hl 1 rfl) ?_
  refine lv_istore_n (lv' := [(3, .int (iZ a)), (0, .ref hB), (1, .int (iZ a)), (2, .int (iZ b))]) hx hb d_Bt_putPlaces_1 rfl hl (by decide) rfl (fun ls hl => ?_)
  have lp : ∀ (k : Nat) (y : Int) (f : Nat → Int32) (tt : List Nat) (H : Heap) (locs : List Loc) (ls : Array Slot), ((y - b + 1).toNat < k) → (-2 ^ 20 < y) → (y < 2 ^ 19) → (tx f tt) → (tt ++ plc D T y (y - b + 1).toNat = t ++ pls D T a b) → (tt.length + (y - b + 1).toNat ≤ 64) → va_P (dC, dI) cls [(hB, .inr (4, [.ref hf, .ref hd, .ref ht, .int (iZ lo), .int (iZ hi9), .int (nI kd), .int (nI mi)])), (hf, .inr (1, [.ref q1, .ref q2, .ref q3])), (q1, .inr (2, [.ref w1, .int xu])), (w1, .inl (cJ, 26, .inr (.inl (bn_f X)))), (q2, .inr (2, [.ref w2, .int xa])), (w2, .inl (cJ, 26, .inr (.inl (bn_f U)))), (q3, .inr (2, [.ref w3, .int xo])), (w3, .inl (cJ, 26, .inr (.inl (bn_f O)))), (hd, .inr (0, [.ref wd, .int (nI n), .long (lN D), .int (iZ T)])), (wd, .inl (cC, 19, .inl (g))), (ht, .inr (3, [.ref wt, .int (nI tt.length)])), (wt, .inl (cC, 64, .inl (f)))] H → va_D A [(hB, .inr (4, [.ref hf, .ref hd, .ref ht, .int (iZ lo), .int (iZ hi9), .int (nI kd), .int (nI mi)])), (hf, .inr (1, [.ref q1, .ref q2, .ref q3])), (q1, .inr (2, [.ref w1, .int xu])), (w1, .inl (cJ, 26, .inr (.inl (bn_f X)))), (q2, .inr (2, [.ref w2, .int xa])), (w2, .inl (cJ, 26, .inr (.inl (bn_f U)))), (q3, .inr (2, [.ref w3, .int xo])), (w3, .inl (cJ, 26, .inr (.inl (bn_f O)))), (hd, .inr (0, [.ref wd, .int (nI n), .long (lN D), .int (iZ T)])), (wd, .inl (cC, 19, .inl (g))), (ht, .inr (3, [.ref wt, .int (nI tt.length)])), (wt, .inl (cC, 64, .inl (f)))] → va_S A s.heap H locs → lv_has ls 4 [(3, .int (iZ y)), (0, .ref hB), (1, .int (iZ a)), (2, .int (iZ b))] → W p l e { frames := 1, cells := 0, slots := 0, locals := 22 } s m args below meth c H locs 0 0 Q (F0 m 2 ls []) := by
    intro k
    induction k with
    | zero => intro y f tt H locs ls hk hy1 hy2 htx he hl9 hP hD hS hl; exact absurd hk (by omega)
    | succ k ih =>
      intro y f tt H locs ls hk hy1 hy2 htx he hl9 hP hD hS hl
      refine lv_iload_n hx hb d_Bt_putPlaces_2 rfl (lv_at hl 0 rfl) ?_
      refine lv_iload_n hx hb d_Bt_putPlaces_3 rfl (lv_at hl 3 rfl) ?_
      refine lv_icmp_lt (tgt := 28) hx hb d_Bt_putPlaces_4 (by decide) (fun hc => ?_) (fun hc => ?_)
      · have hlt : y < b := (iZ_lt (by omega) (by omega) (by omega) (by omega)).mp hc
        rw [show (y - b + 1).toNat = 0 from by omega, plc, List.append_nil] at he
        rw [he] at htx hP hD
        exact hret _ _ _ _ f d_Bt_putPlaces_28 htx hP hK hD hS
      · have hge : b ≤ y := by have := mt (iZ_lt (a := y) (b := b) (by omega) (by omega) (by omega) (by omega)).mpr hc; omega
        have hk2 : (y - b + 1).toNat = (y + -1 - b + 1).toNat + 1 := by omega
        rw [hk2, plc] at he
        refine lv_aload_n hx hb d_Bt_putPlaces_7 rfl (lv_at hl 1 rfl) ?_
        refine va_get (D := (dC, dI)) (ci := 4) (v := .ref ht) (C := R_Bt) (T := F_Bt) (N := 7) hx hb hts i_Bt hown hK hP 0 rfl rfl 2 (by decide) (hts _ fl_Bt_26) (fun _ h9 => h9) rfl d_Bt_putPlaces_8 ?_
        refine lv_aload_n hx hb d_Bt_putPlaces_11 rfl (lv_at hl 1 rfl) ?_
        refine va_get (D := (dC, dI)) (ci := 4) (v := .ref hd) (C := R_Bt) (T := F_Bt) (N := 7) hx hb hts i_Bt hown hK hP 0 rfl rfl 1 (by decide) (hts _ fl_Bt_19) (fun _ h9 => h9) rfl d_Bt_putPlaces_12 ?_
        refine lv_iload_n hx hb d_Bt_putPlaces_15 rfl (lv_at hl 0 rfl) ?_
        have hdl := dga_lt D (y - T)
        refine pw_calli (wc := [(hd, .inr (0, [.ref wd, .int (nI n), .long (lN D), .int (iZ T)])), (wd, .inl (cC, 19, .inl (g)))]) (wr := [(hB, .inr (4, [.ref hf, .ref hd, .ref ht, .int (iZ lo), .int (iZ hi9), .int (nI kd), .int (nI mi)])), (hf, .inr (1, [.ref q1, .ref q2, .ref q3])), (q1, .inr (2, [.ref w1, .int xu])), (w1, .inl (cJ, 26, .inr (.inl (bn_f X)))), (q2, .inr (2, [.ref w2, .int xa])), (w2, .inl (cJ, 26, .inr (.inl (bn_f U)))), (q3, .inr (2, [.ref w3, .int xo])), (w3, .inl (cJ, 26, .inr (.inl (bn_f O)))), (ht, .inr (3, [.ref wt, .int (nI tt.length)])), (wt, .inl (cC, 64, .inl (f)))]) [8, 9] [0, 1, 2, 3, 4, 5, 6, 7, 10, 11] rfl rfl rfl (by decide) (by decide) (by decide) hP hD hS hA (fun hPc hDc hF => va_runV (As := [.int (iZ y)]) (rest := [.ref ht]) ⟨hx, hb, hml, hown, hts⟩ (c_De_digitAt l dC dI H.size hd wd cC g D n T y hn hg hD9 (by omega) (by omega) (by omega) (by omega)) (cwV 1 hts (gw_V (gw_self cod_De_digitAt) ml_Bt_158 im_De_digitAt sel_De_digitAt ini_De) rfl rfl rfl (by decide +kernel) ⟨Nat.le_of_ble_eq_true rfl, Nat.le_of_ble_eq_true rfl⟩) (pw_preV pw_0_ok (trivial : pw_0 A s s.heap) hS hF hPc hDc (hK.sub [1] rfl) (va_recv hK hPc (ci := 0) (q0 := 0) rfl rfl)) rfl rfl hl.1 rfl (lv_room (Nat.le_of_ble_eq_true rfl)) d_Bt_putPlaces_16 ⟨Nat.le_of_ble_eq_true rfl, Nat.le_of_ble_eq_true rfl⟩) (fun r5 u5 H locs hw5 hK1 hP hD hS => ?_)
        have hP : va_P (dC, dI) cls [(hB, .inr (4, [.ref hf, .ref hd, .ref ht, .int (iZ lo), .int (iZ hi9), .int (nI kd), .int (nI mi)])), (hf, .inr (1, [.ref q1, .ref q2, .ref q3])), (q1, .inr (2, [.ref w1, .int xu])), (w1, .inl (cJ, 26, .inr (.inl (bn_f X)))), (q2, .inr (2, [.ref w2, .int xa])), (w2, .inl (cJ, 26, .inr (.inl (bn_f U)))), (q3, .inr (2, [.ref w3, .int xo])), (w3, .inl (cJ, 26, .inr (.inl (bn_f O)))), (hd, .inr (0, [.ref wd, .int (nI n), .long (lN D), .int (iZ T)])), (wd, .inl (cC, 19, .inl (g))), (ht, .inr (3, [.ref wt, .int (nI tt.length)])), (wt, .inl (cC, 64, .inl (f)))] H := hP.sub [0, 1, 2, 3, 4, 5, 6, 7, 10, 11, 8, 9] rfl
        have hD : va_D A [(hB, .inr (4, [.ref hf, .ref hd, .ref ht, .int (iZ lo), .int (iZ hi9), .int (nI kd), .int (nI mi)])), (hf, .inr (1, [.ref q1, .ref q2, .ref q3])), (q1, .inr (2, [.ref w1, .int xu])), (w1, .inl (cJ, 26, .inr (.inl (bn_f X)))), (q2, .inr (2, [.ref w2, .int xa])), (w2, .inl (cJ, 26, .inr (.inl (bn_f U)))), (q3, .inr (2, [.ref w3, .int xo])), (w3, .inl (cJ, 26, .inr (.inl (bn_f O)))), (hd, .inr (0, [.ref wd, .int (nI n), .long (lN D), .int (iZ T)])), (wd, .inl (cC, 19, .inl (g))), (ht, .inr (3, [.ref wt, .int (nI tt.length)])), (wt, .inl (cC, 64, .inl (f)))] := hD.sub [0, 1, 2, 3, 4, 5, 6, 7, 10, 11, 8, 9] (by decide) rfl
        subst hw5
        refine pw_callv (wc := [(ht, .inr (3, [.ref wt, .int (nI tt.length)])), (wt, .inl (cC, 64, .inl (f)))]) (wr := [(hB, .inr (4, [.ref hf, .ref hd, .ref ht, .int (iZ lo), .int (iZ hi9), .int (nI kd), .int (nI mi)])), (hf, .inr (1, [.ref q1, .ref q2, .ref q3])), (q1, .inr (2, [.ref w1, .int xu])), (w1, .inl (cJ, 26, .inr (.inl (bn_f X)))), (q2, .inr (2, [.ref w2, .int xa])), (w2, .inl (cJ, 26, .inr (.inl (bn_f U)))), (q3, .inr (2, [.ref w3, .int xo])), (w3, .inl (cJ, 26, .inr (.inl (bn_f O)))), (hd, .inr (0, [.ref wd, .int (nI n), .long (lN D), .int (iZ T)])), (wd, .inl (cC, 19, .inl (g)))]) [10, 11] [0, 1, 2, 3, 4, 5, 6, 7, 8, 9] rfl rfl rfl (by decide) (by decide) (by decide) hP hD hS hA (fun hPc hDc hF => va_runV (As := [.int (nI (dga D (y - T)))]) (rest := []) ⟨hx, hb, hml, hown, hts⟩ (c_Te_put l dC dI H.size ht wt cC f tt (dga D (y - T)) htx (by omega) (by omega)) (cwV 1 hts (gw_V (gw_self cod_Te_put) ml_Bt_123 im_Te_put sel_Te_put ini_Te) rfl rfl rfl (by decide +kernel) ⟨Nat.le_of_ble_eq_true rfl, Nat.le_of_ble_eq_true rfl⟩) (pw_preV pw_0_ok (trivial : pw_0 A s s.heap) hS hF hPc hDc (hK.sub [1] rfl) (va_recv hK hPc (ci := 3) (q0 := 0) rfl rfl)) rfl rfl hl.1 rfl (lv_room (Nat.le_of_ble_eq_true rfl)) d_Bt_putPlaces_19 ⟨Nat.le_of_ble_eq_true rfl, Nat.le_of_ble_eq_true rfl⟩) (fun f3 H locs hw3 hK1 hP hD hS => ?_)
        have hP : va_P (dC, dI) cls [(hB, .inr (4, [.ref hf, .ref hd, .ref ht, .int (iZ lo), .int (iZ hi9), .int (nI kd), .int (nI mi)])), (hf, .inr (1, [.ref q1, .ref q2, .ref q3])), (q1, .inr (2, [.ref w1, .int xu])), (w1, .inl (cJ, 26, .inr (.inl (bn_f X)))), (q2, .inr (2, [.ref w2, .int xa])), (w2, .inl (cJ, 26, .inr (.inl (bn_f U)))), (q3, .inr (2, [.ref w3, .int xo])), (w3, .inl (cJ, 26, .inr (.inl (bn_f O)))), (hd, .inr (0, [.ref wd, .int (nI n), .long (lN D), .int (iZ T)])), (wd, .inl (cC, 19, .inl (g))), (ht, .inr (3, [.ref wt, .int (nI (tt ++ [dga D (y - T)]).length)])), (wt, .inl (cC, 64, .inl (f3)))] H := hP
        have hD : va_D A [(hB, .inr (4, [.ref hf, .ref hd, .ref ht, .int (iZ lo), .int (iZ hi9), .int (nI kd), .int (nI mi)])), (hf, .inr (1, [.ref q1, .ref q2, .ref q3])), (q1, .inr (2, [.ref w1, .int xu])), (w1, .inl (cJ, 26, .inr (.inl (bn_f X)))), (q2, .inr (2, [.ref w2, .int xa])), (w2, .inl (cJ, 26, .inr (.inl (bn_f U)))), (q3, .inr (2, [.ref w3, .int xo])), (w3, .inl (cJ, 26, .inr (.inl (bn_f O)))), (hd, .inr (0, [.ref wd, .int (nI n), .long (lN D), .int (iZ T)])), (wd, .inl (cC, 19, .inl (g))), (ht, .inr (3, [.ref wt, .int (nI (tt ++ [dga D (y - T)]).length)])), (wt, .inl (cC, 64, .inl (f3)))] := hD
        refine lv_iinc (v := iZ (y + -1)) (lv' := [(3, .int (iZ (y + -1))), (0, .ref hB), (1, .int (iZ a)), (2, .int (iZ b))]) hx hb d_Bt_putPlaces_22 hl (k := 0) rfl (iZ_add y (-1)) (by decide) rfl (fun ls hl => ?_)
        refine lv_goto (tgt := 2) hx hb d_Bt_putPlaces_25 (by decide) ?_
        exact ih (y + -1) f3 (tt ++ [dga D (y - T)]) H _ ls (by omega) (by omega) (by omega) hw3 (by rw [List.append_assoc, ← he]; rfl) (by rw [List.length_append, List.length_singleton]; omega) hP hD hS (lv_sub hl [0, 1, 2, 3] rfl)
  exact lp ((a - b + 1).toNat + 1) a f t H _ ls (by omega) (by omega) (by omega) htx rfl hlen hP hD hS (lv_sub hl [0, 1, 2, 3] rfl)
end
section
set_option maxHeartbeats 4000000 in
set_option maxRecDepth 100000 in
/-- putDecimal -/
theorem c_Bt_putDecimal (l : Launch) (dC : Nat → ClassId) (dI : Nat → Nat → Nat) (sz : Nat) (ad adK adV : Nat → Nat) (hB hf q1 w1 q2 w2 q3 w3 hd wd ht wt : Nat) (cJ cC : ClassId) (lo hi9 : Int) (kd mi : Nat) (X U O : Nat) (xu xa xo : Int32) (g : Nat → Int32) (n D : Nat) (T : Int) (f : Nat → Int32) (t : List Nat)  (hn : isnd D n) (hg : dgs g D n) (hD9 : D < 2 ^ 63) (htx : tx f t) (hT1 : -4000 < T) (hT2 : T < 4000) (hn1 : 1 ≤ n) (hn2 : n ≤ 18) (hlo1 : -30 ≤ lo) (hlo2 : lo ≤ 0) (hhi1 : 1 ≤ hi9) (hhi2 : hi9 ≤ 30) (htl : t.length ≤ 1) : Met l y_Bt_putDecimal (Cond.code y_Bt_putDecimal b_Bt_putDecimal 2 none :: gT) ({ frames := 2, cells := 0, slots := 0, locals := 45 }) (va_Pc [.ref hB] (pw_P (dC, dI) cls [(cJ, .long), (cC, .char)] (cb_E ad adK adV) [(hB, .inr (4, [.ref hf, .ref hd, .ref ht, .int (iZ lo), .int (iZ hi9), .int (nI kd), .int (nI mi)])), (hf, .inr (1, [.ref q1, .ref q2, .ref q3])), (q1, .inr (2, [.ref w1, .int xu])), (w1, .inl (cJ, 26, .inr (.inl (bn_f X)))), (q2, .inr (2, [.ref w2, .int xa])), (w2, .inl (cJ, 26, .inr (.inl (bn_f U)))), (q3, .inr (2, [.ref w3, .int xo])), (w3, .inl (cJ, 26, .inr (.inl (bn_f O)))), (hd, .inr (0, [.ref wd, .int (nI n), .long (lN D), .int (iZ T)])), (wd, .inl (cC, 19, .inl (g))), (ht, .inr (3, [.ref wt, .int (nI t.length)])), (wt, .inl (cC, 64, .inl (f)))] sz)) (va_Qv (fun (f2 : Nat → Int32) => tx f2 (t ++ dtx lo hi9 D n T)) (fun (f2 : Nat → Int32) => pw_B (dC, dI) cls [(cJ, .long), (cC, .char)] (va_A [(hB, .inr (4, [.ref hf, .ref hd, .ref ht, .int (iZ lo), .int (iZ hi9), .int (nI kd), .int (nI mi)])), (hf, .inr (1, [.ref q1, .ref q2, .ref q3])), (q1, .inr (2, [.ref w1, .int xu])), (w1, .inl (cJ, 26, .inr (.inl (bn_f X)))), (q2, .inr (2, [.ref w2, .int xa])), (w2, .inl (cJ, 26, .inr (.inl (bn_f U)))), (q3, .inr (2, [.ref w3, .int xo])), (w3, .inl (cJ, 26, .inr (.inl (bn_f O)))), (hd, .inr (0, [.ref wd, .int (nI n), .long (lN D), .int (iZ T)])), (wd, .inl (cC, 19, .inl (g))), (ht, .inr (3, [.ref wt, .int (nI t.length)])), (wt, .inl (cC, 64, .inl (f)))] sz) [(hB, .inr (4, [.ref hf, .ref hd, .ref ht, .int (iZ lo), .int (iZ hi9), .int (nI kd), .int (nI mi)])), (hf, .inr (1, [.ref q1, .ref q2, .ref q3])), (q1, .inr (2, [.ref w1, .int xu])), (w1, .inl (cJ, 26, .inr (.inl (bn_f X)))), (q2, .inr (2, [.ref w2, .int xa])), (w2, .inl (cJ, 26, .inr (.inl (bn_f U)))), (q3, .inr (2, [.ref w3, .int xo])), (w3, .inl (cJ, 26, .inr (.inl (bn_f O)))), (hd, .inr (0, [.ref wd, .int (nI n), .long (lN D), .int (iZ T)])), (wd, .inl (cC, 19, .inl (g))), (ht, .inr (3, [.ref wt, .int (nI (t ++ dtx lo hi9 D n T).length)])), (wt, .inl (cC, 64, .inl (f2)))]) (va_A [(hB, .inr (4, [.ref hf, .ref hd, .ref ht, .int (iZ lo), .int (iZ hi9), .int (nI kd), .int (nI mi)])), (hf, .inr (1, [.ref q1, .ref q2, .ref q3])), (q1, .inr (2, [.ref w1, .int xu])), (w1, .inl (cJ, 26, .inr (.inl (bn_f X)))), (q2, .inr (2, [.ref w2, .int xa])), (w2, .inl (cJ, 26, .inr (.inl (bn_f U)))), (q3, .inr (2, [.ref w3, .int xo])), (w3, .inl (cJ, 26, .inr (.inl (bn_f O)))), (hd, .inr (0, [.ref wd, .int (nI n), .long (lN D), .int (iZ T)])), (wd, .inl (cC, 19, .inl (g))), (ht, .inr (3, [.ref wt, .int (nI t.length)])), (wt, .inl (cC, 64, .inl (f)))] sz)) 0 0 (va_A [(hB, .inr (4, [.ref hf, .ref hd, .ref ht, .int (iZ lo), .int (iZ hi9), .int (nI kd), .int (nI mi)])), (hf, .inr (1, [.ref q1, .ref q2, .ref q3])), (q1, .inr (2, [.ref w1, .int xu])), (w1, .inl (cJ, 26, .inr (.inl (bn_f X)))), (q2, .inr (2, [.ref w2, .int xa])), (w2, .inl (cJ, 26, .inr (.inl (bn_f U)))), (q3, .inr (2, [.ref w3, .int xo])), (w3, .inl (cJ, 26, .inr (.inl (bn_f O)))), (hd, .inr (0, [.ref wd, .int (nI n), .long (lN D), .int (iZ T)])), (wd, .inl (cC, 19, .inl (g))), (ht, .inr (3, [.ref wt, .int (nI t.length)])), (wt, .inl (cC, 64, .inl (f)))] sz) := by
  refine pw_metv (tn := fun (f2 : Nat → Int32) => [(cJ, .long), (cC, .char)]) (wn := fun (f2 : Nat → Int32) => [(hB, .inr (4, [.ref hf, .ref hd, .ref ht, .int (iZ lo), .int (iZ hi9), .int (nI kd), .int (nI mi)])), (hf, .inr (1, [.ref q1, .ref q2, .ref q3])), (q1, .inr (2, [.ref w1, .int xu])), (w1, .inl (cJ, 26, .inr (.inl (bn_f X)))), (q2, .inr (2, [.ref w2, .int xa])), (w2, .inl (cJ, 26, .inr (.inl (bn_f U)))), (q3, .inr (2, [.ref w3, .int xo])), (w3, .inl (cJ, 26, .inr (.inl (bn_f O)))), (hd, .inr (0, [.ref wd, .int (nI n), .long (lN D), .int (iZ T)])), (wd, .inl (cC, 19, .inl (g))), (ht, .inr (3, [.ref wt, .int (nI (t ++ dtx lo hi9 D n T).length)])), (wt, .inl (cC, 64, .inl (f2)))]) (by decide) (Nat.le_of_ble_eq_true rfl) ?_
  intro p e s m args below meth c A Q H ls hx hb hml hown hts hnm hA hE hP hK hD hS hret hl
  have hown : s.vm.findClass R_Bt = some m.cls := hown
  have hl : lv_has ls 2 [(0, .ref hB)] := hl
  refine lv_aload_n hx hb d_Bt_putDecimal_0 rfl (lv_at hl 0 rfl) ?_
  refine va_get (D := (dC, dI)) (ci := 4) (v := .ref hd) (C := R_Bt) (T := F_Bt) (N := 7) hx hb hts i_Bt hown hK hP 0 rfl rfl 1 (by decide) (hts _ fl_Bt_19) (fun _ h9 => h9) rfl d_Bt_putDecimal_1 ?_
  refine pw_calli (wc := [(hd, .inr (0, [.ref wd, .int (nI n), .long (lN D), .int (iZ T)])), (wd, .inl (cC, 19, .inl (g)))]) (wr := [(hB, .inr (4, [.ref hf, .ref hd, .ref ht, .int (iZ lo), .int (iZ hi9), .int (nI kd), .int (nI mi)])), (hf, .inr (1, [.ref q1, .ref q2, .ref q3])), (q1, .inr (2, [.ref w1, .int xu])), (w1, .inl (cJ, 26, .inr (.inl (bn_f X)))), (q2, .inr (2, [.ref w2, .int xa])), (w2, .inl (cJ, 26, .inr (.inl (bn_f U)))), (q3, .inr (2, [.ref w3, .int xo])), (w3, .inl (cJ, 26, .inr (.inl (bn_f O)))), (ht, .inr (3, [.ref wt, .int (nI t.length)])), (wt, .inl (cC, 64, .inl (f)))]) [8, 9] [0, 1, 2, 3, 4, 5, 6, 7, 10, 11] rfl rfl rfl (by decide) (by decide) (by decide) hP hD hS hA (fun hPc hDc hF => va_runV (As := []) (rest := []) ⟨hx, hb, hml, hown, hts⟩ (c_De_firstPlace l dC dI H.size hd wd cC g n (lN D) T) (cwV 0 hts (gw_V (gw_self cod_De_firstPlace) ml_Bt_137 im_De_firstPlace sel_De_firstPlace ini_De) rfl rfl rfl (by decide +kernel) ⟨Nat.le_of_ble_eq_true rfl, Nat.le_of_ble_eq_true rfl⟩) (pw_preV pw_0_ok (trivial : pw_0 A s s.heap) hS hF hPc hDc (hK.sub [1] rfl) (va_recv hK hPc (ci := 0) (q0 := 0) rfl rfl)) rfl rfl hl.1 rfl (lv_room (Nat.le_of_ble_eq_true rfl)) d_Bt_putDecimal_4 ⟨Nat.le_of_ble_eq_true rfl, Nat.le_of_ble_eq_true rfl⟩) (fun r5 u5 H locs hw5 hK1 hP hD hS => ?_)
  have hP : va_P (dC, dI) cls [(hB, .inr (4, [.ref hf, .ref hd, .ref ht, .int (iZ lo), .int (iZ hi9), .int (nI kd), .int (nI mi)])), (hf, .inr (1, [.ref q1, .ref q2, .ref q3])), (q1, .inr (2, [.ref w1, .int xu])), (w1, .inl (cJ, 26, .inr (.inl (bn_f X)))), (q2, .inr (2, [.ref w2, .int xa])), (w2, .inl (cJ, 26, .inr (.inl (bn_f U)))), (q3, .inr (2, [.ref w3, .int xo])), (w3, .inl (cJ, 26, .inr (.inl (bn_f O)))), (hd, .inr (0, [.ref wd, .int (nI n), .long (lN D), .int (iZ T)])), (wd, .inl (cC, 19, .inl (g))), (ht, .inr (3, [.ref wt, .int (nI t.length)])), (wt, .inl (cC, 64, .inl (f)))] H := hP.sub [0, 1, 2, 3, 4, 5, 6, 7, 10, 11, 8, 9] rfl
  have hD : va_D A [(hB, .inr (4, [.ref hf, .ref hd, .ref ht, .int (iZ lo), .int (iZ hi9), .int (nI kd), .int (nI mi)])), (hf, .inr (1, [.ref q1, .ref q2, .ref q3])), (q1, .inr (2, [.ref w1, .int xu])), (w1, .inl (cJ, 26, .inr (.inl (bn_f X)))), (q2, .inr (2, [.ref w2, .int xa])), (w2, .inl (cJ, 26, .inr (.inl (bn_f U)))), (q3, .inr (2, [.ref w3, .int xo])), (w3, .inl (cJ, 26, .inr (.inl (bn_f O)))), (hd, .inr (0, [.ref wd, .int (nI n), .long (lN D), .int (iZ T)])), (wd, .inl (cC, 19, .inl (g))), (ht, .inr (3, [.ref wt, .int (nI t.length)])), (wt, .inl (cC, 64, .inl (f)))] := hD.sub [0, 1, 2, 3, 4, 5, 6, 7, 10, 11, 8, 9] (by decide) rfl
  subst hw5
  obtain ⟨F, hF⟩ : ∃ F : Int, F = T + n - 1 := ⟨_, rfl⟩
  rw [← hF]
  refine lv_istore_n (lv' := [(1, .int (iZ F)), (0, .ref hB)]) hx hb d_Bt_putDecimal_7 rfl hl (by decide) rfl (fun ls hl => ?_)
  refine lv_iload_n hx hb d_Bt_putDecimal_8 rfl (lv_at hl 0 rfl) ?_
  refine lv_aload_n hx hb d_Bt_putDecimal_9 rfl (lv_at hl 1 rfl) ?_
  refine va_get (D := (dC, dI)) (ci := 4) (v := .int (iZ lo)) (C := R_Bt) (T := F_Bt) (N := 7) hx hb hts i_Bt hown hK hP 0 rfl rfl 3 (by decide) (hts _ fl_Bt_30) (fun _ h9 => h9) rfl d_Bt_putDecimal_10 ?_
  refine lv_icmp_lt (tgt := 62) hx hb d_Bt_putDecimal_13 (by decide) (fun hc => ?_) (fun hc => ?_)
  · have hlt : F < lo := (iZ_lt (by omega) (by omega) (by omega) (by omega)).mp hc
    obtain ⟨mT, hmT⟩ : ∃ m9 : Int, m9 = min T (F - 1) := ⟨_, rfl⟩
    have hdx : dtx lo hi9 D n T = pls D T F F ++ ([46] ++ (pls D T (F - 1) mT ++ ([69] ++ dwz F))) := by rw [hF, hmT, hF]; exact if_neg (fun q => by omega)
    have hmin : (if iZ (F - 1) < iZ T then iZ (F - 1) else iZ T) = iZ mT := by rw [hmT]; exact iZ_minz _ _ (by omega) (by omega) (by omega) (by omega)
    have hmn : F - 18 ≤ mT ∧ mT ≤ F - 1 := by omega
    clear hmT
    refine lv_aload_n hx hb d_Bt_putDecimal_62 rfl (lv_at hl 1 rfl) ?_
    refine lv_iload_n hx hb d_Bt_putDecimal_63 rfl (lv_at hl 0 rfl) ?_
    refine lv_iload_n hx hb d_Bt_putDecimal_64 rfl (lv_at hl 0 rfl) ?_
    refine pw_callv (wc := [(hB, .inr (4, [.ref hf, .ref hd, .ref ht, .int (iZ lo), .int (iZ hi9), .int (nI kd), .int (nI mi)])), (hf, .inr (1, [.ref q1, .ref q2, .ref q3])), (q1, .inr (2, [.ref w1, .int xu])), (w1, .inl (cJ, 26, .inr (.inl (bn_f X)))), (q2, .inr (2, [.ref w2, .int xa])), (w2, .inl (cJ, 26, .inr (.inl (bn_f U)))), (q3, .inr (2, [.ref w3, .int xo])), (w3, .inl (cJ, 26, .inr (.inl (bn_f O)))), (hd, .inr (0, [.ref wd, .int (nI n), .long (lN D), .int (iZ T)])), (wd, .inl (cC, 19, .inl (g))), (ht, .inr (3, [.ref wt, .int (nI t.length)])), (wt, .inl (cC, 64, .inl (f)))]) (wr := []) [0, 1, 2, 3, 4, 5, 6, 7, 8, 9, 10, 11] [] rfl rfl rfl (by decide) (by decide) (by decide) hP hD hS hA (fun hPc hDc hF => va_runV (As := [.int (iZ F), .int (iZ F)]) (rest := []) ⟨hx, hb, hml, hown, hts⟩ (c_Bt_putPlaces l dC dI H.size hB hf q1 w1 q2 w2 q3 w3 hd wd ht wt cJ cC lo hi9 kd mi X U O xu xa xo g n D T f t (F) (F) hn hg hD9 (by omega) (by omega) htx (by omega) (by omega) (by omega) (by omega) (by first | omega | (simp only [List.length_append, List.length_singleton, pls_len]; omega))) (cwV 2 hts (gw_V (gw_self cod_Bt_putPlaces) ml_Bt_147 im_Bt_putPlaces sel_Bt_putPlaces ini_Bt) rfl rfl rfl (by decide +kernel) ⟨Nat.le_of_ble_eq_true rfl, Nat.le_of_ble_eq_true rfl⟩) (pw_preV pw_0_ok (trivial : pw_0 A s s.heap) hS hF hPc hDc (hK.sub [0, 1] rfl) (va_recv hK hPc (ci := 4) (q0 := 0) rfl rfl)) rfl rfl hl.1 rfl (lv_room (Nat.le_of_ble_eq_true rfl)) d_Bt_putDecimal_65 ⟨Nat.le_of_ble_eq_true rfl, Nat.le_of_ble_eq_true rfl⟩) (fun fa H locs hfa hK1 hP hD hS => ?_)
    have hP : va_P (dC, dI) cls [(hB, .inr (4, [.ref hf, .ref hd, .ref ht, .int (iZ lo), .int (iZ hi9), .int (nI kd), .int (nI mi)])), (hf, .inr (1, [.ref q1, .ref q2, .ref q3])), (q1, .inr (2, [.ref w1, .int xu])), (w1, .inl (cJ, 26, .inr (.inl (bn_f X)))), (q2, .inr (2, [.ref w2, .int xa])), (w2, .inl (cJ, 26, .inr (.inl (bn_f U)))), (q3, .inr (2, [.ref w3, .int xo])), (w3, .inl (cJ, 26, .inr (.inl (bn_f O)))), (hd, .inr (0, [.ref wd, .int (nI n), .long (lN D), .int (iZ T)])), (wd, .inl (cC, 19, .inl (g))), (ht, .inr (3, [.ref wt, .int (nI (t ++ pls D T (F) (F)).length)])), (wt, .inl (cC, 64, .inl (fa)))] H := hP
    have hD : va_D A [(hB, .inr (4, [.ref hf, .ref hd, .ref ht, .int (iZ lo), .int (iZ hi9), .int (nI kd), .int (nI mi)])), (hf, .inr (1, [.ref q1, .ref q2, .ref q3])), (q1, .inr (2, [.ref w1, .int xu])), (w1, .inl (cJ, 26, .inr (.inl (bn_f X)))), (q2, .inr (2, [.ref w2, .int xa])), (w2, .inl (cJ, 26, .inr (.inl (bn_f U)))), (q3, .inr (2, [.ref w3, .int xo])), (w3, .inl (cJ, 26, .inr (.inl (bn_f O)))), (hd, .inr (0, [.ref wd, .int (nI n), .long (lN D), .int (iZ T)])), (wd, .inl (cC, 19, .inl (g))), (ht, .inr (3, [.ref wt, .int (nI (t ++ pls D T (F) (F)).length)])), (wt, .inl (cC, 64, .inl (fa)))] := hD
    refine lv_aload_n hx hb d_Bt_putDecimal_68 rfl (lv_at hl 1 rfl) ?_
    refine va_get (D := (dC, dI)) (ci := 4) (v := .ref ht) (C := R_Bt) (T := F_Bt) (N := 7) hx hb hts i_Bt hown hK hP 0 rfl rfl 2 (by decide) (hts _ fl_Bt_26) (fun _ h9 => h9) rfl d_Bt_putDecimal_69 ?_
    refine lv_bipush (v := 46) hx hb d_Bt_putDecimal_72 (by decide) ?_
    refine pw_callv (wc := [(ht, .inr (3, [.ref wt, .int (nI (t ++ pls D T (F) (F)).length)])), (wt, .inl (cC, 64, .inl (fa)))]) (wr := [(hB, .inr (4, [.ref hf, .ref hd, .ref ht, .int (iZ lo), .int (iZ hi9), .int (nI kd), .int (nI mi)])), (hf, .inr (1, [.ref q1, .ref q2, .ref q3])), (q1, .inr (2, [.ref w1, .int xu])), (w1, .inl (cJ, 26, .inr (.inl (bn_f X)))), (q2, .inr (2, [.ref w2, .int xa])), (w2, .inl (cJ, 26, .inr (.inl (bn_f U)))), (q3, .inr (2, [.ref w3, .int xo])), (w3, .inl (cJ, 26, .inr (.inl (bn_f O)))), (hd, .inr (0, [.ref wd, .int (nI n), .long (lN D), .int (iZ T)])), (wd, .inl (cC, 19, .inl (g)))]) [10, 11] [0, 1, 2, 3, 4, 5, 6, 7, 8, 9] rfl rfl rfl (by decide) (by decide) (by decide) hP hD hS hA (fun hPc hDc hF => va_runV (As := [.int 46]) (rest := []) ⟨hx, hb, hml, hown, hts⟩ (c_Te_put l dC dI H.size ht wt cC fa (t ++ pls D T F F) 46 hfa (by first | omega | (simp only [List.length_append, List.length_singleton, pls_len]; omega)) (by omega)) (cwV 1 hts (gw_V (gw_self cod_Te_put) ml_Bt_123 im_Te_put sel_Te_put ini_Te) rfl rfl rfl (by decide +kernel) ⟨Nat.le_of_ble_eq_true rfl, Nat.le_of_ble_eq_true rfl⟩) (pw_preV pw_0_ok (trivial : pw_0 A s s.heap) hS hF hPc hDc (hK.sub [1] rfl) (va_recv hK hPc (ci := 3) (q0 := 0) rfl rfl)) rfl rfl hl.1 rfl (lv_room (Nat.le_of_ble_eq_true rfl)) d_Bt_putDecimal_74 ⟨Nat.le_of_ble_eq_true rfl, Nat.le_of_ble_eq_true rfl⟩) (fun fb H locs hfb hK1 hP hD hS => ?_)
    have hP : va_P (dC, dI) cls [(hB, .inr (4, [.ref hf, .ref hd, .ref ht, .int (iZ lo), .int (iZ hi9), .int (nI kd), .int (nI mi)])), (hf, .inr (1, [.ref q1, .ref q2, .ref q3])), (q1, .inr (2, [.ref w1, .int xu])), (w1, .inl (cJ, 26, .inr (.inl (bn_f X)))), (q2, .inr (2, [.ref w2, .int xa])), (w2, .inl (cJ, 26, .inr (.inl (bn_f U)))), (q3, .inr (2, [.ref w3, .int xo])), (w3, .inl (cJ, 26, .inr (.inl (bn_f O)))), (hd, .inr (0, [.ref wd, .int (nI n), .long (lN D), .int (iZ T)])), (wd, .inl (cC, 19, .inl (g))), (ht, .inr (3, [.ref wt, .int (nI ((t ++ pls D T F F) ++ [46]).length)])), (wt, .inl (cC, 64, .inl (fb)))] H := hP
    have hD : va_D A [(hB, .inr (4, [.ref hf, .ref hd, .ref ht, .int (iZ lo), .int (iZ hi9), .int (nI kd), .int (nI mi)])), (hf, .inr (1, [.ref q1, .ref q2, .ref q3])), (q1, .inr (2, [.ref w1, .int xu])), (w1, .inl (cJ, 26, .inr (.inl (bn_f X)))), (q2, .inr (2, [.ref w2, .int xa])), (w2, .inl (cJ, 26, .inr (.inl (bn_f U)))), (q3, .inr (2, [.ref w3, .int xo])), (w3, .inl (cJ, 26, .inr (.inl (bn_f O)))), (hd, .inr (0, [.ref wd, .int (nI n), .long (lN D), .int (iZ T)])), (wd, .inl (cC, 19, .inl (g))), (ht, .inr (3, [.ref wt, .int (nI ((t ++ pls D T F F) ++ [46]).length)])), (wt, .inl (cC, 64, .inl (fb)))] := hD
    refine lv_aload_n hx hb d_Bt_putDecimal_77 rfl (lv_at hl 1 rfl) ?_
    refine lv_iload_n hx hb d_Bt_putDecimal_78 rfl (lv_at hl 0 rfl) ?_
    refine lv_iconst (v := 1) hx hb d_Bt_putDecimal_79 (by decide) ?_
    refine lv_isub hx hb d_Bt_putDecimal_80 ?_
    refine lv_topi (fun x_1 e_2 => ?_)
    obtain rfl : x_1 = iZ (F - 1) := e_2.trans (iZ_sub _ 1)
    refine lv_aload_n hx hb d_Bt_putDecimal_81 rfl (lv_at hl 1 rfl) ?_
    refine va_get (D := (dC, dI)) (ci := 4) (v := .ref hd) (C := R_Bt) (T := F_Bt) (N := 7) hx hb hts i_Bt hown hK hP 0 rfl rfl 1 (by decide) (hts _ fl_Bt_19) (fun _ h9 => h9) rfl d_Bt_putDecimal_82 ?_
    refine va_getN (D := (dC, dI)) (ci := 0) (v := .int (iZ T)) (C := R_De) (T := F_De) (N := 4) hx hb hts i_De hown hK hP 8 rfl rfl 3 (by decide) (va_Nw.use rfl (hE.1 _ (List.mem_of_getElem? (i := 5) rfl))) (fun _ h9 => h9) rfl d_Bt_putDecimal_85 ?_
    refine lv_iload_n hx hb d_Bt_putDecimal_88 rfl (lv_at hl 0 rfl) ?_
    refine lv_iconst (v := 1) hx hb d_Bt_putDecimal_89 (by decide) ?_
    refine lv_isub hx hb d_Bt_putDecimal_90 ?_
    refine lv_topi (fun x_3 e_4 => ?_)
    obtain rfl : x_3 = iZ (F - 1) := e_4.trans (iZ_sub _ 1)
    refine va_mmin hx hb (hml.trans hl.1.symm) hown (hts _ ml_Bt_151) (hts _ sta_Ma_min) (hts _ ini_Ma) (hts _ cod_Ma_min) (Nat.le_of_ble_eq_true rfl) (Nat.le_of_ble_eq_true rfl) (Nat.zero_le _) (Nat.zero_le _) d_Bt_putDecimal_91 ?_
    refine lv_topi (fun x_5 e_6 => ?_)
    obtain rfl : x_5 = iZ mT := e_6.trans (hmin)
    refine pw_callv (wc := [(hB, .inr (4, [.ref hf, .ref hd, .ref ht, .int (iZ lo), .int (iZ hi9), .int (nI kd), .int (nI mi)])), (hf, .inr (1, [.ref q1, .ref q2, .ref q3])), (q1, .inr (2, [.ref w1, .int xu])), (w1, .inl (cJ, 26, .inr (.inl (bn_f X)))), (q2, .inr (2, [.ref w2, .int xa])), (w2, .inl (cJ, 26, .inr (.inl (bn_f U)))), (q3, .inr (2, [.ref w3, .int xo])), (w3, .inl (cJ, 26, .inr (.inl (bn_f O)))), (hd, .inr (0, [.ref wd, .int (nI n), .long (lN D), .int (iZ T)])), (wd, .inl (cC, 19, .inl (g))), (ht, .inr (3, [.ref wt, .int (nI ((t ++ pls D T F F) ++ [46]).length)])), (wt, .inl (cC, 64, .inl (fb)))]) (wr := []) [0, 1, 2, 3, 4, 5, 6, 7, 8, 9, 10, 11] [] rfl rfl rfl (by decide) (by decide) (by decide) hP hD hS hA (fun hPc hDc hF => va_runV (As := [.int (iZ (F - 1)), .int (iZ mT)]) (rest := []) ⟨hx, hb, hml, hown, hts⟩ (c_Bt_putPlaces l dC dI H.size hB hf q1 w1 q2 w2 q3 w3 hd wd ht wt cJ cC lo hi9 kd mi X U O xu xa xo g n D T fb ((t ++ pls D T F F) ++ [46]) (F - 1) (mT) hn hg hD9 (by omega) (by omega) hfb (by omega) (by omega) (by omega) (by omega) (by first | omega | (simp only [List.length_append, List.length_singleton, pls_len]; omega))) (cwV 2 hts (gw_V (gw_self cod_Bt_putPlaces) ml_Bt_147 im_Bt_putPlaces sel_Bt_putPlaces ini_Bt) rfl rfl rfl (by decide +kernel) ⟨Nat.le_of_ble_eq_true rfl, Nat.le_of_ble_eq_true rfl⟩) (pw_preV pw_0_ok (trivial : pw_0 A s s.heap) hS hF hPc hDc (hK.sub [0, 1] rfl) (va_recv hK hPc (ci := 4) (q0 := 0) rfl rfl)) rfl rfl hl.1 rfl (lv_room (Nat.le_of_ble_eq_true rfl)) d_Bt_putDecimal_94 ⟨Nat.le_of_ble_eq_true rfl, Nat.le_of_ble_eq_true rfl⟩) (fun fc H locs hfc hK1 hP hD hS => ?_)
    have hP : va_P (dC, dI) cls [(hB, .inr (4, [.ref hf, .ref hd, .ref ht, .int (iZ lo), .int (iZ hi9), .int (nI kd), .int (nI mi)])), (hf, .inr (1, [.ref q1, .ref q2, .ref q3])), (q1, .inr (2, [.ref w1, .int xu])), (w1, .inl (cJ, 26, .inr (.inl (bn_f X)))), (q2, .inr (2, [.ref w2, .int xa])), (w2, .inl (cJ, 26, .inr (.inl (bn_f U)))), (q3, .inr (2, [.ref w3, .int xo])), (w3, .inl (cJ, 26, .inr (.inl (bn_f O)))), (hd, .inr (0, [.ref wd, .int (nI n), .long (lN D), .int (iZ T)])), (wd, .inl (cC, 19, .inl (g))), (ht, .inr (3, [.ref wt, .int (nI (((t ++ pls D T F F) ++ [46]) ++ pls D T (F - 1) (mT)).length)])), (wt, .inl (cC, 64, .inl (fc)))] H := hP
    have hD : va_D A [(hB, .inr (4, [.ref hf, .ref hd, .ref ht, .int (iZ lo), .int (iZ hi9), .int (nI kd), .int (nI mi)])), (hf, .inr (1, [.ref q1, .ref q2, .ref q3])), (q1, .inr (2, [.ref w1, .int xu])), (w1, .inl (cJ, 26, .inr (.inl (bn_f X)))), (q2, .inr (2, [.ref w2, .int xa])), (w2, .inl (cJ, 26, .inr (.inl (bn_f U)))), (q3, .inr (2, [.ref w3, .int xo])), (w3, .inl (cJ, 26, .inr (.inl (bn_f O)))), (hd, .inr (0, [.ref wd, .int (nI n), .long (lN D), .int (iZ T)])), (wd, .inl (cC, 19, .inl (g))), (ht, .inr (3, [.ref wt, .int (nI (((t ++ pls D T F F) ++ [46]) ++ pls D T (F - 1) (mT)).length)])), (wt, .inl (cC, 64, .inl (fc)))] := hD
    refine lv_aload_n hx hb d_Bt_putDecimal_97 rfl (lv_at hl 1 rfl) ?_
    refine va_get (D := (dC, dI)) (ci := 4) (v := .ref ht) (C := R_Bt) (T := F_Bt) (N := 7) hx hb hts i_Bt hown hK hP 0 rfl rfl 2 (by decide) (hts _ fl_Bt_26) (fun _ h9 => h9) rfl d_Bt_putDecimal_98 ?_
    refine lv_bipush (v := 69) hx hb d_Bt_putDecimal_101 (by decide) ?_
    refine pw_callv (wc := [(ht, .inr (3, [.ref wt, .int (nI (((t ++ pls D T F F) ++ [46]) ++ pls D T (F - 1) (mT)).length)])), (wt, .inl (cC, 64, .inl (fc)))]) (wr := [(hB, .inr (4, [.ref hf, .ref hd, .ref ht, .int (iZ lo), .int (iZ hi9), .int (nI kd), .int (nI mi)])), (hf, .inr (1, [.ref q1, .ref q2, .ref q3])), (q1, .inr (2, [.ref w1, .int xu])), (w1, .inl (cJ, 26, .inr (.inl (bn_f X)))), (q2, .inr (2, [.ref w2, .int xa])), (w2, .inl (cJ, 26, .inr (.inl (bn_f U)))), (q3, .inr (2, [.ref w3, .int xo])), (w3, .inl (cJ, 26, .inr (.inl (bn_f O)))), (hd, .inr (0, [.ref wd, .int (nI n), .long (lN D), .int (iZ T)])), (wd, .inl (cC, 19, .inl (g)))]) [10, 11] [0, 1, 2, 3, 4, 5, 6, 7, 8, 9] rfl rfl rfl (by decide) (by decide) (by decide) hP hD hS hA (fun hPc hDc hF => va_runV (As := [.int 69]) (rest := []) ⟨hx, hb, hml, hown, hts⟩ (c_Te_put l dC dI H.size ht wt cC fc (((t ++ pls D T F F) ++ [46]) ++ pls D T (F - 1) (mT)) 69 hfc (by first | omega | (simp only [List.length_append, List.length_singleton, pls_len]; omega)) (by omega)) (cwV 1 hts (gw_V (gw_self cod_Te_put) ml_Bt_123 im_Te_put sel_Te_put ini_Te) rfl rfl rfl (by decide +kernel) ⟨Nat.le_of_ble_eq_true rfl, Nat.le_of_ble_eq_true rfl⟩) (pw_preV pw_0_ok (trivial : pw_0 A s s.heap) hS hF hPc hDc (hK.sub [1] rfl) (va_recv hK hPc (ci := 3) (q0 := 0) rfl rfl)) rfl rfl hl.1 rfl (lv_room (Nat.le_of_ble_eq_true rfl)) d_Bt_putDecimal_103 ⟨Nat.le_of_ble_eq_true rfl, Nat.le_of_ble_eq_true rfl⟩) (fun fd H locs hfd hK1 hP hD hS => ?_)
    have hP : va_P (dC, dI) cls [(hB, .inr (4, [.ref hf, .ref hd, .ref ht, .int (iZ lo), .int (iZ hi9), .int (nI kd), .int (nI mi)])), (hf, .inr (1, [.ref q1, .ref q2, .ref q3])), (q1, .inr (2, [.ref w1, .int xu])), (w1, .inl (cJ, 26, .inr (.inl (bn_f X)))), (q2, .inr (2, [.ref w2, .int xa])), (w2, .inl (cJ, 26, .inr (.inl (bn_f U)))), (q3, .inr (2, [.ref w3, .int xo])), (w3, .inl (cJ, 26, .inr (.inl (bn_f O)))), (hd, .inr (0, [.ref wd, .int (nI n), .long (lN D), .int (iZ T)])), (wd, .inl (cC, 19, .inl (g))), (ht, .inr (3, [.ref wt, .int (nI ((((t ++ pls D T F F) ++ [46]) ++ pls D T (F - 1) (mT)) ++ [69]).length)])), (wt, .inl (cC, 64, .inl (fd)))] H := hP
    have hD : va_D A [(hB, .inr (4, [.ref hf, .ref hd, .ref ht, .int (iZ lo), .int (iZ hi9), .int (nI kd), .int (nI mi)])), (hf, .inr (1, [.ref q1, .ref q2, .ref q3])), (q1, .inr (2, [.ref w1, .int xu])), (w1, .inl (cJ, 26, .inr (.inl (bn_f X)))), (q2, .inr (2, [.ref w2, .int xa])), (w2, .inl (cJ, 26, .inr (.inl (bn_f U)))), (q3, .inr (2, [.ref w3, .int xo])), (w3, .inl (cJ, 26, .inr (.inl (bn_f O)))), (hd, .inr (0, [.ref wd, .int (nI n), .long (lN D), .int (iZ T)])), (wd, .inl (cC, 19, .inl (g))), (ht, .inr (3, [.ref wt, .int (nI ((((t ++ pls D T F F) ++ [46]) ++ pls D T (F - 1) (mT)) ++ [69]).length)])), (wt, .inl (cC, 64, .inl (fd)))] := hD
    refine lv_aload_n hx hb d_Bt_putDecimal_106 rfl (lv_at hl 1 rfl) ?_
    refine va_get (D := (dC, dI)) (ci := 4) (v := .ref ht) (C := R_Bt) (T := F_Bt) (N := 7) hx hb hts i_Bt hown hK hP 0 rfl rfl 2 (by decide) (hts _ fl_Bt_26) (fun _ h9 => h9) rfl d_Bt_putDecimal_107 ?_
    refine lv_iload_n hx hb d_Bt_putDecimal_110 rfl (lv_at hl 0 rfl) ?_
    refine pw_callv (wc := [(ht, .inr (3, [.ref wt, .int (nI ((((t ++ pls D T F F) ++ [46]) ++ pls D T (F - 1) (mT)) ++ [69]).length)])), (wt, .inl (cC, 64, .inl (fd)))]) (wr := [(hB, .inr (4, [.ref hf, .ref hd, .ref ht, .int (iZ lo), .int (iZ hi9), .int (nI kd), .int (nI mi)])), (hf, .inr (1, [.ref q1, .ref q2, .ref q3])), (q1, .inr (2, [.ref w1, .int xu])), (w1, .inl (cJ, 26, .inr (.inl (bn_f X)))), (q2, .inr (2, [.ref w2, .int xa])), (w2, .inl (cJ, 26, .inr (.inl (bn_f U)))), (q3, .inr (2, [.ref w3, .int xo])), (w3, .inl (cJ, 26, .inr (.inl (bn_f O)))), (hd, .inr (0, [.ref wd, .int (nI n), .long (lN D), .int (iZ T)])), (wd, .inl (cC, 19, .inl (g)))]) [10, 11] [0, 1, 2, 3, 4, 5, 6, 7, 8, 9] rfl rfl rfl (by decide) (by decide) (by decide) hP hD hS hA (fun hPc hDc hF => va_runV (As := [.int (iZ F)]) (rest := []) ⟨hx, hb, hml, hown, hts⟩ (c_Te_putWhole l dC dI H.size ht wt cC fd ((((t ++ pls D T F F) ++ [46]) ++ pls D T (F - 1) (mT)) ++ [69]) F hfd (by first | omega | (simp only [List.length_append, List.length_singleton, pls_len]; omega)) (by omega) (by omega)) (cwV 1 hts (gw_V (gw_self cod_Te_putWhole) ml_Bt_154 im_Te_putWhole sel_Te_putWhole ini_Te) rfl rfl rfl (by decide +kernel) ⟨Nat.le_of_ble_eq_true rfl, Nat.le_of_ble_eq_true rfl⟩) (pw_preV pw_0_ok (trivial : pw_0 A s s.heap) hS hF hPc hDc (hK.sub [1] rfl) (va_recv hK hPc (ci := 3) (q0 := 0) rfl rfl)) rfl rfl hl.1 rfl (lv_room (Nat.le_of_ble_eq_true rfl)) d_Bt_putDecimal_111 ⟨Nat.le_of_ble_eq_true rfl, Nat.le_of_ble_eq_true rfl⟩) (fun fe H locs hfe hK1 hP hD hS => ?_)
    have hP : va_P (dC, dI) cls [(hB, .inr (4, [.ref hf, .ref hd, .ref ht, .int (iZ lo), .int (iZ hi9), .int (nI kd), .int (nI mi)])), (hf, .inr (1, [.ref q1, .ref q2, .ref q3])), (q1, .inr (2, [.ref w1, .int xu])), (w1, .inl (cJ, 26, .inr (.inl (bn_f X)))), (q2, .inr (2, [.ref w2, .int xa])), (w2, .inl (cJ, 26, .inr (.inl (bn_f U)))), (q3, .inr (2, [.ref w3, .int xo])), (w3, .inl (cJ, 26, .inr (.inl (bn_f O)))), (hd, .inr (0, [.ref wd, .int (nI n), .long (lN D), .int (iZ T)])), (wd, .inl (cC, 19, .inl (g))), (ht, .inr (3, [.ref wt, .int (nI (((((t ++ pls D T F F) ++ [46]) ++ pls D T (F - 1) (mT)) ++ [69]) ++ dwz F).length)])), (wt, .inl (cC, 64, .inl (fe)))] H := hP
    have hD : va_D A [(hB, .inr (4, [.ref hf, .ref hd, .ref ht, .int (iZ lo), .int (iZ hi9), .int (nI kd), .int (nI mi)])), (hf, .inr (1, [.ref q1, .ref q2, .ref q3])), (q1, .inr (2, [.ref w1, .int xu])), (w1, .inl (cJ, 26, .inr (.inl (bn_f X)))), (q2, .inr (2, [.ref w2, .int xa])), (w2, .inl (cJ, 26, .inr (.inl (bn_f U)))), (q3, .inr (2, [.ref w3, .int xo])), (w3, .inl (cJ, 26, .inr (.inl (bn_f O)))), (hd, .inr (0, [.ref wd, .int (nI n), .long (lN D), .int (iZ T)])), (wd, .inl (cC, 19, .inl (g))), (ht, .inr (3, [.ref wt, .int (nI (((((t ++ pls D T F F) ++ [46]) ++ pls D T (F - 1) (mT)) ++ [69]) ++ dwz F).length)])), (wt, .inl (cC, 64, .inl (fe)))] := hD
    have hend : ((((t ++ pls D T F F) ++ [46]) ++ pls D T (F - 1) (mT)) ++ [69]) ++ dwz F = t ++ dtx lo hi9 D n T := by rw [hdx]; simp only [List.append_assoc]
    rw [hend] at hfe hP hD
    exact hret _ _ _ _ fe d_Bt_putDecimal_114 hfe hP hK hD hS
  · have hge : lo ≤ F := by have := mt (iZ_lt (a := F) (b := lo) (by omega) (by omega) (by omega) (by omega)).mpr hc; omega
    refine lv_iload_n hx hb d_Bt_putDecimal_16 rfl (lv_at hl 0 rfl) ?_
    refine lv_aload_n hx hb d_Bt_putDecimal_17 rfl (lv_at hl 1 rfl) ?_
    refine va_get (D := (dC, dI)) (ci := 4) (v := .int (iZ hi9)) (C := R_Bt) (T := F_Bt) (N := 7) hx hb hts i_Bt hown hK hP 0 rfl rfl 4 (by decide) (hts _ fl_Bt_34) (fun _ h9 => h9) rfl d_Bt_putDecimal_18 ?_
    refine lv_icmp_ge (tgt := 62) hx hb d_Bt_putDecimal_21 (by decide) (fun hc2 => ?_) (fun hc2 => ?_)
    · have hlt : hi9 ≤ F := (iZ_le (by omega) (by omega) (by omega) (by omega)).mp hc2
      obtain ⟨mT, hmT⟩ : ∃ m9 : Int, m9 = min T (F - 1) := ⟨_, rfl⟩
      have hdx : dtx lo hi9 D n T = pls D T F F ++ ([46] ++ (pls D T (F - 1) mT ++ ([69] ++ dwz F))) := by rw [hF, hmT, hF]; exact if_neg (fun q => by omega)
      have hmin : (if iZ (F - 1) < iZ T then iZ (F - 1) else iZ T) = iZ mT := by rw [hmT]; exact iZ_minz _ _ (by omega) (by omega) (by omega) (by omega)
      have hmn : F - 18 ≤ mT ∧ mT ≤ F - 1 := by omega
      clear hmT
      refine lv_aload_n hx hb d_Bt_putDecimal_62 rfl (lv_at hl 1 rfl) ?_
      refine lv_iload_n hx hb d_Bt_putDecimal_63 rfl (lv_at hl 0 rfl) ?_
      refine lv_iload_n hx hb d_Bt_putDecimal_64 rfl (lv_at hl 0 rfl) ?_
      refine pw_callv (wc := [(hB, .inr (4, [.ref hf, .ref hd, .ref ht, .int (iZ lo), .int (iZ hi9), .int (nI kd), .int (nI mi)])), (hf, .inr (1, [.ref q1, .ref q2, .ref q3])), (q1, .inr (2, [.ref w1, .int xu])), (w1, .inl (cJ, 26, .inr (.inl (bn_f X)))), (q2, .inr (2, [.ref w2, .int xa])), (w2, .inl (cJ, 26, .inr (.inl (bn_f U)))), (q3, .inr (2, [.ref w3, .int xo])), (w3, .inl (cJ, 26, .inr (.inl (bn_f O)))), (hd, .inr (0, [.ref wd, .int (nI n), .long (lN D), .int (iZ T)])), (wd, .inl (cC, 19, .inl (g))), (ht, .inr (3, [.ref wt, .int (nI t.length)])), (wt, .inl (cC, 64, .inl (f)))]) (wr := []) [0, 1, 2, 3, 4, 5, 6, 7, 8, 9, 10, 11] [] rfl rfl rfl (by decide) (by decide) (by decide) hP hD hS hA (fun hPc hDc hF => va_runV (As := [.int (iZ F), .int (iZ F)]) (rest := []) ⟨hx, hb, hml, hown, hts⟩ (c_Bt_putPlaces l dC dI H.size hB hf q1 w1 q2 w2 q3 w3 hd wd ht wt cJ cC lo hi9 kd mi X U O xu xa xo g n D T f t (F) (F) hn hg hD9 (by omega) (by omega) htx (by omega) (by omega) (by omega) (by omega) (by first | omega | (simp only [List.length_append, List.length_singleton, pls_len]; omega))) (cwV 2 hts (gw_V (gw_self cod_Bt_putPlaces) ml_Bt_147 im_Bt_putPlaces sel_Bt_putPlaces ini_Bt) rfl rfl rfl (by decide +kernel) ⟨Nat.le_of_ble_eq_true rfl, Nat.le_of_ble_eq_true rfl⟩) (pw_preV pw_0_ok (trivial : pw_0 A s s.heap) hS hF hPc hDc (hK.sub [0, 1] rfl) (va_recv hK hPc (ci := 4) (q0 := 0) rfl rfl)) rfl rfl hl.1 rfl (lv_room (Nat.le_of_ble_eq_true rfl)) d_Bt_putDecimal_65 ⟨Nat.le_of_ble_eq_true rfl, Nat.le_of_ble_eq_true rfl⟩) (fun fa H locs hfa hK1 hP hD hS => ?_)
      have hP : va_P (dC, dI) cls [(hB, .inr (4, [.ref hf, .ref hd, .ref ht, .int (iZ lo), .int (iZ hi9), .int (nI kd), .int (nI mi)])), (hf, .inr (1, [.ref q1, .ref q2, .ref q3])), (q1, .inr (2, [.ref w1, .int xu])), (w1, .inl (cJ, 26, .inr (.inl (bn_f X)))), (q2, .inr (2, [.ref w2, .int xa])), (w2, .inl (cJ, 26, .inr (.inl (bn_f U)))), (q3, .inr (2, [.ref w3, .int xo])), (w3, .inl (cJ, 26, .inr (.inl (bn_f O)))), (hd, .inr (0, [.ref wd, .int (nI n), .long (lN D), .int (iZ T)])), (wd, .inl (cC, 19, .inl (g))), (ht, .inr (3, [.ref wt, .int (nI (t ++ pls D T (F) (F)).length)])), (wt, .inl (cC, 64, .inl (fa)))] H := hP
      have hD : va_D A [(hB, .inr (4, [.ref hf, .ref hd, .ref ht, .int (iZ lo), .int (iZ hi9), .int (nI kd), .int (nI mi)])), (hf, .inr (1, [.ref q1, .ref q2, .ref q3])), (q1, .inr (2, [.ref w1, .int xu])), (w1, .inl (cJ, 26, .inr (.inl (bn_f X)))), (q2, .inr (2, [.ref w2, .int xa])), (w2, .inl (cJ, 26, .inr (.inl (bn_f U)))), (q3, .inr (2, [.ref w3, .int xo])), (w3, .inl (cJ, 26, .inr (.inl (bn_f O)))), (hd, .inr (0, [.ref wd, .int (nI n), .long (lN D), .int (iZ T)])), (wd, .inl (cC, 19, .inl (g))), (ht, .inr (3, [.ref wt, .int (nI (t ++ pls D T (F) (F)).length)])), (wt, .inl (cC, 64, .inl (fa)))] := hD
      refine lv_aload_n hx hb d_Bt_putDecimal_68 rfl (lv_at hl 1 rfl) ?_
      refine va_get (D := (dC, dI)) (ci := 4) (v := .ref ht) (C := R_Bt) (T := F_Bt) (N := 7) hx hb hts i_Bt hown hK hP 0 rfl rfl 2 (by decide) (hts _ fl_Bt_26) (fun _ h9 => h9) rfl d_Bt_putDecimal_69 ?_
      refine lv_bipush (v := 46) hx hb d_Bt_putDecimal_72 (by decide) ?_
      refine pw_callv (wc := [(ht, .inr (3, [.ref wt, .int (nI (t ++ pls D T (F) (F)).length)])), (wt, .inl (cC, 64, .inl (fa)))]) (wr := [(hB, .inr (4, [.ref hf, .ref hd, .ref ht, .int (iZ lo), .int (iZ hi9), .int (nI kd), .int (nI mi)])), (hf, .inr (1, [.ref q1, .ref q2, .ref q3])), (q1, .inr (2, [.ref w1, .int xu])), (w1, .inl (cJ, 26, .inr (.inl (bn_f X)))), (q2, .inr (2, [.ref w2, .int xa])), (w2, .inl (cJ, 26, .inr (.inl (bn_f U)))), (q3, .inr (2, [.ref w3, .int xo])), (w3, .inl (cJ, 26, .inr (.inl (bn_f O)))), (hd, .inr (0, [.ref wd, .int (nI n), .long (lN D), .int (iZ T)])), (wd, .inl (cC, 19, .inl (g)))]) [10, 11] [0, 1, 2, 3, 4, 5, 6, 7, 8, 9] rfl rfl rfl (by decide) (by decide) (by decide) hP hD hS hA (fun hPc hDc hF => va_runV (As := [.int 46]) (rest := []) ⟨hx, hb, hml, hown, hts⟩ (c_Te_put l dC dI H.size ht wt cC fa (t ++ pls D T F F) 46 hfa (by first | omega | (simp only [List.length_append, List.length_singleton, pls_len]; omega)) (by omega)) (cwV 1 hts (gw_V (gw_self cod_Te_put) ml_Bt_123 im_Te_put sel_Te_put ini_Te) rfl rfl rfl (by decide +kernel) ⟨Nat.le_of_ble_eq_true rfl, Nat.le_of_ble_eq_true rfl⟩) (pw_preV pw_0_ok (trivial : pw_0 A s s.heap) hS hF hPc hDc (hK.sub [1] rfl) (va_recv hK hPc (ci := 3) (q0 := 0) rfl rfl)) rfl rfl hl.1 rfl (lv_room (Nat.le_of_ble_eq_true rfl)) d_Bt_putDecimal_74 ⟨Nat.le_of_ble_eq_true rfl, Nat.le_of_ble_eq_true rfl⟩) (fun fb H locs hfb hK1 hP hD hS => ?_)
      have hP : va_P (dC, dI) cls [(hB, .inr (4, [.ref hf, .ref hd, .ref ht, .int (iZ lo), .int (iZ hi9), .int (nI kd), .int (nI mi)])), (hf, .inr (1, [.ref q1, .ref q2, .ref q3])), (q1, .inr (2, [.ref w1, .int xu])), (w1, .inl (cJ, 26, .inr (.inl (bn_f X)))), (q2, .inr (2, [.ref w2, .int xa])), (w2, .inl (cJ, 26, .inr (.inl (bn_f U)))), (q3, .inr (2, [.ref w3, .int xo])), (w3, .inl (cJ, 26, .inr (.inl (bn_f O)))), (hd, .inr (0, [.ref wd, .int (nI n), .long (lN D), .int (iZ T)])), (wd, .inl (cC, 19, .inl (g))), (ht, .inr (3, [.ref wt, .int (nI ((t ++ pls D T F F) ++ [46]).length)])), (wt, .inl (cC, 64, .inl (fb)))] H := hP
      have hD : va_D A [(hB, .inr (4, [.ref hf, .ref hd, .ref ht, .int (iZ lo), .int (iZ hi9), .int (nI kd), .int (nI mi)])), (hf, .inr (1, [.ref q1, .ref q2, .ref q3])), (q1, .inr (2, [.ref w1, .int xu])), (w1, .inl (cJ, 26, .inr (.inl (bn_f X)))), (q2, .inr (2, [.ref w2, .int xa])), (w2, .inl (cJ, 26, .inr (.inl (bn_f U)))), (q3, .inr (2, [.ref w3, .int xo])), (w3, .inl (cJ, 26, .inr (.inl (bn_f O)))), (hd, .inr (0, [.ref wd, .int (nI n), .long (lN D), .int (iZ T)])), (wd, .inl (cC, 19, .inl (g))), (ht, .inr (3, [.ref wt, .int (nI ((t ++ pls D T F F) ++ [46]).length)])), (wt, .inl (cC, 64, .inl (fb)))] := hD
      refine lv_aload_n hx hb d_Bt_putDecimal_77 rfl (lv_at hl 1 rfl) ?_
      refine lv_iload_n hx hb d_Bt_putDecimal_78 rfl (lv_at hl 0 rfl) ?_
      refine lv_iconst (v := 1) hx hb d_Bt_putDecimal_79 (by decide) ?_
      refine lv_isub hx hb d_Bt_putDecimal_80 ?_
      refine lv_topi (fun x_7 e_8 => ?_)
      obtain rfl : x_7 = iZ (F - 1) := e_8.trans (iZ_sub _ 1)
      refine lv_aload_n hx hb d_Bt_putDecimal_81 rfl (lv_at hl 1 rfl) ?_
      refine va_get (D := (dC, dI)) (ci := 4) (v := .ref hd) (C := R_Bt) (T := F_Bt) (N := 7) hx hb hts i_Bt hown hK hP 0 rfl rfl 1 (by decide) (hts _ fl_Bt_19) (fun _ h9 => h9) rfl d_Bt_putDecimal_82 ?_
      refine va_getN (D := (dC, dI)) (ci := 0) (v := .int (iZ T)) (C := R_De) (T := F_De) (N := 4) hx hb hts i_De hown hK hP 8 rfl rfl 3 (by decide) (va_Nw.use rfl (hE.1 _ (List.mem_of_getElem? (i := 5) rfl))) (fun _ h9 => h9) rfl d_Bt_putDecimal_85 ?_
      refine lv_iload_n hx hb d_Bt_putDecimal_88 rfl (lv_at hl 0 rfl) ?_
      refine lv_iconst (v := 1) hx hb d_Bt_putDecimal_89 (by decide) ?_
      refine lv_isub hx hb d_Bt_putDecimal_90 ?_
      refine lv_topi (fun x_9 e_10 => ?_)
      obtain rfl : x_9 = iZ (F - 1) := e_10.trans (iZ_sub _ 1)
      refine va_mmin hx hb (hml.trans hl.1.symm) hown (hts _ ml_Bt_151) (hts _ sta_Ma_min) (hts _ ini_Ma) (hts _ cod_Ma_min) (Nat.le_of_ble_eq_true rfl) (Nat.le_of_ble_eq_true rfl) (Nat.zero_le _) (Nat.zero_le _) d_Bt_putDecimal_91 ?_
      refine lv_topi (fun x_11 e_12 => ?_)
      obtain rfl : x_11 = iZ mT := e_12.trans (hmin)
      refine pw_callv (wc := [(hB, .inr (4, [.ref hf, .ref hd, .ref ht, .int (iZ lo), .int (iZ hi9), .int (nI kd), .int (nI mi)])), (hf, .inr (1, [.ref q1, .ref q2, .ref q3])), (q1, .inr (2, [.ref w1, .int xu])), (w1, .inl (cJ, 26, .inr (.inl (bn_f X)))), (q2, .inr (2, [.ref w2, .int xa])), (w2, .inl (cJ, 26, .inr (.inl (bn_f U)))), (q3, .inr (2, [.ref w3, .int xo])), (w3, .inl (cJ, 26, .inr (.inl (bn_f O)))), (hd, .inr (0, [.ref wd, .int (nI n), .long (lN D), .int (iZ T)])), (wd, .inl (cC, 19, .inl (g))), (ht, .inr (3, [.ref wt, .int (nI ((t ++ pls D T F F) ++ [46]).length)])), (wt, .inl (cC, 64, .inl (fb)))]) (wr := []) [0, 1, 2, 3, 4, 5, 6, 7, 8, 9, 10, 11] [] rfl rfl rfl (by decide) (by decide) (by decide) hP hD hS hA (fun hPc hDc hF => va_runV (As := [.int (iZ (F - 1)), .int (iZ mT)]) (rest := []) ⟨hx, hb, hml, hown, hts⟩ (c_Bt_putPlaces l dC dI H.size hB hf q1 w1 q2 w2 q3 w3 hd wd ht wt cJ cC lo hi9 kd mi X U O xu xa xo g n D T fb ((t ++ pls D T F F) ++ [46]) (F - 1) (mT) hn hg hD9 (by omega) (by omega) hfb (by omega) (by omega) (by omega) (by omega) (by first | omega | (simp only [List.length_append, List.length_singleton, pls_len]; omega))) (cwV 2 hts (gw_V (gw_self cod_Bt_putPlaces) ml_Bt_147 im_Bt_putPlaces sel_Bt_putPlaces ini_Bt) rfl rfl rfl (by decide +kernel) ⟨Nat.le_of_ble_eq_true rfl, Nat.le_of_ble_eq_true rfl⟩) (pw_preV pw_0_ok (trivial : pw_0 A s s.heap) hS hF hPc hDc (hK.sub [0, 1] rfl) (va_recv hK hPc (ci := 4) (q0 := 0) rfl rfl)) rfl rfl hl.1 rfl (lv_room (Nat.le_of_ble_eq_true rfl)) d_Bt_putDecimal_94 ⟨Nat.le_of_ble_eq_true rfl, Nat.le_of_ble_eq_true rfl⟩) (fun fc H locs hfc hK1 hP hD hS => ?_)
      have hP : va_P (dC, dI) cls [(hB, .inr (4, [.ref hf, .ref hd, .ref ht, .int (iZ lo), .int (iZ hi9), .int (nI kd), .int (nI mi)])), (hf, .inr (1, [.ref q1, .ref q2, .ref q3])), (q1, .inr (2, [.ref w1, .int xu])), (w1, .inl (cJ, 26, .inr (.inl (bn_f X)))), (q2, .inr (2, [.ref w2, .int xa])), (w2, .inl (cJ, 26, .inr (.inl (bn_f U)))), (q3, .inr (2, [.ref w3, .int xo])), (w3, .inl (cJ, 26, .inr (.inl (bn_f O)))), (hd, .inr (0, [.ref wd, .int (nI n), .long (lN D), .int (iZ T)])), (wd, .inl (cC, 19, .inl (g))), (ht, .inr (3, [.ref wt, .int (nI (((t ++ pls D T F F) ++ [46]) ++ pls D T (F - 1) (mT)).length)])), (wt, .inl (cC, 64, .inl (fc)))] H := hP
      have hD : va_D A [(hB, .inr (4, [.ref hf, .ref hd, .ref ht, .int (iZ lo), .int (iZ hi9), .int (nI kd), .int (nI mi)])), (hf, .inr (1, [.ref q1, .ref q2, .ref q3])), (q1, .inr (2, [.ref w1, .int xu])), (w1, .inl (cJ, 26, .inr (.inl (bn_f X)))), (q2, .inr (2, [.ref w2, .int xa])), (w2, .inl (cJ, 26, .inr (.inl (bn_f U)))), (q3, .inr (2, [.ref w3, .int xo])), (w3, .inl (cJ, 26, .inr (.inl (bn_f O)))), (hd, .inr (0, [.ref wd, .int (nI n), .long (lN D), .int (iZ T)])), (wd, .inl (cC, 19, .inl (g))), (ht, .inr (3, [.ref wt, .int (nI (((t ++ pls D T F F) ++ [46]) ++ pls D T (F - 1) (mT)).length)])), (wt, .inl (cC, 64, .inl (fc)))] := hD
      refine lv_aload_n hx hb d_Bt_putDecimal_97 rfl (lv_at hl 1 rfl) ?_
      refine va_get (D := (dC, dI)) (ci := 4) (v := .ref ht) (C := R_Bt) (T := F_Bt) (N := 7) hx hb hts i_Bt hown hK hP 0 rfl rfl 2 (by decide) (hts _ fl_Bt_26) (fun _ h9 => h9) rfl d_Bt_putDecimal_98 ?_
      refine lv_bipush (v := 69) hx hb d_Bt_putDecimal_101 (by decide) ?_
      refine pw_callv (wc := [(ht, .inr (3, [.ref wt, .int (nI (((t ++ pls D T F F) ++ [46]) ++ pls D T (F - 1) (mT)).length)])), (wt, .inl (cC, 64, .inl (fc)))]) (wr := [(hB, .inr (4, [.ref hf, .ref hd, .ref ht, .int (iZ lo), .int (iZ hi9), .int (nI kd), .int (nI mi)])), (hf, .inr (1, [.ref q1, .ref q2, .ref q3])), (q1, .inr (2, [.ref w1, .int xu])), (w1, .inl (cJ, 26, .inr (.inl (bn_f X)))), (q2, .inr (2, [.ref w2, .int xa])), (w2, .inl (cJ, 26, .inr (.inl (bn_f U)))), (q3, .inr (2, [.ref w3, .int xo])), (w3, .inl (cJ, 26, .inr (.inl (bn_f O)))), (hd, .inr (0, [.ref wd, .int (nI n), .long (lN D), .int (iZ T)])), (wd, .inl (cC, 19, .inl (g)))]) [10, 11] [0, 1, 2, 3, 4, 5, 6, 7, 8, 9] rfl rfl rfl (by decide) (by decide) (by decide) hP hD hS hA (fun hPc hDc hF => va_runV (As := [.int 69]) (rest := []) ⟨hx, hb, hml, hown, hts⟩ (c_Te_put l dC dI H.size ht wt cC fc (((t ++ pls D T F F) ++ [46]) ++ pls D T (F - 1) (mT)) 69 hfc (by first | omega | (simp only [List.length_append, List.length_singleton, pls_len]; omega)) (by omega)) (cwV 1 hts (gw_V (gw_self cod_Te_put) ml_Bt_123 im_Te_put sel_Te_put ini_Te) rfl rfl rfl (by decide +kernel) ⟨Nat.le_of_ble_eq_true rfl, Nat.le_of_ble_eq_true rfl⟩) (pw_preV pw_0_ok (trivial : pw_0 A s s.heap) hS hF hPc hDc (hK.sub [1] rfl) (va_recv hK hPc (ci := 3) (q0 := 0) rfl rfl)) rfl rfl hl.1 rfl (lv_room (Nat.le_of_ble_eq_true rfl)) d_Bt_putDecimal_103 ⟨Nat.le_of_ble_eq_true rfl, Nat.le_of_ble_eq_true rfl⟩) (fun fd H locs hfd hK1 hP hD hS => ?_)
      have hP : va_P (dC, dI) cls [(hB, .inr (4, [.ref hf, .ref hd, .ref ht, .int (iZ lo), .int (iZ hi9), .int (nI kd), .int (nI mi)])), (hf, .inr (1, [.ref q1, .ref q2, .ref q3])), (q1, .inr (2, [.ref w1, .int xu])), (w1, .inl (cJ, 26, .inr (.inl (bn_f X)))), (q2, .inr (2, [.ref w2, .int xa])), (w2, .inl (cJ, 26, .inr (.inl (bn_f U)))), (q3, .inr (2, [.ref w3, .int xo])), (w3, .inl (cJ, 26, .inr (.inl (bn_f O)))), (hd, .inr (0, [.ref wd, .int (nI n), .long (lN D), .int (iZ T)])), (wd, .inl (cC, 19, .inl (g))), (ht, .inr (3, [.ref wt, .int (nI ((((t ++ pls D T F F) ++ [46]) ++ pls D T (F - 1) (mT)) ++ [69]).length)])), (wt, .inl (cC, 64, .inl (fd)))] H := hP
      have hD : va_D A [(hB, .inr (4, [.ref hf, .ref hd, .ref ht, .int (iZ lo), .int (iZ hi9), .int (nI kd), .int (nI mi)])), (hf, .inr (1, [.ref q1, .ref q2, .ref q3])), (q1, .inr (2, [.ref w1, .int xu])), (w1, .inl (cJ, 26, .inr (.inl (bn_f X)))), (q2, .inr (2, [.ref w2, .int xa])), (w2, .inl (cJ, 26, .inr (.inl (bn_f U)))), (q3, .inr (2, [.ref w3, .int xo])), (w3, .inl (cJ, 26, .inr (.inl (bn_f O)))), (hd, .inr (0, [.ref wd, .int (nI n), .long (lN D), .int (iZ T)])), (wd, .inl (cC, 19, .inl (g))), (ht, .inr (3, [.ref wt, .int (nI ((((t ++ pls D T F F) ++ [46]) ++ pls D T (F - 1) (mT)) ++ [69]).length)])), (wt, .inl (cC, 64, .inl (fd)))] := hD
      refine lv_aload_n hx hb d_Bt_putDecimal_106 rfl (lv_at hl 1 rfl) ?_
      refine va_get (D := (dC, dI)) (ci := 4) (v := .ref ht) (C := R_Bt) (T := F_Bt) (N := 7) hx hb hts i_Bt hown hK hP 0 rfl rfl 2 (by decide) (hts _ fl_Bt_26) (fun _ h9 => h9) rfl d_Bt_putDecimal_107 ?_
      refine lv_iload_n hx hb d_Bt_putDecimal_110 rfl (lv_at hl 0 rfl) ?_
      refine pw_callv (wc := [(ht, .inr (3, [.ref wt, .int (nI ((((t ++ pls D T F F) ++ [46]) ++ pls D T (F - 1) (mT)) ++ [69]).length)])), (wt, .inl (cC, 64, .inl (fd)))]) (wr := [(hB, .inr (4, [.ref hf, .ref hd, .ref ht, .int (iZ lo), .int (iZ hi9), .int (nI kd), .int (nI mi)])), (hf, .inr (1, [.ref q1, .ref q2, .ref q3])), (q1, .inr (2, [.ref w1, .int xu])), (w1, .inl (cJ, 26, .inr (.inl (bn_f X)))), (q2, .inr (2, [.ref w2, .int xa])), (w2, .inl (cJ, 26, .inr (.inl (bn_f U)))), (q3, .inr (2, [.ref w3, .int xo])), (w3, .inl (cJ, 26, .inr (.inl (bn_f O)))), (hd, .inr (0, [.ref wd, .int (nI n), .long (lN D), .int (iZ T)])), (wd, .inl (cC, 19, .inl (g)))]) [10, 11] [0, 1, 2, 3, 4, 5, 6, 7, 8, 9] rfl rfl rfl (by decide) (by decide) (by decide) hP hD hS hA (fun hPc hDc hF => va_runV (As := [.int (iZ F)]) (rest := []) ⟨hx, hb, hml, hown, hts⟩ (c_Te_putWhole l dC dI H.size ht wt cC fd ((((t ++ pls D T F F) ++ [46]) ++ pls D T (F - 1) (mT)) ++ [69]) F hfd (by first | omega | (simp only [List.length_append, List.length_singleton, pls_len]; omega)) (by omega) (by omega)) (cwV 1 hts (gw_V (gw_self cod_Te_putWhole) ml_Bt_154 im_Te_putWhole sel_Te_putWhole ini_Te) rfl rfl rfl (by decide +kernel) ⟨Nat.le_of_ble_eq_true rfl, Nat.le_of_ble_eq_true rfl⟩) (pw_preV pw_0_ok (trivial : pw_0 A s s.heap) hS hF hPc hDc (hK.sub [1] rfl) (va_recv hK hPc (ci := 3) (q0 := 0) rfl rfl)) rfl rfl hl.1 rfl (lv_room (Nat.le_of_ble_eq_true rfl)) d_Bt_putDecimal_111 ⟨Nat.le_of_ble_eq_true rfl, Nat.le_of_ble_eq_true rfl⟩) (fun fe H locs hfe hK1 hP hD hS => ?_)
      have hP : va_P (dC, dI) cls [(hB, .inr (4, [.ref hf, .ref hd, .ref ht, .int (iZ lo), .int (iZ hi9), .int (nI kd), .int (nI mi)])), (hf, .inr (1, [.ref q1, .ref q2, .ref q3])), (q1, .inr (2, [.ref w1, .int xu])), (w1, .inl (cJ, 26, .inr (.inl (bn_f X)))), (q2, .inr (2, [.ref w2, .int xa])), (w2, .inl (cJ, 26, .inr (.inl (bn_f U)))), (q3, .inr (2, [.ref w3, .int xo])), (w3, .inl (cJ, 26, .inr (.inl (bn_f O)))), (hd, .inr (0, [.ref wd, .int (nI n), .long (lN D), .int (iZ T)])), (wd, .inl (cC, 19, .inl (g))), (ht, .inr (3, [.ref wt, .int (nI (((((t ++ pls D T F F) ++ [46]) ++ pls D T (F - 1) (mT)) ++ [69]) ++ dwz F).length)])), (wt, .inl (cC, 64, .inl (fe)))] H := hP
      have hD : va_D A [(hB, .inr (4, [.ref hf, .ref hd, .ref ht, .int (iZ lo), .int (iZ hi9), .int (nI kd), .int (nI mi)])), (hf, .inr (1, [.ref q1, .ref q2, .ref q3])), (q1, .inr (2, [.ref w1, .int xu])), (w1, .inl (cJ, 26, .inr (.inl (bn_f X)))), (q2, .inr (2, [.ref w2, .int xa])), (w2, .inl (cJ, 26, .inr (.inl (bn_f U)))), (q3, .inr (2, [.ref w3, .int xo])), (w3, .inl (cJ, 26, .inr (.inl (bn_f O)))), (hd, .inr (0, [.ref wd, .int (nI n), .long (lN D), .int (iZ T)])), (wd, .inl (cC, 19, .inl (g))), (ht, .inr (3, [.ref wt, .int (nI (((((t ++ pls D T F F) ++ [46]) ++ pls D T (F - 1) (mT)) ++ [69]) ++ dwz F).length)])), (wt, .inl (cC, 64, .inl (fe)))] := hD
      have hend : ((((t ++ pls D T F F) ++ [46]) ++ pls D T (F - 1) (mT)) ++ [69]) ++ dwz F = t ++ dtx lo hi9 D n T := by rw [hdx]; simp only [List.append_assoc]
      rw [hend] at hfe hP hD
      exact hret _ _ _ _ fe d_Bt_putDecimal_114 hfe hP hK hD hS
    · have hlt : F < hi9 := by have := mt (iZ_le (a := hi9) (b := F) (by omega) (by omega) (by omega) (by omega)).mpr hc2; omega
      obtain ⟨mT, hmT⟩ : ∃ m9 : Int, m9 = min T (-1) := ⟨_, rfl⟩
      obtain ⟨mF, hmF⟩ : ∃ m9 : Int, m9 = max F 0 := ⟨_, rfl⟩
      have hdx : dtx lo hi9 D n T = pls D T mF 0 ++ ([46] ++ pls D T (-1) mT) := by rw [hmF, hmT, hF]; exact if_pos (by omega)
      have hmin : (if iZ (-1) < iZ T then iZ (-1) else iZ T) = iZ mT := by rw [hmT]; exact iZ_minz T (-1) (by omega) (by omega) (by omega) (by omega)
      have hmax : (if iZ F < 0 then 0 else iZ F) = iZ mF := by rw [hmF]; exact iZ_maxz F 0 (by omega) (by omega) (by omega) (by omega)
      have hmn : mT ≤ -1 ∧ -48 ≤ mT := by omega
      have hmn2 : 0 ≤ mF ∧ mF ≤ 29 ∧ (0 < mF → -18 ≤ mT) := by omega
      clear hmT hmF
      refine lv_aload_n hx hb d_Bt_putDecimal_24 rfl (lv_at hl 1 rfl) ?_
      refine lv_iload_n hx hb d_Bt_putDecimal_25 rfl (lv_at hl 0 rfl) ?_
      refine lv_iconst (v := 0) hx hb d_Bt_putDecimal_26 (by decide) ?_
      refine va_mmax hx hb (hml.trans hl.1.symm) hown (hts _ ml_Bt_141) (hts _ sta_Ma_max) (hts _ ini_Ma) (hts _ cod_Ma_max) (Nat.le_of_ble_eq_true rfl) (Nat.le_of_ble_eq_true rfl) (Nat.zero_le _) (Nat.zero_le _) d_Bt_putDecimal_27 ?_
      refine lv_topi (fun x_13 e_14 => ?_)
      obtain rfl : x_13 = iZ mF := e_14.trans (hmax)
      refine lv_iconst (v := 0) hx hb d_Bt_putDecimal_30 (by decide) ?_
      refine lv_topi (fun x_15 e_16 => ?_)
      obtain rfl : x_15 = iZ 0 := e_16.trans (rfl)
      refine pw_callv (wc := [(hB, .inr (4, [.ref hf, .ref hd, .ref ht, .int (iZ lo), .int (iZ hi9), .int (nI kd), .int (nI mi)])), (hf, .inr (1, [.ref q1, .ref q2, .ref q3])), (q1, .inr (2, [.ref w1, .int xu])), (w1, .inl (cJ, 26, .inr (.inl (bn_f X)))), (q2, .inr (2, [.ref w2, .int xa])), (w2, .inl (cJ, 26, .inr (.inl (bn_f U)))), (q3, .inr (2, [.ref w3, .int xo])), (w3, .inl (cJ, 26, .inr (.inl (bn_f O)))), (hd, .inr (0, [.ref wd, .int (nI n), .long (lN D), .int (iZ T)])), (wd, .inl (cC, 19, .inl (g))), (ht, .inr (3, [.ref wt, .int (nI t.length)])), (wt, .inl (cC, 64, .inl (f)))]) (wr := []) [0, 1, 2, 3, 4, 5, 6, 7, 8, 9, 10, 11] [] rfl rfl rfl (by decide) (by decide) (by decide) hP hD hS hA (fun hPc hDc hF => va_runV (As := [.int (iZ mF), .int (iZ 0)]) (rest := []) ⟨hx, hb, hml, hown, hts⟩ (c_Bt_putPlaces l dC dI H.size hB hf q1 w1 q2 w2 q3 w3 hd wd ht wt cJ cC lo hi9 kd mi X U O xu xa xo g n D T f t (mF) (0) hn hg hD9 (by omega) (by omega) htx (by omega) (by omega) (by omega) (by omega) (by first | omega | (simp only [List.length_append, List.length_singleton, pls_len]; omega))) (cwV 2 hts (gw_V (gw_self cod_Bt_putPlaces) ml_Bt_147 im_Bt_putPlaces sel_Bt_putPlaces ini_Bt) rfl rfl rfl (by decide +kernel) ⟨Nat.le_of_ble_eq_true rfl, Nat.le_of_ble_eq_true rfl⟩) (pw_preV pw_0_ok (trivial : pw_0 A s s.heap) hS hF hPc hDc (hK.sub [0, 1] rfl) (va_recv hK hPc (ci := 4) (q0 := 0) rfl rfl)) rfl rfl hl.1 rfl (lv_room (Nat.le_of_ble_eq_true rfl)) d_Bt_putDecimal_31 ⟨Nat.le_of_ble_eq_true rfl, Nat.le_of_ble_eq_true rfl⟩) (fun fa H locs hfa hK1 hP hD hS => ?_)
      have hP : va_P (dC, dI) cls [(hB, .inr (4, [.ref hf, .ref hd, .ref ht, .int (iZ lo), .int (iZ hi9), .int (nI kd), .int (nI mi)])), (hf, .inr (1, [.ref q1, .ref q2, .ref q3])), (q1, .inr (2, [.ref w1, .int xu])), (w1, .inl (cJ, 26, .inr (.inl (bn_f X)))), (q2, .inr (2, [.ref w2, .int xa])), (w2, .inl (cJ, 26, .inr (.inl (bn_f U)))), (q3, .inr (2, [.ref w3, .int xo])), (w3, .inl (cJ, 26, .inr (.inl (bn_f O)))), (hd, .inr (0, [.ref wd, .int (nI n), .long (lN D), .int (iZ T)])), (wd, .inl (cC, 19, .inl (g))), (ht, .inr (3, [.ref wt, .int (nI (t ++ pls D T (mF) (0)).length)])), (wt, .inl (cC, 64, .inl (fa)))] H := hP
      have hD : va_D A [(hB, .inr (4, [.ref hf, .ref hd, .ref ht, .int (iZ lo), .int (iZ hi9), .int (nI kd), .int (nI mi)])), (hf, .inr (1, [.ref q1, .ref q2, .ref q3])), (q1, .inr (2, [.ref w1, .int xu])), (w1, .inl (cJ, 26, .inr (.inl (bn_f X)))), (q2, .inr (2, [.ref w2, .int xa])), (w2, .inl (cJ, 26, .inr (.inl (bn_f U)))), (q3, .inr (2, [.ref w3, .int xo])), (w3, .inl (cJ, 26, .inr (.inl (bn_f O)))), (hd, .inr (0, [.ref wd, .int (nI n), .long (lN D), .int (iZ T)])), (wd, .inl (cC, 19, .inl (g))), (ht, .inr (3, [.ref wt, .int (nI (t ++ pls D T (mF) (0)).length)])), (wt, .inl (cC, 64, .inl (fa)))] := hD
      refine lv_aload_n hx hb d_Bt_putDecimal_34 rfl (lv_at hl 1 rfl) ?_
      refine va_get (D := (dC, dI)) (ci := 4) (v := .ref ht) (C := R_Bt) (T := F_Bt) (N := 7) hx hb hts i_Bt hown hK hP 0 rfl rfl 2 (by decide) (hts _ fl_Bt_26) (fun _ h9 => h9) rfl d_Bt_putDecimal_35 ?_
      refine lv_bipush (v := 46) hx hb d_Bt_putDecimal_38 (by decide) ?_
      refine pw_callv (wc := [(ht, .inr (3, [.ref wt, .int (nI (t ++ pls D T (mF) (0)).length)])), (wt, .inl (cC, 64, .inl (fa)))]) (wr := [(hB, .inr (4, [.ref hf, .ref hd, .ref ht, .int (iZ lo), .int (iZ hi9), .int (nI kd), .int (nI mi)])), (hf, .inr (1, [.ref q1, .ref q2, .ref q3])), (q1, .inr (2, [.ref w1, .int xu])), (w1, .inl (cJ, 26, .inr (.inl (bn_f X)))), (q2, .inr (2, [.ref w2, .int xa])), (w2, .inl (cJ, 26, .inr (.inl (bn_f U)))), (q3, .inr (2, [.ref w3, .int xo])), (w3, .inl (cJ, 26, .inr (.inl (bn_f O)))), (hd, .inr (0, [.ref wd, .int (nI n), .long (lN D), .int (iZ T)])), (wd, .inl (cC, 19, .inl (g)))]) [10, 11] [0, 1, 2, 3, 4, 5, 6, 7, 8, 9] rfl rfl rfl (by decide) (by decide) (by decide) hP hD hS hA (fun hPc hDc hF => va_runV (As := [.int 46]) (rest := []) ⟨hx, hb, hml, hown, hts⟩ (c_Te_put l dC dI H.size ht wt cC fa (t ++ pls D T (mF) (0)) 46 hfa (by first | omega | (simp only [List.length_append, List.length_singleton, pls_len]; omega)) (by omega)) (cwV 1 hts (gw_V (gw_self cod_Te_put) ml_Bt_123 im_Te_put sel_Te_put ini_Te) rfl rfl rfl (by decide +kernel) ⟨Nat.le_of_ble_eq_true rfl, Nat.le_of_ble_eq_true rfl⟩) (pw_preV pw_0_ok (trivial : pw_0 A s s.heap) hS hF hPc hDc (hK.sub [1] rfl) (va_recv hK hPc (ci := 3) (q0 := 0) rfl rfl)) rfl rfl hl.1 rfl (lv_room (Nat.le_of_ble_eq_true rfl)) d_Bt_putDecimal_40 ⟨Nat.le_of_ble_eq_true rfl, Nat.le_of_ble_eq_true rfl⟩) (fun fb H locs hfb hK1 hP hD hS => ?_)
      have hP : va_P (dC, dI) cls [(hB, .inr (4, [.ref hf, .ref hd, .ref ht, .int (iZ lo), .int (iZ hi9), .int (nI kd), .int (nI mi)])), (hf, .inr (1, [.ref q1, .ref q2, .ref q3])), (q1, .inr (2, [.ref w1, .int xu])), (w1, .inl (cJ, 26, .inr (.inl (bn_f X)))), (q2, .inr (2, [.ref w2, .int xa])), (w2, .inl (cJ, 26, .inr (.inl (bn_f U)))), (q3, .inr (2, [.ref w3, .int xo])), (w3, .inl (cJ, 26, .inr (.inl (bn_f O)))), (hd, .inr (0, [.ref wd, .int (nI n), .long (lN D), .int (iZ T)])), (wd, .inl (cC, 19, .inl (g))), (ht, .inr (3, [.ref wt, .int (nI ((t ++ pls D T (mF) (0)) ++ [46]).length)])), (wt, .inl (cC, 64, .inl (fb)))] H := hP
      have hD : va_D A [(hB, .inr (4, [.ref hf, .ref hd, .ref ht, .int (iZ lo), .int (iZ hi9), .int (nI kd), .int (nI mi)])), (hf, .inr (1, [.ref q1, .ref q2, .ref q3])), (q1, .inr (2, [.ref w1, .int xu])), (w1, .inl (cJ, 26, .inr (.inl (bn_f X)))), (q2, .inr (2, [.ref w2, .int xa])), (w2, .inl (cJ, 26, .inr (.inl (bn_f U)))), (q3, .inr (2, [.ref w3, .int xo])), (w3, .inl (cJ, 26, .inr (.inl (bn_f O)))), (hd, .inr (0, [.ref wd, .int (nI n), .long (lN D), .int (iZ T)])), (wd, .inl (cC, 19, .inl (g))), (ht, .inr (3, [.ref wt, .int (nI ((t ++ pls D T (mF) (0)) ++ [46]).length)])), (wt, .inl (cC, 64, .inl (fb)))] := hD
      refine lv_aload_n hx hb d_Bt_putDecimal_43 rfl (lv_at hl 1 rfl) ?_
      refine lv_iconst (v := (-1)) hx hb d_Bt_putDecimal_44 (by decide) ?_
      refine lv_topi (fun x_17 e_18 => ?_)
      obtain rfl : x_17 = iZ (-1) := e_18.trans (rfl)
      refine lv_aload_n hx hb d_Bt_putDecimal_45 rfl (lv_at hl 1 rfl) ?_
      refine va_get (D := (dC, dI)) (ci := 4) (v := .ref hd) (C := R_Bt) (T := F_Bt) (N := 7) hx hb hts i_Bt hown hK hP 0 rfl rfl 1 (by decide) (hts _ fl_Bt_19) (fun _ h9 => h9) rfl d_Bt_putDecimal_46 ?_
      refine va_getN (D := (dC, dI)) (ci := 0) (v := .int (iZ T)) (C := R_De) (T := F_De) (N := 4) hx hb hts i_De hown hK hP 8 rfl rfl 3 (by decide) (va_Nw.use rfl (hE.1 _ (List.mem_of_getElem? (i := 5) rfl))) (fun _ h9 => h9) rfl d_Bt_putDecimal_49 ?_
      refine lv_iconst (v := (-1)) hx hb d_Bt_putDecimal_52 (by decide) ?_
      refine lv_topi (fun x_19 e_20 => ?_)
      obtain rfl : x_19 = iZ (-1) := e_20.trans (rfl)
      refine va_mmin hx hb (hml.trans hl.1.symm) hown (hts _ ml_Bt_151) (hts _ sta_Ma_min) (hts _ ini_Ma) (hts _ cod_Ma_min) (Nat.le_of_ble_eq_true rfl) (Nat.le_of_ble_eq_true rfl) (Nat.zero_le _) (Nat.zero_le _) d_Bt_putDecimal_53 ?_
      refine lv_topi (fun x_21 e_22 => ?_)
      obtain rfl : x_21 = iZ mT := e_22.trans (hmin)
      refine pw_callv (wc := [(hB, .inr (4, [.ref hf, .ref hd, .ref ht, .int (iZ lo), .int (iZ hi9), .int (nI kd), .int (nI mi)])), (hf, .inr (1, [.ref q1, .ref q2, .ref q3])), (q1, .inr (2, [.ref w1, .int xu])), (w1, .inl (cJ, 26, .inr (.inl (bn_f X)))), (q2, .inr (2, [.ref w2, .int xa])), (w2, .inl (cJ, 26, .inr (.inl (bn_f U)))), (q3, .inr (2, [.ref w3, .int xo])), (w3, .inl (cJ, 26, .inr (.inl (bn_f O)))), (hd, .inr (0, [.ref wd, .int (nI n), .long (lN D), .int (iZ T)])), (wd, .inl (cC, 19, .inl (g))), (ht, .inr (3, [.ref wt, .int (nI ((t ++ pls D T (mF) (0)) ++ [46]).length)])), (wt, .inl (cC, 64, .inl (fb)))]) (wr := []) [0, 1, 2, 3, 4, 5, 6, 7, 8, 9, 10, 11] [] rfl rfl rfl (by decide) (by decide) (by decide) hP hD hS hA (fun hPc hDc hF => va_runV (As := [.int (iZ (-1)), .int (iZ mT)]) (rest := []) ⟨hx, hb, hml, hown, hts⟩ (c_Bt_putPlaces l dC dI H.size hB hf q1 w1 q2 w2 q3 w3 hd wd ht wt cJ cC lo hi9 kd mi X U O xu xa xo g n D T fb ((t ++ pls D T (mF) (0)) ++ [46]) (-1) (mT) hn hg hD9 (by omega) (by omega) hfb (by omega) (by omega) (by omega) (by omega) (by first | omega | (simp only [List.length_append, List.length_singleton, pls_len]; omega))) (cwV 2 hts (gw_V (gw_self cod_Bt_putPlaces) ml_Bt_147 im_Bt_putPlaces sel_Bt_putPlaces ini_Bt) rfl rfl rfl (by decide +kernel) ⟨Nat.le_of_ble_eq_true rfl, Nat.le_of_ble_eq_true rfl⟩) (pw_preV pw_0_ok (trivial : pw_0 A s s.heap) hS hF hPc hDc (hK.sub [0, 1] rfl) (va_recv hK hPc (ci := 4) (q0 := 0) rfl rfl)) rfl rfl hl.1 rfl (lv_room (Nat.le_of_ble_eq_true rfl)) d_Bt_putDecimal_56 ⟨Nat.le_of_ble_eq_true rfl, Nat.le_of_ble_eq_true rfl⟩) (fun fc H locs hfc hK1 hP hD hS => ?_)
      have hP : va_P (dC, dI) cls [(hB, .inr (4, [.ref hf, .ref hd, .ref ht, .int (iZ lo), .int (iZ hi9), .int (nI kd), .int (nI mi)])), (hf, .inr (1, [.ref q1, .ref q2, .ref q3])), (q1, .inr (2, [.ref w1, .int xu])), (w1, .inl (cJ, 26, .inr (.inl (bn_f X)))), (q2, .inr (2, [.ref w2, .int xa])), (w2, .inl (cJ, 26, .inr (.inl (bn_f U)))), (q3, .inr (2, [.ref w3, .int xo])), (w3, .inl (cJ, 26, .inr (.inl (bn_f O)))), (hd, .inr (0, [.ref wd, .int (nI n), .long (lN D), .int (iZ T)])), (wd, .inl (cC, 19, .inl (g))), (ht, .inr (3, [.ref wt, .int (nI (((t ++ pls D T (mF) (0)) ++ [46]) ++ pls D T (-1) (mT)).length)])), (wt, .inl (cC, 64, .inl (fc)))] H := hP
      have hD : va_D A [(hB, .inr (4, [.ref hf, .ref hd, .ref ht, .int (iZ lo), .int (iZ hi9), .int (nI kd), .int (nI mi)])), (hf, .inr (1, [.ref q1, .ref q2, .ref q3])), (q1, .inr (2, [.ref w1, .int xu])), (w1, .inl (cJ, 26, .inr (.inl (bn_f X)))), (q2, .inr (2, [.ref w2, .int xa])), (w2, .inl (cJ, 26, .inr (.inl (bn_f U)))), (q3, .inr (2, [.ref w3, .int xo])), (w3, .inl (cJ, 26, .inr (.inl (bn_f O)))), (hd, .inr (0, [.ref wd, .int (nI n), .long (lN D), .int (iZ T)])), (wd, .inl (cC, 19, .inl (g))), (ht, .inr (3, [.ref wt, .int (nI (((t ++ pls D T (mF) (0)) ++ [46]) ++ pls D T (-1) (mT)).length)])), (wt, .inl (cC, 64, .inl (fc)))] := hD
      refine lv_goto (tgt := 114) hx hb d_Bt_putDecimal_59 (by decide) ?_
      have hend : ((t ++ pls D T (mF) (0)) ++ [46]) ++ pls D T (-1) (mT) = t ++ dtx lo hi9 D n T := by rw [hdx]; simp only [List.append_assoc]
      rw [hend] at hfc hP hD
      exact hret _ _ _ _ fc d_Bt_putDecimal_114 hfc hP hK hD hS
end
section
set_option maxHeartbeats 4000000 in
set_option maxRecDepth 100000 in
/-- putNamed -/
theorem c_Bt_putNamed (l : Launch) (dC : Nat → ClassId) (dI : Nat → Nat → Nat) (sz : Nat) (ad adK adV : Nat → Nat) (hB hf q1 w1 q2 w2 q3 w3 hd wd ht wt : Nat) (cJ cC : ClassId) (lo hi9 : Int) (kd mi : Nat) (X U O : Nat) (xu xa xo : Int32) (g : Nat → Int32) (n D : Nat) (T : Int) (f : Nat → Int32) (t : List Nat) (z : Nat)  (htx : tx f t) (htl : t.length ≤ 1) (hz : z < 6) (hkd : kd ≤ 4) : Met l y_Bt_putNamed (Cond.code y_Bt_putNamed b_Bt_putNamed 2 none :: gT) ({ frames := 5, cells := 0, slots := 0, locals := 107 }) (va_Pc [.ref hB, .ref ((adK z))] (pw_P (dC, dI) cls [(cJ, .long), (cC, .char)] (cb_E ad adK adV) [(hB, .inr (4, [.ref hf, .ref hd, .ref ht, .int (iZ lo), .int (iZ hi9), .int (nI kd), .int (nI mi)])), (hf, .inr (1, [.ref q1, .ref q2, .ref q3])), (q1, .inr (2, [.ref w1, .int xu])), (w1, .inl (cJ, 26, .inr (.inl (bn_f X)))), (q2, .inr (2, [.ref w2, .int xa])), (w2, .inl (cJ, 26, .inr (.inl (bn_f U)))), (q3, .inr (2, [.ref w3, .int xo])), (w3, .inl (cJ, 26, .inr (.inl (bn_f O)))), (hd, .inr (0, [.ref wd, .int (nI n), .long (lN D), .int (iZ T)])), (wd, .inl (cC, 19, .inl (g))), (ht, .inr (3, [.ref wt, .int (nI t.length)])), (wt, .inl (cC, 64, .inl (f)))] sz)) (va_Qv (fun (f2 : Nat → Int32) => tx f2 (t ++ (cb_str.getD (if kd = 1 then 1 else if kd = 2 then 2 else z) []))) (fun (f2 : Nat → Int32) => pw_B (dC, dI) cls [(cJ, .long), (cC, .char)] (va_A [(hB, .inr (4, [.ref hf, .ref hd, .ref ht, .int (iZ lo), .int (iZ hi9), .int (nI kd), .int (nI mi)])), (hf, .inr (1, [.ref q1, .ref q2, .ref q3])), (q1, .inr (2, [.ref w1, .int xu])), (w1, .inl (cJ, 26, .inr (.inl (bn_f X)))), (q2, .inr (2, [.ref w2, .int xa])), (w2, .inl (cJ, 26, .inr (.inl (bn_f U)))), (q3, .inr (2, [.ref w3, .int xo])), (w3, .inl (cJ, 26, .inr (.inl (bn_f O)))), (hd, .inr (0, [.ref wd, .int (nI n), .long (lN D), .int (iZ T)])), (wd, .inl (cC, 19, .inl (g))), (ht, .inr (3, [.ref wt, .int (nI t.length)])), (wt, .inl (cC, 64, .inl (f)))] sz) [(hB, .inr (4, [.ref hf, .ref hd, .ref ht, .int (iZ lo), .int (iZ hi9), .int (nI kd), .int (nI mi)])), (hf, .inr (1, [.ref q1, .ref q2, .ref q3])), (q1, .inr (2, [.ref w1, .int xu])), (w1, .inl (cJ, 26, .inr (.inl (bn_f X)))), (q2, .inr (2, [.ref w2, .int xa])), (w2, .inl (cJ, 26, .inr (.inl (bn_f U)))), (q3, .inr (2, [.ref w3, .int xo])), (w3, .inl (cJ, 26, .inr (.inl (bn_f O)))), (hd, .inr (0, [.ref wd, .int (nI n), .long (lN D), .int (iZ T)])), (wd, .inl (cC, 19, .inl (g))), (ht, .inr (3, [.ref wt, .int (nI (t ++ (cb_str.getD (if kd = 1 then 1 else if kd = 2 then 2 else z) [])).length)])), (wt, .inl (cC, 64, .inl (f2)))]) (va_A [(hB, .inr (4, [.ref hf, .ref hd, .ref ht, .int (iZ lo), .int (iZ hi9), .int (nI kd), .int (nI mi)])), (hf, .inr (1, [.ref q1, .ref q2, .ref q3])), (q1, .inr (2, [.ref w1, .int xu])), (w1, .inl (cJ, 26, .inr (.inl (bn_f X)))), (q2, .inr (2, [.ref w2, .int xa])), (w2, .inl (cJ, 26, .inr (.inl (bn_f U)))), (q3, .inr (2, [.ref w3, .int xo])), (w3, .inl (cJ, 26, .inr (.inl (bn_f O)))), (hd, .inr (0, [.ref wd, .int (nI n), .long (lN D), .int (iZ T)])), (wd, .inl (cC, 19, .inl (g))), (ht, .inr (3, [.ref wt, .int (nI t.length)])), (wt, .inl (cC, 64, .inl (f)))] sz)) 0 0 (va_A [(hB, .inr (4, [.ref hf, .ref hd, .ref ht, .int (iZ lo), .int (iZ hi9), .int (nI kd), .int (nI mi)])), (hf, .inr (1, [.ref q1, .ref q2, .ref q3])), (q1, .inr (2, [.ref w1, .int xu])), (w1, .inl (cJ, 26, .inr (.inl (bn_f X)))), (q2, .inr (2, [.ref w2, .int xa])), (w2, .inl (cJ, 26, .inr (.inl (bn_f U)))), (q3, .inr (2, [.ref w3, .int xo])), (w3, .inl (cJ, 26, .inr (.inl (bn_f O)))), (hd, .inr (0, [.ref wd, .int (nI n), .long (lN D), .int (iZ T)])), (wd, .inl (cC, 19, .inl (g))), (ht, .inr (3, [.ref wt, .int (nI t.length)])), (wt, .inl (cC, 64, .inl (f)))] sz) := by
  refine pw_metv (tn := fun (f2 : Nat → Int32) => [(cJ, .long), (cC, .char)]) (wn := fun (f2 : Nat → Int32) => [(hB, .inr (4, [.ref hf, .ref hd, .ref ht, .int (iZ lo), .int (iZ hi9), .int (nI kd), .int (nI mi)])), (hf, .inr (1, [.ref q1, .ref q2, .ref q3])), (q1, .inr (2, [.ref w1, .int xu])), (w1, .inl (cJ, 26, .inr (.inl (bn_f X)))), (q2, .inr (2, [.ref w2, .int xa])), (w2, .inl (cJ, 26, .inr (.inl (bn_f U)))), (q3, .inr (2, [.ref w3, .int xo])), (w3, .inl (cJ, 26, .inr (.inl (bn_f O)))), (hd, .inr (0, [.ref wd, .int (nI n), .long (lN D), .int (iZ T)])), (wd, .inl (cC, 19, .inl (g))), (ht, .inr (3, [.ref wt, .int (nI (t ++ (cb_str.getD (if kd = 1 then 1 else if kd = 2 then 2 else z) [])).length)])), (wt, .inl (cC, 64, .inl (f2)))]) (by decide) (Nat.le_of_ble_eq_true rfl) ?_
  intro p e s m args below meth c A Q H ls hx hb hml hown hts hnm hA hE hP hK hD hS hret hl
  have hown : s.vm.findClass R_Bt = some m.cls := hown
  have hl : lv_has ls 2 [(0, .ref hB), (1, .ref ((adK z)))] := hl
  refine lv_aload_n hx hb d_Bt_putNamed_0 rfl (lv_at hl 0 rfl) ?_
  refine va_get (D := (dC, dI)) (ci := 4) (v := .int (nI kd)) (C := R_Bt) (T := F_Bt) (N := 7) hx hb hts i_Bt hown hK hP 0 rfl rfl 5 (by decide) (hts _ fl_Bt_37) (fun _ h9 => h9) rfl d_Bt_putNamed_1 ?_
  refine lv_iconst (v := 1) hx hb d_Bt_putNamed_4 (by decide) ?_
  refine lv_icmp_ne (tgt := 20) hx hb d_Bt_putNamed_5 (by decide) (fun hc => ?_) (fun hc => ?_)
  · have h1 : kd ≠ 1 := fun q => hc (by rw [q]; rfl)
    refine lv_aload_n hx hb d_Bt_putNamed_20 rfl (lv_at hl 0 rfl) ?_
    refine va_get (D := (dC, dI)) (ci := 4) (v := .int (nI kd)) (C := R_Bt) (T := F_Bt) (N := 7) hx hb hts i_Bt hown hK hP 0 rfl rfl 5 (by decide) (hts _ fl_Bt_37) (fun _ h9 => h9) rfl d_Bt_putNamed_21 ?_
    refine lv_iconst (v := 2) hx hb d_Bt_putNamed_24 (by decide) ?_
    refine lv_icmp_ne (tgt := 40) hx hb d_Bt_putNamed_25 (by decide) (fun hc2 => ?_) (fun hc2 => ?_)
    · have h2 : kd ≠ 2 := fun q => hc2 (by rw [q]; rfl)
      refine lv_aload_n hx hb d_Bt_putNamed_40 rfl (lv_at hl 0 rfl) ?_
      refine va_get (D := (dC, dI)) (ci := 4) (v := .ref ht) (C := R_Bt) (T := F_Bt) (N := 7) hx hb hts i_Bt hown hK hP 0 rfl rfl 2 (by decide) (hts _ fl_Bt_26) (fun _ h9 => h9) rfl d_Bt_putNamed_41 ?_
      refine lv_aload_n hx hb d_Bt_putNamed_44 rfl (lv_at hl 1 rfl) ?_
      have hnm9 : (if kd = 1 then 1 else if kd = 2 then 2 else z) = z := by rw [if_neg h1, if_neg h2]
      refine pw_callv (wc := [(ht, .inr (3, [.ref wt, .int (nI t.length)])), (wt, .inl (cC, 64, .inl (f)))]) (wr := [(hB, .inr (4, [.ref hf, .ref hd, .ref ht, .int (iZ lo), .int (iZ hi9), .int (nI kd), .int (nI mi)])), (hf, .inr (1, [.ref q1, .ref q2, .ref q3])), (q1, .inr (2, [.ref w1, .int xu])), (w1, .inl (cJ, 26, .inr (.inl (bn_f X)))), (q2, .inr (2, [.ref w2, .int xa])), (w2, .inl (cJ, 26, .inr (.inl (bn_f U)))), (q3, .inr (2, [.ref w3, .int xo])), (w3, .inl (cJ, 26, .inr (.inl (bn_f O)))), (hd, .inr (0, [.ref wd, .int (nI n), .long (lN D), .int (iZ T)])), (wd, .inl (cC, 19, .inl (g)))]) [10, 11] [0, 1, 2, 3, 4, 5, 6, 7, 8, 9] rfl rfl rfl (by decide) (by decide) (by decide) hP hD hS hA (fun hPc hDc hF => va_runV (As := [.ref ((adK z))]) (rest := []) ⟨hx, hb, hml, hown, hts⟩ (c_Te_putAll l dC dI H.size ad adK adV ht wt cC f t z htx (by omega) (by omega)) (cwV 1 hts (gw_V (gw_self cod_Te_putAll) ml_Bt_132 im_Te_putAll sel_Te_putAll ini_Te) rfl rfl rfl (by decide +kernel) ⟨Nat.le_of_ble_eq_true rfl, Nat.le_of_ble_eq_true rfl⟩) (pw_preV (cb_E_ok ad adK adV) hE hS hF hPc hDc (hK.sub [1] rfl) (va_recv hK hPc (ci := 3) (q0 := 0) rfl rfl)) rfl rfl hl.1 rfl (lv_room (Nat.le_of_ble_eq_true rfl)) d_Bt_putNamed_45 ⟨Nat.le_of_ble_eq_true rfl, Nat.le_of_ble_eq_true rfl⟩) (fun fa H locs hfa hK1 hP hD hS => ?_)
      have hP : va_P (dC, dI) cls [(hB, .inr (4, [.ref hf, .ref hd, .ref ht, .int (iZ lo), .int (iZ hi9), .int (nI kd), .int (nI mi)])), (hf, .inr (1, [.ref q1, .ref q2, .ref q3])), (q1, .inr (2, [.ref w1, .int xu])), (w1, .inl (cJ, 26, .inr (.inl (bn_f X)))), (q2, .inr (2, [.ref w2, .int xa])), (w2, .inl (cJ, 26, .inr (.inl (bn_f U)))), (q3, .inr (2, [.ref w3, .int xo])), (w3, .inl (cJ, 26, .inr (.inl (bn_f O)))), (hd, .inr (0, [.ref wd, .int (nI n), .long (lN D), .int (iZ T)])), (wd, .inl (cC, 19, .inl (g))), (ht, .inr (3, [.ref wt, .int (nI (t ++ cb_str.getD z []).length)])), (wt, .inl (cC, 64, .inl (fa)))] H := hP
      have hD : va_D A [(hB, .inr (4, [.ref hf, .ref hd, .ref ht, .int (iZ lo), .int (iZ hi9), .int (nI kd), .int (nI mi)])), (hf, .inr (1, [.ref q1, .ref q2, .ref q3])), (q1, .inr (2, [.ref w1, .int xu])), (w1, .inl (cJ, 26, .inr (.inl (bn_f X)))), (q2, .inr (2, [.ref w2, .int xa])), (w2, .inl (cJ, 26, .inr (.inl (bn_f U)))), (q3, .inr (2, [.ref w3, .int xo])), (w3, .inl (cJ, 26, .inr (.inl (bn_f O)))), (hd, .inr (0, [.ref wd, .int (nI n), .long (lN D), .int (iZ T)])), (wd, .inl (cC, 19, .inl (g))), (ht, .inr (3, [.ref wt, .int (nI (t ++ cb_str.getD z []).length)])), (wt, .inl (cC, 64, .inl (fa)))] := hD
      exact hret _ _ _ _ fa d_Bt_putNamed_48 (by rw [hnm9]; exact hfa) (by rw [hnm9]; exact hP) hK (by rw [hnm9]; exact hD) hS
    · have h2 : kd = 2 := (nI_eq (a := kd) (b := 2) (by omega) (by omega)).mp hc2
      refine lv_aload_n hx hb d_Bt_putNamed_28 rfl (lv_at hl 0 rfl) ?_
      refine va_get (D := (dC, dI)) (ci := 4) (v := .ref ht) (C := R_Bt) (T := F_Bt) (N := 7) hx hb hts i_Bt hown hK hP 0 rfl rfl 2 (by decide) (hts _ fl_Bt_26) (fun _ h9 => h9) rfl d_Bt_putNamed_29 ?_
      refine va_ldcS hx hb hown (hE.2.2.2.2.2 2 (by decide)) d_Bt_putNamed_32 ?_
      have hnm9 : (if kd = 1 then 1 else if kd = 2 then 2 else z) = 2 := by rw [if_neg h1, if_pos h2]
      refine pw_callv (wc := [(ht, .inr (3, [.ref wt, .int (nI t.length)])), (wt, .inl (cC, 64, .inl (f)))]) (wr := [(hB, .inr (4, [.ref hf, .ref hd, .ref ht, .int (iZ lo), .int (iZ hi9), .int (nI kd), .int (nI mi)])), (hf, .inr (1, [.ref q1, .ref q2, .ref q3])), (q1, .inr (2, [.ref w1, .int xu])), (w1, .inl (cJ, 26, .inr (.inl (bn_f X)))), (q2, .inr (2, [.ref w2, .int xa])), (w2, .inl (cJ, 26, .inr (.inl (bn_f U)))), (q3, .inr (2, [.ref w3, .int xo])), (w3, .inl (cJ, 26, .inr (.inl (bn_f O)))), (hd, .inr (0, [.ref wd, .int (nI n), .long (lN D), .int (iZ T)])), (wd, .inl (cC, 19, .inl (g)))]) [10, 11] [0, 1, 2, 3, 4, 5, 6, 7, 8, 9] rfl rfl rfl (by decide) (by decide) (by decide) hP hD hS hA (fun hPc hDc hF => va_runV (As := [.ref ((adK 2))]) (rest := []) ⟨hx, hb, hml, hown, hts⟩ (c_Te_putAll l dC dI H.size ad adK adV ht wt cC f t 2 htx (by omega) (by omega)) (cwV 1 hts (gw_V (gw_self cod_Te_putAll) ml_Bt_132 im_Te_putAll sel_Te_putAll ini_Te) rfl rfl rfl (by decide +kernel) ⟨Nat.le_of_ble_eq_true rfl, Nat.le_of_ble_eq_true rfl⟩) (pw_preV (cb_E_ok ad adK adV) hE hS hF hPc hDc (hK.sub [1] rfl) (va_recv hK hPc (ci := 3) (q0 := 0) rfl rfl)) rfl rfl hl.1 rfl (lv_room (Nat.le_of_ble_eq_true rfl)) d_Bt_putNamed_34 ⟨Nat.le_of_ble_eq_true rfl, Nat.le_of_ble_eq_true rfl⟩) (fun fa H locs hfa hK1 hP hD hS => ?_)
      have hP : va_P (dC, dI) cls [(hB, .inr (4, [.ref hf, .ref hd, .ref ht, .int (iZ lo), .int (iZ hi9), .int (nI kd), .int (nI mi)])), (hf, .inr (1, [.ref q1, .ref q2, .ref q3])), (q1, .inr (2, [.ref w1, .int xu])), (w1, .inl (cJ, 26, .inr (.inl (bn_f X)))), (q2, .inr (2, [.ref w2, .int xa])), (w2, .inl (cJ, 26, .inr (.inl (bn_f U)))), (q3, .inr (2, [.ref w3, .int xo])), (w3, .inl (cJ, 26, .inr (.inl (bn_f O)))), (hd, .inr (0, [.ref wd, .int (nI n), .long (lN D), .int (iZ T)])), (wd, .inl (cC, 19, .inl (g))), (ht, .inr (3, [.ref wt, .int (nI (t ++ cb_str.getD 2 []).length)])), (wt, .inl (cC, 64, .inl (fa)))] H := hP
      have hD : va_D A [(hB, .inr (4, [.ref hf, .ref hd, .ref ht, .int (iZ lo), .int (iZ hi9), .int (nI kd), .int (nI mi)])), (hf, .inr (1, [.ref q1, .ref q2, .ref q3])), (q1, .inr (2, [.ref w1, .int xu])), (w1, .inl (cJ, 26, .inr (.inl (bn_f X)))), (q2, .inr (2, [.ref w2, .int xa])), (w2, .inl (cJ, 26, .inr (.inl (bn_f U)))), (q3, .inr (2, [.ref w3, .int xo])), (w3, .inl (cJ, 26, .inr (.inl (bn_f O)))), (hd, .inr (0, [.ref wd, .int (nI n), .long (lN D), .int (iZ T)])), (wd, .inl (cC, 19, .inl (g))), (ht, .inr (3, [.ref wt, .int (nI (t ++ cb_str.getD 2 []).length)])), (wt, .inl (cC, 64, .inl (fa)))] := hD
      refine lv_goto (tgt := 48) hx hb d_Bt_putNamed_37 (by decide) ?_
      exact hret _ _ _ _ fa d_Bt_putNamed_48 (by rw [hnm9]; exact hfa) (by rw [hnm9]; exact hP) hK (by rw [hnm9]; exact hD) hS
  · have h1 : kd = 1 := (nI_eq (a := kd) (b := 1) (by omega) (by omega)).mp hc
    refine lv_aload_n hx hb d_Bt_putNamed_8 rfl (lv_at hl 0 rfl) ?_
    refine va_get (D := (dC, dI)) (ci := 4) (v := .ref ht) (C := R_Bt) (T := F_Bt) (N := 7) hx hb hts i_Bt hown hK hP 0 rfl rfl 2 (by decide) (hts _ fl_Bt_26) (fun _ h9 => h9) rfl d_Bt_putNamed_9 ?_
    refine va_ldcS hx hb hown (hE.2.2.2.2.2 1 (by decide)) d_Bt_putNamed_12 ?_
    have hnm9 : (if kd = 1 then 1 else if kd = 2 then 2 else z) = 1 := by rw [if_pos h1]
    refine pw_callv (wc := [(ht, .inr (3, [.ref wt, .int (nI t.length)])), (wt, .inl (cC, 64, .inl (f)))]) (wr := [(hB, .inr (4, [.ref hf, .ref hd, .ref ht, .int (iZ lo), .int (iZ hi9), .int (nI kd), .int (nI mi)])), (hf, .inr (1, [.ref q1, .ref q2, .ref q3])), (q1, .inr (2, [.ref w1, .int xu])), (w1, .inl (cJ, 26, .inr (.inl (bn_f X)))), (q2, .inr (2, [.ref w2, .int xa])), (w2, .inl (cJ, 26, .inr (.inl (bn_f U)))), (q3, .inr (2, [.ref w3, .int xo])), (w3, .inl (cJ, 26, .inr (.inl (bn_f O)))), (hd, .inr (0, [.ref wd, .int (nI n), .long (lN D), .int (iZ T)])), (wd, .inl (cC, 19, .inl (g)))]) [10, 11] [0, 1, 2, 3, 4, 5, 6, 7, 8, 9] rfl rfl rfl (by decide) (by decide) (by decide) hP hD hS hA (fun hPc hDc hF => va_runV (As := [.ref ((adK 1))]) (rest := []) ⟨hx, hb, hml, hown, hts⟩ (c_Te_putAll l dC dI H.size ad adK adV ht wt cC f t 1 htx (by omega) (by omega)) (cwV 1 hts (gw_V (gw_self cod_Te_putAll) ml_Bt_132 im_Te_putAll sel_Te_putAll ini_Te) rfl rfl rfl (by decide +kernel) ⟨Nat.le_of_ble_eq_true rfl, Nat.le_of_ble_eq_true rfl⟩) (pw_preV (cb_E_ok ad adK adV) hE hS hF hPc hDc (hK.sub [1] rfl) (va_recv hK hPc (ci := 3) (q0 := 0) rfl rfl)) rfl rfl hl.1 rfl (lv_room (Nat.le_of_ble_eq_true rfl)) d_Bt_putNamed_14 ⟨Nat.le_of_ble_eq_true rfl, Nat.le_of_ble_eq_true rfl⟩) (fun fa H locs hfa hK1 hP hD hS => ?_)
    have hP : va_P (dC, dI) cls [(hB, .inr (4, [.ref hf, .ref hd, .ref ht, .int (iZ lo), .int (iZ hi9), .int (nI kd), .int (nI mi)])), (hf, .inr (1, [.ref q1, .ref q2, .ref q3])), (q1, .inr (2, [.ref w1, .int xu])), (w1, .inl (cJ, 26, .inr (.inl (bn_f X)))), (q2, .inr (2, [.ref w2, .int xa])), (w2, .inl (cJ, 26, .inr (.inl (bn_f U)))), (q3, .inr (2, [.ref w3, .int xo])), (w3, .inl (cJ, 26, .inr (.inl (bn_f O)))), (hd, .inr (0, [.ref wd, .int (nI n), .long (lN D), .int (iZ T)])), (wd, .inl (cC, 19, .inl (g))), (ht, .inr (3, [.ref wt, .int (nI (t ++ cb_str.getD 1 []).length)])), (wt, .inl (cC, 64, .inl (fa)))] H := hP
    have hD : va_D A [(hB, .inr (4, [.ref hf, .ref hd, .ref ht, .int (iZ lo), .int (iZ hi9), .int (nI kd), .int (nI mi)])), (hf, .inr (1, [.ref q1, .ref q2, .ref q3])), (q1, .inr (2, [.ref w1, .int xu])), (w1, .inl (cJ, 26, .inr (.inl (bn_f X)))), (q2, .inr (2, [.ref w2, .int xa])), (w2, .inl (cJ, 26, .inr (.inl (bn_f U)))), (q3, .inr (2, [.ref w3, .int xo])), (w3, .inl (cJ, 26, .inr (.inl (bn_f O)))), (hd, .inr (0, [.ref wd, .int (nI n), .long (lN D), .int (iZ T)])), (wd, .inl (cC, 19, .inl (g))), (ht, .inr (3, [.ref wt, .int (nI (t ++ cb_str.getD 1 []).length)])), (wt, .inl (cC, 64, .inl (fa)))] := hD
    refine lv_goto (tgt := 48) hx hb d_Bt_putNamed_17 (by decide) ?_
    exact hret _ _ _ _ fa d_Bt_putNamed_48 (by rw [hnm9]; exact hfa) (by rw [hnm9]; exact hP) hK (by rw [hnm9]; exact hD) hS
set_option maxHeartbeats 4000000 in
set_option maxRecDepth 100000 in
/-- putHex -/
theorem c_Bt_putHex (l : Launch) (dC : Nat → ClassId) (dI : Nat → Nat → Nat) (sz : Nat) (ad adK adV : Nat → Nat) (hB hf q1 w1 q2 w2 q3 w3 hd wd ht wt : Nat) (cJ cC : ClassId) (lo hi9 : Int) (kd mi : Nat) (X U O : Nat) (xu xa xo : Int32) (g : Nat → Int32) (n D : Nat) (T : Int) (f : Nat → Int32) (t : List Nat) (i b : Nat)  (htx : tx f t) (htl : t.length ≤ 1) (hi : i < 2) (hbb : b < 2 ^ 64) : Met l y_Bt_putHex (Cond.code y_Bt_putHex b_Bt_putHex 5 none :: gT) ({ frames := 5, cells := 0, slots := 0, locals := 107 }) (va_Pc [.ref hB, .ref ((ad i)), .long (lN b)] (pw_P (dC, dI) cls [(cJ, .long), (cC, .char)] (cb_E ad adK adV) [(hB, .inr (4, [.ref hf, .ref hd, .ref ht, .int (iZ lo), .int (iZ hi9), .int (nI kd), .int (nI mi)])), (hf, .inr (1, [.ref q1, .ref q2, .ref q3])), (q1, .inr (2, [.ref w1, .int xu])), (w1, .inl (cJ, 26, .inr (.inl (bn_f X)))), (q2, .inr (2, [.ref w2, .int xa])), (w2, .inl (cJ, 26, .inr (.inl (bn_f U)))), (q3, .inr (2, [.ref w3, .int xo])), (w3, .inl (cJ, 26, .inr (.inl (bn_f O)))), (hd, .inr (0, [.ref wd, .int (nI n), .long (lN D), .int (iZ T)])), (wd, .inl (cC, 19, .inl (g))), (ht, .inr (3, [.ref wt, .int (nI t.length)])), (wt, .inl (cC, 64, .inl (f)))] sz)) (va_Qv (fun (f2 : Nat → Int32) => tx f2 (t ++ (htxt i b))) (fun (f2 : Nat → Int32) => pw_B (dC, dI) cls [(cJ, .long), (cC, .char)] (va_A [(hB, .inr (4, [.ref hf, .ref hd, .ref ht, .int (iZ lo), .int (iZ hi9), .int (nI kd), .int (nI mi)])), (hf, .inr (1, [.ref q1, .ref q2, .ref q3])), (q1, .inr (2, [.ref w1, .int xu])), (w1, .inl (cJ, 26, .inr (.inl (bn_f X)))), (q2, .inr (2, [.ref w2, .int xa])), (w2, .inl (cJ, 26, .inr (.inl (bn_f U)))), (q3, .inr (2, [.ref w3, .int xo])), (w3, .inl (cJ, 26, .inr (.inl (bn_f O)))), (hd, .inr (0, [.ref wd, .int (nI n), .long (lN D), .int (iZ T)])), (wd, .inl (cC, 19, .inl (g))), (ht, .inr (3, [.ref wt, .int (nI t.length)])), (wt, .inl (cC, 64, .inl (f)))] sz) [(hB, .inr (4, [.ref hf, .ref hd, .ref ht, .int (iZ lo), .int (iZ hi9), .int (nI kd), .int (nI mi)])), (hf, .inr (1, [.ref q1, .ref q2, .ref q3])), (q1, .inr (2, [.ref w1, .int xu])), (w1, .inl (cJ, 26, .inr (.inl (bn_f X)))), (q2, .inr (2, [.ref w2, .int xa])), (w2, .inl (cJ, 26, .inr (.inl (bn_f U)))), (q3, .inr (2, [.ref w3, .int xo])), (w3, .inl (cJ, 26, .inr (.inl (bn_f O)))), (hd, .inr (0, [.ref wd, .int (nI n), .long (lN D), .int (iZ T)])), (wd, .inl (cC, 19, .inl (g))), (ht, .inr (3, [.ref wt, .int (nI (t ++ (htxt i b)).length)])), (wt, .inl (cC, 64, .inl (f2)))]) (va_A [(hB, .inr (4, [.ref hf, .ref hd, .ref ht, .int (iZ lo), .int (iZ hi9), .int (nI kd), .int (nI mi)])), (hf, .inr (1, [.ref q1, .ref q2, .ref q3])), (q1, .inr (2, [.ref w1, .int xu])), (w1, .inl (cJ, 26, .inr (.inl (bn_f X)))), (q2, .inr (2, [.ref w2, .int xa])), (w2, .inl (cJ, 26, .inr (.inl (bn_f U)))), (q3, .inr (2, [.ref w3, .int xo])), (w3, .inl (cJ, 26, .inr (.inl (bn_f O)))), (hd, .inr (0, [.ref wd, .int (nI n), .long (lN D), .int (iZ T)])), (wd, .inl (cC, 19, .inl (g))), (ht, .inr (3, [.ref wt, .int (nI t.length)])), (wt, .inl (cC, 64, .inl (f)))] sz)) 0 0 (va_A [(hB, .inr (4, [.ref hf, .ref hd, .ref ht, .int (iZ lo), .int (iZ hi9), .int (nI kd), .int (nI mi)])), (hf, .inr (1, [.ref q1, .ref q2, .ref q3])), (q1, .inr (2, [.ref w1, .int xu])), (w1, .inl (cJ, 26, .inr (.inl (bn_f X)))), (q2, .inr (2, [.ref w2, .int xa])), (w2, .inl (cJ, 26, .inr (.inl (bn_f U)))), (q3, .inr (2, [.ref w3, .int xo])), (w3, .inl (cJ, 26, .inr (.inl (bn_f O)))), (hd, .inr (0, [.ref wd, .int (nI n), .long (lN D), .int (iZ T)])), (wd, .inl (cC, 19, .inl (g))), (ht, .inr (3, [.ref wt, .int (nI t.length)])), (wt, .inl (cC, 64, .inl (f)))] sz) := by
  refine pw_metv (tn := fun (f2 : Nat → Int32) => [(cJ, .long), (cC, .char)]) (wn := fun (f2 : Nat → Int32) => [(hB, .inr (4, [.ref hf, .ref hd, .ref ht, .int (iZ lo), .int (iZ hi9), .int (nI kd), .int (nI mi)])), (hf, .inr (1, [.ref q1, .ref q2, .ref q3])), (q1, .inr (2, [.ref w1, .int xu])), (w1, .inl (cJ, 26, .inr (.inl (bn_f X)))), (q2, .inr (2, [.ref w2, .int xa])), (w2, .inl (cJ, 26, .inr (.inl (bn_f U)))), (q3, .inr (2, [.ref w3, .int xo])), (w3, .inl (cJ, 26, .inr (.inl (bn_f O)))), (hd, .inr (0, [.ref wd, .int (nI n), .long (lN D), .int (iZ T)])), (wd, .inl (cC, 19, .inl (g))), (ht, .inr (3, [.ref wt, .int (nI (t ++ (htxt i b)).length)])), (wt, .inl (cC, 64, .inl (f2)))]) (by decide) (Nat.le_of_ble_eq_true rfl) ?_
  intro p e s m args below meth c A Q H ls hx hb hml hown hts hnm hA hE hP hK hD hS hret hl
  have hown : s.vm.findClass R_Bt = some m.cls := hown
  have hl : lv_has ls 5 [(0, .ref hB), (1, .ref ((ad i))), (2, .long (lN b))] := hl
  have hb9 := la_b i
  have he11 : 2 ^ EB i ≤ 2 ^ 11 := Nat.pow_le_pow_right (by decide) (by omega)
  have he9 : (b / 2 ^ FB i % 2 ^ EB i) < 2 ^ 11 := Nat.lt_of_lt_of_le (Nat.mod_lt _ (Nat.two_pow_pos _)) he11
  have hfh : (b % 2 ^ FB i * 2 ^ (4 * HX i - FB i)) < 2 ^ 63 := by
    have h1 : b % 2 ^ FB i < 2 ^ FB i := Nat.mod_lt _ (Nat.two_pow_pos _)
    have h2 : 2 ^ FB i ≤ 2 ^ 52 := Nat.pow_le_pow_right (by decide) (by omega)
    have h3 : 2 ^ (4 * HX i - FB i) ≤ 2 ^ 1 := Nat.pow_le_pow_right (by decide) (by omega)
    have h4 := Nat.mul_le_mul (Nat.le_of_lt h1) h3
    omega
  have k23 : ∀ (z : Nat) (H : Heap) (locs : List Loc) (ls : Array Slot), z = (if (b / 2 ^ FB i % 2 ^ EB i) = 0 then 3 else 4) → va_P (dC, dI) cls [(hB, .inr (4, [.ref hf, .ref hd, .ref ht, .int (iZ lo), .int (iZ hi9), .int (nI kd), .int (nI mi)])), (hf, .inr (1, [.ref q1, .ref q2, .ref q3])), (q1, .inr (2, [.ref w1, .int xu])), (w1, .inl (cJ, 26, .inr (.inl (bn_f X)))), (q2, .inr (2, [.ref w2, .int xa])), (w2, .inl (cJ, 26, .inr (.inl (bn_f U)))), (q3, .inr (2, [.ref w3, .int xo])), (w3, .inl (cJ, 26, .inr (.inl (bn_f O)))), (hd, .inr (0, [.ref wd, .int (nI n), .long (lN D), .int (iZ T)])), (wd, .inl (cC, 19, .inl (g))), (ht, .inr (3, [.ref wt, .int (nI t.length)])), (wt, .inl (cC, 64, .inl (f)))] H → va_D A [(hB, .inr (4, [.ref hf, .ref hd, .ref ht, .int (iZ lo), .int (iZ hi9), .int (nI kd), .int (nI mi)])), (hf, .inr (1, [.ref q1, .ref q2, .ref q3])), (q1, .inr (2, [.ref w1, .int xu])), (w1, .inl (cJ, 26, .inr (.inl (bn_f X)))), (q2, .inr (2, [.ref w2, .int xa])), (w2, .inl (cJ, 26, .inr (.inl (bn_f U)))), (q3, .inr (2, [.ref w3, .int xo])), (w3, .inl (cJ, 26, .inr (.inl (bn_f O)))), (hd, .inr (0, [.ref wd, .int (nI n), .long (lN D), .int (iZ T)])), (wd, .inl (cC, 19, .inl (g))), (ht, .inr (3, [.ref wt, .int (nI t.length)])), (wt, .inl (cC, 64, .inl (f)))] → va_S A s.heap H locs → lv_has ls 5 [(4, .int (nI (b / 2 ^ FB i % 2 ^ EB i))), (0, .ref hB), (1, .ref (ad i)), (2, .long (lN b))] → W p l e { frames := 5, cells := 0, slots := 0, locals := 107 } s m args below meth c H locs 0 0 Q (F0 m 23 ls [.ref (adK z), .ref ht]) := by
    intro z H locs ls hz hP hD hS hl
    have hz6 : z < 6 := by rw [hz]; split <;> decide
    have hsl := cb_s_len z hz6
    refine pw_callv (wc := [(ht, .inr (3, [.ref wt, .int (nI t.length)])), (wt, .inl (cC, 64, .inl (f)))]) (wr := [(hB, .inr (4, [.ref hf, .ref hd, .ref ht, .int (iZ lo), .int (iZ hi9), .int (nI kd), .int (nI mi)])), (hf, .inr (1, [.ref q1, .ref q2, .ref q3])), (q1, .inr (2, [.ref w1, .int xu])), (w1, .inl (cJ, 26, .inr (.inl (bn_f X)))), (q2, .inr (2, [.ref w2, .int xa])), (w2, .inl (cJ, 26, .inr (.inl (bn_f U)))), (q3, .inr (2, [.ref w3, .int xo])), (w3, .inl (cJ, 26, .inr (.inl (bn_f O)))), (hd, .inr (0, [.ref wd, .int (nI n), .long (lN D), .int (iZ T)])), (wd, .inl (cC, 19, .inl (g)))]) [10, 11] [0, 1, 2, 3, 4, 5, 6, 7, 8, 9] rfl rfl rfl (by decide) (by decide) (by decide) hP hD hS hA (fun hPc hDc hF => va_runV (As := [.ref ((adK z))]) (rest := []) ⟨hx, hb, hml, hown, hts⟩ (c_Te_putAll l dC dI H.size ad adK adV ht wt cC f t z htx (by omega) hz6) (cwV 1 hts (gw_V (gw_self cod_Te_putAll) ml_Bt_132 im_Te_putAll sel_Te_putAll ini_Te) rfl rfl rfl (by decide +kernel) ⟨Nat.le_of_ble_eq_true rfl, Nat.le_of_ble_eq_true rfl⟩) (pw_preV (cb_E_ok ad adK adV) hE hS hF hPc hDc (hK.sub [1] rfl) (va_recv hK hPc (ci := 3) (q0 := 0) rfl rfl)) rfl rfl hl.1 rfl (lv_room (Nat.le_of_ble_eq_true rfl)) d_Bt_putHex_23 ⟨Nat.le_of_ble_eq_true rfl, Nat.le_of_ble_eq_true rfl⟩) (fun fa H locs hfa hK1 hP hD hS => ?_)
    have hP : va_P (dC, dI) cls [(hB, .inr (4, [.ref hf, .ref hd, .ref ht, .int (iZ lo), .int (iZ hi9), .int (nI kd), .int (nI mi)])), (hf, .inr (1, [.ref q1, .ref q2, .ref q3])), (q1, .inr (2, [.ref w1, .int xu])), (w1, .inl (cJ, 26, .inr (.inl (bn_f X)))), (q2, .inr (2, [.ref w2, .int xa])), (w2, .inl (cJ, 26, .inr (.inl (bn_f U)))), (q3, .inr (2, [.ref w3, .int xo])), (w3, .inl (cJ, 26, .inr (.inl (bn_f O)))), (hd, .inr (0, [.ref wd, .int (nI n), .long (lN D), .int (iZ T)])), (wd, .inl (cC, 19, .inl (g))), (ht, .inr (3, [.ref wt, .int (nI (t ++ cb_str.getD z []).length)])), (wt, .inl (cC, 64, .inl (fa)))] H := hP
    have hD : va_D A [(hB, .inr (4, [.ref hf, .ref hd, .ref ht, .int (iZ lo), .int (iZ hi9), .int (nI kd), .int (nI mi)])), (hf, .inr (1, [.ref q1, .ref q2, .ref q3])), (q1, .inr (2, [.ref w1, .int xu])), (w1, .inl (cJ, 26, .inr (.inl (bn_f X)))), (q2, .inr (2, [.ref w2, .int xa])), (w2, .inl (cJ, 26, .inr (.inl (bn_f U)))), (q3, .inr (2, [.ref w3, .int xo])), (w3, .inl (cJ, 26, .inr (.inl (bn_f O)))), (hd, .inr (0, [.ref wd, .int (nI n), .long (lN D), .int (iZ T)])), (wd, .inl (cC, 19, .inl (g))), (ht, .inr (3, [.ref wt, .int (nI (t ++ cb_str.getD z []).length)])), (wt, .inl (cC, 64, .inl (fa)))] := hD
    refine lv_aload_n hx hb d_Bt_putHex_26 rfl (lv_at hl 1 rfl) ?_
    refine va_get (D := (dC, dI)) (ci := 4) (v := .ref ht) (C := R_Bt) (T := F_Bt) (N := 7) hx hb hts i_Bt hown hK hP 0 rfl rfl 2 (by decide) (hts _ fl_Bt_26) (fun _ h9 => h9) rfl d_Bt_putHex_27 ?_
    refine lv_aload_n hx hb d_Bt_putHex_30 rfl (lv_at hl 2 rfl) ?_
    refine lv_lload_n hx hb d_Bt_putHex_31 rfl (lv_at hl 3 rfl) ?_
    refine pw_calll (wc := []) (wr := [(hB, .inr (4, [.ref hf, .ref hd, .ref ht, .int (iZ lo), .int (iZ hi9), .int (nI kd), .int (nI mi)])), (hf, .inr (1, [.ref q1, .ref q2, .ref q3])), (q1, .inr (2, [.ref w1, .int xu])), (w1, .inl (cJ, 26, .inr (.inl (bn_f X)))), (q2, .inr (2, [.ref w2, .int xa])), (w2, .inl (cJ, 26, .inr (.inl (bn_f U)))), (q3, .inr (2, [.ref w3, .int xo])), (w3, .inl (cJ, 26, .inr (.inl (bn_f O)))), (hd, .inr (0, [.ref wd, .int (nI n), .long (lN D), .int (iZ T)])), (wd, .inl (cC, 19, .inl (g))), (ht, .inr (3, [.ref wt, .int (nI (t ++ cb_str.getD z []).length)])), (wt, .inl (cC, 64, .inl (fa)))]) [] [0, 1, 2, 3, 4, 5, 6, 7, 8, 9, 10, 11] rfl rfl rfl (by decide) (by decide) (by decide) hP hD hS hA (fun hPc hDc hF => va_runV (As := [.long (lN b)]) (rest := [.ref ht]) ⟨hx, hb, hml, hown, hts⟩ (c_La_hexFractionOf l dC dI H.size ad adK adV i b hi hbb) (cwV 1 hts (gw_V (gw_self cod_La_hexFractionOf) ml_Bt_166 im_La_hexFractionOf sel_La_hexFractionOf ini_La) rfl rfl rfl (by decide +kernel) ⟨Nat.le_of_ble_eq_true rfl, Nat.le_of_ble_eq_true rfl⟩) (pw_preV (cb_E_ok ad adK adV) hE hS hF hPc hDc (hK.sub [] rfl) (va_recvE hE.2.1 hi hS)) rfl rfl hl.1 rfl (lv_room (Nat.le_of_ble_eq_true rfl)) d_Bt_putHex_32 ⟨Nat.le_of_ble_eq_true rfl, Nat.le_of_ble_eq_true rfl⟩) (fun r5 u5 H locs hw5 hK1 hP hD hS => ?_)
    have hP : va_P (dC, dI) cls [(hB, .inr (4, [.ref hf, .ref hd, .ref ht, .int (iZ lo), .int (iZ hi9), .int (nI kd), .int (nI mi)])), (hf, .inr (1, [.ref q1, .ref q2, .ref q3])), (q1, .inr (2, [.ref w1, .int xu])), (w1, .inl (cJ, 26, .inr (.inl (bn_f X)))), (q2, .inr (2, [.ref w2, .int xa])), (w2, .inl (cJ, 26, .inr (.inl (bn_f U)))), (q3, .inr (2, [.ref w3, .int xo])), (w3, .inl (cJ, 26, .inr (.inl (bn_f O)))), (hd, .inr (0, [.ref wd, .int (nI n), .long (lN D), .int (iZ T)])), (wd, .inl (cC, 19, .inl (g))), (ht, .inr (3, [.ref wt, .int (nI (t ++ cb_str.getD z []).length)])), (wt, .inl (cC, 64, .inl (fa)))] H := hP
    have hD : va_D A [(hB, .inr (4, [.ref hf, .ref hd, .ref ht, .int (iZ lo), .int (iZ hi9), .int (nI kd), .int (nI mi)])), (hf, .inr (1, [.ref q1, .ref q2, .ref q3])), (q1, .inr (2, [.ref w1, .int xu])), (w1, .inl (cJ, 26, .inr (.inl (bn_f X)))), (q2, .inr (2, [.ref w2, .int xa])), (w2, .inl (cJ, 26, .inr (.inl (bn_f U)))), (q3, .inr (2, [.ref w3, .int xo])), (w3, .inl (cJ, 26, .inr (.inl (bn_f O)))), (hd, .inr (0, [.ref wd, .int (nI n), .long (lN D), .int (iZ T)])), (wd, .inl (cC, 19, .inl (g))), (ht, .inr (3, [.ref wt, .int (nI (t ++ cb_str.getD z []).length)])), (wt, .inl (cC, 64, .inl (fa)))] := hD
    subst hw5
    refine lv_aload_n hx hb d_Bt_putHex_35 rfl (lv_at hl 2 rfl) ?_
    refine va_getE (q := (R_La, "hexPlaces", "I", cb_hp)) hx hb hE.2.1 hi hS hown (List.mem_of_getElem? (i := 3) rfl) (hts _ fl_Bt_169) (fun _ h9 => h9) d_Bt_putHex_36 ?_
    refine lv_topi (fun x_1 e_2 => ?_)
    obtain rfl : x_1 = nI (HX i) := e_2.trans (la_hp i hi)
    have hl1 : (t ++ cb_str.getD z []).length ≤ 9 := by rw [List.length_append, hsl.1]; omega
    refine pw_callv (wc := [(ht, .inr (3, [.ref wt, .int (nI (t ++ cb_str.getD z []).length)])), (wt, .inl (cC, 64, .inl (fa)))]) (wr := [(hB, .inr (4, [.ref hf, .ref hd, .ref ht, .int (iZ lo), .int (iZ hi9), .int (nI kd), .int (nI mi)])), (hf, .inr (1, [.ref q1, .ref q2, .ref q3])), (q1, .inr (2, [.ref w1, .int xu])), (w1, .inl (cJ, 26, .inr (.inl (bn_f X)))), (q2, .inr (2, [.ref w2, .int xa])), (w2, .inl (cJ, 26, .inr (.inl (bn_f U)))), (q3, .inr (2, [.ref w3, .int xo])), (w3, .inl (cJ, 26, .inr (.inl (bn_f O)))), (hd, .inr (0, [.ref wd, .int (nI n), .long (lN D), .int (iZ T)])), (wd, .inl (cC, 19, .inl (g)))]) [10, 11] [0, 1, 2, 3, 4, 5, 6, 7, 8, 9] rfl rfl rfl (by decide) (by decide) (by decide) hP hD hS hA (fun hPc hDc hF => va_runV (As := [.long (lN (b % 2 ^ FB i * 2 ^ (4 * HX i - FB i))), .int (nI (HX i))]) (rest := []) ⟨hx, hb, hml, hown, hts⟩ (c_Te_putHexPlaces l dC dI H.size ht wt cC fa (t ++ cb_str.getD z []) (b % 2 ^ FB i * 2 ^ (4 * HX i - FB i)) (HX i) hfa (by omega) (by omega) (by omega) hfh) (cwV 2 hts (gw_V (gw_self cod_Te_putHexPlaces) ml_Bt_172 im_Te_putHexPlaces sel_Te_putHexPlaces ini_Te) rfl rfl rfl (by decide +kernel) ⟨Nat.le_of_ble_eq_true rfl, Nat.le_of_ble_eq_true rfl⟩) (pw_preV pw_0_ok (trivial : pw_0 A s s.heap) hS hF hPc hDc (hK.sub [1] rfl) (va_recv hK hPc (ci := 3) (q0 := 0) rfl rfl)) rfl rfl hl.1 rfl (lv_room (Nat.le_of_ble_eq_true rfl)) d_Bt_putHex_39 ⟨Nat.le_of_ble_eq_true rfl, Nat.le_of_ble_eq_true rfl⟩) (fun fb H locs hfb hK1 hP hD hS => ?_)
    have hP : va_P (dC, dI) cls [(hB, .inr (4, [.ref hf, .ref hd, .ref ht, .int (iZ lo), .int (iZ hi9), .int (nI kd), .int (nI mi)])), (hf, .inr (1, [.ref q1, .ref q2, .ref q3])), (q1, .inr (2, [.ref w1, .int xu])), (w1, .inl (cJ, 26, .inr (.inl (bn_f X)))), (q2, .inr (2, [.ref w2, .int xa])), (w2, .inl (cJ, 26, .inr (.inl (bn_f U)))), (q3, .inr (2, [.ref w3, .int xo])), (w3, .inl (cJ, 26, .inr (.inl (bn_f O)))), (hd, .inr (0, [.ref wd, .int (nI n), .long (lN D), .int (iZ T)])), (wd, .inl (cC, 19, .inl (g))), (ht, .inr (3, [.ref wt, .int (nI ((t ++ cb_str.getD z []) ++ hxl (b % 2 ^ FB i * 2 ^ (4 * HX i - FB i)) (HX i) (HX i)).length)])), (wt, .inl (cC, 64, .inl (fb)))] H := hP
    have hD : va_D A [(hB, .inr (4, [.ref hf, .ref hd, .ref ht, .int (iZ lo), .int (iZ hi9), .int (nI kd), .int (nI mi)])), (hf, .inr (1, [.ref q1, .ref q2, .ref q3])), (q1, .inr (2, [.ref w1, .int xu])), (w1, .inl (cJ, 26, .inr (.inl (bn_f X)))), (q2, .inr (2, [.ref w2, .int xa])), (w2, .inl (cJ, 26, .inr (.inl (bn_f U)))), (q3, .inr (2, [.ref w3, .int xo])), (w3, .inl (cJ, 26, .inr (.inl (bn_f O)))), (hd, .inr (0, [.ref wd, .int (nI n), .long (lN D), .int (iZ T)])), (wd, .inl (cC, 19, .inl (g))), (ht, .inr (3, [.ref wt, .int (nI ((t ++ cb_str.getD z []) ++ hxl (b % 2 ^ FB i * 2 ^ (4 * HX i - FB i)) (HX i) (HX i)).length)])), (wt, .inl (cC, 64, .inl (fb)))] := hD
    have hl2 : ((t ++ cb_str.getD z []) ++ hxl (b % 2 ^ FB i * 2 ^ (4 * HX i - FB i)) (HX i) (HX i)).length ≤ 22 := by rw [List.length_append]; have := hxl_len (b % 2 ^ FB i * 2 ^ (4 * HX i - FB i)) (HX i) (HX i); omega
    refine lv_aload_n hx hb d_Bt_putHex_42 rfl (lv_at hl 1 rfl) ?_
    refine va_get (D := (dC, dI)) (ci := 4) (v := .ref ht) (C := R_Bt) (T := F_Bt) (N := 7) hx hb hts i_Bt hown hK hP 0 rfl rfl 2 (by decide) (hts _ fl_Bt_26) (fun _ h9 => h9) rfl d_Bt_putHex_43 ?_
    refine lv_bipush (v := 112) hx hb d_Bt_putHex_46 (by decide) ?_
    refine pw_callv (wc := [(ht, .inr (3, [.ref wt, .int (nI ((t ++ cb_str.getD z []) ++ hxl (b % 2 ^ FB i * 2 ^ (4 * HX i - FB i)) (HX i) (HX i)).length)])), (wt, .inl (cC, 64, .inl (fb)))]) (wr := [(hB, .inr (4, [.ref hf, .ref hd, .ref ht, .int (iZ lo), .int (iZ hi9), .int (nI kd), .int (nI mi)])), (hf, .inr (1, [.ref q1, .ref q2, .ref q3])), (q1, .inr (2, [.ref w1, .int xu])), (w1, .inl (cJ, 26, .inr (.inl (bn_f X)))), (q2, .inr (2, [.ref w2, .int xa])), (w2, .inl (cJ, 26, .inr (.inl (bn_f U)))), (q3, .inr (2, [.ref w3, .int xo])), (w3, .inl (cJ, 26, .inr (.inl (bn_f O)))), (hd, .inr (0, [.ref wd, .int (nI n), .long (lN D), .int (iZ T)])), (wd, .inl (cC, 19, .inl (g)))]) [10, 11] [0, 1, 2, 3, 4, 5, 6, 7, 8, 9] rfl rfl rfl (by decide) (by decide) (by decide) hP hD hS hA (fun hPc hDc hF => va_runV (As := [.int 112]) (rest := []) ⟨hx, hb, hml, hown, hts⟩ (c_Te_put l dC dI H.size ht wt cC fb ((t ++ cb_str.getD z []) ++ hxl (b % 2 ^ FB i * 2 ^ (4 * HX i - FB i)) (HX i) (HX i)) 112 hfb (by omega) (by omega)) (cwV 1 hts (gw_V (gw_self cod_Te_put) ml_Bt_123 im_Te_put sel_Te_put ini_Te) rfl rfl rfl (by decide +kernel) ⟨Nat.le_of_ble_eq_true rfl, Nat.le_of_ble_eq_true rfl⟩) (pw_preV pw_0_ok (trivial : pw_0 A s s.heap) hS hF hPc hDc (hK.sub [1] rfl) (va_recv hK hPc (ci := 3) (q0 := 0) rfl rfl)) rfl rfl hl.1 rfl (lv_room (Nat.le_of_ble_eq_true rfl)) d_Bt_putHex_48 ⟨Nat.le_of_ble_eq_true rfl, Nat.le_of_ble_eq_true rfl⟩) (fun fc H locs hfc hK1 hP hD hS => ?_)
    have hP : va_P (dC, dI) cls [(hB, .inr (4, [.ref hf, .ref hd, .ref ht, .int (iZ lo), .int (iZ hi9), .int (nI kd), .int (nI mi)])), (hf, .inr (1, [.ref q1, .ref q2, .ref q3])), (q1, .inr (2, [.ref w1, .int xu])), (w1, .inl (cJ, 26, .inr (.inl (bn_f X)))), (q2, .inr (2, [.ref w2, .int xa])), (w2, .inl (cJ, 26, .inr (.inl (bn_f U)))), (q3, .inr (2, [.ref w3, .int xo])), (w3, .inl (cJ, 26, .inr (.inl (bn_f O)))), (hd, .inr (0, [.ref wd, .int (nI n), .long (lN D), .int (iZ T)])), (wd, .inl (cC, 19, .inl (g))), (ht, .inr (3, [.ref wt, .int (nI (((t ++ cb_str.getD z []) ++ hxl (b % 2 ^ FB i * 2 ^ (4 * HX i - FB i)) (HX i) (HX i)) ++ [112]).length)])), (wt, .inl (cC, 64, .inl (fc)))] H := hP
    have hD : va_D A [(hB, .inr (4, [.ref hf, .ref hd, .ref ht, .int (iZ lo), .int (iZ hi9), .int (nI kd), .int (nI mi)])), (hf, .inr (1, [.ref q1, .ref q2, .ref q3])), (q1, .inr (2, [.ref w1, .int xu])), (w1, .inl (cJ, 26, .inr (.inl (bn_f X)))), (q2, .inr (2, [.ref w2, .int xa])), (w2, .inl (cJ, 26, .inr (.inl (bn_f U)))), (q3, .inr (2, [.ref w3, .int xo])), (w3, .inl (cJ, 26, .inr (.inl (bn_f O)))), (hd, .inr (0, [.ref wd, .int (nI n), .long (lN D), .int (iZ T)])), (wd, .inl (cC, 19, .inl (g))), (ht, .inr (3, [.ref wt, .int (nI (((t ++ cb_str.getD z []) ++ hxl (b % 2 ^ FB i * 2 ^ (4 * HX i - FB i)) (HX i) (HX i)) ++ [112]).length)])), (wt, .inl (cC, 64, .inl (fc)))] := hD
    refine lv_aload_n hx hb d_Bt_putHex_51 rfl (lv_at hl 1 rfl) ?_
    refine va_get (D := (dC, dI)) (ci := 4) (v := .ref ht) (C := R_Bt) (T := F_Bt) (N := 7) hx hb hts i_Bt hown hK hP 0 rfl rfl 2 (by decide) (hts _ fl_Bt_26) (fun _ h9 => h9) rfl d_Bt_putHex_52 ?_
    refine lv_aload_n hx hb d_Bt_putHex_55 rfl (lv_at hl 2 rfl) ?_
    refine lv_iload hx hb d_Bt_putHex_56 (lv_at hl 0 rfl) ?_
    refine pw_calli (wc := []) (wr := [(hB, .inr (4, [.ref hf, .ref hd, .ref ht, .int (iZ lo), .int (iZ hi9), .int (nI kd), .int (nI mi)])), (hf, .inr (1, [.ref q1, .ref q2, .ref q3])), (q1, .inr (2, [.ref w1, .int xu])), (w1, .inl (cJ, 26, .inr (.inl (bn_f X)))), (q2, .inr (2, [.ref w2, .int xa])), (w2, .inl (cJ, 26, .inr (.inl (bn_f U)))), (q3, .inr (2, [.ref w3, .int xo])), (w3, .inl (cJ, 26, .inr (.inl (bn_f O)))), (hd, .inr (0, [.ref wd, .int (nI n), .long (lN D), .int (iZ T)])), (wd, .inl (cC, 19, .inl (g))), (ht, .inr (3, [.ref wt, .int (nI (((t ++ cb_str.getD z []) ++ hxl (b % 2 ^ FB i * 2 ^ (4 * HX i - FB i)) (HX i) (HX i)) ++ [112]).length)])), (wt, .inl (cC, 64, .inl (fc)))]) [] [0, 1, 2, 3, 4, 5, 6, 7, 8, 9, 10, 11] rfl rfl rfl (by decide) (by decide) (by decide) hP hD hS hA (fun hPc hDc hF => va_runV (As := [.int (nI (b / 2 ^ FB i % 2 ^ EB i))]) (rest := [.ref ht]) ⟨hx, hb, hml, hown, hts⟩ (c_La_binaryExponentOf l dC dI H.size ad adK adV i (b / 2 ^ FB i % 2 ^ EB i) hi (by omega)) (cwV 1 hts (gw_V (gw_self cod_La_binaryExponentOf) ml_Bt_176 im_La_binaryExponentOf sel_La_binaryExponentOf ini_La) rfl rfl rfl (by decide +kernel) ⟨Nat.le_of_ble_eq_true rfl, Nat.le_of_ble_eq_true rfl⟩) (pw_preV (cb_E_ok ad adK adV) hE hS hF hPc hDc (hK.sub [] rfl) (va_recvE hE.2.1 hi hS)) rfl rfl hl.1 rfl (lv_room (Nat.le_of_ble_eq_true rfl)) d_Bt_putHex_58 ⟨Nat.le_of_ble_eq_true rfl, Nat.le_of_ble_eq_true rfl⟩) (fun r6 u6 H locs hw6 hK1 hP hD hS => ?_)
    have hP : va_P (dC, dI) cls [(hB, .inr (4, [.ref hf, .ref hd, .ref ht, .int (iZ lo), .int (iZ hi9), .int (nI kd), .int (nI mi)])), (hf, .inr (1, [.ref q1, .ref q2, .ref q3])), (q1, .inr (2, [.ref w1, .int xu])), (w1, .inl (cJ, 26, .inr (.inl (bn_f X)))), (q2, .inr (2, [.ref w2, .int xa])), (w2, .inl (cJ, 26, .inr (.inl (bn_f U)))), (q3, .inr (2, [.ref w3, .int xo])), (w3, .inl (cJ, 26, .inr (.inl (bn_f O)))), (hd, .inr (0, [.ref wd, .int (nI n), .long (lN D), .int (iZ T)])), (wd, .inl (cC, 19, .inl (g))), (ht, .inr (3, [.ref wt, .int (nI (((t ++ cb_str.getD z []) ++ hxl (b % 2 ^ FB i * 2 ^ (4 * HX i - FB i)) (HX i) (HX i)) ++ [112]).length)])), (wt, .inl (cC, 64, .inl (fc)))] H := hP
    have hD : va_D A [(hB, .inr (4, [.ref hf, .ref hd, .ref ht, .int (iZ lo), .int (iZ hi9), .int (nI kd), .int (nI mi)])), (hf, .inr (1, [.ref q1, .ref q2, .ref q3])), (q1, .inr (2, [.ref w1, .int xu])), (w1, .inl (cJ, 26, .inr (.inl (bn_f X)))), (q2, .inr (2, [.ref w2, .int xa])), (w2, .inl (cJ, 26, .inr (.inl (bn_f U)))), (q3, .inr (2, [.ref w3, .int xo])), (w3, .inl (cJ, 26, .inr (.inl (bn_f O)))), (hd, .inr (0, [.ref wd, .int (nI n), .long (lN D), .int (iZ T)])), (wd, .inl (cC, 19, .inl (g))), (ht, .inr (3, [.ref wt, .int (nI (((t ++ cb_str.getD z []) ++ hxl (b % 2 ^ FB i * 2 ^ (4 * HX i - FB i)) (HX i) (HX i)) ++ [112]).length)])), (wt, .inl (cC, 64, .inl (fc)))] := hD
    subst hw6
    have hmx : max (b / 2 ^ FB i % 2 ^ EB i) 1 ≤ 2 ^ 11 := Nat.max_le.mpr ⟨by omega, by decide⟩
    refine pw_callv (wc := [(ht, .inr (3, [.ref wt, .int (nI (((t ++ cb_str.getD z []) ++ hxl (b % 2 ^ FB i * 2 ^ (4 * HX i - FB i)) (HX i) (HX i)) ++ [112]).length)])), (wt, .inl (cC, 64, .inl (fc)))]) (wr := [(hB, .inr (4, [.ref hf, .ref hd, .ref ht, .int (iZ lo), .int (iZ hi9), .int (nI kd), .int (nI mi)])), (hf, .inr (1, [.ref q1, .ref q2, .ref q3])), (q1, .inr (2, [.ref w1, .int xu])), (w1, .inl (cJ, 26, .inr (.inl (bn_f X)))), (q2, .inr (2, [.ref w2, .int xa])), (w2, .inl (cJ, 26, .inr (.inl (bn_f U)))), (q3, .inr (2, [.ref w3, .int xo])), (w3, .inl (cJ, 26, .inr (.inl (bn_f O)))), (hd, .inr (0, [.ref wd, .int (nI n), .long (lN D), .int (iZ T)])), (wd, .inl (cC, 19, .inl (g)))]) [10, 11] [0, 1, 2, 3, 4, 5, 6, 7, 8, 9] rfl rfl rfl (by decide) (by decide) (by decide) hP hD hS hA (fun hPc hDc hF => va_runV (As := [.int (iZ (((max (b / 2 ^ FB i % 2 ^ EB i) 1 : Nat) : Int) - BI i))]) (rest := []) ⟨hx, hb, hml, hown, hts⟩ (c_Te_putWhole l dC dI H.size ht wt cC fc (((t ++ cb_str.getD z []) ++ hxl (b % 2 ^ FB i * 2 ^ (4 * HX i - FB i)) (HX i) (HX i)) ++ [112]) (((max (b / 2 ^ FB i % 2 ^ EB i) 1 : Nat) : Int) - BI i) hfc (by rw [List.length_append, List.length_singleton]; omega) (by omega) (by omega)) (cwV 1 hts (gw_V (gw_self cod_Te_putWhole) ml_Bt_154 im_Te_putWhole sel_Te_putWhole ini_Te) rfl rfl rfl (by decide +kernel) ⟨Nat.le_of_ble_eq_true rfl, Nat.le_of_ble_eq_true rfl⟩) (pw_preV pw_0_ok (trivial : pw_0 A s s.heap) hS hF hPc hDc (hK.sub [1] rfl) (va_recv hK hPc (ci := 3) (q0 := 0) rfl rfl)) rfl rfl hl.1 rfl (lv_room (Nat.le_of_ble_eq_true rfl)) d_Bt_putHex_61 ⟨Nat.le_of_ble_eq_true rfl, Nat.le_of_ble_eq_true rfl⟩) (fun fd H locs hfd hK1 hP hD hS => ?_)
    have hP : va_P (dC, dI) cls [(hB, .inr (4, [.ref hf, .ref hd, .ref ht, .int (iZ lo), .int (iZ hi9), .int (nI kd), .int (nI mi)])), (hf, .inr (1, [.ref q1, .ref q2, .ref q3])), (q1, .inr (2, [.ref w1, .int xu])), (w1, .inl (cJ, 26, .inr (.inl (bn_f X)))), (q2, .inr (2, [.ref w2, .int xa])), (w2, .inl (cJ, 26, .inr (.inl (bn_f U)))), (q3, .inr (2, [.ref w3, .int xo])), (w3, .inl (cJ, 26, .inr (.inl (bn_f O)))), (hd, .inr (0, [.ref wd, .int (nI n), .long (lN D), .int (iZ T)])), (wd, .inl (cC, 19, .inl (g))), (ht, .inr (3, [.ref wt, .int (nI (((t ++ cb_str.getD z []) ++ hxl (b % 2 ^ FB i * 2 ^ (4 * HX i - FB i)) (HX i) (HX i)) ++ [112] ++ dwz (((max (b / 2 ^ FB i % 2 ^ EB i) 1 : Nat) : Int) - BI i)).length)])), (wt, .inl (cC, 64, .inl (fd)))] H := hP
    have hD : va_D A [(hB, .inr (4, [.ref hf, .ref hd, .ref ht, .int (iZ lo), .int (iZ hi9), .int (nI kd), .int (nI mi)])), (hf, .inr (1, [.ref q1, .ref q2, .ref q3])), (q1, .inr (2, [.ref w1, .int xu])), (w1, .inl (cJ, 26, .inr (.inl (bn_f X)))), (q2, .inr (2, [.ref w2, .int xa])), (w2, .inl (cJ, 26, .inr (.inl (bn_f U)))), (q3, .inr (2, [.ref w3, .int xo])), (w3, .inl (cJ, 26, .inr (.inl (bn_f O)))), (hd, .inr (0, [.ref wd, .int (nI n), .long (lN D), .int (iZ T)])), (wd, .inl (cC, 19, .inl (g))), (ht, .inr (3, [.ref wt, .int (nI (((t ++ cb_str.getD z []) ++ hxl (b % 2 ^ FB i * 2 ^ (4 * HX i - FB i)) (HX i) (HX i)) ++ [112] ++ dwz (((max (b / 2 ^ FB i % 2 ^ EB i) 1 : Nat) : Int) - BI i)).length)])), (wt, .inl (cC, 64, .inl (fd)))] := hD
    have hend : ((t ++ cb_str.getD z []) ++ hxl (b % 2 ^ FB i * 2 ^ (4 * HX i - FB i)) (HX i) (HX i)) ++ [112] ++ dwz (((max (b / 2 ^ FB i % 2 ^ EB i) 1 : Nat) : Int) - BI i) = t ++ (htxt i b) := by rw [hz, htxt]; simp only [List.append_assoc]
    rw [hend] at hfd hP hD
    exact hret _ _ _ _ fd d_Bt_putHex_64 hfd hP hK hD hS
  refine lv_aload_n hx hb d_Bt_putHex_0 rfl (lv_at hl 1 rfl) ?_
  refine lv_lload_n hx hb d_Bt_putHex_1 rfl (lv_at hl 2 rfl) ?_
  refine pw_calli (wc := []) (wr := [(hB, .inr (4, [.ref hf, .ref hd, .ref ht, .int (iZ lo), .int (iZ hi9), .int (nI kd), .int (nI mi)])), (hf, .inr (1, [.ref q1, .ref q2, .ref q3])), (q1, .inr (2, [.ref w1, .int xu])), (w1, .inl (cJ, 26, .inr (.inl (bn_f X)))), (q2, .inr (2, [.ref w2, .int xa])), (w2, .inl (cJ, 26, .inr (.inl (bn_f U)))), (q3, .inr (2, [.ref w3, .int xo])), (w3, .inl (cJ, 26, .inr (.inl (bn_f O)))), (hd, .inr (0, [.ref wd, .int (nI n), .long (lN D), .int (iZ T)])), (wd, .inl (cC, 19, .inl (g))), (ht, .inr (3, [.ref wt, .int (nI t.length)])), (wt, .inl (cC, 64, .inl (f)))]) [] [0, 1, 2, 3, 4, 5, 6, 7, 8, 9, 10, 11] rfl rfl rfl (by decide) (by decide) (by decide) hP hD hS hA (fun hPc hDc hF => va_runV (As := [.long (lN b)]) (rest := []) ⟨hx, hb, hml, hown, hts⟩ (c_La_exponentOf l dC dI H.size ad adK adV i b hi hbb) (cwV 1 hts (gw_V (gw_self cod_La_exponentOf) ml_Bt_92 im_La_exponentOf sel_La_exponentOf ini_La) rfl rfl rfl (by decide +kernel) ⟨Nat.le_of_ble_eq_true rfl, Nat.le_of_ble_eq_true rfl⟩) (pw_preV (cb_E_ok ad adK adV) hE hS hF hPc hDc (hK.sub [] rfl) (va_recvE hE.2.1 hi hS)) rfl rfl hl.1 rfl (lv_room (Nat.le_of_ble_eq_true rfl)) d_Bt_putHex_2 ⟨Nat.le_of_ble_eq_true rfl, Nat.le_of_ble_eq_true rfl⟩) (fun r5 u5 H locs hw5 hK1 hP hD hS => ?_)
  have hP : va_P (dC, dI) cls [(hB, .inr (4, [.ref hf, .ref hd, .ref ht, .int (iZ lo), .int (iZ hi9), .int (nI kd), .int (nI mi)])), (hf, .inr (1, [.ref q1, .ref q2, .ref q3])), (q1, .inr (2, [.ref w1, .int xu])), (w1, .inl (cJ, 26, .inr (.inl (bn_f X)))), (q2, .inr (2, [.ref w2, .int xa])), (w2, .inl (cJ, 26, .inr (.inl (bn_f U)))), (q3, .inr (2, [.ref w3, .int xo])), (w3, .inl (cJ, 26, .inr (.inl (bn_f O)))), (hd, .inr (0, [.ref wd, .int (nI n), .long (lN D), .int (iZ T)])), (wd, .inl (cC, 19, .inl (g))), (ht, .inr (3, [.ref wt, .int (nI t.length)])), (wt, .inl (cC, 64, .inl (f)))] H := hP
  have hD : va_D A [(hB, .inr (4, [.ref hf, .ref hd, .ref ht, .int (iZ lo), .int (iZ hi9), .int (nI kd), .int (nI mi)])), (hf, .inr (1, [.ref q1, .ref q2, .ref q3])), (q1, .inr (2, [.ref w1, .int xu])), (w1, .inl (cJ, 26, .inr (.inl (bn_f X)))), (q2, .inr (2, [.ref w2, .int xa])), (w2, .inl (cJ, 26, .inr (.inl (bn_f U)))), (q3, .inr (2, [.ref w3, .int xo])), (w3, .inl (cJ, 26, .inr (.inl (bn_f O)))), (hd, .inr (0, [.ref wd, .int (nI n), .long (lN D), .int (iZ T)])), (wd, .inl (cC, 19, .inl (g))), (ht, .inr (3, [.ref wt, .int (nI t.length)])), (wt, .inl (cC, 64, .inl (f)))] := hD
  subst hw5
  refine lv_istore (lv' := [(4, .int (nI (b / 2 ^ FB i % 2 ^ EB i))), (0, .ref hB), (1, .ref ((ad i))), (2, .long (lN b))]) hx hb d_Bt_putHex_5 hl (by decide) rfl (fun ls hl => ?_)
  refine lv_aload_n hx hb d_Bt_putHex_7 rfl (lv_at hl 1 rfl) ?_
  refine va_get (D := (dC, dI)) (ci := 4) (v := .ref ht) (C := R_Bt) (T := F_Bt) (N := 7) hx hb hts i_Bt hown hK hP 0 rfl rfl 2 (by decide) (hts _ fl_Bt_26) (fun _ h9 => h9) rfl d_Bt_putHex_8 ?_
  refine lv_iload hx hb d_Bt_putHex_11 (lv_at hl 0 rfl) ?_
  refine lv_if_ne (tgt := 21) hx hb d_Bt_putHex_13 (by decide) (fun hc => ?_) (fun hc => ?_)
  · have h0 : (b / 2 ^ FB i % 2 ^ EB i) ≠ 0 := fun q => hc (by rw [q]; rfl)
    refine va_ldcS hx hb hown (hE.2.2.2.2.2 4 (by decide)) d_Bt_putHex_21 ?_
    exact k23 4 H _ ls (by rw [if_neg h0]) hP hD hS hl
  · have h0 : (b / 2 ^ FB i % 2 ^ EB i) = 0 := (nI_eq (a := (b / 2 ^ FB i % 2 ^ EB i)) (b := 0) (by omega) (by omega)).mp hc
    refine va_ldcS hx hb hown (hE.2.2.2.2.2 3 (by decide)) d_Bt_putHex_16 ?_
    refine lv_goto (tgt := 23) hx hb d_Bt_putHex_18 (by decide) ?_
    exact k23 3 H _ ls (by rw [if_pos h0]) hP hD hS hl
end
section
/-! THE NUMBERS OF EVERY FINITE VALUE FIT THE FINDER'S ROWS: by a table of all exponents -/
def fd_U (P q : Int) : Nat := 1 * 5 ^ (-P).toNat * 2 ^ (q - 1 - P).toNat
def fd_O (P q : Int) : Nat := 1 * 5 ^ P.toNat * 2 ^ (-(q - 1 - P)).toNat
def fd_chk (b : Nat) (q : Int) : Bool :=
  decide (-2000 < fd_hp b q) && (decide (fd_hp b q < 2000) && (decide (fd_U (fd_hp b q) q * 10 ^ 17 < 2 ^ (32 * 26)) && (decide (fd_O (fd_hp b q) q * 10 < 2 ^ (32 * 26)) && (decide (2 * 2 ^ b * fd_U (fd_hp b q) q * 10 ≤ 2 ^ (32 * 26)) && (decide (fd_O (fd_hp b q) q ≤ 2 ^ b * fd_U (fd_hp b q) q * 10) && decide (2 * 2 ^ b * fd_U (fd_hp b q) q ≤ 10 * fd_O (fd_hp b q) q))))))
set_option maxRecDepth 100000 in
theorem fd_t1 : (List.range 2046).all (fun e => fd_chk 53 ((e : Int) + 1 - 1023 - 52)) = true := by decide +kernel
set_option maxRecDepth 100000 in
theorem fd_t2 : (List.range 52).all (fun b => fd_chk (b + 1) (1 - 1023 - 52)) = true := by decide +kernel
set_option maxRecDepth 100000 in
theorem fd_t3 : (List.range 254).all (fun e => fd_chk 24 ((e : Int) + 1 - 127 - 23)) = true := by decide +kernel
set_option maxRecDepth 100000 in
theorem fd_t4 : (List.range 23).all (fun b => fd_chk (b + 1) (1 - 127 - 23)) = true := by decide +kernel
theorem fd_all {n : Nat} {p : Nat → Bool} (h : (List.range n).all p = true) {k : Nat} (hk : k < n) : p k = true := List.all_eq_true.mp h k (List.mem_range.mpr hk)
def sgf (i e fr : Nat) : Nat := if e = 0 then fr else fr + 2 ^ FB i
def lop (e fr : Nat) : Nat := if fr = 0 ∧ 1 < e then 1 else 0
def pwr (i e : Nat) : Int := ((max e 1 : Nat) : Int) - BI i - FB i
theorem isbl_ex {v : Nat} (hv : 0 < v) : isbl v (Nat.log2 v + 1) := by
  constructor
  · exact Nat.lt_log2_self
  · right
    rw [Nat.add_sub_cancel]
    exact Nat.log2_self_le (by omega)
theorem fd_pre {i e fr : Nat} (hi : i < 2) (he : e < 2 ^ EB i - 1) (hfr : fr < 2 ^ FB i) (h0 : ¬ (e = 0 ∧ fr = 0)) : ∃ b, isbl (sgf i e fr) b ∧ b ≤ 53 ∧ 0 < sgf i e fr ∧ fd_chk b (pwr i e) = true := by
  unfold sgf pwr
  rcases (show i = 0 ∨ i = 1 by omega) with rfl | rfl
  · have e1 : EB 0 = 11 := rfl
    have e2 : FB 0 = 52 := rfl
    have e3 : BI 0 = 1023 := rfl
    rw [e1] at he
    rw [e2] at hfr
    rw [e2, e3]
    by_cases hz : e = 0
    · subst hz
      have hp : 0 < fr := by omega
      rw [if_pos rfl]
      have hb := isbl_ex hp
      have hle := isbl_lt hb hfr
      exact ⟨_, hb, by omega, hp, fd_all fd_t2 (k := fr.log2) (by omega)⟩
    · rw [if_neg hz]
      refine ⟨53, ⟨by omega, Or.inr (by omega)⟩, by omega, by omega, ?_⟩
      have := fd_all fd_t1 (k := e - 1) (by omega)
      rw [show ((e - 1 : Nat) : Int) + 1 = ((max e 1 : Nat) : Int) from by omega] at this
      exact this
  · have e1 : EB 1 = 8 := rfl
    have e2 : FB 1 = 23 := rfl
    have e3 : BI 1 = 127 := rfl
    rw [e1] at he
    rw [e2] at hfr
    rw [e2, e3]
    by_cases hz : e = 0
    · subst hz
      have hp : 0 < fr := by omega
      rw [if_pos rfl]
      have hb := isbl_ex hp
      have hle := isbl_lt hb hfr
      exact ⟨_, hb, by omega, hp, fd_all fd_t4 (k := fr.log2) (by omega)⟩
    · rw [if_neg hz]
      refine ⟨24, ⟨by omega, Or.inr (by omega)⟩, by omega, by omega, ?_⟩
      have := fd_all fd_t3 (k := e - 1) (by omega)
      rw [show ((e - 1 : Nat) : Int) + 1 = ((max e 1 : Nat) : Int) from by omega] at this
      exact this
theorem fd_use {S b : Nat} {q : Int} (hb : isbl S b) (hS : 0 < S) (h : fd_chk b q = true) :
    (-2000 < fd_hp b q ∧ fd_hp b q < 2000) ∧ fd_U (fd_hp b q) q * 10 ^ 17 < 2 ^ (32 * 26) ∧ fd_O (fd_hp b q) q * 10 < 2 ^ (32 * 26) ∧ 2 * S * fd_U (fd_hp b q) q * 10 < 2 ^ (32 * 26) ∧ fd_O (fd_hp b q) q ≤ 2 * S * fd_U (fd_hp b q) q * 10 ∧ 2 * S * fd_U (fd_hp b q) q < 10 * fd_O (fd_hp b q) q := by
  unfold fd_chk at h
  simp only [Bool.and_eq_true, decide_eq_true_eq] at h
  obtain ⟨h1, h2, h3, h4, h5, h6, h7⟩ := h
  have hU : 0 < fd_U (fd_hp b q) q := Nat.mul_pos (Nat.mul_pos (by decide) (Nat.pow_pos (by decide))) (Nat.pow_pos (by decide))
  generalize fd_U (fd_hp b q) q = U at *
  generalize fd_O (fd_hp b q) q = O at *
  have hb0 := isbl_pos hb hS
  have g1 : 2 * S * U < 2 * 2 ^ b * U := Nat.mul_lt_mul_of_pos_right (Nat.mul_lt_mul_of_pos_left hb.1 (by decide)) hU
  have g2 : 2 ^ b ≤ 2 * S := by
    rcases hb.2 with g | g
    · omega
    · have : 2 ^ b = 2 ^ (b - 1) * 2 := by rw [← Nat.pow_succ]; congr 1; omega
      omega
  have g3 : 2 ^ b * U ≤ 2 * S * U := Nat.mul_le_mul_right _ g2
  exact ⟨⟨h1, h2⟩, h3, h4, by omega, by omega, by omega⟩
/-- what the class holds as d and t for a finite number that is not zero -/
def cdec (i e fr D : Nat) (t : Int) : Prop := ∃ b : Nat, isbl (sgf i e fr) b ∧ fd_chk b (pwr i e) = true ∧
  fd_res (lop e fr) (fd_ev (sgf i e fr)) (if 2 * sgf i e fr * fd_U (fd_hp b (pwr i e)) (pwr i e) < fd_O (fd_hp b (pwr i e)) (pwr i e) then 2 * sgf i e fr * fd_U (fd_hp b (pwr i e)) (pwr i e) * 10 else 2 * sgf i e fr * fd_U (fd_hp b (pwr i e)) (pwr i e))
    (if 2 * sgf i e fr * fd_U (fd_hp b (pwr i e)) (pwr i e) < fd_O (fd_hp b (pwr i e)) (pwr i e) then fd_U (fd_hp b (pwr i e)) (pwr i e) * 10 else fd_U (fd_hp b (pwr i e)) (pwr i e)) (fd_O (fd_hp b (pwr i e)) (pwr i e))
    (if 2 * sgf i e fr * fd_U (fd_hp b (pwr i e)) (pwr i e) < fd_O (fd_hp b (pwr i e)) (pwr i e) then fd_hp b (pwr i e) - 1 else fd_hp b (pwr i e)) D t
/-- the decimal's part of the class's state: k is the kind -/
def cst (i e fr k D : Nat) (t : Int) : Prop := (k = 4 → cdec i e fr D t) ∧ (k ≠ 4 → D = 0 ∧ t = 0)
def sgn (mi k : Nat) : List Nat := if mi = 1 ∧ k ≠ 1 then [45] else []
theorem sgn_len (mi k : Nat) : (sgn mi k).length ≤ 1 := by
  unfold sgn
  split <;> simp
theorem nI_bf {x : Nat} (h : x ≤ 1) : fits .boolean (.int (nI x)) = true := by
  rcases (show x = 0 ∨ x = 1 by omega) with rfl | rfl <;> rfl
theorem cdec_t {i e fr D : Nat} {t : Int} (h : cdec i e fr D t) (hS : 0 < sgf i e fr) : -2100 < t ∧ t < 2100 ∧ 0 < D := by
  obtain ⟨b, hb, hc, n, k, h1, h2, h3, h4, h5, h6, h7, h8⟩ := h
  have hu := fd_use hb hS hc
  have hD : 0 < D := by
    rcases Nat.eq_zero_or_pos D with q | q
    · rw [q] at h6; omega
    · exact q
  refine ⟨?_, ?_, hD⟩
  · rw [h7]; split <;> omega
  · rw [h7]; split <;> omega
end
section
set_option maxHeartbeats 4000000 in
set_option maxRecDepth 100000 in
/-- take -/
theorem c_Bt_take (l : Launch) (dC : Nat → ClassId) (dI : Nat → Nat → Nat) (sz : Nat) (ad adK adV : Nat → Nat) (hB hf q1 w1 q2 w2 q3 w3 hd wd ht wt : Nat) (cJ cC : ClassId) (lo hi9 : Int) (kd mi : Int32) (X U O : Nat) (xu xa xo : Int32) (g : Nat → Int32) (n : Int32) (D : Int64) (T : Int32) (f : Nat → Int32) (tl : Int32) (i b : Nat)  (hX : X < 2 ^ (32 * 26)) (hU : U < 2 ^ (32 * 26)) (hO : O < 2 ^ (32 * 26)) (hi : i < 2) (hbb : b < 2 ^ 64) : Met l y_Bt_take (Cond.code y_Bt_take b_Bt_take 10 none :: gT) ({ frames := 4, cells := 0, slots := 0, locals := 110 }) (va_Pc [.ref hB, .ref ((ad i)), .long (lN b)] (pw_P (dC, dI) cls [(cJ, .long), (cC, .char)] (cb_E ad adK adV) [(hB, .inr (4, [.ref hf, .ref hd, .ref ht, .int (iZ lo), .int (iZ hi9), .int kd, .int mi])), (hf, .inr (1, [.ref q1, .ref q2, .ref q3])), (q1, .inr (2, [.ref w1, .int xu])), (w1, .inl (cJ, 26, .inr (.inl (bn_f X)))), (q2, .inr (2, [.ref w2, .int xa])), (w2, .inl (cJ, 26, .inr (.inl (bn_f U)))), (q3, .inr (2, [.ref w3, .int xo])), (w3, .inl (cJ, 26, .inr (.inl (bn_f O)))), (hd, .inr (0, [.ref wd, .int n, .long D, .int T])), (wd, .inl (cC, 19, .inl (g))), (ht, .inr (3, [.ref wt, .int tl])), (wt, .inl (cC, 64, .inl (f)))] sz)) (va_Qv (fun (z : (Nat × Nat × Nat) × (Int32 × Int32 × Int32) × (Nat × Int × Nat × (Nat → Int32)) × (Nat → Int32)) => (z.1.1 < 2 ^ (32 * 26) ∧ z.1.2.1 < 2 ^ (32 * 26) ∧ z.1.2.2 < 2 ^ (32 * 26)) ∧ cst i (b / 2 ^ FB i % 2 ^ EB i) (b % 2 ^ FB i) (kdo i (b / 2 ^ FB i % 2 ^ EB i) (b % 2 ^ FB i)) z.2.2.1.1 z.2.2.1.2.1 ∧ isnd z.2.2.1.1 z.2.2.1.2.2.1 ∧ dgs z.2.2.1.2.2.2 z.2.2.1.1 z.2.2.1.2.2.1 ∧ z.2.2.1.1 < 2 ^ 63 ∧ tx z.2.2.2 (sgn (b / 2 ^ (FB i + EB i) % 2) (kdo i (b / 2 ^ FB i % 2 ^ EB i) (b % 2 ^ FB i)))) (fun (z : (Nat × Nat × Nat) × (Int32 × Int32 × Int32) × (Nat × Int × Nat × (Nat → Int32)) × (Nat → Int32)) => pw_B (dC, dI) cls [(cJ, .long), (cC, .char)] (va_A [(hB, .inr (4, [.ref hf, .ref hd, .ref ht, .int (iZ lo), .int (iZ hi9), .int kd, .int mi])), (hf, .inr (1, [.ref q1, .ref q2, .ref q3])), (q1, .inr (2, [.ref w1, .int xu])), (w1, .inl (cJ, 26, .inr (.inl (bn_f X)))), (q2, .inr (2, [.ref w2, .int xa])), (w2, .inl (cJ, 26, .inr (.inl (bn_f U)))), (q3, .inr (2, [.ref w3, .int xo])), (w3, .inl (cJ, 26, .inr (.inl (bn_f O)))), (hd, .inr (0, [.ref wd, .int n, .long D, .int T])), (wd, .inl (cC, 19, .inl (g))), (ht, .inr (3, [.ref wt, .int tl])), (wt, .inl (cC, 64, .inl (f)))] sz) [(hB, .inr (4, [.ref hf, .ref hd, .ref ht, .int (iZ lo), .int (iZ hi9), .int (nI (kdo i (b / 2 ^ FB i % 2 ^ EB i) (b % 2 ^ FB i))), .int (nI (b / 2 ^ (FB i + EB i) % 2))])), (hf, .inr (1, [.ref q1, .ref q2, .ref q3])), (q1, .inr (2, [.ref w1, .int z.2.1.1])), (w1, .inl (cJ, 26, .inr (.inl (bn_f z.1.1)))), (q2, .inr (2, [.ref w2, .int z.2.1.2.1])), (w2, .inl (cJ, 26, .inr (.inl (bn_f z.1.2.1)))), (q3, .inr (2, [.ref w3, .int z.2.1.2.2])), (w3, .inl (cJ, 26, .inr (.inl (bn_f z.1.2.2)))), (hd, .inr (0, [.ref wd, .int (nI z.2.2.1.2.2.1), .long (lN z.2.2.1.1), .int (iZ z.2.2.1.2.1)])), (wd, .inl (cC, 19, .inl (z.2.2.1.2.2.2))), (ht, .inr (3, [.ref wt, .int (nI (sgn (b / 2 ^ (FB i + EB i) % 2) (kdo i (b / 2 ^ FB i % 2 ^ EB i) (b % 2 ^ FB i))).length)])), (wt, .inl (cC, 64, .inl (z.2.2.2)))]) (va_A [(hB, .inr (4, [.ref hf, .ref hd, .ref ht, .int (iZ lo), .int (iZ hi9), .int kd, .int mi])), (hf, .inr (1, [.ref q1, .ref q2, .ref q3])), (q1, .inr (2, [.ref w1, .int xu])), (w1, .inl (cJ, 26, .inr (.inl (bn_f X)))), (q2, .inr (2, [.ref w2, .int xa])), (w2, .inl (cJ, 26, .inr (.inl (bn_f U)))), (q3, .inr (2, [.ref w3, .int xo])), (w3, .inl (cJ, 26, .inr (.inl (bn_f O)))), (hd, .inr (0, [.ref wd, .int n, .long D, .int T])), (wd, .inl (cC, 19, .inl (g))), (ht, .inr (3, [.ref wt, .int tl])), (wt, .inl (cC, 64, .inl (f)))] sz)) 0 0 (va_A [(hB, .inr (4, [.ref hf, .ref hd, .ref ht, .int (iZ lo), .int (iZ hi9), .int kd, .int mi])), (hf, .inr (1, [.ref q1, .ref q2, .ref q3])), (q1, .inr (2, [.ref w1, .int xu])), (w1, .inl (cJ, 26, .inr (.inl (bn_f X)))), (q2, .inr (2, [.ref w2, .int xa])), (w2, .inl (cJ, 26, .inr (.inl (bn_f U)))), (q3, .inr (2, [.ref w3, .int xo])), (w3, .inl (cJ, 26, .inr (.inl (bn_f O)))), (hd, .inr (0, [.ref wd, .int n, .long D, .int T])), (wd, .inl (cC, 19, .inl (g))), (ht, .inr (3, [.ref wt, .int tl])), (wt, .inl (cC, 64, .inl (f)))] sz) := by
  refine pw_metv (tn := fun (z : (Nat × Nat × Nat) × (Int32 × Int32 × Int32) × (Nat × Int × Nat × (Nat → Int32)) × (Nat → Int32)) => [(cJ, .long), (cC, .char)]) (wn := fun (z : (Nat × Nat × Nat) × (Int32 × Int32 × Int32) × (Nat × Int × Nat × (Nat → Int32)) × (Nat → Int32)) => [(hB, .inr (4, [.ref hf, .ref hd, .ref ht, .int (iZ lo), .int (iZ hi9), .int (nI (kdo i (b / 2 ^ FB i % 2 ^ EB i) (b % 2 ^ FB i))), .int (nI (b / 2 ^ (FB i + EB i) % 2))])), (hf, .inr (1, [.ref q1, .ref q2, .ref q3])), (q1, .inr (2, [.ref w1, .int z.2.1.1])), (w1, .inl (cJ, 26, .inr (.inl (bn_f z.1.1)))), (q2, .inr (2, [.ref w2, .int z.2.1.2.1])), (w2, .inl (cJ, 26, .inr (.inl (bn_f z.1.2.1)))), (q3, .inr (2, [.ref w3, .int z.2.1.2.2])), (w3, .inl (cJ, 26, .inr (.inl (bn_f z.1.2.2)))), (hd, .inr (0, [.ref wd, .int (nI z.2.2.1.2.2.1), .long (lN z.2.2.1.1), .int (iZ z.2.2.1.2.1)])), (wd, .inl (cC, 19, .inl (z.2.2.1.2.2.2))), (ht, .inr (3, [.ref wt, .int (nI (sgn (b / 2 ^ (FB i + EB i) % 2) (kdo i (b / 2 ^ FB i % 2 ^ EB i) (b % 2 ^ FB i))).length)])), (wt, .inl (cC, 64, .inl (z.2.2.2)))]) (by decide) (Nat.le_of_ble_eq_true rfl) ?_
  intro p e s m args below meth c A Q H ls hx hb hml hown hts hnm hA hE hP hK hD hS hret hl
  have hown : s.vm.findClass R_Bt = some m.cls := hown
  have hl : lv_has ls 10 [(0, .ref hB), (1, .ref ((ad i))), (2, .long (lN b))] := hl
  have hb9 := la_b i
  have he11 : 2 ^ EB i ≤ 2 ^ 11 := Nat.pow_le_pow_right (by decide) (by omega)
  have he9 : (b / 2 ^ FB i % 2 ^ EB i) < 2 ^ EB i := Nat.mod_lt _ (Nat.two_pow_pos _)
  have hf52 : 2 ^ FB i ≤ 2 ^ 52 := Nat.pow_le_pow_right (by decide) (by omega)
  have hfr : (b % 2 ^ FB i) < 2 ^ FB i := Nat.mod_lt _ (Nat.two_pow_pos _)
  have hkd := kdo_le i (b / 2 ^ FB i % 2 ^ EB i) (b % 2 ^ FB i)
  have hmi : (b / 2 ^ (FB i + EB i) % 2) ≤ 1 := by omega
  obtain ⟨e9, ee⟩ : ∃ e9, e9 = (b / 2 ^ FB i % 2 ^ EB i) := ⟨_, rfl⟩
  obtain ⟨fr, ef⟩ : ∃ fr, fr = (b % 2 ^ FB i) := ⟨_, rfl⟩
  obtain ⟨m9, em⟩ : ∃ m9, m9 = (b / 2 ^ (FB i + EB i) % 2) := ⟨_, rfl⟩
  rw [← ee] at he9 hkd
  rw [← ef] at hfr hkd
  rw [← em] at hmi
  rw [← ee, ← ef, ← em] at hret
  obtain ⟨k9, ek⟩ : ∃ k9, k9 = kdo i e9 fr := ⟨_, rfl⟩
  rw [← ek] at hkd hret
  have k113 : ∀ (X2 U2 O2 : Nat) (x1 x2 x3 : Int32) (D2 : Nat) (t2 : Int) (n2 : Nat) (g2 : Nat → Int32) (H : Heap) (locs : List Loc) (ls : Array Slot), (X2 < 2 ^ (32 * 26) ∧ U2 < 2 ^ (32 * 26) ∧ O2 < 2 ^ (32 * 26)) → cst i e9 fr k9 D2 t2 → isnd D2 n2 → dgs g2 D2 n2 → D2 < 2 ^ 63 → va_P (dC, dI) cls [(hB, .inr (4, [.ref hf, .ref hd, .ref ht, .int (iZ lo), .int (iZ hi9), .int (nI k9), .int (nI m9)])), (hf, .inr (1, [.ref q1, .ref q2, .ref q3])), (q1, .inr (2, [.ref w1, .int x1])), (w1, .inl (cJ, 26, .inr (.inl (bn_f X2)))), (q2, .inr (2, [.ref w2, .int x2])), (w2, .inl (cJ, 26, .inr (.inl (bn_f U2)))), (q3, .inr (2, [.ref w3, .int x3])), (w3, .inl (cJ, 26, .inr (.inl (bn_f O2)))), (hd, .inr (0, [.ref wd, .int (nI n2), .long (lN D2), .int (iZ t2)])), (wd, .inl (cC, 19, .inl (g2))), (ht, .inr (3, [.ref wt, .int tl])), (wt, .inl (cC, 64, .inl (f)))] H → va_D A [(hB, .inr (4, [.ref hf, .ref hd, .ref ht, .int (iZ lo), .int (iZ hi9), .int (nI k9), .int (nI m9)])), (hf, .inr (1, [.ref q1, .ref q2, .ref q3])), (q1, .inr (2, [.ref w1, .int x1])), (w1, .inl (cJ, 26, .inr (.inl (bn_f X2)))), (q2, .inr (2, [.ref w2, .int x2])), (w2, .inl (cJ, 26, .inr (.inl (bn_f U2)))), (q3, .inr (2, [.ref w3, .int x3])), (w3, .inl (cJ, 26, .inr (.inl (bn_f O2)))), (hd, .inr (0, [.ref wd, .int (nI n2), .long (lN D2), .int (iZ t2)])), (wd, .inl (cC, 19, .inl (g2))), (ht, .inr (3, [.ref wt, .int tl])), (wt, .inl (cC, 64, .inl (f)))] → va_S A s.heap H locs → lv_has ls 10 [(0, .ref hB), (1, .ref ((ad i))), (2, .long (lN b))] → W p l e { frames := 4, cells := 0, slots := 0, locals := 110 } s m args below meth c H locs 0 0 Q (F0 m 113 ls []) := by
    intro X2 U2 O2 x1 x2 x3 D2 t2 n2 g2 H locs ls hb2 hc2 hn2 hg2 hd2 hP hD hS hl
    refine lv_aload_n hx hb d_Bt_take_113 rfl (lv_at hl 0 rfl) ?_
    refine va_get (D := (dC, dI)) (ci := 4) (v := .ref ht) (C := R_Bt) (T := F_Bt) (N := 7) hx hb hts i_Bt hown hK hP 0 rfl rfl 2 (by decide) (hts _ fl_Bt_26) (fun _ h9 => h9) rfl d_Bt_take_114 ?_
    refine pw_callv (wc := [(ht, .inr (3, [.ref wt, .int tl])), (wt, .inl (cC, 64, .inl (f)))]) (wr := [(hB, .inr (4, [.ref hf, .ref hd, .ref ht, .int (iZ lo), .int (iZ hi9), .int (nI k9), .int (nI m9)])), (hf, .inr (1, [.ref q1, .ref q2, .ref q3])), (q1, .inr (2, [.ref w1, .int x1])), (w1, .inl (cJ, 26, .inr (.inl (bn_f X2)))), (q2, .inr (2, [.ref w2, .int x2])), (w2, .inl (cJ, 26, .inr (.inl (bn_f U2)))), (q3, .inr (2, [.ref w3, .int x3])), (w3, .inl (cJ, 26, .inr (.inl (bn_f O2)))), (hd, .inr (0, [.ref wd, .int (nI n2), .long (lN D2), .int (iZ t2)])), (wd, .inl (cC, 19, .inl (g2)))]) [10, 11] [0, 1, 2, 3, 4, 5, 6, 7, 8, 9] rfl rfl rfl (by decide) (by decide) (by decide) hP hD hS hA (fun hPc hDc hF => va_runV (As := []) (rest := []) ⟨hx, hb, hml, hown, hts⟩ (c_Te_clear l dC dI H.size ht wt cC f tl) (cwV 0 hts (gw_V (gw_self cod_Te_clear) ml_Bt_122 im_Te_clear sel_Te_clear ini_Te) rfl rfl rfl (by decide +kernel) ⟨Nat.le_of_ble_eq_true rfl, Nat.le_of_ble_eq_true rfl⟩) (pw_preV pw_0_ok (trivial : pw_0 A s s.heap) hS hF hPc hDc (hK.sub [1] rfl) (va_recv hK hPc (ci := 3) (q0 := 0) rfl rfl)) rfl rfl hl.1 rfl (lv_room (Nat.le_of_ble_eq_true rfl)) d_Bt_take_117 ⟨Nat.le_of_ble_eq_true rfl, Nat.le_of_ble_eq_true rfl⟩) (fun u5 H locs hw5 hK1 hP hD hS => ?_)
    have hP : va_P (dC, dI) cls [(hB, .inr (4, [.ref hf, .ref hd, .ref ht, .int (iZ lo), .int (iZ hi9), .int (nI k9), .int (nI m9)])), (hf, .inr (1, [.ref q1, .ref q2, .ref q3])), (q1, .inr (2, [.ref w1, .int x1])), (w1, .inl (cJ, 26, .inr (.inl (bn_f X2)))), (q2, .inr (2, [.ref w2, .int x2])), (w2, .inl (cJ, 26, .inr (.inl (bn_f U2)))), (q3, .inr (2, [.ref w3, .int x3])), (w3, .inl (cJ, 26, .inr (.inl (bn_f O2)))), (hd, .inr (0, [.ref wd, .int (nI n2), .long (lN D2), .int (iZ t2)])), (wd, .inl (cC, 19, .inl (g2))), (ht, .inr (3, [.ref wt, .int 0])), (wt, .inl (cC, 64, .inl (f)))] H := hP
    have hD : va_D A [(hB, .inr (4, [.ref hf, .ref hd, .ref ht, .int (iZ lo), .int (iZ hi9), .int (nI k9), .int (nI m9)])), (hf, .inr (1, [.ref q1, .ref q2, .ref q3])), (q1, .inr (2, [.ref w1, .int x1])), (w1, .inl (cJ, 26, .inr (.inl (bn_f X2)))), (q2, .inr (2, [.ref w2, .int x2])), (w2, .inl (cJ, 26, .inr (.inl (bn_f U2)))), (q3, .inr (2, [.ref w3, .int x3])), (w3, .inl (cJ, 26, .inr (.inl (bn_f O2)))), (hd, .inr (0, [.ref wd, .int (nI n2), .long (lN D2), .int (iZ t2)])), (wd, .inl (cC, 19, .inl (g2))), (ht, .inr (3, [.ref wt, .int 0])), (wt, .inl (cC, 64, .inl (f)))] := hD
    refine lv_aload_n hx hb d_Bt_take_120 rfl (lv_at hl 0 rfl) ?_
    refine va_get (D := (dC, dI)) (ci := 4) (v := .int (nI m9)) (C := R_Bt) (T := F_Bt) (N := 7) hx hb hts i_Bt hown hK hP 0 rfl rfl 6 (by decide) (hts _ fl_Bt_40) (fun _ h9 => h9) rfl d_Bt_take_121 ?_
    refine lv_if_eq (tgt := 144) hx hb d_Bt_take_124 (by decide) (fun hc => ?_) (fun hc => ?_)
    · have h0 : m9 = 0 := (nI_b0 hmi).mp hc
      have hsg : sgn m9 k9 = [] := if_neg (by omega)
      exact hret _ _ _ _ ((X2, U2, O2), (x1, x2, x3), (D2, t2, n2, g2), f) d_Bt_take_144 ⟨hb2, hc2, hn2, hg2, hd2, by rw [hsg]; exact tx_nil f⟩ (by rw [hsg]; exact hP) hK (by rw [hsg]; exact hD) hS
    · have h0 : m9 = 1 := by have := mt (nI_b0 hmi).mpr hc; omega
      refine lv_aload_n hx hb d_Bt_take_127 rfl (lv_at hl 0 rfl) ?_
      refine va_get (D := (dC, dI)) (ci := 4) (v := .int (nI k9)) (C := R_Bt) (T := F_Bt) (N := 7) hx hb hts i_Bt hown hK hP 0 rfl rfl 5 (by decide) (hts _ fl_Bt_37) (fun _ h9 => h9) rfl d_Bt_take_128 ?_
      refine lv_iconst (v := 1) hx hb d_Bt_take_131 (by decide) ?_
      refine lv_icmp_eq (tgt := 144) hx hb d_Bt_take_132 (by decide) (fun hc2 => ?_) (fun hc2 => ?_)
      · have h1 : k9 = 1 := (nI_eq (b := 1) (by omega) (by omega)).mp hc2
        have hsg : sgn m9 k9 = [] := if_neg (by omega)
        exact hret _ _ _ _ ((X2, U2, O2), (x1, x2, x3), (D2, t2, n2, g2), f) d_Bt_take_144 ⟨hb2, ‹cst i e9 fr k9 D2 t2›, hn2, hg2, hd2, by rw [hsg]; exact tx_nil f⟩ (by rw [hsg]; exact hP) hK (by rw [hsg]; exact hD) hS
      · have h1 : k9 ≠ 1 := fun q => hc2 (by rw [q]; rfl)
        have hsg : sgn m9 k9 = [45] := if_pos ⟨h0, h1⟩
        refine lv_aload_n hx hb d_Bt_take_135 rfl (lv_at hl 0 rfl) ?_
        refine va_get (D := (dC, dI)) (ci := 4) (v := .ref ht) (C := R_Bt) (T := F_Bt) (N := 7) hx hb hts i_Bt hown hK hP 0 rfl rfl 2 (by decide) (hts _ fl_Bt_26) (fun _ h9 => h9) rfl d_Bt_take_136 ?_
        refine lv_bipush (v := 45) hx hb d_Bt_take_139 (by decide) ?_
        refine pw_callv (wc := [(ht, .inr (3, [.ref wt, .int 0])), (wt, .inl (cC, 64, .inl (f)))]) (wr := [(hB, .inr (4, [.ref hf, .ref hd, .ref ht, .int (iZ lo), .int (iZ hi9), .int (nI k9), .int (nI m9)])), (hf, .inr (1, [.ref q1, .ref q2, .ref q3])), (q1, .inr (2, [.ref w1, .int x1])), (w1, .inl (cJ, 26, .inr (.inl (bn_f X2)))), (q2, .inr (2, [.ref w2, .int x2])), (w2, .inl (cJ, 26, .inr (.inl (bn_f U2)))), (q3, .inr (2, [.ref w3, .int x3])), (w3, .inl (cJ, 26, .inr (.inl (bn_f O2)))), (hd, .inr (0, [.ref wd, .int (nI n2), .long (lN D2), .int (iZ t2)])), (wd, .inl (cC, 19, .inl (g2)))]) [10, 11] [0, 1, 2, 3, 4, 5, 6, 7, 8, 9] rfl rfl rfl (by decide) (by decide) (by decide) hP hD hS hA (fun hPc hDc hF => va_runV (As := [.int 45]) (rest := []) ⟨hx, hb, hml, hown, hts⟩ (c_Te_put l dC dI H.size ht wt cC f [] 45 (tx_nil f) (by decide) (by omega)) (cwV 1 hts (gw_V (gw_self cod_Te_put) ml_Bt_123 im_Te_put sel_Te_put ini_Te) rfl rfl rfl (by decide +kernel) ⟨Nat.le_of_ble_eq_true rfl, Nat.le_of_ble_eq_true rfl⟩) (pw_preV pw_0_ok (trivial : pw_0 A s s.heap) hS hF hPc hDc (hK.sub [1] rfl) (va_recv hK hPc (ci := 3) (q0 := 0) rfl rfl)) rfl rfl hl.1 rfl (lv_room (Nat.le_of_ble_eq_true rfl)) d_Bt_take_141 ⟨Nat.le_of_ble_eq_true rfl, Nat.le_of_ble_eq_true rfl⟩) (fun f3 H locs hw3 hK1 hP hD hS => ?_)
        have hP : va_P (dC, dI) cls [(hB, .inr (4, [.ref hf, .ref hd, .ref ht, .int (iZ lo), .int (iZ hi9), .int (nI k9), .int (nI m9)])), (hf, .inr (1, [.ref q1, .ref q2, .ref q3])), (q1, .inr (2, [.ref w1, .int x1])), (w1, .inl (cJ, 26, .inr (.inl (bn_f X2)))), (q2, .inr (2, [.ref w2, .int x2])), (w2, .inl (cJ, 26, .inr (.inl (bn_f U2)))), (q3, .inr (2, [.ref w3, .int x3])), (w3, .inl (cJ, 26, .inr (.inl (bn_f O2)))), (hd, .inr (0, [.ref wd, .int (nI n2), .long (lN D2), .int (iZ t2)])), (wd, .inl (cC, 19, .inl (g2))), (ht, .inr (3, [.ref wt, .int (nI ([] ++ [45] : List Nat).length)])), (wt, .inl (cC, 64, .inl (f3)))] H := hP
        have hD : va_D A [(hB, .inr (4, [.ref hf, .ref hd, .ref ht, .int (iZ lo), .int (iZ hi9), .int (nI k9), .int (nI m9)])), (hf, .inr (1, [.ref q1, .ref q2, .ref q3])), (q1, .inr (2, [.ref w1, .int x1])), (w1, .inl (cJ, 26, .inr (.inl (bn_f X2)))), (q2, .inr (2, [.ref w2, .int x2])), (w2, .inl (cJ, 26, .inr (.inl (bn_f U2)))), (q3, .inr (2, [.ref w3, .int x3])), (w3, .inl (cJ, 26, .inr (.inl (bn_f O2)))), (hd, .inr (0, [.ref wd, .int (nI n2), .long (lN D2), .int (iZ t2)])), (wd, .inl (cC, 19, .inl (g2))), (ht, .inr (3, [.ref wt, .int (nI ([] ++ [45] : List Nat).length)])), (wt, .inl (cC, 64, .inl (f3)))] := hD
        exact hret _ _ _ _ ((X2, U2, O2), (x1, x2, x3), (D2, t2, n2, g2), f3) d_Bt_take_144 ⟨hb2, ‹cst i e9 fr k9 D2 t2›, hn2, hg2, hd2, by rw [hsg]; exact hw3⟩ (by rw [hsg]; exact hP) hK (by rw [hsg]; exact hD) hS
  have k80 : ∀ (H : Heap) (locs : List Loc) (ls : Array Slot), k9 = 4 → va_P (dC, dI) cls [(hB, .inr (4, [.ref hf, .ref hd, .ref ht, .int (iZ lo), .int (iZ hi9), .int (nI k9), .int (nI m9)])), (hf, .inr (1, [.ref q1, .ref q2, .ref q3])), (q1, .inr (2, [.ref w1, .int xu])), (w1, .inl (cJ, 26, .inr (.inl (bn_f X)))), (q2, .inr (2, [.ref w2, .int xa])), (w2, .inl (cJ, 26, .inr (.inl (bn_f U)))), (q3, .inr (2, [.ref w3, .int xo])), (w3, .inl (cJ, 26, .inr (.inl (bn_f O)))), (hd, .inr (0, [.ref wd, .int n, .long D, .int T])), (wd, .inl (cC, 19, .inl (g))), (ht, .inr (3, [.ref wt, .int tl])), (wt, .inl (cC, 64, .inl (f)))] H → va_D A [(hB, .inr (4, [.ref hf, .ref hd, .ref ht, .int (iZ lo), .int (iZ hi9), .int (nI k9), .int (nI m9)])), (hf, .inr (1, [.ref q1, .ref q2, .ref q3])), (q1, .inr (2, [.ref w1, .int xu])), (w1, .inl (cJ, 26, .inr (.inl (bn_f X)))), (q2, .inr (2, [.ref w2, .int xa])), (w2, .inl (cJ, 26, .inr (.inl (bn_f U)))), (q3, .inr (2, [.ref w3, .int xo])), (w3, .inl (cJ, 26, .inr (.inl (bn_f O)))), (hd, .inr (0, [.ref wd, .int n, .long D, .int T])), (wd, .inl (cC, 19, .inl (g))), (ht, .inr (3, [.ref wt, .int tl])), (wt, .inl (cC, 64, .inl (f)))] → va_S A s.heap H locs → lv_has ls 10 [(7, .long (lN (sgf i e9 fr))), (5, .long (lN fr)), (4, .int (nI e9)), (0, .ref hB), (1, .ref ((ad i))), (2, .long (lN b))] → W p l e { frames := 4, cells := 0, slots := 0, locals := 110 } s m args below meth c H locs 0 0 Q (F0 m 80 ls [.int (nI (lop e9 fr))]) := by
    intro H locs ls hk4 hP hD hS hl
    have hne : e9 < 2 ^ EB i - 1 ∧ ¬ (e9 = 0 ∧ fr = 0) := by
      rw [ek] at hk4; unfold kdo at hk4
      constructor
      · rcases Nat.lt_or_ge e9 (2 ^ EB i - 1) with q | q
        · exact q
        · rw [if_pos (by omega)] at hk4; split at hk4 <;> omega
      · intro q
        by_cases g9 : e9 = 2 ^ EB i - 1
        · rw [if_pos g9] at hk4; split at hk4 <;> omega
        · rw [if_neg g9, if_pos q] at hk4; omega
    obtain ⟨bl, hbl, hbl2, hS0, hchk⟩ := fd_pre hi hne.1 hfr hne.2
    have hu := fd_use hbl hS0 hchk
    have hlp : lop e9 fr ≤ 1 := by unfold lop; split <;> omega
    have hpw : -2000 < pwr i e9 ∧ pwr i e9 < 2000 := by unfold pwr; omega
    refine lv_istore (lv' := [(9, .int (nI (lop e9 fr))), (7, .long (lN (sgf i e9 fr))), (5, .long (lN fr)), (4, .int (nI e9)), (0, .ref hB), (1, .ref ((ad i))), (2, .long (lN b))]) hx hb d_Bt_take_80 hl (by decide) rfl (fun ls hl => ?_)
    refine lv_aload_n hx hb d_Bt_take_82 rfl (lv_at hl 4 rfl) ?_
    refine va_get (D := (dC, dI)) (ci := 4) (v := .ref hf) (C := R_Bt) (T := F_Bt) (N := 7) hx hb hts i_Bt hown hK hP 0 rfl rfl 0 (by decide) (hts _ fl_Bt_10) (fun _ h9 => h9) rfl d_Bt_take_83 ?_
    refine lv_lload hx hb d_Bt_take_86 (lv_at hl 1 rfl) ?_
    refine lv_aload_n hx hb d_Bt_take_88 rfl (lv_at hl 5 rfl) ?_
    refine lv_iload hx hb d_Bt_take_89 (lv_at hl 3 rfl) ?_
    refine pw_calli (wc := []) (wr := [(hB, .inr (4, [.ref hf, .ref hd, .ref ht, .int (iZ lo), .int (iZ hi9), .int (nI k9), .int (nI m9)])), (hf, .inr (1, [.ref q1, .ref q2, .ref q3])), (q1, .inr (2, [.ref w1, .int xu])), (w1, .inl (cJ, 26, .inr (.inl (bn_f X)))), (q2, .inr (2, [.ref w2, .int xa])), (w2, .inl (cJ, 26, .inr (.inl (bn_f U)))), (q3, .inr (2, [.ref w3, .int xo])), (w3, .inl (cJ, 26, .inr (.inl (bn_f O)))), (hd, .inr (0, [.ref wd, .int n, .long D, .int T])), (wd, .inl (cC, 19, .inl (g))), (ht, .inr (3, [.ref wt, .int tl])), (wt, .inl (cC, 64, .inl (f)))]) [] [0, 1, 2, 3, 4, 5, 6, 7, 8, 9, 10, 11] rfl rfl rfl (by decide) (by decide) (by decide) hP hD hS hA (fun hPc hDc hF => va_runV (As := [.int (nI e9)]) (rest := [.long (lN (sgf i e9 fr)), .ref hf]) ⟨hx, hb, hml, hown, hts⟩ (c_La_powerOf l dC dI H.size ad adK adV i e9 hi (by omega)) (cwV 1 hts (gw_V (gw_self cod_La_powerOf) ml_Bt_112 im_La_powerOf sel_La_powerOf ini_La) rfl rfl rfl (by decide +kernel) ⟨Nat.le_of_ble_eq_true rfl, Nat.le_of_ble_eq_true rfl⟩) (pw_preV (cb_E_ok ad adK adV) hE hS hF hPc hDc (hK.sub [] rfl) (va_recvE hE.2.1 hi hS)) rfl rfl hl.1 rfl (lv_room (Nat.le_of_ble_eq_true rfl)) d_Bt_take_91 ⟨Nat.le_of_ble_eq_true rfl, Nat.le_of_ble_eq_true rfl⟩) (fun r5 u5 H locs hw5 hK1 hP hD hS => ?_)
    have hP : va_P (dC, dI) cls [(hB, .inr (4, [.ref hf, .ref hd, .ref ht, .int (iZ lo), .int (iZ hi9), .int (nI k9), .int (nI m9)])), (hf, .inr (1, [.ref q1, .ref q2, .ref q3])), (q1, .inr (2, [.ref w1, .int xu])), (w1, .inl (cJ, 26, .inr (.inl (bn_f X)))), (q2, .inr (2, [.ref w2, .int xa])), (w2, .inl (cJ, 26, .inr (.inl (bn_f U)))), (q3, .inr (2, [.ref w3, .int xo])), (w3, .inl (cJ, 26, .inr (.inl (bn_f O)))), (hd, .inr (0, [.ref wd, .int n, .long D, .int T])), (wd, .inl (cC, 19, .inl (g))), (ht, .inr (3, [.ref wt, .int tl])), (wt, .inl (cC, 64, .inl (f)))] H := hP
    have hD : va_D A [(hB, .inr (4, [.ref hf, .ref hd, .ref ht, .int (iZ lo), .int (iZ hi9), .int (nI k9), .int (nI m9)])), (hf, .inr (1, [.ref q1, .ref q2, .ref q3])), (q1, .inr (2, [.ref w1, .int xu])), (w1, .inl (cJ, 26, .inr (.inl (bn_f X)))), (q2, .inr (2, [.ref w2, .int xa])), (w2, .inl (cJ, 26, .inr (.inl (bn_f U)))), (q3, .inr (2, [.ref w3, .int xo])), (w3, .inl (cJ, 26, .inr (.inl (bn_f O)))), (hd, .inr (0, [.ref wd, .int n, .long D, .int T])), (wd, .inl (cC, 19, .inl (g))), (ht, .inr (3, [.ref wt, .int tl])), (wt, .inl (cC, 64, .inl (f)))] := hD
    have hw5 : r5 = iZ (pwr i e9) := hw5
    subst hw5
    refine lv_iload hx hb d_Bt_take_94 (lv_at hl 0 rfl) ?_
    refine lv_aload_n hx hb d_Bt_take_96 rfl (lv_at hl 4 rfl) ?_
    refine va_get (D := (dC, dI)) (ci := 4) (v := .ref hd) (C := R_Bt) (T := F_Bt) (N := 7) hx hb hts i_Bt hown hK hP 0 rfl rfl 1 (by decide) (hts _ fl_Bt_19) (fun _ h9 => h9) rfl d_Bt_take_97 ?_
    refine pw_callv (wc := [(hf, .inr (1, [.ref q1, .ref q2, .ref q3])), (q1, .inr (2, [.ref w1, .int xu])), (w1, .inl (cJ, 26, .inr (.inl (bn_f X)))), (q2, .inr (2, [.ref w2, .int xa])), (w2, .inl (cJ, 26, .inr (.inl (bn_f U)))), (q3, .inr (2, [.ref w3, .int xo])), (w3, .inl (cJ, 26, .inr (.inl (bn_f O)))), (hd, .inr (0, [.ref wd, .int n, .long D, .int T])), (wd, .inl (cC, 19, .inl (g)))]) (wr := [(hB, .inr (4, [.ref hf, .ref hd, .ref ht, .int (iZ lo), .int (iZ hi9), .int (nI k9), .int (nI m9)])), (ht, .inr (3, [.ref wt, .int tl])), (wt, .inl (cC, 64, .inl (f)))]) [1, 2, 3, 4, 5, 6, 7, 8, 9] [0, 10, 11] rfl rfl rfl (by decide) (by decide) (by decide) hP hD hS hA (fun hPc hDc hF => va_runV (As := [.long (lN (sgf i e9 fr)), .int (iZ (pwr i e9)), .int (nI (lop e9 fr)), .ref hd]) (rest := []) ⟨hx, hb, hml, hown, hts⟩ (c_Fi_find l dC dI H.size hf q1 w1 q2 w2 q3 w3 cJ hd wd cC X U O xu xa xo g n T D (sgf i e9 fr) bl (pwr i e9) (fd_hp bl (pwr i e9)) (lop e9 fr) (2 * (sgf i e9 fr) * fd_U (fd_hp bl (pwr i e9)) (pwr i e9)) (fd_U (fd_hp bl (pwr i e9)) (pwr i e9)) (fd_O (fd_hp bl (pwr i e9)) (pwr i e9)) hX hU hO hbl (by omega) hS0 hpw.1 hpw.2 hlp rfl hu.1.1 hu.1.2 (by unfold fd_U; rw [Nat.one_mul, Nat.mul_assoc]) rfl rfl hu.2.2.2.1 hu.2.1 hu.2.2.1 hu.2.2.2.2.1 hu.2.2.2.2.2) (cwV 4 hts (gw_V (gw_self cod_Fi_find) ml_Bt_115 im_Fi_find sel_Fi_find ini_Fi) rfl rfl rfl (by decide +kernel) ⟨Nat.le_of_ble_eq_true rfl, Nat.le_of_ble_eq_true rfl⟩) (pw_preV pw_0_ok (trivial : pw_0 A s s.heap) hS hF hPc hDc (hK.sub [0, 1] rfl) (va_recv hK hPc (ci := 1) (q0 := 0) rfl rfl)) rfl rfl hl.1 rfl (lv_room (Nat.le_of_ble_eq_true rfl)) d_Bt_take_100 ⟨Nat.le_of_ble_eq_true rfl, Nat.le_of_ble_eq_true rfl⟩) (fun zz H locs hzz hK1 hP hD hS => ?_)
    have hP : va_P (dC, dI) cls [(hB, .inr (4, [.ref hf, .ref hd, .ref ht, .int (iZ lo), .int (iZ hi9), .int (nI k9), .int (nI m9)])), (hf, .inr (1, [.ref q1, .ref q2, .ref q3])), (q1, .inr (2, [.ref w1, .int zz.2.1.1])), (w1, .inl (cJ, 26, .inr (.inl (bn_f zz.1.1)))), (q2, .inr (2, [.ref w2, .int zz.2.1.2.1])), (w2, .inl (cJ, 26, .inr (.inl (bn_f zz.1.2.1)))), (q3, .inr (2, [.ref w3, .int zz.2.1.2.2])), (w3, .inl (cJ, 26, .inr (.inl (bn_f zz.1.2.2)))), (hd, .inr (0, [.ref wd, .int (nI zz.2.2.2.2.1), .long (lN zz.2.2.1), .int (iZ zz.2.2.2.1)])), (wd, .inl (cC, 19, .inl (zz.2.2.2.2.2))), (ht, .inr (3, [.ref wt, .int tl])), (wt, .inl (cC, 64, .inl (f)))] H := hP.sub [0, 3, 4, 5, 6, 7, 8, 9, 10, 11, 1, 2] rfl
    have hD : va_D A [(hB, .inr (4, [.ref hf, .ref hd, .ref ht, .int (iZ lo), .int (iZ hi9), .int (nI k9), .int (nI m9)])), (hf, .inr (1, [.ref q1, .ref q2, .ref q3])), (q1, .inr (2, [.ref w1, .int zz.2.1.1])), (w1, .inl (cJ, 26, .inr (.inl (bn_f zz.1.1)))), (q2, .inr (2, [.ref w2, .int zz.2.1.2.1])), (w2, .inl (cJ, 26, .inr (.inl (bn_f zz.1.2.1)))), (q3, .inr (2, [.ref w3, .int zz.2.1.2.2])), (w3, .inl (cJ, 26, .inr (.inl (bn_f zz.1.2.2)))), (hd, .inr (0, [.ref wd, .int (nI zz.2.2.2.2.1), .long (lN zz.2.2.1), .int (iZ zz.2.2.2.1)])), (wd, .inl (cC, 19, .inl (zz.2.2.2.2.2))), (ht, .inr (3, [.ref wt, .int tl])), (wt, .inl (cC, 64, .inl (f)))] := hD.sub [0, 3, 4, 5, 6, 7, 8, 9, 10, 11, 1, 2] (by decide) rfl
    refine lv_goto (tgt := 113) hx hb d_Bt_take_103 (by decide) ?_
    obtain ⟨hz1, hz2, hz3, hz4, hz5⟩ := hzz
    exact k113 zz.1.1 zz.1.2.1 zz.1.2.2 zz.2.1.1 zz.2.1.2.1 zz.2.1.2.2 zz.2.2.1 zz.2.2.2.1 zz.2.2.2.2.1 zz.2.2.2.2.2 H _ ls hz1 ⟨fun _ => ⟨bl, hbl, hchk, hz2⟩, fun q => absurd hk4 q⟩ hz3 hz4 hz5 hP hD hS (lv_sub hl [4, 5, 6] rfl)
  have k60 : ∀ (H : Heap) (locs : List Loc) (ls : Array Slot), k9 = 4 → va_P (dC, dI) cls [(hB, .inr (4, [.ref hf, .ref hd, .ref ht, .int (iZ lo), .int (iZ hi9), .int (nI k9), .int (nI m9)])), (hf, .inr (1, [.ref q1, .ref q2, .ref q3])), (q1, .inr (2, [.ref w1, .int xu])), (w1, .inl (cJ, 26, .inr (.inl (bn_f X)))), (q2, .inr (2, [.ref w2, .int xa])), (w2, .inl (cJ, 26, .inr (.inl (bn_f U)))), (q3, .inr (2, [.ref w3, .int xo])), (w3, .inl (cJ, 26, .inr (.inl (bn_f O)))), (hd, .inr (0, [.ref wd, .int n, .long D, .int T])), (wd, .inl (cC, 19, .inl (g))), (ht, .inr (3, [.ref wt, .int tl])), (wt, .inl (cC, 64, .inl (f)))] H → va_D A [(hB, .inr (4, [.ref hf, .ref hd, .ref ht, .int (iZ lo), .int (iZ hi9), .int (nI k9), .int (nI m9)])), (hf, .inr (1, [.ref q1, .ref q2, .ref q3])), (q1, .inr (2, [.ref w1, .int xu])), (w1, .inl (cJ, 26, .inr (.inl (bn_f X)))), (q2, .inr (2, [.ref w2, .int xa])), (w2, .inl (cJ, 26, .inr (.inl (bn_f U)))), (q3, .inr (2, [.ref w3, .int xo])), (w3, .inl (cJ, 26, .inr (.inl (bn_f O)))), (hd, .inr (0, [.ref wd, .int n, .long D, .int T])), (wd, .inl (cC, 19, .inl (g))), (ht, .inr (3, [.ref wt, .int tl])), (wt, .inl (cC, 64, .inl (f)))] → va_S A s.heap H locs → lv_has ls 10 [(5, .long (lN fr)), (4, .int (nI e9)), (0, .ref hB), (1, .ref ((ad i))), (2, .long (lN b))] → W p l e { frames := 4, cells := 0, slots := 0, locals := 110 } s m args below meth c H locs 0 0 Q (F0 m 60 ls [.long (lN (sgf i e9 fr))]) := by
    intro H locs ls hk4 hP hD hS hl
    refine lv_lstore (lv' := [(7, .long (lN (sgf i e9 fr))), (5, .long (lN fr)), (4, .int (nI e9)), (0, .ref hB), (1, .ref ((ad i))), (2, .long (lN b))]) hx hb d_Bt_take_60 hl (by decide) rfl (fun ls hl => ?_)
    refine lv_lload hx hb d_Bt_take_62 (lv_at hl 1 rfl) ?_
    refine lv_lconst (v := 0) hx hb d_Bt_take_64 (by decide) ?_
    refine lx_ne (tgt := 79) hx hb d_Bt_take_65 d_Bt_take_66 (by decide) (fun hc => ?_) (fun hc => ?_)
    · have h1 : fr ≠ 0 := fun q => hc (by rw [q]; rfl)
      have hlo9 : lop e9 fr = 0 := if_neg (by omega)
      refine lv_iconst (v := 0) hx hb d_Bt_take_79 (by decide) ?_
      refine lv_topi (fun x_1 e_2 => ?_)
      obtain rfl : x_1 = nI (lop e9 fr) := e_2.trans (by rw [hlo9]; rfl)
      exact k80 H _ ls hk4 hP hD hS hl
    · have h1 : fr = 0 := (pk_lEQ (a := fr) (b := 0) (by omega) (by omega)).mp hc
      refine lv_iload hx hb d_Bt_take_69 (lv_at hl 2 rfl) ?_
      refine lv_iconst (v := 1) hx hb d_Bt_take_71 (by decide) ?_
      refine lv_icmp_le (tgt := 79) hx hb d_Bt_take_72 (by decide) (fun hc2 => ?_) (fun hc2 => ?_)
      · have h2 : e9 ≤ 1 := (nI_leI (a := e9) (b := 1) (by omega) (by omega)).mp hc2
        have hlo9 : lop e9 fr = 0 := if_neg (by omega)
        refine lv_iconst (v := 0) hx hb d_Bt_take_79 (by decide) ?_
        refine lv_topi (fun x_3 e_4 => ?_)
        obtain rfl : x_3 = nI (lop e9 fr) := e_4.trans (by rw [hlo9]; rfl)
        exact k80 H _ ls hk4 hP hD hS hl
      · have h2 : 1 < e9 := by have := mt (nI_leI (a := e9) (b := 1) (by omega) (by omega)).mpr hc2; omega
        have hlo9 : lop e9 fr = 1 := if_pos ⟨h1, h2⟩
        refine lv_iconst (v := 1) hx hb d_Bt_take_75 (by decide) ?_
        refine lv_topi (fun x_5 e_6 => ?_)
        obtain rfl : x_5 = nI (lop e9 fr) := e_6.trans (by rw [hlo9]; rfl)
        refine lv_goto (tgt := 80) hx hb d_Bt_take_76 (by decide) ?_
        exact k80 H _ ls hk4 hP hD hS hl
  refine lv_aload_n hx hb d_Bt_take_0 rfl (lv_at hl 1 rfl) ?_
  refine lv_lload_n hx hb d_Bt_take_1 rfl (lv_at hl 2 rfl) ?_
  refine pw_calli (wc := []) (wr := [(hB, .inr (4, [.ref hf, .ref hd, .ref ht, .int (iZ lo), .int (iZ hi9), .int kd, .int mi])), (hf, .inr (1, [.ref q1, .ref q2, .ref q3])), (q1, .inr (2, [.ref w1, .int xu])), (w1, .inl (cJ, 26, .inr (.inl (bn_f X)))), (q2, .inr (2, [.ref w2, .int xa])), (w2, .inl (cJ, 26, .inr (.inl (bn_f U)))), (q3, .inr (2, [.ref w3, .int xo])), (w3, .inl (cJ, 26, .inr (.inl (bn_f O)))), (hd, .inr (0, [.ref wd, .int n, .long D, .int T])), (wd, .inl (cC, 19, .inl (g))), (ht, .inr (3, [.ref wt, .int tl])), (wt, .inl (cC, 64, .inl (f)))]) [] [0, 1, 2, 3, 4, 5, 6, 7, 8, 9, 10, 11] rfl rfl rfl (by decide) (by decide) (by decide) hP hD hS hA (fun hPc hDc hF => va_runV (As := [.long (lN b)]) (rest := []) ⟨hx, hb, hml, hown, hts⟩ (c_La_exponentOf l dC dI H.size ad adK adV i b hi hbb) (cwV 1 hts (gw_V (gw_self cod_La_exponentOf) ml_Bt_92 im_La_exponentOf sel_La_exponentOf ini_La) rfl rfl rfl (by decide +kernel) ⟨Nat.le_of_ble_eq_true rfl, Nat.le_of_ble_eq_true rfl⟩) (pw_preV (cb_E_ok ad adK adV) hE hS hF hPc hDc (hK.sub [] rfl) (va_recvE hE.2.1 hi hS)) rfl rfl hl.1 rfl (lv_room (Nat.le_of_ble_eq_true rfl)) d_Bt_take_2 ⟨Nat.le_of_ble_eq_true rfl, Nat.le_of_ble_eq_true rfl⟩) (fun r5 u5 H locs hw5 hK1 hP hD hS => ?_)
  have hP : va_P (dC, dI) cls [(hB, .inr (4, [.ref hf, .ref hd, .ref ht, .int (iZ lo), .int (iZ hi9), .int kd, .int mi])), (hf, .inr (1, [.ref q1, .ref q2, .ref q3])), (q1, .inr (2, [.ref w1, .int xu])), (w1, .inl (cJ, 26, .inr (.inl (bn_f X)))), (q2, .inr (2, [.ref w2, .int xa])), (w2, .inl (cJ, 26, .inr (.inl (bn_f U)))), (q3, .inr (2, [.ref w3, .int xo])), (w3, .inl (cJ, 26, .inr (.inl (bn_f O)))), (hd, .inr (0, [.ref wd, .int n, .long D, .int T])), (wd, .inl (cC, 19, .inl (g))), (ht, .inr (3, [.ref wt, .int tl])), (wt, .inl (cC, 64, .inl (f)))] H := hP
  have hD : va_D A [(hB, .inr (4, [.ref hf, .ref hd, .ref ht, .int (iZ lo), .int (iZ hi9), .int kd, .int mi])), (hf, .inr (1, [.ref q1, .ref q2, .ref q3])), (q1, .inr (2, [.ref w1, .int xu])), (w1, .inl (cJ, 26, .inr (.inl (bn_f X)))), (q2, .inr (2, [.ref w2, .int xa])), (w2, .inl (cJ, 26, .inr (.inl (bn_f U)))), (q3, .inr (2, [.ref w3, .int xo])), (w3, .inl (cJ, 26, .inr (.inl (bn_f O)))), (hd, .inr (0, [.ref wd, .int n, .long D, .int T])), (wd, .inl (cC, 19, .inl (g))), (ht, .inr (3, [.ref wt, .int tl])), (wt, .inl (cC, 64, .inl (f)))] := hD
  rw [← ee] at hw5
  subst hw5
  refine lv_istore (lv' := [(4, .int (nI e9)), (0, .ref hB), (1, .ref ((ad i))), (2, .long (lN b))]) hx hb d_Bt_take_5 hl (by decide) rfl (fun ls hl => ?_)
  refine lv_aload_n hx hb d_Bt_take_7 rfl (lv_at hl 2 rfl) ?_
  refine lv_lload_n hx hb d_Bt_take_8 rfl (lv_at hl 3 rfl) ?_
  refine pw_calll (wc := []) (wr := [(hB, .inr (4, [.ref hf, .ref hd, .ref ht, .int (iZ lo), .int (iZ hi9), .int kd, .int mi])), (hf, .inr (1, [.ref q1, .ref q2, .ref q3])), (q1, .inr (2, [.ref w1, .int xu])), (w1, .inl (cJ, 26, .inr (.inl (bn_f X)))), (q2, .inr (2, [.ref w2, .int xa])), (w2, .inl (cJ, 26, .inr (.inl (bn_f U)))), (q3, .inr (2, [.ref w3, .int xo])), (w3, .inl (cJ, 26, .inr (.inl (bn_f O)))), (hd, .inr (0, [.ref wd, .int n, .long D, .int T])), (wd, .inl (cC, 19, .inl (g))), (ht, .inr (3, [.ref wt, .int tl])), (wt, .inl (cC, 64, .inl (f)))]) [] [0, 1, 2, 3, 4, 5, 6, 7, 8, 9, 10, 11] rfl rfl rfl (by decide) (by decide) (by decide) hP hD hS hA (fun hPc hDc hF => va_runV (As := [.long (lN b)]) (rest := []) ⟨hx, hb, hml, hown, hts⟩ (c_La_fractionOf l dC dI H.size ad adK adV i b hi hbb) (cwV 1 hts (gw_V (gw_self cod_La_fractionOf) ml_Bt_96 im_La_fractionOf sel_La_fractionOf ini_La) rfl rfl rfl (by decide +kernel) ⟨Nat.le_of_ble_eq_true rfl, Nat.le_of_ble_eq_true rfl⟩) (pw_preV (cb_E_ok ad adK adV) hE hS hF hPc hDc (hK.sub [] rfl) (va_recvE hE.2.1 hi hS)) rfl rfl hl.1 rfl (lv_room (Nat.le_of_ble_eq_true rfl)) d_Bt_take_9 ⟨Nat.le_of_ble_eq_true rfl, Nat.le_of_ble_eq_true rfl⟩) (fun r5 u5 H locs hw5 hK1 hP hD hS => ?_)
  have hP : va_P (dC, dI) cls [(hB, .inr (4, [.ref hf, .ref hd, .ref ht, .int (iZ lo), .int (iZ hi9), .int kd, .int mi])), (hf, .inr (1, [.ref q1, .ref q2, .ref q3])), (q1, .inr (2, [.ref w1, .int xu])), (w1, .inl (cJ, 26, .inr (.inl (bn_f X)))), (q2, .inr (2, [.ref w2, .int xa])), (w2, .inl (cJ, 26, .inr (.inl (bn_f U)))), (q3, .inr (2, [.ref w3, .int xo])), (w3, .inl (cJ, 26, .inr (.inl (bn_f O)))), (hd, .inr (0, [.ref wd, .int n, .long D, .int T])), (wd, .inl (cC, 19, .inl (g))), (ht, .inr (3, [.ref wt, .int tl])), (wt, .inl (cC, 64, .inl (f)))] H := hP
  have hD : va_D A [(hB, .inr (4, [.ref hf, .ref hd, .ref ht, .int (iZ lo), .int (iZ hi9), .int kd, .int mi])), (hf, .inr (1, [.ref q1, .ref q2, .ref q3])), (q1, .inr (2, [.ref w1, .int xu])), (w1, .inl (cJ, 26, .inr (.inl (bn_f X)))), (q2, .inr (2, [.ref w2, .int xa])), (w2, .inl (cJ, 26, .inr (.inl (bn_f U)))), (q3, .inr (2, [.ref w3, .int xo])), (w3, .inl (cJ, 26, .inr (.inl (bn_f O)))), (hd, .inr (0, [.ref wd, .int n, .long D, .int T])), (wd, .inl (cC, 19, .inl (g))), (ht, .inr (3, [.ref wt, .int tl])), (wt, .inl (cC, 64, .inl (f)))] := hD
  rw [← ef] at hw5
  subst hw5
  refine lv_lstore (lv' := [(5, .long (lN fr)), (4, .int (nI e9)), (0, .ref hB), (1, .ref ((ad i))), (2, .long (lN b))]) hx hb d_Bt_take_12 hl (by decide) rfl (fun ls hl => ?_)
  refine lv_aload_n hx hb d_Bt_take_14 rfl (lv_at hl 2 rfl) ?_
  refine lv_aload_n hx hb d_Bt_take_15 rfl (lv_at hl 3 rfl) ?_
  refine lv_iload hx hb d_Bt_take_16 (lv_at hl 1 rfl) ?_
  refine lv_lload hx hb d_Bt_take_18 (lv_at hl 0 rfl) ?_
  refine pw_calli (wc := []) (wr := [(hB, .inr (4, [.ref hf, .ref hd, .ref ht, .int (iZ lo), .int (iZ hi9), .int kd, .int mi])), (hf, .inr (1, [.ref q1, .ref q2, .ref q3])), (q1, .inr (2, [.ref w1, .int xu])), (w1, .inl (cJ, 26, .inr (.inl (bn_f X)))), (q2, .inr (2, [.ref w2, .int xa])), (w2, .inl (cJ, 26, .inr (.inl (bn_f U)))), (q3, .inr (2, [.ref w3, .int xo])), (w3, .inl (cJ, 26, .inr (.inl (bn_f O)))), (hd, .inr (0, [.ref wd, .int n, .long D, .int T])), (wd, .inl (cC, 19, .inl (g))), (ht, .inr (3, [.ref wt, .int tl])), (wt, .inl (cC, 64, .inl (f)))]) [] [0, 1, 2, 3, 4, 5, 6, 7, 8, 9, 10, 11] rfl rfl rfl (by decide) (by decide) (by decide) hP hD hS hA (fun hPc hDc hF => va_runS (As := [.ref ((ad i)), .int (nI e9), .long (lN fr)]) (rest := [.ref hB]) ⟨hx, hb, hml, hown, hts⟩ (c_Bt_kindOf l dC dI H.size ad adK adV i e9 fr hi (by omega) (by omega)) (va_cwS 3 hts (gw_S (gw_self cod_Bt_kindOf) ml_Bt_100 sta_Bt_kindOf ini_Bt) rfl rfl rfl (by decide +kernel) ⟨Nat.le_of_ble_eq_true rfl, Nat.le_of_ble_eq_true rfl⟩) (pw_preS (cb_E_ok ad adK adV) hE hS hF hPc hDc (hK.sub [] rfl)) rfl rfl hl.1 rfl (lv_room (Nat.le_of_ble_eq_true rfl)) d_Bt_take_20 ⟨Nat.le_of_ble_eq_true rfl, Nat.le_of_ble_eq_true rfl⟩) (fun r5 u5 H locs hw5 hK1 hP hD hS => ?_)
  have hP : va_P (dC, dI) cls [(hB, .inr (4, [.ref hf, .ref hd, .ref ht, .int (iZ lo), .int (iZ hi9), .int kd, .int mi])), (hf, .inr (1, [.ref q1, .ref q2, .ref q3])), (q1, .inr (2, [.ref w1, .int xu])), (w1, .inl (cJ, 26, .inr (.inl (bn_f X)))), (q2, .inr (2, [.ref w2, .int xa])), (w2, .inl (cJ, 26, .inr (.inl (bn_f U)))), (q3, .inr (2, [.ref w3, .int xo])), (w3, .inl (cJ, 26, .inr (.inl (bn_f O)))), (hd, .inr (0, [.ref wd, .int n, .long D, .int T])), (wd, .inl (cC, 19, .inl (g))), (ht, .inr (3, [.ref wt, .int tl])), (wt, .inl (cC, 64, .inl (f)))] H := hP
  have hD : va_D A [(hB, .inr (4, [.ref hf, .ref hd, .ref ht, .int (iZ lo), .int (iZ hi9), .int kd, .int mi])), (hf, .inr (1, [.ref q1, .ref q2, .ref q3])), (q1, .inr (2, [.ref w1, .int xu])), (w1, .inl (cJ, 26, .inr (.inl (bn_f X)))), (q2, .inr (2, [.ref w2, .int xa])), (w2, .inl (cJ, 26, .inr (.inl (bn_f U)))), (q3, .inr (2, [.ref w3, .int xo])), (w3, .inl (cJ, 26, .inr (.inl (bn_f O)))), (hd, .inr (0, [.ref wd, .int n, .long D, .int T])), (wd, .inl (cC, 19, .inl (g))), (ht, .inr (3, [.ref wt, .int tl])), (wt, .inl (cC, 64, .inl (f)))] := hD
  rw [← ek] at hw5
  subst hw5
  refine va_put (D := (dC, dI)) (ci := 4) (v := .int (nI k9)) (ty := .int) (C := R_Bt) (T := F_Bt) (N := 7) hx hb hts i_Bt t_Bt t_Bt_ok n_Bt hown hK hP hD hS 0 rfl rfl 5 (by decide) (hts _ fl_Bt_37) (fun _ h9 => h9) rfl (by decide +kernel) rfl rfl (Nat.le_of_ble_eq_true rfl) d_Bt_take_23 (fun H locs hP hD hS => ?_)
  have hP : va_P (dC, dI) cls [(hB, .inr (4, [.ref hf, .ref hd, .ref ht, .int (iZ lo), .int (iZ hi9), .int (nI k9), .int mi])), (hf, .inr (1, [.ref q1, .ref q2, .ref q3])), (q1, .inr (2, [.ref w1, .int xu])), (w1, .inl (cJ, 26, .inr (.inl (bn_f X)))), (q2, .inr (2, [.ref w2, .int xa])), (w2, .inl (cJ, 26, .inr (.inl (bn_f U)))), (q3, .inr (2, [.ref w3, .int xo])), (w3, .inl (cJ, 26, .inr (.inl (bn_f O)))), (hd, .inr (0, [.ref wd, .int n, .long D, .int T])), (wd, .inl (cC, 19, .inl (g))), (ht, .inr (3, [.ref wt, .int tl])), (wt, .inl (cC, 64, .inl (f)))] H := hP
  have hD : va_D A [(hB, .inr (4, [.ref hf, .ref hd, .ref ht, .int (iZ lo), .int (iZ hi9), .int (nI k9), .int mi])), (hf, .inr (1, [.ref q1, .ref q2, .ref q3])), (q1, .inr (2, [.ref w1, .int xu])), (w1, .inl (cJ, 26, .inr (.inl (bn_f X)))), (q2, .inr (2, [.ref w2, .int xa])), (w2, .inl (cJ, 26, .inr (.inl (bn_f U)))), (q3, .inr (2, [.ref w3, .int xo])), (w3, .inl (cJ, 26, .inr (.inl (bn_f O)))), (hd, .inr (0, [.ref wd, .int n, .long D, .int T])), (wd, .inl (cC, 19, .inl (g))), (ht, .inr (3, [.ref wt, .int tl])), (wt, .inl (cC, 64, .inl (f)))] := hD
  refine lv_aload_n hx hb d_Bt_take_26 rfl (lv_at hl 2 rfl) ?_
  refine lv_aload_n hx hb d_Bt_take_27 rfl (lv_at hl 3 rfl) ?_
  refine lv_lload_n hx hb d_Bt_take_28 rfl (lv_at hl 4 rfl) ?_
  refine pw_calli (wc := []) (wr := [(hB, .inr (4, [.ref hf, .ref hd, .ref ht, .int (iZ lo), .int (iZ hi9), .int (nI k9), .int mi])), (hf, .inr (1, [.ref q1, .ref q2, .ref q3])), (q1, .inr (2, [.ref w1, .int xu])), (w1, .inl (cJ, 26, .inr (.inl (bn_f X)))), (q2, .inr (2, [.ref w2, .int xa])), (w2, .inl (cJ, 26, .inr (.inl (bn_f U)))), (q3, .inr (2, [.ref w3, .int xo])), (w3, .inl (cJ, 26, .inr (.inl (bn_f O)))), (hd, .inr (0, [.ref wd, .int n, .long D, .int T])), (wd, .inl (cC, 19, .inl (g))), (ht, .inr (3, [.ref wt, .int tl])), (wt, .inl (cC, 64, .inl (f)))]) [] [0, 1, 2, 3, 4, 5, 6, 7, 8, 9, 10, 11] rfl rfl rfl (by decide) (by decide) (by decide) hP hD hS hA (fun hPc hDc hF => va_runV (As := [.long (lN b)]) (rest := [.ref hB]) ⟨hx, hb, hml, hown, hts⟩ (c_La_signOf l dC dI H.size ad adK adV i b hi hbb) (cwV 1 hts (gw_V (gw_self cod_La_signOf) ml_Bt_104 im_La_signOf sel_La_signOf ini_La) rfl rfl rfl (by decide +kernel) ⟨Nat.le_of_ble_eq_true rfl, Nat.le_of_ble_eq_true rfl⟩) (pw_preV (cb_E_ok ad adK adV) hE hS hF hPc hDc (hK.sub [] rfl) (va_recvE hE.2.1 hi hS)) rfl rfl hl.1 rfl (lv_room (Nat.le_of_ble_eq_true rfl)) d_Bt_take_29 ⟨Nat.le_of_ble_eq_true rfl, Nat.le_of_ble_eq_true rfl⟩) (fun r5 u5 H locs hw5 hK1 hP hD hS => ?_)
  have hP : va_P (dC, dI) cls [(hB, .inr (4, [.ref hf, .ref hd, .ref ht, .int (iZ lo), .int (iZ hi9), .int (nI k9), .int mi])), (hf, .inr (1, [.ref q1, .ref q2, .ref q3])), (q1, .inr (2, [.ref w1, .int xu])), (w1, .inl (cJ, 26, .inr (.inl (bn_f X)))), (q2, .inr (2, [.ref w2, .int xa])), (w2, .inl (cJ, 26, .inr (.inl (bn_f U)))), (q3, .inr (2, [.ref w3, .int xo])), (w3, .inl (cJ, 26, .inr (.inl (bn_f O)))), (hd, .inr (0, [.ref wd, .int n, .long D, .int T])), (wd, .inl (cC, 19, .inl (g))), (ht, .inr (3, [.ref wt, .int tl])), (wt, .inl (cC, 64, .inl (f)))] H := hP
  have hD : va_D A [(hB, .inr (4, [.ref hf, .ref hd, .ref ht, .int (iZ lo), .int (iZ hi9), .int (nI k9), .int mi])), (hf, .inr (1, [.ref q1, .ref q2, .ref q3])), (q1, .inr (2, [.ref w1, .int xu])), (w1, .inl (cJ, 26, .inr (.inl (bn_f X)))), (q2, .inr (2, [.ref w2, .int xa])), (w2, .inl (cJ, 26, .inr (.inl (bn_f U)))), (q3, .inr (2, [.ref w3, .int xo])), (w3, .inl (cJ, 26, .inr (.inl (bn_f O)))), (hd, .inr (0, [.ref wd, .int n, .long D, .int T])), (wd, .inl (cC, 19, .inl (g))), (ht, .inr (3, [.ref wt, .int tl])), (wt, .inl (cC, 64, .inl (f)))] := hD
  rw [← em] at hw5
  subst hw5
  refine va_put (D := (dC, dI)) (ci := 4) (v := .int (nI m9)) (ty := .boolean) (C := R_Bt) (T := F_Bt) (N := 7) hx hb hts i_Bt t_Bt t_Bt_ok n_Bt hown hK hP hD hS 0 rfl rfl 6 (by decide) (hts _ fl_Bt_40) (fun _ h9 => h9) rfl (by decide +kernel) (nI_bz hmi) (nI_bf hmi) (Nat.le_of_ble_eq_true rfl) d_Bt_take_32 (fun H locs hP hD hS => ?_)
  have hP : va_P (dC, dI) cls [(hB, .inr (4, [.ref hf, .ref hd, .ref ht, .int (iZ lo), .int (iZ hi9), .int (nI k9), .int (nI m9)])), (hf, .inr (1, [.ref q1, .ref q2, .ref q3])), (q1, .inr (2, [.ref w1, .int xu])), (w1, .inl (cJ, 26, .inr (.inl (bn_f X)))), (q2, .inr (2, [.ref w2, .int xa])), (w2, .inl (cJ, 26, .inr (.inl (bn_f U)))), (q3, .inr (2, [.ref w3, .int xo])), (w3, .inl (cJ, 26, .inr (.inl (bn_f O)))), (hd, .inr (0, [.ref wd, .int n, .long D, .int T])), (wd, .inl (cC, 19, .inl (g))), (ht, .inr (3, [.ref wt, .int tl])), (wt, .inl (cC, 64, .inl (f)))] H := hP
  have hD : va_D A [(hB, .inr (4, [.ref hf, .ref hd, .ref ht, .int (iZ lo), .int (iZ hi9), .int (nI k9), .int (nI m9)])), (hf, .inr (1, [.ref q1, .ref q2, .ref q3])), (q1, .inr (2, [.ref w1, .int xu])), (w1, .inl (cJ, 26, .inr (.inl (bn_f X)))), (q2, .inr (2, [.ref w2, .int xa])), (w2, .inl (cJ, 26, .inr (.inl (bn_f U)))), (q3, .inr (2, [.ref w3, .int xo])), (w3, .inl (cJ, 26, .inr (.inl (bn_f O)))), (hd, .inr (0, [.ref wd, .int n, .long D, .int T])), (wd, .inl (cC, 19, .inl (g))), (ht, .inr (3, [.ref wt, .int tl])), (wt, .inl (cC, 64, .inl (f)))] := hD
  refine lv_aload_n hx hb d_Bt_take_35 rfl (lv_at hl 2 rfl) ?_
  refine va_get (D := (dC, dI)) (ci := 4) (v := .int (nI k9)) (C := R_Bt) (T := F_Bt) (N := 7) hx hb hts i_Bt hown hK hP 0 rfl rfl 5 (by decide) (hts _ fl_Bt_37) (fun _ h9 => h9) rfl d_Bt_take_36 ?_
  refine lv_iconst (v := 4) hx hb d_Bt_take_39 (by decide) ?_
  refine lv_icmp_ne (tgt := 106) hx hb d_Bt_take_40 (by decide) (fun hc => ?_) (fun hc => ?_)
  · have hk4 : k9 ≠ 4 := fun q => hc (by rw [q]; rfl)
    refine lv_aload_n hx hb d_Bt_take_106 rfl (lv_at hl 2 rfl) ?_
    refine va_get (D := (dC, dI)) (ci := 4) (v := .ref hd) (C := R_Bt) (T := F_Bt) (N := 7) hx hb hts i_Bt hown hK hP 0 rfl rfl 1 (by decide) (hts _ fl_Bt_19) (fun _ h9 => h9) rfl d_Bt_take_107 ?_
    refine pw_callv (wc := [(hd, .inr (0, [.ref wd, .int n, .long D, .int T])), (wd, .inl (cC, 19, .inl (g)))]) (wr := [(hB, .inr (4, [.ref hf, .ref hd, .ref ht, .int (iZ lo), .int (iZ hi9), .int (nI k9), .int (nI m9)])), (hf, .inr (1, [.ref q1, .ref q2, .ref q3])), (q1, .inr (2, [.ref w1, .int xu])), (w1, .inl (cJ, 26, .inr (.inl (bn_f X)))), (q2, .inr (2, [.ref w2, .int xa])), (w2, .inl (cJ, 26, .inr (.inl (bn_f U)))), (q3, .inr (2, [.ref w3, .int xo])), (w3, .inl (cJ, 26, .inr (.inl (bn_f O)))), (ht, .inr (3, [.ref wt, .int tl])), (wt, .inl (cC, 64, .inl (f)))]) [8, 9] [0, 1, 2, 3, 4, 5, 6, 7, 10, 11] rfl rfl rfl (by decide) (by decide) (by decide) hP hD hS hA (fun hPc hDc hF => va_runV (As := []) (rest := []) ⟨hx, hb, hml, hown, hts⟩ (c_De_clear l dC dI H.size hd wd cC g n T D) (cwV 0 hts (gw_V (gw_self cod_De_clear) ml_Bt_119 im_De_clear sel_De_clear ini_De) rfl rfl rfl (by decide +kernel) ⟨Nat.le_of_ble_eq_true rfl, Nat.le_of_ble_eq_true rfl⟩) (pw_preV pw_0_ok (trivial : pw_0 A s s.heap) hS hF hPc hDc (hK.sub [1] rfl) (va_recv hK hPc (ci := 0) (q0 := 0) rfl rfl)) rfl rfl hl.1 rfl (lv_room (Nat.le_of_ble_eq_true rfl)) d_Bt_take_110 ⟨Nat.le_of_ble_eq_true rfl, Nat.le_of_ble_eq_true rfl⟩) (fun u6 H locs hw6 hK1 hP hD hS => ?_)
    have hP : va_P (dC, dI) cls [(hB, .inr (4, [.ref hf, .ref hd, .ref ht, .int (iZ lo), .int (iZ hi9), .int (nI k9), .int (nI m9)])), (hf, .inr (1, [.ref q1, .ref q2, .ref q3])), (q1, .inr (2, [.ref w1, .int xu])), (w1, .inl (cJ, 26, .inr (.inl (bn_f X)))), (q2, .inr (2, [.ref w2, .int xa])), (w2, .inl (cJ, 26, .inr (.inl (bn_f U)))), (q3, .inr (2, [.ref w3, .int xo])), (w3, .inl (cJ, 26, .inr (.inl (bn_f O)))), (hd, .inr (0, [.ref wd, .int (nI 0), .long (lN 0), .int (iZ 0)])), (wd, .inl (cC, 19, .inl (g))), (ht, .inr (3, [.ref wt, .int tl])), (wt, .inl (cC, 64, .inl (f)))] H := hP.sub [0, 1, 2, 3, 4, 5, 6, 7, 10, 11, 8, 9] rfl
    have hD : va_D A [(hB, .inr (4, [.ref hf, .ref hd, .ref ht, .int (iZ lo), .int (iZ hi9), .int (nI k9), .int (nI m9)])), (hf, .inr (1, [.ref q1, .ref q2, .ref q3])), (q1, .inr (2, [.ref w1, .int xu])), (w1, .inl (cJ, 26, .inr (.inl (bn_f X)))), (q2, .inr (2, [.ref w2, .int xa])), (w2, .inl (cJ, 26, .inr (.inl (bn_f U)))), (q3, .inr (2, [.ref w3, .int xo])), (w3, .inl (cJ, 26, .inr (.inl (bn_f O)))), (hd, .inr (0, [.ref wd, .int (nI 0), .long (lN 0), .int (iZ 0)])), (wd, .inl (cC, 19, .inl (g))), (ht, .inr (3, [.ref wt, .int tl])), (wt, .inl (cC, 64, .inl (f)))] := hD.sub [0, 1, 2, 3, 4, 5, 6, 7, 10, 11, 8, 9] (by decide) rfl
    exact k113 X U O xu xa xo 0 0 0 g H _ ls ⟨hX, hU, hO⟩ ⟨fun q => absurd q hk4, fun _ => ⟨rfl, rfl⟩⟩ ⟨by decide, fun j h => absurd h (Nat.not_lt_zero j)⟩ (fun j h => absurd h (Nat.not_lt_zero j)) (by decide) hP hD hS (lv_sub hl [2, 3, 4] rfl)
  · have hk4 : k9 = 4 := (nI_eq (a := k9) (b := 4) (by omega) (by omega)).mp hc
    refine lv_iload hx hb d_Bt_take_43 (lv_at hl 1 rfl) ?_
    refine lv_if_ne (tgt := 53) hx hb d_Bt_take_45 (by decide) (fun hc2 => ?_) (fun hc2 => ?_)
    · have he0 : e9 ≠ 0 := fun q => hc2 (by rw [q]; rfl)
      refine lv_lload hx hb d_Bt_take_53 (lv_at hl 0 rfl) ?_
      refine lv_aload_n hx hb d_Bt_take_55 rfl (lv_at hl 3 rfl) ?_
      refine pw_calll (wc := []) (wr := [(hB, .inr (4, [.ref hf, .ref hd, .ref ht, .int (iZ lo), .int (iZ hi9), .int (nI k9), .int (nI m9)])), (hf, .inr (1, [.ref q1, .ref q2, .ref q3])), (q1, .inr (2, [.ref w1, .int xu])), (w1, .inl (cJ, 26, .inr (.inl (bn_f X)))), (q2, .inr (2, [.ref w2, .int xa])), (w2, .inl (cJ, 26, .inr (.inl (bn_f U)))), (q3, .inr (2, [.ref w3, .int xo])), (w3, .inl (cJ, 26, .inr (.inl (bn_f O)))), (hd, .inr (0, [.ref wd, .int n, .long D, .int T])), (wd, .inl (cC, 19, .inl (g))), (ht, .inr (3, [.ref wt, .int tl])), (wt, .inl (cC, 64, .inl (f)))]) [] [0, 1, 2, 3, 4, 5, 6, 7, 8, 9, 10, 11] rfl rfl rfl (by decide) (by decide) (by decide) hP hD hS hA (fun hPc hDc hF => va_runV (As := []) (rest := [.long (lN fr)]) ⟨hx, hb, hml, hown, hts⟩ (c_La_hiddenOne l dC dI H.size ad adK adV i hi) (cwV 0 hts (gw_V (gw_self cod_La_hiddenOne) ml_Bt_108 im_La_hiddenOne sel_La_hiddenOne ini_La) rfl rfl rfl (by decide +kernel) ⟨Nat.le_of_ble_eq_true rfl, Nat.le_of_ble_eq_true rfl⟩) (pw_preV (cb_E_ok ad adK adV) hE hS hF hPc hDc (hK.sub [] rfl) (va_recvE hE.2.1 hi hS)) rfl rfl hl.1 rfl (lv_room (Nat.le_of_ble_eq_true rfl)) d_Bt_take_56 ⟨Nat.le_of_ble_eq_true rfl, Nat.le_of_ble_eq_true rfl⟩) (fun r7 u7 H locs hw7 hK1 hP hD hS => ?_)
      have hP : va_P (dC, dI) cls [(hB, .inr (4, [.ref hf, .ref hd, .ref ht, .int (iZ lo), .int (iZ hi9), .int (nI k9), .int (nI m9)])), (hf, .inr (1, [.ref q1, .ref q2, .ref q3])), (q1, .inr (2, [.ref w1, .int xu])), (w1, .inl (cJ, 26, .inr (.inl (bn_f X)))), (q2, .inr (2, [.ref w2, .int xa])), (w2, .inl (cJ, 26, .inr (.inl (bn_f U)))), (q3, .inr (2, [.ref w3, .int xo])), (w3, .inl (cJ, 26, .inr (.inl (bn_f O)))), (hd, .inr (0, [.ref wd, .int n, .long D, .int T])), (wd, .inl (cC, 19, .inl (g))), (ht, .inr (3, [.ref wt, .int tl])), (wt, .inl (cC, 64, .inl (f)))] H := hP
      have hD : va_D A [(hB, .inr (4, [.ref hf, .ref hd, .ref ht, .int (iZ lo), .int (iZ hi9), .int (nI k9), .int (nI m9)])), (hf, .inr (1, [.ref q1, .ref q2, .ref q3])), (q1, .inr (2, [.ref w1, .int xu])), (w1, .inl (cJ, 26, .inr (.inl (bn_f X)))), (q2, .inr (2, [.ref w2, .int xa])), (w2, .inl (cJ, 26, .inr (.inl (bn_f U)))), (q3, .inr (2, [.ref w3, .int xo])), (w3, .inl (cJ, 26, .inr (.inl (bn_f O)))), (hd, .inr (0, [.ref wd, .int n, .long D, .int T])), (wd, .inl (cC, 19, .inl (g))), (ht, .inr (3, [.ref wt, .int tl])), (wt, .inl (cC, 64, .inl (f)))] := hD
      subst hw7
      refine lv_ladd hx hb d_Bt_take_59 ?_
      refine lv_topl (fun x_7 e_8 => ?_)
      obtain rfl : x_7 = lN (sgf i e9 fr) := e_8.trans ((lN_add _ _).trans (by rw [sgf, if_neg he0]))
      exact k60 H _ ls hk4 hP hD hS hl
    · have he0 : e9 = 0 := (nI_eq (a := e9) (b := 0) (by omega) (by omega)).mp hc2
      refine lv_lload hx hb d_Bt_take_48 (lv_at hl 0 rfl) ?_
      refine lv_topl (fun x_9 e_10 => ?_)
      obtain rfl : x_9 = lN (sgf i e9 fr) := e_10.trans (by rw [sgf, if_pos he0])
      refine lv_goto (tgt := 60) hx hb d_Bt_take_50 (by decide) ?_
      exact k60 H _ ls hk4 hP hD hS hl
end
