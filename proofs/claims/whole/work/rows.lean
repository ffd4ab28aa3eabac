section
-- ===== PART A: goes FIRST, ahead of the names: the tables' words, and 'selects' of the private methods out of them =====
/-- a private method of a class that the tables say can be made, by its rows of tables_1 -/
def lw_okq (q : MethodName × Nat) : Prop := (q.1.cls ≠ "java/lang/invoke/MethodHandle" ∧ q.1.cls ≠ "java/lang/invoke/VarHandle") ∧ Cond.instantiable q.1.cls q.2 ∈ tables_1 ∧ Cond.privateMethod q.1 ∈ tables_1 ∧ Cond.instanceMethod q.1 ∈ tables_1
theorem lw_p0 : lw_okq (⟨"SoftMaps", "probe", "(IIZ)I"⟩, 8) := ⟨⟨by decide +kernel, by decide +kernel⟩, List.mem_of_getElem? (i := 5) (by decide +kernel), List.mem_of_getElem? (i := 81) (by decide +kernel), List.mem_of_getElem? (i := 82) (by decide +kernel)⟩
theorem lw_p1 : lw_okq (⟨"SoftMaps", "locate", "(IIZ)I"⟩, 8) := ⟨⟨by decide +kernel, by decide +kernel⟩, List.mem_of_getElem? (i := 5) (by decide +kernel), List.mem_of_getElem? (i := 85) (by decide +kernel), List.mem_of_getElem? (i := 86) (by decide +kernel)⟩
theorem lw_p2 : lw_okq (⟨"SoftMaps", "isMapped", "(I)Z"⟩, 8) := ⟨⟨by decide +kernel, by decide +kernel⟩, List.mem_of_getElem? (i := 5) (by decide +kernel), List.mem_of_getElem? (i := 89) (by decide +kernel), List.mem_of_getElem? (i := 90) (by decide +kernel)⟩
theorem lw_p3 : lw_okq (⟨"SoftMaps", "neededRight", "(I)I"⟩, 8) := ⟨⟨by decide +kernel, by decide +kernel⟩, List.mem_of_getElem? (i := 5) (by decide +kernel), List.mem_of_getElem? (i := 109) (by decide +kernel), List.mem_of_getElem? (i := 110) (by decide +kernel)⟩
theorem lw_p4 : lw_okq (⟨"SoftMaps", "countMatches", "(Z)I"⟩, 8) := ⟨⟨by decide +kernel, by decide +kernel⟩, List.mem_of_getElem? (i := 5) (by decide +kernel), List.mem_of_getElem? (i := 150) (by decide +kernel), List.mem_of_getElem? (i := 151) (by decide +kernel)⟩
theorem lw_p5 : lw_okq (⟨"SoftMapsModel", "lay", "(II)V"⟩, 10) := ⟨⟨by decide +kernel, by decide +kernel⟩, List.mem_of_getElem? (i := 166) (by decide +kernel), List.mem_of_getElem? (i := 211) (by decide +kernel), List.mem_of_getElem? (i := 212) (by decide +kernel)⟩
theorem lw_p6 : lw_okq (⟨"SoftMapsModel", "probe", "(IIZ)Z"⟩, 10) := ⟨⟨by decide +kernel, by decide +kernel⟩, List.mem_of_getElem? (i := 166) (by decide +kernel), List.mem_of_getElem? (i := 223) (by decide +kernel), List.mem_of_getElem? (i := 224) (by decide +kernel)⟩
theorem lw_p7 : lw_okq (⟨"SoftMapsModel", "wrong", "(IIZ)I"⟩, 10) := ⟨⟨by decide +kernel, by decide +kernel⟩, List.mem_of_getElem? (i := 166) (by decide +kernel), List.mem_of_getElem? (i := 227) (by decide +kernel), List.mem_of_getElem? (i := 228) (by decide +kernel)⟩
theorem lw_p8 : lw_okq (⟨"SoftMapsModel", "mode", "(I)Z"⟩, 10) := ⟨⟨by decide +kernel, by decide +kernel⟩, List.mem_of_getElem? (i := 166) (by decide +kernel), List.mem_of_getElem? (i := 232) (by decide +kernel), List.mem_of_getElem? (i := 233) (by decide +kernel)⟩
theorem lw_p9 : lw_okq (⟨"SoftMapsModel", "wordIn", "(I)I"⟩, 10) := ⟨⟨by decide +kernel, by decide +kernel⟩, List.mem_of_getElem? (i := 166) (by decide +kernel), List.mem_of_getElem? (i := 242) (by decide +kernel), List.mem_of_getElem? (i := 243) (by decide +kernel)⟩
theorem lw_p10 : lw_okq (⟨"SoftMapsModel", "matched", "(I)I"⟩, 10) := ⟨⟨by decide +kernel, by decide +kernel⟩, List.mem_of_getElem? (i := 166) (by decide +kernel), List.mem_of_getElem? (i := 266) (by decide +kernel), List.mem_of_getElem? (i := 267) (by decide +kernel)⟩
def lw_privs_1 : List (MethodName × Nat) := [(⟨"SoftMaps", "probe", "(IIZ)I"⟩, 8), (⟨"SoftMaps", "locate", "(IIZ)I"⟩, 8), (⟨"SoftMaps", "isMapped", "(I)Z"⟩, 8), (⟨"SoftMaps", "neededRight", "(I)I"⟩, 8), (⟨"SoftMaps", "countMatches", "(Z)I"⟩, 8), (⟨"SoftMapsModel", "lay", "(II)V"⟩, 10), (⟨"SoftMapsModel", "probe", "(IIZ)Z"⟩, 10), (⟨"SoftMapsModel", "wrong", "(IIZ)I"⟩, 10), (⟨"SoftMapsModel", "mode", "(I)Z"⟩, 10), (⟨"SoftMapsModel", "wordIn", "(I)I"⟩, 10), (⟨"SoftMapsModel", "matched", "(I)I"⟩, 10)]
theorem lw_r1 : ∀ q ∈ lw_privs_1, lw_okq q := List.forall_mem_cons.mpr ⟨lw_p0, List.forall_mem_cons.mpr ⟨lw_p1, List.forall_mem_cons.mpr ⟨lw_p2, List.forall_mem_cons.mpr ⟨lw_p3, List.forall_mem_cons.mpr ⟨lw_p4, List.forall_mem_cons.mpr ⟨lw_p5, List.forall_mem_cons.mpr ⟨lw_p6, List.forall_mem_cons.mpr ⟨lw_p7, List.forall_mem_cons.mpr ⟨lw_p8, List.forall_mem_cons.mpr ⟨lw_p9, List.forall_mem_cons.mpr ⟨lw_p10, fun _ h => absurd h List.not_mem_nil⟩⟩⟩⟩⟩⟩⟩⟩⟩⟩⟩
def lw_privs : List (MethodName × Nat) := lw_privs_1
def lw_tbl : List Cond := k2_sels lw_privs ++ tables_1
theorem lw_privs_ok : ∀ q ∈ lw_privs, lw_okq q := lw_r1
end
section
/-! ===== BEGIN words of one list among another's, by their places ===== -/
theorem goodIn_r {big : List Cond} (ws : List Cond) (ps : List Nat) (hp : ws = ps.filterMap (fun i => big[i]?)) (h : ws.all goodWord = true) : GoodIn big ws := by
  intro w hw
  have h1 := List.all_eq_true.mp h w hw
  rw [hp] at hw
  obtain ⟨i, -, hi⟩ := List.mem_filterMap.mp hw
  have hm : w ∈ big := by first | exact List.mem_of_getElem? hi | exact List.getElem?_mem hi
  exact ⟨hm, good_of_word h1⟩
theorem goodIn_app {big a b : List Cond} (ha : GoodIn big a) (hb : GoodIn big b) : GoodIn big (a ++ b) := fun w h => (List.mem_append.mp h).elim (ha w) (hb w)
theorem goodIn_ca {big a b : List Cond} {c : Cond} (ha : GoodIn big (c :: a)) (hb : GoodIn big b) : GoodIn big (c :: (a ++ b)) := fun w h => (List.mem_cons.mp h).elim (fun e => ha w (List.mem_cons.mpr (Or.inl e))) (fun h => (List.mem_append.mp h).elim (fun h => ha w (List.mem_cons.mpr (Or.inr h))) (hb w))
theorem goodIn_sub {big ws : List Cond} (hm : ∀ w ∈ ws, w ∈ big) (h : ws.all goodWord = true) : GoodIn big ws := fun w hw => ⟨hm w hw, good_of_word (List.all_eq_true.mp h w hw)⟩
/-! ===== END ===== -/

/-! ===== BEGIN printed: names, fields, word lists, decode rows ===== -/
def RX0 : String := "SoftMaps$Memory"
def TX0 : u_T := fun k => match k with
  | _ => ("SoftMaps$Memory", "pages", "[[I", true)
def tyX0 : Nat → FieldType := fun k => match k with
  | _ => .array (.array .int)
abbrev wsX00 : List Cond := u_ws RX0 TX0 1
theorem nmX0 : ∀ a, a < 1 → ∀ b, b < 1 → a ≠ b → (TX0 a).2.1 ≠ (TX0 b).2.1 := by decide +kernel
theorem tyX0_ok : ∀ k, k < 1 → parseFieldDescriptor (TX0 k).2.2.1 = some (tyX0 k) := by decide +kernel
abbrev cX0_init : ByteArray := prog_2_method_1_code
def yX0_init : MethodName := ⟨RX0, "<init>", "()V"⟩
abbrev cX0_wordAt : ByteArray := prog_2_method_2_code
def yX0_wordAt : MethodName := ⟨RX0, "wordAt", "(I)I"⟩
abbrev cX0_putWord : ByteArray := prog_2_method_3_code
def yX0_putWord : MethodName := ⟨RX0, "putWord", "(II)V"⟩
abbrev cX0_byteAt : ByteArray := prog_2_method_4_code
def yX0_byteAt : MethodName := ⟨RX0, "byteAt", "(I)I"⟩
abbrev cX0_putByte : ByteArray := prog_2_method_5_code
def yX0_putByte : MethodName := ⟨RX0, "putByte", "(II)V"⟩
abbrev cX0_indexInPage : ByteArray := prog_2_method_6_code
def yX0_indexInPage : MethodName := ⟨RX0, "indexInPage", "(I)I"⟩
abbrev cX0_byteShift : ByteArray := prog_2_method_7_code
def yX0_byteShift : MethodName := ⟨RX0, "byteShift", "(I)I"⟩
def RX1 : String := "SoftMaps"
def TX1 : u_T := fun k => match k with
  | 0 => ("SoftMaps", "memory", "LSoftMaps$Memory;", true)
  | 1 => ("SoftMaps", "specials", "[I", true)
  | 2 => ("SoftMaps", "faults", "I", false)
  | 3 => ("SoftMaps", "latestFault", "I", false)
  | 4 => ("SoftMaps", "faultAddress", "I", false)
  | 5 => ("SoftMaps", "codeReads", "I", false)
  | 6 => ("SoftMaps", "loads", "I", false)
  | _ => ("SoftMaps", "stores", "I", false)
def tyX1 : Nat → FieldType := fun k => match k with
  | 0 => .object "SoftMaps$Memory"
  | 1 => .array .int
  | 2 => .int
  | 3 => .int
  | 4 => .int
  | 5 => .int
  | 6 => .int
  | _ => .int
abbrev wsX10 : List Cond := u_ws RX1 TX1 8
theorem nmX1 : ∀ a, a < 8 → ∀ b, b < 8 → a ≠ b → (TX1 a).2.1 ≠ (TX1 b).2.1 := by decide +kernel
theorem tyX1_ok : ∀ k, k < 8 → parseFieldDescriptor (TX1 k).2.2.1 = some (tyX1 k) := by decide +kernel
abbrev cX1_init : ByteArray := prog_1_method_1_code
def yX1_init : MethodName := ⟨RX1, "<init>", "()V"⟩
abbrev cX1_poke : ByteArray := prog_1_method_2_code
def yX1_poke : MethodName := ⟨RX1, "poke", "(II)Z"⟩
abbrev cX1_set : ByteArray := prog_1_method_3_code
def yX1_set : MethodName := ⟨RX1, "set", "(II)Z"⟩
abbrev cX1_code : ByteArray := prog_1_method_4_code
def yX1_code : MethodName := ⟨RX1, "code", "(I)I"⟩
abbrev cX1_load : ByteArray := prog_1_method_5_code
def yX1_load : MethodName := ⟨RX1, "load", "(IZ)I"⟩
abbrev cX1_store : ByteArray := prog_1_method_6_code
def yX1_store : MethodName := ⟨RX1, "store", "(IIZ)I"⟩
abbrev cX1_find : ByteArray := prog_1_method_7_code
def yX1_find : MethodName := ⟨RX1, "find", "(IIZ)I"⟩
abbrev cX1_map : ByteArray := prog_1_method_8_code
def yX1_map : MethodName := ⟨RX1, "map", "(IIIZ)I"⟩
abbrev cX1_forget : ByteArray := prog_1_method_9_code
def yX1_forget : MethodName := ⟨RX1, "forget", "(Z)I"⟩
abbrev cX1_special : ByteArray := prog_1_method_10_code
def yX1_special : MethodName := ⟨RX1, "special", "(I)I"⟩
abbrev cX1_word : ByteArray := prog_1_method_11_code
def yX1_word : MethodName := ⟨RX1, "word", "(I)I"⟩
abbrev cX1_look : ByteArray := prog_1_method_12_code
def yX1_look : MethodName := ⟨RX1, "look", "(I)I"⟩
abbrev cX1_probe : ByteArray := prog_1_method_13_code
def yX1_probe : MethodName := ⟨RX1, "probe", "(IIZ)I"⟩
abbrev cX1_locate : ByteArray := prog_1_method_14_code
def yX1_locate : MethodName := ⟨RX1, "locate", "(IIZ)I"⟩
abbrev cX1_within : ByteArray := prog_1_method_15_code
def yX1_within : MethodName := ⟨RX1, "within", "(II)I"⟩
abbrev cX1_isMapped : ByteArray := prog_1_method_16_code
def yX1_isMapped : MethodName := ⟨RX1, "isMapped", "(I)Z"⟩
abbrev cX1_neededRight : ByteArray := prog_1_method_17_code
def yX1_neededRight : MethodName := ⟨RX1, "neededRight", "(I)I"⟩
abbrev cX1_isOfPage : ByteArray := prog_1_method_18_code
def yX1_isOfPage : MethodName := ⟨RX1, "isOfPage", "(II)Z"⟩
abbrev cX1_countMatches : ByteArray := prog_1_method_19_code
def yX1_countMatches : MethodName := ⟨RX1, "countMatches", "(Z)I"⟩
abbrev cX1_firstMatch : ByteArray := prog_1_method_20_code
def yX1_firstMatch : MethodName := ⟨RX1, "firstMatch", "(Z)I"⟩
abbrev cX1_setOf : ByteArray := prog_1_method_21_code
def yX1_setOf : MethodName := ⟨RX1, "setOf", "(I)I"⟩
abbrev cX1_isOdd : ByteArray := prog_1_method_22_code
def yX1_isOdd : MethodName := ⟨RX1, "isOdd", "(I)Z"⟩
abbrev cX1_isAligned : ByteArray := prog_1_method_23_code
def yX1_isAligned : MethodName := ⟨RX1, "isAligned", "(I)Z"⟩
abbrev cX1_isSpecial : ByteArray := prog_1_method_24_code
def yX1_isSpecial : MethodName := ⟨RX1, "isSpecial", "(I)Z"⟩
abbrev cX1_isWordPlace : ByteArray := prog_1_method_25_code
def yX1_isWordPlace : MethodName := ⟨RX1, "isWordPlace", "(I)Z"⟩
def RX2 : String := "SoftMapsModel"
def TX2 : u_T := fun k => match k with
  | 0 => ("SoftMapsModel", "thrown", "I", false)
  | 1 => ("SoftMapsModel", "bytes", "[I", true)
  | 2 => ("SoftMapsModel", "specials", "[I", true)
  | 3 => ("SoftMapsModel", "faults", "I", false)
  | 4 => ("SoftMapsModel", "fault", "I", false)
  | 5 => ("SoftMapsModel", "address", "I", false)
  | 6 => ("SoftMapsModel", "codes", "I", false)
  | 7 => ("SoftMapsModel", "loads", "I", false)
  | 8 => ("SoftMapsModel", "stores", "I", false)
  | _ => ("SoftMapsModel", "found", "I", false)
def tyX2 : Nat → FieldType := fun k => match k with
  | 0 => .int
  | 1 => .array .int
  | 2 => .array .int
  | 3 => .int
  | 4 => .int
  | 5 => .int
  | 6 => .int
  | 7 => .int
  | 8 => .int
  | _ => .int
abbrev wsX20 : List Cond := u_ws RX2 TX2 10
theorem nmX2 : ∀ a, a < 10 → ∀ b, b < 10 → a ≠ b → (TX2 a).2.1 ≠ (TX2 b).2.1 := by decide +kernel
theorem tyX2_ok : ∀ k, k < 10 → parseFieldDescriptor (TX2 k).2.2.1 = some (tyX2 k) := by decide +kernel
def RL : String := "SoftMapsLaw"
abbrev cL_law : ByteArray := code
def yL_law : MethodName := ⟨RL, "law", "([I)Z"⟩
def wsX0_init : List Cond := .code yX0_init cX0_init 1 none :: ([.methodLink RX0 3 objectInit, .instanceMethod objectInit, .code objectInit ⟨#[0xb1]⟩ 1 none, .classLink RX0 9 "[I", .fieldLink RX0 11 "SoftMaps$Memory" "pages" "[[I"] ++ wsX00)
def wsX0_indexInPage : List Cond := .code yX0_indexInPage cX0_indexInPage 1 (some .int) :: ([])
def wsX0_wordAt : List Cond := .code yX0_wordAt cX0_wordAt 3 (some .int) :: ([.constant RX0 17 (65536), .fieldLink RX0 11 "SoftMaps$Memory" "pages" "[[I", .methodLink RX0 18 yX0_indexInPage, .static yX0_indexInPage, .initialized RX0, .code yX0_indexInPage cX0_indexInPage 1 (some .int)] ++ wsX00)
def wsX0_putWord : List Cond := .code yX0_putWord cX0_putWord 4 none :: ([.constant RX0 17 (65536), .fieldLink RX0 11 "SoftMaps$Memory" "pages" "[[I", .arrayClass .int, .methodLink RX0 18 yX0_indexInPage, .static yX0_indexInPage, .initialized RX0, .code yX0_indexInPage cX0_indexInPage 1 (some .int)] ++ wsX00)
def wsX0_byteShift : List Cond := .code yX0_byteShift cX0_byteShift 1 (some .int) :: ([])
def wsX0_byteAt : List Cond := .code yX0_byteAt cX0_byteAt 2 (some .int) :: ([.methodLink RX0 22 yX0_wordAt, .instanceMethod yX0_wordAt, .selects RX0 yX0_wordAt yX0_wordAt, .initialized RX0, .code yX0_wordAt cX0_wordAt 3 (some .int), .constant RX0 17 (65536), .fieldLink RX0 11 "SoftMaps$Memory" "pages" "[[I", .methodLink RX0 18 yX0_indexInPage, .static yX0_indexInPage, .code yX0_indexInPage cX0_indexInPage 1 (some .int), .methodLink RX0 25 yX0_byteShift, .static yX0_byteShift, .code yX0_byteShift cX0_byteShift 1 (some .int)] ++ wsX00)
def wsX0_putByte : List Cond := .code yX0_putByte cX0_putByte 5 none :: ([.methodLink RX0 25 yX0_byteShift, .static yX0_byteShift, .initialized RX0, .code yX0_byteShift cX0_byteShift 1 (some .int), .methodLink RX0 22 yX0_wordAt, .instanceMethod yX0_wordAt, .selects RX0 yX0_wordAt yX0_wordAt, .code yX0_wordAt cX0_wordAt 3 (some .int), .constant RX0 17 (65536), .fieldLink RX0 11 "SoftMaps$Memory" "pages" "[[I", .methodLink RX0 18 yX0_indexInPage, .static yX0_indexInPage, .code yX0_indexInPage cX0_indexInPage 1 (some .int), .methodLink RX0 28 yX0_putWord, .instanceMethod yX0_putWord, .selects RX0 yX0_putWord yX0_putWord, .code yX0_putWord cX0_putWord 4 none, .arrayClass .int] ++ wsX00)
def wsX1_init : List Cond := .code yX1_init cX1_init 1 none :: ([.methodLink RX1 3 objectInit, .instanceMethod objectInit, .code objectInit ⟨#[0xb1]⟩ 1 none, .classLink RX1 9 RX0, .instantiable RX0 1, .initialized RX0, .fieldLink RX1 12 "SoftMaps" "memory" "LSoftMaps$Memory;", .arrayClass .int, .fieldLink RX1 16 "SoftMaps" "specials" "[I", .instanceMethod yX0_init, .code yX0_init cX0_init 1 none, .methodLink RX0 3 objectInit, .classLink RX0 9 "[I", .fieldLink RX0 11 "SoftMaps$Memory" "pages" "[[I"] ++ wsX00 ++ wsX10)
def wsX1_isAligned : List Cond := .code yX1_isAligned cX1_isAligned 1 (some .boolean) :: ([])
def wsX1_isWordPlace : List Cond := .code yX1_isWordPlace cX1_isWordPlace 1 (some .boolean) :: ([.constant RX1 95 (65536), .methodLink RX1 77 yX1_isAligned, .static yX1_isAligned, .initialized RX1, .code yX1_isAligned cX1_isAligned 1 (some .boolean)])
def wsX1_poke : List Cond := .code yX1_poke cX1_poke 3 (some .boolean) :: ([.fieldLink RX1 12 "SoftMaps" "memory" "LSoftMaps$Memory;", .methodLink RX1 20 yX1_isWordPlace, .static yX1_isWordPlace, .initialized RX1, .code yX1_isWordPlace cX1_isWordPlace 1 (some .boolean), .constant RX1 95 (65536), .methodLink RX1 77 yX1_isAligned, .static yX1_isAligned, .code yX1_isAligned cX1_isAligned 1 (some .boolean), .methodLink RX1 24 yX0_putWord, .instanceMethod yX0_putWord, .selects RX0 yX0_putWord yX0_putWord, .initialized RX0, .code yX0_putWord cX0_putWord 4 none, .constant RX0 17 (65536), .fieldLink RX0 11 "SoftMaps$Memory" "pages" "[[I", .arrayClass .int, .methodLink RX0 18 yX0_indexInPage, .static yX0_indexInPage, .code yX0_indexInPage cX0_indexInPage 1 (some .int)] ++ wsX10 ++ wsX00)
def wsX1_isSpecial : List Cond := .code yX1_isSpecial cX1_isSpecial 1 (some .boolean) :: ([])
def wsX1_set : List Cond := .code yX1_set cX1_set 3 (some .boolean) :: ([.fieldLink RX1 16 "SoftMaps" "specials" "[I", .methodLink RX1 28 yX1_isSpecial, .static yX1_isSpecial, .initialized RX1, .code yX1_isSpecial cX1_isSpecial 1 (some .boolean)] ++ wsX10)
def wsX1_isMapped : List Cond := .code yX1_isMapped cX1_isMapped 3 (some .boolean) :: ([.fieldLink RX1 16 "SoftMaps" "specials" "[I"] ++ wsX10)
def wsX1_within : List Cond := .code yX1_within cX1_within 4 (some .int) :: ([.constant RX1 94 (32768), .constant RX1 95 (65536)])
def wsX1_firstMatch : List Cond := .code yX1_firstMatch cX1_firstMatch 1 (some .int) :: ([])
def wsX1_setOf : List Cond := .code yX1_setOf cX1_setOf 1 (some .int) :: ([])
def wsX1_isOdd : List Cond := .code yX1_isOdd cX1_isOdd 1 (some .boolean) :: ([])
def wsX1_isOfPage : List Cond := .code yX1_isOfPage cX1_isOfPage 2 (some .boolean) :: ([.methodLink RX1 96 yX1_isOdd, .static yX1_isOdd, .initialized RX1, .code yX1_isOdd cX1_isOdd 1 (some .boolean)])
def wsX1_neededRight : List Cond := .code yX1_neededRight cX1_neededRight 4 (some .int) :: ([.fieldLink RX1 16 "SoftMaps" "specials" "[I"] ++ wsX10)
def wsX1_locate_r1 : List Cond := [Cond.fieldLink RX1 16 "SoftMaps" "specials" "[I", Cond.methodLink RX1 77 yX1_isAligned, Cond.static yX1_isAligned, Cond.initialized RX1, Cond.code yX1_isAligned cX1_isAligned 1 (some .boolean), Cond.methodLink RX1 80 yX1_isMapped, Cond.instanceMethod yX1_isMapped, Cond.selects RX1 yX1_isMapped yX1_isMapped, Cond.code yX1_isMapped cX1_isMapped 3 (some .boolean), Cond.methodLink RX1 83 yX1_within, Cond.static yX1_within, Cond.code yX1_within cX1_within 4 (some .int), Cond.constant RX1 94 (32768), Cond.constant RX1 95 (65536), Cond.methodLink RX1 61 yX1_firstMatch, Cond.static yX1_firstMatch, Cond.code yX1_firstMatch cX1_firstMatch 1 (some .int), Cond.methodLink RX1 58 yX1_setOf, Cond.static yX1_setOf, Cond.code yX1_setOf cX1_setOf 1 (some .int), Cond.methodLink RX1 87 yX1_isOfPage, Cond.static yX1_isOfPage, Cond.code yX1_isOfPage cX1_isOfPage 2 (some .boolean), Cond.methodLink RX1 96 yX1_isOdd]
def wsX1_locate_r2 : List Cond := [Cond.static yX1_isOdd, Cond.code yX1_isOdd cX1_isOdd 1 (some .boolean), Cond.methodLink RX1 91 yX1_neededRight, Cond.instanceMethod yX1_neededRight, Cond.selects RX1 yX1_neededRight yX1_neededRight, Cond.code yX1_neededRight cX1_neededRight 4 (some .int)]
def wsX1_locate : List Cond := .code yX1_locate cX1_locate 6 (some .int) :: ((wsX1_locate_r1 ++ wsX1_locate_r2) ++ wsX10)
def wsX1_probe_r1 : List Cond := [Cond.fieldLink RX1 68 "SoftMaps" "faults" "I", Cond.fieldLink RX1 71 "SoftMaps" "latestFault" "I", Cond.fieldLink RX1 74 "SoftMaps" "faultAddress" "I", Cond.methodLink RX1 55 yX1_locate, Cond.instanceMethod yX1_locate, Cond.selects RX1 yX1_locate yX1_locate, Cond.initialized RX1, Cond.code yX1_locate cX1_locate 6 (some .int), Cond.fieldLink RX1 16 "SoftMaps" "specials" "[I", Cond.methodLink RX1 77 yX1_isAligned, Cond.static yX1_isAligned, Cond.code yX1_isAligned cX1_isAligned 1 (some .boolean), Cond.methodLink RX1 80 yX1_isMapped, Cond.instanceMethod yX1_isMapped, Cond.selects RX1 yX1_isMapped yX1_isMapped, Cond.code yX1_isMapped cX1_isMapped 3 (some .boolean), Cond.methodLink RX1 83 yX1_within, Cond.static yX1_within, Cond.code yX1_within cX1_within 4 (some .int), Cond.constant RX1 94 (32768), Cond.constant RX1 95 (65536), Cond.methodLink RX1 61 yX1_firstMatch, Cond.static yX1_firstMatch, Cond.code yX1_firstMatch cX1_firstMatch 1 (some .int)]
def wsX1_probe_r2 : List Cond := [Cond.methodLink RX1 58 yX1_setOf, Cond.static yX1_setOf, Cond.code yX1_setOf cX1_setOf 1 (some .int), Cond.methodLink RX1 87 yX1_isOfPage, Cond.static yX1_isOfPage, Cond.code yX1_isOfPage cX1_isOfPage 2 (some .boolean), Cond.methodLink RX1 96 yX1_isOdd, Cond.static yX1_isOdd, Cond.code yX1_isOdd cX1_isOdd 1 (some .boolean), Cond.methodLink RX1 91 yX1_neededRight, Cond.instanceMethod yX1_neededRight, Cond.selects RX1 yX1_neededRight yX1_neededRight, Cond.code yX1_neededRight cX1_neededRight 4 (some .int)]
def wsX1_probe : List Cond := .code yX1_probe cX1_probe 5 (some .int) :: ((wsX1_probe_r1 ++ wsX1_probe_r2) ++ wsX10)
def wsX1_code_r1 : List Cond := [Cond.fieldLink RX1 35 "SoftMaps" "codeReads" "I", Cond.fieldLink RX1 12 "SoftMaps" "memory" "LSoftMaps$Memory;", Cond.methodLink RX1 31 yX1_probe, Cond.instanceMethod yX1_probe, Cond.selects RX1 yX1_probe yX1_probe, Cond.initialized RX1, Cond.code yX1_probe cX1_probe 5 (some .int), Cond.fieldLink RX1 68 "SoftMaps" "faults" "I", Cond.fieldLink RX1 71 "SoftMaps" "latestFault" "I", Cond.fieldLink RX1 74 "SoftMaps" "faultAddress" "I", Cond.methodLink RX1 55 yX1_locate, Cond.instanceMethod yX1_locate, Cond.selects RX1 yX1_locate yX1_locate, Cond.code yX1_locate cX1_locate 6 (some .int), Cond.fieldLink RX1 16 "SoftMaps" "specials" "[I", Cond.methodLink RX1 77 yX1_isAligned, Cond.static yX1_isAligned, Cond.code yX1_isAligned cX1_isAligned 1 (some .boolean), Cond.methodLink RX1 80 yX1_isMapped, Cond.instanceMethod yX1_isMapped, Cond.selects RX1 yX1_isMapped yX1_isMapped, Cond.code yX1_isMapped cX1_isMapped 3 (some .boolean), Cond.methodLink RX1 83 yX1_within, Cond.static yX1_within]
def wsX1_code_r2 : List Cond := [Cond.code yX1_within cX1_within 4 (some .int), Cond.constant RX1 94 (32768), Cond.constant RX1 95 (65536), Cond.methodLink RX1 61 yX1_firstMatch, Cond.static yX1_firstMatch, Cond.code yX1_firstMatch cX1_firstMatch 1 (some .int), Cond.methodLink RX1 58 yX1_setOf, Cond.static yX1_setOf, Cond.code yX1_setOf cX1_setOf 1 (some .int), Cond.methodLink RX1 87 yX1_isOfPage, Cond.static yX1_isOfPage, Cond.code yX1_isOfPage cX1_isOfPage 2 (some .boolean), Cond.methodLink RX1 96 yX1_isOdd, Cond.static yX1_isOdd, Cond.code yX1_isOdd cX1_isOdd 1 (some .boolean), Cond.methodLink RX1 91 yX1_neededRight, Cond.instanceMethod yX1_neededRight, Cond.selects RX1 yX1_neededRight yX1_neededRight, Cond.code yX1_neededRight cX1_neededRight 4 (some .int), Cond.methodLink RX1 39 yX0_wordAt, Cond.instanceMethod yX0_wordAt, Cond.selects RX0 yX0_wordAt yX0_wordAt, Cond.initialized RX0, Cond.code yX0_wordAt cX0_wordAt 3 (some .int)]
def wsX1_code_r3 : List Cond := [Cond.constant RX0 17 (65536), Cond.fieldLink RX0 11 "SoftMaps$Memory" "pages" "[[I", Cond.methodLink RX0 18 yX0_indexInPage, Cond.static yX0_indexInPage, Cond.code yX0_indexInPage cX0_indexInPage 1 (some .int)]
def wsX1_code : List Cond := .code yX1_code cX1_code 3 (some .int) :: ((wsX1_code_r1 ++ (wsX1_code_r2 ++ wsX1_code_r3)) ++ wsX10 ++ wsX00)
def wsX1_load_r1 : List Cond := [Cond.fieldLink RX1 43 "SoftMaps" "loads" "I", Cond.fieldLink RX1 12 "SoftMaps" "memory" "LSoftMaps$Memory;", Cond.methodLink RX1 31 yX1_probe, Cond.instanceMethod yX1_probe, Cond.selects RX1 yX1_probe yX1_probe, Cond.initialized RX1, Cond.code yX1_probe cX1_probe 5 (some .int), Cond.fieldLink RX1 68 "SoftMaps" "faults" "I", Cond.fieldLink RX1 71 "SoftMaps" "latestFault" "I", Cond.fieldLink RX1 74 "SoftMaps" "faultAddress" "I", Cond.methodLink RX1 55 yX1_locate, Cond.instanceMethod yX1_locate, Cond.selects RX1 yX1_locate yX1_locate, Cond.code yX1_locate cX1_locate 6 (some .int), Cond.fieldLink RX1 16 "SoftMaps" "specials" "[I", Cond.methodLink RX1 77 yX1_isAligned, Cond.static yX1_isAligned, Cond.code yX1_isAligned cX1_isAligned 1 (some .boolean), Cond.methodLink RX1 80 yX1_isMapped, Cond.instanceMethod yX1_isMapped, Cond.selects RX1 yX1_isMapped yX1_isMapped, Cond.code yX1_isMapped cX1_isMapped 3 (some .boolean), Cond.methodLink RX1 83 yX1_within, Cond.static yX1_within]
def wsX1_load_r2 : List Cond := [Cond.code yX1_within cX1_within 4 (some .int), Cond.constant RX1 94 (32768), Cond.constant RX1 95 (65536), Cond.methodLink RX1 61 yX1_firstMatch, Cond.static yX1_firstMatch, Cond.code yX1_firstMatch cX1_firstMatch 1 (some .int), Cond.methodLink RX1 58 yX1_setOf, Cond.static yX1_setOf, Cond.code yX1_setOf cX1_setOf 1 (some .int), Cond.methodLink RX1 87 yX1_isOfPage, Cond.static yX1_isOfPage, Cond.code yX1_isOfPage cX1_isOfPage 2 (some .boolean), Cond.methodLink RX1 96 yX1_isOdd, Cond.static yX1_isOdd, Cond.code yX1_isOdd cX1_isOdd 1 (some .boolean), Cond.methodLink RX1 91 yX1_neededRight, Cond.instanceMethod yX1_neededRight, Cond.selects RX1 yX1_neededRight yX1_neededRight, Cond.code yX1_neededRight cX1_neededRight 4 (some .int), Cond.methodLink RX1 39 yX0_wordAt, Cond.instanceMethod yX0_wordAt, Cond.selects RX0 yX0_wordAt yX0_wordAt, Cond.initialized RX0, Cond.code yX0_wordAt cX0_wordAt 3 (some .int)]
def wsX1_load_r3 : List Cond := [Cond.constant RX0 17 (65536), Cond.fieldLink RX0 11 "SoftMaps$Memory" "pages" "[[I", Cond.methodLink RX0 18 yX0_indexInPage, Cond.static yX0_indexInPage, Cond.code yX0_indexInPage cX0_indexInPage 1 (some .int), Cond.methodLink RX1 46 yX0_byteAt, Cond.instanceMethod yX0_byteAt, Cond.selects RX0 yX0_byteAt yX0_byteAt, Cond.code yX0_byteAt cX0_byteAt 2 (some .int), Cond.methodLink RX0 22 yX0_wordAt, Cond.methodLink RX0 25 yX0_byteShift, Cond.static yX0_byteShift, Cond.code yX0_byteShift cX0_byteShift 1 (some .int)]
def wsX1_load : List Cond := .code yX1_load cX1_load 4 (some .int) :: ((wsX1_load_r1 ++ (wsX1_load_r2 ++ wsX1_load_r3)) ++ wsX10 ++ wsX00)
def wsX1_store_r1 : List Cond := [Cond.fieldLink RX1 49 "SoftMaps" "stores" "I", Cond.fieldLink RX1 12 "SoftMaps" "memory" "LSoftMaps$Memory;", Cond.methodLink RX1 31 yX1_probe, Cond.instanceMethod yX1_probe, Cond.selects RX1 yX1_probe yX1_probe, Cond.initialized RX1, Cond.code yX1_probe cX1_probe 5 (some .int), Cond.fieldLink RX1 68 "SoftMaps" "faults" "I", Cond.fieldLink RX1 71 "SoftMaps" "latestFault" "I", Cond.fieldLink RX1 74 "SoftMaps" "faultAddress" "I", Cond.methodLink RX1 55 yX1_locate, Cond.instanceMethod yX1_locate, Cond.selects RX1 yX1_locate yX1_locate, Cond.code yX1_locate cX1_locate 6 (some .int), Cond.fieldLink RX1 16 "SoftMaps" "specials" "[I", Cond.methodLink RX1 77 yX1_isAligned, Cond.static yX1_isAligned, Cond.code yX1_isAligned cX1_isAligned 1 (some .boolean), Cond.methodLink RX1 80 yX1_isMapped, Cond.instanceMethod yX1_isMapped, Cond.selects RX1 yX1_isMapped yX1_isMapped, Cond.code yX1_isMapped cX1_isMapped 3 (some .boolean), Cond.methodLink RX1 83 yX1_within, Cond.static yX1_within]
def wsX1_store_r2 : List Cond := [Cond.code yX1_within cX1_within 4 (some .int), Cond.constant RX1 94 (32768), Cond.constant RX1 95 (65536), Cond.methodLink RX1 61 yX1_firstMatch, Cond.static yX1_firstMatch, Cond.code yX1_firstMatch cX1_firstMatch 1 (some .int), Cond.methodLink RX1 58 yX1_setOf, Cond.static yX1_setOf, Cond.code yX1_setOf cX1_setOf 1 (some .int), Cond.methodLink RX1 87 yX1_isOfPage, Cond.static yX1_isOfPage, Cond.code yX1_isOfPage cX1_isOfPage 2 (some .boolean), Cond.methodLink RX1 96 yX1_isOdd, Cond.static yX1_isOdd, Cond.code yX1_isOdd cX1_isOdd 1 (some .boolean), Cond.methodLink RX1 91 yX1_neededRight, Cond.instanceMethod yX1_neededRight, Cond.selects RX1 yX1_neededRight yX1_neededRight, Cond.code yX1_neededRight cX1_neededRight 4 (some .int), Cond.methodLink RX1 24 yX0_putWord, Cond.instanceMethod yX0_putWord, Cond.selects RX0 yX0_putWord yX0_putWord, Cond.initialized RX0, Cond.code yX0_putWord cX0_putWord 4 none]
def wsX1_store_r3 : List Cond := [Cond.constant RX0 17 (65536), Cond.fieldLink RX0 11 "SoftMaps$Memory" "pages" "[[I", Cond.arrayClass .int, Cond.methodLink RX0 18 yX0_indexInPage, Cond.static yX0_indexInPage, Cond.code yX0_indexInPage cX0_indexInPage 1 (some .int), Cond.methodLink RX1 52 yX0_putByte, Cond.instanceMethod yX0_putByte, Cond.selects RX0 yX0_putByte yX0_putByte, Cond.code yX0_putByte cX0_putByte 5 none, Cond.methodLink RX0 25 yX0_byteShift, Cond.static yX0_byteShift, Cond.code yX0_byteShift cX0_byteShift 1 (some .int), Cond.methodLink RX0 22 yX0_wordAt, Cond.instanceMethod yX0_wordAt, Cond.selects RX0 yX0_wordAt yX0_wordAt, Cond.code yX0_wordAt cX0_wordAt 3 (some .int), Cond.methodLink RX0 28 yX0_putWord]
def wsX1_store : List Cond := .code yX1_store cX1_store 5 (some .int) :: ((wsX1_store_r1 ++ (wsX1_store_r2 ++ wsX1_store_r3)) ++ wsX10 ++ wsX00)
def wsX1_find_r1 : List Cond := [Cond.methodLink RX1 55 yX1_locate, Cond.instanceMethod yX1_locate, Cond.selects RX1 yX1_locate yX1_locate, Cond.initialized RX1, Cond.code yX1_locate cX1_locate 6 (some .int), Cond.fieldLink RX1 16 "SoftMaps" "specials" "[I", Cond.methodLink RX1 77 yX1_isAligned, Cond.static yX1_isAligned, Cond.code yX1_isAligned cX1_isAligned 1 (some .boolean), Cond.methodLink RX1 80 yX1_isMapped, Cond.instanceMethod yX1_isMapped, Cond.selects RX1 yX1_isMapped yX1_isMapped, Cond.code yX1_isMapped cX1_isMapped 3 (some .boolean), Cond.methodLink RX1 83 yX1_within, Cond.static yX1_within, Cond.code yX1_within cX1_within 4 (some .int), Cond.constant RX1 94 (32768), Cond.constant RX1 95 (65536), Cond.methodLink RX1 61 yX1_firstMatch, Cond.static yX1_firstMatch, Cond.code yX1_firstMatch cX1_firstMatch 1 (some .int), Cond.methodLink RX1 58 yX1_setOf, Cond.static yX1_setOf, Cond.code yX1_setOf cX1_setOf 1 (some .int)]
def wsX1_find_r2 : List Cond := [Cond.methodLink RX1 87 yX1_isOfPage, Cond.static yX1_isOfPage, Cond.code yX1_isOfPage cX1_isOfPage 2 (some .boolean), Cond.methodLink RX1 96 yX1_isOdd, Cond.static yX1_isOdd, Cond.code yX1_isOdd cX1_isOdd 1 (some .boolean), Cond.methodLink RX1 91 yX1_neededRight, Cond.instanceMethod yX1_neededRight, Cond.selects RX1 yX1_neededRight yX1_neededRight, Cond.code yX1_neededRight cX1_neededRight 4 (some .int)]
def wsX1_find : List Cond := .code yX1_find cX1_find 4 (some .int) :: ((wsX1_find_r1 ++ wsX1_find_r2) ++ wsX10)
def wsX1_map : List Cond := .code yX1_map cX1_map 7 (some .int) :: ([.fieldLink RX1 16 "SoftMaps" "specials" "[I", .methodLink RX1 58 yX1_setOf, .static yX1_setOf, .initialized RX1, .code yX1_setOf cX1_setOf 1 (some .int), .methodLink RX1 61 yX1_firstMatch, .static yX1_firstMatch, .code yX1_firstMatch cX1_firstMatch 1 (some .int)] ++ wsX10)
def wsX1_countMatches : List Cond := .code yX1_countMatches cX1_countMatches 5 (some .int) :: ([.fieldLink RX1 16 "SoftMaps" "specials" "[I", .methodLink RX1 61 yX1_firstMatch, .static yX1_firstMatch, .initialized RX1, .code yX1_firstMatch cX1_firstMatch 1 (some .int), .methodLink RX1 96 yX1_isOdd, .static yX1_isOdd, .code yX1_isOdd cX1_isOdd 1 (some .boolean)] ++ wsX10)
def wsX1_forget : List Cond := .code yX1_forget cX1_forget 5 (some .int) :: ([.fieldLink RX1 16 "SoftMaps" "specials" "[I", .methodLink RX1 65 yX1_countMatches, .instanceMethod yX1_countMatches, .selects RX1 yX1_countMatches yX1_countMatches, .initialized RX1, .code yX1_countMatches cX1_countMatches 5 (some .int), .methodLink RX1 61 yX1_firstMatch, .static yX1_firstMatch, .code yX1_firstMatch cX1_firstMatch 1 (some .int), .methodLink RX1 96 yX1_isOdd, .static yX1_isOdd, .code yX1_isOdd cX1_isOdd 1 (some .boolean)] ++ wsX10)
def wsX1_special : List Cond := .code yX1_special cX1_special 2 (some .int) :: ([.fieldLink RX1 16 "SoftMaps" "specials" "[I", .methodLink RX1 28 yX1_isSpecial, .static yX1_isSpecial, .initialized RX1, .code yX1_isSpecial cX1_isSpecial 1 (some .boolean)] ++ wsX10)
def wsX1_word : List Cond := .code yX1_word cX1_word 2 (some .int) :: ([.fieldLink RX1 12 "SoftMaps" "memory" "LSoftMaps$Memory;", .methodLink RX1 20 yX1_isWordPlace, .static yX1_isWordPlace, .initialized RX1, .code yX1_isWordPlace cX1_isWordPlace 1 (some .boolean), .constant RX1 95 (65536), .methodLink RX1 77 yX1_isAligned, .static yX1_isAligned, .code yX1_isAligned cX1_isAligned 1 (some .boolean), .methodLink RX1 39 yX0_wordAt, .instanceMethod yX0_wordAt, .selects RX0 yX0_wordAt yX0_wordAt, .initialized RX0, .code yX0_wordAt cX0_wordAt 3 (some .int), .constant RX0 17 (65536), .fieldLink RX0 11 "SoftMaps$Memory" "pages" "[[I", .methodLink RX0 18 yX0_indexInPage, .static yX0_indexInPage, .code yX0_indexInPage cX0_indexInPage 1 (some .int)] ++ wsX10 ++ wsX00)
def wsX1_look : List Cond := .code yX1_look cX1_look 2 (some .int) :: ([.fieldLink RX1 68 "SoftMaps" "faults" "I", .fieldLink RX1 71 "SoftMaps" "latestFault" "I", .fieldLink RX1 74 "SoftMaps" "faultAddress" "I", .fieldLink RX1 35 "SoftMaps" "codeReads" "I", .fieldLink RX1 43 "SoftMaps" "loads" "I", .fieldLink RX1 49 "SoftMaps" "stores" "I", .methodLink RX1 65 yX1_countMatches, .instanceMethod yX1_countMatches, .selects RX1 yX1_countMatches yX1_countMatches, .initialized RX1, .code yX1_countMatches cX1_countMatches 5 (some .int), .fieldLink RX1 16 "SoftMaps" "specials" "[I", .methodLink RX1 61 yX1_firstMatch, .static yX1_firstMatch, .code yX1_firstMatch cX1_firstMatch 1 (some .int), .methodLink RX1 96 yX1_isOdd, .static yX1_isOdd, .code yX1_isOdd cX1_isOdd 1 (some .boolean)] ++ wsX10)
theorem dX0_init_0 : decode cX0_init 0 = .ok (.aload_n 0, 1) := by decide +kernel
theorem dX0_init_1 : decode cX0_init 1 = .ok (.invokespecial 3, 3) := by decide +kernel
theorem dX0_init_4 : decode cX0_init 4 = .ok (.aload_n 0, 1) := by decide +kernel
theorem dX0_init_5 : decode cX0_init 5 = .ok (.bipush 64, 2) := by decide +kernel
theorem dX0_init_7 : decode cX0_init 7 = .ok (.anewarray 9, 3) := by decide +kernel
theorem dX0_init_10 : decode cX0_init 10 = .ok (.putfield 11, 3) := by decide +kernel
theorem dX0_init_13 : decode cX0_init 13 = .ok (.return_, 1) := by decide +kernel
set_option maxRecDepth 20000 in
theorem ggX0_wordAt_X0_indexInPage : GoodIn wsX0_wordAt wsX0_indexInPage := goodIn_r _ [6] (by decide +kernel) (by decide +kernel)
set_option maxRecDepth 20000 in
theorem gX0_wordAt_X0_indexInPage : GoodIn wsX0_wordAt (va_wsS RX0 18 yX0_indexInPage wsX0_indexInPage) := goodIn_app (goodIn_of _ (by decide +kernel)) ggX0_wordAt_X0_indexInPage
theorem dX0_wordAt_0 : decode cX0_wordAt 0 = .ok (.iload_n 1, 1) := by decide +kernel
theorem dX0_wordAt_1 : decode cX0_wordAt 1 = .ok (.ifCond .lt 9, 3) := by decide +kernel
theorem dX0_wordAt_4 : decode cX0_wordAt 4 = .ok (.iload_n 1, 1) := by decide +kernel
theorem dX0_wordAt_5 : decode cX0_wordAt 5 = .ok (.ldc 17, 2) := by decide +kernel
theorem dX0_wordAt_7 : decode cX0_wordAt 7 = .ok (.if_icmp .lt 5, 3) := by decide +kernel
theorem dX0_wordAt_10 : decode cX0_wordAt 10 = .ok (.iconst 0, 1) := by decide +kernel
theorem dX0_wordAt_11 : decode cX0_wordAt 11 = .ok (.ireturn, 1) := by decide +kernel
theorem dX0_wordAt_12 : decode cX0_wordAt 12 = .ok (.aload_n 0, 1) := by decide +kernel
theorem dX0_wordAt_13 : decode cX0_wordAt 13 = .ok (.getfield 11, 3) := by decide +kernel
theorem dX0_wordAt_16 : decode cX0_wordAt 16 = .ok (.iload_n 1, 1) := by decide +kernel
theorem dX0_wordAt_17 : decode cX0_wordAt 17 = .ok (.bipush 10, 2) := by decide +kernel
theorem dX0_wordAt_19 : decode cX0_wordAt 19 = .ok (.iushr, 1) := by decide +kernel
theorem dX0_wordAt_20 : decode cX0_wordAt 20 = .ok (.aaload, 1) := by decide +kernel
theorem dX0_wordAt_21 : decode cX0_wordAt 21 = .ok (.astore_n 2, 1) := by decide +kernel
theorem dX0_wordAt_22 : decode cX0_wordAt 22 = .ok (.aload_n 2, 1) := by decide +kernel
theorem dX0_wordAt_23 : decode cX0_wordAt 23 = .ok (.ifnonnull 7, 3) := by decide +kernel
theorem dX0_wordAt_26 : decode cX0_wordAt 26 = .ok (.iconst 0, 1) := by decide +kernel
theorem dX0_wordAt_27 : decode cX0_wordAt 27 = .ok (.goto 9, 3) := by decide +kernel
theorem dX0_wordAt_30 : decode cX0_wordAt 30 = .ok (.aload_n 2, 1) := by decide +kernel
theorem dX0_wordAt_31 : decode cX0_wordAt 31 = .ok (.iload_n 1, 1) := by decide +kernel
theorem dX0_wordAt_32 : decode cX0_wordAt 32 = .ok (.invokestatic 18, 3) := by decide +kernel
theorem dX0_wordAt_35 : decode cX0_wordAt 35 = .ok (.iaload, 1) := by decide +kernel
theorem dX0_wordAt_36 : decode cX0_wordAt 36 = .ok (.ireturn, 1) := by decide +kernel
set_option maxRecDepth 20000 in
theorem ggX0_putWord_X0_indexInPage : GoodIn wsX0_putWord wsX0_indexInPage := goodIn_r _ [7] (by decide +kernel) (by decide +kernel)
set_option maxRecDepth 20000 in
theorem gX0_putWord_X0_indexInPage : GoodIn wsX0_putWord (va_wsS RX0 18 yX0_indexInPage wsX0_indexInPage) := goodIn_app (goodIn_of _ (by decide +kernel)) ggX0_putWord_X0_indexInPage
theorem dX0_putWord_0 : decode cX0_putWord 0 = .ok (.iload_n 1, 1) := by decide +kernel
theorem dX0_putWord_1 : decode cX0_putWord 1 = .ok (.ifCond .lt 9, 3) := by decide +kernel
theorem dX0_putWord_4 : decode cX0_putWord 4 = .ok (.iload_n 1, 1) := by decide +kernel
theorem dX0_putWord_5 : decode cX0_putWord 5 = .ok (.ldc 17, 2) := by decide +kernel
theorem dX0_putWord_7 : decode cX0_putWord 7 = .ok (.if_icmp .lt 4, 3) := by decide +kernel
theorem dX0_putWord_10 : decode cX0_putWord 10 = .ok (.return_, 1) := by decide +kernel
theorem dX0_putWord_11 : decode cX0_putWord 11 = .ok (.aload_n 0, 1) := by decide +kernel
theorem dX0_putWord_12 : decode cX0_putWord 12 = .ok (.getfield 11, 3) := by decide +kernel
theorem dX0_putWord_15 : decode cX0_putWord 15 = .ok (.iload_n 1, 1) := by decide +kernel
theorem dX0_putWord_16 : decode cX0_putWord 16 = .ok (.bipush 10, 2) := by decide +kernel
theorem dX0_putWord_18 : decode cX0_putWord 18 = .ok (.iushr, 1) := by decide +kernel
theorem dX0_putWord_19 : decode cX0_putWord 19 = .ok (.aaload, 1) := by decide +kernel
theorem dX0_putWord_20 : decode cX0_putWord 20 = .ok (.astore_n 3, 1) := by decide +kernel
theorem dX0_putWord_21 : decode cX0_putWord 21 = .ok (.aload_n 3, 1) := by decide +kernel
theorem dX0_putWord_22 : decode cX0_putWord 22 = .ok (.ifnonnull 19, 3) := by decide +kernel
theorem dX0_putWord_25 : decode cX0_putWord 25 = .ok (.sipush 256, 3) := by decide +kernel
theorem dX0_putWord_28 : decode cX0_putWord 28 = .ok (.newarray .int, 2) := by decide +kernel
theorem dX0_putWord_30 : decode cX0_putWord 30 = .ok (.astore_n 3, 1) := by decide +kernel
theorem dX0_putWord_31 : decode cX0_putWord 31 = .ok (.aload_n 0, 1) := by decide +kernel
theorem dX0_putWord_32 : decode cX0_putWord 32 = .ok (.getfield 11, 3) := by decide +kernel
theorem dX0_putWord_35 : decode cX0_putWord 35 = .ok (.iload_n 1, 1) := by decide +kernel
theorem dX0_putWord_36 : decode cX0_putWord 36 = .ok (.bipush 10, 2) := by decide +kernel
theorem dX0_putWord_38 : decode cX0_putWord 38 = .ok (.iushr, 1) := by decide +kernel
theorem dX0_putWord_39 : decode cX0_putWord 39 = .ok (.aload_n 3, 1) := by decide +kernel
theorem dX0_putWord_40 : decode cX0_putWord 40 = .ok (.aastore, 1) := by decide +kernel
theorem dX0_putWord_41 : decode cX0_putWord 41 = .ok (.aload_n 3, 1) := by decide +kernel
theorem dX0_putWord_42 : decode cX0_putWord 42 = .ok (.iload_n 1, 1) := by decide +kernel
theorem dX0_putWord_43 : decode cX0_putWord 43 = .ok (.invokestatic 18, 3) := by decide +kernel
theorem dX0_putWord_46 : decode cX0_putWord 46 = .ok (.iload_n 2, 1) := by decide +kernel
theorem dX0_putWord_47 : decode cX0_putWord 47 = .ok (.iastore, 1) := by decide +kernel
theorem dX0_putWord_48 : decode cX0_putWord 48 = .ok (.return_, 1) := by decide +kernel
set_option maxRecDepth 20000 in
theorem ggX0_byteAt_X0_wordAt : GoodIn wsX0_byteAt wsX0_wordAt := goodIn_r _ [5, 6, 7, 8, 9, 4, 10, 14] (by decide +kernel) (by decide +kernel)
set_option maxRecDepth 20000 in
theorem gX0_byteAt_X0_wordAt : GoodIn wsX0_byteAt (wsV RX0 22 RX0 yX0_wordAt wsX0_wordAt) := goodIn_app (goodIn_of _ (by decide +kernel)) ggX0_byteAt_X0_wordAt
set_option maxRecDepth 20000 in
theorem ggX0_byteAt_X0_byteShift : GoodIn wsX0_byteAt wsX0_byteShift := goodIn_r _ [13] (by decide +kernel) (by decide +kernel)
set_option maxRecDepth 20000 in
theorem gX0_byteAt_X0_byteShift : GoodIn wsX0_byteAt (va_wsS RX0 25 yX0_byteShift wsX0_byteShift) := goodIn_app (goodIn_of _ (by decide +kernel)) ggX0_byteAt_X0_byteShift
theorem dX0_byteAt_0 : decode cX0_byteAt 0 = .ok (.aload_n 0, 1) := by decide +kernel
theorem dX0_byteAt_1 : decode cX0_byteAt 1 = .ok (.iload_n 1, 1) := by decide +kernel
theorem dX0_byteAt_2 : decode cX0_byteAt 2 = .ok (.invokevirtual 22, 3) := by decide +kernel
theorem dX0_byteAt_5 : decode cX0_byteAt 5 = .ok (.iload_n 1, 1) := by decide +kernel
theorem dX0_byteAt_6 : decode cX0_byteAt 6 = .ok (.invokestatic 25, 3) := by decide +kernel
theorem dX0_byteAt_9 : decode cX0_byteAt 9 = .ok (.iushr, 1) := by decide +kernel
theorem dX0_byteAt_10 : decode cX0_byteAt 10 = .ok (.sipush 255, 3) := by decide +kernel
theorem dX0_byteAt_13 : decode cX0_byteAt 13 = .ok (.iand, 1) := by decide +kernel
theorem dX0_byteAt_14 : decode cX0_byteAt 14 = .ok (.ireturn, 1) := by decide +kernel
set_option maxRecDepth 20000 in
theorem ggX0_putByte_X0_byteShift : GoodIn wsX0_putByte wsX0_byteShift := goodIn_r _ [4] (by decide +kernel) (by decide +kernel)
set_option maxRecDepth 20000 in
theorem gX0_putByte_X0_byteShift : GoodIn wsX0_putByte (va_wsS RX0 25 yX0_byteShift wsX0_byteShift) := goodIn_app (goodIn_of _ (by decide +kernel)) ggX0_putByte_X0_byteShift
set_option maxRecDepth 20000 in
theorem ggX0_putByte_X0_wordAt : GoodIn wsX0_putByte wsX0_wordAt := goodIn_r _ [8, 9, 10, 11, 12, 3, 13, 19] (by decide +kernel) (by decide +kernel)
set_option maxRecDepth 20000 in
theorem gX0_putByte_X0_wordAt : GoodIn wsX0_putByte (wsV RX0 22 RX0 yX0_wordAt wsX0_wordAt) := goodIn_app (goodIn_of _ (by decide +kernel)) ggX0_putByte_X0_wordAt
set_option maxRecDepth 20000 in
theorem ggX0_putByte_X0_putWord : GoodIn wsX0_putByte wsX0_putWord := goodIn_r _ [17, 9, 10, 18, 11, 12, 3, 13, 19] (by decide +kernel) (by decide +kernel)
set_option maxRecDepth 20000 in
theorem gX0_putByte_X0_putWord : GoodIn wsX0_putByte (wsV RX0 28 RX0 yX0_putWord wsX0_putWord) := goodIn_app (goodIn_of _ (by decide +kernel)) ggX0_putByte_X0_putWord
theorem dX0_putByte_0 : decode cX0_putByte 0 = .ok (.iload_n 1, 1) := by decide +kernel
theorem dX0_putByte_1 : decode cX0_putByte 1 = .ok (.invokestatic 25, 3) := by decide +kernel
theorem dX0_putByte_4 : decode cX0_putByte 4 = .ok (.istore_n 3, 1) := by decide +kernel
theorem dX0_putByte_5 : decode cX0_putByte 5 = .ok (.aload_n 0, 1) := by decide +kernel
theorem dX0_putByte_6 : decode cX0_putByte 6 = .ok (.iload_n 1, 1) := by decide +kernel
theorem dX0_putByte_7 : decode cX0_putByte 7 = .ok (.invokevirtual 22, 3) := by decide +kernel
theorem dX0_putByte_10 : decode cX0_putByte 10 = .ok (.sipush 255, 3) := by decide +kernel
theorem dX0_putByte_13 : decode cX0_putByte 13 = .ok (.iload_n 3, 1) := by decide +kernel
theorem dX0_putByte_14 : decode cX0_putByte 14 = .ok (.ishl, 1) := by decide +kernel
theorem dX0_putByte_15 : decode cX0_putByte 15 = .ok (.iconst (-1), 1) := by decide +kernel
theorem dX0_putByte_16 : decode cX0_putByte 16 = .ok (.ixor, 1) := by decide +kernel
theorem dX0_putByte_17 : decode cX0_putByte 17 = .ok (.iand, 1) := by decide +kernel
theorem dX0_putByte_18 : decode cX0_putByte 18 = .ok (.istore 4, 2) := by decide +kernel
theorem dX0_putByte_20 : decode cX0_putByte 20 = .ok (.aload_n 0, 1) := by decide +kernel
theorem dX0_putByte_21 : decode cX0_putByte 21 = .ok (.iload_n 1, 1) := by decide +kernel
theorem dX0_putByte_22 : decode cX0_putByte 22 = .ok (.iload 4, 2) := by decide +kernel
theorem dX0_putByte_24 : decode cX0_putByte 24 = .ok (.iload_n 2, 1) := by decide +kernel
theorem dX0_putByte_25 : decode cX0_putByte 25 = .ok (.sipush 255, 3) := by decide +kernel
theorem dX0_putByte_28 : decode cX0_putByte 28 = .ok (.iand, 1) := by decide +kernel
theorem dX0_putByte_29 : decode cX0_putByte 29 = .ok (.iload_n 3, 1) := by decide +kernel
theorem dX0_putByte_30 : decode cX0_putByte 30 = .ok (.ishl, 1) := by decide +kernel
theorem dX0_putByte_31 : decode cX0_putByte 31 = .ok (.ior, 1) := by decide +kernel
theorem dX0_putByte_32 : decode cX0_putByte 32 = .ok (.invokevirtual 28, 3) := by decide +kernel
theorem dX0_putByte_35 : decode cX0_putByte 35 = .ok (.return_, 1) := by decide +kernel
theorem dX0_indexInPage_0 : decode cX0_indexInPage 0 = .ok (.iload_n 0, 1) := by decide +kernel
theorem dX0_indexInPage_1 : decode cX0_indexInPage 1 = .ok (.sipush 1023, 3) := by decide +kernel
theorem dX0_indexInPage_4 : decode cX0_indexInPage 4 = .ok (.iand, 1) := by decide +kernel
theorem dX0_indexInPage_5 : decode cX0_indexInPage 5 = .ok (.iconst 2, 1) := by decide +kernel
theorem dX0_indexInPage_6 : decode cX0_indexInPage 6 = .ok (.iushr, 1) := by decide +kernel
theorem dX0_indexInPage_7 : decode cX0_indexInPage 7 = .ok (.ireturn, 1) := by decide +kernel
theorem dX0_byteShift_0 : decode cX0_byteShift 0 = .ok (.iconst 3, 1) := by decide +kernel
theorem dX0_byteShift_1 : decode cX0_byteShift 1 = .ok (.iload_n 0, 1) := by decide +kernel
theorem dX0_byteShift_2 : decode cX0_byteShift 2 = .ok (.iconst 3, 1) := by decide +kernel
theorem dX0_byteShift_3 : decode cX0_byteShift 3 = .ok (.iand, 1) := by decide +kernel
theorem dX0_byteShift_4 : decode cX0_byteShift 4 = .ok (.isub, 1) := by decide +kernel
theorem dX0_byteShift_5 : decode cX0_byteShift 5 = .ok (.bipush 8, 2) := by decide +kernel
theorem dX0_byteShift_7 : decode cX0_byteShift 7 = .ok (.imul, 1) := by decide +kernel
theorem dX0_byteShift_8 : decode cX0_byteShift 8 = .ok (.ireturn, 1) := by decide +kernel
set_option maxRecDepth 20000 in
theorem ggX1_init_X0_init : GoodIn wsX1_init wsX0_init := goodIn_r _ [11, 12, 2, 3, 13, 14, 15] (by decide +kernel) (by decide +kernel)
set_option maxRecDepth 20000 in
theorem gX1_init_X0_init_n11 : GoodIn wsX1_init (wsX0_init) := ggX1_init_X0_init
theorem dX1_init_0 : decode cX1_init 0 = .ok (.aload_n 0, 1) := by decide +kernel
theorem dX1_init_1 : decode cX1_init 1 = .ok (.invokespecial 3, 3) := by decide +kernel
theorem dX1_init_4 : decode cX1_init 4 = .ok (.aload_n 0, 1) := by decide +kernel
theorem dX1_init_5 : decode cX1_init 5 = .ok (.new 9, 3) := by decide +kernel
theorem dX1_init_8 : decode cX1_init 8 = .ok (.dup, 1) := by decide +kernel
theorem dX1_init_9 : decode cX1_init 9 = .ok (.invokespecial 11, 3) := by decide +kernel
theorem dX1_init_12 : decode cX1_init 12 = .ok (.putfield 12, 3) := by decide +kernel
theorem dX1_init_15 : decode cX1_init 15 = .ok (.aload_n 0, 1) := by decide +kernel
theorem dX1_init_16 : decode cX1_init 16 = .ok (.bipush 33, 2) := by decide +kernel
theorem dX1_init_18 : decode cX1_init 18 = .ok (.newarray .int, 2) := by decide +kernel
theorem dX1_init_20 : decode cX1_init 20 = .ok (.putfield 16, 3) := by decide +kernel
theorem dX1_init_23 : decode cX1_init 23 = .ok (.return_, 1) := by decide +kernel
set_option maxRecDepth 20000 in
theorem ggX1_poke_X1_isWordPlace : GoodIn wsX1_poke wsX1_isWordPlace := goodIn_r _ [5, 6, 7, 8, 4, 9] (by decide +kernel) (by decide +kernel)
set_option maxRecDepth 20000 in
theorem gX1_poke_X1_isWordPlace : GoodIn wsX1_poke (va_wsS RX1 20 yX1_isWordPlace wsX1_isWordPlace) := goodIn_app (goodIn_of _ (by decide +kernel)) ggX1_poke_X1_isWordPlace
set_option maxRecDepth 20000 in
theorem ggX1_poke_X0_putWord : GoodIn wsX1_poke wsX0_putWord := goodIn_r _ [14, 15, 16, 17, 18, 19, 13, 20, 29] (by decide +kernel) (by decide +kernel)
set_option maxRecDepth 20000 in
theorem gX1_poke_X0_putWord : GoodIn wsX1_poke (wsV RX1 24 RX0 yX0_putWord wsX0_putWord) := goodIn_app (goodIn_of _ (by decide +kernel)) ggX1_poke_X0_putWord
theorem dX1_poke_0 : decode cX1_poke 0 = .ok (.iload_n 1, 1) := by decide +kernel
theorem dX1_poke_1 : decode cX1_poke 1 = .ok (.invokestatic 20, 3) := by decide +kernel
theorem dX1_poke_4 : decode cX1_poke 4 = .ok (.ifCond .ne 5, 3) := by decide +kernel
theorem dX1_poke_7 : decode cX1_poke 7 = .ok (.iconst 0, 1) := by decide +kernel
theorem dX1_poke_8 : decode cX1_poke 8 = .ok (.ireturn, 1) := by decide +kernel
theorem dX1_poke_9 : decode cX1_poke 9 = .ok (.aload_n 0, 1) := by decide +kernel
theorem dX1_poke_10 : decode cX1_poke 10 = .ok (.getfield 12, 3) := by decide +kernel
theorem dX1_poke_13 : decode cX1_poke 13 = .ok (.iload_n 1, 1) := by decide +kernel
theorem dX1_poke_14 : decode cX1_poke 14 = .ok (.iload_n 2, 1) := by decide +kernel
theorem dX1_poke_15 : decode cX1_poke 15 = .ok (.invokevirtual 24, 3) := by decide +kernel
theorem dX1_poke_18 : decode cX1_poke 18 = .ok (.iconst 1, 1) := by decide +kernel
theorem dX1_poke_19 : decode cX1_poke 19 = .ok (.ireturn, 1) := by decide +kernel
set_option maxRecDepth 20000 in
theorem ggX1_set_X1_isSpecial : GoodIn wsX1_set wsX1_isSpecial := goodIn_r _ [5] (by decide +kernel) (by decide +kernel)
set_option maxRecDepth 20000 in
theorem gX1_set_X1_isSpecial : GoodIn wsX1_set (va_wsS RX1 28 yX1_isSpecial wsX1_isSpecial) := goodIn_app (goodIn_of _ (by decide +kernel)) ggX1_set_X1_isSpecial
theorem dX1_set_0 : decode cX1_set 0 = .ok (.iload_n 1, 1) := by decide +kernel
theorem dX1_set_1 : decode cX1_set 1 = .ok (.invokestatic 28, 3) := by decide +kernel
theorem dX1_set_4 : decode cX1_set 4 = .ok (.ifCond .ne 5, 3) := by decide +kernel
theorem dX1_set_7 : decode cX1_set 7 = .ok (.iconst 0, 1) := by decide +kernel
theorem dX1_set_8 : decode cX1_set 8 = .ok (.ireturn, 1) := by decide +kernel
theorem dX1_set_9 : decode cX1_set 9 = .ok (.aload_n 0, 1) := by decide +kernel
theorem dX1_set_10 : decode cX1_set 10 = .ok (.getfield 16, 3) := by decide +kernel
theorem dX1_set_13 : decode cX1_set 13 = .ok (.iload_n 1, 1) := by decide +kernel
theorem dX1_set_14 : decode cX1_set 14 = .ok (.iload_n 1, 1) := by decide +kernel
theorem dX1_set_15 : decode cX1_set 15 = .ok (.bipush 32, 2) := by decide +kernel
theorem dX1_set_17 : decode cX1_set 17 = .ok (.if_icmp .ne 10, 3) := by decide +kernel
theorem dX1_set_20 : decode cX1_set 20 = .ok (.iload_n 2, 1) := by decide +kernel
theorem dX1_set_21 : decode cX1_set 21 = .ok (.bipush 7, 2) := by decide +kernel
theorem dX1_set_23 : decode cX1_set 23 = .ok (.iand, 1) := by decide +kernel
theorem dX1_set_24 : decode cX1_set 24 = .ok (.goto 4, 3) := by decide +kernel
theorem dX1_set_27 : decode cX1_set 27 = .ok (.iload_n 2, 1) := by decide +kernel
theorem dX1_set_28 : decode cX1_set 28 = .ok (.iastore, 1) := by decide +kernel
theorem dX1_set_29 : decode cX1_set 29 = .ok (.iconst 1, 1) := by decide +kernel
theorem dX1_set_30 : decode cX1_set 30 = .ok (.ireturn, 1) := by decide +kernel
set_option maxRecDepth 20000 in
theorem ggX1_code_X1_probe : GoodIn wsX1_code wsX1_probe := goodIn_r _ [7, 8, 9, 10, 11, 12, 13, 6, 14, 15, 16, 17, 18, 19, 20, 21, 22, 23, 24, 25, 26, 27, 28, 29, 30, 31, 32, 33, 34, 35, 36, 37, 38, 39, 40, 41, 42, 43, 54, 55, 56, 57, 58, 59, 60, 61] (by decide +kernel) (by decide +kernel)
set_option maxRecDepth 20000 in
theorem gX1_code_X1_probe : GoodIn wsX1_code (wsV RX1 31 RX1 yX1_probe wsX1_probe) := goodIn_app (goodIn_of _ (by decide +kernel)) ggX1_code_X1_probe
set_option maxRecDepth 20000 in
theorem ggX1_code_X0_wordAt : GoodIn wsX1_code wsX0_wordAt := goodIn_r _ [48, 49, 50, 51, 52, 47, 53, 62] (by decide +kernel) (by decide +kernel)
set_option maxRecDepth 20000 in
theorem gX1_code_X0_wordAt : GoodIn wsX1_code (wsV RX1 39 RX0 yX0_wordAt wsX0_wordAt) := goodIn_app (goodIn_of _ (by decide +kernel)) ggX1_code_X0_wordAt
theorem dX1_code_0 : decode cX1_code 0 = .ok (.aload_n 0, 1) := by decide +kernel
theorem dX1_code_1 : decode cX1_code 1 = .ok (.iload_n 1, 1) := by decide +kernel
theorem dX1_code_2 : decode cX1_code 2 = .ok (.iconst 0, 1) := by decide +kernel
theorem dX1_code_3 : decode cX1_code 3 = .ok (.iconst 1, 1) := by decide +kernel
theorem dX1_code_4 : decode cX1_code 4 = .ok (.invokevirtual 31, 3) := by decide +kernel
theorem dX1_code_7 : decode cX1_code 7 = .ok (.istore_n 2, 1) := by decide +kernel
theorem dX1_code_8 : decode cX1_code 8 = .ok (.iload_n 2, 1) := by decide +kernel
theorem dX1_code_9 : decode cX1_code 9 = .ok (.ifCond .ge 5, 3) := by decide +kernel
theorem dX1_code_12 : decode cX1_code 12 = .ok (.iconst 0, 1) := by decide +kernel
theorem dX1_code_13 : decode cX1_code 13 = .ok (.ireturn, 1) := by decide +kernel
theorem dX1_code_14 : decode cX1_code 14 = .ok (.aload_n 0, 1) := by decide +kernel
theorem dX1_code_15 : decode cX1_code 15 = .ok (.dup, 1) := by decide +kernel
theorem dX1_code_16 : decode cX1_code 16 = .ok (.getfield 35, 3) := by decide +kernel
theorem dX1_code_19 : decode cX1_code 19 = .ok (.iconst 1, 1) := by decide +kernel
theorem dX1_code_20 : decode cX1_code 20 = .ok (.iadd, 1) := by decide +kernel
theorem dX1_code_21 : decode cX1_code 21 = .ok (.putfield 35, 3) := by decide +kernel
theorem dX1_code_24 : decode cX1_code 24 = .ok (.aload_n 0, 1) := by decide +kernel
theorem dX1_code_25 : decode cX1_code 25 = .ok (.getfield 12, 3) := by decide +kernel
theorem dX1_code_28 : decode cX1_code 28 = .ok (.iload_n 2, 1) := by decide +kernel
theorem dX1_code_29 : decode cX1_code 29 = .ok (.invokevirtual 39, 3) := by decide +kernel
theorem dX1_code_32 : decode cX1_code 32 = .ok (.ireturn, 1) := by decide +kernel
set_option maxRecDepth 20000 in
theorem ggX1_load_X1_probe : GoodIn wsX1_load wsX1_probe := goodIn_r _ [7, 8, 9, 10, 11, 12, 13, 6, 14, 15, 16, 17, 18, 19, 20, 21, 22, 23, 24, 25, 26, 27, 28, 29, 30, 31, 32, 33, 34, 35, 36, 37, 38, 39, 40, 41, 42, 43, 62, 63, 64, 65, 66, 67, 68, 69] (by decide +kernel) (by decide +kernel)
set_option maxRecDepth 20000 in
theorem gX1_load_X1_probe : GoodIn wsX1_load (wsV RX1 31 RX1 yX1_probe wsX1_probe) := goodIn_app (goodIn_of _ (by decide +kernel)) ggX1_load_X1_probe
set_option maxRecDepth 20000 in
theorem ggX1_load_X0_wordAt : GoodIn wsX1_load wsX0_wordAt := goodIn_r _ [48, 49, 50, 51, 52, 47, 53, 70] (by decide +kernel) (by decide +kernel)
set_option maxRecDepth 20000 in
theorem gX1_load_X0_wordAt : GoodIn wsX1_load (wsV RX1 39 RX0 yX0_wordAt wsX0_wordAt) := goodIn_app (goodIn_of _ (by decide +kernel)) ggX1_load_X0_wordAt
set_option maxRecDepth 20000 in
theorem ggX1_load_X0_byteAt : GoodIn wsX1_load wsX0_byteAt := goodIn_r _ [57, 58, 45, 46, 47, 48, 49, 50, 51, 52, 53, 59, 60, 61, 70] (by decide +kernel) (by decide +kernel)
set_option maxRecDepth 20000 in
theorem gX1_load_X0_byteAt : GoodIn wsX1_load (wsV RX1 46 RX0 yX0_byteAt wsX0_byteAt) := goodIn_app (goodIn_of _ (by decide +kernel)) ggX1_load_X0_byteAt
theorem dX1_load_0 : decode cX1_load 0 = .ok (.aload_n 0, 1) := by decide +kernel
theorem dX1_load_1 : decode cX1_load 1 = .ok (.iload_n 1, 1) := by decide +kernel
theorem dX1_load_2 : decode cX1_load 2 = .ok (.iconst 1, 1) := by decide +kernel
theorem dX1_load_3 : decode cX1_load 3 = .ok (.iload_n 2, 1) := by decide +kernel
theorem dX1_load_4 : decode cX1_load 4 = .ok (.invokevirtual 31, 3) := by decide +kernel
theorem dX1_load_7 : decode cX1_load 7 = .ok (.istore_n 3, 1) := by decide +kernel
theorem dX1_load_8 : decode cX1_load 8 = .ok (.iload_n 3, 1) := by decide +kernel
theorem dX1_load_9 : decode cX1_load 9 = .ok (.ifCond .ge 5, 3) := by decide +kernel
theorem dX1_load_12 : decode cX1_load 12 = .ok (.iconst 0, 1) := by decide +kernel
theorem dX1_load_13 : decode cX1_load 13 = .ok (.ireturn, 1) := by decide +kernel
theorem dX1_load_14 : decode cX1_load 14 = .ok (.aload_n 0, 1) := by decide +kernel
theorem dX1_load_15 : decode cX1_load 15 = .ok (.dup, 1) := by decide +kernel
theorem dX1_load_16 : decode cX1_load 16 = .ok (.getfield 43, 3) := by decide +kernel
theorem dX1_load_19 : decode cX1_load 19 = .ok (.iconst 1, 1) := by decide +kernel
theorem dX1_load_20 : decode cX1_load 20 = .ok (.iadd, 1) := by decide +kernel
theorem dX1_load_21 : decode cX1_load 21 = .ok (.putfield 43, 3) := by decide +kernel
theorem dX1_load_24 : decode cX1_load 24 = .ok (.iload_n 2, 1) := by decide +kernel
theorem dX1_load_25 : decode cX1_load 25 = .ok (.ifCond .eq 14, 3) := by decide +kernel
theorem dX1_load_28 : decode cX1_load 28 = .ok (.aload_n 0, 1) := by decide +kernel
theorem dX1_load_29 : decode cX1_load 29 = .ok (.getfield 12, 3) := by decide +kernel
theorem dX1_load_32 : decode cX1_load 32 = .ok (.iload_n 3, 1) := by decide +kernel
theorem dX1_load_33 : decode cX1_load 33 = .ok (.invokevirtual 39, 3) := by decide +kernel
theorem dX1_load_36 : decode cX1_load 36 = .ok (.goto 11, 3) := by decide +kernel
theorem dX1_load_39 : decode cX1_load 39 = .ok (.aload_n 0, 1) := by decide +kernel
theorem dX1_load_40 : decode cX1_load 40 = .ok (.getfield 12, 3) := by decide +kernel
theorem dX1_load_43 : decode cX1_load 43 = .ok (.iload_n 3, 1) := by decide +kernel
theorem dX1_load_44 : decode cX1_load 44 = .ok (.invokevirtual 46, 3) := by decide +kernel
theorem dX1_load_47 : decode cX1_load 47 = .ok (.ireturn, 1) := by decide +kernel
set_option maxRecDepth 20000 in
theorem ggX1_store_X1_probe : GoodIn wsX1_store wsX1_probe := goodIn_r _ [7, 8, 9, 10, 11, 12, 13, 6, 14, 15, 16, 17, 18, 19, 20, 21, 22, 23, 24, 25, 26, 27, 28, 29, 30, 31, 32, 33, 34, 35, 36, 37, 38, 39, 40, 41, 42, 43, 67, 68, 69, 70, 71, 72, 73, 74] (by decide +kernel) (by decide +kernel)
set_option maxRecDepth 20000 in
theorem gX1_store_X1_probe : GoodIn wsX1_store (wsV RX1 31 RX1 yX1_probe wsX1_probe) := goodIn_app (goodIn_of _ (by decide +kernel)) ggX1_store_X1_probe
set_option maxRecDepth 20000 in
theorem ggX1_store_X0_putWord : GoodIn wsX1_store wsX0_putWord := goodIn_r _ [48, 49, 50, 51, 52, 53, 47, 54, 75] (by decide +kernel) (by decide +kernel)
set_option maxRecDepth 20000 in
theorem gX1_store_X0_putWord : GoodIn wsX1_store (wsV RX1 24 RX0 yX0_putWord wsX0_putWord) := goodIn_app (goodIn_of _ (by decide +kernel)) ggX1_store_X0_putWord
set_option maxRecDepth 20000 in
theorem ggX1_store_X0_putByte : GoodIn wsX1_store wsX0_putByte := goodIn_r _ [58, 59, 60, 47, 61, 62, 63, 64, 65, 49, 50, 52, 53, 54, 66, 45, 46, 48, 51, 75] (by decide +kernel) (by decide +kernel)
set_option maxRecDepth 20000 in
theorem gX1_store_X0_putByte : GoodIn wsX1_store (wsV RX1 52 RX0 yX0_putByte wsX0_putByte) := goodIn_app (goodIn_of _ (by decide +kernel)) ggX1_store_X0_putByte
theorem dX1_store_0 : decode cX1_store 0 = .ok (.aload_n 0, 1) := by decide +kernel
theorem dX1_store_1 : decode cX1_store 1 = .ok (.iload_n 1, 1) := by decide +kernel
theorem dX1_store_2 : decode cX1_store 2 = .ok (.iconst 2, 1) := by decide +kernel
theorem dX1_store_3 : decode cX1_store 3 = .ok (.iload_n 3, 1) := by decide +kernel
theorem dX1_store_4 : decode cX1_store 4 = .ok (.invokevirtual 31, 3) := by decide +kernel
theorem dX1_store_7 : decode cX1_store 7 = .ok (.istore 4, 2) := by decide +kernel
theorem dX1_store_9 : decode cX1_store 9 = .ok (.iload 4, 2) := by decide +kernel
theorem dX1_store_11 : decode cX1_store 11 = .ok (.ifCond .ge 5, 3) := by decide +kernel
theorem dX1_store_14 : decode cX1_store 14 = .ok (.iconst (-1), 1) := by decide +kernel
theorem dX1_store_15 : decode cX1_store 15 = .ok (.ireturn, 1) := by decide +kernel
theorem dX1_store_16 : decode cX1_store 16 = .ok (.aload_n 0, 1) := by decide +kernel
theorem dX1_store_17 : decode cX1_store 17 = .ok (.dup, 1) := by decide +kernel
theorem dX1_store_18 : decode cX1_store 18 = .ok (.getfield 49, 3) := by decide +kernel
theorem dX1_store_21 : decode cX1_store 21 = .ok (.iconst 1, 1) := by decide +kernel
theorem dX1_store_22 : decode cX1_store 22 = .ok (.iadd, 1) := by decide +kernel
theorem dX1_store_23 : decode cX1_store 23 = .ok (.putfield 49, 3) := by decide +kernel
theorem dX1_store_26 : decode cX1_store 26 = .ok (.iload_n 3, 1) := by decide +kernel
theorem dX1_store_27 : decode cX1_store 27 = .ok (.ifCond .eq 16, 3) := by decide +kernel
theorem dX1_store_30 : decode cX1_store 30 = .ok (.aload_n 0, 1) := by decide +kernel
theorem dX1_store_31 : decode cX1_store 31 = .ok (.getfield 12, 3) := by decide +kernel
theorem dX1_store_34 : decode cX1_store 34 = .ok (.iload 4, 2) := by decide +kernel
theorem dX1_store_36 : decode cX1_store 36 = .ok (.iload_n 2, 1) := by decide +kernel
theorem dX1_store_37 : decode cX1_store 37 = .ok (.invokevirtual 24, 3) := by decide +kernel
theorem dX1_store_40 : decode cX1_store 40 = .ok (.goto 13, 3) := by decide +kernel
theorem dX1_store_43 : decode cX1_store 43 = .ok (.aload_n 0, 1) := by decide +kernel
theorem dX1_store_44 : decode cX1_store 44 = .ok (.getfield 12, 3) := by decide +kernel
theorem dX1_store_47 : decode cX1_store 47 = .ok (.iload 4, 2) := by decide +kernel
theorem dX1_store_49 : decode cX1_store 49 = .ok (.iload_n 2, 1) := by decide +kernel
theorem dX1_store_50 : decode cX1_store 50 = .ok (.invokevirtual 52, 3) := by decide +kernel
theorem dX1_store_53 : decode cX1_store 53 = .ok (.iload 4, 2) := by decide +kernel
theorem dX1_store_55 : decode cX1_store 55 = .ok (.ireturn, 1) := by decide +kernel
set_option maxRecDepth 20000 in
theorem ggX1_find_X1_locate : GoodIn wsX1_find wsX1_locate := goodIn_r _ [5, 6, 7, 8, 4, 9, 10, 11, 12, 13, 14, 15, 16, 17, 18, 19, 20, 21, 22, 23, 24, 25, 26, 27, 28, 29, 30, 31, 32, 33, 34, 35, 36, 37, 38, 39, 40, 41, 42] (by decide +kernel) (by decide +kernel)
set_option maxRecDepth 20000 in
theorem gX1_find_X1_locate : GoodIn wsX1_find (wsV RX1 55 RX1 yX1_locate wsX1_locate) := goodIn_app (goodIn_of _ (by decide +kernel)) ggX1_find_X1_locate
theorem dX1_find_0 : decode cX1_find 0 = .ok (.iload_n 2, 1) := by decide +kernel
theorem dX1_find_1 : decode cX1_find 1 = .ok (.ifCond .lt 8, 3) := by decide +kernel
theorem dX1_find_4 : decode cX1_find 4 = .ok (.iload_n 2, 1) := by decide +kernel
theorem dX1_find_5 : decode cX1_find 5 = .ok (.iconst 2, 1) := by decide +kernel
theorem dX1_find_6 : decode cX1_find 6 = .ok (.if_icmp .le 5, 3) := by decide +kernel
theorem dX1_find_9 : decode cX1_find 9 = .ok (.iconst 0, 1) := by decide +kernel
theorem dX1_find_10 : decode cX1_find 10 = .ok (.ireturn, 1) := by decide +kernel
theorem dX1_find_11 : decode cX1_find 11 = .ok (.aload_n 0, 1) := by decide +kernel
theorem dX1_find_12 : decode cX1_find 12 = .ok (.iload_n 1, 1) := by decide +kernel
theorem dX1_find_13 : decode cX1_find 13 = .ok (.iload_n 2, 1) := by decide +kernel
theorem dX1_find_14 : decode cX1_find 14 = .ok (.iload_n 3, 1) := by decide +kernel
theorem dX1_find_15 : decode cX1_find 15 = .ok (.ifCond .ne 7, 3) := by decide +kernel
theorem dX1_find_18 : decode cX1_find 18 = .ok (.iload_n 2, 1) := by decide +kernel
theorem dX1_find_19 : decode cX1_find 19 = .ok (.ifCond .ne 7, 3) := by decide +kernel
theorem dX1_find_22 : decode cX1_find 22 = .ok (.iconst 1, 1) := by decide +kernel
theorem dX1_find_23 : decode cX1_find 23 = .ok (.goto 4, 3) := by decide +kernel
theorem dX1_find_26 : decode cX1_find 26 = .ok (.iconst 0, 1) := by decide +kernel
theorem dX1_find_27 : decode cX1_find 27 = .ok (.invokevirtual 55, 3) := by decide +kernel
theorem dX1_find_30 : decode cX1_find 30 = .ok (.ireturn, 1) := by decide +kernel
set_option maxRecDepth 20000 in
theorem ggX1_map_X1_setOf : GoodIn wsX1_map wsX1_setOf := goodIn_r _ [5] (by decide +kernel) (by decide +kernel)
set_option maxRecDepth 20000 in
theorem gX1_map_X1_setOf : GoodIn wsX1_map (va_wsS RX1 58 yX1_setOf wsX1_setOf) := goodIn_app (goodIn_of _ (by decide +kernel)) ggX1_map_X1_setOf
set_option maxRecDepth 20000 in
theorem ggX1_map_X1_firstMatch : GoodIn wsX1_map wsX1_firstMatch := goodIn_r _ [8] (by decide +kernel) (by decide +kernel)
set_option maxRecDepth 20000 in
theorem gX1_map_X1_firstMatch : GoodIn wsX1_map (va_wsS RX1 61 yX1_firstMatch wsX1_firstMatch) := goodIn_app (goodIn_of _ (by decide +kernel)) ggX1_map_X1_firstMatch
theorem dX1_map_0 : decode cX1_map 0 = .ok (.iload_n 2, 1) := by decide +kernel
theorem dX1_map_1 : decode cX1_map 1 = .ok (.ifCond .lt 19, 3) := by decide +kernel
theorem dX1_map_4 : decode cX1_map 4 = .ok (.iload_n 2, 1) := by decide +kernel
theorem dX1_map_5 : decode cX1_map 5 = .ok (.bipush 64, 2) := by decide +kernel
theorem dX1_map_7 : decode cX1_map 7 = .ok (.if_icmp .ge 13, 3) := by decide +kernel
theorem dX1_map_10 : decode cX1_map 10 = .ok (.iload_n 3, 1) := by decide +kernel
theorem dX1_map_11 : decode cX1_map 11 = .ok (.ifCond .lt 9, 3) := by decide +kernel
theorem dX1_map_14 : decode cX1_map 14 = .ok (.iload_n 3, 1) := by decide +kernel
theorem dX1_map_15 : decode cX1_map 15 = .ok (.bipush 16, 2) := by decide +kernel
theorem dX1_map_17 : decode cX1_map 17 = .ok (.if_icmp .lt 5, 3) := by decide +kernel
theorem dX1_map_20 : decode cX1_map 20 = .ok (.iconst (-1), 1) := by decide +kernel
theorem dX1_map_21 : decode cX1_map 21 = .ok (.ireturn, 1) := by decide +kernel
theorem dX1_map_22 : decode cX1_map 22 = .ok (.iload_n 1, 1) := by decide +kernel
theorem dX1_map_23 : decode cX1_map 23 = .ok (.invokestatic 58, 3) := by decide +kernel
theorem dX1_map_26 : decode cX1_map 26 = .ok (.istore 5, 2) := by decide +kernel
theorem dX1_map_28 : decode cX1_map 28 = .ok (.iload 4, 2) := by decide +kernel
theorem dX1_map_30 : decode cX1_map 30 = .ok (.invokestatic 61, 3) := by decide +kernel
theorem dX1_map_33 : decode cX1_map 33 = .ok (.iload 5, 2) := by decide +kernel
theorem dX1_map_35 : decode cX1_map 35 = .ok (.iadd, 1) := by decide +kernel
theorem dX1_map_36 : decode cX1_map 36 = .ok (.istore 6, 2) := by decide +kernel
theorem dX1_map_38 : decode cX1_map 38 = .ok (.aload_n 0, 1) := by decide +kernel
theorem dX1_map_39 : decode cX1_map 39 = .ok (.getfield 16, 3) := by decide +kernel
theorem dX1_map_42 : decode cX1_map 42 = .ok (.iload 6, 2) := by decide +kernel
theorem dX1_map_44 : decode cX1_map 44 = .ok (.iload_n 1, 1) := by decide +kernel
theorem dX1_map_45 : decode cX1_map 45 = .ok (.sipush (-1024), 3) := by decide +kernel
theorem dX1_map_48 : decode cX1_map 48 = .ok (.iand, 1) := by decide +kernel
theorem dX1_map_49 : decode cX1_map 49 = .ok (.iconst 1, 1) := by decide +kernel
theorem dX1_map_50 : decode cX1_map 50 = .ok (.ior, 1) := by decide +kernel
theorem dX1_map_51 : decode cX1_map 51 = .ok (.iastore, 1) := by decide +kernel
theorem dX1_map_52 : decode cX1_map 52 = .ok (.aload_n 0, 1) := by decide +kernel
theorem dX1_map_53 : decode cX1_map 53 = .ok (.getfield 16, 3) := by decide +kernel
theorem dX1_map_56 : decode cX1_map 56 = .ok (.iload 6, 2) := by decide +kernel
theorem dX1_map_58 : decode cX1_map 58 = .ok (.bipush 8, 2) := by decide +kernel
theorem dX1_map_60 : decode cX1_map 60 = .ok (.iadd, 1) := by decide +kernel
theorem dX1_map_61 : decode cX1_map 61 = .ok (.iload_n 2, 1) := by decide +kernel
theorem dX1_map_62 : decode cX1_map 62 = .ok (.bipush 10, 2) := by decide +kernel
theorem dX1_map_64 : decode cX1_map 64 = .ok (.ishl, 1) := by decide +kernel
theorem dX1_map_65 : decode cX1_map 65 = .ok (.iload_n 3, 1) := by decide +kernel
theorem dX1_map_66 : decode cX1_map 66 = .ok (.ior, 1) := by decide +kernel
theorem dX1_map_67 : decode cX1_map 67 = .ok (.iastore, 1) := by decide +kernel
theorem dX1_map_68 : decode cX1_map 68 = .ok (.iload 5, 2) := by decide +kernel
theorem dX1_map_70 : decode cX1_map 70 = .ok (.ireturn, 1) := by decide +kernel
set_option maxRecDepth 20000 in
theorem ggX1_forget_X1_countMatches : GoodIn wsX1_forget wsX1_countMatches := goodIn_r _ [6, 1, 7, 8, 5, 9, 10, 11, 12, 13, 14, 15, 16, 17, 18, 19, 20] (by decide +kernel) (by decide +kernel)
set_option maxRecDepth 20000 in
theorem gX1_forget_X1_countMatches : GoodIn wsX1_forget (wsV RX1 65 RX1 yX1_countMatches wsX1_countMatches) := goodIn_app (goodIn_of _ (by decide +kernel)) ggX1_forget_X1_countMatches
set_option maxRecDepth 20000 in
theorem ggX1_forget_X1_firstMatch : GoodIn wsX1_forget wsX1_firstMatch := goodIn_r _ [9] (by decide +kernel) (by decide +kernel)
set_option maxRecDepth 20000 in
theorem gX1_forget_X1_firstMatch : GoodIn wsX1_forget (va_wsS RX1 61 yX1_firstMatch wsX1_firstMatch) := goodIn_app (goodIn_of _ (by decide +kernel)) ggX1_forget_X1_firstMatch
theorem dX1_forget_0 : decode cX1_forget 0 = .ok (.aload_n 0, 1) := by decide +kernel
theorem dX1_forget_1 : decode cX1_forget 1 = .ok (.iload_n 1, 1) := by decide +kernel
theorem dX1_forget_2 : decode cX1_forget 2 = .ok (.invokevirtual 65, 3) := by decide +kernel
theorem dX1_forget_5 : decode cX1_forget 5 = .ok (.istore_n 2, 1) := by decide +kernel
theorem dX1_forget_6 : decode cX1_forget 6 = .ok (.iload_n 1, 1) := by decide +kernel
theorem dX1_forget_7 : decode cX1_forget 7 = .ok (.invokestatic 61, 3) := by decide +kernel
theorem dX1_forget_10 : decode cX1_forget 10 = .ok (.istore_n 3, 1) := by decide +kernel
theorem dX1_forget_11 : decode cX1_forget 11 = .ok (.iconst 0, 1) := by decide +kernel
theorem dX1_forget_12 : decode cX1_forget 12 = .ok (.istore 4, 2) := by decide +kernel
theorem dX1_forget_14 : decode cX1_forget 14 = .ok (.iload 4, 2) := by decide +kernel
theorem dX1_forget_16 : decode cX1_forget 16 = .ok (.bipush 8, 2) := by decide +kernel
theorem dX1_forget_18 : decode cX1_forget 18 = .ok (.if_icmp .ge 23, 3) := by decide +kernel
theorem dX1_forget_21 : decode cX1_forget 21 = .ok (.aload_n 0, 1) := by decide +kernel
theorem dX1_forget_22 : decode cX1_forget 22 = .ok (.getfield 16, 3) := by decide +kernel
theorem dX1_forget_25 : decode cX1_forget 25 = .ok (.iload_n 3, 1) := by decide +kernel
theorem dX1_forget_26 : decode cX1_forget 26 = .ok (.iload 4, 2) := by decide +kernel
theorem dX1_forget_28 : decode cX1_forget 28 = .ok (.iadd, 1) := by decide +kernel
theorem dX1_forget_29 : decode cX1_forget 29 = .ok (.dup2, 1) := by decide +kernel
theorem dX1_forget_30 : decode cX1_forget 30 = .ok (.iaload, 1) := by decide +kernel
theorem dX1_forget_31 : decode cX1_forget 31 = .ok (.bipush (-2), 2) := by decide +kernel
theorem dX1_forget_33 : decode cX1_forget 33 = .ok (.iand, 1) := by decide +kernel
theorem dX1_forget_34 : decode cX1_forget 34 = .ok (.iastore, 1) := by decide +kernel
theorem dX1_forget_35 : decode cX1_forget 35 = .ok (.iinc 4 1, 3) := by decide +kernel
theorem dX1_forget_38 : decode cX1_forget 38 = .ok (.goto (-24), 3) := by decide +kernel
theorem dX1_forget_41 : decode cX1_forget 41 = .ok (.iload_n 2, 1) := by decide +kernel
theorem dX1_forget_42 : decode cX1_forget 42 = .ok (.ireturn, 1) := by decide +kernel
set_option maxRecDepth 20000 in
theorem ggX1_special_X1_isSpecial : GoodIn wsX1_special wsX1_isSpecial := goodIn_r _ [5] (by decide +kernel) (by decide +kernel)
set_option maxRecDepth 20000 in
theorem gX1_special_X1_isSpecial : GoodIn wsX1_special (va_wsS RX1 28 yX1_isSpecial wsX1_isSpecial) := goodIn_app (goodIn_of _ (by decide +kernel)) ggX1_special_X1_isSpecial
theorem dX1_special_0 : decode cX1_special 0 = .ok (.iload_n 1, 1) := by decide +kernel
theorem dX1_special_1 : decode cX1_special 1 = .ok (.invokestatic 28, 3) := by decide +kernel
theorem dX1_special_4 : decode cX1_special 4 = .ok (.ifCond .eq 12, 3) := by decide +kernel
theorem dX1_special_7 : decode cX1_special 7 = .ok (.aload_n 0, 1) := by decide +kernel
theorem dX1_special_8 : decode cX1_special 8 = .ok (.getfield 16, 3) := by decide +kernel
theorem dX1_special_11 : decode cX1_special 11 = .ok (.iload_n 1, 1) := by decide +kernel
theorem dX1_special_12 : decode cX1_special 12 = .ok (.iaload, 1) := by decide +kernel
theorem dX1_special_13 : decode cX1_special 13 = .ok (.goto 4, 3) := by decide +kernel
theorem dX1_special_16 : decode cX1_special 16 = .ok (.iconst 0, 1) := by decide +kernel
theorem dX1_special_17 : decode cX1_special 17 = .ok (.ireturn, 1) := by decide +kernel
set_option maxRecDepth 20000 in
theorem ggX1_word_X1_isWordPlace : GoodIn wsX1_word wsX1_isWordPlace := goodIn_r _ [5, 6, 7, 8, 4, 9] (by decide +kernel) (by decide +kernel)
set_option maxRecDepth 20000 in
theorem gX1_word_X1_isWordPlace : GoodIn wsX1_word (va_wsS RX1 20 yX1_isWordPlace wsX1_isWordPlace) := goodIn_app (goodIn_of _ (by decide +kernel)) ggX1_word_X1_isWordPlace
set_option maxRecDepth 20000 in
theorem ggX1_word_X0_wordAt : GoodIn wsX1_word wsX0_wordAt := goodIn_r _ [14, 15, 16, 17, 18, 13, 19, 28] (by decide +kernel) (by decide +kernel)
set_option maxRecDepth 20000 in
theorem gX1_word_X0_wordAt : GoodIn wsX1_word (wsV RX1 39 RX0 yX0_wordAt wsX0_wordAt) := goodIn_app (goodIn_of _ (by decide +kernel)) ggX1_word_X0_wordAt
theorem dX1_word_0 : decode cX1_word 0 = .ok (.iload_n 1, 1) := by decide +kernel
theorem dX1_word_1 : decode cX1_word 1 = .ok (.invokestatic 20, 3) := by decide +kernel
theorem dX1_word_4 : decode cX1_word 4 = .ok (.ifCond .eq 14, 3) := by decide +kernel
theorem dX1_word_7 : decode cX1_word 7 = .ok (.aload_n 0, 1) := by decide +kernel
theorem dX1_word_8 : decode cX1_word 8 = .ok (.getfield 12, 3) := by decide +kernel
theorem dX1_word_11 : decode cX1_word 11 = .ok (.iload_n 1, 1) := by decide +kernel
theorem dX1_word_12 : decode cX1_word 12 = .ok (.invokevirtual 39, 3) := by decide +kernel
theorem dX1_word_15 : decode cX1_word 15 = .ok (.goto 4, 3) := by decide +kernel
theorem dX1_word_18 : decode cX1_word 18 = .ok (.iconst 0, 1) := by decide +kernel
theorem dX1_word_19 : decode cX1_word 19 = .ok (.ireturn, 1) := by decide +kernel
set_option maxRecDepth 20000 in
theorem ggX1_look_X1_countMatches : GoodIn wsX1_look wsX1_countMatches := goodIn_r _ [11, 12, 13, 14, 10, 15, 16, 17, 18, 19, 20, 21, 22, 23, 24, 25, 26] (by decide +kernel) (by decide +kernel)
set_option maxRecDepth 20000 in
theorem gX1_look_X1_countMatches : GoodIn wsX1_look (wsV RX1 65 RX1 yX1_countMatches wsX1_countMatches) := goodIn_app (goodIn_of _ (by decide +kernel)) ggX1_look_X1_countMatches
theorem dX1_look_0 : decode cX1_look 0 = .ok (.iload_n 1, 1) := by decide +kernel
theorem dX1_look_1 : decode cX1_look 1 = .ok (.tableswitch 89 0 7 #[47, 52, 57, 62, 67, 72, 77, 83], 47) := by decide +kernel
theorem dX1_look_48 : decode cX1_look 48 = .ok (.aload_n 0, 1) := by decide +kernel
theorem dX1_look_49 : decode cX1_look 49 = .ok (.getfield 68, 3) := by decide +kernel
theorem dX1_look_52 : decode cX1_look 52 = .ok (.ireturn, 1) := by decide +kernel
theorem dX1_look_53 : decode cX1_look 53 = .ok (.aload_n 0, 1) := by decide +kernel
theorem dX1_look_54 : decode cX1_look 54 = .ok (.getfield 71, 3) := by decide +kernel
theorem dX1_look_57 : decode cX1_look 57 = .ok (.ireturn, 1) := by decide +kernel
theorem dX1_look_58 : decode cX1_look 58 = .ok (.aload_n 0, 1) := by decide +kernel
theorem dX1_look_59 : decode cX1_look 59 = .ok (.getfield 74, 3) := by decide +kernel
theorem dX1_look_62 : decode cX1_look 62 = .ok (.ireturn, 1) := by decide +kernel
theorem dX1_look_63 : decode cX1_look 63 = .ok (.aload_n 0, 1) := by decide +kernel
theorem dX1_look_64 : decode cX1_look 64 = .ok (.getfield 35, 3) := by decide +kernel
theorem dX1_look_67 : decode cX1_look 67 = .ok (.ireturn, 1) := by decide +kernel
theorem dX1_look_68 : decode cX1_look 68 = .ok (.aload_n 0, 1) := by decide +kernel
theorem dX1_look_69 : decode cX1_look 69 = .ok (.getfield 43, 3) := by decide +kernel
theorem dX1_look_72 : decode cX1_look 72 = .ok (.ireturn, 1) := by decide +kernel
theorem dX1_look_73 : decode cX1_look 73 = .ok (.aload_n 0, 1) := by decide +kernel
theorem dX1_look_74 : decode cX1_look 74 = .ok (.getfield 49, 3) := by decide +kernel
theorem dX1_look_77 : decode cX1_look 77 = .ok (.ireturn, 1) := by decide +kernel
theorem dX1_look_78 : decode cX1_look 78 = .ok (.aload_n 0, 1) := by decide +kernel
theorem dX1_look_79 : decode cX1_look 79 = .ok (.iconst 0, 1) := by decide +kernel
theorem dX1_look_80 : decode cX1_look 80 = .ok (.invokevirtual 65, 3) := by decide +kernel
theorem dX1_look_83 : decode cX1_look 83 = .ok (.ireturn, 1) := by decide +kernel
theorem dX1_look_84 : decode cX1_look 84 = .ok (.aload_n 0, 1) := by decide +kernel
theorem dX1_look_85 : decode cX1_look 85 = .ok (.iconst 1, 1) := by decide +kernel
theorem dX1_look_86 : decode cX1_look 86 = .ok (.invokevirtual 65, 3) := by decide +kernel
theorem dX1_look_89 : decode cX1_look 89 = .ok (.ireturn, 1) := by decide +kernel
theorem dX1_look_90 : decode cX1_look 90 = .ok (.iconst (-1), 1) := by decide +kernel
theorem dX1_look_91 : decode cX1_look 91 = .ok (.ireturn, 1) := by decide +kernel
set_option maxRecDepth 20000 in
theorem ggX1_probe_X1_locate : GoodIn wsX1_probe wsX1_locate := goodIn_r _ [8, 9, 10, 11, 7, 12, 13, 14, 15, 16, 17, 18, 19, 20, 21, 22, 23, 24, 25, 26, 27, 28, 29, 30, 31, 32, 33, 34, 35, 36, 37, 38, 39, 40, 41, 42, 43, 44, 45] (by decide +kernel) (by decide +kernel)
set_option maxRecDepth 20000 in
theorem gX1_probe_X1_locate : GoodIn wsX1_probe (wsV RX1 55 RX1 yX1_locate wsX1_locate) := goodIn_app (goodIn_of _ (by decide +kernel)) ggX1_probe_X1_locate
theorem dX1_probe_0 : decode cX1_probe 0 = .ok (.aload_n 0, 1) := by decide +kernel
theorem dX1_probe_1 : decode cX1_probe 1 = .ok (.iload_n 1, 1) := by decide +kernel
theorem dX1_probe_2 : decode cX1_probe 2 = .ok (.iload_n 2, 1) := by decide +kernel
theorem dX1_probe_3 : decode cX1_probe 3 = .ok (.iload_n 3, 1) := by decide +kernel
theorem dX1_probe_4 : decode cX1_probe 4 = .ok (.invokevirtual 55, 3) := by decide +kernel
theorem dX1_probe_7 : decode cX1_probe 7 = .ok (.istore 4, 2) := by decide +kernel
theorem dX1_probe_9 : decode cX1_probe 9 = .ok (.iload 4, 2) := by decide +kernel
theorem dX1_probe_11 : decode cX1_probe 11 = .ok (.ifCond .ge 25, 3) := by decide +kernel
theorem dX1_probe_14 : decode cX1_probe 14 = .ok (.aload_n 0, 1) := by decide +kernel
theorem dX1_probe_15 : decode cX1_probe 15 = .ok (.dup, 1) := by decide +kernel
theorem dX1_probe_16 : decode cX1_probe 16 = .ok (.getfield 68, 3) := by decide +kernel
theorem dX1_probe_19 : decode cX1_probe 19 = .ok (.iconst 1, 1) := by decide +kernel
theorem dX1_probe_20 : decode cX1_probe 20 = .ok (.iadd, 1) := by decide +kernel
theorem dX1_probe_21 : decode cX1_probe 21 = .ok (.putfield 68, 3) := by decide +kernel
theorem dX1_probe_24 : decode cX1_probe 24 = .ok (.aload_n 0, 1) := by decide +kernel
theorem dX1_probe_25 : decode cX1_probe 25 = .ok (.iload 4, 2) := by decide +kernel
theorem dX1_probe_27 : decode cX1_probe 27 = .ok (.ineg, 1) := by decide +kernel
theorem dX1_probe_28 : decode cX1_probe 28 = .ok (.putfield 71, 3) := by decide +kernel
theorem dX1_probe_31 : decode cX1_probe 31 = .ok (.aload_n 0, 1) := by decide +kernel
theorem dX1_probe_32 : decode cX1_probe 32 = .ok (.iload_n 1, 1) := by decide +kernel
theorem dX1_probe_33 : decode cX1_probe 33 = .ok (.putfield 74, 3) := by decide +kernel
theorem dX1_probe_36 : decode cX1_probe 36 = .ok (.iload 4, 2) := by decide +kernel
theorem dX1_probe_38 : decode cX1_probe 38 = .ok (.ireturn, 1) := by decide +kernel
set_option maxRecDepth 20000 in
theorem ggX1_locate_X1_isAligned : GoodIn wsX1_locate wsX1_isAligned := goodIn_r _ [5] (by decide +kernel) (by decide +kernel)
set_option maxRecDepth 20000 in
theorem gX1_locate_X1_isAligned : GoodIn wsX1_locate (va_wsS RX1 77 yX1_isAligned wsX1_isAligned) := goodIn_app (goodIn_of _ (by decide +kernel)) ggX1_locate_X1_isAligned
set_option maxRecDepth 20000 in
theorem ggX1_locate_X1_isMapped : GoodIn wsX1_locate wsX1_isMapped := goodIn_r _ [9, 1, 31, 32, 33, 34, 35, 36, 37, 38] (by decide +kernel) (by decide +kernel)
set_option maxRecDepth 20000 in
theorem gX1_locate_X1_isMapped : GoodIn wsX1_locate (wsV RX1 80 RX1 yX1_isMapped wsX1_isMapped) := goodIn_app (goodIn_of _ (by decide +kernel)) ggX1_locate_X1_isMapped
set_option maxRecDepth 20000 in
theorem ggX1_locate_X1_within : GoodIn wsX1_locate wsX1_within := goodIn_r _ [12, 13, 14] (by decide +kernel) (by decide +kernel)
set_option maxRecDepth 20000 in
theorem gX1_locate_X1_within : GoodIn wsX1_locate (va_wsS RX1 83 yX1_within wsX1_within) := goodIn_app (goodIn_of _ (by decide +kernel)) ggX1_locate_X1_within
set_option maxRecDepth 20000 in
theorem ggX1_locate_X1_firstMatch : GoodIn wsX1_locate wsX1_firstMatch := goodIn_r _ [17] (by decide +kernel) (by decide +kernel)
set_option maxRecDepth 20000 in
theorem gX1_locate_X1_firstMatch : GoodIn wsX1_locate (va_wsS RX1 61 yX1_firstMatch wsX1_firstMatch) := goodIn_app (goodIn_of _ (by decide +kernel)) ggX1_locate_X1_firstMatch
set_option maxRecDepth 20000 in
theorem ggX1_locate_X1_setOf : GoodIn wsX1_locate wsX1_setOf := goodIn_r _ [20] (by decide +kernel) (by decide +kernel)
set_option maxRecDepth 20000 in
theorem gX1_locate_X1_setOf : GoodIn wsX1_locate (va_wsS RX1 58 yX1_setOf wsX1_setOf) := goodIn_app (goodIn_of _ (by decide +kernel)) ggX1_locate_X1_setOf
set_option maxRecDepth 20000 in
theorem ggX1_locate_X1_isOfPage : GoodIn wsX1_locate wsX1_isOfPage := goodIn_r _ [23, 24, 25, 4, 26] (by decide +kernel) (by decide +kernel)
set_option maxRecDepth 20000 in
theorem gX1_locate_X1_isOfPage : GoodIn wsX1_locate (va_wsS RX1 87 yX1_isOfPage wsX1_isOfPage) := goodIn_app (goodIn_of _ (by decide +kernel)) ggX1_locate_X1_isOfPage
set_option maxRecDepth 20000 in
theorem ggX1_locate_X1_neededRight : GoodIn wsX1_locate wsX1_neededRight := goodIn_r _ [30, 1, 31, 32, 33, 34, 35, 36, 37, 38] (by decide +kernel) (by decide +kernel)
set_option maxRecDepth 20000 in
theorem gX1_locate_X1_neededRight : GoodIn wsX1_locate (wsV RX1 91 RX1 yX1_neededRight wsX1_neededRight) := goodIn_app (goodIn_of _ (by decide +kernel)) ggX1_locate_X1_neededRight
theorem dX1_locate_0 : decode cX1_locate 0 = .ok (.iload_n 3, 1) := by decide +kernel
theorem dX1_locate_1 : decode cX1_locate 1 = .ok (.ifCond .eq 13, 3) := by decide +kernel
theorem dX1_locate_4 : decode cX1_locate 4 = .ok (.iload_n 1, 1) := by decide +kernel
theorem dX1_locate_5 : decode cX1_locate 5 = .ok (.invokestatic 77, 3) := by decide +kernel
theorem dX1_locate_8 : decode cX1_locate 8 = .ok (.ifCond .ne 6, 3) := by decide +kernel
theorem dX1_locate_11 : decode cX1_locate 11 = .ok (.bipush (-6), 2) := by decide +kernel
theorem dX1_locate_13 : decode cX1_locate 13 = .ok (.ireturn, 1) := by decide +kernel
theorem dX1_locate_14 : decode cX1_locate 14 = .ok (.aload_n 0, 1) := by decide +kernel
theorem dX1_locate_15 : decode cX1_locate 15 = .ok (.iload_n 2, 1) := by decide +kernel
theorem dX1_locate_16 : decode cX1_locate 16 = .ok (.invokevirtual 80, 3) := by decide +kernel
theorem dX1_locate_19 : decode cX1_locate 19 = .ok (.ifCond .ne 9, 3) := by decide +kernel
theorem dX1_locate_22 : decode cX1_locate 22 = .ok (.iload_n 1, 1) := by decide +kernel
theorem dX1_locate_23 : decode cX1_locate 23 = .ok (.iload_n 2, 1) := by decide +kernel
theorem dX1_locate_24 : decode cX1_locate 24 = .ok (.invokestatic 83, 3) := by decide +kernel
theorem dX1_locate_27 : decode cX1_locate 27 = .ok (.ireturn, 1) := by decide +kernel
theorem dX1_locate_28 : decode cX1_locate 28 = .ok (.iload_n 2, 1) := by decide +kernel
theorem dX1_locate_29 : decode cX1_locate 29 = .ok (.ifCond .eq 7, 3) := by decide +kernel
theorem dX1_locate_32 : decode cX1_locate 32 = .ok (.iconst 1, 1) := by decide +kernel
theorem dX1_locate_33 : decode cX1_locate 33 = .ok (.goto 4, 3) := by decide +kernel
theorem dX1_locate_36 : decode cX1_locate 36 = .ok (.iconst 0, 1) := by decide +kernel
theorem dX1_locate_37 : decode cX1_locate 37 = .ok (.invokestatic 61, 3) := by decide +kernel
theorem dX1_locate_40 : decode cX1_locate 40 = .ok (.iload_n 1, 1) := by decide +kernel
theorem dX1_locate_41 : decode cX1_locate 41 = .ok (.invokestatic 58, 3) := by decide +kernel
theorem dX1_locate_44 : decode cX1_locate 44 = .ok (.iadd, 1) := by decide +kernel
theorem dX1_locate_45 : decode cX1_locate 45 = .ok (.istore 4, 2) := by decide +kernel
theorem dX1_locate_47 : decode cX1_locate 47 = .ok (.aload_n 0, 1) := by decide +kernel
theorem dX1_locate_48 : decode cX1_locate 48 = .ok (.getfield 16, 3) := by decide +kernel
theorem dX1_locate_51 : decode cX1_locate 51 = .ok (.iload 4, 2) := by decide +kernel
theorem dX1_locate_53 : decode cX1_locate 53 = .ok (.iaload, 1) := by decide +kernel
theorem dX1_locate_54 : decode cX1_locate 54 = .ok (.iload_n 1, 1) := by decide +kernel
theorem dX1_locate_55 : decode cX1_locate 55 = .ok (.invokestatic 87, 3) := by decide +kernel
theorem dX1_locate_58 : decode cX1_locate 58 = .ok (.ifCond .ne 15, 3) := by decide +kernel
theorem dX1_locate_61 : decode cX1_locate 61 = .ok (.iload_n 2, 1) := by decide +kernel
theorem dX1_locate_62 : decode cX1_locate 62 = .ok (.ifCond .ne 8, 3) := by decide +kernel
theorem dX1_locate_65 : decode cX1_locate 65 = .ok (.bipush (-10), 2) := by decide +kernel
theorem dX1_locate_67 : decode cX1_locate 67 = .ok (.goto 5, 3) := by decide +kernel
theorem dX1_locate_70 : decode cX1_locate 70 = .ok (.bipush (-9), 2) := by decide +kernel
theorem dX1_locate_72 : decode cX1_locate 72 = .ok (.ireturn, 1) := by decide +kernel
theorem dX1_locate_73 : decode cX1_locate 73 = .ok (.aload_n 0, 1) := by decide +kernel
theorem dX1_locate_74 : decode cX1_locate 74 = .ok (.getfield 16, 3) := by decide +kernel
theorem dX1_locate_77 : decode cX1_locate 77 = .ok (.iload 4, 2) := by decide +kernel
theorem dX1_locate_79 : decode cX1_locate 79 = .ok (.bipush 8, 2) := by decide +kernel
theorem dX1_locate_81 : decode cX1_locate 81 = .ok (.iadd, 1) := by decide +kernel
theorem dX1_locate_82 : decode cX1_locate 82 = .ok (.iaload, 1) := by decide +kernel
theorem dX1_locate_83 : decode cX1_locate 83 = .ok (.istore 5, 2) := by decide +kernel
theorem dX1_locate_85 : decode cX1_locate 85 = .ok (.iload 5, 2) := by decide +kernel
theorem dX1_locate_87 : decode cX1_locate 87 = .ok (.aload_n 0, 1) := by decide +kernel
theorem dX1_locate_88 : decode cX1_locate 88 = .ok (.iload_n 2, 1) := by decide +kernel
theorem dX1_locate_89 : decode cX1_locate 89 = .ok (.invokevirtual 91, 3) := by decide +kernel
theorem dX1_locate_92 : decode cX1_locate 92 = .ok (.iand, 1) := by decide +kernel
theorem dX1_locate_93 : decode cX1_locate 93 = .ok (.ifCond .ne 15, 3) := by decide +kernel
theorem dX1_locate_96 : decode cX1_locate 96 = .ok (.iload_n 2, 1) := by decide +kernel
theorem dX1_locate_97 : decode cX1_locate 97 = .ok (.ifCond .ne 8, 3) := by decide +kernel
theorem dX1_locate_100 : decode cX1_locate 100 = .ok (.bipush (-4), 2) := by decide +kernel
theorem dX1_locate_102 : decode cX1_locate 102 = .ok (.goto 5, 3) := by decide +kernel
theorem dX1_locate_105 : decode cX1_locate 105 = .ok (.bipush (-3), 2) := by decide +kernel
theorem dX1_locate_107 : decode cX1_locate 107 = .ok (.ireturn, 1) := by decide +kernel
theorem dX1_locate_108 : decode cX1_locate 108 = .ok (.iload 5, 2) := by decide +kernel
theorem dX1_locate_110 : decode cX1_locate 110 = .ok (.sipush (-1024), 3) := by decide +kernel
theorem dX1_locate_113 : decode cX1_locate 113 = .ok (.iand, 1) := by decide +kernel
theorem dX1_locate_114 : decode cX1_locate 114 = .ok (.iload_n 1, 1) := by decide +kernel
theorem dX1_locate_115 : decode cX1_locate 115 = .ok (.sipush 1023, 3) := by decide +kernel
theorem dX1_locate_118 : decode cX1_locate 118 = .ok (.iand, 1) := by decide +kernel
theorem dX1_locate_119 : decode cX1_locate 119 = .ok (.ior, 1) := by decide +kernel
theorem dX1_locate_120 : decode cX1_locate 120 = .ok (.iload_n 2, 1) := by decide +kernel
theorem dX1_locate_121 : decode cX1_locate 121 = .ok (.invokestatic 83, 3) := by decide +kernel
theorem dX1_locate_124 : decode cX1_locate 124 = .ok (.ireturn, 1) := by decide +kernel
theorem dX1_within_0 : decode cX1_within 0 = .ok (.iload_n 1, 1) := by decide +kernel
theorem dX1_within_1 : decode cX1_within 1 = .ok (.iconst 2, 1) := by decide +kernel
theorem dX1_within_2 : decode cX1_within 2 = .ok (.if_icmp .ne 8, 3) := by decide +kernel
theorem dX1_within_5 : decode cX1_within 5 = .ok (.ldc 94, 2) := by decide +kernel
theorem dX1_within_7 : decode cX1_within 7 = .ok (.goto 4, 3) := by decide +kernel
theorem dX1_within_10 : decode cX1_within 10 = .ok (.iconst 0, 1) := by decide +kernel
theorem dX1_within_11 : decode cX1_within 11 = .ok (.istore_n 2, 1) := by decide +kernel
theorem dX1_within_12 : decode cX1_within 12 = .ok (.iload_n 1, 1) := by decide +kernel
theorem dX1_within_13 : decode cX1_within 13 = .ok (.ifCond .ne 8, 3) := by decide +kernel
theorem dX1_within_16 : decode cX1_within 16 = .ok (.ldc 94, 2) := by decide +kernel
theorem dX1_within_18 : decode cX1_within 18 = .ok (.goto 5, 3) := by decide +kernel
theorem dX1_within_21 : decode cX1_within 21 = .ok (.ldc 95, 2) := by decide +kernel
theorem dX1_within_23 : decode cX1_within 23 = .ok (.istore_n 3, 1) := by decide +kernel
theorem dX1_within_24 : decode cX1_within 24 = .ok (.iload_n 0, 1) := by decide +kernel
theorem dX1_within_25 : decode cX1_within 25 = .ok (.iload_n 2, 1) := by decide +kernel
theorem dX1_within_26 : decode cX1_within 26 = .ok (.if_icmp .lt 12, 3) := by decide +kernel
theorem dX1_within_29 : decode cX1_within 29 = .ok (.iload_n 0, 1) := by decide +kernel
theorem dX1_within_30 : decode cX1_within 30 = .ok (.iload_n 3, 1) := by decide +kernel
theorem dX1_within_31 : decode cX1_within 31 = .ok (.if_icmp .ge 7, 3) := by decide +kernel
theorem dX1_within_34 : decode cX1_within 34 = .ok (.iload_n 0, 1) := by decide +kernel
theorem dX1_within_35 : decode cX1_within 35 = .ok (.goto 5, 3) := by decide +kernel
theorem dX1_within_38 : decode cX1_within 38 = .ok (.bipush (-2), 2) := by decide +kernel
theorem dX1_within_40 : decode cX1_within 40 = .ok (.ireturn, 1) := by decide +kernel
theorem dX1_isMapped_0 : decode cX1_isMapped 0 = .ok (.iload_n 1, 1) := by decide +kernel
theorem dX1_isMapped_1 : decode cX1_isMapped 1 = .ok (.ifCond .ne 7, 3) := by decide +kernel
theorem dX1_isMapped_4 : decode cX1_isMapped 4 = .ok (.iconst 2, 1) := by decide +kernel
theorem dX1_isMapped_5 : decode cX1_isMapped 5 = .ok (.goto 4, 3) := by decide +kernel
theorem dX1_isMapped_8 : decode cX1_isMapped 8 = .ok (.iconst 4, 1) := by decide +kernel
theorem dX1_isMapped_9 : decode cX1_isMapped 9 = .ok (.istore_n 2, 1) := by decide +kernel
theorem dX1_isMapped_10 : decode cX1_isMapped 10 = .ok (.aload_n 0, 1) := by decide +kernel
theorem dX1_isMapped_11 : decode cX1_isMapped 11 = .ok (.getfield 16, 3) := by decide +kernel
theorem dX1_isMapped_14 : decode cX1_isMapped 14 = .ok (.bipush 32, 2) := by decide +kernel
theorem dX1_isMapped_16 : decode cX1_isMapped 16 = .ok (.iaload, 1) := by decide +kernel
theorem dX1_isMapped_17 : decode cX1_isMapped 17 = .ok (.iload_n 2, 1) := by decide +kernel
theorem dX1_isMapped_18 : decode cX1_isMapped 18 = .ok (.iand, 1) := by decide +kernel
theorem dX1_isMapped_19 : decode cX1_isMapped 19 = .ok (.ifCond .eq 7, 3) := by decide +kernel
theorem dX1_isMapped_22 : decode cX1_isMapped 22 = .ok (.iconst 1, 1) := by decide +kernel
theorem dX1_isMapped_23 : decode cX1_isMapped 23 = .ok (.goto 4, 3) := by decide +kernel
theorem dX1_isMapped_26 : decode cX1_isMapped 26 = .ok (.iconst 0, 1) := by decide +kernel
theorem dX1_isMapped_27 : decode cX1_isMapped 27 = .ok (.ireturn, 1) := by decide +kernel
theorem dX1_neededRight_0 : decode cX1_neededRight 0 = .ok (.iload_n 1, 1) := by decide +kernel
theorem dX1_neededRight_1 : decode cX1_neededRight 1 = .ok (.iconst 2, 1) := by decide +kernel
theorem dX1_neededRight_2 : decode cX1_neededRight 2 = .ok (.if_icmp .ne 7, 3) := by decide +kernel
theorem dX1_neededRight_5 : decode cX1_neededRight 5 = .ok (.iconst 2, 1) := by decide +kernel
theorem dX1_neededRight_6 : decode cX1_neededRight 6 = .ok (.goto 4, 3) := by decide +kernel
theorem dX1_neededRight_9 : decode cX1_neededRight 9 = .ok (.iconst 1, 1) := by decide +kernel
theorem dX1_neededRight_10 : decode cX1_neededRight 10 = .ok (.istore_n 2, 1) := by decide +kernel
theorem dX1_neededRight_11 : decode cX1_neededRight 11 = .ok (.aload_n 0, 1) := by decide +kernel
theorem dX1_neededRight_12 : decode cX1_neededRight 12 = .ok (.getfield 16, 3) := by decide +kernel
theorem dX1_neededRight_15 : decode cX1_neededRight 15 = .ok (.bipush 32, 2) := by decide +kernel
theorem dX1_neededRight_17 : decode cX1_neededRight 17 = .ok (.iaload, 1) := by decide +kernel
theorem dX1_neededRight_18 : decode cX1_neededRight 18 = .ok (.iconst 1, 1) := by decide +kernel
theorem dX1_neededRight_19 : decode cX1_neededRight 19 = .ok (.iand, 1) := by decide +kernel
theorem dX1_neededRight_20 : decode cX1_neededRight 20 = .ok (.ifCond .eq 7, 3) := by decide +kernel
theorem dX1_neededRight_23 : decode cX1_neededRight 23 = .ok (.iconst 1, 1) := by decide +kernel
theorem dX1_neededRight_24 : decode cX1_neededRight 24 = .ok (.goto 4, 3) := by decide +kernel
theorem dX1_neededRight_27 : decode cX1_neededRight 27 = .ok (.iconst 0, 1) := by decide +kernel
theorem dX1_neededRight_28 : decode cX1_neededRight 28 = .ok (.istore_n 3, 1) := by decide +kernel
theorem dX1_neededRight_29 : decode cX1_neededRight 29 = .ok (.iload_n 3, 1) := by decide +kernel
theorem dX1_neededRight_30 : decode cX1_neededRight 30 = .ok (.ifCond .eq 9, 3) := by decide +kernel
theorem dX1_neededRight_33 : decode cX1_neededRight 33 = .ok (.iload_n 2, 1) := by decide +kernel
theorem dX1_neededRight_34 : decode cX1_neededRight 34 = .ok (.iconst 2, 1) := by decide +kernel
theorem dX1_neededRight_35 : decode cX1_neededRight 35 = .ok (.ishl, 1) := by decide +kernel
theorem dX1_neededRight_36 : decode cX1_neededRight 36 = .ok (.goto 4, 3) := by decide +kernel
theorem dX1_neededRight_39 : decode cX1_neededRight 39 = .ok (.iload_n 2, 1) := by decide +kernel
theorem dX1_neededRight_40 : decode cX1_neededRight 40 = .ok (.ireturn, 1) := by decide +kernel
set_option maxRecDepth 20000 in
theorem ggX1_isOfPage_X1_isOdd : GoodIn wsX1_isOfPage wsX1_isOdd := goodIn_r _ [4] (by decide +kernel) (by decide +kernel)
set_option maxRecDepth 20000 in
theorem gX1_isOfPage_X1_isOdd : GoodIn wsX1_isOfPage (va_wsS RX1 96 yX1_isOdd wsX1_isOdd) := goodIn_app (goodIn_of _ (by decide +kernel)) ggX1_isOfPage_X1_isOdd
theorem dX1_isOfPage_0 : decode cX1_isOfPage 0 = .ok (.iload_n 0, 1) := by decide +kernel
theorem dX1_isOfPage_1 : decode cX1_isOfPage 1 = .ok (.invokestatic 96, 3) := by decide +kernel
theorem dX1_isOfPage_4 : decode cX1_isOfPage 4 = .ok (.ifCond .eq 18, 3) := by decide +kernel
theorem dX1_isOfPage_7 : decode cX1_isOfPage 7 = .ok (.iload_n 0, 1) := by decide +kernel
theorem dX1_isOfPage_8 : decode cX1_isOfPage 8 = .ok (.bipush 10, 2) := by decide +kernel
theorem dX1_isOfPage_10 : decode cX1_isOfPage 10 = .ok (.iushr, 1) := by decide +kernel
theorem dX1_isOfPage_11 : decode cX1_isOfPage 11 = .ok (.iload_n 1, 1) := by decide +kernel
theorem dX1_isOfPage_12 : decode cX1_isOfPage 12 = .ok (.bipush 10, 2) := by decide +kernel
theorem dX1_isOfPage_14 : decode cX1_isOfPage 14 = .ok (.iushr, 1) := by decide +kernel
theorem dX1_isOfPage_15 : decode cX1_isOfPage 15 = .ok (.if_icmp .ne 7, 3) := by decide +kernel
theorem dX1_isOfPage_18 : decode cX1_isOfPage 18 = .ok (.iconst 1, 1) := by decide +kernel
theorem dX1_isOfPage_19 : decode cX1_isOfPage 19 = .ok (.goto 4, 3) := by decide +kernel
theorem dX1_isOfPage_22 : decode cX1_isOfPage 22 = .ok (.iconst 0, 1) := by decide +kernel
theorem dX1_isOfPage_23 : decode cX1_isOfPage 23 = .ok (.ireturn, 1) := by decide +kernel
set_option maxRecDepth 20000 in
theorem ggX1_countMatches_X1_firstMatch : GoodIn wsX1_countMatches wsX1_firstMatch := goodIn_r _ [5] (by decide +kernel) (by decide +kernel)
set_option maxRecDepth 20000 in
theorem gX1_countMatches_X1_firstMatch : GoodIn wsX1_countMatches (va_wsS RX1 61 yX1_firstMatch wsX1_firstMatch) := goodIn_app (goodIn_of _ (by decide +kernel)) ggX1_countMatches_X1_firstMatch
set_option maxRecDepth 20000 in
theorem ggX1_countMatches_X1_isOdd : GoodIn wsX1_countMatches wsX1_isOdd := goodIn_r _ [8] (by decide +kernel) (by decide +kernel)
set_option maxRecDepth 20000 in
theorem gX1_countMatches_X1_isOdd : GoodIn wsX1_countMatches (va_wsS RX1 96 yX1_isOdd wsX1_isOdd) := goodIn_app (goodIn_of _ (by decide +kernel)) ggX1_countMatches_X1_isOdd
theorem dX1_countMatches_0 : decode cX1_countMatches 0 = .ok (.iload_n 1, 1) := by decide +kernel
theorem dX1_countMatches_1 : decode cX1_countMatches 1 = .ok (.invokestatic 61, 3) := by decide +kernel
theorem dX1_countMatches_4 : decode cX1_countMatches 4 = .ok (.istore_n 2, 1) := by decide +kernel
theorem dX1_countMatches_5 : decode cX1_countMatches 5 = .ok (.iconst 0, 1) := by decide +kernel
theorem dX1_countMatches_6 : decode cX1_countMatches 6 = .ok (.istore_n 3, 1) := by decide +kernel
theorem dX1_countMatches_7 : decode cX1_countMatches 7 = .ok (.iconst 0, 1) := by decide +kernel
theorem dX1_countMatches_8 : decode cX1_countMatches 8 = .ok (.istore 4, 2) := by decide +kernel
theorem dX1_countMatches_10 : decode cX1_countMatches 10 = .ok (.iload 4, 2) := by decide +kernel
theorem dX1_countMatches_12 : decode cX1_countMatches 12 = .ok (.bipush 8, 2) := by decide +kernel
theorem dX1_countMatches_14 : decode cX1_countMatches 14 = .ok (.if_icmp .ge 27, 3) := by decide +kernel
theorem dX1_countMatches_17 : decode cX1_countMatches 17 = .ok (.aload_n 0, 1) := by decide +kernel
theorem dX1_countMatches_18 : decode cX1_countMatches 18 = .ok (.getfield 16, 3) := by decide +kernel
theorem dX1_countMatches_21 : decode cX1_countMatches 21 = .ok (.iload_n 2, 1) := by decide +kernel
theorem dX1_countMatches_22 : decode cX1_countMatches 22 = .ok (.iload 4, 2) := by decide +kernel
theorem dX1_countMatches_24 : decode cX1_countMatches 24 = .ok (.iadd, 1) := by decide +kernel
theorem dX1_countMatches_25 : decode cX1_countMatches 25 = .ok (.iaload, 1) := by decide +kernel
theorem dX1_countMatches_26 : decode cX1_countMatches 26 = .ok (.invokestatic 96, 3) := by decide +kernel
theorem dX1_countMatches_29 : decode cX1_countMatches 29 = .ok (.ifCond .eq 6, 3) := by decide +kernel
theorem dX1_countMatches_32 : decode cX1_countMatches 32 = .ok (.iinc 3 1, 3) := by decide +kernel
theorem dX1_countMatches_35 : decode cX1_countMatches 35 = .ok (.iinc 4 1, 3) := by decide +kernel
theorem dX1_countMatches_38 : decode cX1_countMatches 38 = .ok (.goto (-28), 3) := by decide +kernel
theorem dX1_countMatches_41 : decode cX1_countMatches 41 = .ok (.iload_n 3, 1) := by decide +kernel
theorem dX1_countMatches_42 : decode cX1_countMatches 42 = .ok (.ireturn, 1) := by decide +kernel
theorem dX1_firstMatch_0 : decode cX1_firstMatch 0 = .ok (.iload_n 0, 1) := by decide +kernel
theorem dX1_firstMatch_1 : decode cX1_firstMatch 1 = .ok (.ifCond .eq 8, 3) := by decide +kernel
theorem dX1_firstMatch_4 : decode cX1_firstMatch 4 = .ok (.bipush 16, 2) := by decide +kernel
theorem dX1_firstMatch_6 : decode cX1_firstMatch 6 = .ok (.goto 4, 3) := by decide +kernel
theorem dX1_firstMatch_9 : decode cX1_firstMatch 9 = .ok (.iconst 0, 1) := by decide +kernel
theorem dX1_firstMatch_10 : decode cX1_firstMatch 10 = .ok (.ireturn, 1) := by decide +kernel
theorem dX1_setOf_0 : decode cX1_setOf 0 = .ok (.iload_n 0, 1) := by decide +kernel
theorem dX1_setOf_1 : decode cX1_setOf 1 = .ok (.bipush 10, 2) := by decide +kernel
theorem dX1_setOf_3 : decode cX1_setOf 3 = .ok (.iushr, 1) := by decide +kernel
theorem dX1_setOf_4 : decode cX1_setOf 4 = .ok (.bipush 7, 2) := by decide +kernel
theorem dX1_setOf_6 : decode cX1_setOf 6 = .ok (.iand, 1) := by decide +kernel
theorem dX1_setOf_7 : decode cX1_setOf 7 = .ok (.ireturn, 1) := by decide +kernel
theorem dX1_isOdd_0 : decode cX1_isOdd 0 = .ok (.iload_n 0, 1) := by decide +kernel
theorem dX1_isOdd_1 : decode cX1_isOdd 1 = .ok (.iconst 1, 1) := by decide +kernel
theorem dX1_isOdd_2 : decode cX1_isOdd 2 = .ok (.iand, 1) := by decide +kernel
theorem dX1_isOdd_3 : decode cX1_isOdd 3 = .ok (.ifCond .eq 7, 3) := by decide +kernel
theorem dX1_isOdd_6 : decode cX1_isOdd 6 = .ok (.iconst 1, 1) := by decide +kernel
theorem dX1_isOdd_7 : decode cX1_isOdd 7 = .ok (.goto 4, 3) := by decide +kernel
theorem dX1_isOdd_10 : decode cX1_isOdd 10 = .ok (.iconst 0, 1) := by decide +kernel
theorem dX1_isOdd_11 : decode cX1_isOdd 11 = .ok (.ireturn, 1) := by decide +kernel
theorem dX1_isAligned_0 : decode cX1_isAligned 0 = .ok (.iload_n 0, 1) := by decide +kernel
theorem dX1_isAligned_1 : decode cX1_isAligned 1 = .ok (.iconst 3, 1) := by decide +kernel
theorem dX1_isAligned_2 : decode cX1_isAligned 2 = .ok (.iand, 1) := by decide +kernel
theorem dX1_isAligned_3 : decode cX1_isAligned 3 = .ok (.ifCond .ne 7, 3) := by decide +kernel
theorem dX1_isAligned_6 : decode cX1_isAligned 6 = .ok (.iconst 1, 1) := by decide +kernel
theorem dX1_isAligned_7 : decode cX1_isAligned 7 = .ok (.goto 4, 3) := by decide +kernel
theorem dX1_isAligned_10 : decode cX1_isAligned 10 = .ok (.iconst 0, 1) := by decide +kernel
theorem dX1_isAligned_11 : decode cX1_isAligned 11 = .ok (.ireturn, 1) := by decide +kernel
theorem dX1_isSpecial_0 : decode cX1_isSpecial 0 = .ok (.iload_n 0, 1) := by decide +kernel
theorem dX1_isSpecial_1 : decode cX1_isSpecial 1 = .ok (.ifCond .lt 13, 3) := by decide +kernel
theorem dX1_isSpecial_4 : decode cX1_isSpecial 4 = .ok (.iload_n 0, 1) := by decide +kernel
theorem dX1_isSpecial_5 : decode cX1_isSpecial 5 = .ok (.bipush 33, 2) := by decide +kernel
theorem dX1_isSpecial_7 : decode cX1_isSpecial 7 = .ok (.if_icmp .ge 7, 3) := by decide +kernel
theorem dX1_isSpecial_10 : decode cX1_isSpecial 10 = .ok (.iconst 1, 1) := by decide +kernel
theorem dX1_isSpecial_11 : decode cX1_isSpecial 11 = .ok (.goto 4, 3) := by decide +kernel
theorem dX1_isSpecial_14 : decode cX1_isSpecial 14 = .ok (.iconst 0, 1) := by decide +kernel
theorem dX1_isSpecial_15 : decode cX1_isSpecial 15 = .ok (.ireturn, 1) := by decide +kernel
set_option maxRecDepth 20000 in
theorem ggX1_isWordPlace_X1_isAligned : GoodIn wsX1_isWordPlace wsX1_isAligned := goodIn_r _ [5] (by decide +kernel) (by decide +kernel)
set_option maxRecDepth 20000 in
theorem gX1_isWordPlace_X1_isAligned : GoodIn wsX1_isWordPlace (va_wsS RX1 77 yX1_isAligned wsX1_isAligned) := goodIn_app (goodIn_of _ (by decide +kernel)) ggX1_isWordPlace_X1_isAligned
theorem dX1_isWordPlace_0 : decode cX1_isWordPlace 0 = .ok (.iload_n 0, 1) := by decide +kernel
theorem dX1_isWordPlace_1 : decode cX1_isWordPlace 1 = .ok (.ifCond .lt 20, 3) := by decide +kernel
theorem dX1_isWordPlace_4 : decode cX1_isWordPlace 4 = .ok (.iload_n 0, 1) := by decide +kernel
theorem dX1_isWordPlace_5 : decode cX1_isWordPlace 5 = .ok (.ldc 95, 2) := by decide +kernel
theorem dX1_isWordPlace_7 : decode cX1_isWordPlace 7 = .ok (.if_icmp .ge 14, 3) := by decide +kernel
theorem dX1_isWordPlace_10 : decode cX1_isWordPlace 10 = .ok (.iload_n 0, 1) := by decide +kernel
theorem dX1_isWordPlace_11 : decode cX1_isWordPlace 11 = .ok (.invokestatic 77, 3) := by decide +kernel
theorem dX1_isWordPlace_14 : decode cX1_isWordPlace 14 = .ok (.ifCond .eq 7, 3) := by decide +kernel
theorem dX1_isWordPlace_17 : decode cX1_isWordPlace 17 = .ok (.iconst 1, 1) := by decide +kernel
theorem dX1_isWordPlace_18 : decode cX1_isWordPlace 18 = .ok (.goto 4, 3) := by decide +kernel
theorem dX1_isWordPlace_21 : decode cX1_isWordPlace 21 = .ok (.iconst 0, 1) := by decide +kernel
theorem dX1_isWordPlace_22 : decode cX1_isWordPlace 22 = .ok (.ireturn, 1) := by decide +kernel
abbrev vwCl : List vw_C := [(RX0, TX0, 1), (RX1, TX1, 8), (RX2, TX2, 10)]
end
section
/-! Own words: shifts, rows of the memory, what a memory holds. -/
def ush (x y : Int32) : Int32 := (x.toUInt32 >>> (y.toUInt32 &&& Int32.toUInt32 31)).toInt32
theorem nz_of {x : Int32} (h : x = 0 ∨ x = 1) : narrow .boolean (.int x) = .int x := by
  rcases h with h | h <;> subst h <;> rfl
theorem ush_N {n : Nat} (hn : n < 2 ^ 32) (s : Int32) (k : Nat) (hs : ((s.toUInt32 &&& Int32.toUInt32 31).toBitVec % 32).toNat = k) : ush (nI n) s = nI (n / 2 ^ k) := pk_ushrN hn s k hs
/-- the pool's rows: arrays of 256 ints -/
def prow (cI : ClassId) (r : Nat → Nat → Int32) : Nat → va_E := fun a => .inl (cI, 256, .inl (r a))
theorem prow_up (cI : ClassId) (r : Nat → Nat → Int32) (y : Nat) (x : Nat → Int32) : va_up (prow cI r) y (.inl (cI, 256, .inl x)) = prow cI (va_up r y x) := by
  funext a
  by_cases h : a = y
  · subst h; simp [va_up, prow]
  · simp [va_up, prow, h]
/-- the pages that are there lie in the pool, no two at one row -/
def mok (g : Nat → Option Nat) (LP : List Nat) : Prop := (∀ i y, i < 64 → g i = some y → y ∈ LP) ∧ ∀ i j y, i < 64 → j < 64 → g i = some y → g j = some y → i = j
/-- the memory's k-th word -/
def mw (g : Nat → Option Nat) (r : Nat → Nat → Int32) (k : Nat) : Int32 := match g (k / 256) with
  | none => 0
  | some y => r y (k % 256)
theorem mw_none {g : Nat → Option Nat} {r : Nat → Nat → Int32} {k : Nat} (h : g (k / 256) = none) : mw g r k = 0 := by
  unfold mw; rw [h]
theorem mw_some {g : Nat → Option Nat} {r : Nat → Nat → Int32} {k y : Nat} (h : g (k / 256) = some y) : mw g r k = r y (k % 256) := by
  unfold mw; rw [h]
theorem mok_0 : mok (fun _ => none) [] := ⟨fun _ _ _ h => (by cases h), fun _ _ _ _ _ h => (by cases h)⟩
theorem mok_new {g : Nat → Option Nat} {LP : List Nat} {i q : Nat} (h : mok g LP) (hq : q ∉ LP) : mok (va_up g i (some q)) (LP ++ [q]) := by
  refine ⟨fun j y hj e => ?_, fun a b y ha hb ea eb => ?_⟩
  · by_cases hji : j = i
    · subst hji
      rw [va_up_self] at e
      cases e
      exact List.mem_append_right _ List.mem_cons_self
    · rw [va_up_ne _ _ hji] at e
      exact List.mem_append_left _ (h.1 j y hj e)
  · by_cases hai : a = i <;> by_cases hbi : b = i
    · rw [hai, hbi]
    · subst hai
      rw [va_up_self] at ea
      rw [va_up_ne _ _ hbi] at eb
      cases ea
      exact absurd (h.1 b _ hb eb) hq
    · subst hbi
      rw [va_up_self] at eb
      rw [va_up_ne _ _ hai] at ea
      cases eb
      exact absurd (h.1 a _ ha ea) hq
    · rw [va_up_ne _ _ hai] at ea
      rw [va_up_ne _ _ hbi] at eb
      exact h.2 a b y ha hb ea eb
theorem mw_put {g : Nat → Option Nat} {LP : List Nat} {r : Nat → Nat → Int32} {n y : Nat} {x : Int32} (h : mok g LP) (hn : n < 16384) (hy : g (n / 256) = some y) (k : Nat) (hk : k < 16384) : mw g (va_up r y (upd (r y) (n % 256) x)) k = upd (mw g r) n x k := by
  by_cases hkn : k = n
  · subst hkn
    rw [mw_some hy, va_up_self, pk_us, pk_us]
  · rw [pk_un hkn]
    cases hg : g (k / 256) with
    | none => rw [mw_none hg, mw_none hg]
    | some z =>
      rw [mw_some hg, mw_some hg]
      by_cases hzy : z = y
      · subst hzy
        rw [va_up_self, pk_un]
        have := h.2 (k / 256) (n / 256) z (by omega) (by omega) hg hy
        omega
      · rw [va_up_ne _ _ hzy]
theorem mw_newput {g : Nat → Option Nat} {LP : List Nat} {r : Nat → Nat → Int32} {n q : Nat} {x : Int32} (h : mok g LP) (hq : q ∉ LP) (hn : n < 16384) (hg : g (n / 256) = none) (k : Nat) (hk : k < 16384) : mw (va_up g (n / 256) (some q)) (va_up r q (upd (fun _ => 0) (n % 256) x)) k = upd (mw g r) n x k := by
  by_cases hkn : k = n
  · subst hkn
    rw [mw_some (va_up_self _ _ _), va_up_self, pk_us, pk_us]
  · rw [pk_un hkn]
    by_cases hp : k / 256 = n / 256
    · rw [mw_some (y := q) (by rw [hp]; exact va_up_self _ _ _), va_up_self, pk_un (by omega), mw_none (by rw [hp]; exact hg)]
    · cases hz : g (k / 256) with
      | none => rw [mw_none (by rw [va_up_ne _ _ hp]; exact hz), mw_none hz]
      | some z =>
        rw [mw_some (y := z) (by rw [va_up_ne _ _ hp]; exact hz), mw_some hz, va_up_ne]
        intro e
        subst e
        exact hq (h.1 _ _ (by omega) hz)
theorem lt_n {x : Int32} {n : Nat} (hn : n < 2 ^ 31) (h0 : ¬ x < 0) (h : ¬ nI n ≤ x) : ∃ j : Nat, j < n ∧ x = nI j := by
  rcases pk_ix x hn with h1 | h1 | h1
  · exact absurd h1 h0
  · exact absurd h1 h
  · exact h1
theorem pl_n {pl : Int32} (h0 : ¬ pl < 0) (h : ¬ 65536 ≤ pl) : ∃ n : Nat, n < 65536 ∧ pl = nI n := lt_n (n := 65536) (by decide) h0 h
theorem pg_n {n : Nat} (hn : n < 65536) : ush (nI n) 10 = nI (n / 1024) := ush_N (by omega) 10 10 (by decide)
theorem of_n {n : Nat} (hn : n < 65536) : ush (nI n &&& 1023) 2 = nI (n % 1024 / 4) := by
  rw [pk_andN (by omega) 10 (by decide)]
  exact ush_N (by omega) 2 2 (by decide)
theorem pg_in {pl : Int32} (h0 : ¬ pl < 0) (h : ¬ 65536 ≤ pl) : vp_in (ush pl 10) 64 := by
  obtain ⟨n, hn, rfl⟩ := pl_n h0 h
  exact pk_in (n / 1024) 64 (by omega) (pg_n hn)
theorem of_in {pl : Int32} (h0 : ¬ pl < 0) (h : ¬ 65536 ≤ pl) : vp_in (ush (pl &&& 1023) 2) 256 := by
  obtain ⟨n, hn, rfl⟩ := pl_n h0 h
  exact pk_in (n % 1024 / 4) 256 (by omega) (of_n hn)
theorem pg_cl {pl : Int32} (h0 : ¬ pl < 0) (h : ¬ 65536 ≤ pl) : (ush pl 10).toNatClampNeg = pl.toNatClampNeg / 4 / 256 ∧ (ush pl 10).toNatClampNeg < 64 := by
  obtain ⟨n, hn, rfl⟩ := pl_n h0 h
  rw [pg_n hn, nI_clamp (by omega), nI_clamp (by omega)]
  omega
theorem of_cl {pl : Int32} (h0 : ¬ pl < 0) (h : ¬ 65536 ≤ pl) : (ush (pl &&& 1023) 2).toNatClampNeg = pl.toNatClampNeg / 4 % 256 ∧ pl.toNatClampNeg / 4 < 16384 := by
  obtain ⟨n, hn, rfl⟩ := pl_n h0 h
  rw [of_n hn, nI_clamp (by omega), nI_clamp (by omega)]
  omega
/-- the word at a place (any place; 0 outside) -/
def m_get (M : Nat → Int32) (pl : Int32) : Int32 := if pl < 0 then 0 else if 65536 ≤ pl then 0 else M (pl.toNatClampNeg / 4)
/-- the memory with a word at a place -/
def m_put (M : Nat → Int32) (pl w : Int32) : Nat → Int32 := if pl < 0 then M else if 65536 ≤ pl then M else upd M (pl.toNatClampNeg / 4) w
theorem m_get_none {g : Nat → Option Nat} {r : Nat → Nat → Int32} {pl : Int32} (h0 : ¬ pl < 0) (h : ¬ 65536 ≤ pl) (hg : g (ush pl 10).toNatClampNeg = none) : 0 = m_get (mw g r) pl := by
  rw [(pg_cl h0 h).1] at hg
  simp only [m_get, if_neg h0, if_neg h]
  rw [mw_none hg]
theorem m_get_some {g : Nat → Option Nat} {r : Nat → Nat → Int32} {pl : Int32} {y : Nat} (h0 : ¬ pl < 0) (h : ¬ 65536 ≤ pl) (hg : g (ush pl 10).toNatClampNeg = some y) : r y (ush (pl &&& 1023) 2).toNatClampNeg = m_get (mw g r) pl := by
  rw [(pg_cl h0 h).1] at hg
  simp only [m_get, if_neg h0, if_neg h]
  rw [mw_some hg, (of_cl h0 h).1]
theorem m_put_some {g : Nat → Option Nat} {LP : List Nat} {r : Nat → Nat → Int32} {pl x : Int32} {y : Nat} (hm : mok g LP) (h0 : ¬ pl < 0) (h : ¬ 65536 ≤ pl) (hg : g (ush pl 10).toNatClampNeg = some y) (k : Nat) (hk : k < 16384) : mw g (va_up r y (upd (r y) (ush (pl &&& 1023) 2).toNatClampNeg x)) k = m_put (mw g r) pl x k := by
  rw [(pg_cl h0 h).1] at hg
  simp only [m_put, if_neg h0, if_neg h]
  rw [(of_cl h0 h).1]
  exact mw_put hm (of_cl h0 h).2 hg k hk
theorem m_put_none {g : Nat → Option Nat} {LP : List Nat} {r : Nat → Nat → Int32} {pl x : Int32} {q : Nat} (hm : mok g LP) (hq : q ∉ LP) (h0 : ¬ pl < 0) (h : ¬ 65536 ≤ pl) (hg : g (ush pl 10).toNatClampNeg = none) (k : Nat) (hk : k < 16384) : mw (va_up g (ush pl 10).toNatClampNeg (some q)) (va_up r q (upd (fun _ => 0) (ush (pl &&& 1023) 2).toNatClampNeg x)) k = m_put (mw g r) pl x k := by
  rw [(pg_cl h0 h).1] at hg ⊢
  simp only [m_put, if_neg h0, if_neg h]
  rw [(of_cl h0 h).1]
  exact mw_newput hm hq (of_cl h0 h).2 hg k hk
/-- two arrays of ints have one class -/
theorem cls_eq {D : va_G} {cl : List vw_C} {tys : List (ClassId × FieldType)} {s : State} {i j : Nat} {c1 c2 : ClassId} (hK : va_K D cl tys s) (h1 : tys[i]? = some (c1, .int)) (h2 : tys[j]? = some (c2, .int)) : c1 = c2 := by
  have e1 : s.vm.findClass ("[" ++ FieldType.int.toString) = some c1 := (hK.2 i _ h1).2
  have e2 : s.vm.findClass ("[" ++ FieldType.int.toString) = some c2 := (hK.2 j _ h2).2
  exact Option.some.inj (e1.symm.trans e2)
end
section
/-! Own rows: an array of int arrays, whose places are rows of the pool, or null. What the tables say of it moves by the kit's over_moved. -/
def ag_O (t : FieldType) (U : State) : Prop := (Cond.arrayOver (.array t)).before #[] U = true
theorem ag_O.moved {t : FieldType} {u U : State} (hvm : u.vm.Alike U.vm) (h : ag_O t u) : ag_O t U := over_moved hvm h
theorem ag_cl {own a b : String} {i : Nat} {args : Array Value} {s : State} (e : a = b) (h : (Cond.classLink own i b).before args s = true) : (Cond.classLink own i a).before args s = true := e ▸ h
/-- one more cell at the heap's end: the world has it too, all else stays -/
theorem ag_more {D : va_G} {cl : List vw_C} {A : Nat → Prop} {ws : va_W} {H0 H : Heap} {locs : List Loc} (hP : va_P D cl ws H) (hD : va_D A ws) (hS : va_S A H0 H locs) (hA : ∀ q, H0.size ≤ q → A q) (x : Cell) (e : va_E) (he : va_at D cl (H.size, e) (H.push x)) : va_P D cl (ws ++ [(H.size, e)]) (H.push x) ∧ va_D A (ws ++ [(H.size, e)]) ∧ va_S A H0 (H.push x) locs := by
  have old : ∀ q : Nat, q < H.size → (H.push x)[q]? = H[q]? := fun q hq => by rw [Array.getElem?_push, if_neg (Nat.ne_of_lt hq)]
  have hP1 : va_P D cl [(H.size, e)] (H.push x) := by
    intro k w hw
    match k, hw with
    | 0, hw => cases hw; exact he
    | k + 1, hw => simp at hw
  refine ⟨(hP.kept fun k w hw => old _ (hP k w hw).lt).app hP1, hD.push hP rfl (hA _ hS.1), ?_, fun q h1 h2 => ?_, hS.2.2⟩
  · rw [Array.size_push]
    exact Nat.le_succ_of_le hS.1
  · rw [old q (Nat.lt_of_lt_of_le h1 hS.1)]
    exact hS.2.1 q h1 h2
/-- a row laid at a place, as the picture has it -/
theorem ag_cell (cA : ClassId) (n : Nat) (f : Nat → Option Nat) (i v : Nat) : (vp_cell cA (n, .inr (.inr (.inr (.inr f))))).setSlot i (.ref v) = vp_cell cA (n, .inr (.inr (.inr (.inr (va_up f i (some v)))))) := by
  rw [vp_cell_q, vp_cell_q, arrV_store]
  refine congrArg (arrV cA n) (funext fun q => ?_)
  by_cases hq : q = i <;> simp [updV, va_up, va_rf, hq]
section AGD
variable {p : Program} {l : Launch} {e : Env} {R : Room} {s : State} {m : MethodId} {args : Array Value} {below : List Frame} {meth : Method} {c : Code} {H : Heap} {locs : List Loc} {cells slots : Nat} {Q : State → Prop}
variable {cc : ByteArray} {pc : Nat} {ls : Array Slot} {rest : List Value} {D : va_G} {cl : List vw_C} {A : Nat → Prop} {a : Nat} {tys : List (ClassId × FieldType)} {ws : va_W} {H0 : Heap} {t : FieldType} {cA : ClassId} {n : Nat} {f : Nat → Option Nat}
/-- a new array of arrays -/
theorem ag_new (hx : p.tables.exec = Jvm.exec) (hb : c.code = cc) {own : String} {index : Nat} (hown : s.vm.findClass own = some m.cls) (hlink : (Cond.classLink own index (FieldType.array t).toString).before args s = true) (hO : ag_O t s) (hK : va_K D cl tys s) (hP : va_P D cl ws H) (hD : va_D A ws) (hS : va_S A H0 H locs) (hA : ∀ q, H0.size ≤ q → A q) {n : Int32} {N' : Nat} (h0 : ¬ n < 0) (hN : n.toNatClampNeg = N') (hB : N' * 4 ≤ 536870912) (hc : cells + 1 ≤ R.cells) (hs : slots + N' ≤ R.slots) (hd : decode cc pc = .ok (.anewarray index, 3))
    (k : ∀ (q : Nat) (cA : ClassId) (H1 : Heap), va_K D cl (tys ++ [(cA, .array t)]) s → va_P D cl (ws ++ [(q, .inl (cA, N', .inr (.inr (.inr (.inr (fun _ => none))))))]) H1 → va_D A (ws ++ [(q, .inl (cA, N', .inr (.inr (.inr (.inr (fun _ => none))))))]) → va_S A H0 H1 locs → W p l e R s m args below meth c H1 locs (cells + 1) (slots + N') Q (F0 m (pc + 3) ls (.ref q :: rest))) : W p l e R s m args below meth c H locs cells slots Q (F0 m pc ls (.int n :: rest)) := by
  subst hN
  refine W.anewA hx hb hown hlink hO rfl hd rfl h0 hB hc hs fun cA kA comp g1 g2 g3 _ => ?_
  have hT : va_K D cl [(cA, .array t)] s := by
    refine ⟨hK.1, fun j w hw => ?_⟩
    match j, hw with
    | 0, hw => cases hw; exact ⟨fun _ _ => ⟨(fun _ h => by cases h), kA, g2, comp, g3⟩, g1⟩
    | j + 1, hw => simp at hw
  have hC : va_at D cl (H.size, .inl (cA, n.toNatClampNeg, .inr (.inr (.inr (.inr (fun _ => none)))))) (H.push { cls := cA, slots := Array.replicate n.toNatClampNeg .null, vm := .none }) := by
    show (H.push _)[H.size]? = some (vp_cell _ _)
    rw [vp_cell_q, Array.getElem?_push_size]
    exact congrArg some (arrV_new ..)
  obtain ⟨hP1, hD1, hS1⟩ := ag_more hP hD hS hA _ _ hC
  exact k H.size cA _ (hK.app hT) hP1 hD1 hS1
/-- a place of it is read -/
theorem ag_ld (hx : p.tables.exec = Jvm.exec) (hb : c.code = cc) (hK : va_K D cl tys s) (hP : va_P D cl ws H) (q0 t0 : Nat) (ha : ws[q0]? = some (a, .inl (cA, n, .inr (.inr (.inr (.inr f)))))) (ht : tys[t0]? = some (cA, .array t)) {i : Int32} (hi : vp_in i n) (hd : decode cc pc = .ok (.aaload, 1))
    (k : W p l e R s m args below meth c H locs cells slots Q (F0 m (pc + 1) ls (va_rf (f i.toNatClampNeg) :: rest))) : W p l e R s m args below meth c H locs cells slots Q (F0 m pc ls (.int i :: .ref a :: rest)) := by
  have hlt : i.toNatClampNeg < n := Nat.lt_of_not_le fun q => hi (Or.inr q)
  have hcell : H[a]? = some (arrV cA n fun j => va_rf (f j)) := (hP q0 _ ha).trans (congrArg some (vp_cell_q ..))
  refine W.aald (v := va_rf (f i.toNatClampNeg)) (ty := .array t) hx hb hcell ((hK.2 t0 _ ht).1 n _) rfl (fun q => by cases q) ?_ (arrV_read _ _ hlt) rfl rfl hd k
  rw [arrV_size]
  exact hi
/-- a row is laid at a place of it -/
theorem ag_st (hx : p.tables.exec = Jvm.exec) (hb : c.code = cc) (hK : va_K D cl tys s) (hP : va_P D cl ws H) (hD : va_D A ws) (hS : va_S A H0 H locs) (q0 t0 : Nat) {cR : ClassId} {v : Nat} (ha : ws[q0]? = some (a, .inl (cA, n, .inr (.inr (.inr (.inr f)))))) (ht : tys[t0]? = some (cA, .array t)) (hO : ag_O t s) (hR : s.vm.findClass (FieldType.array t).toString = some cR) (hr : ∃ x : Cell, H[v]? = some x ∧ x.vm.isStatics = false ∧ x.cls = cR) {i : Int32} (hi : vp_in i n) (hd : decode cc pc = .ok (.aastore, 1))
    (k : ∀ (H1 : Heap) (locs1 : List Loc), va_P D cl (ws.set q0 (a, .inl (cA, n, .inr (.inr (.inr (.inr (va_up f i.toNatClampNeg (some v)))))))) H1 → va_D A (ws.set q0 (a, .inl (cA, n, .inr (.inr (.inr (.inr (va_up f i.toNatClampNeg (some v)))))))) → va_S A H0 H1 locs1 → W p l e R s m args below meth c H1 locs1 cells slots Q (F0 m (pc + 1) ls rest)) : W p l e R s m args below meth c H locs cells slots Q (F0 m pc ls (.ref v :: .int i :: .ref a :: rest)) := by
  obtain ⟨x, x1, x2, x3⟩ := hr
  obtain ⟨comp, c2, kA, e1, -, e2, e3, e4⟩ := arrayOverA_spec hO
  have hname : s.vm.findClass ("[" ++ (FieldType.array t).toString) = some cA := (hK.2 t0 _ ht).2
  obtain rfl : cA = c2 := Option.some.inj (hname.symm.trans e4)
  obtain rfl : comp = cR := Option.some.inj (e1.symm.trans hR)
  obtain ⟨kR, hkR, -⟩ := Vm.findClass_spec e1
  have hin : ¬ i < 0 ∧ i.toNatClampNeg < (vp_cell cA (n, .inr (.inr (.inr (.inr f))))).slots.size := by
    rw [vp_cell_q, arrV_size]
    exact ⟨fun q => hi (Or.inl q), Nat.lt_of_not_le fun q => hi (Or.inr q)⟩
  refine W.aast hx hb (hP q0 _ ha) (fun _ h => by cases h) (fun h => by cases h) e2 e3 rfl hkR hin x1 (fun q h => by rw [h] at x2; cases x2) (by rw [x3]; exact hkR) (by rw [x3]; exact va_asg _ _) rfl rfl hd fun H1 w1 w2 w3 => ?_
  exact k H1 _ (hP.set hD ha (show H1[a]? = some (vp_cell _ _) by rw [w1, ag_cell]) w3) (hD.set ha) (hS.put w2 w3 (hD.2 q0 _ ha))
end AGD
end
