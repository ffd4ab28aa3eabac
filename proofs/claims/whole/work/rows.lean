section
-- ===== PART A: goes FIRST, ahead of the names: the tables' words, and 'selects' of the private methods out of them =====
/-- a private method of a class that the tables say can be made, by its rows of tables_1 -/
def lw_okq (q : MethodName × Nat) : Prop := (q.1.cls ≠ "java/lang/invoke/MethodHandle" ∧ q.1.cls ≠ "java/lang/invoke/VarHandle") ∧ Cond.instantiable q.1.cls q.2 ∈ tables_1 ∧ Cond.privateMethod q.1 ∈ tables_1 ∧ Cond.instanceMethod q.1 ∈ tables_1
theorem lw_p0 : lw_okq (⟨"SoftMaps", "probe", "(IIZ)I"⟩, 8) := ⟨⟨by decide +kernel, by decide +kernel⟩, List.mem_of_getElem? (i := 5) (by decide +kernel), List.mem_of_getElem? (i := 81) (by decide +kernel), List.mem_of_getElem? (i := 82) (by decide +kernel)⟩
theorem lw_p1 : lw_okq (⟨"SoftMaps", "locate", "(IIZ)I"⟩, 8) := ⟨⟨by decide +kernel, by decide +kernel⟩, List.mem_of_getElem? (i := 5) (by decide +kernel), List.mem_of_getElem? (i := 85) (by decide +kernel), List.mem_of_getElem? (i := 86) (by decide +kernel)⟩
theorem lw_p2 : lw_okq (⟨"SoftMaps", "isMapped", "(I)Z"⟩, 8) := ⟨⟨by decide +kernel, by decide +kernel⟩, List.mem_of_getElem? (i := 5) (by decide +kernel), List.mem_of_getElem? (i := 89) (by decide +kernel), List.mem_of_getElem? (i := 90) (by decide +kernel)⟩
theorem lw_p3 : lw_okq (⟨"SoftMaps", "neededRight", "(I)I"⟩, 8) := ⟨⟨by decide +kernel, by decide +kernel⟩, List.mem_of_getElem? (i := 5) (by decide +kernel), List.mem_of_getElem? (i := 109) (by decide +kernel), List.mem_of_getElem? (i := 110) (by decide +kernel)⟩
theorem lw_p4 : lw_okq (⟨"SoftMaps", "countMatches", "(Z)I"⟩, 8) := ⟨⟨by decide +kernel, by decide +kernel⟩, List.mem_of_getElem? (i := 5) (by decide +kernel), List.mem_of_getElem? (i := 150) (by decide +kernel), List.mem_of_getElem? (i := 151) (by decide +kernel)⟩
theorem lw_p5 : lw_okq (⟨"SoftMapsModel", "lay", "(II)V"⟩, 10) := ⟨⟨by decide +kernel, by decide +kernel⟩, List.mem_of_getElem? (i := 166) (by decide +kernel), List.mem_of_getElem? (i := 211) (by decide +kernel), List.mem_of_getElem? (i := 212) (by decide +kernel)⟩
theorem lw_p6 : lw_okq (⟨"SoftMapsModel", "probe", "(IIZ)Z"⟩, 10) := ⟨⟨by decide +kernel, by decide +kernel⟩, List.mem_of_getElem? (i := 166) (by decide +kernel), List.mem_of_getElem? (i := 223) (by decide +kernel), List.mem_of_getElem? (i := 224) (by decide +kernel)⟩
theorem lw_p7 : lw_okq (⟨"SoftMapsModel", "wrong", "(IIZ)I"⟩, 10) := ⟨⟨by decide +kernel, by decide +kernel⟩, List.mem_of_getElem? (i := 166) (by decide +kernel), List.mem_of_getElem? (i := 227) (by decide +kernel), List.mem_of_getElem? (i := 228) (by decide +kernel)⟩
theorem lw_p8 : lw_okq (⟨"SoftMapsModel", "mode", "(I)Z"⟩, 10) := ⟨⟨by decide +kernel, by decide +kernel⟩, List.mem_of_getElem? (i := 166) (by decide +kernel), List.mem_of_getElem? (i := 232) (by decide +kernel), List.mem_of_getElem? (i := 233) (by decide +kernel)⟩
theorem lw_p9 : lw_okq (⟨"SoftMapsModel", "wordIn", "(I)I"⟩, 10) := ⟨⟨by decide +kernel, by decide +kernel⟩, List.mem_of_getElem? (i := 166) (by decide +kernel), List.mem_of_getElem? (i := 242) (by decide +kernel), List.mem_of_getElem? (i := 243) (by decide +kernel)⟩
theorem lw_p10 : lw_okq (⟨"SoftMapsModel", "matched", "(I)I"⟩, 10) := ⟨⟨by decide +kernel, by decide +kernel⟩, List.mem_of_getElem? (i := 166) (by decide +kernel), List.mem_of_getElem? (i := 266) (by decide +kernel), List.mem_of_getElem? (i := 267) (by decide +kernel)⟩
def lw_privs_1 : List (MethodName × Nat) := [(⟨"SoftMaps", "probe", "(IIZ)I"⟩, 8), (⟨"SoftMaps", "locate", "(IIZ)I"⟩, 8), (⟨"SoftMaps", "isMapped", "(I)Z"⟩, 8), (⟨"SoftMaps", "neededRight", "(I)I"⟩, 8), (⟨"SoftMaps", "countMatches", "(Z)I"⟩, 8), (⟨"SoftMapsModel", "lay", "(II)V"⟩, 10), (⟨"SoftMapsModel", "probe", "(IIZ)Z"⟩, 10), (⟨"SoftMapsModel", "wrong", "(IIZ)I"⟩, 10), (⟨"SoftMapsModel", "mode", "(I)Z"⟩, 10), (⟨"SoftMapsModel", "wordIn", "(I)I"⟩, 10), (⟨"SoftMapsModel", "matched", "(I)I"⟩, 10)]
theorem lw_r1 : ∀ q ∈ lw_privs_1, lw_okq q := List.forall_mem_cons.mpr ⟨lw_p0, List.forall_mem_cons.mpr ⟨lw_p1, List.forall_mem_cons.mpr ⟨lw_p2, List.forall_mem_cons.mpr ⟨lw_p3, List.forall_mem_cons.mpr ⟨lw_p4, List.forall_mem_cons.mpr ⟨lw_p5, List.forall_mem_cons.mpr ⟨lw_p6, List.forall_mem_cons.mpr ⟨lw_p7, List.forall_mem_cons.mpr ⟨lw_p8, List.forall_mem_cons.mpr ⟨lw_p9, List.forall_mem_cons.mpr ⟨lw_p10, fun _ h => absurd h List.not_mem_nil⟩⟩⟩⟩⟩⟩⟩⟩⟩⟩⟩
def lw_privs : List (MethodName × Nat) := lw_privs_1
def lw_tbl : List Cond := k2_sels lw_privs ++ tables_1
theorem lw_privs_ok : ∀ q ∈ lw_privs, lw_okq q := lw_r1
end
section
/-! ===== BEGIN words of one list among another's, by their places ===== -/
theorem goodIn_r {big : List Cond} (ws : List Cond) (ps : List Nat) (hp : ws = ps.filterMap (fun i => big[i]?)) (h : ws.all goodWord = true) : GoodIn big ws := by
  intro w hw
  have h1 := List.all_eq_true.mp h w hw
  rw [hp] at hw
  obtain ⟨i, -, hi⟩ := List.mem_filterMap.mp hw
  have hm : w ∈ big := by first | exact List.mem_of_getElem? hi | exact List.getElem?_mem hi
  exact ⟨hm, good_of_word h1⟩
theorem goodIn_app {big a b : List Cond} (ha : GoodIn big a) (hb : GoodIn big b) : GoodIn big (a ++ b) := fun w h => (List.mem_append.mp h).elim (ha w) (hb w)
theorem goodIn_ca {big a b : List Cond} {c : Cond} (ha : GoodIn big (c :: a)) (hb : GoodIn big b) : GoodIn big (c :: (a ++ b)) := fun w h => (List.mem_cons.mp h).elim (fun e => ha w (List.mem_cons.mpr (Or.inl e))) (fun h => (List.mem_append.mp h).elim (fun h => ha w (List.mem_cons.mpr (Or.inr h))) (hb w))
theorem goodIn_sub {big ws : List Cond} (hm : ∀ w ∈ ws, w ∈ big) (h : ws.all goodWord = true) : GoodIn big ws := fun w hw => ⟨hm w hw, good_of_word (List.all_eq_true.mp h w hw)⟩
/-! ===== END ===== -/

/-! ===== BEGIN printed: names, fields, word lists, decode rows ===== -/
def RX0 : String := "SoftMaps$Memory"
def TX0 : u_T := fun k => match k with
  | _ => ("SoftMaps$Memory", "pages", "[[I", true)
def tyX0 : Nat → FieldType := fun k => match k with
  | _ => .array (.array .int)
abbrev wsX00 : List Cond := u_ws RX0 TX0 1
theorem nmX0 : ∀ a, a < 1 → ∀ b, b < 1 → a ≠ b → (TX0 a).2.1 ≠ (TX0 b).2.1 := by decide +kernel
theorem tyX0_ok : ∀ k, k < 1 → parseFieldDescriptor (TX0 k).2.2.1 = some (tyX0 k) := by decide +kernel
abbrev cX0_init : ByteArray := prog_2_method_1_code
def yX0_init : MethodName := ⟨RX0, "<init>", "()V"⟩
abbrev cX0_wordAt : ByteArray := prog_2_method_2_code
def yX0_wordAt : MethodName := ⟨RX0, "wordAt", "(I)I"⟩
abbrev cX0_putWord : ByteArray := prog_2_method_3_code
def yX0_putWord : MethodName := ⟨RX0, "putWord", "(II)V"⟩
abbrev cX0_byteAt : ByteArray := prog_2_method_4_code
def yX0_byteAt : MethodName := ⟨RX0, "byteAt", "(I)I"⟩
abbrev cX0_putByte : ByteArray := prog_2_method_5_code
def yX0_putByte : MethodName := ⟨RX0, "putByte", "(II)V"⟩
abbrev cX0_indexInPage : ByteArray := prog_2_method_6_code
def yX0_indexInPage : MethodName := ⟨RX0, "indexInPage", "(I)I"⟩
abbrev cX0_byteShift : ByteArray := prog_2_method_7_code
def yX0_byteShift : MethodName := ⟨RX0, "byteShift", "(I)I"⟩
def RX1 : String := "SoftMaps"
def TX1 : u_T := fun k => match k with
  | 0 => ("SoftMaps", "memory", "LSoftMaps$Memory;", true)
  | 1 => ("SoftMaps", "specials", "[I", true)
  | 2 => ("SoftMaps", "faults", "I", false)
  | 3 => ("SoftMaps", "latestFault", "I", false)
  | 4 => ("SoftMaps", "faultAddress", "I", false)
  | 5 => ("SoftMaps", "codeReads", "I", false)
  | 6 => ("SoftMaps", "loads", "I", false)
  | _ => ("SoftMaps", "stores", "I", false)
def tyX1 : Nat → FieldType := fun k => match k with
  | 0 => .object "SoftMaps$Memory"
  | 1 => .array .int
  | 2 => .int
  | 3 => .int
  | 4 => .int
  | 5 => .int
  | 6 => .int
  | _ => .int
abbrev wsX10 : List Cond := u_ws RX1 TX1 8
theorem nmX1 : ∀ a, a < 8 → ∀ b, b < 8 → a ≠ b → (TX1 a).2.1 ≠ (TX1 b).2.1 := by decide +kernel
theorem tyX1_ok : ∀ k, k < 8 → parseFieldDescriptor (TX1 k).2.2.1 = some (tyX1 k) := by decide +kernel
abbrev cX1_init : ByteArray := prog_1_method_1_code
def yX1_init : MethodName := ⟨RX1, "<init>", "()V"⟩
abbrev cX1_poke : ByteArray := prog_1_method_2_code
def yX1_poke : MethodName := ⟨RX1, "poke", "(II)Z"⟩
abbrev cX1_set : ByteArray := prog_1_method_3_code
def yX1_set : MethodName := ⟨RX1, "set", "(II)Z"⟩
abbrev cX1_code : ByteArray := prog_1_method_4_code
def yX1_code : MethodName := ⟨RX1, "code", "(I)I"⟩
abbrev cX1_load : ByteArray := prog_1_method_5_code
def yX1_load : MethodName := ⟨RX1, "load", "(IZ)I"⟩
abbrev cX1_store : ByteArray := prog_1_method_6_code
def yX1_store : MethodName := ⟨RX1, "store", "(IIZ)I"⟩
abbrev cX1_find : ByteArray := prog_1_method_7_code
def yX1_find : MethodName := ⟨RX1, "find", "(IIZ)I"⟩
abbrev cX1_map : ByteArray := prog_1_method_8_code
def yX1_map : MethodName := ⟨RX1, "map", "(IIIZ)I"⟩
abbrev cX1_forget : ByteArray := prog_1_method_9_code
def yX1_forget : MethodName := ⟨RX1, "forget", "(Z)I"⟩
abbrev cX1_special : ByteArray := prog_1_method_10_code
def yX1_special : MethodName := ⟨RX1, "special", "(I)I"⟩
abbrev cX1_word : ByteArray := prog_1_method_11_code
def yX1_word : MethodName := ⟨RX1, "word", "(I)I"⟩
abbrev cX1_look : ByteArray := prog_1_method_12_code
def yX1_look : MethodName := ⟨RX1, "look", "(I)I"⟩
abbrev cX1_probe : ByteArray := prog_1_method_13_code
def yX1_probe : MethodName := ⟨RX1, "probe", "(IIZ)I"⟩
abbrev cX1_locate : ByteArray := prog_1_method_14_code
def yX1_locate : MethodName := ⟨RX1, "locate", "(IIZ)I"⟩
abbrev cX1_within : ByteArray := prog_1_method_15_code
def yX1_within : MethodName := ⟨RX1, "within", "(II)I"⟩
abbrev cX1_isMapped : ByteArray := prog_1_method_16_code
def yX1_isMapped : MethodName := ⟨RX1, "isMapped", "(I)Z"⟩
abbrev cX1_neededRight : ByteArray := prog_1_method_17_code
def yX1_neededRight : MethodName := ⟨RX1, "neededRight", "(I)I"⟩
abbrev cX1_isOfPage : ByteArray := prog_1_method_18_code
def yX1_isOfPage : MethodName := ⟨RX1, "isOfPage", "(II)Z"⟩
abbrev cX1_countMatches : ByteArray := prog_1_method_19_code
def yX1_countMatches : MethodName := ⟨RX1, "countMatches", "(Z)I"⟩
abbrev cX1_firstMatch : ByteArray := prog_1_method_20_code
def yX1_firstMatch : MethodName := ⟨RX1, "firstMatch", "(Z)I"⟩
abbrev cX1_setOf : ByteArray := prog_1_method_21_code
def yX1_setOf : MethodName := ⟨RX1, "setOf", "(I)I"⟩
abbrev cX1_isOdd : ByteArray := prog_1_method_22_code
def yX1_isOdd : MethodName := ⟨RX1, "isOdd", "(I)Z"⟩
abbrev cX1_isAligned : ByteArray := prog_1_method_23_code
def yX1_isAligned : MethodName := ⟨RX1, "isAligned", "(I)Z"⟩
abbrev cX1_isSpecial : ByteArray := prog_1_method_24_code
def yX1_isSpecial : MethodName := ⟨RX1, "isSpecial", "(I)Z"⟩
abbrev cX1_isWordPlace : ByteArray := prog_1_method_25_code
def yX1_isWordPlace : MethodName := ⟨RX1, "isWordPlace", "(I)Z"⟩
def RX2 : String := "SoftMapsModel"
def TX2 : u_T := fun k => match k with
  | 0 => ("SoftMapsModel", "thrown", "I", false)
  | 1 => ("SoftMapsModel", "bytes", "[I", true)
  | 2 => ("SoftMapsModel", "specials", "[I", true)
  | 3 => ("SoftMapsModel", "faults", "I", false)
  | 4 => ("SoftMapsModel", "fault", "I", false)
  | 5 => ("SoftMapsModel", "address", "I", false)
  | 6 => ("SoftMapsModel", "codes", "I", false)
  | 7 => ("SoftMapsModel", "loads", "I", false)
  | 8 => ("SoftMapsModel", "stores", "I", false)
  | _ => ("SoftMapsModel", "found", "I", false)
def tyX2 : Nat → FieldType := fun k => match k with
  | 0 => .int
  | 1 => .array .int
  | 2 => .array .int
  | 3 => .int
  | 4 => .int
  | 5 => .int
  | 6 => .int
  | 7 => .int
  | 8 => .int
  | _ => .int
abbrev wsX20 : List Cond := u_ws RX2 TX2 10
theorem nmX2 : ∀ a, a < 10 → ∀ b, b < 10 → a ≠ b → (TX2 a).2.1 ≠ (TX2 b).2.1 := by decide +kernel
theorem tyX2_ok : ∀ k, k < 10 → parseFieldDescriptor (TX2 k).2.2.1 = some (tyX2 k) := by decide +kernel
def RL : String := "SoftMapsLaw"
abbrev cL_law : ByteArray := code
def yL_law : MethodName := ⟨RL, "law", "([I)Z"⟩
def wsX0_init : List Cond := .code yX0_init cX0_init 1 none :: ([.methodLink RX0 3 objectInit, .instanceMethod objectInit, .code objectInit ⟨#[0xb1]⟩ 1 none, .classLink RX0 9 "[I", .fieldLink RX0 11 "SoftMaps$Memory" "pages" "[[I"] ++ wsX00)
def wsX0_indexInPage : List Cond := .code yX0_indexInPage cX0_indexInPage 1 (some .int) :: ([])
def wsX0_wordAt : List Cond := .code yX0_wordAt cX0_wordAt 3 (some .int) :: ([.constant RX0 17 (65536), .fieldLink RX0 11 "SoftMaps$Memory" "pages" "[[I", .methodLink RX0 18 yX0_indexInPage, .static yX0_indexInPage, .initialized RX0, .code yX0_indexInPage cX0_indexInPage 1 (some .int)] ++ wsX00)
def wsX0_putWord : List Cond := .code yX0_putWord cX0_putWord 4 none :: ([.constant RX0 17 (65536), .fieldLink RX0 11 "SoftMaps$Memory" "pages" "[[I", .arrayClass .int, .methodLink RX0 18 yX0_indexInPage, .static yX0_indexInPage, .initialized RX0, .code yX0_indexInPage cX0_indexInPage 1 (some .int)] ++ wsX00)
def wsX0_byteShift : List Cond := .code yX0_byteShift cX0_byteShift 1 (some .int) :: ([])
def wsX0_byteAt : List Cond := .code yX0_byteAt cX0_byteAt 2 (some .int) :: ([.methodLink RX0 22 yX0_wordAt, .instanceMethod yX0_wordAt, .selects RX0 yX0_wordAt yX0_wordAt, .initialized RX0, .code yX0_wordAt cX0_wordAt 3 (some .int), .constant RX0 17 (65536), .fieldLink RX0 11 "SoftMaps$Memory" "pages" "[[I", .methodLink RX0 18 yX0_indexInPage, .static yX0_indexInPage, .code yX0_indexInPage cX0_indexInPage 1 (some .int), .methodLink RX0 25 yX0_byteShift, .static yX0_byteShift, .code yX0_byteShift cX0_byteShift 1 (some .int)] ++ wsX00)
def wsX0_putByte : List Cond := .code yX0_putByte cX0_putByte 5 none :: ([.methodLink RX0 25 yX0_byteShift, .static yX0_byteShift, .initialized RX0, .code yX0_byteShift cX0_byteShift 1 (some .int), .methodLink RX0 22 yX0_wordAt, .instanceMethod yX0_wordAt, .selects RX0 yX0_wordAt yX0_wordAt, .code yX0_wordAt cX0_wordAt 3 (some .int), .constant RX0 17 (65536), .fieldLink RX0 11 "SoftMaps$Memory" "pages" "[[I", .methodLink RX0 18 yX0_indexInPage, .static yX0_indexInPage, .code yX0_indexInPage cX0_indexInPage 1 (some .int), .methodLink RX0 28 yX0_putWord, .instanceMethod yX0_putWord, .selects RX0 yX0_putWord yX0_putWord, .code yX0_putWord cX0_putWord 4 none, .arrayClass .int] ++ wsX00)
def wsX1_init : List Cond := .code yX1_init cX1_init 1 none :: ([.methodLink RX1 3 objectInit, .instanceMethod objectInit, .code objectInit ⟨#[0xb1]⟩ 1 none, .classLink RX1 9 RX0, .instantiable RX0 1, .initialized RX0, .fieldLink RX1 12 "SoftMaps" "memory" "LSoftMaps$Memory;", .arrayClass .int, .fieldLink RX1 16 "SoftMaps" "specials" "[I", .instanceMethod yX0_init, .code yX0_init cX0_init 1 none, .methodLink RX0 3 objectInit, .classLink RX0 9 "[I", .fieldLink RX0 11 "SoftMaps$Memory" "pages" "[[I"] ++ wsX00 ++ wsX10)
def wsX1_isAligned : List Cond := .code yX1_isAligned cX1_isAligned 1 (some .boolean) :: ([])
def wsX1_isWordPlace : List Cond := .code yX1_isWordPlace cX1_isWordPlace 1 (some .boolean) :: ([.constant RX1 95 (65536), .methodLink RX1 77 yX1_isAligned, .static yX1_isAligned, .initialized RX1, .code yX1_isAligned cX1_isAligned 1 (some .boolean)])
def wsX1_poke : List Cond := .code yX1_poke cX1_poke 3 (some .boolean) :: ([.fieldLink RX1 12 "SoftMaps" "memory" "LSoftMaps$Memory;", .methodLink RX1 20 yX1_isWordPlace, .static yX1_isWordPlace, .initialized RX1, .code yX1_isWordPlace cX1_isWordPlace 1 (some .boolean), .constant RX1 95 (65536), .methodLink RX1 77 yX1_isAligned, .static yX1_isAligned, .code yX1_isAligned cX1_isAligned 1 (some .boolean), .methodLink RX1 24 yX0_putWord, .instanceMethod yX0_putWord, .selects RX0 yX0_putWord yX0_putWord, .initialized RX0, .code yX0_putWord cX0_putWord 4 none, .constant RX0 17 (65536), .fieldLink RX0 11 "SoftMaps$Memory" "pages" "[[I", .arrayClass .int, .methodLink RX0 18 yX0_indexInPage, .static yX0_indexInPage, .code yX0_indexInPage cX0_indexInPage 1 (some .int)] ++ wsX10 ++ wsX00)
def wsX1_isSpecial : List Cond := .code yX1_isSpecial cX1_isSpecial 1 (some .boolean) :: ([])
def wsX1_set : List Cond := .code yX1_set cX1_set 3 (some .boolean) :: ([.fieldLink RX1 16 "SoftMaps" "specials" "[I", .methodLink RX1 28 yX1_isSpecial, .static yX1_isSpecial, .initialized RX1, .code yX1_isSpecial cX1_isSpecial 1 (some .boolean)] ++ wsX10)
def wsX1_isMapped : List Cond := .code yX1_isMapped cX1_isMapped 3 (some .boolean) :: ([.fieldLink RX1 16 "SoftMaps" "specials" "[I"] ++ wsX10)
def wsX1_within : List Cond := .code yX1_within cX1_within 4 (some .int) :: ([.constant RX1 94 (32768), .constant RX1 95 (65536)])
def wsX1_firstMatch : List Cond := .code yX1_firstMatch cX1_firstMatch 1 (some .int) :: ([])
def wsX1_setOf : List Cond := .code yX1_setOf cX1_setOf 1 (some .int) :: ([])
def wsX1_isOdd : List Cond := .code yX1_isOdd cX1_isOdd 1 (some .boolean) :: ([])
def wsX1_isOfPage : List Cond := .code yX1_isOfPage cX1_isOfPage 2 (some .boolean) :: ([.methodLink RX1 96 yX1_isOdd, .static yX1_isOdd, .initialized RX1, .code yX1_isOdd cX1_isOdd 1 (some .boolean)])
def wsX1_neededRight : List Cond := .code yX1_neededRight cX1_neededRight 4 (some .int) :: ([.fieldLink RX1 16 "SoftMaps" "specials" "[I"] ++ wsX10)
def wsX1_locate_r1 : List Cond := [Cond.fieldLink RX1 16 "SoftMaps" "specials" "[I", Cond.methodLink RX1 77 yX1_isAligned, Cond.static yX1_isAligned, Cond.initialized RX1, Cond.code yX1_isAligned cX1_isAligned 1 (some .boolean), Cond.methodLink RX1 80 yX1_isMapped, Cond.instanceMethod yX1_isMapped, Cond.selects RX1 yX1_isMapped yX1_isMapped, Cond.code yX1_isMapped cX1_isMapped 3 (some .boolean), Cond.methodLink RX1 83 yX1_within, Cond.static yX1_within, Cond.code yX1_within cX1_within 4 (some .int), Cond.constant RX1 94 (32768), Cond.constant RX1 95 (65536), Cond.methodLink RX1 61 yX1_firstMatch, Cond.static yX1_firstMatch, Cond.code yX1_firstMatch cX1_firstMatch 1 (some .int), Cond.methodLink RX1 58 yX1_setOf, Cond.static yX1_setOf, Cond.code yX1_setOf cX1_setOf 1 (some .int), Cond.methodLink RX1 87 yX1_isOfPage, Cond.static yX1_isOfPage, Cond.code yX1_isOfPage cX1_isOfPage 2 (some .boolean), Cond.methodLink RX1 96 yX1_isOdd]
def wsX1_locate_r2 : List Cond := [Cond.static yX1_isOdd, Cond.code yX1_isOdd cX1_isOdd 1 (some .boolean), Cond.methodLink RX1 91 yX1_neededRight, Cond.instanceMethod yX1_neededRight, Cond.selects RX1 yX1_neededRight yX1_neededRight, Cond.code yX1_neededRight cX1_neededRight 4 (some .int)]
def wsX1_locate : List Cond := .code yX1_locate cX1_locate 6 (some .int) :: ((wsX1_locate_r1 ++ wsX1_locate_r2) ++ wsX10)
def wsX1_probe_r1 : List Cond := [Cond.fieldLink RX1 68 "SoftMaps" "faults" "I", Cond.fieldLink RX1 71 "SoftMaps" "latestFault" "I", Cond.fieldLink RX1 74 "SoftMaps" "faultAddress" "I", Cond.methodLink RX1 55 yX1_locate, Cond.instanceMethod yX1_locate, Cond.selects RX1 yX1_locate yX1_locate, Cond.initialized RX1, Cond.code yX1_locate cX1_locate 6 (some .int), Cond.fieldLink RX1 16 "SoftMaps" "specials" "[I", Cond.methodLink RX1 77 yX1_isAligned, Cond.static yX1_isAligned, Cond.code yX1_isAligned cX1_isAligned 1 (some .boolean), Cond.methodLink RX1 80 yX1_isMapped, Cond.instanceMethod yX1_isMapped, Cond.selects RX1 yX1_isMapped yX1_isMapped, Cond.code yX1_isMapped cX1_isMapped 3 (some .boolean), Cond.methodLink RX1 83 yX1_within, Cond.static yX1_within, Cond.code yX1_within cX1_within 4 (some .int), Cond.constant RX1 94 (32768), Cond.constant RX1 95 (65536), Cond.methodLink RX1 61 yX1_firstMatch, Cond.static yX1_firstMatch, Cond.code yX1_firstMatch cX1_firstMatch 1 (some .int)]
def wsX1_probe_r2 : List Cond := [Cond.methodLink RX1 58 yX1_setOf, Cond.static yX1_setOf, Cond.code yX1_setOf cX1_setOf 1 (some .int), Cond.methodLink RX1 87 yX1_isOfPage, Cond.static yX1_isOfPage, Cond.code yX1_isOfPage cX1_isOfPage 2 (some .boolean), Cond.methodLink RX1 96 yX1_isOdd, Cond.static yX1_isOdd, Cond.code yX1_isOdd cX1_isOdd 1 (some .boolean), Cond.methodLink RX1 91 yX1_neededRight, Cond.instanceMethod yX1_neededRight, Cond.selects RX1 yX1_neededRight yX1_neededRight, Cond.code yX1_neededRight cX1_neededRight 4 (some .int)]
def wsX1_probe : List Cond := .code yX1_probe cX1_probe 5 (some .int) :: ((wsX1_probe_r1 ++ wsX1_probe_r2) ++ wsX10)
def wsX1_code_r1 : List Cond := [Cond.fieldLink RX1 35 "SoftMaps" "codeReads" "I", Cond.fieldLink RX1 12 "SoftMaps" "memory" "LSoftMaps$Memory;", Cond.methodLink RX1 31 yX1_probe, Cond.instanceMethod yX1_probe, Cond.selects RX1 yX1_probe yX1_probe, Cond.initialized RX1, Cond.code yX1_probe cX1_probe 5 (some .int), Cond.fieldLink RX1 68 "SoftMaps" "faults" "I", Cond.fieldLink RX1 71 "SoftMaps" "latestFault" "I", Cond.fieldLink RX1 74 "SoftMaps" "faultAddress" "I", Cond.methodLink RX1 55 yX1_locate, Cond.instanceMethod yX1_locate, Cond.selects RX1 yX1_locate yX1_locate, Cond.code yX1_locate cX1_locate 6 (some .int), Cond.fieldLink RX1 16 "SoftMaps" "specials" "[I", Cond.methodLink RX1 77 yX1_isAligned, Cond.static yX1_isAligned, Cond.code yX1_isAligned cX1_isAligned 1 (some .boolean), Cond.methodLink RX1 80 yX1_isMapped, Cond.instanceMethod yX1_isMapped, Cond.selects RX1 yX1_isMapped yX1_isMapped, Cond.code yX1_isMapped cX1_isMapped 3 (some .boolean), Cond.methodLink RX1 83 yX1_within, Cond.static yX1_within]
def wsX1_code_r2 : List Cond := [Cond.code yX1_within cX1_within 4 (some .int), Cond.constant RX1 94 (32768), Cond.constant RX1 95 (65536), Cond.methodLink RX1 61 yX1_firstMatch, Cond.static yX1_firstMatch, Cond.code yX1_firstMatch cX1_firstMatch 1 (some .int), Cond.methodLink RX1 58 yX1_setOf, Cond.static yX1_setOf, Cond.code yX1_setOf cX1_setOf 1 (some .int), Cond.methodLink RX1 87 yX1_isOfPage, Cond.static yX1_isOfPage, Cond.code yX1_isOfPage cX1_isOfPage 2 (some .boolean), Cond.methodLink RX1 96 yX1_isOdd, Cond.static yX1_isOdd, Cond.code yX1_isOdd cX1_isOdd 1 (some .boolean), Cond.methodLink RX1 91 yX1_neededRight, Cond.instanceMethod yX1_neededRight, Cond.selects RX1 yX1_neededRight yX1_neededRight, Cond.code yX1_neededRight cX1_neededRight 4 (some .int), Cond.methodLink RX1 39 yX0_wordAt, Cond.instanceMethod yX0_wordAt, Cond.selects RX0 yX0_wordAt yX0_wordAt, Cond.initialized RX0, Cond.code yX0_wordAt cX0_wordAt 3 (some .int)]
def wsX1_code_r3 : List Cond := [Cond.constant RX0 17 (65536), Cond.fieldLink RX0 11 "SoftMaps$Memory" "pages" "[[I", Cond.methodLink RX0 18 yX0_indexInPage, Cond.static yX0_indexInPage, Cond.code yX0_indexInPage cX0_indexInPage 1 (some .int)]
def wsX1_code : List Cond := .code yX1_code cX1_code 3 (some .int) :: ((wsX1_code_r1 ++ (wsX1_code_r2 ++ wsX1_code_r3)) ++ wsX10 ++ wsX00)
def wsX1_load_r1 : List Cond := [Cond.fieldLink RX1 43 "SoftMaps" "loads" "I", Cond.fieldLink RX1 12 "SoftMaps" "memory" "LSoftMaps$Memory;", Cond.methodLink RX1 31 yX1_probe, Cond.instanceMethod yX1_probe, Cond.selects RX1 yX1_probe yX1_probe, Cond.initialized RX1, Cond.code yX1_probe cX1_probe 5 (some .int), Cond.fieldLink RX1 68 "SoftMaps" "faults" "I", Cond.fieldLink RX1 71 "SoftMaps" "latestFault" "I", Cond.fieldLink RX1 74 "SoftMaps" "faultAddress" "I", Cond.methodLink RX1 55 yX1_locate, Cond.instanceMethod yX1_locate, Cond.selects RX1 yX1_locate yX1_locate, Cond.code yX1_locate cX1_locate 6 (some .int), Cond.fieldLink RX1 16 "SoftMaps" "specials" "[I", Cond.methodLink RX1 77 yX1_isAligned, Cond.static yX1_isAligned, Cond.code yX1_isAligned cX1_isAligned 1 (some .boolean), Cond.methodLink RX1 80 yX1_isMapped, Cond.instanceMethod yX1_isMapped, Cond.selects RX1 yX1_isMapped yX1_isMapped, Cond.code yX1_isMapped cX1_isMapped 3 (some .boolean), Cond.methodLink RX1 83 yX1_within, Cond.static yX1_within]
def wsX1_load_r2 : List Cond := [Cond.code yX1_within cX1_within 4 (some .int), Cond.constant RX1 94 (32768), Cond.constant RX1 95 (65536), Cond.methodLink RX1 61 yX1_firstMatch, Cond.static yX1_firstMatch, Cond.code yX1_firstMatch cX1_firstMatch 1 (some .int), Cond.methodLink RX1 58 yX1_setOf, Cond.static yX1_setOf, Cond.code yX1_setOf cX1_setOf 1 (some .int), Cond.methodLink RX1 87 yX1_isOfPage, Cond.static yX1_isOfPage, Cond.code yX1_isOfPage cX1_isOfPage 2 (some .boolean), Cond.methodLink RX1 96 yX1_isOdd, Cond.static yX1_isOdd, Cond.code yX1_isOdd cX1_isOdd 1 (some .boolean), Cond.methodLink RX1 91 yX1_neededRight, Cond.instanceMethod yX1_neededRight, Cond.selects RX1 yX1_neededRight yX1_neededRight, Cond.code yX1_neededRight cX1_neededRight 4 (some .int), Cond.methodLink RX1 39 yX0_wordAt, Cond.instanceMethod yX0_wordAt, Cond.selects RX0 yX0_wordAt yX0_wordAt, Cond.initialized RX0, Cond.code yX0_wordAt cX0_wordAt 3 (some .int)]
def wsX1_load_r3 : List Cond := [Cond.constant RX0 17 (65536), Cond.fieldLink RX0 11 "SoftMaps$Memory" "pages" "[[I", Cond.methodLink RX0 18 yX0_indexInPage, Cond.static yX0_indexInPage, Cond.code yX0_indexInPage cX0_indexInPage 1 (some .int), Cond.methodLink RX1 46 yX0_byteAt, Cond.instanceMethod yX0_byteAt, Cond.selects RX0 yX0_byteAt yX0_byteAt, Cond.code yX0_byteAt cX0_byteAt 2 (some .int), Cond.methodLink RX0 22 yX0_wordAt, Cond.methodLink RX0 25 yX0_byteShift, Cond.static yX0_byteShift, Cond.code yX0_byteShift cX0_byteShift 1 (some .int)]
def wsX1_load : List Cond := .code yX1_load cX1_load 4 (some .int) :: ((wsX1_load_r1 ++ (wsX1_load_r2 ++ wsX1_load_r3)) ++ wsX10 ++ wsX00)
def wsX1_store_r1 : List Cond := [Cond.fieldLink RX1 49 "SoftMaps" "stores" "I", Cond.fieldLink RX1 12 "SoftMaps" "memory" "LSoftMaps$Memory;", Cond.methodLink RX1 31 yX1_probe, Cond.instanceMethod yX1_probe, Cond.selects RX1 yX1_probe yX1_probe, Cond.initialized RX1, Cond.code yX1_probe cX1_probe 5 (some .int), Cond.fieldLink RX1 68 "SoftMaps" "faults" "I", Cond.fieldLink RX1 71 "SoftMaps" "latestFault" "I", Cond.fieldLink RX1 74 "SoftMaps" "faultAddress" "I", Cond.methodLink RX1 55 yX1_locate, Cond.instanceMethod yX1_locate, Cond.selects RX1 yX1_locate yX1_locate, Cond.code yX1_locate cX1_locate 6 (some .int), Cond.fieldLink RX1 16 "SoftMaps" "specials" "[I", Cond.methodLink RX1 77 yX1_isAligned, Cond.static yX1_isAligned, Cond.code yX1_isAligned cX1_isAligned 1 (some .boolean), Cond.methodLink RX1 80 yX1_isMapped, Cond.instanceMethod yX1_isMapped, Cond.selects RX1 yX1_isMapped yX1_isMapped, Cond.code yX1_isMapped cX1_isMapped 3 (some .boolean), Cond.methodLink RX1 83 yX1_within, Cond.static yX1_within]
def wsX1_store_r2 : List Cond := [Cond.code yX1_within cX1_within 4 (some .int), Cond.constant RX1 94 (32768), Cond.constant RX1 95 (65536), Cond.methodLink RX1 61 yX1_firstMatch, Cond.static yX1_firstMatch, Cond.code yX1_firstMatch cX1_firstMatch 1 (some .int), Cond.methodLink RX1 58 yX1_setOf, Cond.static yX1_setOf, Cond.code yX1_setOf cX1_setOf 1 (some .int), Cond.methodLink RX1 87 yX1_isOfPage, Cond.static yX1_isOfPage, Cond.code yX1_isOfPage cX1_isOfPage 2 (some .boolean), Cond.methodLink RX1 96 yX1_isOdd, Cond.static yX1_isOdd, Cond.code yX1_isOdd cX1_isOdd 1 (some .boolean), Cond.methodLink RX1 91 yX1_neededRight, Cond.instanceMethod yX1_neededRight, Cond.selects RX1 yX1_neededRight yX1_neededRight, Cond.code yX1_neededRight cX1_neededRight 4 (some .int), Cond.methodLink RX1 24 yX0_putWord, Cond.instanceMethod yX0_putWord, Cond.selects RX0 yX0_putWord yX0_putWord, Cond.initialized RX0, Cond.code yX0_putWord cX0_putWord 4 none]
def wsX1_store_r3 : List Cond := [Cond.constant RX0 17 (65536), Cond.fieldLink RX0 11 "SoftMaps$Memory" "pages" "[[I", Cond.arrayClass .int, Cond.methodLink RX0 18 yX0_indexInPage, Cond.static yX0_indexInPage, Cond.code yX0_indexInPage cX0_indexInPage 1 (some .int), Cond.methodLink RX1 52 yX0_putByte, Cond.instanceMethod yX0_putByte, Cond.selects RX0 yX0_putByte yX0_putByte, Cond.code yX0_putByte cX0_putByte 5 none, Cond.methodLink RX0 25 yX0_byteShift, Cond.static yX0_byteShift, Cond.code yX0_byteShift cX0_byteShift 1 (some .int), Cond.methodLink RX0 22 yX0_wordAt, Cond.instanceMethod yX0_wordAt, Cond.selects RX0 yX0_wordAt yX0_wordAt, Cond.code yX0_wordAt cX0_wordAt 3 (some .int), Cond.methodLink RX0 28 yX0_putWord]
def wsX1_store : List Cond := .code yX1_store cX1_store 5 (some .int) :: ((wsX1_store_r1 ++ (wsX1_store_r2 ++ wsX1_store_r3)) ++ wsX10 ++ wsX00)
def wsX1_find_r1 : List Cond := [Cond.methodLink RX1 55 yX1_locate, Cond.instanceMethod yX1_locate, Cond.selects RX1 yX1_locate yX1_locate, Cond.initialized RX1, Cond.code yX1_locate cX1_locate 6 (some .int), Cond.fieldLink RX1 16 "SoftMaps" "specials" "[I", Cond.methodLink RX1 77 yX1_isAligned, Cond.static yX1_isAligned, Cond.code yX1_isAligned cX1_isAligned 1 (some .boolean), Cond.methodLink RX1 80 yX1_isMapped, Cond.instanceMethod yX1_isMapped, Cond.selects RX1 yX1_isMapped yX1_isMapped, Cond.code yX1_isMapped cX1_isMapped 3 (some .boolean), Cond.methodLink RX1 83 yX1_within, Cond.static yX1_within, Cond.code yX1_within cX1_within 4 (some .int), Cond.constant RX1 94 (32768), Cond.constant RX1 95 (65536), Cond.methodLink RX1 61 yX1_firstMatch, Cond.static yX1_firstMatch, Cond.code yX1_firstMatch cX1_firstMatch 1 (some .int), Cond.methodLink RX1 58 yX1_setOf, Cond.static yX1_setOf, Cond.code yX1_setOf cX1_setOf 1 (some .int)]
def wsX1_find_r2 : List Cond := [Cond.methodLink RX1 87 yX1_isOfPage, Cond.static yX1_isOfPage, Cond.code yX1_isOfPage cX1_isOfPage 2 (some .boolean), Cond.methodLink RX1 96 yX1_isOdd, Cond.static yX1_isOdd, Cond.code yX1_isOdd cX1_isOdd 1 (some .boolean), Cond.methodLink RX1 91 yX1_neededRight, Cond.instanceMethod yX1_neededRight, Cond.selects RX1 yX1_neededRight yX1_neededRight, Cond.code yX1_neededRight cX1_neededRight 4 (some .int)]
def wsX1_find : List Cond := .code yX1_find cX1_find 4 (some .int) :: ((wsX1_find_r1 ++ wsX1_find_r2) ++ wsX10)
def wsX1_map : List Cond := .code yX1_map cX1_map 7 (some .int) :: ([.fieldLink RX1 16 "SoftMaps" "specials" "[I", .methodLink RX1 58 yX1_setOf, .static yX1_setOf, .initialized RX1, .code yX1_setOf cX1_setOf 1 (some .int), .methodLink RX1 61 yX1_firstMatch, .static yX1_firstMatch, .code yX1_firstMatch cX1_firstMatch 1 (some .int)] ++ wsX10)
def wsX1_countMatches : List Cond := .code yX1_countMatches cX1_countMatches 5 (some .int) :: ([.fieldLink RX1 16 "SoftMaps" "specials" "[I", .methodLink RX1 61 yX1_firstMatch, .static yX1_firstMatch, .initialized RX1, .code yX1_firstMatch cX1_firstMatch 1 (some .int), .methodLink RX1 96 yX1_isOdd, .static yX1_isOdd, .code yX1_isOdd cX1_isOdd 1 (some .boolean)] ++ wsX10)
def wsX1_forget : List Cond := .code yX1_forget cX1_forget 5 (some .int) :: ([.fieldLink RX1 16 "SoftMaps" "specials" "[I", .methodLink RX1 65 yX1_countMatches, .instanceMethod yX1_countMatches, .selects RX1 yX1_countMatches yX1_countMatches, .initialized RX1, .code yX1_countMatches cX1_countMatches 5 (some .int), .methodLink RX1 61 yX1_firstMatch, .static yX1_firstMatch, .code yX1_firstMatch cX1_firstMatch 1 (some .int), .methodLink RX1 96 yX1_isOdd, .static yX1_isOdd, .code yX1_isOdd cX1_isOdd 1 (some .boolean)] ++ wsX10)
def wsX1_special : List Cond := .code yX1_special cX1_special 2 (some .int) :: ([.fieldLink RX1 16 "SoftMaps" "specials" "[I", .methodLink RX1 28 yX1_isSpecial, .static yX1_isSpecial, .initialized RX1, .code yX1_isSpecial cX1_isSpecial 1 (some .boolean)] ++ wsX10)
def wsX1_word : List Cond := .code yX1_word cX1_word 2 (some .int) :: ([.fieldLink RX1 12 "SoftMaps" "memory" "LSoftMaps$Memory;", .methodLink RX1 20 yX1_isWordPlace, .static yX1_isWordPlace, .initialized RX1, .code yX1_isWordPlace cX1_isWordPlace 1 (some .boolean), .constant RX1 95 (65536), .methodLink RX1 77 yX1_isAligned, .static yX1_isAligned, .code yX1_isAligned cX1_isAligned 1 (some .boolean), .methodLink RX1 39 yX0_wordAt, .instanceMethod yX0_wordAt, .selects RX0 yX0_wordAt yX0_wordAt, .initialized RX0, .code yX0_wordAt cX0_wordAt 3 (some .int), .constant RX0 17 (65536), .fieldLink RX0 11 "SoftMaps$Memory" "pages" "[[I", .methodLink RX0 18 yX0_indexInPage, .static yX0_indexInPage, .code yX0_indexInPage cX0_indexInPage 1 (some .int)] ++ wsX10 ++ wsX00)
def wsX1_look : List Cond := .code yX1_look cX1_look 2 (some .int) :: ([.fieldLink RX1 68 "SoftMaps" "faults" "I", .fieldLink RX1 71 "SoftMaps" "latestFault" "I", .fieldLink RX1 74 "SoftMaps" "faultAddress" "I", .fieldLink RX1 35 "SoftMaps" "codeReads" "I", .fieldLink RX1 43 "SoftMaps" "loads" "I", .fieldLink RX1 49 "SoftMaps" "stores" "I", .methodLink RX1 65 yX1_countMatches, .instanceMethod yX1_countMatches, .selects RX1 yX1_countMatches yX1_countMatches, .initialized RX1, .code yX1_countMatches cX1_countMatches 5 (some .int), .fieldLink RX1 16 "SoftMaps" "specials" "[I", .methodLink RX1 61 yX1_firstMatch, .static yX1_firstMatch, .code yX1_firstMatch cX1_firstMatch 1 (some .int), .methodLink RX1 96 yX1_isOdd, .static yX1_isOdd, .code yX1_isOdd cX1_isOdd 1 (some .boolean)] ++ wsX10)
theorem dX0_init_0 : decode cX0_init 0 = .ok (.aload_n 0, 1) := by decide +kernel
theorem dX0_init_1 : decode cX0_init 1 = .ok (.invokespecial 3, 3) := by decide +kernel
theorem dX0_init_4 : decode cX0_init 4 = .ok (.aload_n 0, 1) := by decide +kernel
theorem dX0_init_5 : decode cX0_init 5 = .ok (.bipush 64, 2) := by decide +kernel
theorem dX0_init_7 : decode cX0_init 7 = .ok (.anewarray 9, 3) := by decide +kernel
theorem dX0_init_10 : decode cX0_init 10 = .ok (.putfield 11, 3) := by decide +kernel
theorem dX0_init_13 : decode cX0_init 13 = .ok (.return_, 1) := by decide +kernel
set_option maxRecDepth 20000 in
theorem ggX0_wordAt_X0_indexInPage : GoodIn wsX0_wordAt wsX0_indexInPage := goodIn_r _ [6] (by decide +kernel) (by decide +kernel)
set_option maxRecDepth 20000 in
theorem gX0_wordAt_X0_indexInPage : GoodIn wsX0_wordAt (va_wsS RX0 18 yX0_indexInPage wsX0_indexInPage) := goodIn_app (goodIn_of _ (by decide +kernel)) ggX0_wordAt_X0_indexInPage
theorem dX0_wordAt_0 : decode cX0_wordAt 0 = .ok (.iload_n 1, 1) := by decide +kernel
theorem dX0_wordAt_1 : decode cX0_wordAt 1 = .ok (.ifCond .lt 9, 3) := by decide +kernel
theorem dX0_wordAt_4 : decode cX0_wordAt 4 = .ok (.iload_n 1, 1) := by decide +kernel
theorem dX0_wordAt_5 : decode cX0_wordAt 5 = .ok (.ldc 17, 2) := by decide +kernel
theorem dX0_wordAt_7 : decode cX0_wordAt 7 = .ok (.if_icmp .lt 5, 3) := by decide +kernel
theorem dX0_wordAt_10 : decode cX0_wordAt 10 = .ok (.iconst 0, 1) := by decide +kernel
theorem dX0_wordAt_11 : decode cX0_wordAt 11 = .ok (.ireturn, 1) := by decide +kernel
theorem dX0_wordAt_12 : decode cX0_wordAt 12 = .ok (.aload_n 0, 1) := by decide +kernel
theorem dX0_wordAt_13 : decode cX0_wordAt 13 = .ok (.getfield 11, 3) := by decide +kernel
theorem dX0_wordAt_16 : decode cX0_wordAt 16 = .ok (.iload_n 1, 1) := by decide +kernel
theorem dX0_wordAt_17 : decode cX0_wordAt 17 = .ok (.bipush 10, 2) := by decide +kernel
theorem dX0_wordAt_19 : decode cX0_wordAt 19 = .ok (.iushr, 1) := by decide +kernel
theorem dX0_wordAt_20 : decode cX0_wordAt 20 = .ok (.aaload, 1) := by decide +kernel
theorem dX0_wordAt_21 : decode cX0_wordAt 21 = .ok (.astore_n 2, 1) := by decide +kernel
theorem dX0_wordAt_22 : decode cX0_wordAt 22 = .ok (.aload_n 2, 1) := by decide +kernel
theorem dX0_wordAt_23 : decode cX0_wordAt 23 = .ok (.ifnonnull 7, 3) := by decide +kernel
theorem dX0_wordAt_26 : decode cX0_wordAt 26 = .ok (.iconst 0, 1) := by decide +kernel
theorem dX0_wordAt_27 : decode cX0_wordAt 27 = .ok (.goto 9, 3) := by decide +kernel
theorem dX0_wordAt_30 : decode cX0_wordAt 30 = .ok (.aload_n 2, 1) := by decide +kernel
theorem dX0_wordAt_31 : decode cX0_wordAt 31 = .ok (.iload_n 1, 1) := by decide +kernel
theorem dX0_wordAt_32 : decode cX0_wordAt 32 = .ok (.invokestatic 18, 3) := by decide +kernel
theorem dX0_wordAt_35 : decode cX0_wordAt 35 = .ok (.iaload, 1) := by decide +kernel
theorem dX0_wordAt_36 : decode cX0_wordAt 36 = .ok (.ireturn, 1) := by decide +kernel
set_option maxRecDepth 20000 in
theorem ggX0_putWord_X0_indexInPage : GoodIn wsX0_putWord wsX0_indexInPage := goodIn_r _ [7] (by decide +kernel) (by decide +kernel)
set_option maxRecDepth 20000 in
theorem gX0_putWord_X0_indexInPage : GoodIn wsX0_putWord (va_wsS RX0 18 yX0_indexInPage wsX0_indexInPage) := goodIn_app (goodIn_of _ (by decide +kernel)) ggX0_putWord_X0_indexInPage
theorem dX0_putWord_0 : decode cX0_putWord 0 = .ok (.iload_n 1, 1) := by decide +kernel
theorem dX0_putWord_1 : decode cX0_putWord 1 = .ok (.ifCond .lt 9, 3) := by decide +kernel
theorem dX0_putWord_4 : decode cX0_putWord 4 = .ok (.iload_n 1, 1) := by decide +kernel
theorem dX0_putWord_5 : decode cX0_putWord 5 = .ok (.ldc 17, 2) := by decide +kernel
theorem dX0_putWord_7 : decode cX0_putWord 7 = .ok (.if_icmp .lt 4, 3) := by decide +kernel
theorem dX0_putWord_10 : decode cX0_putWord 10 = .ok (.return_, 1) := by decide +kernel
theorem dX0_putWord_11 : decode cX0_putWord 11 = .ok (.aload_n 0, 1) := by decide +kernel
theorem dX0_putWord_12 : decode cX0_putWord 12 = .ok (.getfield 11, 3) := by decide +kernel
theorem dX0_putWord_15 : decode cX0_putWord 15 = .ok (.iload_n 1, 1) := by decide +kernel
theorem dX0_putWord_16 : decode cX0_putWord 16 = .ok (.bipush 10, 2) := by decide +kernel
theorem dX0_putWord_18 : decode cX0_putWord 18 = .ok (.iushr, 1) := by decide +kernel
theorem dX0_putWord_19 : decode cX0_putWord 19 = .ok (.aaload, 1) := by decide +kernel
theorem dX0_putWord_20 : decode cX0_putWord 20 = .ok (.astore_n 3, 1) := by decide +kernel
theorem dX0_putWord_21 : decode cX0_putWord 21 = .ok (.aload_n 3, 1) := by decide +kernel
theorem dX0_putWord_22 : decode cX0_putWord 22 = .ok (.ifnonnull 19, 3) := by decide +kernel
theorem dX0_putWord_25 : decode cX0_putWord 25 = .ok (.sipush 256, 3) := by decide +kernel
theorem dX0_putWord_28 : decode cX0_putWord 28 = .ok (.newarray .int, 2) := by decide +kernel
theorem dX0_putWord_30 : decode cX0_putWord 30 = .ok (.astore_n 3, 1) := by decide +kernel
theorem dX0_putWord_31 : decode cX0_putWord 31 = .ok (.aload_n 0, 1) := by decide +kernel
theorem dX0_putWord_32 : decode cX0_putWord 32 = .ok (.getfield 11, 3) := by decide +kernel
theorem dX0_putWord_35 : decode cX0_putWord 35 = .ok (.iload_n 1, 1) := by decide +kernel
theorem dX0_putWord_36 : decode cX0_putWord 36 = .ok (.bipush 10, 2) := by decide +kernel
theorem dX0_putWord_38 : decode cX0_putWord 38 = .ok (.iushr, 1) := by decide +kernel
theorem dX0_putWord_39 : decode cX0_putWord 39 = .ok (.aload_n 3, 1) := by decide +kernel
theorem dX0_putWord_40 : decode cX0_putWord 40 = .ok (.aastore, 1) := by decide +kernel
theorem dX0_putWord_41 : decode cX0_putWord 41 = .ok (.aload_n 3, 1) := by decide +kernel
theorem dX0_putWord_42 : decode cX0_putWord 42 = .ok (.iload_n 1, 1) := by decide +kernel
theorem dX0_putWord_43 : decode cX0_putWord 43 = .ok (.invokestatic 18, 3) := by decide +kernel
theorem dX0_putWord_46 : decode cX0_putWord 46 = .ok (.iload_n 2, 1) := by decide +kernel
theorem dX0_putWord_47 : decode cX0_putWord 47 = .ok (.iastore, 1) := by decide +kernel
theorem dX0_putWord_48 : decode cX0_putWord 48 = .ok (.return_, 1) := by decide +kernel
set_option maxRecDepth 20000 in
theorem ggX0_byteAt_X0_wordAt : GoodIn wsX0_byteAt wsX0_wordAt := goodIn_r _ [5, 6, 7, 8, 9, 4, 10, 14] (by decide +kernel) (by decide +kernel)
set_option maxRecDepth 20000 in
theorem gX0_byteAt_X0_wordAt : GoodIn wsX0_byteAt (wsV RX0 22 RX0 yX0_wordAt wsX0_wordAt) := goodIn_app (goodIn_of _ (by decide +kernel)) ggX0_byteAt_X0_wordAt
set_option maxRecDepth 20000 in
theorem ggX0_byteAt_X0_byteShift : GoodIn wsX0_byteAt wsX0_byteShift := goodIn_r _ [13] (by decide +kernel) (by decide +kernel)
set_option maxRecDepth 20000 in
theorem gX0_byteAt_X0_byteShift : GoodIn wsX0_byteAt (va_wsS RX0 25 yX0_byteShift wsX0_byteShift) := goodIn_app (goodIn_of _ (by decide +kernel)) ggX0_byteAt_X0_byteShift
theorem dX0_byteAt_0 : decode cX0_byteAt 0 = .ok (.aload_n 0, 1) := by decide +kernel
theorem dX0_byteAt_1 : decode cX0_byteAt 1 = .ok (.iload_n 1, 1) := by decide +kernel
theorem dX0_byteAt_2 : decode cX0_byteAt 2 = .ok (.invokevirtual 22, 3) := by decide +kernel
theorem dX0_byteAt_5 : decode cX0_byteAt 5 = .ok (.iload_n 1, 1) := by decide +kernel
theorem dX0_byteAt_6 : decode cX0_byteAt 6 = .ok (.invokestatic 25, 3) := by decide +kernel
theorem dX0_byteAt_9 : decode cX0_byteAt 9 = .ok (.iushr, 1) := by decide +kernel
theorem dX0_byteAt_10 : decode cX0_byteAt 10 = .ok (.sipush 255, 3) := by decide +kernel
theorem dX0_byteAt_13 : decode cX0_byteAt 13 = .ok (.iand, 1) := by decide +kernel
theorem dX0_byteAt_14 : decode cX0_byteAt 14 = .ok (.ireturn, 1) := by decide +kernel
set_option maxRecDepth 20000 in
theorem ggX0_putByte_X0_byteShift : GoodIn wsX0_putByte wsX0_byteShift := goodIn_r _ [4] (by decide +kernel) (by decide +kernel)
set_option maxRecDepth 20000 in
theorem gX0_putByte_X0_byteShift : GoodIn wsX0_putByte (va_wsS RX0 25 yX0_byteShift wsX0_byteShift) := goodIn_app (goodIn_of _ (by decide +kernel)) ggX0_putByte_X0_byteShift
set_option maxRecDepth 20000 in
theorem ggX0_putByte_X0_wordAt : GoodIn wsX0_putByte wsX0_wordAt := goodIn_r _ [8, 9, 10, 11, 12, 3, 13, 19] (by decide +kernel) (by decide +kernel)
set_option maxRecDepth 20000 in
theorem gX0_putByte_X0_wordAt : GoodIn wsX0_putByte (wsV RX0 22 RX0 yX0_wordAt wsX0_wordAt) := goodIn_app (goodIn_of _ (by decide +kernel)) ggX0_putByte_X0_wordAt
set_option maxRecDepth 20000 in
theorem ggX0_putByte_X0_putWord : GoodIn wsX0_putByte wsX0_putWord := goodIn_r _ [17, 9, 10, 18, 11, 12, 3, 13, 19] (by decide +kernel) (by decide +kernel)
set_option maxRecDepth 20000 in
theorem gX0_putByte_X0_putWord : GoodIn wsX0_putByte (wsV RX0 28 RX0 yX0_putWord wsX0_putWord) := goodIn_app (goodIn_of _ (by decide +kernel)) ggX0_putByte_X0_putWord
theorem dX0_putByte_0 : decode cX0_putByte 0 = .ok (.iload_n 1, 1) := by decide +kernel
theorem dX0_putByte_1 : decode cX0_putByte 1 = .ok (.invokestatic 25, 3) := by decide +kernel
theorem dX0_putByte_4 : decode cX0_putByte 4 = .ok (.istore_n 3, 1) := by decide +kernel
theorem dX0_putByte_5 : decode cX0_putByte 5 = .ok (.aload_n 0, 1) := by decide +kernel
theorem dX0_putByte_6 : decode cX0_putByte 6 = .ok (.iload_n 1, 1) := by decide +kernel
theorem dX0_putByte_7 : decode cX0_putByte 7 = .ok (.invokevirtual 22, 3) := by decide +kernel
theorem dX0_putByte_10 : decode cX0_putByte 10 = .ok (.sipush 255, 3) := by decide +kernel
theorem dX0_putByte_13 : decode cX0_putByte 13 = .ok (.iload_n 3, 1) := by decide +kernel
theorem dX0_putByte_14 : decode cX0_putByte 14 = .ok (.ishl, 1) := by decide +kernel
theorem dX0_putByte_15 : decode cX0_putByte 15 = .ok (.iconst (-1), 1) := by decide +kernel
theorem dX0_putByte_16 : decode cX0_putByte 16 = .ok (.ixor, 1) := by decide +kernel
theorem dX0_putByte_17 : decode cX0_putByte 17 = .ok (.iand, 1) := by decide +kernel
theorem dX0_putByte_18 : decode cX0_putByte 18 = .ok (.istore 4, 2) := by decide +kernel
theorem dX0_putByte_20 : decode cX0_putByte 20 = .ok (.aload_n 0, 1) := by decide +kernel
theorem dX0_putByte_21 : decode cX0_putByte 21 = .ok (.iload_n 1, 1) := by decide +kernel
theorem dX0_putByte_22 : decode cX0_putByte 22 = .ok (.iload 4, 2) := by decide +kernel
theorem dX0_putByte_24 : decode cX0_putByte 24 = .ok (.iload_n 2, 1) := by decide +kernel
theorem dX0_putByte_25 : decode cX0_putByte 25 = .ok (.sipush 255, 3) := by decide +kernel
theorem dX0_putByte_28 : decode cX0_putByte 28 = .ok (.iand, 1) := by decide +kernel
theorem dX0_putByte_29 : decode cX0_putByte 29 = .ok (.iload_n 3, 1) := by decide +kernel
theorem dX0_putByte_30 : decode cX0_putByte 30 = .ok (.ishl, 1) := by decide +kernel
theorem dX0_putByte_31 : decode cX0_putByte 31 = .ok (.ior, 1) := by decide +kernel
theorem dX0_putByte_32 : decode cX0_putByte 32 = .ok (.invokevirtual 28, 3) := by decide +kernel
theorem dX0_putByte_35 : decode cX0_putByte 35 = .ok (.return_, 1) := by decide +kernel
theorem dX0_indexInPage_0 : decode cX0_indexInPage 0 = .ok (.iload_n 0, 1) := by decide +kernel
theorem dX0_indexInPage_1 : decode cX0_indexInPage 1 = .ok (.sipush 1023, 3) := by decide +kernel
theorem dX0_indexInPage_4 : decode cX0_indexInPage 4 = .ok (.iand, 1) := by decide +kernel
theorem dX0_indexInPage_5 : decode cX0_indexInPage 5 = .ok (.iconst 2, 1) := by decide +kernel
theorem dX0_indexInPage_6 : decode cX0_indexInPage 6 = .ok (.iushr, 1) := by decide +kernel
theorem dX0_indexInPage_7 : decode cX0_indexInPage 7 = .ok (.ireturn, 1) := by decide +kernel
theorem dX0_byteShift_0 : decode cX0_byteShift 0 = .ok (.iconst 3, 1) := by decide +kernel
theorem dX0_byteShift_1 : decode cX0_byteShift 1 = .ok (.iload_n 0, 1) := by decide +kernel
theorem dX0_byteShift_2 : decode cX0_byteShift 2 = .ok (.iconst 3, 1) := by decide +kernel
theorem dX0_byteShift_3 : decode cX0_byteShift 3 = .ok (.iand, 1) := by decide +kernel
theorem dX0_byteShift_4 : decode cX0_byteShift 4 = .ok (.isub, 1) := by decide +kernel
theorem dX0_byteShift_5 : decode cX0_byteShift 5 = .ok (.bipush 8, 2) := by decide +kernel
theorem dX0_byteShift_7 : decode cX0_byteShift 7 = .ok (.imul, 1) := by decide +kernel
theorem dX0_byteShift_8 : decode cX0_byteShift 8 = .ok (.ireturn, 1) := by decide +kernel
set_option maxRecDepth 20000 in
theorem ggX1_init_X0_init : GoodIn wsX1_init wsX0_init := goodIn_r _ [11, 12, 2, 3, 13, 14, 15] (by decide +kernel) (by decide +kernel)
set_option maxRecDepth 20000 in
theorem gX1_init_X0_init_n11 : GoodIn wsX1_init (wsX0_init) := ggX1_init_X0_init
theorem dX1_init_0 : decode cX1_init 0 = .ok (.aload_n 0, 1) := by decide +kernel
theorem dX1_init_1 : decode cX1_init 1 = .ok (.invokespecial 3, 3) := by decide +kernel
theorem dX1_init_4 : decode cX1_init 4 = .ok (.aload_n 0, 1) := by decide +kernel
theorem dX1_init_5 : decode cX1_init 5 = .ok (.new 9, 3) := by decide +kernel
theorem dX1_init_8 : decode cX1_init 8 = .ok (.dup, 1) := by decide +kernel
theorem dX1_init_9 : decode cX1_init 9 = .ok (.invokespecial 11, 3) := by decide +kernel
theorem dX1_init_12 : decode cX1_init 12 = .ok (.putfield 12, 3) := by decide +kernel
theorem dX1_init_15 : decode cX1_init 15 = .ok (.aload_n 0, 1) := by decide +kernel
theorem dX1_init_16 : decode cX1_init 16 = .ok (.bipush 33, 2) := by decide +kernel
theorem dX1_init_18 : decode cX1_init 18 = .ok (.newarray .int, 2) := by decide +kernel
theorem dX1_init_20 : decode cX1_init 20 = .ok (.putfield 16, 3) := by decide +kernel
theorem dX1_init_23 : decode cX1_init 23 = .ok (.return_, 1) := by decide +kernel
set_option maxRecDepth 20000 in
theorem ggX1_poke_X1_isWordPlace : GoodIn wsX1_poke wsX1_isWordPlace := goodIn_r _ [5, 6, 7, 8, 4, 9] (by decide +kernel) (by decide +kernel)
set_option maxRecDepth 20000 in
theorem gX1_poke_X1_isWordPlace : GoodIn wsX1_poke (va_wsS RX1 20 yX1_isWordPlace wsX1_isWordPlace) := goodIn_app (goodIn_of _ (by decide +kernel)) ggX1_poke_X1_isWordPlace
set_option maxRecDepth 20000 in
theorem ggX1_poke_X0_putWord : GoodIn wsX1_poke wsX0_putWord := goodIn_r _ [14, 15, 16, 17, 18, 19, 13, 20, 29] (by decide +kernel) (by decide +kernel)
set_option maxRecDepth 20000 in
theorem gX1_poke_X0_putWord : GoodIn wsX1_poke (wsV RX1 24 RX0 yX0_putWord wsX0_putWord) := goodIn_app (goodIn_of _ (by decide +kernel)) ggX1_poke_X0_putWord
theorem dX1_poke_0 : decode cX1_poke 0 = .ok (.iload_n 1, 1) := by decide +kernel
theorem dX1_poke_1 : decode cX1_poke 1 = .ok (.invokestatic 20, 3) := by decide +kernel
theorem dX1_poke_4 : decode cX1_poke 4 = .ok (.ifCond .ne 5, 3) := by decide +kernel
theorem dX1_poke_7 : decode cX1_poke 7 = .ok (.iconst 0, 1) := by decide +kernel
theorem dX1_poke_8 : decode cX1_poke 8 = .ok (.ireturn, 1) := by decide +kernel
theorem dX1_poke_9 : decode cX1_poke 9 = .ok (.aload_n 0, 1) := by decide +kernel
theorem dX1_poke_10 : decode cX1_poke 10 = .ok (.getfield 12, 3) := by decide +kernel
theorem dX1_poke_13 : decode cX1_poke 13 = .ok (.iload_n 1, 1) := by decide +kernel
theorem dX1_poke_14 : decode cX1_poke 14 = .ok (.iload_n 2, 1) := by decide +kernel
theorem dX1_poke_15 : decode cX1_poke 15 = .ok (.invokevirtual 24, 3) := by decide +kernel
theorem dX1_poke_18 : decode cX1_poke 18 = .ok (.iconst 1, 1) := by decide +kernel
theorem dX1_poke_19 : decode cX1_poke 19 = .ok (.ireturn, 1) := by decide +kernel
set_option maxRecDepth 20000 in
theorem ggX1_set_X1_isSpecial : GoodIn wsX1_set wsX1_isSpecial := goodIn_r _ [5] (by decide +kernel) (by decide +kernel)
set_option maxRecDepth 20000 in
theorem gX1_set_X1_isSpecial : GoodIn wsX1_set (va_wsS RX1 28 yX1_isSpecial wsX1_isSpecial) := goodIn_app (goodIn_of _ (by decide +kernel)) ggX1_set_X1_isSpecial
theorem dX1_set_0 : decode cX1_set 0 = .ok (.iload_n 1, 1) := by decide +kernel
theorem dX1_set_1 : decode cX1_set 1 = .ok (.invokestatic 28, 3) := by decide +kernel
theorem dX1_set_4 : decode cX1_set 4 = .ok (.ifCond .ne 5, 3) := by decide +kernel
theorem dX1_set_7 : decode cX1_set 7 = .ok (.iconst 0, 1) := by decide +kernel
theorem dX1_set_8 : decode cX1_set 8 = .ok (.ireturn, 1) := by decide +kernel
theorem dX1_set_9 : decode cX1_set 9 = .ok (.aload_n 0, 1) := by decide +kernel
theorem dX1_set_10 : decode cX1_set 10 = .ok (.getfield 16, 3) := by decide +kernel
theorem dX1_set_13 : decode cX1_set 13 = .ok (.iload_n 1, 1) := by decide +kernel
theorem dX1_set_14 : decode cX1_set 14 = .ok (.iload_n 1, 1) := by decide +kernel
theorem dX1_set_15 : decode cX1_set 15 = .ok (.bipush 32, 2) := by decide +kernel
theorem dX1_set_17 : decode cX1_set 17 = .ok (.if_icmp .ne 10, 3) := by decide +kernel
theorem dX1_set_20 : decode cX1_set 20 = .ok (.iload_n 2, 1) := by decide +kernel
theorem dX1_set_21 : decode cX1_set 21 = .ok (.bipush 7, 2) := by decide +kernel
theorem dX1_set_23 : decode cX1_set 23 = .ok (.iand, 1) := by decide +kernel
theorem dX1_set_24 : decode cX1_set 24 = .ok (.goto 4, 3) := by decide +kernel
theorem dX1_set_27 : decode cX1_set 27 = .ok (.iload_n 2, 1) := by decide +kernel
theorem dX1_set_28 : decode cX1_set 28 = .ok (.iastore, 1) := by decide +kernel
theorem dX1_set_29 : decode cX1_set 29 = .ok (.iconst 1, 1) := by decide +kernel
theorem dX1_set_30 : decode cX1_set 30 = .ok (.ireturn, 1) := by decide +kernel
set_option maxRecDepth 20000 in
theorem ggX1_code_X1_probe : GoodIn wsX1_code wsX1_probe := goodIn_r _ [7, 8, 9, 10, 11, 12, 13, 6, 14, 15, 16, 17, 18, 19, 20, 21, 22, 23, 24, 25, 26, 27, 28, 29, 30, 31, 32, 33, 34, 35, 36, 37, 38, 39, 40, 41, 42, 43, 54, 55, 56, 57, 58, 59, 60, 61] (by decide +kernel) (by decide +kernel)
set_option maxRecDepth 20000 in
theorem gX1_code_X1_probe : GoodIn wsX1_code (wsV RX1 31 RX1 yX1_probe wsX1_probe) := goodIn_app (goodIn_of _ (by decide +kernel)) ggX1_code_X1_probe
set_option maxRecDepth 20000 in
theorem ggX1_code_X0_wordAt : GoodIn wsX1_code wsX0_wordAt := goodIn_r _ [48, 49, 50, 51, 52, 47, 53, 62] (by decide +kernel) (by decide +kernel)
set_option maxRecDepth 20000 in
theorem gX1_code_X0_wordAt : GoodIn wsX1_code (wsV RX1 39 RX0 yX0_wordAt wsX0_wordAt) := goodIn_app (goodIn_of _ (by decide +kernel)) ggX1_code_X0_wordAt
theorem dX1_code_0 : decode cX1_code 0 = .ok (.aload_n 0, 1) := by decide +kernel
theorem dX1_code_1 : decode cX1_code 1 = .ok (.iload_n 1, 1) := by decide +kernel
theorem dX1_code_2 : decode cX1_code 2 = .ok (.iconst 0, 1) := by decide +kernel
theorem dX1_code_3 : decode cX1_code 3 = .ok (.iconst 1, 1) := by decide +kernel
theorem dX1_code_4 : decode cX1_code 4 = .ok (.invokevirtual 31, 3) := by decide +kernel
theorem dX1_code_7 : decode cX1_code 7 = .ok (.istore_n 2, 1) := by decide +kernel
theorem dX1_code_8 : decode cX1_code 8 = .ok (.iload_n 2, 1) := by decide +kernel
theorem dX1_code_9 : decode cX1_code 9 = .ok (.ifCond .ge 5, 3) := by decide +kernel
theorem dX1_code_12 : decode cX1_code 12 = .ok (.iconst 0, 1) := by decide +kernel
theorem dX1_code_13 : decode cX1_code 13 = .ok (.ireturn, 1) := by decide +kernel
theorem dX1_code_14 : decode cX1_code 14 = .ok (.aload_n 0, 1) := by decide +kernel
theorem dX1_code_15 : decode cX1_code 15 = .ok (.dup, 1) := by decide +kernel
theorem dX1_code_16 : decode cX1_code 16 = .ok (.getfield 35, 3) := by decide +kernel
theorem dX1_code_19 : decode cX1_code 19 = .ok (.iconst 1, 1) := by decide +kernel
theorem dX1_code_20 : decode cX1_code 20 = .ok (.iadd, 1) := by decide +kernel
theorem dX1_code_21 : decode cX1_code 21 = .ok (.putfield 35, 3) := by decide +kernel
theorem dX1_code_24 : decode cX1_code 24 = .ok (.aload_n 0, 1) := by decide +kernel
theorem dX1_code_25 : decode cX1_code 25 = .ok (.getfield 12, 3) := by decide +kernel
theorem dX1_code_28 : decode cX1_code 28 = .ok (.iload_n 2, 1) := by decide +kernel
theorem dX1_code_29 : decode cX1_code 29 = .ok (.invokevirtual 39, 3) := by decide +kernel
theorem dX1_code_32 : decode cX1_code 32 = .ok (.ireturn, 1) := by decide +kernel
set_option maxRecDepth 20000 in
theorem ggX1_load_X1_probe : GoodIn wsX1_load wsX1_probe := goodIn_r _ [7, 8, 9, 10, 11, 12, 13, 6, 14, 15, 16, 17, 18, 19, 20, 21, 22, 23, 24, 25, 26, 27, 28, 29, 30, 31, 32, 33, 34, 35, 36, 37, 38, 39, 40, 41, 42, 43, 62, 63, 64, 65, 66, 67, 68, 69] (by decide +kernel) (by decide +kernel)
set_option maxRecDepth 20000 in
theorem gX1_load_X1_probe : GoodIn wsX1_load (wsV RX1 31 RX1 yX1_probe wsX1_probe) := goodIn_app (goodIn_of _ (by decide +kernel)) ggX1_load_X1_probe
set_option maxRecDepth 20000 in
theorem ggX1_load_X0_wordAt : GoodIn wsX1_load wsX0_wordAt := goodIn_r _ [48, 49, 50, 51, 52, 47, 53, 70] (by decide +kernel) (by decide +kernel)
set_option maxRecDepth 20000 in
theorem gX1_load_X0_wordAt : GoodIn wsX1_load (wsV RX1 39 RX0 yX0_wordAt wsX0_wordAt) := goodIn_app (goodIn_of _ (by decide +kernel)) ggX1_load_X0_wordAt
set_option maxRecDepth 20000 in
theorem ggX1_load_X0_byteAt : GoodIn wsX1_load wsX0_byteAt := goodIn_r _ [57, 58, 45, 46, 47, 48, 49, 50, 51, 52, 53, 59, 60, 61, 70] (by decide +kernel) (by decide +kernel)
set_option maxRecDepth 20000 in
theorem gX1_load_X0_byteAt : GoodIn wsX1_load (wsV RX1 46 RX0 yX0_byteAt wsX0_byteAt) := goodIn_app (goodIn_of _ (by decide +kernel)) ggX1_load_X0_byteAt
theorem dX1_load_0 : decode cX1_load 0 = .ok (.aload_n 0, 1) := by decide +kernel
theorem dX1_load_1 : decode cX1_load 1 = .ok (.iload_n 1, 1) := by decide +kernel
theorem dX1_load_2 : decode cX1_load 2 = .ok (.iconst 1, 1) := by decide +kernel
theorem dX1_load_3 : decode cX1_load 3 = .ok (.iload_n 2, 1) := by decide +kernel
theorem dX1_load_4 : decode cX1_load 4 = .ok (.invokevirtual 31, 3) := by decide +kernel
theorem dX1_load_7 : decode cX1_load 7 = .ok (.istore_n 3, 1) := by decide +kernel
theorem dX1_load_8 : decode cX1_load 8 = .ok (.iload_n 3, 1) := by decide +kernel
theorem dX1_load_9 : decode cX1_load 9 = .ok (.ifCond .ge 5, 3) := by decide +kernel
theorem dX1_load_12 : decode cX1_load 12 = .ok (.iconst 0, 1) := by decide +kernel
theorem dX1_load_13 : decode cX1_load 13 = .ok (.ireturn, 1) := by decide +kernel
theorem dX1_load_14 : decode cX1_load 14 = .ok (.aload_n 0, 1) := by decide +kernel
theorem dX1_load_15 : decode cX1_load 15 = .ok (.dup, 1) := by decide +kernel
theorem dX1_load_16 : decode cX1_load 16 = .ok (.getfield 43, 3) := by decide +kernel
theorem dX1_load_19 : decode cX1_load 19 = .ok (.iconst 1, 1) := by decide +kernel
theorem dX1_load_20 : decode cX1_load 20 = .ok (.iadd, 1) := by decide +kernel
theorem dX1_load_21 : decode cX1_load 21 = .ok (.putfield 43, 3) := by decide +kernel
theorem dX1_load_24 : decode cX1_load 24 = .ok (.iload_n 2, 1) := by decide +kernel
theorem dX1_load_25 : decode cX1_load 25 = .ok (.ifCond .eq 14, 3) := by decide +kernel
theorem dX1_load_28 : decode cX1_load 28 = .ok (.aload_n 0, 1) := by decide +kernel
theorem dX1_load_29 : decode cX1_load 29 = .ok (.getfield 12, 3) := by decide +kernel
theorem dX1_load_32 : decode cX1_load 32 = .ok (.iload_n 3, 1) := by decide +kernel
theorem dX1_load_33 : decode cX1_load 33 = .ok (.invokevirtual 39, 3) := by decide +kernel
theorem dX1_load_36 : decode cX1_load 36 = .ok (.goto 11, 3) := by decide +kernel
theorem dX1_load_39 : decode cX1_load 39 = .ok (.aload_n 0, 1) := by decide +kernel
theorem dX1_load_40 : decode cX1_load 40 = .ok (.getfield 12, 3) := by decide +kernel
theorem dX1_load_43 : decode cX1_load 43 = .ok (.iload_n 3, 1) := by decide +kernel
theorem dX1_load_44 : decode cX1_load 44 = .ok (.invokevirtual 46, 3) := by decide +kernel
theorem dX1_load_47 : decode cX1_load 47 = .ok (.ireturn, 1) := by decide +kernel
set_option maxRecDepth 20000 in
theorem ggX1_store_X1_probe : GoodIn wsX1_store wsX1_probe := goodIn_r _ [7, 8, 9, 10, 11, 12, 13, 6, 14, 15, 16, 17, 18, 19, 20, 21, 22, 23, 24, 25, 26, 27, 28, 29, 30, 31, 32, 33, 34, 35, 36, 37, 38, 39, 40, 41, 42, 43, 67, 68, 69, 70, 71, 72, 73, 74] (by decide +kernel) (by decide +kernel)
set_option maxRecDepth 20000 in
theorem gX1_store_X1_probe : GoodIn wsX1_store (wsV RX1 31 RX1 yX1_probe wsX1_probe) := goodIn_app (goodIn_of _ (by decide +kernel)) ggX1_store_X1_probe
set_option maxRecDepth 20000 in
theorem ggX1_store_X0_putWord : GoodIn wsX1_store wsX0_putWord := goodIn_r _ [48, 49, 50, 51, 52, 53, 47, 54, 75] (by decide +kernel) (by decide +kernel)
set_option maxRecDepth 20000 in
theorem gX1_store_X0_putWord : GoodIn wsX1_store (wsV RX1 24 RX0 yX0_putWord wsX0_putWord) := goodIn_app (goodIn_of _ (by decide +kernel)) ggX1_store_X0_putWord
set_option maxRecDepth 20000 in
theorem ggX1_store_X0_putByte : GoodIn wsX1_store wsX0_putByte := goodIn_r _ [58, 59, 60, 47, 61, 62, 63, 64, 65, 49, 50, 52, 53, 54, 66, 45, 46, 48, 51, 75] (by decide +kernel) (by decide +kernel)
set_option maxRecDepth 20000 in
theorem gX1_store_X0_putByte : GoodIn wsX1_store (wsV RX1 52 RX0 yX0_putByte wsX0_putByte) := goodIn_app (goodIn_of _ (by decide +kernel)) ggX1_store_X0_putByte
theorem dX1_store_0 : decode cX1_store 0 = .ok (.aload_n 0, 1) := by decide +kernel
theorem dX1_store_1 : decode cX1_store 1 = .ok (.iload_n 1, 1) := by decide +kernel
theorem dX1_store_2 : decode cX1_store 2 = .ok (.iconst 2, 1) := by decide +kernel
theorem dX1_store_3 : decode cX1_store 3 = .ok (.iload_n 3, 1) := by decide +kernel
theorem dX1_store_4 : decode cX1_store 4 = .ok (.invokevirtual 31, 3) := by decide +kernel
theorem dX1_store_7 : decode cX1_store 7 = .ok (.istore 4, 2) := by decide +kernel
theorem dX1_store_9 : decode cX1_store 9 = .ok (.iload 4, 2) := by decide +kernel
theorem dX1_store_11 : decode cX1_store 11 = .ok (.ifCond .ge 5, 3) := by decide +kernel
theorem dX1_store_14 : decode cX1_store 14 = .ok (.iconst (-1), 1) := by decide +kernel
theorem dX1_store_15 : decode cX1_store 15 = .ok (.ireturn, 1) := by decide +kernel
theorem dX1_store_16 : decode cX1_store 16 = .ok (.aload_n 0, 1) := by decide +kernel
theorem dX1_store_17 : decode cX1_store 17 = .ok (.dup, 1) := by decide +kernel
theorem dX1_store_18 : decode cX1_store 18 = .ok (.getfield 49, 3) := by decide +kernel
theorem dX1_store_21 : decode cX1_store 21 = .ok (.iconst 1, 1) := by decide +kernel
theorem dX1_store_22 : decode cX1_store 22 = .ok (.iadd, 1) := by decide +kernel
theorem dX1_store_23 : decode cX1_store 23 = .ok (.putfield 49, 3) := by decide +kernel
theorem dX1_store_26 : decode cX1_store 26 = .ok (.iload_n 3, 1) := by decide +kernel
theorem dX1_store_27 : decode cX1_store 27 = .ok (.ifCond .eq 16, 3) := by decide +kernel
theorem dX1_store_30 : decode cX1_store 30 = .ok (.aload_n 0, 1) := by decide +kernel
theorem dX1_store_31 : decode cX1_store 31 = .ok (.getfield 12, 3) := by decide +kernel
theorem dX1_store_34 : decode cX1_store 34 = .ok (.iload 4, 2) := by decide +kernel
theorem dX1_store_36 : decode cX1_store 36 = .ok (.iload_n 2, 1) := by decide +kernel
theorem dX1_store_37 : decode cX1_store 37 = .ok (.invokevirtual 24, 3) := by decide +kernel
theorem dX1_store_40 : decode cX1_store 40 = .ok (.goto 13, 3) := by decide +kernel
theorem dX1_store_43 : decode cX1_store 43 = .ok (.aload_n 0, 1) := by decide +kernel
theorem dX1_store_44 : decode cX1_store 44 = .ok (.getfield 12, 3) := by decide +kernel
theorem dX1_store_47 : decode cX1_store 47 = .ok (.iload 4, 2) := by decide +kernel
theorem dX1_store_49 : decode cX1_store 49 = .ok (.iload_n 2, 1) := by decide +kernel
theorem dX1_store_50 : decode cX1_store 50 = .ok (.invokevirtual 52, 3) := by decide +kernel
theorem dX1_store_53 : decode cX1_store 53 = .ok (.iload 4, 2) := by decide +kernel
theorem dX1_store_55 : decode cX1_store 55 = .ok (.ireturn, 1) := by decide +kernel
set_option maxRecDepth 20000 in
theorem ggX1_find_X1_locate : GoodIn wsX1_find wsX1_locate := goodIn_r _ [5, 6, 7, 8, 4, 9, 10, 11, 12, 13, 14, 15, 16, 17, 18, 19, 20, 21, 22, 23, 24, 25, 26, 27, 28, 29, 30, 31, 32, 33, 34, 35, 36, 37, 38, 39, 40, 41, 42] (by decide +kernel) (by decide +kernel)
set_option maxRecDepth 20000 in
theorem gX1_find_X1_locate : GoodIn wsX1_find (wsV RX1 55 RX1 yX1_locate wsX1_locate) := goodIn_app (goodIn_of _ (by decide +kernel)) ggX1_find_X1_locate
theorem dX1_find_0 : decode cX1_find 0 = .ok (.iload_n 2, 1) := by decide +kernel
theorem dX1_find_1 : decode cX1_find 1 = .ok (.ifCond .lt 8, 3) := by decide +kernel
theorem dX1_find_4 : decode cX1_find 4 = .ok (.iload_n 2, 1) := by decide +kernel
theorem dX1_find_5 : decode cX1_find 5 = .ok (.iconst 2, 1) := by decide +kernel
theorem dX1_find_6 : decode cX1_find 6 = .ok (.if_icmp .le 5, 3) := by decide +kernel
theorem dX1_find_9 : decode cX1_find 9 = .ok (.iconst 0, 1) := by decide +kernel
theorem dX1_find_10 : decode cX1_find 10 = .ok (.ireturn, 1) := by decide +kernel
theorem dX1_find_11 : decode cX1_find 11 = .ok (.aload_n 0, 1) := by decide +kernel
theorem dX1_find_12 : decode cX1_find 12 = .ok (.iload_n 1, 1) := by decide +kernel
theorem dX1_find_13 : decode cX1_find 13 = .ok (.iload_n 2, 1) := by decide +kernel
theorem dX1_find_14 : decode cX1_find 14 = .ok (.iload_n 3, 1) := by decide +kernel
theorem dX1_find_15 : decode cX1_find 15 = .ok (.ifCond .ne 7, 3) := by decide +kernel
theorem dX1_find_18 : decode cX1_find 18 = .ok (.iload_n 2, 1) := by decide +kernel
theorem dX1_find_19 : decode cX1_find 19 = .ok (.ifCond .ne 7, 3) := by decide +kernel
theorem dX1_find_22 : decode cX1_find 22 = .ok (.iconst 1, 1) := by decide +kernel
theorem dX1_find_23 : decode cX1_find 23 = .ok (.goto 4, 3) := by decide +kernel
theorem dX1_find_26 : decode cX1_find 26 = .ok (.iconst 0, 1) := by decide +kernel
theorem dX1_find_27 : decode cX1_find 27 = .ok (.invokevirtual 55, 3) := by decide +kernel
theorem dX1_find_30 : decode cX1_find 30 = .ok (.ireturn, 1) := by decide +kernel
set_option maxRecDepth 20000 in
theorem ggX1_map_X1_setOf : GoodIn wsX1_map wsX1_setOf := goodIn_r _ [5] (by decide +kernel) (by decide +kernel)
set_option maxRecDepth 20000 in
theorem gX1_map_X1_setOf : GoodIn wsX1_map (va_wsS RX1 58 yX1_setOf wsX1_setOf) := goodIn_app (goodIn_of _ (by decide +kernel)) ggX1_map_X1_setOf
set_option maxRecDepth 20000 in
theorem ggX1_map_X1_firstMatch : GoodIn wsX1_map wsX1_firstMatch := goodIn_r _ [8] (by decide +kernel) (by decide +kernel)
set_option maxRecDepth 20000 in
theorem gX1_map_X1_firstMatch : GoodIn wsX1_map (va_wsS RX1 61 yX1_firstMatch wsX1_firstMatch) := goodIn_app (goodIn_of _ (by decide +kernel)) ggX1_map_X1_firstMatch
theorem dX1_map_0 : decode cX1_map 0 = .ok (.iload_n 2, 1) := by decide +kernel
theorem dX1_map_1 : decode cX1_map 1 = .ok (.ifCond .lt 19, 3) := by decide +kernel
theorem dX1_map_4 : decode cX1_map 4 = .ok (.iload_n 2, 1) := by decide +kernel
theorem dX1_map_5 : decode cX1_map 5 = .ok (.bipush 64, 2) := by decide +kernel
theorem dX1_map_7 : decode cX1_map 7 = .ok (.if_icmp .ge 13, 3) := by decide +kernel
theorem dX1_map_10 : decode cX1_map 10 = .ok (.iload_n 3, 1) := by decide +kernel
theorem dX1_map_11 : decode cX1_map 11 = .ok (.ifCond .lt 9, 3) := by decide +kernel
theorem dX1_map_14 : decode cX1_map 14 = .ok (.iload_n 3, 1) := by decide +kernel
theorem dX1_map_15 : decode cX1_map 15 = .ok (.bipush 16, 2) := by decide +kernel
theorem dX1_map_17 : decode cX1_map 17 = .ok (.if_icmp .lt 5, 3) := by decide +kernel
theorem dX1_map_20 : decode cX1_map 20 = .ok (.iconst (-1), 1) := by decide +kernel
theorem dX1_map_21 : decode cX1_map 21 = .ok (.ireturn, 1) := by decide +kernel
theorem dX1_map_22 : decode cX1_map 22 = .ok (.iload_n 1, 1) := by decide +kernel
theorem dX1_map_23 : decode cX1_map 23 = .ok (.invokestatic 58, 3) := by decide +kernel
theorem dX1_map_26 : decode cX1_map 26 = .ok (.istore 5, 2) := by decide +kernel
theorem dX1_map_28 : decode cX1_map 28 = .ok (.iload 4, 2) := by decide +kernel
theorem dX1_map_30 : decode cX1_map 30 = .ok (.invokestatic 61, 3) := by decide +kernel
theorem dX1_map_33 : decode cX1_map 33 = .ok (.iload 5, 2) := by decide +kernel
theorem dX1_map_35 : decode cX1_map 35 = .ok (.iadd, 1) := by decide +kernel
theorem dX1_map_36 : decode cX1_map 36 = .ok (.istore 6, 2) := by decide +kernel
theorem dX1_map_38 : decode cX1_map 38 = .ok (.aload_n 0, 1) := by decide +kernel
theorem dX1_map_39 : decode cX1_map 39 = .ok (.getfield 16, 3) := by decide +kernel
theorem dX1_map_42 : decode cX1_map 42 = .ok (.iload 6, 2) := by decide +kernel
theorem dX1_map_44 : decode cX1_map 44 = .ok (.iload_n 1, 1) := by decide +kernel
theorem dX1_map_45 : decode cX1_map 45 = .ok (.sipush (-1024), 3) := by decide +kernel
theorem dX1_map_48 : decode cX1_map 48 = .ok (.iand, 1) := by decide +kernel
theorem dX1_map_49 : decode cX1_map 49 = .ok (.iconst 1, 1) := by decide +kernel
theorem dX1_map_50 : decode cX1_map 50 = .ok (.ior, 1) := by decide +kernel
theorem dX1_map_51 : decode cX1_map 51 = .ok (.iastore, 1) := by decide +kernel
theorem dX1_map_52 : decode cX1_map 52 = .ok (.aload_n 0, 1) := by decide +kernel
theorem dX1_map_53 : decode cX1_map 53 = .ok (.getfield 16, 3) := by decide +kernel
theorem dX1_map_56 : decode cX1_map 56 = .ok (.iload 6, 2) := by decide +kernel
theorem dX1_map_58 : decode cX1_map 58 = .ok (.bipush 8, 2) := by decide +kernel
theorem dX1_map_60 : decode cX1_map 60 = .ok (.iadd, 1) := by decide +kernel
theorem dX1_map_61 : decode cX1_map 61 = .ok (.iload_n 2, 1) := by decide +kernel
theorem dX1_map_62 : decode cX1_map 62 = .ok (.bipush 10, 2) := by decide +kernel
theorem dX1_map_64 : decode cX1_map 64 = .ok (.ishl, 1) := by decide +kernel
theorem dX1_map_65 : decode cX1_map 65 = .ok (.iload_n 3, 1) := by decide +kernel
theorem dX1_map_66 : decode cX1_map 66 = .ok (.ior, 1) := by decide +kernel
theorem dX1_map_67 : decode cX1_map 67 = .ok (.iastore, 1) := by decide +kernel
theorem dX1_map_68 : decode cX1_map 68 = .ok (.iload 5, 2) := by decide +kernel
theorem dX1_map_70 : decode cX1_map 70 = .ok (.ireturn, 1) := by decide +kernel
set_option maxRecDepth 20000 in
theorem ggX1_forget_X1_countMatches : GoodIn wsX1_forget wsX1_countMatches := goodIn_r _ [6, 1, 7, 8, 5, 9, 10, 11, 12, 13, 14, 15, 16, 17, 18, 19, 20] (by decide +kernel) (by decide +kernel)
set_option maxRecDepth 20000 in
theorem gX1_forget_X1_countMatches : GoodIn wsX1_forget (wsV RX1 65 RX1 yX1_countMatches wsX1_countMatches) := goodIn_app (goodIn_of _ (by decide +kernel)) ggX1_forget_X1_countMatches
set_option maxRecDepth 20000 in
theorem ggX1_forget_X1_firstMatch : GoodIn wsX1_forget wsX1_firstMatch := goodIn_r _ [9] (by decide +kernel) (by decide +kernel)
set_option maxRecDepth 20000 in
theorem gX1_forget_X1_firstMatch : GoodIn wsX1_forget (va_wsS RX1 61 yX1_firstMatch wsX1_firstMatch) := goodIn_app (goodIn_of _ (by decide +kernel)) ggX1_forget_X1_firstMatch
theorem dX1_forget_0 : decode cX1_forget 0 = .ok (.aload_n 0, 1) := by decide +kernel
theorem dX1_forget_1 : decode cX1_forget 1 = .ok (.iload_n 1, 1) := by decide +kernel
theorem dX1_forget_2 : decode cX1_forget 2 = .ok (.invokevirtual 65, 3) := by decide +kernel
theorem dX1_forget_5 : decode cX1_forget 5 = .ok (.istore_n 2, 1) := by decide +kernel
theorem dX1_forget_6 : decode cX1_forget 6 = .ok (.iload_n 1, 1) := by decide +kernel
theorem dX1_forget_7 : decode cX1_forget 7 = .ok (.invokestatic 61, 3) := by decide +kernel
theorem dX1_forget_10 : decode cX1_forget 10 = .ok (.istore_n 3, 1) := by decide +kernel
theorem dX1_forget_11 : decode cX1_forget 11 = .ok (.iconst 0, 1) := by decide +kernel
theorem dX1_forget_12 : decode cX1_forget 12 = .ok (.istore 4, 2) := by decide +kernel
theorem dX1_forget_14 : decode cX1_forget 14 = .ok (.iload 4, 2) := by decide +kernel
theorem dX1_forget_16 : decode cX1_forget 16 = .ok (.bipush 8, 2) := by decide +kernel
theorem dX1_forget_18 : decode cX1_forget 18 = .ok (.if_icmp .ge 23, 3) := by decide +kernel
theorem dX1_forget_21 : decode cX1_forget 21 = .ok (.aload_n 0, 1) := by decide +kernel
theorem dX1_forget_22 : decode cX1_forget 22 = .ok (.getfield 16, 3) := by decide +kernel
theorem dX1_forget_25 : decode cX1_forget 25 = .ok (.iload_n 3, 1) := by decide +kernel
theorem dX1_forget_26 : decode cX1_forget 26 = .ok (.iload 4, 2) := by decide +kernel
theorem dX1_forget_28 : decode cX1_forget 28 = .ok (.iadd, 1) := by decide +kernel
theorem dX1_forget_29 : decode cX1_forget 29 = .ok (.dup2, 1) := by decide +kernel
theorem dX1_forget_30 : decode cX1_forget 30 = .ok (.iaload, 1) := by decide +kernel
theorem dX1_forget_31 : decode cX1_forget 31 = .ok (.bipush (-2), 2) := by decide +kernel
theorem dX1_forget_33 : decode cX1_forget 33 = .ok (.iand, 1) := by decide +kernel
theorem dX1_forget_34 : decode cX1_forget 34 = .ok (.iastore, 1) := by decide +kernel
theorem dX1_forget_35 : decode cX1_forget 35 = .ok (.iinc 4 1, 3) := by decide +kernel
theorem dX1_forget_38 : decode cX1_forget 38 = .ok (.goto (-24), 3) := by decide +kernel
theorem dX1_forget_41 : decode cX1_forget 41 = .ok (.iload_n 2, 1) := by decide +kernel
theorem dX1_forget_42 : decode cX1_forget 42 = .ok (.ireturn, 1) := by decide +kernel
set_option maxRecDepth 20000 in
theorem ggX1_special_X1_isSpecial : GoodIn wsX1_special wsX1_isSpecial := goodIn_r _ [5] (by decide +kernel) (by decide +kernel)
set_option maxRecDepth 20000 in
theorem gX1_special_X1_isSpecial : GoodIn wsX1_special (va_wsS RX1 28 yX1_isSpecial wsX1_isSpecial) := goodIn_app (goodIn_of _ (by decide +kernel)) ggX1_special_X1_isSpecial
theorem dX1_special_0 : decode cX1_special 0 = .ok (.iload_n 1, 1) := by decide +kernel
theorem dX1_special_1 : decode cX1_special 1 = .ok (.invokestatic 28, 3) := by decide +kernel
theorem dX1_special_4 : decode cX1_special 4 = .ok (.ifCond .eq 12, 3) := by decide +kernel
theorem dX1_special_7 : decode cX1_special 7 = .ok (.aload_n 0, 1) := by decide +kernel
theorem dX1_special_8 : decode cX1_special 8 = .ok (.getfield 16, 3) := by decide +kernel
theorem dX1_special_11 : decode cX1_special 11 = .ok (.iload_n 1, 1) := by decide +kernel
theorem dX1_special_12 : decode cX1_special 12 = .ok (.iaload, 1) := by decide +kernel
theorem dX1_special_13 : decode cX1_special 13 = .ok (.goto 4, 3) := by decide +kernel
theorem dX1_special_16 : decode cX1_special 16 = .ok (.iconst 0, 1) := by decide +kernel
theorem dX1_special_17 : decode cX1_special 17 = .ok (.ireturn, 1) := by decide +kernel
set_option maxRecDepth 20000 in
theorem ggX1_word_X1_isWordPlace : GoodIn wsX1_word wsX1_isWordPlace := goodIn_r _ [5, 6, 7, 8, 4, 9] (by decide +kernel) (by decide +kernel)
set_option maxRecDepth 20000 in
theorem gX1_word_X1_isWordPlace : GoodIn wsX1_word (va_wsS RX1 20 yX1_isWordPlace wsX1_isWordPlace) := goodIn_app (goodIn_of _ (by decide +kernel)) ggX1_word_X1_isWordPlace
set_option maxRecDepth 20000 in
theorem ggX1_word_X0_wordAt : GoodIn wsX1_word wsX0_wordAt := goodIn_r _ [14, 15, 16, 17, 18, 13, 19, 28] (by decide +kernel) (by decide +kernel)
set_option maxRecDepth 20000 in
theorem gX1_word_X0_wordAt : GoodIn wsX1_word (wsV RX1 39 RX0 yX0_wordAt wsX0_wordAt) := goodIn_app (goodIn_of _ (by decide +kernel)) ggX1_word_X0_wordAt
theorem dX1_word_0 : decode cX1_word 0 = .ok (.iload_n 1, 1) := by decide +kernel
theorem dX1_word_1 : decode cX1_word 1 = .ok (.invokestatic 20, 3) := by decide +kernel
theorem dX1_word_4 : decode cX1_word 4 = .ok (.ifCond .eq 14, 3) := by decide +kernel
theorem dX1_word_7 : decode cX1_word 7 = .ok (.aload_n 0, 1) := by decide +kernel
theorem dX1_word_8 : decode cX1_word 8 = .ok (.getfield 12, 3) := by decide +kernel
theorem dX1_word_11 : decode cX1_word 11 = .ok (.iload_n 1, 1) := by decide +kernel
theorem dX1_word_12 : decode cX1_word 12 = .ok (.invokevirtual 39, 3) := by decide +kernel
theorem dX1_word_15 : decode cX1_word 15 = .ok (.goto 4, 3) := by decide +kernel
theorem dX1_word_18 : decode cX1_word 18 = .ok (.iconst 0, 1) := by decide +kernel
theorem dX1_word_19 : decode cX1_word 19 = .ok (.ireturn, 1) := by decide +kernel
set_option maxRecDepth 20000 in
theorem ggX1_look_X1_countMatches : GoodIn wsX1_look wsX1_countMatches := goodIn_r _ [11, 12, 13, 14, 10, 15, 16, 17, 18, 19, 20, 21, 22, 23, 24, 25, 26] (by decide +kernel) (by decide +kernel)
set_option maxRecDepth 20000 in
theorem gX1_look_X1_countMatches : GoodIn wsX1_look (wsV RX1 65 RX1 yX1_countMatches wsX1_countMatches) := goodIn_app (goodIn_of _ (by decide +kernel)) ggX1_look_X1_countMatches
theorem dX1_look_0 : decode cX1_look 0 = .ok (.iload_n 1, 1) := by decide +kernel
theorem dX1_look_1 : decode cX1_look 1 = .ok (.tableswitch 89 0 7 #[47, 52, 57, 62, 67, 72, 77, 83], 47) := by decide +kernel
theorem dX1_look_48 : decode cX1_look 48 = .ok (.aload_n 0, 1) := by decide +kernel
theorem dX1_look_49 : decode cX1_look 49 = .ok (.getfield 68, 3) := by decide +kernel
theorem dX1_look_52 : decode cX1_look 52 = .ok (.ireturn, 1) := by decide +kernel
theorem dX1_look_53 : decode cX1_look 53 = .ok (.aload_n 0, 1) := by decide +kernel
theorem dX1_look_54 : decode cX1_look 54 = .ok (.getfield 71, 3) := by decide +kernel
theorem dX1_look_57 : decode cX1_look 57 = .ok (.ireturn, 1) := by decide +kernel
theorem dX1_look_58 : decode cX1_look 58 = .ok (.aload_n 0, 1) := by decide +kernel
theorem dX1_look_59 : decode cX1_look 59 = .ok (.getfield 74, 3) := by decide +kernel
theorem dX1_look_62 : decode cX1_look 62 = .ok (.ireturn, 1) := by decide +kernel
theorem dX1_look_63 : decode cX1_look 63 = .ok (.aload_n 0, 1) := by decide +kernel
theorem dX1_look_64 : decode cX1_look 64 = .ok (.getfield 35, 3) := by decide +kernel
theorem dX1_look_67 : decode cX1_look 67 = .ok (.ireturn, 1) := by decide +kernel
theorem dX1_look_68 : decode cX1_look 68 = .ok (.aload_n 0, 1) := by decide +kernel
theorem dX1_look_69 : decode cX1_look 69 = .ok (.getfield 43, 3) := by decide +kernel
theorem dX1_look_72 : decode cX1_look 72 = .ok (.ireturn, 1) := by decide +kernel
theorem dX1_look_73 : decode cX1_look 73 = .ok (.aload_n 0, 1) := by decide +kernel
theorem dX1_look_74 : decode cX1_look 74 = .ok (.getfield 49, 3) := by decide +kernel
theorem dX1_look_77 : decode cX1_look 77 = .ok (.ireturn, 1) := by decide +kernel
theorem dX1_look_78 : decode cX1_look 78 = .ok (.aload_n 0, 1) := by decide +kernel
theorem dX1_look_79 : decode cX1_look 79 = .ok (.iconst 0, 1) := by decide +kernel
theorem dX1_look_80 : decode cX1_look 80 = .ok (.invokevirtual 65, 3) := by decide +kernel
theorem dX1_look_83 : decode cX1_look 83 = .ok (.ireturn, 1) := by decide +kernel
theorem dX1_look_84 : decode cX1_look 84 = .ok (.aload_n 0, 1) := by decide +kernel
theorem dX1_look_85 : decode cX1_look 85 = .ok (.iconst 1, 1) := by decide +kernel
theorem dX1_look_86 : decode cX1_look 86 = .ok (.invokevirtual 65, 3) := by decide +kernel
theorem dX1_look_89 : decode cX1_look 89 = .ok (.ireturn, 1) := by decide +kernel
theorem dX1_look_90 : decode cX1_look 90 = .ok (.iconst (-1), 1) := by decide +kernel
theorem dX1_look_91 : decode cX1_look 91 = .ok (.ireturn, 1) := by decide +kernel
set_option maxRecDepth 20000 in
theorem ggX1_probe_X1_locate : GoodIn wsX1_probe wsX1_locate := goodIn_r _ [8, 9, 10, 11, 7, 12, 13, 14, 15, 16, 17, 18, 19, 20, 21, 22, 23, 24, 25, 26, 27, 28, 29, 30, 31, 32, 33, 34, 35, 36, 37, 38, 39, 40, 41, 42, 43, 44, 45] (by decide +kernel) (by decide +kernel)
set_option maxRecDepth 20000 in
theorem gX1_probe_X1_locate : GoodIn wsX1_probe (wsV RX1 55 RX1 yX1_locate wsX1_locate) := goodIn_app (goodIn_of _ (by decide +kernel)) ggX1_probe_X1_locate
theorem dX1_probe_0 : decode cX1_probe 0 = .ok (.aload_n 0, 1) := by decide +kernel
theorem dX1_probe_1 : decode cX1_probe 1 = .ok (.iload_n 1, 1) := by decide +kernel
theorem dX1_probe_2 : decode cX1_probe 2 = .ok (.iload_n 2, 1) := by decide +kernel
theorem dX1_probe_3 : decode cX1_probe 3 = .ok (.iload_n 3, 1) := by decide +kernel
theorem dX1_probe_4 : decode cX1_probe 4 = .ok (.invokevirtual 55, 3) := by decide +kernel
theorem dX1_probe_7 : decode cX1_probe 7 = .ok (.istore 4, 2) := by decide +kernel
theorem dX1_probe_9 : decode cX1_probe 9 = .ok (.iload 4, 2) := by decide +kernel
theorem dX1_probe_11 : decode cX1_probe 11 = .ok (.ifCond .ge 25, 3) := by decide +kernel
theorem dX1_probe_14 : decode cX1_probe 14 = .ok (.aload_n 0, 1) := by decide +kernel
theorem dX1_probe_15 : decode cX1_probe 15 = .ok (.dup, 1) := by decide +kernel
theorem dX1_probe_16 : decode cX1_probe 16 = .ok (.getfield 68, 3) := by decide +kernel
theorem dX1_probe_19 : decode cX1_probe 19 = .ok (.iconst 1, 1) := by decide +kernel
theorem dX1_probe_20 : decode cX1_probe 20 = .ok (.iadd, 1) := by decide +kernel
theorem dX1_probe_21 : decode cX1_probe 21 = .ok (.putfield 68, 3) := by decide +kernel
theorem dX1_probe_24 : decode cX1_probe 24 = .ok (.aload_n 0, 1) := by decide +kernel
theorem dX1_probe_25 : decode cX1_probe 25 = .ok (.iload 4, 2) := by decide +kernel
theorem dX1_probe_27 : decode cX1_probe 27 = .ok (.ineg, 1) := by decide +kernel
theorem dX1_probe_28 : decode cX1_probe 28 = .ok (.putfield 71, 3) := by decide +kernel
theorem dX1_probe_31 : decode cX1_probe 31 = .ok (.aload_n 0, 1) := by decide +kernel
theorem dX1_probe_32 : decode cX1_probe 32 = .ok (.iload_n 1, 1) := by decide +kernel
theorem dX1_probe_33 : decode cX1_probe 33 = .ok (.putfield 74, 3) := by decide +kernel
theorem dX1_probe_36 : decode cX1_probe 36 = .ok (.iload 4, 2) := by decide +kernel
theorem dX1_probe_38 : decode cX1_probe 38 = .ok (.ireturn, 1) := by decide +kernel
set_option maxRecDepth 20000 in
theorem ggX1_locate_X1_isAligned : GoodIn wsX1_locate wsX1_isAligned := goodIn_r _ [5] (by decide +kernel) (by decide +kernel)
set_option maxRecDepth 20000 in
theorem gX1_locate_X1_isAligned : GoodIn wsX1_locate (va_wsS RX1 77 yX1_isAligned wsX1_isAligned) := goodIn_app (goodIn_of _ (by decide +kernel)) ggX1_locate_X1_isAligned
set_option maxRecDepth 20000 in
theorem ggX1_locate_X1_isMapped : GoodIn wsX1_locate wsX1_isMapped := goodIn_r _ [9, 1, 31, 32, 33, 34, 35, 36, 37, 38] (by decide +kernel) (by decide +kernel)
set_option maxRecDepth 20000 in
theorem gX1_locate_X1_isMapped : GoodIn wsX1_locate (wsV RX1 80 RX1 yX1_isMapped wsX1_isMapped) := goodIn_app (goodIn_of _ (by decide +kernel)) ggX1_locate_X1_isMapped
set_option maxRecDepth 20000 in
theorem ggX1_locate_X1_within : GoodIn wsX1_locate wsX1_within := goodIn_r _ [12, 13, 14] (by decide +kernel) (by decide +kernel)
set_option maxRecDepth 20000 in
theorem gX1_locate_X1_within : GoodIn wsX1_locate (va_wsS RX1 83 yX1_within wsX1_within) := goodIn_app (goodIn_of _ (by decide +kernel)) ggX1_locate_X1_within
set_option maxRecDepth 20000 in
theorem ggX1_locate_X1_firstMatch : GoodIn wsX1_locate wsX1_firstMatch := goodIn_r _ [17] (by decide +kernel) (by decide +kernel)
set_option maxRecDepth 20000 in
theorem gX1_locate_X1_firstMatch : GoodIn wsX1_locate (va_wsS RX1 61 yX1_firstMatch wsX1_firstMatch) := goodIn_app (goodIn_of _ (by decide +kernel)) ggX1_locate_X1_firstMatch
set_option maxRecDepth 20000 in
theorem ggX1_locate_X1_setOf : GoodIn wsX1_locate wsX1_setOf := goodIn_r _ [20] (by decide +kernel) (by decide +kernel)
set_option maxRecDepth 20000 in
theorem gX1_locate_X1_setOf : GoodIn wsX1_locate (va_wsS RX1 58 yX1_setOf wsX1_setOf) := goodIn_app (goodIn_of _ (by decide +kernel)) ggX1_locate_X1_setOf
set_option maxRecDepth 20000 in
theorem ggX1_locate_X1_isOfPage : GoodIn wsX1_locate wsX1_isOfPage := goodIn_r _ [23, 24, 25, 4, 26] (by decide +kernel) (by decide +kernel)
set_option maxRecDepth 20000 in
theorem gX1_locate_X1_isOfPage : GoodIn wsX1_locate (va_wsS RX1 87 yX1_isOfPage wsX1_isOfPage) := goodIn_app (goodIn_of _ (by decide +kernel)) ggX1_locate_X1_isOfPage
set_option maxRecDepth 20000 in
theorem ggX1_locate_X1_neededRight : GoodIn wsX1_locate wsX1_neededRight := goodIn_r _ [30, 1, 31, 32, 33, 34, 35, 36, 37, 38] (by decide +kernel) (by decide +kernel)
set_option maxRecDepth 20000 in
theorem gX1_locate_X1_neededRight : GoodIn wsX1_locate (wsV RX1 91 RX1 yX1_neededRight wsX1_neededRight) := goodIn_app (goodIn_of _ (by decide +kernel)) ggX1_locate_X1_neededRight
theorem dX1_locate_0 : decode cX1_locate 0 = .ok (.iload_n 3, 1) := by decide +kernel
theorem dX1_locate_1 : decode cX1_locate 1 = .ok (.ifCond .eq 13, 3) := by decide +kernel
theorem dX1_locate_4 : decode cX1_locate 4 = .ok (.iload_n 1, 1) := by decide +kernel
theorem dX1_locate_5 : decode cX1_locate 5 = .ok (.invokestatic 77, 3) := by decide +kernel
theorem dX1_locate_8 : decode cX1_locate 8 = .ok (.ifCond .ne 6, 3) := by decide +kernel
theorem dX1_locate_11 : decode cX1_locate 11 = .ok (.bipush (-6), 2) := by decide +kernel
theorem dX1_locate_13 : decode cX1_locate 13 = .ok (.ireturn, 1) := by decide +kernel
theorem dX1_locate_14 : decode cX1_locate 14 = .ok (.aload_n 0, 1) := by decide +kernel
theorem dX1_locate_15 : decode cX1_locate 15 = .ok (.iload_n 2, 1) := by decide +kernel
theorem dX1_locate_16 : decode cX1_locate 16 = .ok (.invokevirtual 80, 3) := by decide +kernel
theorem dX1_locate_19 : decode cX1_locate 19 = .ok (.ifCond .ne 9, 3) := by decide +kernel
theorem dX1_locate_22 : decode cX1_locate 22 = .ok (.iload_n 1, 1) := by decide +kernel
theorem dX1_locate_23 : decode cX1_locate 23 = .ok (.iload_n 2, 1) := by decide +kernel
theorem dX1_locate_24 : decode cX1_locate 24 = .ok (.invokestatic 83, 3) := by decide +kernel
theorem dX1_locate_27 : decode cX1_locate 27 = .ok (.ireturn, 1) := by decide +kernel
theorem dX1_locate_28 : decode cX1_locate 28 = .ok (.iload_n 2, 1) := by decide +kernel
theorem dX1_locate_29 : decode cX1_locate 29 = .ok (.ifCond .eq 7, 3) := by decide +kernel
theorem dX1_locate_32 : decode cX1_locate 32 = .ok (.iconst 1, 1) := by decide +kernel
theorem dX1_locate_33 : decode cX1_locate 33 = .ok (.goto 4, 3) := by decide +kernel
theorem dX1_locate_36 : decode cX1_locate 36 = .ok (.iconst 0, 1) := by decide +kernel
theorem dX1_locate_37 : decode cX1_locate 37 = .ok (.invokestatic 61, 3) := by decide +kernel
theorem dX1_locate_40 : decode cX1_locate 40 = .ok (.iload_n 1, 1) := by decide +kernel
theorem dX1_locate_41 : decode cX1_locate 41 = .ok (.invokestatic 58, 3) := by decide +kernel
theorem dX1_locate_44 : decode cX1_locate 44 = .ok (.iadd, 1) := by decide +kernel
theorem dX1_locate_45 : decode cX1_locate 45 = .ok (.istore 4, 2) := by decide +kernel
theorem dX1_locate_47 : decode cX1_locate 47 = .ok (.aload_n 0, 1) := by decide +kernel
theorem dX1_locate_48 : decode cX1_locate 48 = .ok (.getfield 16, 3) := by decide +kernel
theorem dX1_locate_51 : decode cX1_locate 51 = .ok (.iload 4, 2) := by decide +kernel
theorem dX1_locate_53 : decode cX1_locate 53 = .ok (.iaload, 1) := by decide +kernel
theorem dX1_locate_54 : decode cX1_locate 54 = .ok (.iload_n 1, 1) := by decide +kernel
theorem dX1_locate_55 : decode cX1_locate 55 = .ok (.invokestatic 87, 3) := by decide +kernel
theorem dX1_locate_58 : decode cX1_locate 58 = .ok (.ifCond .ne 15, 3) := by decide +kernel
theorem dX1_locate_61 : decode cX1_locate 61 = .ok (.iload_n 2, 1) := by decide +kernel
theorem dX1_locate_62 : decode cX1_locate 62 = .ok (.ifCond .ne 8, 3) := by decide +kernel
theorem dX1_locate_65 : decode cX1_locate 65 = .ok (.bipush (-10), 2) := by decide +kernel
theorem dX1_locate_67 : decode cX1_locate 67 = .ok (.goto 5, 3) := by decide +kernel
theorem dX1_locate_70 : decode cX1_locate 70 = .ok (.bipush (-9), 2) := by decide +kernel
theorem dX1_locate_72 : decode cX1_locate 72 = .ok (.ireturn, 1) := by decide +kernel
theorem dX1_locate_73 : decode cX1_locate 73 = .ok (.aload_n 0, 1) := by decide +kernel
theorem dX1_locate_74 : decode cX1_locate 74 = .ok (.getfield 16, 3) := by decide +kernel
theorem dX1_locate_77 : decode cX1_locate 77 = .ok (.iload 4, 2) := by decide +kernel
theorem dX1_locate_79 : decode cX1_locate 79 = .ok (.bipush 8, 2) := by decide +kernel
theorem dX1_locate_81 : decode cX1_locate 81 = .ok (.iadd, 1) := by decide +kernel
theorem dX1_locate_82 : decode cX1_locate 82 = .ok (.iaload, 1) := by decide +kernel
theorem dX1_locate_83 : decode cX1_locate 83 = .ok (.istore 5, 2) := by decide +kernel
theorem dX1_locate_85 : decode cX1_locate 85 = .ok (.iload 5, 2) := by decide +kernel
theorem dX1_locate_87 : decode cX1_locate 87 = .ok (.aload_n 0, 1) := by decide +kernel
theorem dX1_locate_88 : decode cX1_locate 88 = .ok (.iload_n 2, 1) := by decide +kernel
theorem dX1_locate_89 : decode cX1_locate 89 = .ok (.invokevirtual 91, 3) := by decide +kernel
theorem dX1_locate_92 : decode cX1_locate 92 = .ok (.iand, 1) := by decide +kernel
theorem dX1_locate_93 : decode cX1_locate 93 = .ok (.ifCond .ne 15, 3) := by decide +kernel
theorem dX1_locate_96 : decode cX1_locate 96 = .ok (.iload_n 2, 1) := by decide +kernel
theorem dX1_locate_97 : decode cX1_locate 97 = .ok (.ifCond .ne 8, 3) := by decide +kernel
theorem dX1_locate_100 : decode cX1_locate 100 = .ok (.bipush (-4), 2) := by decide +kernel
theorem dX1_locate_102 : decode cX1_locate 102 = .ok (.goto 5, 3) := by decide +kernel
theorem dX1_locate_105 : decode cX1_locate 105 = .ok (.bipush (-3), 2) := by decide +kernel
theorem dX1_locate_107 : decode cX1_locate 107 = .ok (.ireturn, 1) := by decide +kernel
theorem dX1_locate_108 : decode cX1_locate 108 = .ok (.iload 5, 2) := by decide +kernel
theorem dX1_locate_110 : decode cX1_locate 110 = .ok (.sipush (-1024), 3) := by decide +kernel
theorem dX1_locate_113 : decode cX1_locate 113 = .ok (.iand, 1) := by decide +kernel
theorem dX1_locate_114 : decode cX1_locate 114 = .ok (.iload_n 1, 1) := by decide +kernel
theorem dX1_locate_115 : decode cX1_locate 115 = .ok (.sipush 1023, 3) := by decide +kernel
theorem dX1_locate_118 : decode cX1_locate 118 = .ok (.iand, 1) := by decide +kernel
theorem dX1_locate_119 : decode cX1_locate 119 = .ok (.ior, 1) := by decide +kernel
theorem dX1_locate_120 : decode cX1_locate 120 = .ok (.iload_n 2, 1) := by decide +kernel
theorem dX1_locate_121 : decode cX1_locate 121 = .ok (.invokestatic 83, 3) := by decide +kernel
theorem dX1_locate_124 : decode cX1_locate 124 = .ok (.ireturn, 1) := by decide +kernel
theorem dX1_within_0 : decode cX1_within 0 = .ok (.iload_n 1, 1) := by decide +kernel
theorem dX1_within_1 : decode cX1_within 1 = .ok (.iconst 2, 1) := by decide +kernel
theorem dX1_within_2 : decode cX1_within 2 = .ok (.if_icmp .ne 8, 3) := by decide +kernel
theorem dX1_within_5 : decode cX1_within 5 = .ok (.ldc 94, 2) := by decide +kernel
theorem dX1_within_7 : decode cX1_within 7 = .ok (.goto 4, 3) := by decide +kernel
theorem dX1_within_10 : decode cX1_within 10 = .ok (.iconst 0, 1) := by decide +kernel
theorem dX1_within_11 : decode cX1_within 11 = .ok (.istore_n 2, 1) := by decide +kernel
theorem dX1_within_12 : decode cX1_within 12 = .ok (.iload_n 1, 1) := by decide +kernel
theorem dX1_within_13 : decode cX1_within 13 = .ok (.ifCond .ne 8, 3) := by decide +kernel
theorem dX1_within_16 : decode cX1_within 16 = .ok (.ldc 94, 2) := by decide +kernel
theorem dX1_within_18 : decode cX1_within 18 = .ok (.goto 5, 3) := by decide +kernel
theorem dX1_within_21 : decode cX1_within 21 = .ok (.ldc 95, 2) := by decide +kernel
theorem dX1_within_23 : decode cX1_within 23 = .ok (.istore_n 3, 1) := by decide +kernel
theorem dX1_within_24 : decode cX1_within 24 = .ok (.iload_n 0, 1) := by decide +kernel
theorem dX1_within_25 : decode cX1_within 25 = .ok (.iload_n 2, 1) := by decide +kernel
theorem dX1_within_26 : decode cX1_within 26 = .ok (.if_icmp .lt 12, 3) := by decide +kernel
theorem dX1_within_29 : decode cX1_within 29 = .ok (.iload_n 0, 1) := by decide +kernel
theorem dX1_within_30 : decode cX1_within 30 = .ok (.iload_n 3, 1) := by decide +kernel
theorem dX1_within_31 : decode cX1_within 31 = .ok (.if_icmp .ge 7, 3) := by decide +kernel
theorem dX1_within_34 : decode cX1_within 34 = .ok (.iload_n 0, 1) := by decide +kernel
theorem dX1_within_35 : decode cX1_within 35 = .ok (.goto 5, 3) := by decide +kernel
theorem dX1_within_38 : decode cX1_within 38 = .ok (.bipush (-2), 2) := by decide +kernel
theorem dX1_within_40 : decode cX1_within 40 = .ok (.ireturn, 1) := by decide +kernel
theorem dX1_isMapped_0 : decode cX1_isMapped 0 = .ok (.iload_n 1, 1) := by decide +kernel
theorem dX1_isMapped_1 : decode cX1_isMapped 1 = .ok (.ifCond .ne 7, 3) := by decide +kernel
theorem dX1_isMapped_4 : decode cX1_isMapped 4 = .ok (.iconst 2, 1) := by decide +kernel
theorem dX1_isMapped_5 : decode cX1_isMapped 5 = .ok (.goto 4, 3) := by decide +kernel
theorem dX1_isMapped_8 : decode cX1_isMapped 8 = .ok (.iconst 4, 1) := by decide +kernel
theorem dX1_isMapped_9 : decode cX1_isMapped 9 = .ok (.istore_n 2, 1) := by decide +kernel
theorem dX1_isMapped_10 : decode cX1_isMapped 10 = .ok (.aload_n 0, 1) := by decide +kernel
theorem dX1_isMapped_11 : decode cX1_isMapped 11 = .ok (.getfield 16, 3) := by decide +kernel
theorem dX1_isMapped_14 : decode cX1_isMapped 14 = .ok (.bipush 32, 2) := by decide +kernel
theorem dX1_isMapped_16 : decode cX1_isMapped 16 = .ok (.iaload, 1) := by decide +kernel
theorem dX1_isMapped_17 : decode cX1_isMapped 17 = .ok (.iload_n 2, 1) := by decide +kernel
theorem dX1_isMapped_18 : decode cX1_isMapped 18 = .ok (.iand, 1) := by decide +kernel
theorem dX1_isMapped_19 : decode cX1_isMapped 19 = .ok (.ifCond .eq 7, 3) := by decide +kernel
theorem dX1_isMapped_22 : decode cX1_isMapped 22 = .ok (.iconst 1, 1) := by decide +kernel
theorem dX1_isMapped_23 : decode cX1_isMapped 23 = .ok (.goto 4, 3) := by decide +kernel
theorem dX1_isMapped_26 : decode cX1_isMapped 26 = .ok (.iconst 0, 1) := by decide +kernel
theorem dX1_isMapped_27 : decode cX1_isMapped 27 = .ok (.ireturn, 1) := by decide +kernel
theorem dX1_neededRight_0 : decode cX1_neededRight 0 = .ok (.iload_n 1, 1) := by decide +kernel
theorem dX1_neededRight_1 : decode cX1_neededRight 1 = .ok (.iconst 2, 1) := by decide +kernel
theorem dX1_neededRight_2 : decode cX1_neededRight 2 = .ok (.if_icmp .ne 7, 3) := by decide +kernel
theorem dX1_neededRight_5 : decode cX1_neededRight 5 = .ok (.iconst 2, 1) := by decide +kernel
theorem dX1_neededRight_6 : decode cX1_neededRight 6 = .ok (.goto 4, 3) := by decide +kernel
theorem dX1_neededRight_9 : decode cX1_neededRight 9 = .ok (.iconst 1, 1) := by decide +kernel
theorem dX1_neededRight_10 : decode cX1_neededRight 10 = .ok (.istore_n 2, 1) := by decide +kernel
theorem dX1_neededRight_11 : decode cX1_neededRight 11 = .ok (.aload_n 0, 1) := by decide +kernel
theorem dX1_neededRight_12 : decode cX1_neededRight 12 = .ok (.getfield 16, 3) := by decide +kernel
theorem dX1_neededRight_15 : decode cX1_neededRight 15 = .ok (.bipush 32, 2) := by decide +kernel
theorem dX1_neededRight_17 : decode cX1_neededRight 17 = .ok (.iaload, 1) := by decide +kernel
theorem dX1_neededRight_18 : decode cX1_neededRight 18 = .ok (.iconst 1, 1) := by decide +kernel
theorem dX1_neededRight_19 : decode cX1_neededRight 19 = .ok (.iand, 1) := by decide +kernel
theorem dX1_neededRight_20 : decode cX1_neededRight 20 = .ok (.ifCond .eq 7, 3) := by decide +kernel
theorem dX1_neededRight_23 : decode cX1_neededRight 23 = .ok (.iconst 1, 1) := by decide +kernel
theorem dX1_neededRight_24 : decode cX1_neededRight 24 = .ok (.goto 4, 3) := by decide +kernel
theorem dX1_neededRight_27 : decode cX1_neededRight 27 = .ok (.iconst 0, 1) := by decide +kernel
theorem dX1_neededRight_28 : decode cX1_neededRight 28 = .ok (.istore_n 3, 1) := by decide +kernel
theorem dX1_neededRight_29 : decode cX1_neededRight 29 = .ok (.iload_n 3, 1) := by decide +kernel
theorem dX1_neededRight_30 : decode cX1_neededRight 30 = .ok (.ifCond .eq 9, 3) := by decide +kernel
theorem dX1_neededRight_33 : decode cX1_neededRight 33 = .ok (.iload_n 2, 1) := by decide +kernel
theorem dX1_neededRight_34 : decode cX1_neededRight 34 = .ok (.iconst 2, 1) := by decide +kernel
theorem dX1_neededRight_35 : decode cX1_neededRight 35 = .ok (.ishl, 1) := by decide +kernel
theorem dX1_neededRight_36 : decode cX1_neededRight 36 = .ok (.goto 4, 3) := by decide +kernel
theorem dX1_neededRight_39 : decode cX1_neededRight 39 = .ok (.iload_n 2, 1) := by decide +kernel
theorem dX1_neededRight_40 : decode cX1_neededRight 40 = .ok (.ireturn, 1) := by decide +kernel
set_option maxRecDepth 20000 in
theorem ggX1_isOfPage_X1_isOdd : GoodIn wsX1_isOfPage wsX1_isOdd := goodIn_r _ [4] (by decide +kernel) (by decide +kernel)
set_option maxRecDepth 20000 in
theorem gX1_isOfPage_X1_isOdd : GoodIn wsX1_isOfPage (va_wsS RX1 96 yX1_isOdd wsX1_isOdd) := goodIn_app (goodIn_of _ (by decide +kernel)) ggX1_isOfPage_X1_isOdd
theorem dX1_isOfPage_0 : decode cX1_isOfPage 0 = .ok (.iload_n 0, 1) := by decide +kernel
theorem dX1_isOfPage_1 : decode cX1_isOfPage 1 = .ok (.invokestatic 96, 3) := by decide +kernel
theorem dX1_isOfPage_4 : decode cX1_isOfPage 4 = .ok (.ifCond .eq 18, 3) := by decide +kernel
theorem dX1_isOfPage_7 : decode cX1_isOfPage 7 = .ok (.iload_n 0, 1) := by decide +kernel
theorem dX1_isOfPage_8 : decode cX1_isOfPage 8 = .ok (.bipush 10, 2) := by decide +kernel
theorem dX1_isOfPage_10 : decode cX1_isOfPage 10 = .ok (.iushr, 1) := by decide +kernel
theorem dX1_isOfPage_11 : decode cX1_isOfPage 11 = .ok (.iload_n 1, 1) := by decide +kernel
theorem dX1_isOfPage_12 : decode cX1_isOfPage 12 = .ok (.bipush 10, 2) := by decide +kernel
theorem dX1_isOfPage_14 : decode cX1_isOfPage 14 = .ok (.iushr, 1) := by decide +kernel
theorem dX1_isOfPage_15 : decode cX1_isOfPage 15 = .ok (.if_icmp .ne 7, 3) := by decide +kernel
theorem dX1_isOfPage_18 : decode cX1_isOfPage 18 = .ok (.iconst 1, 1) := by decide +kernel
theorem dX1_isOfPage_19 : decode cX1_isOfPage 19 = .ok (.goto 4, 3) := by decide +kernel
theorem dX1_isOfPage_22 : decode cX1_isOfPage 22 = .ok (.iconst 0, 1) := by decide +kernel
theorem dX1_isOfPage_23 : decode cX1_isOfPage 23 = .ok (.ireturn, 1) := by decide +kernel
set_option maxRecDepth 20000 in
theorem ggX1_countMatches_X1_firstMatch : GoodIn wsX1_countMatches wsX1_firstMatch := goodIn_r _ [5] (by decide +kernel) (by decide +kernel)
set_option maxRecDepth 20000 in
theorem gX1_countMatches_X1_firstMatch : GoodIn wsX1_countMatches (va_wsS RX1 61 yX1_firstMatch wsX1_firstMatch) := goodIn_app (goodIn_of _ (by decide +kernel)) ggX1_countMatches_X1_firstMatch
set_option maxRecDepth 20000 in
theorem ggX1_countMatches_X1_isOdd : GoodIn wsX1_countMatches wsX1_isOdd := goodIn_r _ [8] (by decide +kernel) (by decide +kernel)
set_option maxRecDepth 20000 in
theorem gX1_countMatches_X1_isOdd : GoodIn wsX1_countMatches (va_wsS RX1 96 yX1_isOdd wsX1_isOdd) := goodIn_app (goodIn_of _ (by decide +kernel)) ggX1_countMatches_X1_isOdd
theorem dX1_countMatches_0 : decode cX1_countMatches 0 = .ok (.iload_n 1, 1) := by decide +kernel
theorem dX1_countMatches_1 : decode cX1_countMatches 1 = .ok (.invokestatic 61, 3) := by decide +kernel
theorem dX1_countMatches_4 : decode cX1_countMatches 4 = .ok (.istore_n 2, 1) := by decide +kernel
theorem dX1_countMatches_5 : decode cX1_countMatches 5 = .ok (.iconst 0, 1) := by decide +kernel
theorem dX1_countMatches_6 : decode cX1_countMatches 6 = .ok (.istore_n 3, 1) := by decide +kernel
theorem dX1_countMatches_7 : decode cX1_countMatches 7 = .ok (.iconst 0, 1) := by decide +kernel
theorem dX1_countMatches_8 : decode cX1_countMatches 8 = .ok (.istore 4, 2) := by decide +kernel
theorem dX1_countMatches_10 : decode cX1_countMatches 10 = .ok (.iload 4, 2) := by decide +kernel
theorem dX1_countMatches_12 : decode cX1_countMatches 12 = .ok (.bipush 8, 2) := by decide +kernel
theorem dX1_countMatches_14 : decode cX1_countMatches 14 = .ok (.if_icmp .ge 27, 3) := by decide +kernel
theorem dX1_countMatches_17 : decode cX1_countMatches 17 = .ok (.aload_n 0, 1) := by decide +kernel
theorem dX1_countMatches_18 : decode cX1_countMatches 18 = .ok (.getfield 16, 3) := by decide +kernel
theorem dX1_countMatches_21 : decode cX1_countMatches 21 = .ok (.iload_n 2, 1) := by decide +kernel
theorem dX1_countMatches_22 : decode cX1_countMatches 22 = .ok (.iload 4, 2) := by decide +kernel
theorem dX1_countMatches_24 : decode cX1_countMatches 24 = .ok (.iadd, 1) := by decide +kernel
theorem dX1_countMatches_25 : decode cX1_countMatches 25 = .ok (.iaload, 1) := by decide +kernel
theorem dX1_countMatches_26 : decode cX1_countMatches 26 = .ok (.invokestatic 96, 3) := by decide +kernel
theorem dX1_countMatches_29 : decode cX1_countMatches 29 = .ok (.ifCond .eq 6, 3) := by decide +kernel
theorem dX1_countMatches_32 : decode cX1_countMatches 32 = .ok (.iinc 3 1, 3) := by decide +kernel
theorem dX1_countMatches_35 : decode cX1_countMatches 35 = .ok (.iinc 4 1, 3) := by decide +kernel
theorem dX1_countMatches_38 : decode cX1_countMatches 38 = .ok (.goto (-28), 3) := by decide +kernel
theorem dX1_countMatches_41 : decode cX1_countMatches 41 = .ok (.iload_n 3, 1) := by decide +kernel
theorem dX1_countMatches_42 : decode cX1_countMatches 42 = .ok (.ireturn, 1) := by decide +kernel
theorem dX1_firstMatch_0 : decode cX1_firstMatch 0 = .ok (.iload_n 0, 1) := by decide +kernel
theorem dX1_firstMatch_1 : decode cX1_firstMatch 1 = .ok (.ifCond .eq 8, 3) := by decide +kernel
theorem dX1_firstMatch_4 : decode cX1_firstMatch 4 = .ok (.bipush 16, 2) := by decide +kernel
theorem dX1_firstMatch_6 : decode cX1_firstMatch 6 = .ok (.goto 4, 3) := by decide +kernel
theorem dX1_firstMatch_9 : decode cX1_firstMatch 9 = .ok (.iconst 0, 1) := by decide +kernel
theorem dX1_firstMatch_10 : decode cX1_firstMatch 10 = .ok (.ireturn, 1) := by decide +kernel
theorem dX1_setOf_0 : decode cX1_setOf 0 = .ok (.iload_n 0, 1) := by decide +kernel
theorem dX1_setOf_1 : decode cX1_setOf 1 = .ok (.bipush 10, 2) := by decide +kernel
theorem dX1_setOf_3 : decode cX1_setOf 3 = .ok (.iushr, 1) := by decide +kernel
theorem dX1_setOf_4 : decode cX1_setOf 4 = .ok (.bipush 7, 2) := by decide +kernel
theorem dX1_setOf_6 : decode cX1_setOf 6 = .ok (.iand, 1) := by decide +kernel
theorem dX1_setOf_7 : decode cX1_setOf 7 = .ok (.ireturn, 1) := by decide +kernel
theorem dX1_isOdd_0 : decode cX1_isOdd 0 = .ok (.iload_n 0, 1) := by decide +kernel
theorem dX1_isOdd_1 : decode cX1_isOdd 1 = .ok (.iconst 1, 1) := by decide +kernel
theorem dX1_isOdd_2 : decode cX1_isOdd 2 = .ok (.iand, 1) := by decide +kernel
theorem dX1_isOdd_3 : decode cX1_isOdd 3 = .ok (.ifCond .eq 7, 3) := by decide +kernel
theorem dX1_isOdd_6 : decode cX1_isOdd 6 = .ok (.iconst 1, 1) := by decide +kernel
theorem dX1_isOdd_7 : decode cX1_isOdd 7 = .ok (.goto 4, 3) := by decide +kernel
theorem dX1_isOdd_10 : decode cX1_isOdd 10 = .ok (.iconst 0, 1) := by decide +kernel
theorem dX1_isOdd_11 : decode cX1_isOdd 11 = .ok (.ireturn, 1) := by decide +kernel
theorem dX1_isAligned_0 : decode cX1_isAligned 0 = .ok (.iload_n 0, 1) := by decide +kernel
theorem dX1_isAligned_1 : decode cX1_isAligned 1 = .ok (.iconst 3, 1) := by decide +kernel
theorem dX1_isAligned_2 : decode cX1_isAligned 2 = .ok (.iand, 1) := by decide +kernel
theorem dX1_isAligned_3 : decode cX1_isAligned 3 = .ok (.ifCond .ne 7, 3) := by decide +kernel
theorem dX1_isAligned_6 : decode cX1_isAligned 6 = .ok (.iconst 1, 1) := by decide +kernel
theorem dX1_isAligned_7 : decode cX1_isAligned 7 = .ok (.goto 4, 3) := by decide +kernel
theorem dX1_isAligned_10 : decode cX1_isAligned 10 = .ok (.iconst 0, 1) := by decide +kernel
theorem dX1_isAligned_11 : decode cX1_isAligned 11 = .ok (.ireturn, 1) := by decide +kernel
theorem dX1_isSpecial_0 : decode cX1_isSpecial 0 = .ok (.iload_n 0, 1) := by decide +kernel
theorem dX1_isSpecial_1 : decode cX1_isSpecial 1 = .ok (.ifCond .lt 13, 3) := by decide +kernel
theorem dX1_isSpecial_4 : decode cX1_isSpecial 4 = .ok (.iload_n 0, 1) := by decide +kernel
theorem dX1_isSpecial_5 : decode cX1_isSpecial 5 = .ok (.bipush 33, 2) := by decide +kernel
theorem dX1_isSpecial_7 : decode cX1_isSpecial 7 = .ok (.if_icmp .ge 7, 3) := by decide +kernel
theorem dX1_isSpecial_10 : decode cX1_isSpecial 10 = .ok (.iconst 1, 1) := by decide +kernel
theorem dX1_isSpecial_11 : decode cX1_isSpecial 11 = .ok (.goto 4, 3) := by decide +kernel
theorem dX1_isSpecial_14 : decode cX1_isSpecial 14 = .ok (.iconst 0, 1) := by decide +kernel
theorem dX1_isSpecial_15 : decode cX1_isSpecial 15 = .ok (.ireturn, 1) := by decide +kernel
set_option maxRecDepth 20000 in
theorem ggX1_isWordPlace_X1_isAligned : GoodIn wsX1_isWordPlace wsX1_isAligned := goodIn_r _ [5] (by decide +kernel) (by decide +kernel)
set_option maxRecDepth 20000 in
theorem gX1_isWordPlace_X1_isAligned : GoodIn wsX1_isWordPlace (va_wsS RX1 77 yX1_isAligned wsX1_isAligned) := goodIn_app (goodIn_of _ (by decide +kernel)) ggX1_isWordPlace_X1_isAligned
theorem dX1_isWordPlace_0 : decode cX1_isWordPlace 0 = .ok (.iload_n 0, 1) := by decide +kernel
theorem dX1_isWordPlace_1 : decode cX1_isWordPlace 1 = .ok (.ifCond .lt 20, 3) := by decide +kernel
theorem dX1_isWordPlace_4 : decode cX1_isWordPlace 4 = .ok (.iload_n 0, 1) := by decide +kernel
theorem dX1_isWordPlace_5 : decode cX1_isWordPlace 5 = .ok (.ldc 95, 2) := by decide +kernel
theorem dX1_isWordPlace_7 : decode cX1_isWordPlace 7 = .ok (.if_icmp .ge 14, 3) := by decide +kernel
theorem dX1_isWordPlace_10 : decode cX1_isWordPlace 10 = .ok (.iload_n 0, 1) := by decide +kernel
theorem dX1_isWordPlace_11 : decode cX1_isWordPlace 11 = .ok (.invokestatic 77, 3) := by decide +kernel
theorem dX1_isWordPlace_14 : decode cX1_isWordPlace 14 = .ok (.ifCond .eq 7, 3) := by decide +kernel
theorem dX1_isWordPlace_17 : decode cX1_isWordPlace 17 = .ok (.iconst 1, 1) := by decide +kernel
theorem dX1_isWordPlace_18 : decode cX1_isWordPlace 18 = .ok (.goto 4, 3) := by decide +kernel
theorem dX1_isWordPlace_21 : decode cX1_isWordPlace 21 = .ok (.iconst 0, 1) := by decide +kernel
theorem dX1_isWordPlace_22 : decode cX1_isWordPlace 22 = .ok (.ireturn, 1) := by decide +kernel
abbrev vwCl : List vw_C := [(RX0, TX0, 1), (RX1, TX1, 8), (RX2, TX2, 10)]
end
section
/-! Own words: shifts, rows of the memory, what a memory holds. -/
def ush (x y : Int32) : Int32 := (x.toUInt32 >>> (y.toUInt32 &&& Int32.toUInt32 31)).toInt32
theorem nz_of {x : Int32} (h : x = 0 ∨ x = 1) : narrow .boolean (.int x) = .int x := by
  rcases h with h | h <;> subst h <;> rfl
theorem ush_N {n : Nat} (hn : n < 2 ^ 32) (s : Int32) (k : Nat) (hs : ((s.toUInt32 &&& Int32.toUInt32 31).toBitVec % 32).toNat = k) : ush (nI n) s = nI (n / 2 ^ k) := pk_ushrN hn s k hs
/-- the pool's rows: arrays of 256 ints -/
def prow (cI : ClassId) (r : Nat → Nat → Int32) : Nat → va_E := fun a => .inl (cI, 256, .inl (r a))
theorem prow_up (cI : ClassId) (r : Nat → Nat → Int32) (y : Nat) (x : Nat → Int32) : va_up (prow cI r) y (.inl (cI, 256, .inl x)) = prow cI (va_up r y x) := by
  funext a
  by_cases h : a = y
  · subst h; simp [va_up, prow]
  · simp [va_up, prow, h]
/-- the pages that are there lie in the pool, no two at one row -/
def mok (g : Nat → Option Nat) (LP : List Nat) : Prop := (∀ i y, i < 64 → g i = some y → y ∈ LP) ∧ ∀ i j y, i < 64 → j < 64 → g i = some y → g j = some y → i = j
/-- the memory's k-th word -/
def mw (g : Nat → Option Nat) (r : Nat → Nat → Int32) (k : Nat) : Int32 := match g (k / 256) with
  | none => 0
  | some y => r y (k % 256)
theorem mw_none {g : Nat → Option Nat} {r : Nat → Nat → Int32} {k : Nat} (h : g (k / 256) = none) : mw g r k = 0 := by
  unfold mw; rw [h]
theorem mw_some {g : Nat → Option Nat} {r : Nat → Nat → Int32} {k y : Nat} (h : g (k / 256) = some y) : mw g r k = r y (k % 256) := by
  unfold mw; rw [h]
theorem mok_0 : mok (fun _ => none) [] := ⟨fun _ _ _ h => (by cases h), fun _ _ _ _ _ h => (by cases h)⟩
theorem mok_new {g : Nat → Option Nat} {LP : List Nat} {i q : Nat} (h : mok g LP) (hq : q ∉ LP) : mok (va_up g i (some q)) (LP ++ [q]) := by
  refine ⟨fun j y hj e => ?_, fun a b y ha hb ea eb => ?_⟩
  · by_cases hji : j = i
    · subst hji
      rw [va_up_self] at e
      cases e
      exact List.mem_append_right _ List.mem_cons_self
    · rw [va_up_ne _ _ hji] at e
      exact List.mem_append_left _ (h.1 j y hj e)
  · by_cases hai : a = i <;> by_cases hbi : b = i
    · rw [hai, hbi]
    · subst hai
      rw [va_up_self] at ea
      rw [va_up_ne _ _ hbi] at eb
      cases ea
      exact absurd (h.1 b _ hb eb) hq
    · subst hbi
      rw [va_up_self] at eb
      rw [va_up_ne _ _ hai] at ea
      cases eb
      exact absurd (h.1 a _ ha ea) hq
    · rw [va_up_ne _ _ hai] at ea
      rw [va_up_ne _ _ hbi] at eb
      exact h.2 a b y ha hb ea eb
theorem mw_put {g : Nat → Option Nat} {LP : List Nat} {r : Nat → Nat → Int32} {n y : Nat} {x : Int32} (h : mok g LP) (hn : n < 16384) (hy : g (n / 256) = some y) (k : Nat) (hk : k < 16384) : mw g (va_up r y (upd (r y) (n % 256) x)) k = upd (mw g r) n x k := by
  by_cases hkn : k = n
  · subst hkn
    rw [mw_some hy, va_up_self, pk_us, pk_us]
  · rw [pk_un hkn]
    cases hg : g (k / 256) with
    | none => rw [mw_none hg, mw_none hg]
    | some z =>
      rw [mw_some hg, mw_some hg]
      by_cases hzy : z = y
      · subst hzy
        rw [va_up_self, pk_un]
        have := h.2 (k / 256) (n / 256) z (by omega) (by omega) hg hy
        omega
      · rw [va_up_ne _ _ hzy]
theorem mw_newput {g : Nat → Option Nat} {LP : List Nat} {r : Nat → Nat → Int32} {n q : Nat} {x : Int32} (h : mok g LP) (hq : q ∉ LP) (hn : n < 16384) (hg : g (n / 256) = none) (k : Nat) (hk : k < 16384) : mw (va_up g (n / 256) (some q)) (va_up r q (upd (fun _ => 0) (n % 256) x)) k = upd (mw g r) n x k := by
  by_cases hkn : k = n
  · subst hkn
    rw [mw_some (va_up_self _ _ _), va_up_self, pk_us, pk_us]
  · rw [pk_un hkn]
    by_cases hp : k / 256 = n / 256
    · rw [mw_some (y := q) (by rw [hp]; exact va_up_self _ _ _), va_up_self, pk_un (by omega), mw_none (by rw [hp]; exact hg)]
    · cases hz : g (k / 256) with
      | none => rw [mw_none (by rw [va_up_ne _ _ hp]; exact hz), mw_none hz]
      | some z =>
        rw [mw_some (y := z) (by rw [va_up_ne _ _ hp]; exact hz), mw_some hz, va_up_ne]
        intro e
        subst e
        exact hq (h.1 _ _ (by omega) hz)
theorem lt_n {x : Int32} {n : Nat} (hn : n < 2 ^ 31) (h0 : ¬ x < 0) (h : ¬ nI n ≤ x) : ∃ j : Nat, j < n ∧ x = nI j := by
  rcases pk_ix x hn with h1 | h1 | h1
  · exact absurd h1 h0
  · exact absurd h1 h
  · exact h1
theorem pl_n {pl : Int32} (h0 : ¬ pl < 0) (h : ¬ 65536 ≤ pl) : ∃ n : Nat, n < 65536 ∧ pl = nI n := lt_n (n := 65536) (by decide) h0 h
theorem pg_n {n : Nat} (hn : n < 65536) : ush (nI n) 10 = nI (n / 1024) := ush_N (by omega) 10 10 (by decide)
theorem of_n {n : Nat} (hn : n < 65536) : ush (nI n &&& 1023) 2 = nI (n % 1024 / 4) := by
  rw [pk_andN (by omega) 10 (by decide)]
  exact ush_N (by omega) 2 2 (by decide)
theorem pg_in {pl : Int32} (h0 : ¬ pl < 0) (h : ¬ 65536 ≤ pl) : vp_in (ush pl 10) 64 := by
  obtain ⟨n, hn, rfl⟩ := pl_n h0 h
  exact pk_in (n / 1024) 64 (by omega) (pg_n hn)
theorem of_in {pl : Int32} (h0 : ¬ pl < 0) (h : ¬ 65536 ≤ pl) : vp_in (ush (pl &&& 1023) 2) 256 := by
  obtain ⟨n, hn, rfl⟩ := pl_n h0 h
  exact pk_in (n % 1024 / 4) 256 (by omega) (of_n hn)
theorem pg_cl {pl : Int32} (h0 : ¬ pl < 0) (h : ¬ 65536 ≤ pl) : (ush pl 10).toNatClampNeg = pl.toNatClampNeg / 4 / 256 ∧ (ush pl 10).toNatClampNeg < 64 := by
  obtain ⟨n, hn, rfl⟩ := pl_n h0 h
  rw [pg_n hn, nI_clamp (by omega), nI_clamp (by omega)]
  omega
theorem of_cl {pl : Int32} (h0 : ¬ pl < 0) (h : ¬ 65536 ≤ pl) : (ush (pl &&& 1023) 2).toNatClampNeg = pl.toNatClampNeg / 4 % 256 ∧ pl.toNatClampNeg / 4 < 16384 := by
  obtain ⟨n, hn, rfl⟩ := pl_n h0 h
  rw [of_n hn, nI_clamp (by omega), nI_clamp (by omega)]
  omega
/-- the word at a place (any place; 0 outside) -/
def m_get (M : Nat → Int32) (pl : Int32) : Int32 := if pl < 0 then 0 else if 65536 ≤ pl then 0 else M (pl.toNatClampNeg / 4)
/-- the memory with a word at a place -/
def m_put (M : Nat → Int32) (pl w : Int32) : Nat → Int32 := if pl < 0 then M else if 65536 ≤ pl then M else upd M (pl.toNatClampNeg / 4) w
theorem m_get_none {g : Nat → Option Nat} {r : Nat → Nat → Int32} {pl : Int32} (h0 : ¬ pl < 0) (h : ¬ 65536 ≤ pl) (hg : g (ush pl 10).toNatClampNeg = none) : 0 = m_get (mw g r) pl := by
  rw [(pg_cl h0 h).1] at hg
  simp only [m_get, if_neg h0, if_neg h]
  rw [mw_none hg]
theorem m_get_some {g : Nat → Option Nat} {r : Nat → Nat → Int32} {pl : Int32} {y : Nat} (h0 : ¬ pl < 0) (h : ¬ 65536 ≤ pl) (hg : g (ush pl 10).toNatClampNeg = some y) : r y (ush (pl &&& 1023) 2).toNatClampNeg = m_get (mw g r) pl := by
  rw [(pg_cl h0 h).1] at hg
  simp only [m_get, if_neg h0, if_neg h]
  rw [mw_some hg, (of_cl h0 h).1]
theorem m_put_some {g : Nat → Option Nat} {LP : List Nat} {r : Nat → Nat → Int32} {pl x : Int32} {y : Nat} (hm : mok g LP) (h0 : ¬ pl < 0) (h : ¬ 65536 ≤ pl) (hg : g (ush pl 10).toNatClampNeg = some y) (k : Nat) (hk : k < 16384) : mw g (va_up r y (upd (r y) (ush (pl &&& 1023) 2).toNatClampNeg x)) k = m_put (mw g r) pl x k := by
  rw [(pg_cl h0 h).1] at hg
  simp only [m_put, if_neg h0, if_neg h]
  rw [(of_cl h0 h).1]
  exact mw_put hm (of_cl h0 h).2 hg k hk
theorem m_put_none {g : Nat → Option Nat} {LP : List Nat} {r : Nat → Nat → Int32} {pl x : Int32} {q : Nat} (hm : mok g LP) (hq : q ∉ LP) (h0 : ¬ pl < 0) (h : ¬ 65536 ≤ pl) (hg : g (ush pl 10).toNatClampNeg = none) (k : Nat) (hk : k < 16384) : mw (va_up g (ush pl 10).toNatClampNeg (some q)) (va_up r q (upd (fun _ => 0) (ush (pl &&& 1023) 2).toNatClampNeg x)) k = m_put (mw g r) pl x k := by
  rw [(pg_cl h0 h).1] at hg ⊢
  simp only [m_put, if_neg h0, if_neg h]
  rw [(of_cl h0 h).1]
  exact mw_newput hm hq (of_cl h0 h).2 hg k hk
/-- two arrays of ints have one class -/
theorem cls_eq {D : va_G} {cl : List vw_C} {tys : List (ClassId × FieldType)} {s : State} {i j : Nat} {c1 c2 : ClassId} (hK : va_K D cl tys s) (h1 : tys[i]? = some (c1, .int)) (h2 : tys[j]? = some (c2, .int)) : c1 = c2 := by
  have e1 : s.vm.findClass ("[" ++ FieldType.int.toString) = some c1 := (hK.2 i _ h1).2
  have e2 : s.vm.findClass ("[" ++ FieldType.int.toString) = some c2 := (hK.2 j _ h2).2
  exact Option.some.inj (e1.symm.trans e2)
end
section
/-! Own rows: an array of int arrays (its places are rows of the pool, or null). -/
def ag_O (t : FieldType) (U : State) : Prop := (Cond.arrayOver (.array t)).before #[] U = true
theorem ag_O.moved {t : FieldType} {u U : State} (hvm : u.vm.Alike U.vm) (h : ag_O t u) : ag_O t U := by
  obtain ⟨comp, c, k, h1, h2, h3, h4, h5⟩ := arrayOverA_spec h
  obtain ⟨k', hk', he⟩ := hvm.2.2 _ _ h3
  have hi : (U.vm.classes.findIdx? fun (x : Class) => match x.kind with | .array component _ => component == comp | _ => false) = some c := by
    rw [hvm.findIdx?_eq _ (fun _ => rfl)]
    exact h2
  have hkind : k'.kind = .array comp (.array t) := by rw [he]; exact h4
  have f1 : U.vm.findClass (FieldType.array t).toString = some comp := by rw [hvm.findClass]; exact h1
  have f2 : U.vm.findClass ("[" ++ (FieldType.array t).toString) = some c := by rw [hvm.findClass]; exact h5
  unfold ag_O Cond.before Cond.holds
  simp only [Cond.value]
  rw [f1, Option.bind_some]
  refine (congrArg (fun o : Option Nat => (o.bind (fun c => (U.vm.classes[c]?).map fun (k : Class) => match k.kind with | .array _ ty => decide (ty = FieldType.array t) && decide (U.vm.findClass ("[" ++ (FieldType.array t).toString) = some c) | _ => false) == some true)) hi).trans ?_
  simp [hk', hkind, f2]
theorem ag_cl {own a b : String} {i : Nat} {args : Array Value} {s : State} (e : a = b) (h : (Cond.classLink own i b).before args s = true) : (Cond.classLink own i a).before args s = true := e ▸ h
theorem ag_self (vm : Vm) (c : ClassId) : vm.assignable c c = true := by
  show vm.assignableAux (255 + 1) c c = true
  rw [Vm.assignableAux]
  simp only [beq_self_eq_true, Bool.true_or]
section AGD
variable {p : Program} {l : Launch} {e : Env} {R : Room} {s : State} {m : MethodId} {args : Array Value} {below : List Frame} {meth : Method} {c : Code} {H : Heap} {locs : List Loc} {cells slots : Nat} {Q : State → Prop}
variable {cc : ByteArray} {pc : Nat} {ls : Array Slot} {rest : List Value} {D : va_G} {cl : List vw_C} {A : Nat → Prop} {a : Nat} {tys : List (ClassId × FieldType)} {ws : va_W} {H0 : Heap}
/-- a new array of arrays: its places are null -/
theorem ag_new (hexec : p.tables.exec = Jvm.exec) (hb : c.code = cc) {own : String} {t : FieldType} {index : Nat} (hown : s.vm.findClass own = some m.cls) (hclink : (Cond.classLink own index (FieldType.array t).toString).before args s = true) (hover : ag_O t s) (hK : va_K D cl tys s) (hP : va_P D cl ws H) (hD : va_D A ws) (hS : va_S A H0 H locs) (hA : ∀ q, H0.size ≤ q → A q)
    {n : Int32} {N' : Nat} (hn : ¬ n < 0) (hN : n.toNatClampNeg = N') (hbytes : N' * 4 ≤ 536870912) (hcells : cells + 1 ≤ R.cells) (hslots : slots + N' ≤ R.slots) (hdg : decode cc pc = .ok (.anewarray index, 3))
    (kk : ∀ (q : Nat) (cA : ClassId) (H1 : Heap), va_K D cl (tys ++ [(cA, .array t)]) s → va_P D cl (ws ++ [(q, .inl (cA, N', .inr (.inr (.inr (.inr (fun _ => none))))))]) H1 → va_D A (ws ++ [(q, .inl (cA, N', .inr (.inr (.inr (.inr (fun _ => none))))))]) → va_S A H0 H1 locs →
      W p l e R s m args below meth c H1 locs (cells + 1) (slots + N') Q (F0 m (pc + 3) ls (.ref q :: rest))) : W p l e R s m args below meth c H locs cells slots Q (F0 m pc ls (.int n :: rest)) := by
  subst hN
  refine W.anewA hexec hb hown hclink hover rfl hdg rfl hn hbytes hcells hslots fun cA kA comp f1 f2 f3 f4 => ?_
  generalize hH1 : H.push ({ cls := cA, slots := Array.replicate n.toNatClampNeg .null, vm := .none } : Cell) = H1
  have z1 : H1.size = H.size + 1 := by rw [← hH1, Array.size_push]
  have e1 : H1[H.size]? = some (arrV cA n.toNatClampNeg (fun _ => .null)) := by rw [← hH1, Array.getElem?_push_size, ← arrV_new]
  have o1 : ∀ q : Nat, q < H.size → H1[q]? = H[q]? := fun q hq => by rw [← hH1, Array.getElem?_push, if_neg (Nat.ne_of_lt hq)]
  have hk : ∀ (k : Nat) (x : Nat × va_E), ws[k]? = some x → H1[x.1]? = H[x.1]? := fun k x hx => o1 x.1 ((hP k x hx).lt)
  have one : ∀ {α : Type} {y x : α} {k : Nat}, [y][k]? = some x → x = y := by
    intro α y x k h
    match k, h with
    | 0, h => exact (Option.some.inj h).symm
    | k + 1, h => simp at h
  refine kk H.size cA H1 (hK.app ⟨hK.1, fun k x hx => ?_⟩) ((hP.kept hk).app (fun k x hx => ?_)) (hD.push hP rfl (hA _ hS.1)) ⟨Nat.le_trans hS.1 (by omega), fun x h1 h2 => (o1 x (Nat.lt_of_lt_of_le h1 hS.1)).trans (hS.2.1 x h1 h2), hS.2.2⟩
  · have ex := one hx
    subst ex
    exact ⟨fun N z => ⟨(fun k h => by cases h), kA, f2, comp, f3⟩, f1⟩
  · have ex := one hx
    subst ex
    show H1[H.size]? = some (vp_cell _ _)
    rw [vp_cell_q]
    exact e1
/-- a place of it is read -/
theorem ag_ld (hexec : p.tables.exec = Jvm.exec) (hb : c.code = cc) (hK : va_K D cl tys s) (hP : va_P D cl ws H) (q0 t0 : Nat) {cA : ClassId} {t : FieldType} {n : Nat} {f : Nat → Option Nat} (ha : ws[q0]? = some (a, .inl (cA, n, .inr (.inr (.inr (.inr f)))))) (ht : tys[t0]? = some (cA, .array t)) {i : Int32} (hin : vp_in i n) (hdg : decode cc pc = .ok (.aaload, 1))
    (kk : W p l e R s m args below meth c H locs cells slots Q (F0 m (pc + 1) ls (va_rf (f i.toNatClampNeg) :: rest))) : W p l e R s m args below meth c H locs cells slots Q (F0 m pc ls (.int i :: .ref a :: rest)) := by
  have hlt : i.toNatClampNeg < n := Nat.not_le.mp fun q => hin (Or.inr q)
  exact W.aald (v := va_rf (f i.toNatClampNeg)) (ty := .array t) hexec hb (hP q0 _ ha) ((hK.2 t0 _ ht).1 n (fun j => va_rf (f j))) rfl (fun q => by cases q) (by show ¬ (i < 0 ∨ (arrV _ _ _).slots.size ≤ _); rw [arrV_size]; exact hin) (by show (arrV _ _ _).slots[_]? = _; rw [arrV_read _ _ hlt]) rfl rfl hdg kk
/-- a row is laid at a place of it -/
theorem ag_st (hexec : p.tables.exec = Jvm.exec) (hb : c.code = cc) (hK : va_K D cl tys s) (hP : va_P D cl ws H) (hD : va_D A ws) (hS : va_S A H0 H locs) (q0 t0 : Nat) {t : FieldType} {cR cA : ClassId} {n v : Nat} {f : Nat → Option Nat} (ha : ws[q0]? = some (a, .inl (cA, n, .inr (.inr (.inr (.inr f)))))) (ht : tys[t0]? = some (cA, .array t)) (hZ : ag_O t s) (hR : s.vm.findClass (FieldType.array t).toString = some cR) (hr : ∃ cellV : Cell, H[v]? = some cellV ∧ cellV.vm.isStatics = false ∧ cellV.cls = cR) {i : Int32} (hin : vp_in i n) (hdg : decode cc pc = .ok (.aastore, 1))
    (kk : ∀ (H1 : Heap) (locs1 : List Loc), va_P D cl (ws.set q0 (a, .inl (cA, n, .inr (.inr (.inr (.inr (va_up f i.toNatClampNeg (some v)))))))) H1 → va_D A (ws.set q0 (a, .inl (cA, n, .inr (.inr (.inr (.inr (va_up f i.toNatClampNeg (some v)))))))) → va_S A H0 H1 locs1 → W p l e R s m args below meth c H1 locs1 cells slots Q (F0 m (pc + 1) ls rest)) : W p l e R s m args below meth c H locs cells slots Q (F0 m pc ls (.ref v :: .int i :: .ref a :: rest)) := by
  have hlt : i.toNatClampNeg < n := Nat.not_le.mp fun q => hin (Or.inr q)
  have h0 : ¬ i < 0 := fun q => hin (Or.inl q)
  obtain ⟨cellV, g1, g3, g2⟩ := hr
  obtain ⟨comp, cA2, kA, k3, -, k1, k2, k4⟩ := arrayOverA_spec hZ
  cases ((hK.2 t0 _ ht).2 : s.vm.findClass ("[" ++ (FieldType.array t).toString) = some cA).symm.trans k4
  cases k3.symm.trans hR
  obtain ⟨kE, hkE, -⟩ := Vm.findClass_spec k3
  refine W.aast hexec hb (hP q0 _ ha) (fun q h => by cases h) (fun h => by cases h) k1 k2 rfl hkE ⟨h0, by show _ < (arrV _ _ _).slots.size; rw [arrV_size]; exact hlt⟩ g1 (fun q h => by rw [h] at g3; cases g3) (by rw [g2]; exact hkE) (by rw [g2]; exact ag_self _ _) rfl rfl hdg fun H1 e z oq => ?_
  refine kk H1 _ (hP.set hD ha ?_ oq) (hD.set ha) (hS.put z oq (hD.2 q0 _ ha))
  show H1[a]? = some (vp_cell _ _)
  rw [e, vp_cell_q, vp_cell_q, arrV_store]
  congr 2
  funext q
  by_cases hq : q = i.toNatClampNeg
  · subst hq
    simp [updV, va_up, va_rf]
  · simp [updV, va_up, hq]
end AGD
end
section
abbrev cM_init : ByteArray := prog_4_method_1_code
def yM_init : MethodName := ⟨RX2, "<init>", "()V"⟩
abbrev cM_isWordPlace : ByteArray := prog_4_method_3_code
def yM_isWordPlace : MethodName := ⟨RX2, "isWordPlace", "(I)Z"⟩
abbrev cM_wordIn : ByteArray := prog_4_method_4_code
def yM_wordIn : MethodName := ⟨RX2, "wordIn", "(I)I"⟩
abbrev cM_lay : ByteArray := prog_4_method_5_code
def yM_lay : MethodName := ⟨RX2, "lay", "(II)V"⟩
abbrev cM_poke : ByteArray := prog_4_method_6_code
def yM_poke : MethodName := ⟨RX2, "poke", "(II)Z"⟩
abbrev cM_set : ByteArray := prog_4_method_7_code
def yM_set : MethodName := ⟨RX2, "set", "(II)Z"⟩
abbrev cM_mode : ByteArray := prog_4_method_8_code
def yM_mode : MethodName := ⟨RX2, "mode", "(I)Z"⟩
abbrev cM_wrong : ByteArray := prog_4_method_9_code
def yM_wrong : MethodName := ⟨RX2, "wrong", "(IIZ)I"⟩
abbrev cM_probe : ByteArray := prog_4_method_10_code
def yM_probe : MethodName := ⟨RX2, "probe", "(IIZ)Z"⟩
abbrev cM_code : ByteArray := prog_4_method_11_code
def yM_code : MethodName := ⟨RX2, "code", "(I)I"⟩
abbrev cM_load : ByteArray := prog_4_method_12_code
def yM_load : MethodName := ⟨RX2, "load", "(IZ)I"⟩
abbrev cM_store : ByteArray := prog_4_method_13_code
def yM_store : MethodName := ⟨RX2, "store", "(IIZ)I"⟩
abbrev cM_find : ByteArray := prog_4_method_14_code
def yM_find : MethodName := ⟨RX2, "find", "(IIZ)I"⟩
abbrev cM_map : ByteArray := prog_4_method_15_code
def yM_map : MethodName := ⟨RX2, "map", "(IIIZ)I"⟩
abbrev cM_matched : ByteArray := prog_4_method_16_code
def yM_matched : MethodName := ⟨RX2, "matched", "(I)I"⟩
abbrev cM_forget : ByteArray := prog_4_method_17_code
def yM_forget : MethodName := ⟨RX2, "forget", "(Z)I"⟩
abbrev cM_special : ByteArray := prog_4_method_18_code
def yM_special : MethodName := ⟨RX2, "special", "(I)I"⟩
abbrev cM_word : ByteArray := prog_4_method_19_code
def yM_word : MethodName := ⟨RX2, "word", "(I)I"⟩
abbrev cM_look : ByteArray := prog_4_method_20_code
def yM_look : MethodName := ⟨RX2, "look", "(I)I"⟩
def wsM_init : List Cond := .code yM_init cM_init 1 none :: ([.methodLink RX2 1 objectInit, .instanceMethod objectInit, .code objectInit ⟨#[0xb1]⟩ 1 none, .constant RX2 7 (65536), .arrayClass .int, .fieldLink RX2 8 "SoftMapsModel" "bytes" "[I", .fieldLink RX2 14 "SoftMapsModel" "specials" "[I"] ++ wsX20)
def wsM_isWordPlace : List Cond := .code yM_isWordPlace cM_isWordPlace 1 (some .boolean) :: ([.constant RX2 7 (65536)])
def wsM_wordIn : List Cond := .code yM_wordIn cM_wordIn 4 (some .int) :: ([.fieldLink RX2 8 "SoftMapsModel" "bytes" "[I"] ++ wsX20)
def wsM_lay : List Cond := .code yM_lay cM_lay 4 none :: ([.fieldLink RX2 8 "SoftMapsModel" "bytes" "[I"] ++ wsX20)
def wsM_poke : List Cond := .code yM_poke cM_poke 3 (some .boolean) :: ([.fieldLink RX2 17 "SoftMapsModel" "thrown" "I", .methodLink RX2 21 yM_isWordPlace, .static yM_isWordPlace, .initialized RX2, .code yM_isWordPlace cM_isWordPlace 1 (some .boolean), .constant RX2 7 (65536), .methodLink RX2 25 yM_lay, .instanceMethod yM_lay, .selects RX2 yM_lay yM_lay, .code yM_lay cM_lay 4 none, .fieldLink RX2 8 "SoftMapsModel" "bytes" "[I"] ++ wsX20)
def wsM_set : List Cond := .code yM_set cM_set 3 (some .boolean) :: ([.fieldLink RX2 17 "SoftMapsModel" "thrown" "I", .fieldLink RX2 14 "SoftMapsModel" "specials" "[I"] ++ wsX20)
def wsM_mode : List Cond := .code yM_mode cM_mode 2 (some .boolean) :: ([.fieldLink RX2 14 "SoftMapsModel" "specials" "[I"] ++ wsX20)
def wsM_wrong : List Cond := .code yM_wrong cM_wrong 16 (some .int) :: ([.constantLong RX2 29 (4294967295), .constantLong RX2 34 (1024), .constantLong RX2 36 (8), .fieldLink RX2 14 "SoftMapsModel" "specials" "[I", .constantLong RX2 38 (2), .constantLong RX2 40 (4), .constantLong RX2 42 (32768), .constantLong RX2 44 (65536), .fieldLink RX2 46 "SoftMapsModel" "found" "I", .methodLink RX2 31 yM_mode, .instanceMethod yM_mode, .selects RX2 yM_mode yM_mode, .initialized RX2, .code yM_mode cM_mode 2 (some .boolean)] ++ wsX20)
def wsM_probe : List Cond := .code yM_probe cM_probe 5 (some .boolean) :: ([.fieldLink RX2 53 "SoftMapsModel" "faults" "I", .fieldLink RX2 56 "SoftMapsModel" "fault" "I", .fieldLink RX2 59 "SoftMapsModel" "address" "I", .methodLink RX2 49 yM_wrong, .instanceMethod yM_wrong, .selects RX2 yM_wrong yM_wrong, .initialized RX2, .code yM_wrong cM_wrong 16 (some .int), .constantLong RX2 29 (4294967295), .constantLong RX2 34 (1024), .constantLong RX2 36 (8), .fieldLink RX2 14 "SoftMapsModel" "specials" "[I", .constantLong RX2 38 (2), .constantLong RX2 40 (4), .constantLong RX2 42 (32768), .constantLong RX2 44 (65536), .fieldLink RX2 46 "SoftMapsModel" "found" "I", .methodLink RX2 31 yM_mode, .instanceMethod yM_mode, .selects RX2 yM_mode yM_mode, .code yM_mode cM_mode 2 (some .boolean)] ++ wsX20)
def wsM_code_r1 : List Cond := [Cond.fieldLink RX2 17 "SoftMapsModel" "thrown" "I", Cond.fieldLink RX2 66 "SoftMapsModel" "codes" "I", Cond.fieldLink RX2 46 "SoftMapsModel" "found" "I", Cond.methodLink RX2 62 yM_probe, Cond.instanceMethod yM_probe, Cond.selects RX2 yM_probe yM_probe, Cond.initialized RX2, Cond.code yM_probe cM_probe 5 (some .boolean), Cond.fieldLink RX2 53 "SoftMapsModel" "faults" "I", Cond.fieldLink RX2 56 "SoftMapsModel" "fault" "I", Cond.fieldLink RX2 59 "SoftMapsModel" "address" "I", Cond.methodLink RX2 49 yM_wrong, Cond.instanceMethod yM_wrong, Cond.selects RX2 yM_wrong yM_wrong, Cond.code yM_wrong cM_wrong 16 (some .int), Cond.constantLong RX2 29 (4294967295), Cond.constantLong RX2 34 (1024), Cond.constantLong RX2 36 (8), Cond.fieldLink RX2 14 "SoftMapsModel" "specials" "[I", Cond.constantLong RX2 38 (2), Cond.constantLong RX2 40 (4), Cond.constantLong RX2 42 (32768), Cond.constantLong RX2 44 (65536), Cond.methodLink RX2 31 yM_mode]
def wsM_code_r2 : List Cond := [Cond.instanceMethod yM_mode, Cond.selects RX2 yM_mode yM_mode, Cond.code yM_mode cM_mode 2 (some .boolean), Cond.methodLink RX2 69 yM_wordIn, Cond.instanceMethod yM_wordIn, Cond.selects RX2 yM_wordIn yM_wordIn, Cond.code yM_wordIn cM_wordIn 4 (some .int), Cond.fieldLink RX2 8 "SoftMapsModel" "bytes" "[I"]
def wsM_code : List Cond := .code yM_code cM_code 2 (some .int) :: ((wsM_code_r1 ++ wsM_code_r2) ++ wsX20)
def wsM_load_r1 : List Cond := [Cond.fieldLink RX2 17 "SoftMapsModel" "thrown" "I", Cond.fieldLink RX2 73 "SoftMapsModel" "loads" "I", Cond.fieldLink RX2 46 "SoftMapsModel" "found" "I", Cond.fieldLink RX2 8 "SoftMapsModel" "bytes" "[I", Cond.methodLink RX2 62 yM_probe, Cond.instanceMethod yM_probe, Cond.selects RX2 yM_probe yM_probe, Cond.initialized RX2, Cond.code yM_probe cM_probe 5 (some .boolean), Cond.fieldLink RX2 53 "SoftMapsModel" "faults" "I", Cond.fieldLink RX2 56 "SoftMapsModel" "fault" "I", Cond.fieldLink RX2 59 "SoftMapsModel" "address" "I", Cond.methodLink RX2 49 yM_wrong, Cond.instanceMethod yM_wrong, Cond.selects RX2 yM_wrong yM_wrong, Cond.code yM_wrong cM_wrong 16 (some .int), Cond.constantLong RX2 29 (4294967295), Cond.constantLong RX2 34 (1024), Cond.constantLong RX2 36 (8), Cond.fieldLink RX2 14 "SoftMapsModel" "specials" "[I", Cond.constantLong RX2 38 (2), Cond.constantLong RX2 40 (4), Cond.constantLong RX2 42 (32768), Cond.constantLong RX2 44 (65536)]
def wsM_load_r2 : List Cond := [Cond.methodLink RX2 31 yM_mode, Cond.instanceMethod yM_mode, Cond.selects RX2 yM_mode yM_mode, Cond.code yM_mode cM_mode 2 (some .boolean), Cond.methodLink RX2 69 yM_wordIn, Cond.instanceMethod yM_wordIn, Cond.selects RX2 yM_wordIn yM_wordIn, Cond.code yM_wordIn cM_wordIn 4 (some .int)]
def wsM_load : List Cond := .code yM_load cM_load 3 (some .int) :: ((wsM_load_r1 ++ wsM_load_r2) ++ wsX20)
def wsM_store_r1 : List Cond := [Cond.fieldLink RX2 17 "SoftMapsModel" "thrown" "I", Cond.fieldLink RX2 76 "SoftMapsModel" "stores" "I", Cond.fieldLink RX2 46 "SoftMapsModel" "found" "I", Cond.fieldLink RX2 8 "SoftMapsModel" "bytes" "[I", Cond.methodLink RX2 62 yM_probe, Cond.instanceMethod yM_probe, Cond.selects RX2 yM_probe yM_probe, Cond.initialized RX2, Cond.code yM_probe cM_probe 5 (some .boolean), Cond.fieldLink RX2 53 "SoftMapsModel" "faults" "I", Cond.fieldLink RX2 56 "SoftMapsModel" "fault" "I", Cond.fieldLink RX2 59 "SoftMapsModel" "address" "I", Cond.methodLink RX2 49 yM_wrong, Cond.instanceMethod yM_wrong, Cond.selects RX2 yM_wrong yM_wrong, Cond.code yM_wrong cM_wrong 16 (some .int), Cond.constantLong RX2 29 (4294967295), Cond.constantLong RX2 34 (1024), Cond.constantLong RX2 36 (8), Cond.fieldLink RX2 14 "SoftMapsModel" "specials" "[I", Cond.constantLong RX2 38 (2), Cond.constantLong RX2 40 (4), Cond.constantLong RX2 42 (32768), Cond.constantLong RX2 44 (65536)]
def wsM_store_r2 : List Cond := [Cond.methodLink RX2 31 yM_mode, Cond.instanceMethod yM_mode, Cond.selects RX2 yM_mode yM_mode, Cond.code yM_mode cM_mode 2 (some .boolean), Cond.methodLink RX2 25 yM_lay, Cond.instanceMethod yM_lay, Cond.selects RX2 yM_lay yM_lay, Cond.code yM_lay cM_lay 4 none]
def wsM_store : List Cond := .code yM_store cM_store 4 (some .int) :: ((wsM_store_r1 ++ wsM_store_r2) ++ wsX20)
def wsM_find : List Cond := .code yM_find cM_find 5 (some .int) :: ([.fieldLink RX2 17 "SoftMapsModel" "thrown" "I", .fieldLink RX2 46 "SoftMapsModel" "found" "I", .methodLink RX2 49 yM_wrong, .instanceMethod yM_wrong, .selects RX2 yM_wrong yM_wrong, .initialized RX2, .code yM_wrong cM_wrong 16 (some .int), .constantLong RX2 29 (4294967295), .constantLong RX2 34 (1024), .constantLong RX2 36 (8), .fieldLink RX2 14 "SoftMapsModel" "specials" "[I", .constantLong RX2 38 (2), .constantLong RX2 40 (4), .constantLong RX2 42 (32768), .constantLong RX2 44 (65536), .methodLink RX2 31 yM_mode, .instanceMethod yM_mode, .selects RX2 yM_mode yM_mode, .code yM_mode cM_mode 2 (some .boolean)] ++ wsX20)
def wsM_map : List Cond := .code yM_map cM_map 7 (some .int) :: ([.fieldLink RX2 17 "SoftMapsModel" "thrown" "I", .fieldLink RX2 14 "SoftMapsModel" "specials" "[I"] ++ wsX20)
def wsM_matched : List Cond := .code yM_matched cM_matched 4 (some .int) :: ([.fieldLink RX2 14 "SoftMapsModel" "specials" "[I"] ++ wsX20)
def wsM_forget : List Cond := .code yM_forget cM_forget 5 (some .int) :: ([.fieldLink RX2 17 "SoftMapsModel" "thrown" "I", .fieldLink RX2 14 "SoftMapsModel" "specials" "[I", .methodLink RX2 79 yM_matched, .instanceMethod yM_matched, .selects RX2 yM_matched yM_matched, .initialized RX2, .code yM_matched cM_matched 4 (some .int)] ++ wsX20)
def wsM_special : List Cond := .code yM_special cM_special 2 (some .int) :: ([.fieldLink RX2 17 "SoftMapsModel" "thrown" "I", .fieldLink RX2 14 "SoftMapsModel" "specials" "[I"] ++ wsX20)
def wsM_word : List Cond := .code yM_word cM_word 2 (some .int) :: ([.fieldLink RX2 17 "SoftMapsModel" "thrown" "I", .methodLink RX2 21 yM_isWordPlace, .static yM_isWordPlace, .initialized RX2, .code yM_isWordPlace cM_isWordPlace 1 (some .boolean), .constant RX2 7 (65536), .methodLink RX2 69 yM_wordIn, .instanceMethod yM_wordIn, .selects RX2 yM_wordIn yM_wordIn, .code yM_wordIn cM_wordIn 4 (some .int), .fieldLink RX2 8 "SoftMapsModel" "bytes" "[I"] ++ wsX20)
def wsM_look : List Cond := .code yM_look cM_look 2 (some .int) :: ([.fieldLink RX2 17 "SoftMapsModel" "thrown" "I", .fieldLink RX2 53 "SoftMapsModel" "faults" "I", .fieldLink RX2 56 "SoftMapsModel" "fault" "I", .fieldLink RX2 59 "SoftMapsModel" "address" "I", .fieldLink RX2 66 "SoftMapsModel" "codes" "I", .fieldLink RX2 73 "SoftMapsModel" "loads" "I", .fieldLink RX2 76 "SoftMapsModel" "stores" "I", .methodLink RX2 79 yM_matched, .instanceMethod yM_matched, .selects RX2 yM_matched yM_matched, .initialized RX2, .code yM_matched cM_matched 4 (some .int), .fieldLink RX2 14 "SoftMapsModel" "specials" "[I"] ++ wsX20)
theorem dM_init_0 : decode cM_init 0 = .ok (.aload_n 0, 1) := by decide +kernel
theorem dM_init_1 : decode cM_init 1 = .ok (.invokespecial 1, 3) := by decide +kernel
theorem dM_init_4 : decode cM_init 4 = .ok (.aload_n 0, 1) := by decide +kernel
theorem dM_init_5 : decode cM_init 5 = .ok (.ldc 7, 2) := by decide +kernel
theorem dM_init_7 : decode cM_init 7 = .ok (.newarray .int, 2) := by decide +kernel
theorem dM_init_9 : decode cM_init 9 = .ok (.putfield 8, 3) := by decide +kernel
theorem dM_init_12 : decode cM_init 12 = .ok (.aload_n 0, 1) := by decide +kernel
theorem dM_init_13 : decode cM_init 13 = .ok (.bipush 33, 2) := by decide +kernel
theorem dM_init_15 : decode cM_init 15 = .ok (.newarray .int, 2) := by decide +kernel
theorem dM_init_17 : decode cM_init 17 = .ok (.putfield 14, 3) := by decide +kernel
theorem dM_init_20 : decode cM_init 20 = .ok (.return_, 1) := by decide +kernel
theorem dM_isWordPlace_0 : decode cM_isWordPlace 0 = .ok (.iload_n 0, 1) := by decide +kernel
theorem dM_isWordPlace_1 : decode cM_isWordPlace 1 = .ok (.ifCond .lt 19, 3) := by decide +kernel
theorem dM_isWordPlace_4 : decode cM_isWordPlace 4 = .ok (.iload_n 0, 1) := by decide +kernel
theorem dM_isWordPlace_5 : decode cM_isWordPlace 5 = .ok (.ldc 7, 2) := by decide +kernel
theorem dM_isWordPlace_7 : decode cM_isWordPlace 7 = .ok (.if_icmp .ge 13, 3) := by decide +kernel
theorem dM_isWordPlace_10 : decode cM_isWordPlace 10 = .ok (.iload_n 0, 1) := by decide +kernel
theorem dM_isWordPlace_11 : decode cM_isWordPlace 11 = .ok (.iconst 4, 1) := by decide +kernel
theorem dM_isWordPlace_12 : decode cM_isWordPlace 12 = .ok (.irem, 1) := by decide +kernel
theorem dM_isWordPlace_13 : decode cM_isWordPlace 13 = .ok (.ifCond .ne 7, 3) := by decide +kernel
theorem dM_isWordPlace_16 : decode cM_isWordPlace 16 = .ok (.iconst 1, 1) := by decide +kernel
theorem dM_isWordPlace_17 : decode cM_isWordPlace 17 = .ok (.goto 4, 3) := by decide +kernel
theorem dM_isWordPlace_20 : decode cM_isWordPlace 20 = .ok (.iconst 0, 1) := by decide +kernel
theorem dM_isWordPlace_21 : decode cM_isWordPlace 21 = .ok (.ireturn, 1) := by decide +kernel
theorem dM_wordIn_0 : decode cM_wordIn 0 = .ok (.iconst 0, 1) := by decide +kernel
theorem dM_wordIn_1 : decode cM_wordIn 1 = .ok (.istore_n 2, 1) := by decide +kernel
theorem dM_wordIn_2 : decode cM_wordIn 2 = .ok (.iconst 0, 1) := by decide +kernel
theorem dM_wordIn_3 : decode cM_wordIn 3 = .ok (.istore_n 3, 1) := by decide +kernel
theorem dM_wordIn_4 : decode cM_wordIn 4 = .ok (.iload_n 3, 1) := by decide +kernel
theorem dM_wordIn_5 : decode cM_wordIn 5 = .ok (.iconst 4, 1) := by decide +kernel
theorem dM_wordIn_6 : decode cM_wordIn 6 = .ok (.if_icmp .ge 24, 3) := by decide +kernel
theorem dM_wordIn_9 : decode cM_wordIn 9 = .ok (.iload_n 2, 1) := by decide +kernel
theorem dM_wordIn_10 : decode cM_wordIn 10 = .ok (.sipush 256, 3) := by decide +kernel
theorem dM_wordIn_13 : decode cM_wordIn 13 = .ok (.imul, 1) := by decide +kernel
theorem dM_wordIn_14 : decode cM_wordIn 14 = .ok (.aload_n 0, 1) := by decide +kernel
theorem dM_wordIn_15 : decode cM_wordIn 15 = .ok (.getfield 8, 3) := by decide +kernel
theorem dM_wordIn_18 : decode cM_wordIn 18 = .ok (.iload_n 1, 1) := by decide +kernel
theorem dM_wordIn_19 : decode cM_wordIn 19 = .ok (.iload_n 3, 1) := by decide +kernel
theorem dM_wordIn_20 : decode cM_wordIn 20 = .ok (.iadd, 1) := by decide +kernel
theorem dM_wordIn_21 : decode cM_wordIn 21 = .ok (.iaload, 1) := by decide +kernel
theorem dM_wordIn_22 : decode cM_wordIn 22 = .ok (.iadd, 1) := by decide +kernel
theorem dM_wordIn_23 : decode cM_wordIn 23 = .ok (.istore_n 2, 1) := by decide +kernel
theorem dM_wordIn_24 : decode cM_wordIn 24 = .ok (.iinc 3 1, 3) := by decide +kernel
theorem dM_wordIn_27 : decode cM_wordIn 27 = .ok (.goto (-23), 3) := by decide +kernel
theorem dM_wordIn_30 : decode cM_wordIn 30 = .ok (.iload_n 2, 1) := by decide +kernel
theorem dM_wordIn_31 : decode cM_wordIn 31 = .ok (.ireturn, 1) := by decide +kernel
theorem dM_lay_0 : decode cM_lay 0 = .ok (.iconst 0, 1) := by decide +kernel
theorem dM_lay_1 : decode cM_lay 1 = .ok (.istore_n 3, 1) := by decide +kernel
theorem dM_lay_2 : decode cM_lay 2 = .ok (.iload_n 3, 1) := by decide +kernel
theorem dM_lay_3 : decode cM_lay 3 = .ok (.iconst 4, 1) := by decide +kernel
theorem dM_lay_4 : decode cM_lay 4 = .ok (.if_icmp .ge 30, 3) := by decide +kernel
theorem dM_lay_7 : decode cM_lay 7 = .ok (.aload_n 0, 1) := by decide +kernel
theorem dM_lay_8 : decode cM_lay 8 = .ok (.getfield 8, 3) := by decide +kernel
theorem dM_lay_11 : decode cM_lay 11 = .ok (.iload_n 1, 1) := by decide +kernel
theorem dM_lay_12 : decode cM_lay 12 = .ok (.iload_n 3, 1) := by decide +kernel
theorem dM_lay_13 : decode cM_lay 13 = .ok (.iadd, 1) := by decide +kernel
theorem dM_lay_14 : decode cM_lay 14 = .ok (.iload_n 2, 1) := by decide +kernel
theorem dM_lay_15 : decode cM_lay 15 = .ok (.bipush 24, 2) := by decide +kernel
theorem dM_lay_17 : decode cM_lay 17 = .ok (.bipush 8, 2) := by decide +kernel
theorem dM_lay_19 : decode cM_lay 19 = .ok (.iload_n 3, 1) := by decide +kernel
theorem dM_lay_20 : decode cM_lay 20 = .ok (.imul, 1) := by decide +kernel
theorem dM_lay_21 : decode cM_lay 21 = .ok (.isub, 1) := by decide +kernel
theorem dM_lay_22 : decode cM_lay 22 = .ok (.ishr, 1) := by decide +kernel
theorem dM_lay_23 : decode cM_lay 23 = .ok (.sipush 255, 3) := by decide +kernel
theorem dM_lay_26 : decode cM_lay 26 = .ok (.iand, 1) := by decide +kernel
theorem dM_lay_27 : decode cM_lay 27 = .ok (.iastore, 1) := by decide +kernel
theorem dM_lay_28 : decode cM_lay 28 = .ok (.iinc 3 1, 3) := by decide +kernel
theorem dM_lay_31 : decode cM_lay 31 = .ok (.goto (-29), 3) := by decide +kernel
theorem dM_lay_34 : decode cM_lay 34 = .ok (.return_, 1) := by decide +kernel
set_option maxRecDepth 20000 in
theorem gM_poke_M_isWordPlace : GoodIn wsM_poke (va_wsS RX2 21 yM_isWordPlace wsM_isWordPlace) := goodIn_app (goodIn_of _ (by decide +kernel)) (goodIn_r _ [5, 6] (by decide +kernel) (by decide +kernel))
set_option maxRecDepth 20000 in
theorem gM_poke_M_lay : GoodIn wsM_poke (wsV RX2 25 RX2 yM_lay wsM_lay) := goodIn_app (goodIn_of _ (by decide +kernel)) (goodIn_r _ [10, 11, 12, 13, 14, 15, 16, 17, 18, 19, 20, 21] (by decide +kernel) (by decide +kernel))
theorem dM_poke_0 : decode cM_poke 0 = .ok (.aload_n 0, 1) := by decide +kernel
theorem dM_poke_1 : decode cM_poke 1 = .ok (.iconst 0, 1) := by decide +kernel
theorem dM_poke_2 : decode cM_poke 2 = .ok (.putfield 17, 3) := by decide +kernel
theorem dM_poke_5 : decode cM_poke 5 = .ok (.iload_n 1, 1) := by decide +kernel
theorem dM_poke_6 : decode cM_poke 6 = .ok (.invokestatic 21, 3) := by decide +kernel
theorem dM_poke_9 : decode cM_poke 9 = .ok (.ifCond .ne 5, 3) := by decide +kernel
theorem dM_poke_12 : decode cM_poke 12 = .ok (.iconst 0, 1) := by decide +kernel
theorem dM_poke_13 : decode cM_poke 13 = .ok (.ireturn, 1) := by decide +kernel
theorem dM_poke_14 : decode cM_poke 14 = .ok (.aload_n 0, 1) := by decide +kernel
theorem dM_poke_15 : decode cM_poke 15 = .ok (.iload_n 1, 1) := by decide +kernel
theorem dM_poke_16 : decode cM_poke 16 = .ok (.iload_n 2, 1) := by decide +kernel
theorem dM_poke_17 : decode cM_poke 17 = .ok (.invokevirtual 25, 3) := by decide +kernel
theorem dM_poke_20 : decode cM_poke 20 = .ok (.iconst 1, 1) := by decide +kernel
theorem dM_poke_21 : decode cM_poke 21 = .ok (.ireturn, 1) := by decide +kernel
theorem dM_set_0 : decode cM_set 0 = .ok (.aload_n 0, 1) := by decide +kernel
theorem dM_set_1 : decode cM_set 1 = .ok (.iconst 0, 1) := by decide +kernel
theorem dM_set_2 : decode cM_set 2 = .ok (.putfield 17, 3) := by decide +kernel
theorem dM_set_5 : decode cM_set 5 = .ok (.iload_n 1, 1) := by decide +kernel
theorem dM_set_6 : decode cM_set 6 = .ok (.ifCond .lt 9, 3) := by decide +kernel
theorem dM_set_9 : decode cM_set 9 = .ok (.iload_n 1, 1) := by decide +kernel
theorem dM_set_10 : decode cM_set 10 = .ok (.bipush 32, 2) := by decide +kernel
theorem dM_set_12 : decode cM_set 12 = .ok (.if_icmp .le 5, 3) := by decide +kernel
theorem dM_set_15 : decode cM_set 15 = .ok (.iconst 0, 1) := by decide +kernel
theorem dM_set_16 : decode cM_set 16 = .ok (.ireturn, 1) := by decide +kernel
theorem dM_set_17 : decode cM_set 17 = .ok (.aload_n 0, 1) := by decide +kernel
theorem dM_set_18 : decode cM_set 18 = .ok (.getfield 14, 3) := by decide +kernel
theorem dM_set_21 : decode cM_set 21 = .ok (.iload_n 1, 1) := by decide +kernel
theorem dM_set_22 : decode cM_set 22 = .ok (.iload_n 1, 1) := by decide +kernel
theorem dM_set_23 : decode cM_set 23 = .ok (.bipush 32, 2) := by decide +kernel
theorem dM_set_25 : decode cM_set 25 = .ok (.if_icmp .ne 10, 3) := by decide +kernel
theorem dM_set_28 : decode cM_set 28 = .ok (.iload_n 2, 1) := by decide +kernel
theorem dM_set_29 : decode cM_set 29 = .ok (.bipush 7, 2) := by decide +kernel
theorem dM_set_31 : decode cM_set 31 = .ok (.iand, 1) := by decide +kernel
theorem dM_set_32 : decode cM_set 32 = .ok (.goto 4, 3) := by decide +kernel
theorem dM_set_35 : decode cM_set 35 = .ok (.iload_n 2, 1) := by decide +kernel
theorem dM_set_36 : decode cM_set 36 = .ok (.iastore, 1) := by decide +kernel
theorem dM_set_37 : decode cM_set 37 = .ok (.iconst 1, 1) := by decide +kernel
theorem dM_set_38 : decode cM_set 38 = .ok (.ireturn, 1) := by decide +kernel
theorem dM_mode_0 : decode cM_mode 0 = .ok (.aload_n 0, 1) := by decide +kernel
theorem dM_mode_1 : decode cM_mode 1 = .ok (.getfield 14, 3) := by decide +kernel
theorem dM_mode_4 : decode cM_mode 4 = .ok (.bipush 32, 2) := by decide +kernel
theorem dM_mode_6 : decode cM_mode 6 = .ok (.iaload, 1) := by decide +kernel
theorem dM_mode_7 : decode cM_mode 7 = .ok (.iload_n 1, 1) := by decide +kernel
theorem dM_mode_8 : decode cM_mode 8 = .ok (.idiv, 1) := by decide +kernel
theorem dM_mode_9 : decode cM_mode 9 = .ok (.iconst 2, 1) := by decide +kernel
theorem dM_mode_10 : decode cM_mode 10 = .ok (.irem, 1) := by decide +kernel
theorem dM_mode_11 : decode cM_mode 11 = .ok (.iconst 1, 1) := by decide +kernel
theorem dM_mode_12 : decode cM_mode 12 = .ok (.if_icmp .ne 7, 3) := by decide +kernel
theorem dM_mode_15 : decode cM_mode 15 = .ok (.iconst 1, 1) := by decide +kernel
theorem dM_mode_16 : decode cM_mode 16 = .ok (.goto 4, 3) := by decide +kernel
theorem dM_mode_19 : decode cM_mode 19 = .ok (.iconst 0, 1) := by decide +kernel
theorem dM_mode_20 : decode cM_mode 20 = .ok (.ireturn, 1) := by decide +kernel
set_option maxRecDepth 20000 in
theorem gM_wrong_M_mode : GoodIn wsM_wrong (wsV RX2 31 RX2 yM_mode wsM_mode) := goodIn_app (goodIn_of _ (by decide +kernel)) (goodIn_r _ [14, 4, 15, 16, 17, 18, 19, 20, 21, 22, 23, 24] (by decide +kernel) (by decide +kernel))
theorem dM_wrong_0 : decode cM_wrong 0 = .ok (.iload_n 3, 1) := by decide +kernel
theorem dM_wrong_1 : decode cM_wrong 1 = .ok (.ifCond .ne 7, 3) := by decide +kernel
theorem dM_wrong_4 : decode cM_wrong 4 = .ok (.iload_n 2, 1) := by decide +kernel
theorem dM_wrong_5 : decode cM_wrong 5 = .ok (.ifCond .ne 7, 3) := by decide +kernel
theorem dM_wrong_8 : decode cM_wrong 8 = .ok (.iconst 1, 1) := by decide +kernel
theorem dM_wrong_9 : decode cM_wrong 9 = .ok (.goto 4, 3) := by decide +kernel
theorem dM_wrong_12 : decode cM_wrong 12 = .ok (.iconst 0, 1) := by decide +kernel
theorem dM_wrong_13 : decode cM_wrong 13 = .ok (.istore 4, 2) := by decide +kernel
theorem dM_wrong_15 : decode cM_wrong 15 = .ok (.iload 4, 2) := by decide +kernel
theorem dM_wrong_17 : decode cM_wrong 17 = .ok (.ifCond .eq 12, 3) := by decide +kernel
theorem dM_wrong_20 : decode cM_wrong 20 = .ok (.iload_n 1, 1) := by decide +kernel
theorem dM_wrong_21 : decode cM_wrong 21 = .ok (.iconst 3, 1) := by decide +kernel
theorem dM_wrong_22 : decode cM_wrong 22 = .ok (.iand, 1) := by decide +kernel
theorem dM_wrong_23 : decode cM_wrong 23 = .ok (.ifCond .eq 6, 3) := by decide +kernel
theorem dM_wrong_26 : decode cM_wrong 26 = .ok (.bipush 6, 2) := by decide +kernel
theorem dM_wrong_28 : decode cM_wrong 28 = .ok (.ireturn, 1) := by decide +kernel
theorem dM_wrong_29 : decode cM_wrong 29 = .ok (.iload_n 1, 1) := by decide +kernel
theorem dM_wrong_30 : decode cM_wrong 30 = .ok (.i2l, 1) := by decide +kernel
theorem dM_wrong_31 : decode cM_wrong 31 = .ok (.ldc2_w 29, 3) := by decide +kernel
theorem dM_wrong_34 : decode cM_wrong 34 = .ok (.land, 1) := by decide +kernel
theorem dM_wrong_35 : decode cM_wrong 35 = .ok (.lstore 5, 2) := by decide +kernel
theorem dM_wrong_37 : decode cM_wrong 37 = .ok (.aload_n 0, 1) := by decide +kernel
theorem dM_wrong_38 : decode cM_wrong 38 = .ok (.iload_n 2, 1) := by decide +kernel
theorem dM_wrong_39 : decode cM_wrong 39 = .ok (.ifCond .ne 7, 3) := by decide +kernel
theorem dM_wrong_42 : decode cM_wrong 42 = .ok (.iconst 2, 1) := by decide +kernel
theorem dM_wrong_43 : decode cM_wrong 43 = .ok (.goto 4, 3) := by decide +kernel
theorem dM_wrong_46 : decode cM_wrong 46 = .ok (.iconst 4, 1) := by decide +kernel
theorem dM_wrong_47 : decode cM_wrong 47 = .ok (.invokevirtual 31, 3) := by decide +kernel
theorem dM_wrong_50 : decode cM_wrong 50 = .ok (.ifCond .eq 182, 3) := by decide +kernel
theorem dM_wrong_53 : decode cM_wrong 53 = .ok (.lload 5, 2) := by decide +kernel
theorem dM_wrong_55 : decode cM_wrong 55 = .ok (.ldc2_w 34, 3) := by decide +kernel
theorem dM_wrong_58 : decode cM_wrong 58 = .ok (.ldiv, 1) := by decide +kernel
theorem dM_wrong_59 : decode cM_wrong 59 = .ok (.lstore 7, 2) := by decide +kernel
theorem dM_wrong_61 : decode cM_wrong 61 = .ok (.lload 7, 2) := by decide +kernel
theorem dM_wrong_63 : decode cM_wrong 63 = .ok (.ldc2_w 36, 3) := by decide +kernel
theorem dM_wrong_66 : decode cM_wrong 66 = .ok (.lrem, 1) := by decide +kernel
theorem dM_wrong_67 : decode cM_wrong 67 = .ok (.l2i, 1) := by decide +kernel
theorem dM_wrong_68 : decode cM_wrong 68 = .ok (.iload_n 2, 1) := by decide +kernel
theorem dM_wrong_69 : decode cM_wrong 69 = .ok (.ifCond .ne 7, 3) := by decide +kernel
theorem dM_wrong_72 : decode cM_wrong 72 = .ok (.iconst 0, 1) := by decide +kernel
theorem dM_wrong_73 : decode cM_wrong 73 = .ok (.goto 5, 3) := by decide +kernel
theorem dM_wrong_76 : decode cM_wrong 76 = .ok (.bipush 16, 2) := by decide +kernel
theorem dM_wrong_78 : decode cM_wrong 78 = .ok (.iadd, 1) := by decide +kernel
theorem dM_wrong_79 : decode cM_wrong 79 = .ok (.istore 9, 2) := by decide +kernel
theorem dM_wrong_81 : decode cM_wrong 81 = .ok (.aload_n 0, 1) := by decide +kernel
theorem dM_wrong_82 : decode cM_wrong 82 = .ok (.getfield 14, 3) := by decide +kernel
theorem dM_wrong_85 : decode cM_wrong 85 = .ok (.iload 9, 2) := by decide +kernel
theorem dM_wrong_87 : decode cM_wrong 87 = .ok (.iaload, 1) := by decide +kernel
theorem dM_wrong_88 : decode cM_wrong 88 = .ok (.i2l, 1) := by decide +kernel
theorem dM_wrong_89 : decode cM_wrong 89 = .ok (.ldc2_w 29, 3) := by decide +kernel
theorem dM_wrong_92 : decode cM_wrong 92 = .ok (.land, 1) := by decide +kernel
theorem dM_wrong_93 : decode cM_wrong 93 = .ok (.lstore 10, 2) := by decide +kernel
theorem dM_wrong_95 : decode cM_wrong 95 = .ok (.aload_n 0, 1) := by decide +kernel
theorem dM_wrong_96 : decode cM_wrong 96 = .ok (.getfield 14, 3) := by decide +kernel
theorem dM_wrong_99 : decode cM_wrong 99 = .ok (.iload 9, 2) := by decide +kernel
theorem dM_wrong_101 : decode cM_wrong 101 = .ok (.bipush 8, 2) := by decide +kernel
theorem dM_wrong_103 : decode cM_wrong 103 = .ok (.iadd, 1) := by decide +kernel
theorem dM_wrong_104 : decode cM_wrong 104 = .ok (.iaload, 1) := by decide +kernel
theorem dM_wrong_105 : decode cM_wrong 105 = .ok (.i2l, 1) := by decide +kernel
theorem dM_wrong_106 : decode cM_wrong 106 = .ok (.ldc2_w 29, 3) := by decide +kernel
theorem dM_wrong_109 : decode cM_wrong 109 = .ok (.land, 1) := by decide +kernel
theorem dM_wrong_110 : decode cM_wrong 110 = .ok (.lstore 12, 2) := by decide +kernel
theorem dM_wrong_112 : decode cM_wrong 112 = .ok (.lload 10, 2) := by decide +kernel
theorem dM_wrong_114 : decode cM_wrong 114 = .ok (.ldc2_w 38, 3) := by decide +kernel
theorem dM_wrong_117 : decode cM_wrong 117 = .ok (.lrem, 1) := by decide +kernel
theorem dM_wrong_118 : decode cM_wrong 118 = .ok (.lconst 0, 1) := by decide +kernel
theorem dM_wrong_119 : decode cM_wrong 119 = .ok (.lcmp, 1) := by decide +kernel
theorem dM_wrong_120 : decode cM_wrong 120 = .ok (.ifCond .eq 15, 3) := by decide +kernel
theorem dM_wrong_123 : decode cM_wrong 123 = .ok (.lload 10, 2) := by decide +kernel
theorem dM_wrong_125 : decode cM_wrong 125 = .ok (.ldc2_w 34, 3) := by decide +kernel
theorem dM_wrong_128 : decode cM_wrong 128 = .ok (.ldiv, 1) := by decide +kernel
theorem dM_wrong_129 : decode cM_wrong 129 = .ok (.lload 7, 2) := by decide +kernel
theorem dM_wrong_131 : decode cM_wrong 131 = .ok (.lcmp, 1) := by decide +kernel
theorem dM_wrong_132 : decode cM_wrong 132 = .ok (.ifCond .eq 15, 3) := by decide +kernel
theorem dM_wrong_135 : decode cM_wrong 135 = .ok (.iload_n 2, 1) := by decide +kernel
theorem dM_wrong_136 : decode cM_wrong 136 = .ok (.ifCond .ne 8, 3) := by decide +kernel
theorem dM_wrong_139 : decode cM_wrong 139 = .ok (.bipush 10, 2) := by decide +kernel
theorem dM_wrong_141 : decode cM_wrong 141 = .ok (.goto 5, 3) := by decide +kernel
theorem dM_wrong_144 : decode cM_wrong 144 = .ok (.bipush 9, 2) := by decide +kernel
theorem dM_wrong_146 : decode cM_wrong 146 = .ok (.ireturn, 1) := by decide +kernel
theorem dM_wrong_147 : decode cM_wrong 147 = .ok (.iload_n 2, 1) := by decide +kernel
theorem dM_wrong_148 : decode cM_wrong 148 = .ok (.iconst 2, 1) := by decide +kernel
theorem dM_wrong_149 : decode cM_wrong 149 = .ok (.if_icmp .ne 23, 3) := by decide +kernel
theorem dM_wrong_152 : decode cM_wrong 152 = .ok (.aload_n 0, 1) := by decide +kernel
theorem dM_wrong_153 : decode cM_wrong 153 = .ok (.iconst 1, 1) := by decide +kernel
theorem dM_wrong_154 : decode cM_wrong 154 = .ok (.invokevirtual 31, 3) := by decide +kernel
theorem dM_wrong_157 : decode cM_wrong 157 = .ok (.ifCond .eq 9, 3) := by decide +kernel
theorem dM_wrong_160 : decode cM_wrong 160 = .ok (.ldc2_w 36, 3) := by decide +kernel
theorem dM_wrong_163 : decode cM_wrong 163 = .ok (.goto 24, 3) := by decide +kernel
theorem dM_wrong_166 : decode cM_wrong 166 = .ok (.ldc2_w 38, 3) := by decide +kernel
theorem dM_wrong_169 : decode cM_wrong 169 = .ok (.goto 18, 3) := by decide +kernel
theorem dM_wrong_172 : decode cM_wrong 172 = .ok (.aload_n 0, 1) := by decide +kernel
theorem dM_wrong_173 : decode cM_wrong 173 = .ok (.iconst 1, 1) := by decide +kernel
theorem dM_wrong_174 : decode cM_wrong 174 = .ok (.invokevirtual 31, 3) := by decide +kernel
theorem dM_wrong_177 : decode cM_wrong 177 = .ok (.ifCond .eq 9, 3) := by decide +kernel
theorem dM_wrong_180 : decode cM_wrong 180 = .ok (.ldc2_w 40, 3) := by decide +kernel
theorem dM_wrong_183 : decode cM_wrong 183 = .ok (.goto 4, 3) := by decide +kernel
theorem dM_wrong_186 : decode cM_wrong 186 = .ok (.lconst 1, 1) := by decide +kernel
theorem dM_wrong_187 : decode cM_wrong 187 = .ok (.lstore 14, 2) := by decide +kernel
theorem dM_wrong_189 : decode cM_wrong 189 = .ok (.lload 12, 2) := by decide +kernel
theorem dM_wrong_191 : decode cM_wrong 191 = .ok (.lload 14, 2) := by decide +kernel
theorem dM_wrong_193 : decode cM_wrong 193 = .ok (.ldiv, 1) := by decide +kernel
theorem dM_wrong_194 : decode cM_wrong 194 = .ok (.ldc2_w 38, 3) := by decide +kernel
theorem dM_wrong_197 : decode cM_wrong 197 = .ok (.lrem, 1) := by decide +kernel
theorem dM_wrong_198 : decode cM_wrong 198 = .ok (.lconst 0, 1) := by decide +kernel
theorem dM_wrong_199 : decode cM_wrong 199 = .ok (.lcmp, 1) := by decide +kernel
theorem dM_wrong_200 : decode cM_wrong 200 = .ok (.ifCond .ne 13, 3) := by decide +kernel
theorem dM_wrong_203 : decode cM_wrong 203 = .ok (.iload_n 2, 1) := by decide +kernel
theorem dM_wrong_204 : decode cM_wrong 204 = .ok (.ifCond .ne 7, 3) := by decide +kernel
theorem dM_wrong_207 : decode cM_wrong 207 = .ok (.iconst 4, 1) := by decide +kernel
theorem dM_wrong_208 : decode cM_wrong 208 = .ok (.goto 4, 3) := by decide +kernel
theorem dM_wrong_211 : decode cM_wrong 211 = .ok (.iconst 3, 1) := by decide +kernel
theorem dM_wrong_212 : decode cM_wrong 212 = .ok (.ireturn, 1) := by decide +kernel
theorem dM_wrong_213 : decode cM_wrong 213 = .ok (.lload 12, 2) := by decide +kernel
theorem dM_wrong_215 : decode cM_wrong 215 = .ok (.ldc2_w 34, 3) := by decide +kernel
theorem dM_wrong_218 : decode cM_wrong 218 = .ok (.ldiv, 1) := by decide +kernel
theorem dM_wrong_219 : decode cM_wrong 219 = .ok (.ldc2_w 34, 3) := by decide +kernel
theorem dM_wrong_222 : decode cM_wrong 222 = .ok (.lmul, 1) := by decide +kernel
theorem dM_wrong_223 : decode cM_wrong 223 = .ok (.lload 5, 2) := by decide +kernel
theorem dM_wrong_225 : decode cM_wrong 225 = .ok (.ldc2_w 34, 3) := by decide +kernel
theorem dM_wrong_228 : decode cM_wrong 228 = .ok (.lrem, 1) := by decide +kernel
theorem dM_wrong_229 : decode cM_wrong 229 = .ok (.ladd, 1) := by decide +kernel
theorem dM_wrong_230 : decode cM_wrong 230 = .ok (.lstore 5, 2) := by decide +kernel
theorem dM_wrong_232 : decode cM_wrong 232 = .ok (.iload_n 2, 1) := by decide +kernel
theorem dM_wrong_233 : decode cM_wrong 233 = .ok (.ifCond .ne 20, 3) := by decide +kernel
theorem dM_wrong_236 : decode cM_wrong 236 = .ok (.lload 5, 2) := by decide +kernel
theorem dM_wrong_238 : decode cM_wrong 238 = .ok (.ldc2_w 42, 3) := by decide +kernel
theorem dM_wrong_241 : decode cM_wrong 241 = .ok (.lcmp, 1) := by decide +kernel
theorem dM_wrong_242 : decode cM_wrong 242 = .ok (.ifCond .lt 7, 3) := by decide +kernel
theorem dM_wrong_245 : decode cM_wrong 245 = .ok (.iconst 1, 1) := by decide +kernel
theorem dM_wrong_246 : decode cM_wrong 246 = .ok (.goto 35, 3) := by decide +kernel
theorem dM_wrong_249 : decode cM_wrong 249 = .ok (.iconst 0, 1) := by decide +kernel
theorem dM_wrong_250 : decode cM_wrong 250 = .ok (.goto 31, 3) := by decide +kernel
theorem dM_wrong_253 : decode cM_wrong 253 = .ok (.lload 5, 2) := by decide +kernel
theorem dM_wrong_255 : decode cM_wrong 255 = .ok (.ldc2_w 44, 3) := by decide +kernel
theorem dM_wrong_258 : decode cM_wrong 258 = .ok (.lcmp, 1) := by decide +kernel
theorem dM_wrong_259 : decode cM_wrong 259 = .ok (.ifCond .ge 17, 3) := by decide +kernel
theorem dM_wrong_262 : decode cM_wrong 262 = .ok (.iload_n 2, 1) := by decide +kernel
theorem dM_wrong_263 : decode cM_wrong 263 = .ok (.iconst 2, 1) := by decide +kernel
theorem dM_wrong_264 : decode cM_wrong 264 = .ok (.if_icmp .ne 16, 3) := by decide +kernel
theorem dM_wrong_267 : decode cM_wrong 267 = .ok (.lload 5, 2) := by decide +kernel
theorem dM_wrong_269 : decode cM_wrong 269 = .ok (.ldc2_w 42, 3) := by decide +kernel
theorem dM_wrong_272 : decode cM_wrong 272 = .ok (.lcmp, 1) := by decide +kernel
theorem dM_wrong_273 : decode cM_wrong 273 = .ok (.ifCond .ge 7, 3) := by decide +kernel
theorem dM_wrong_276 : decode cM_wrong 276 = .ok (.iconst 1, 1) := by decide +kernel
theorem dM_wrong_277 : decode cM_wrong 277 = .ok (.goto 4, 3) := by decide +kernel
theorem dM_wrong_280 : decode cM_wrong 280 = .ok (.iconst 0, 1) := by decide +kernel
theorem dM_wrong_281 : decode cM_wrong 281 = .ok (.istore 7, 2) := by decide +kernel
theorem dM_wrong_283 : decode cM_wrong 283 = .ok (.aload_n 0, 1) := by decide +kernel
theorem dM_wrong_284 : decode cM_wrong 284 = .ok (.iload 7, 2) := by decide +kernel
theorem dM_wrong_286 : decode cM_wrong 286 = .ok (.ifCond .eq 7, 3) := by decide +kernel
theorem dM_wrong_289 : decode cM_wrong 289 = .ok (.iconst 0, 1) := by decide +kernel
theorem dM_wrong_290 : decode cM_wrong 290 = .ok (.goto 6, 3) := by decide +kernel
theorem dM_wrong_293 : decode cM_wrong 293 = .ok (.lload 5, 2) := by decide +kernel
theorem dM_wrong_295 : decode cM_wrong 295 = .ok (.l2i, 1) := by decide +kernel
theorem dM_wrong_296 : decode cM_wrong 296 = .ok (.putfield 46, 3) := by decide +kernel
theorem dM_wrong_299 : decode cM_wrong 299 = .ok (.iload 7, 2) := by decide +kernel
theorem dM_wrong_301 : decode cM_wrong 301 = .ok (.ifCond .eq 7, 3) := by decide +kernel
theorem dM_wrong_304 : decode cM_wrong 304 = .ok (.iconst 2, 1) := by decide +kernel
theorem dM_wrong_305 : decode cM_wrong 305 = .ok (.goto 4, 3) := by decide +kernel
theorem dM_wrong_308 : decode cM_wrong 308 = .ok (.iconst 0, 1) := by decide +kernel
theorem dM_wrong_309 : decode cM_wrong 309 = .ok (.ireturn, 1) := by decide +kernel
set_option maxRecDepth 20000 in
theorem gM_probe_M_wrong : GoodIn wsM_probe (wsV RX2 49 RX2 yM_wrong wsM_wrong) := goodIn_app (goodIn_of _ (by decide +kernel)) (goodIn_r _ [8, 9, 10, 11, 12, 13, 14, 15, 16, 17, 18, 19, 20, 7, 21, 22, 23, 24, 25, 26, 27, 28, 29, 30, 31] (by decide +kernel) (by decide +kernel))
theorem dM_probe_0 : decode cM_probe 0 = .ok (.aload_n 0, 1) := by decide +kernel
theorem dM_probe_1 : decode cM_probe 1 = .ok (.iload_n 1, 1) := by decide +kernel
theorem dM_probe_2 : decode cM_probe 2 = .ok (.iload_n 2, 1) := by decide +kernel
theorem dM_probe_3 : decode cM_probe 3 = .ok (.iload_n 3, 1) := by decide +kernel
theorem dM_probe_4 : decode cM_probe 4 = .ok (.invokevirtual 49, 3) := by decide +kernel
theorem dM_probe_7 : decode cM_probe 7 = .ok (.istore 4, 2) := by decide +kernel
theorem dM_probe_9 : decode cM_probe 9 = .ok (.iload 4, 2) := by decide +kernel
theorem dM_probe_11 : decode cM_probe 11 = .ok (.ifCond .le 24, 3) := by decide +kernel
theorem dM_probe_14 : decode cM_probe 14 = .ok (.aload_n 0, 1) := by decide +kernel
theorem dM_probe_15 : decode cM_probe 15 = .ok (.dup, 1) := by decide +kernel
theorem dM_probe_16 : decode cM_probe 16 = .ok (.getfield 53, 3) := by decide +kernel
theorem dM_probe_19 : decode cM_probe 19 = .ok (.iconst 1, 1) := by decide +kernel
theorem dM_probe_20 : decode cM_probe 20 = .ok (.iadd, 1) := by decide +kernel
theorem dM_probe_21 : decode cM_probe 21 = .ok (.putfield 53, 3) := by decide +kernel
theorem dM_probe_24 : decode cM_probe 24 = .ok (.aload_n 0, 1) := by decide +kernel
theorem dM_probe_25 : decode cM_probe 25 = .ok (.iload 4, 2) := by decide +kernel
theorem dM_probe_27 : decode cM_probe 27 = .ok (.putfield 56, 3) := by decide +kernel
theorem dM_probe_30 : decode cM_probe 30 = .ok (.aload_n 0, 1) := by decide +kernel
theorem dM_probe_31 : decode cM_probe 31 = .ok (.iload_n 1, 1) := by decide +kernel
theorem dM_probe_32 : decode cM_probe 32 = .ok (.putfield 59, 3) := by decide +kernel
theorem dM_probe_35 : decode cM_probe 35 = .ok (.iload 4, 2) := by decide +kernel
theorem dM_probe_37 : decode cM_probe 37 = .ok (.ifCond .ne 7, 3) := by decide +kernel
theorem dM_probe_40 : decode cM_probe 40 = .ok (.iconst 1, 1) := by decide +kernel
theorem dM_probe_41 : decode cM_probe 41 = .ok (.goto 4, 3) := by decide +kernel
theorem dM_probe_44 : decode cM_probe 44 = .ok (.iconst 0, 1) := by decide +kernel
theorem dM_probe_45 : decode cM_probe 45 = .ok (.ireturn, 1) := by decide +kernel
set_option maxRecDepth 20000 in
theorem gM_code_M_probe : GoodIn wsM_code (wsV RX2 62 RX2 yM_probe wsM_probe) := goodIn_app (goodIn_of _ (by decide +kernel)) (goodIn_r _ [8, 9, 10, 11, 12, 13, 14, 7, 15, 16, 17, 18, 19, 20, 21, 22, 23, 3, 24, 25, 26, 27, 33, 34, 35, 36, 37, 38, 39, 40, 41, 42] (by decide +kernel) (by decide +kernel))
set_option maxRecDepth 20000 in
theorem gM_code_M_wordIn : GoodIn wsM_code (wsV RX2 69 RX2 yM_wordIn wsM_wordIn) := goodIn_app (goodIn_of _ (by decide +kernel)) (goodIn_r _ [31, 32, 33, 34, 35, 36, 37, 38, 39, 40, 41, 42] (by decide +kernel) (by decide +kernel))
theorem dM_code_0 : decode cM_code 0 = .ok (.aload_n 0, 1) := by decide +kernel
theorem dM_code_1 : decode cM_code 1 = .ok (.iconst 0, 1) := by decide +kernel
theorem dM_code_2 : decode cM_code 2 = .ok (.putfield 17, 3) := by decide +kernel
theorem dM_code_5 : decode cM_code 5 = .ok (.aload_n 0, 1) := by decide +kernel
theorem dM_code_6 : decode cM_code 6 = .ok (.iload_n 1, 1) := by decide +kernel
theorem dM_code_7 : decode cM_code 7 = .ok (.iconst 0, 1) := by decide +kernel
theorem dM_code_8 : decode cM_code 8 = .ok (.iconst 1, 1) := by decide +kernel
theorem dM_code_9 : decode cM_code 9 = .ok (.invokevirtual 62, 3) := by decide +kernel
theorem dM_code_12 : decode cM_code 12 = .ok (.ifCond .ne 5, 3) := by decide +kernel
theorem dM_code_15 : decode cM_code 15 = .ok (.iconst 0, 1) := by decide +kernel
theorem dM_code_16 : decode cM_code 16 = .ok (.ireturn, 1) := by decide +kernel
theorem dM_code_17 : decode cM_code 17 = .ok (.aload_n 0, 1) := by decide +kernel
theorem dM_code_18 : decode cM_code 18 = .ok (.dup, 1) := by decide +kernel
theorem dM_code_19 : decode cM_code 19 = .ok (.getfield 66, 3) := by decide +kernel
theorem dM_code_22 : decode cM_code 22 = .ok (.iconst 1, 1) := by decide +kernel
theorem dM_code_23 : decode cM_code 23 = .ok (.iadd, 1) := by decide +kernel
theorem dM_code_24 : decode cM_code 24 = .ok (.putfield 66, 3) := by decide +kernel
theorem dM_code_27 : decode cM_code 27 = .ok (.aload_n 0, 1) := by decide +kernel
theorem dM_code_28 : decode cM_code 28 = .ok (.aload_n 0, 1) := by decide +kernel
theorem dM_code_29 : decode cM_code 29 = .ok (.getfield 46, 3) := by decide +kernel
theorem dM_code_32 : decode cM_code 32 = .ok (.invokevirtual 69, 3) := by decide +kernel
theorem dM_code_35 : decode cM_code 35 = .ok (.ireturn, 1) := by decide +kernel
set_option maxRecDepth 20000 in
theorem gM_load_M_probe : GoodIn wsM_load (wsV RX2 62 RX2 yM_probe wsM_probe) := goodIn_app (goodIn_of _ (by decide +kernel)) (goodIn_r _ [9, 10, 11, 12, 13, 14, 15, 8, 16, 17, 18, 19, 20, 21, 22, 23, 24, 3, 25, 26, 27, 28, 33, 34, 35, 36, 37, 38, 39, 40, 41, 42] (by decide +kernel) (by decide +kernel))
set_option maxRecDepth 20000 in
theorem gM_load_M_wordIn : GoodIn wsM_load (wsV RX2 69 RX2 yM_wordIn wsM_wordIn) := goodIn_app (goodIn_of _ (by decide +kernel)) (goodIn_r _ [32, 4, 33, 34, 35, 36, 37, 38, 39, 40, 41, 42] (by decide +kernel) (by decide +kernel))
theorem dM_load_0 : decode cM_load 0 = .ok (.aload_n 0, 1) := by decide +kernel
theorem dM_load_1 : decode cM_load 1 = .ok (.iconst 0, 1) := by decide +kernel
theorem dM_load_2 : decode cM_load 2 = .ok (.putfield 17, 3) := by decide +kernel
theorem dM_load_5 : decode cM_load 5 = .ok (.aload_n 0, 1) := by decide +kernel
theorem dM_load_6 : decode cM_load 6 = .ok (.iload_n 1, 1) := by decide +kernel
theorem dM_load_7 : decode cM_load 7 = .ok (.iconst 1, 1) := by decide +kernel
theorem dM_load_8 : decode cM_load 8 = .ok (.iload_n 2, 1) := by decide +kernel
theorem dM_load_9 : decode cM_load 9 = .ok (.invokevirtual 62, 3) := by decide +kernel
theorem dM_load_12 : decode cM_load 12 = .ok (.ifCond .ne 5, 3) := by decide +kernel
theorem dM_load_15 : decode cM_load 15 = .ok (.iconst 0, 1) := by decide +kernel
theorem dM_load_16 : decode cM_load 16 = .ok (.ireturn, 1) := by decide +kernel
theorem dM_load_17 : decode cM_load 17 = .ok (.aload_n 0, 1) := by decide +kernel
theorem dM_load_18 : decode cM_load 18 = .ok (.dup, 1) := by decide +kernel
theorem dM_load_19 : decode cM_load 19 = .ok (.getfield 73, 3) := by decide +kernel
theorem dM_load_22 : decode cM_load 22 = .ok (.iconst 1, 1) := by decide +kernel
theorem dM_load_23 : decode cM_load 23 = .ok (.iadd, 1) := by decide +kernel
theorem dM_load_24 : decode cM_load 24 = .ok (.putfield 73, 3) := by decide +kernel
theorem dM_load_27 : decode cM_load 27 = .ok (.iload_n 2, 1) := by decide +kernel
theorem dM_load_28 : decode cM_load 28 = .ok (.ifCond .eq 14, 3) := by decide +kernel
theorem dM_load_31 : decode cM_load 31 = .ok (.aload_n 0, 1) := by decide +kernel
theorem dM_load_32 : decode cM_load 32 = .ok (.aload_n 0, 1) := by decide +kernel
theorem dM_load_33 : decode cM_load 33 = .ok (.getfield 46, 3) := by decide +kernel
theorem dM_load_36 : decode cM_load 36 = .ok (.invokevirtual 69, 3) := by decide +kernel
theorem dM_load_39 : decode cM_load 39 = .ok (.goto 12, 3) := by decide +kernel
theorem dM_load_42 : decode cM_load 42 = .ok (.aload_n 0, 1) := by decide +kernel
theorem dM_load_43 : decode cM_load 43 = .ok (.getfield 8, 3) := by decide +kernel
theorem dM_load_46 : decode cM_load 46 = .ok (.aload_n 0, 1) := by decide +kernel
theorem dM_load_47 : decode cM_load 47 = .ok (.getfield 46, 3) := by decide +kernel
theorem dM_load_50 : decode cM_load 50 = .ok (.iaload, 1) := by decide +kernel
theorem dM_load_51 : decode cM_load 51 = .ok (.ireturn, 1) := by decide +kernel
set_option maxRecDepth 20000 in
theorem gM_store_M_probe : GoodIn wsM_store (wsV RX2 62 RX2 yM_probe wsM_probe) := goodIn_app (goodIn_of _ (by decide +kernel)) (goodIn_r _ [9, 10, 11, 12, 13, 14, 15, 8, 16, 17, 18, 19, 20, 21, 22, 23, 24, 3, 25, 26, 27, 28, 33, 34, 35, 36, 37, 38, 39, 40, 41, 42] (by decide +kernel) (by decide +kernel))
set_option maxRecDepth 20000 in
theorem gM_store_M_lay : GoodIn wsM_store (wsV RX2 25 RX2 yM_lay wsM_lay) := goodIn_app (goodIn_of _ (by decide +kernel)) (goodIn_r _ [32, 4, 33, 34, 35, 36, 37, 38, 39, 40, 41, 42] (by decide +kernel) (by decide +kernel))
theorem dM_store_0 : decode cM_store 0 = .ok (.aload_n 0, 1) := by decide +kernel
theorem dM_store_1 : decode cM_store 1 = .ok (.iconst 0, 1) := by decide +kernel
theorem dM_store_2 : decode cM_store 2 = .ok (.putfield 17, 3) := by decide +kernel
theorem dM_store_5 : decode cM_store 5 = .ok (.aload_n 0, 1) := by decide +kernel
theorem dM_store_6 : decode cM_store 6 = .ok (.iload_n 1, 1) := by decide +kernel
theorem dM_store_7 : decode cM_store 7 = .ok (.iconst 2, 1) := by decide +kernel
theorem dM_store_8 : decode cM_store 8 = .ok (.iload_n 3, 1) := by decide +kernel
theorem dM_store_9 : decode cM_store 9 = .ok (.invokevirtual 62, 3) := by decide +kernel
theorem dM_store_12 : decode cM_store 12 = .ok (.ifCond .ne 5, 3) := by decide +kernel
theorem dM_store_15 : decode cM_store 15 = .ok (.iconst (-1), 1) := by decide +kernel
theorem dM_store_16 : decode cM_store 16 = .ok (.ireturn, 1) := by decide +kernel
theorem dM_store_17 : decode cM_store 17 = .ok (.aload_n 0, 1) := by decide +kernel
theorem dM_store_18 : decode cM_store 18 = .ok (.dup, 1) := by decide +kernel
theorem dM_store_19 : decode cM_store 19 = .ok (.getfield 76, 3) := by decide +kernel
theorem dM_store_22 : decode cM_store 22 = .ok (.iconst 1, 1) := by decide +kernel
theorem dM_store_23 : decode cM_store 23 = .ok (.iadd, 1) := by decide +kernel
theorem dM_store_24 : decode cM_store 24 = .ok (.putfield 76, 3) := by decide +kernel
theorem dM_store_27 : decode cM_store 27 = .ok (.iload_n 3, 1) := by decide +kernel
theorem dM_store_28 : decode cM_store 28 = .ok (.ifCond .eq 15, 3) := by decide +kernel
theorem dM_store_31 : decode cM_store 31 = .ok (.aload_n 0, 1) := by decide +kernel
theorem dM_store_32 : decode cM_store 32 = .ok (.aload_n 0, 1) := by decide +kernel
theorem dM_store_33 : decode cM_store 33 = .ok (.getfield 46, 3) := by decide +kernel
theorem dM_store_36 : decode cM_store 36 = .ok (.iload_n 2, 1) := by decide +kernel
theorem dM_store_37 : decode cM_store 37 = .ok (.invokevirtual 25, 3) := by decide +kernel
theorem dM_store_40 : decode cM_store 40 = .ok (.goto 17, 3) := by decide +kernel
theorem dM_store_43 : decode cM_store 43 = .ok (.aload_n 0, 1) := by decide +kernel
theorem dM_store_44 : decode cM_store 44 = .ok (.getfield 8, 3) := by decide +kernel
theorem dM_store_47 : decode cM_store 47 = .ok (.aload_n 0, 1) := by decide +kernel
theorem dM_store_48 : decode cM_store 48 = .ok (.getfield 46, 3) := by decide +kernel
theorem dM_store_51 : decode cM_store 51 = .ok (.iload_n 2, 1) := by decide +kernel
theorem dM_store_52 : decode cM_store 52 = .ok (.sipush 255, 3) := by decide +kernel
theorem dM_store_55 : decode cM_store 55 = .ok (.iand, 1) := by decide +kernel
theorem dM_store_56 : decode cM_store 56 = .ok (.iastore, 1) := by decide +kernel
theorem dM_store_57 : decode cM_store 57 = .ok (.aload_n 0, 1) := by decide +kernel
theorem dM_store_58 : decode cM_store 58 = .ok (.getfield 46, 3) := by decide +kernel
theorem dM_store_61 : decode cM_store 61 = .ok (.ireturn, 1) := by decide +kernel
set_option maxRecDepth 20000 in
theorem gM_find_M_wrong : GoodIn wsM_find (wsV RX2 49 RX2 yM_wrong wsM_wrong) := goodIn_app (goodIn_of _ (by decide +kernel)) (goodIn_r _ [7, 8, 9, 10, 11, 12, 13, 14, 15, 2, 16, 17, 18, 6, 19, 20, 21, 22, 23, 24, 25, 26, 27, 28, 29] (by decide +kernel) (by decide +kernel))
theorem dM_find_0 : decode cM_find 0 = .ok (.aload_n 0, 1) := by decide +kernel
theorem dM_find_1 : decode cM_find 1 = .ok (.iconst 0, 1) := by decide +kernel
theorem dM_find_2 : decode cM_find 2 = .ok (.putfield 17, 3) := by decide +kernel
theorem dM_find_5 : decode cM_find 5 = .ok (.iload_n 2, 1) := by decide +kernel
theorem dM_find_6 : decode cM_find 6 = .ok (.ifCond .lt 8, 3) := by decide +kernel
theorem dM_find_9 : decode cM_find 9 = .ok (.iload_n 2, 1) := by decide +kernel
theorem dM_find_10 : decode cM_find 10 = .ok (.iconst 2, 1) := by decide +kernel
theorem dM_find_11 : decode cM_find 11 = .ok (.if_icmp .le 5, 3) := by decide +kernel
theorem dM_find_14 : decode cM_find 14 = .ok (.iconst 0, 1) := by decide +kernel
theorem dM_find_15 : decode cM_find 15 = .ok (.ireturn, 1) := by decide +kernel
theorem dM_find_16 : decode cM_find 16 = .ok (.aload_n 0, 1) := by decide +kernel
theorem dM_find_17 : decode cM_find 17 = .ok (.iload_n 1, 1) := by decide +kernel
theorem dM_find_18 : decode cM_find 18 = .ok (.iload_n 2, 1) := by decide +kernel
theorem dM_find_19 : decode cM_find 19 = .ok (.iload_n 3, 1) := by decide +kernel
theorem dM_find_20 : decode cM_find 20 = .ok (.invokevirtual 49, 3) := by decide +kernel
theorem dM_find_23 : decode cM_find 23 = .ok (.istore 4, 2) := by decide +kernel
theorem dM_find_25 : decode cM_find 25 = .ok (.iload 4, 2) := by decide +kernel
theorem dM_find_27 : decode cM_find 27 = .ok (.ifCond .le 9, 3) := by decide +kernel
theorem dM_find_30 : decode cM_find 30 = .ok (.iload 4, 2) := by decide +kernel
theorem dM_find_32 : decode cM_find 32 = .ok (.ineg, 1) := by decide +kernel
theorem dM_find_33 : decode cM_find 33 = .ok (.goto 7, 3) := by decide +kernel
theorem dM_find_36 : decode cM_find 36 = .ok (.aload_n 0, 1) := by decide +kernel
theorem dM_find_37 : decode cM_find 37 = .ok (.getfield 46, 3) := by decide +kernel
theorem dM_find_40 : decode cM_find 40 = .ok (.ireturn, 1) := by decide +kernel
theorem dM_map_0 : decode cM_map 0 = .ok (.aload_n 0, 1) := by decide +kernel
theorem dM_map_1 : decode cM_map 1 = .ok (.iconst 0, 1) := by decide +kernel
theorem dM_map_2 : decode cM_map 2 = .ok (.putfield 17, 3) := by decide +kernel
theorem dM_map_5 : decode cM_map 5 = .ok (.iload_n 2, 1) := by decide +kernel
theorem dM_map_6 : decode cM_map 6 = .ok (.ifCond .lt 19, 3) := by decide +kernel
theorem dM_map_9 : decode cM_map 9 = .ok (.iload_n 2, 1) := by decide +kernel
theorem dM_map_10 : decode cM_map 10 = .ok (.bipush 63, 2) := by decide +kernel
theorem dM_map_12 : decode cM_map 12 = .ok (.if_icmp .gt 13, 3) := by decide +kernel
theorem dM_map_15 : decode cM_map 15 = .ok (.iload_n 3, 1) := by decide +kernel
theorem dM_map_16 : decode cM_map 16 = .ok (.ifCond .lt 9, 3) := by decide +kernel
theorem dM_map_19 : decode cM_map 19 = .ok (.iload_n 3, 1) := by decide +kernel
theorem dM_map_20 : decode cM_map 20 = .ok (.bipush 15, 2) := by decide +kernel
theorem dM_map_22 : decode cM_map 22 = .ok (.if_icmp .le 5, 3) := by decide +kernel
theorem dM_map_25 : decode cM_map 25 = .ok (.iconst (-1), 1) := by decide +kernel
theorem dM_map_26 : decode cM_map 26 = .ok (.ireturn, 1) := by decide +kernel
theorem dM_map_27 : decode cM_map 27 = .ok (.iload_n 1, 1) := by decide +kernel
theorem dM_map_28 : decode cM_map 28 = .ok (.bipush 10, 2) := by decide +kernel
theorem dM_map_30 : decode cM_map 30 = .ok (.iushr, 1) := by decide +kernel
theorem dM_map_31 : decode cM_map 31 = .ok (.bipush 8, 2) := by decide +kernel
theorem dM_map_33 : decode cM_map 33 = .ok (.irem, 1) := by decide +kernel
theorem dM_map_34 : decode cM_map 34 = .ok (.istore 5, 2) := by decide +kernel
theorem dM_map_36 : decode cM_map 36 = .ok (.iload 4, 2) := by decide +kernel
theorem dM_map_38 : decode cM_map 38 = .ok (.ifCond .eq 8, 3) := by decide +kernel
theorem dM_map_41 : decode cM_map 41 = .ok (.bipush 16, 2) := by decide +kernel
theorem dM_map_43 : decode cM_map 43 = .ok (.goto 4, 3) := by decide +kernel
theorem dM_map_46 : decode cM_map 46 = .ok (.iconst 0, 1) := by decide +kernel
theorem dM_map_47 : decode cM_map 47 = .ok (.istore 6, 2) := by decide +kernel
theorem dM_map_49 : decode cM_map 49 = .ok (.aload_n 0, 1) := by decide +kernel
theorem dM_map_50 : decode cM_map 50 = .ok (.getfield 14, 3) := by decide +kernel
theorem dM_map_53 : decode cM_map 53 = .ok (.iload 6, 2) := by decide +kernel
theorem dM_map_55 : decode cM_map 55 = .ok (.iload 5, 2) := by decide +kernel
theorem dM_map_57 : decode cM_map 57 = .ok (.iadd, 1) := by decide +kernel
theorem dM_map_58 : decode cM_map 58 = .ok (.iload_n 1, 1) := by decide +kernel
theorem dM_map_59 : decode cM_map 59 = .ok (.bipush 10, 2) := by decide +kernel
theorem dM_map_61 : decode cM_map 61 = .ok (.ishr, 1) := by decide +kernel
theorem dM_map_62 : decode cM_map 62 = .ok (.bipush 10, 2) := by decide +kernel
theorem dM_map_64 : decode cM_map 64 = .ok (.ishl, 1) := by decide +kernel
theorem dM_map_65 : decode cM_map 65 = .ok (.iconst 1, 1) := by decide +kernel
theorem dM_map_66 : decode cM_map 66 = .ok (.ior, 1) := by decide +kernel
theorem dM_map_67 : decode cM_map 67 = .ok (.iastore, 1) := by decide +kernel
theorem dM_map_68 : decode cM_map 68 = .ok (.aload_n 0, 1) := by decide +kernel
theorem dM_map_69 : decode cM_map 69 = .ok (.getfield 14, 3) := by decide +kernel
theorem dM_map_72 : decode cM_map 72 = .ok (.iload 6, 2) := by decide +kernel
theorem dM_map_74 : decode cM_map 74 = .ok (.bipush 8, 2) := by decide +kernel
theorem dM_map_76 : decode cM_map 76 = .ok (.iadd, 1) := by decide +kernel
theorem dM_map_77 : decode cM_map 77 = .ok (.iload 5, 2) := by decide +kernel
theorem dM_map_79 : decode cM_map 79 = .ok (.iadd, 1) := by decide +kernel
theorem dM_map_80 : decode cM_map 80 = .ok (.sipush 1024, 3) := by decide +kernel
theorem dM_map_83 : decode cM_map 83 = .ok (.iload_n 2, 1) := by decide +kernel
theorem dM_map_84 : decode cM_map 84 = .ok (.imul, 1) := by decide +kernel
theorem dM_map_85 : decode cM_map 85 = .ok (.iload_n 3, 1) := by decide +kernel
theorem dM_map_86 : decode cM_map 86 = .ok (.iadd, 1) := by decide +kernel
theorem dM_map_87 : decode cM_map 87 = .ok (.iastore, 1) := by decide +kernel
theorem dM_map_88 : decode cM_map 88 = .ok (.iload 5, 2) := by decide +kernel
theorem dM_map_90 : decode cM_map 90 = .ok (.ireturn, 1) := by decide +kernel
theorem dM_matched_0 : decode cM_matched 0 = .ok (.iconst 0, 1) := by decide +kernel
theorem dM_matched_1 : decode cM_matched 1 = .ok (.istore_n 2, 1) := by decide +kernel
theorem dM_matched_2 : decode cM_matched 2 = .ok (.iconst 0, 1) := by decide +kernel
theorem dM_matched_3 : decode cM_matched 3 = .ok (.istore_n 3, 1) := by decide +kernel
theorem dM_matched_4 : decode cM_matched 4 = .ok (.iload_n 3, 1) := by decide +kernel
theorem dM_matched_5 : decode cM_matched 5 = .ok (.bipush 8, 2) := by decide +kernel
theorem dM_matched_7 : decode cM_matched 7 = .ok (.if_icmp .ge 22, 3) := by decide +kernel
theorem dM_matched_10 : decode cM_matched 10 = .ok (.iload_n 2, 1) := by decide +kernel
theorem dM_matched_11 : decode cM_matched 11 = .ok (.aload_n 0, 1) := by decide +kernel
theorem dM_matched_12 : decode cM_matched 12 = .ok (.getfield 14, 3) := by decide +kernel
theorem dM_matched_15 : decode cM_matched 15 = .ok (.iload_n 1, 1) := by decide +kernel
theorem dM_matched_16 : decode cM_matched 16 = .ok (.iload_n 3, 1) := by decide +kernel
theorem dM_matched_17 : decode cM_matched 17 = .ok (.iadd, 1) := by decide +kernel
theorem dM_matched_18 : decode cM_matched 18 = .ok (.iaload, 1) := by decide +kernel
theorem dM_matched_19 : decode cM_matched 19 = .ok (.iconst 1, 1) := by decide +kernel
theorem dM_matched_20 : decode cM_matched 20 = .ok (.iand, 1) := by decide +kernel
theorem dM_matched_21 : decode cM_matched 21 = .ok (.iadd, 1) := by decide +kernel
theorem dM_matched_22 : decode cM_matched 22 = .ok (.istore_n 2, 1) := by decide +kernel
theorem dM_matched_23 : decode cM_matched 23 = .ok (.iinc 3 1, 3) := by decide +kernel
theorem dM_matched_26 : decode cM_matched 26 = .ok (.goto (-22), 3) := by decide +kernel
theorem dM_matched_29 : decode cM_matched 29 = .ok (.iload_n 2, 1) := by decide +kernel
theorem dM_matched_30 : decode cM_matched 30 = .ok (.ireturn, 1) := by decide +kernel
set_option maxRecDepth 20000 in
theorem gM_forget_M_matched : GoodIn wsM_forget (wsV RX2 79 RX2 yM_matched wsM_matched) := goodIn_app (goodIn_of _ (by decide +kernel)) (goodIn_r _ [7, 2, 8, 9, 10, 11, 12, 13, 14, 15, 16, 17] (by decide +kernel) (by decide +kernel))
theorem dM_forget_0 : decode cM_forget 0 = .ok (.aload_n 0, 1) := by decide +kernel
theorem dM_forget_1 : decode cM_forget 1 = .ok (.iconst 0, 1) := by decide +kernel
theorem dM_forget_2 : decode cM_forget 2 = .ok (.putfield 17, 3) := by decide +kernel
theorem dM_forget_5 : decode cM_forget 5 = .ok (.iload_n 1, 1) := by decide +kernel
theorem dM_forget_6 : decode cM_forget 6 = .ok (.ifCond .eq 8, 3) := by decide +kernel
theorem dM_forget_9 : decode cM_forget 9 = .ok (.bipush 16, 2) := by decide +kernel
theorem dM_forget_11 : decode cM_forget 11 = .ok (.goto 4, 3) := by decide +kernel
theorem dM_forget_14 : decode cM_forget 14 = .ok (.iconst 0, 1) := by decide +kernel
theorem dM_forget_15 : decode cM_forget 15 = .ok (.istore_n 2, 1) := by decide +kernel
theorem dM_forget_16 : decode cM_forget 16 = .ok (.aload_n 0, 1) := by decide +kernel
theorem dM_forget_17 : decode cM_forget 17 = .ok (.iload_n 2, 1) := by decide +kernel
theorem dM_forget_18 : decode cM_forget 18 = .ok (.invokevirtual 79, 3) := by decide +kernel
theorem dM_forget_21 : decode cM_forget 21 = .ok (.istore_n 3, 1) := by decide +kernel
theorem dM_forget_22 : decode cM_forget 22 = .ok (.iconst 0, 1) := by decide +kernel
theorem dM_forget_23 : decode cM_forget 23 = .ok (.istore 4, 2) := by decide +kernel
theorem dM_forget_25 : decode cM_forget 25 = .ok (.iload 4, 2) := by decide +kernel
theorem dM_forget_27 : decode cM_forget 27 = .ok (.bipush 8, 2) := by decide +kernel
theorem dM_forget_29 : decode cM_forget 29 = .ok (.if_icmp .ge 32, 3) := by decide +kernel
theorem dM_forget_32 : decode cM_forget 32 = .ok (.aload_n 0, 1) := by decide +kernel
theorem dM_forget_33 : decode cM_forget 33 = .ok (.getfield 14, 3) := by decide +kernel
theorem dM_forget_36 : decode cM_forget 36 = .ok (.iload_n 2, 1) := by decide +kernel
theorem dM_forget_37 : decode cM_forget 37 = .ok (.iload 4, 2) := by decide +kernel
theorem dM_forget_39 : decode cM_forget 39 = .ok (.iadd, 1) := by decide +kernel
theorem dM_forget_40 : decode cM_forget 40 = .ok (.dup2, 1) := by decide +kernel
theorem dM_forget_41 : decode cM_forget 41 = .ok (.iaload, 1) := by decide +kernel
theorem dM_forget_42 : decode cM_forget 42 = .ok (.aload_n 0, 1) := by decide +kernel
theorem dM_forget_43 : decode cM_forget 43 = .ok (.getfield 14, 3) := by decide +kernel
theorem dM_forget_46 : decode cM_forget 46 = .ok (.iload_n 2, 1) := by decide +kernel
theorem dM_forget_47 : decode cM_forget 47 = .ok (.iload 4, 2) := by decide +kernel
theorem dM_forget_49 : decode cM_forget 49 = .ok (.iadd, 1) := by decide +kernel
theorem dM_forget_50 : decode cM_forget 50 = .ok (.iaload, 1) := by decide +kernel
theorem dM_forget_51 : decode cM_forget 51 = .ok (.iconst 1, 1) := by decide +kernel
theorem dM_forget_52 : decode cM_forget 52 = .ok (.iand, 1) := by decide +kernel
theorem dM_forget_53 : decode cM_forget 53 = .ok (.isub, 1) := by decide +kernel
theorem dM_forget_54 : decode cM_forget 54 = .ok (.iastore, 1) := by decide +kernel
theorem dM_forget_55 : decode cM_forget 55 = .ok (.iinc 4 1, 3) := by decide +kernel
theorem dM_forget_58 : decode cM_forget 58 = .ok (.goto (-33), 3) := by decide +kernel
theorem dM_forget_61 : decode cM_forget 61 = .ok (.iload_n 3, 1) := by decide +kernel
theorem dM_forget_62 : decode cM_forget 62 = .ok (.ireturn, 1) := by decide +kernel
theorem dM_special_0 : decode cM_special 0 = .ok (.aload_n 0, 1) := by decide +kernel
theorem dM_special_1 : decode cM_special 1 = .ok (.iconst 0, 1) := by decide +kernel
theorem dM_special_2 : decode cM_special 2 = .ok (.putfield 17, 3) := by decide +kernel
theorem dM_special_5 : decode cM_special 5 = .ok (.iload_n 1, 1) := by decide +kernel
theorem dM_special_6 : decode cM_special 6 = .ok (.ifCond .lt 9, 3) := by decide +kernel
theorem dM_special_9 : decode cM_special 9 = .ok (.iload_n 1, 1) := by decide +kernel
theorem dM_special_10 : decode cM_special 10 = .ok (.bipush 32, 2) := by decide +kernel
theorem dM_special_12 : decode cM_special 12 = .ok (.if_icmp .le 7, 3) := by decide +kernel
theorem dM_special_15 : decode cM_special 15 = .ok (.iconst 0, 1) := by decide +kernel
theorem dM_special_16 : decode cM_special 16 = .ok (.goto 9, 3) := by decide +kernel
theorem dM_special_19 : decode cM_special 19 = .ok (.aload_n 0, 1) := by decide +kernel
theorem dM_special_20 : decode cM_special 20 = .ok (.getfield 14, 3) := by decide +kernel
theorem dM_special_23 : decode cM_special 23 = .ok (.iload_n 1, 1) := by decide +kernel
theorem dM_special_24 : decode cM_special 24 = .ok (.iaload, 1) := by decide +kernel
theorem dM_special_25 : decode cM_special 25 = .ok (.ireturn, 1) := by decide +kernel
set_option maxRecDepth 20000 in
theorem gM_word_M_isWordPlace : GoodIn wsM_word (va_wsS RX2 21 yM_isWordPlace wsM_isWordPlace) := goodIn_app (goodIn_of _ (by decide +kernel)) (goodIn_r _ [5, 6] (by decide +kernel) (by decide +kernel))
set_option maxRecDepth 20000 in
theorem gM_word_M_wordIn : GoodIn wsM_word (wsV RX2 69 RX2 yM_wordIn wsM_wordIn) := goodIn_app (goodIn_of _ (by decide +kernel)) (goodIn_r _ [10, 11, 12, 13, 14, 15, 16, 17, 18, 19, 20, 21] (by decide +kernel) (by decide +kernel))
theorem dM_word_0 : decode cM_word 0 = .ok (.aload_n 0, 1) := by decide +kernel
theorem dM_word_1 : decode cM_word 1 = .ok (.iconst 0, 1) := by decide +kernel
theorem dM_word_2 : decode cM_word 2 = .ok (.putfield 17, 3) := by decide +kernel
theorem dM_word_5 : decode cM_word 5 = .ok (.iload_n 1, 1) := by decide +kernel
theorem dM_word_6 : decode cM_word 6 = .ok (.invokestatic 21, 3) := by decide +kernel
theorem dM_word_9 : decode cM_word 9 = .ok (.ifCond .eq 11, 3) := by decide +kernel
theorem dM_word_12 : decode cM_word 12 = .ok (.aload_n 0, 1) := by decide +kernel
theorem dM_word_13 : decode cM_word 13 = .ok (.iload_n 1, 1) := by decide +kernel
theorem dM_word_14 : decode cM_word 14 = .ok (.invokevirtual 69, 3) := by decide +kernel
theorem dM_word_17 : decode cM_word 17 = .ok (.goto 4, 3) := by decide +kernel
theorem dM_word_20 : decode cM_word 20 = .ok (.iconst 0, 1) := by decide +kernel
theorem dM_word_21 : decode cM_word 21 = .ok (.ireturn, 1) := by decide +kernel
set_option maxRecDepth 20000 in
theorem gM_look_M_matched : GoodIn wsM_look (wsV RX2 79 RX2 yM_matched wsM_matched) := goodIn_app (goodIn_of _ (by decide +kernel)) (goodIn_r _ [12, 13, 14, 15, 16, 17, 18, 19, 20, 21, 22, 23] (by decide +kernel) (by decide +kernel))
theorem dM_look_0 : decode cM_look 0 = .ok (.aload_n 0, 1) := by decide +kernel
theorem dM_look_1 : decode cM_look 1 = .ok (.iconst 0, 1) := by decide +kernel
theorem dM_look_2 : decode cM_look 2 = .ok (.putfield 17, 3) := by decide +kernel
theorem dM_look_5 : decode cM_look 5 = .ok (.iload_n 1, 1) := by decide +kernel
theorem dM_look_6 : decode cM_look 6 = .ok (.tableswitch 89 0 7 #[46, 51, 56, 61, 66, 71, 76, 82], 46) := by decide +kernel
theorem dM_look_52 : decode cM_look 52 = .ok (.aload_n 0, 1) := by decide +kernel
theorem dM_look_53 : decode cM_look 53 = .ok (.getfield 53, 3) := by decide +kernel
theorem dM_look_56 : decode cM_look 56 = .ok (.ireturn, 1) := by decide +kernel
theorem dM_look_57 : decode cM_look 57 = .ok (.aload_n 0, 1) := by decide +kernel
theorem dM_look_58 : decode cM_look 58 = .ok (.getfield 56, 3) := by decide +kernel
theorem dM_look_61 : decode cM_look 61 = .ok (.ireturn, 1) := by decide +kernel
theorem dM_look_62 : decode cM_look 62 = .ok (.aload_n 0, 1) := by decide +kernel
theorem dM_look_63 : decode cM_look 63 = .ok (.getfield 59, 3) := by decide +kernel
theorem dM_look_66 : decode cM_look 66 = .ok (.ireturn, 1) := by decide +kernel
theorem dM_look_67 : decode cM_look 67 = .ok (.aload_n 0, 1) := by decide +kernel
theorem dM_look_68 : decode cM_look 68 = .ok (.getfield 66, 3) := by decide +kernel
theorem dM_look_71 : decode cM_look 71 = .ok (.ireturn, 1) := by decide +kernel
theorem dM_look_72 : decode cM_look 72 = .ok (.aload_n 0, 1) := by decide +kernel
theorem dM_look_73 : decode cM_look 73 = .ok (.getfield 73, 3) := by decide +kernel
theorem dM_look_76 : decode cM_look 76 = .ok (.ireturn, 1) := by decide +kernel
theorem dM_look_77 : decode cM_look 77 = .ok (.aload_n 0, 1) := by decide +kernel
theorem dM_look_78 : decode cM_look 78 = .ok (.getfield 76, 3) := by decide +kernel
theorem dM_look_81 : decode cM_look 81 = .ok (.ireturn, 1) := by decide +kernel
theorem dM_look_82 : decode cM_look 82 = .ok (.aload_n 0, 1) := by decide +kernel
theorem dM_look_83 : decode cM_look 83 = .ok (.iconst 0, 1) := by decide +kernel
theorem dM_look_84 : decode cM_look 84 = .ok (.invokevirtual 79, 3) := by decide +kernel
theorem dM_look_87 : decode cM_look 87 = .ok (.ireturn, 1) := by decide +kernel
theorem dM_look_88 : decode cM_look 88 = .ok (.aload_n 0, 1) := by decide +kernel
theorem dM_look_89 : decode cM_look 89 = .ok (.bipush 16, 2) := by decide +kernel
theorem dM_look_91 : decode cM_look 91 = .ok (.invokevirtual 79, 3) := by decide +kernel
theorem dM_look_94 : decode cM_look 94 = .ok (.ireturn, 1) := by decide +kernel
theorem dM_look_95 : decode cM_look 95 = .ok (.iconst (-1), 1) := by decide +kernel
theorem dM_look_96 : decode cM_look 96 = .ok (.ireturn, 1) := by decide +kernel
end
section
def s_X1_isAligned (a : Int32) : Int32 :=
  if a &&& 3 = 0 then
    1
  else
    0
set_option maxHeartbeats 4000000 in
set_option maxRecDepth 100000 in
theorem c_X1_isAligned (l : Launch) (a : Int32)  : Met l yX1_isAligned wsX1_isAligned ({ frames := 0, cells := 0, slots := 0, locals := 0 }) (va_Pc [.int a] (fun U => True)) (vp_Si (fun x_ => x_ = s_X1_isAligned a)) 0 0 (fun _ => False) := by
  refine Met.ofW (cc := cX1_isAligned) (maxL := 1) (ret := (some .boolean)) (by decide) rfl ?_
  intro p e s m args below meth c s₁ B hml hv
  obtain ⟨rfl, -⟩ := hv
  have hx := B.exec
  have hb := B.bytes
  have hr := B.returns
  have hts := atoms_spec (ws := wsX1_isAligned) B.pre
  have hown : s.vm.findClass RX1 = some m.cls := findClass_of_methodNamed B.named
  have hlocks := B.notSynchronized
  have hl := lv_entry ([.int a]) (n := 1) (Nat.le_of_ble_eq_true rfl)
  rw [lg_entry_eq]
  generalize (lg_sl ([.int a]) ++ List.replicate (1 - (lg_sl ([.int a])).length) Slot.unset).toArray = ls at hl ⊢
  have hl : lv_has ls 1 [(0, .int a)] := hl
  refine lv_iload_n hx hb dX1_isAligned_0 rfl (lv_at hl 0 rfl) ?_
  refine lv_iconst (v := 3) hx hb dX1_isAligned_1 (by decide) ?_
  refine lv_iand hx hb dX1_isAligned_2 ?_
  refine lv_if_ne (tgt := 10) hx hb dX1_isAligned_3 (by decide) (fun c_1 => ?_) (fun c_1 => ?_)
  · skip
    refine lv_iconst (v := 0) hx hb dX1_isAligned_10 (by decide) ?_
    exact W.zret (v := 0) hx hb hr rfl (fun t ht hW => ⟨0, rfl, by simp only [s_X1_isAligned, if_neg c_1], ht⟩) (fun q h => by cases h) dX1_isAligned_11
  · skip
    refine lv_iconst (v := 1) hx hb dX1_isAligned_6 (by decide) ?_
    refine lv_goto (tgt := 11) hx hb dX1_isAligned_7 (by decide) ?_
    exact W.zret (v := 1) hx hb hr rfl (fun t ht hW => ⟨1, rfl, by simp only [s_X1_isAligned, if_pos c_1], ht⟩) (fun q h => by cases h) dX1_isAligned_11
theorem z_X1_isAligned (a : Int32) : s_X1_isAligned a = 0 ∨ s_X1_isAligned a = 1 := by
  unfold s_X1_isAligned
  (repeat' split) <;> first | exact Or.inl rfl | exact Or.inr rfl | skip
def s_X1_isSpecial (k : Int32) : Int32 :=
  if k < 0 then
    0
  else
    if 33 ≤ k then
      0
    else
      1
set_option maxHeartbeats 4000000 in
set_option maxRecDepth 100000 in
theorem c_X1_isSpecial (l : Launch) (k : Int32)  : Met l yX1_isSpecial wsX1_isSpecial ({ frames := 0, cells := 0, slots := 0, locals := 0 }) (va_Pc [.int k] (fun U => True)) (vp_Si (fun x_ => x_ = s_X1_isSpecial k)) 0 0 (fun _ => False) := by
  refine Met.ofW (cc := cX1_isSpecial) (maxL := 1) (ret := (some .boolean)) (by decide) rfl ?_
  intro p e s m args below meth c s₁ B hml hv
  obtain ⟨rfl, -⟩ := hv
  have hx := B.exec
  have hb := B.bytes
  have hr := B.returns
  have hts := atoms_spec (ws := wsX1_isSpecial) B.pre
  have hown : s.vm.findClass RX1 = some m.cls := findClass_of_methodNamed B.named
  have hlocks := B.notSynchronized
  have hl := lv_entry ([.int k]) (n := 1) (Nat.le_of_ble_eq_true rfl)
  rw [lg_entry_eq]
  generalize (lg_sl ([.int k]) ++ List.replicate (1 - (lg_sl ([.int k])).length) Slot.unset).toArray = ls at hl ⊢
  have hl : lv_has ls 1 [(0, .int k)] := hl
  refine lv_iload_n hx hb dX1_isSpecial_0 rfl (lv_at hl 0 rfl) ?_
  refine lv_if_lt (tgt := 14) hx hb dX1_isSpecial_1 (by decide) (fun c_1 => ?_) (fun c_1 => ?_)
  · skip
    refine lv_iconst (v := 0) hx hb dX1_isSpecial_14 (by decide) ?_
    exact W.zret (v := 0) hx hb hr rfl (fun t ht hW => ⟨0, rfl, by simp only [s_X1_isSpecial, if_pos c_1], ht⟩) (fun q h => by cases h) dX1_isSpecial_15
  · skip
    refine lv_iload_n hx hb dX1_isSpecial_4 rfl (lv_at hl 0 rfl) ?_
    refine lv_bipush (v := 33) hx hb dX1_isSpecial_5 (by decide) ?_
    refine lv_icmp_ge (tgt := 14) hx hb dX1_isSpecial_7 (by decide) (fun c_2 => ?_) (fun c_2 => ?_)
    · skip
      refine lv_iconst (v := 0) hx hb dX1_isSpecial_14 (by decide) ?_
      exact W.zret (v := 0) hx hb hr rfl (fun t ht hW => ⟨0, rfl, by simp only [s_X1_isSpecial, if_neg c_1, if_pos c_2], ht⟩) (fun q h => by cases h) dX1_isSpecial_15
    · skip
      refine lv_iconst (v := 1) hx hb dX1_isSpecial_10 (by decide) ?_
      refine lv_goto (tgt := 15) hx hb dX1_isSpecial_11 (by decide) ?_
      exact W.zret (v := 1) hx hb hr rfl (fun t ht hW => ⟨1, rfl, by simp only [s_X1_isSpecial, if_neg c_1, if_neg c_2], ht⟩) (fun q h => by cases h) dX1_isSpecial_15
theorem z_X1_isSpecial (k : Int32) : s_X1_isSpecial k = 0 ∨ s_X1_isSpecial k = 1 := by
  unfold s_X1_isSpecial
  (repeat' split) <;> first | exact Or.inl rfl | exact Or.inr rfl | skip
set_option maxRecDepth 100000 in
theorem mbX1_isWordPlace_0 : (.constant RX1 95 (65536) : Cond) ∈ wsX1_isWordPlace := by decide +kernel
def s_X1_isWordPlace (pl : Int32) : Int32 :=
  if pl < 0 then
    0
  else
    if 65536 ≤ pl then
      0
    else
      if s_X1_isAligned pl = 0 then
        0
      else
        1
set_option maxHeartbeats 4000000 in
set_option maxRecDepth 100000 in
theorem c_X1_isWordPlace (l : Launch) (pl : Int32)  : Met l yX1_isWordPlace wsX1_isWordPlace ({ frames := 1, cells := 0, slots := 0, locals := 20 }) (va_Pc [.int pl] (fun U => True)) (vp_Si (fun x_ => x_ = s_X1_isWordPlace pl)) 0 0 (fun _ => False) := by
  refine Met.ofW (cc := cX1_isWordPlace) (maxL := 1) (ret := (some .boolean)) (by decide) rfl ?_
  intro p e s m args below meth c s₁ B hml hv
  obtain ⟨rfl, -⟩ := hv
  have hx := B.exec
  have hb := B.bytes
  have hr := B.returns
  have hts := atoms_spec (ws := wsX1_isWordPlace) B.pre
  have hown : s.vm.findClass RX1 = some m.cls := findClass_of_methodNamed B.named
  have hlocks := B.notSynchronized
  have hl := lv_entry ([.int pl]) (n := 1) (Nat.le_of_ble_eq_true rfl)
  rw [lg_entry_eq]
  generalize (lg_sl ([.int pl]) ++ List.replicate (1 - (lg_sl ([.int pl])).length) Slot.unset).toArray = ls at hl ⊢
  have hl : lv_has ls 1 [(0, .int pl)] := hl
  refine lv_iload_n hx hb dX1_isWordPlace_0 rfl (lv_at hl 0 rfl) ?_
  refine lv_if_lt (tgt := 21) hx hb dX1_isWordPlace_1 (by decide) (fun c_1 => ?_) (fun c_1 => ?_)
  · skip
    refine lv_iconst (v := 0) hx hb dX1_isWordPlace_21 (by decide) ?_
    exact W.zret (v := 0) hx hb hr rfl (fun t ht hW => ⟨0, rfl, by simp only [s_X1_isWordPlace, if_pos c_1], ht⟩) (fun q h => by cases h) dX1_isWordPlace_22
  · skip
    refine lv_iload_n hx hb dX1_isWordPlace_4 rfl (lv_at hl 0 rfl) ?_
    refine lv_ldc (v := 65536) hx hb hown (hts _ mbX1_isWordPlace_0) dX1_isWordPlace_5 ?_
    refine lv_icmp_ge (tgt := 21) hx hb dX1_isWordPlace_7 (by decide) (fun c_2 => ?_) (fun c_2 => ?_)
    · skip
      refine lv_iconst (v := 0) hx hb dX1_isWordPlace_21 (by decide) ?_
      exact W.zret (v := 0) hx hb hr rfl (fun t ht hW => ⟨0, rfl, by simp only [s_X1_isWordPlace, if_neg c_1, if_pos c_2], ht⟩) (fun q h => by cases h) dX1_isWordPlace_22
    · skip
      refine lv_iload_n hx hb dX1_isWordPlace_10 rfl (lv_at hl 0 rfl) ?_
      refine vp_callSi (va_Run.run (va_runS (As := [.int pl]) (rest := []) ⟨hx, hb, hml, hown, hts⟩ (c_X1_isAligned l pl) (va_cwS 1 hts gX1_isWordPlace_X1_isAligned rfl rfl rfl (by decide +kernel) ⟨Nat.le_of_ble_eq_true rfl, Nat.le_of_ble_eq_true rfl⟩) ⟨fun a U g mk q => q, fun U hU hW => ⟨rfl, trivial⟩⟩ rfl rfl hl.1 rfl (lv_room (Nat.le_of_ble_eq_true rfl)) dX1_isWordPlace_11 ⟨Nat.le_of_ble_eq_true rfl, Nat.le_of_ble_eq_true rfl⟩)) (fun r_3 hw_4 => ?_)
      subst hw_4
      refine lv_if_eq (tgt := 21) hx hb dX1_isWordPlace_14 (by decide) (fun c_5 => ?_) (fun c_5 => ?_)
      · skip
        refine lv_iconst (v := 0) hx hb dX1_isWordPlace_21 (by decide) ?_
        exact W.zret (v := 0) hx hb hr rfl (fun t ht hW => ⟨0, rfl, by simp only [s_X1_isWordPlace, if_neg c_1, if_neg c_2, if_pos c_5], ht⟩) (fun q h => by cases h) dX1_isWordPlace_22
      · skip
        refine lv_iconst (v := 1) hx hb dX1_isWordPlace_17 (by decide) ?_
        refine lv_goto (tgt := 22) hx hb dX1_isWordPlace_18 (by decide) ?_
        exact W.zret (v := 1) hx hb hr rfl (fun t ht hW => ⟨1, rfl, by simp only [s_X1_isWordPlace, if_neg c_1, if_neg c_2, if_neg c_5], ht⟩) (fun q h => by cases h) dX1_isWordPlace_22
theorem z_X1_isWordPlace (pl : Int32) : s_X1_isWordPlace pl = 0 ∨ s_X1_isWordPlace pl = 1 := by
  unfold s_X1_isWordPlace
  (repeat' split) <;> first | exact Or.inl rfl | exact Or.inr rfl | skip
def s_X1_isOdd (x : Int32) : Int32 :=
  if x &&& 1 = 0 then
    0
  else
    1
set_option maxHeartbeats 4000000 in
set_option maxRecDepth 100000 in
theorem c_X1_isOdd (l : Launch) (x : Int32)  : Met l yX1_isOdd wsX1_isOdd ({ frames := 0, cells := 0, slots := 0, locals := 0 }) (va_Pc [.int x] (fun U => True)) (vp_Si (fun x_ => x_ = s_X1_isOdd x)) 0 0 (fun _ => False) := by
  refine Met.ofW (cc := cX1_isOdd) (maxL := 1) (ret := (some .boolean)) (by decide) rfl ?_
  intro p e s m args below meth c s₁ B hml hv
  obtain ⟨rfl, -⟩ := hv
  have hx := B.exec
  have hb := B.bytes
  have hr := B.returns
  have hts := atoms_spec (ws := wsX1_isOdd) B.pre
  have hown : s.vm.findClass RX1 = some m.cls := findClass_of_methodNamed B.named
  have hlocks := B.notSynchronized
  have hl := lv_entry ([.int x]) (n := 1) (Nat.le_of_ble_eq_true rfl)
  rw [lg_entry_eq]
  generalize (lg_sl ([.int x]) ++ List.replicate (1 - (lg_sl ([.int x])).length) Slot.unset).toArray = ls at hl ⊢
  have hl : lv_has ls 1 [(0, .int x)] := hl
  refine lv_iload_n hx hb dX1_isOdd_0 rfl (lv_at hl 0 rfl) ?_
  refine lv_iconst (v := 1) hx hb dX1_isOdd_1 (by decide) ?_
  refine lv_iand hx hb dX1_isOdd_2 ?_
  refine lv_if_eq (tgt := 10) hx hb dX1_isOdd_3 (by decide) (fun c_1 => ?_) (fun c_1 => ?_)
  · skip
    refine lv_iconst (v := 0) hx hb dX1_isOdd_10 (by decide) ?_
    exact W.zret (v := 0) hx hb hr rfl (fun t ht hW => ⟨0, rfl, by simp only [s_X1_isOdd, if_pos c_1], ht⟩) (fun q h => by cases h) dX1_isOdd_11
  · skip
    refine lv_iconst (v := 1) hx hb dX1_isOdd_6 (by decide) ?_
    refine lv_goto (tgt := 11) hx hb dX1_isOdd_7 (by decide) ?_
    exact W.zret (v := 1) hx hb hr rfl (fun t ht hW => ⟨1, rfl, by simp only [s_X1_isOdd, if_neg c_1], ht⟩) (fun q h => by cases h) dX1_isOdd_11
theorem z_X1_isOdd (x : Int32) : s_X1_isOdd x = 0 ∨ s_X1_isOdd x = 1 := by
  unfold s_X1_isOdd
  (repeat' split) <;> first | exact Or.inl rfl | exact Or.inr rfl | skip
def s_X1_setOf (v : Int32) : Int32 :=
  (ush v 10) &&& 7
set_option maxHeartbeats 4000000 in
set_option maxRecDepth 100000 in
theorem c_X1_setOf (l : Launch) (v : Int32)  : Met l yX1_setOf wsX1_setOf ({ frames := 0, cells := 0, slots := 0, locals := 0 }) (va_Pc [.int v] (fun U => True)) (vp_Si (fun x_ => x_ = s_X1_setOf v)) 0 0 (fun _ => False) := by
  refine Met.ofW (cc := cX1_setOf) (maxL := 1) (ret := (some .int)) (by decide) rfl ?_
  intro p e s m args below meth c s₁ B hml hv
  obtain ⟨rfl, -⟩ := hv
  have hx := B.exec
  have hb := B.bytes
  have hr := B.returns
  have hts := atoms_spec (ws := wsX1_setOf) B.pre
  have hown : s.vm.findClass RX1 = some m.cls := findClass_of_methodNamed B.named
  have hlocks := B.notSynchronized
  have hl := lv_entry ([.int v]) (n := 1) (Nat.le_of_ble_eq_true rfl)
  rw [lg_entry_eq]
  generalize (lg_sl ([.int v]) ++ List.replicate (1 - (lg_sl ([.int v])).length) Slot.unset).toArray = ls at hl ⊢
  have hl : lv_has ls 1 [(0, .int v)] := hl
  refine lv_iload_n hx hb dX1_setOf_0 rfl (lv_at hl 0 rfl) ?_
  refine lv_bipush (v := 10) hx hb dX1_setOf_1 (by decide) ?_
  refine lv_iushr (v := ush v 10) hx hb dX1_setOf_3 rfl ?_
  refine lv_bipush (v := 7) hx hb dX1_setOf_4 (by decide) ?_
  refine lv_iand hx hb dX1_setOf_6 ?_
  exact W.iret (v := (ush v 10) &&& 7) hx hb hr (fun t ht hW => ⟨(ush v 10) &&& 7, rfl, by first | rfl | (unfold s_X1_setOf; rfl), ht⟩) (fun q h => by cases h) dX1_setOf_7
def s_X1_firstMatch (dd : Int32) : Int32 :=
  if dd = 0 then
    0
  else
    16
set_option maxHeartbeats 4000000 in
set_option maxRecDepth 100000 in
theorem c_X1_firstMatch (l : Launch) (dd : Int32)  : Met l yX1_firstMatch wsX1_firstMatch ({ frames := 0, cells := 0, slots := 0, locals := 0 }) (va_Pc [.int dd] (fun U => True)) (vp_Si (fun x_ => x_ = s_X1_firstMatch dd)) 0 0 (fun _ => False) := by
  refine Met.ofW (cc := cX1_firstMatch) (maxL := 1) (ret := (some .int)) (by decide) rfl ?_
  intro p e s m args below meth c s₁ B hml hv
  obtain ⟨rfl, -⟩ := hv
  have hx := B.exec
  have hb := B.bytes
  have hr := B.returns
  have hts := atoms_spec (ws := wsX1_firstMatch) B.pre
  have hown : s.vm.findClass RX1 = some m.cls := findClass_of_methodNamed B.named
  have hlocks := B.notSynchronized
  have hl := lv_entry ([.int dd]) (n := 1) (Nat.le_of_ble_eq_true rfl)
  rw [lg_entry_eq]
  generalize (lg_sl ([.int dd]) ++ List.replicate (1 - (lg_sl ([.int dd])).length) Slot.unset).toArray = ls at hl ⊢
  have hl : lv_has ls 1 [(0, .int dd)] := hl
  refine lv_iload_n hx hb dX1_firstMatch_0 rfl (lv_at hl 0 rfl) ?_
  refine lv_if_eq (tgt := 9) hx hb dX1_firstMatch_1 (by decide) (fun c_1 => ?_) (fun c_1 => ?_)
  · skip
    refine lv_iconst (v := 0) hx hb dX1_firstMatch_9 (by decide) ?_
    exact W.iret (v := 0) hx hb hr (fun t ht hW => ⟨0, rfl, by simp only [s_X1_firstMatch, if_pos c_1], ht⟩) (fun q h => by cases h) dX1_firstMatch_10
  · skip
    refine lv_bipush (v := 16) hx hb dX1_firstMatch_4 (by decide) ?_
    refine lv_goto (tgt := 10) hx hb dX1_firstMatch_6 (by decide) ?_
    exact W.iret (v := 16) hx hb hr (fun t ht hW => ⟨16, rfl, by simp only [s_X1_firstMatch, if_neg c_1], ht⟩) (fun q h => by cases h) dX1_firstMatch_10
def s_X1_isOfPage (x : Int32) (v : Int32) : Int32 :=
  if s_X1_isOdd x = 0 then
    0
  else
    if ush x 10 = ush v 10 then
      1
    else
      0
set_option maxHeartbeats 4000000 in
set_option maxRecDepth 100000 in
theorem c_X1_isOfPage (l : Launch) (x : Int32) (v : Int32)  : Met l yX1_isOfPage wsX1_isOfPage ({ frames := 1, cells := 0, slots := 0, locals := 20 }) (va_Pc [.int x, .int v] (fun U => True)) (vp_Si (fun x_ => x_ = s_X1_isOfPage x v)) 0 0 (fun _ => False) := by
  refine Met.ofW (cc := cX1_isOfPage) (maxL := 2) (ret := (some .boolean)) (by decide) rfl ?_
  intro p e s m args below meth c s₁ B hml hv
  obtain ⟨rfl, -⟩ := hv
  have hx := B.exec
  have hb := B.bytes
  have hr := B.returns
  have hts := atoms_spec (ws := wsX1_isOfPage) B.pre
  have hown : s.vm.findClass RX1 = some m.cls := findClass_of_methodNamed B.named
  have hlocks := B.notSynchronized
  have hl := lv_entry ([.int x, .int v]) (n := 2) (Nat.le_of_ble_eq_true rfl)
  rw [lg_entry_eq]
  generalize (lg_sl ([.int x, .int v]) ++ List.replicate (2 - (lg_sl ([.int x, .int v])).length) Slot.unset).toArray = ls at hl ⊢
  have hl : lv_has ls 2 [(0, .int x), (1, .int v)] := hl
  refine lv_iload_n hx hb dX1_isOfPage_0 rfl (lv_at hl 0 rfl) ?_
  refine vp_callSi (va_Run.run (va_runS (As := [.int x]) (rest := []) ⟨hx, hb, hml, hown, hts⟩ (c_X1_isOdd l x) (va_cwS 1 hts gX1_isOfPage_X1_isOdd rfl rfl rfl (by decide +kernel) ⟨Nat.le_of_ble_eq_true rfl, Nat.le_of_ble_eq_true rfl⟩) ⟨fun a U g mk q => q, fun U hU hW => ⟨rfl, trivial⟩⟩ rfl rfl hl.1 rfl (lv_room (Nat.le_of_ble_eq_true rfl)) dX1_isOfPage_1 ⟨Nat.le_of_ble_eq_true rfl, Nat.le_of_ble_eq_true rfl⟩)) (fun r_1 hw_2 => ?_)
  subst hw_2
  refine lv_if_eq (tgt := 22) hx hb dX1_isOfPage_4 (by decide) (fun c_3 => ?_) (fun c_3 => ?_)
  · skip
    refine lv_iconst (v := 0) hx hb dX1_isOfPage_22 (by decide) ?_
    exact W.zret (v := 0) hx hb hr rfl (fun t ht hW => ⟨0, rfl, by simp only [s_X1_isOfPage, if_pos c_3], ht⟩) (fun q h => by cases h) dX1_isOfPage_23
  · skip
    refine lv_iload_n hx hb dX1_isOfPage_7 rfl (lv_at hl 0 rfl) ?_
    refine lv_bipush (v := 10) hx hb dX1_isOfPage_8 (by decide) ?_
    refine lv_iushr (v := ush x 10) hx hb dX1_isOfPage_10 rfl ?_
    refine lv_iload_n hx hb dX1_isOfPage_11 rfl (lv_at hl 1 rfl) ?_
    refine lv_bipush (v := 10) hx hb dX1_isOfPage_12 (by decide) ?_
    refine lv_iushr (v := ush v 10) hx hb dX1_isOfPage_14 rfl ?_
    refine lv_icmp_ne (tgt := 22) hx hb dX1_isOfPage_15 (by decide) (fun c_4 => ?_) (fun c_4 => ?_)
    · skip
      refine lv_iconst (v := 0) hx hb dX1_isOfPage_22 (by decide) ?_
      exact W.zret (v := 0) hx hb hr rfl (fun t ht hW => ⟨0, rfl, by simp only [s_X1_isOfPage, if_neg c_3, if_neg c_4], ht⟩) (fun q h => by cases h) dX1_isOfPage_23
    · skip
      refine lv_iconst (v := 1) hx hb dX1_isOfPage_18 (by decide) ?_
      refine lv_goto (tgt := 23) hx hb dX1_isOfPage_19 (by decide) ?_
      exact W.zret (v := 1) hx hb hr rfl (fun t ht hW => ⟨1, rfl, by simp only [s_X1_isOfPage, if_neg c_3, if_pos c_4], ht⟩) (fun q h => by cases h) dX1_isOfPage_23
theorem z_X1_isOfPage (x : Int32) (v : Int32) : s_X1_isOfPage x v = 0 ∨ s_X1_isOfPage x v = 1 := by
  unfold s_X1_isOfPage
  (repeat' split) <;> first | exact Or.inl rfl | exact Or.inr rfl | skip
set_option maxRecDepth 100000 in
theorem mbX1_within_0 : (.constant RX1 95 (65536) : Cond) ∈ wsX1_within := by decide +kernel
set_option maxRecDepth 100000 in
theorem mbX1_within_1 : (.constant RX1 94 (32768) : Cond) ∈ wsX1_within := by decide +kernel
def s_X1_within (pl : Int32) (how : Int32) : Int32 :=
  if how = 2 then
    if how = 0 then
      if pl < 32768 then
        (-2)
      else
        if 32768 ≤ pl then
          (-2)
        else
          pl
    else
      if pl < 32768 then
        (-2)
      else
        if 65536 ≤ pl then
          (-2)
        else
          pl
  else
    if how = 0 then
      if pl < 0 then
        (-2)
      else
        if 32768 ≤ pl then
          (-2)
        else
          pl
    else
      if pl < 0 then
        (-2)
      else
        if 65536 ≤ pl then
          (-2)
        else
          pl
set_option maxHeartbeats 4000000 in
set_option maxRecDepth 100000 in
theorem c_X1_within (l : Launch) (pl : Int32) (how : Int32)  : Met l yX1_within wsX1_within ({ frames := 0, cells := 0, slots := 0, locals := 0 }) (va_Pc [.int pl, .int how] (fun U => True)) (vp_Si (fun x_ => x_ = s_X1_within pl how)) 0 0 (fun _ => False) := by
  refine Met.ofW (cc := cX1_within) (maxL := 4) (ret := (some .int)) (by decide) rfl ?_
  intro p e s m args below meth c s₁ B hml hv
  obtain ⟨rfl, -⟩ := hv
  have hx := B.exec
  have hb := B.bytes
  have hr := B.returns
  have hts := atoms_spec (ws := wsX1_within) B.pre
  have hown : s.vm.findClass RX1 = some m.cls := findClass_of_methodNamed B.named
  have hlocks := B.notSynchronized
  have hl := lv_entry ([.int pl, .int how]) (n := 4) (Nat.le_of_ble_eq_true rfl)
  rw [lg_entry_eq]
  generalize (lg_sl ([.int pl, .int how]) ++ List.replicate (4 - (lg_sl ([.int pl, .int how])).length) Slot.unset).toArray = ls at hl ⊢
  have hl : lv_has ls 4 [(0, .int pl), (1, .int how)] := hl
  refine lv_iload_n hx hb dX1_within_0 rfl (lv_at hl 1 rfl) ?_
  refine lv_iconst (v := 2) hx hb dX1_within_1 (by decide) ?_
  refine lv_icmp_ne (tgt := 10) hx hb dX1_within_2 (by decide) (fun c_1 => ?_) (fun c_1 => ?_)
  · skip
    refine lv_iconst (v := 0) hx hb dX1_within_10 (by decide) ?_
    refine lv_istore_n (lv' := [(2, .int 0), (0, .int pl), (1, .int how)]) hx hb dX1_within_11 rfl hl (by decide) rfl (fun ls hl => ?_)
    refine lv_iload_n hx hb dX1_within_12 rfl (lv_at hl 2 rfl) ?_
    refine lv_if_ne (tgt := 21) hx hb dX1_within_13 (by decide) (fun c_2 => ?_) (fun c_2 => ?_)
    · skip
      refine lv_ldc (v := 65536) hx hb hown (hts _ mbX1_within_0) dX1_within_21 ?_
      refine lv_istore_n (lv' := [(3, .int 65536), (2, .int 0), (0, .int pl), (1, .int how)]) hx hb dX1_within_23 rfl hl (by decide) rfl (fun ls hl => ?_)
      refine lv_iload_n hx hb dX1_within_24 rfl (lv_at hl 2 rfl) ?_
      refine lv_iload_n hx hb dX1_within_25 rfl (lv_at hl 1 rfl) ?_
      refine lv_icmp_lt (tgt := 38) hx hb dX1_within_26 (by decide) (fun c_3 => ?_) (fun c_3 => ?_)
      · skip
        refine lv_bipush (v := (-2)) hx hb dX1_within_38 (by decide) ?_
        exact W.iret (v := (-2)) hx hb hr (fun t ht hW => ⟨(-2), rfl, by simp only [s_X1_within, if_neg c_1, if_neg c_2, if_pos c_3], ht⟩) (fun q h => by cases h) dX1_within_40
      · skip
        refine lv_iload_n hx hb dX1_within_29 rfl (lv_at hl 2 rfl) ?_
        refine lv_iload_n hx hb dX1_within_30 rfl (lv_at hl 0 rfl) ?_
        refine lv_icmp_ge (tgt := 38) hx hb dX1_within_31 (by decide) (fun c_4 => ?_) (fun c_4 => ?_)
        · skip
          refine lv_bipush (v := (-2)) hx hb dX1_within_38 (by decide) ?_
          exact W.iret (v := (-2)) hx hb hr (fun t ht hW => ⟨(-2), rfl, by simp only [s_X1_within, if_neg c_1, if_neg c_2, if_neg c_3, if_pos c_4], ht⟩) (fun q h => by cases h) dX1_within_40
        · skip
          refine lv_iload_n hx hb dX1_within_34 rfl (lv_at hl 2 rfl) ?_
          refine lv_goto (tgt := 40) hx hb dX1_within_35 (by decide) ?_
          exact W.iret (v := pl) hx hb hr (fun t ht hW => ⟨pl, rfl, by simp only [s_X1_within, if_neg c_1, if_neg c_2, if_neg c_3, if_neg c_4], ht⟩) (fun q h => by cases h) dX1_within_40
    · skip
      refine lv_ldc (v := 32768) hx hb hown (hts _ mbX1_within_1) dX1_within_16 ?_
      refine lv_goto (tgt := 23) hx hb dX1_within_18 (by decide) ?_
      refine lv_istore_n (lv' := [(3, .int 32768), (2, .int 0), (0, .int pl), (1, .int how)]) hx hb dX1_within_23 rfl hl (by decide) rfl (fun ls hl => ?_)
      refine lv_iload_n hx hb dX1_within_24 rfl (lv_at hl 2 rfl) ?_
      refine lv_iload_n hx hb dX1_within_25 rfl (lv_at hl 1 rfl) ?_
      refine lv_icmp_lt (tgt := 38) hx hb dX1_within_26 (by decide) (fun c_5 => ?_) (fun c_5 => ?_)
      · skip
        refine lv_bipush (v := (-2)) hx hb dX1_within_38 (by decide) ?_
        exact W.iret (v := (-2)) hx hb hr (fun t ht hW => ⟨(-2), rfl, by simp only [s_X1_within, if_neg c_1, if_pos c_2, if_pos c_5], ht⟩) (fun q h => by cases h) dX1_within_40
      · skip
        refine lv_iload_n hx hb dX1_within_29 rfl (lv_at hl 2 rfl) ?_
        refine lv_iload_n hx hb dX1_within_30 rfl (lv_at hl 0 rfl) ?_
        refine lv_icmp_ge (tgt := 38) hx hb dX1_within_31 (by decide) (fun c_6 => ?_) (fun c_6 => ?_)
        · skip
          refine lv_bipush (v := (-2)) hx hb dX1_within_38 (by decide) ?_
          exact W.iret (v := (-2)) hx hb hr (fun t ht hW => ⟨(-2), rfl, by simp only [s_X1_within, if_neg c_1, if_pos c_2, if_neg c_5, if_pos c_6], ht⟩) (fun q h => by cases h) dX1_within_40
        · skip
          refine lv_iload_n hx hb dX1_within_34 rfl (lv_at hl 2 rfl) ?_
          refine lv_goto (tgt := 40) hx hb dX1_within_35 (by decide) ?_
          exact W.iret (v := pl) hx hb hr (fun t ht hW => ⟨pl, rfl, by simp only [s_X1_within, if_neg c_1, if_pos c_2, if_neg c_5, if_neg c_6], ht⟩) (fun q h => by cases h) dX1_within_40
  · skip
    refine lv_ldc (v := 32768) hx hb hown (hts _ mbX1_within_1) dX1_within_5 ?_
    refine lv_goto (tgt := 11) hx hb dX1_within_7 (by decide) ?_
    refine lv_istore_n (lv' := [(2, .int 32768), (0, .int pl), (1, .int how)]) hx hb dX1_within_11 rfl hl (by decide) rfl (fun ls hl => ?_)
    refine lv_iload_n hx hb dX1_within_12 rfl (lv_at hl 2 rfl) ?_
    refine lv_if_ne (tgt := 21) hx hb dX1_within_13 (by decide) (fun c_7 => ?_) (fun c_7 => ?_)
    · skip
      refine lv_ldc (v := 65536) hx hb hown (hts _ mbX1_within_0) dX1_within_21 ?_
      refine lv_istore_n (lv' := [(3, .int 65536), (2, .int 32768), (0, .int pl), (1, .int how)]) hx hb dX1_within_23 rfl hl (by decide) rfl (fun ls hl => ?_)
      refine lv_iload_n hx hb dX1_within_24 rfl (lv_at hl 2 rfl) ?_
      refine lv_iload_n hx hb dX1_within_25 rfl (lv_at hl 1 rfl) ?_
      refine lv_icmp_lt (tgt := 38) hx hb dX1_within_26 (by decide) (fun c_8 => ?_) (fun c_8 => ?_)
      · skip
        refine lv_bipush (v := (-2)) hx hb dX1_within_38 (by decide) ?_
        exact W.iret (v := (-2)) hx hb hr (fun t ht hW => ⟨(-2), rfl, by simp only [s_X1_within, if_pos c_1, if_neg c_7, if_pos c_8], ht⟩) (fun q h => by cases h) dX1_within_40
      · skip
        refine lv_iload_n hx hb dX1_within_29 rfl (lv_at hl 2 rfl) ?_
        refine lv_iload_n hx hb dX1_within_30 rfl (lv_at hl 0 rfl) ?_
        refine lv_icmp_ge (tgt := 38) hx hb dX1_within_31 (by decide) (fun c_9 => ?_) (fun c_9 => ?_)
        · skip
          refine lv_bipush (v := (-2)) hx hb dX1_within_38 (by decide) ?_
          exact W.iret (v := (-2)) hx hb hr (fun t ht hW => ⟨(-2), rfl, by simp only [s_X1_within, if_pos c_1, if_neg c_7, if_neg c_8, if_pos c_9], ht⟩) (fun q h => by cases h) dX1_within_40
        · skip
          refine lv_iload_n hx hb dX1_within_34 rfl (lv_at hl 2 rfl) ?_
          refine lv_goto (tgt := 40) hx hb dX1_within_35 (by decide) ?_
          exact W.iret (v := pl) hx hb hr (fun t ht hW => ⟨pl, rfl, by simp only [s_X1_within, if_pos c_1, if_neg c_7, if_neg c_8, if_neg c_9], ht⟩) (fun q h => by cases h) dX1_within_40
    · skip
      refine lv_ldc (v := 32768) hx hb hown (hts _ mbX1_within_1) dX1_within_16 ?_
      refine lv_goto (tgt := 23) hx hb dX1_within_18 (by decide) ?_
      refine lv_istore_n (lv' := [(3, .int 32768), (2, .int 32768), (0, .int pl), (1, .int how)]) hx hb dX1_within_23 rfl hl (by decide) rfl (fun ls hl => ?_)
      refine lv_iload_n hx hb dX1_within_24 rfl (lv_at hl 2 rfl) ?_
      refine lv_iload_n hx hb dX1_within_25 rfl (lv_at hl 1 rfl) ?_
      refine lv_icmp_lt (tgt := 38) hx hb dX1_within_26 (by decide) (fun c_10 => ?_) (fun c_10 => ?_)
      · skip
        refine lv_bipush (v := (-2)) hx hb dX1_within_38 (by decide) ?_
        exact W.iret (v := (-2)) hx hb hr (fun t ht hW => ⟨(-2), rfl, by simp only [s_X1_within, if_pos c_1, if_pos c_7, if_pos c_10], ht⟩) (fun q h => by cases h) dX1_within_40
      · skip
        refine lv_iload_n hx hb dX1_within_29 rfl (lv_at hl 2 rfl) ?_
        refine lv_iload_n hx hb dX1_within_30 rfl (lv_at hl 0 rfl) ?_
        refine lv_icmp_ge (tgt := 38) hx hb dX1_within_31 (by decide) (fun c_11 => ?_) (fun c_11 => ?_)
        · skip
          refine lv_bipush (v := (-2)) hx hb dX1_within_38 (by decide) ?_
          exact W.iret (v := (-2)) hx hb hr (fun t ht hW => ⟨(-2), rfl, by simp only [s_X1_within, if_pos c_1, if_pos c_7, if_neg c_10, if_pos c_11], ht⟩) (fun q h => by cases h) dX1_within_40
        · skip
          refine lv_iload_n hx hb dX1_within_34 rfl (lv_at hl 2 rfl) ?_
          refine lv_goto (tgt := 40) hx hb dX1_within_35 (by decide) ?_
          exact W.iret (v := pl) hx hb hr (fun t ht hW => ⟨pl, rfl, by simp only [s_X1_within, if_pos c_1, if_pos c_7, if_neg c_10, if_neg c_11], ht⟩) (fun q h => by cases h) dX1_within_40
theorem so_n (v : Int32) : ∃ j : Nat, j < 8 ∧ s_X1_setOf v = nI j := by
  unfold s_X1_setOf
  exact pk_andE _ 3 (by decide)
theorem fm_n (d : Int32) : s_X1_firstMatch d = nI 0 ∨ s_X1_firstMatch d = nI 16 := by
  unfold s_X1_firstMatch
  (repeat' split) <;> first | exact Or.inl rfl | exact Or.inr rfl
theorem ix_n (d v : Int32) : ∃ j : Nat, j < 24 ∧ s_X1_firstMatch d + s_X1_setOf v = nI j := by
  obtain ⟨j, hj, e⟩ := so_n v
  rcases fm_n d with h | h
  · exact ⟨0 + j, by omega, by rw [h, e, nI_add]⟩
  · exact ⟨16 + j, by omega, by rw [h, e, nI_add]⟩
theorem in_m (d v : Int32) : vp_in (s_X1_firstMatch d + s_X1_setOf v) 33 := by
  obtain ⟨j, hj, e⟩ := ix_n d v
  exact pk_in j 33 (by omega) e
theorem in_p (d v : Int32) : vp_in (s_X1_firstMatch d + s_X1_setOf v + 8) 33 := by
  obtain ⟨j, hj, e⟩ := ix_n d v
  exact pk_in (j + 8) 33 (by omega) (by rw [e, ← nI_add]; rfl)
set_option maxRecDepth 100000 in
theorem miX1_isMapped_X1 : ∀ w ∈ u_ws RX1 TX1 8, w ∈ wsX1_isMapped := by decide +kernel
set_option maxRecDepth 100000 in
theorem mbX1_isMapped_1 : (.fieldLink RX1 16 "SoftMaps" "specials" "[I" : Cond) ∈ wsX1_isMapped := by decide +kernel
def s_X1_isMapped (f : Nat → Int32) (how : Int32) : Int32 :=
  if how = 0 then
    if (f (32 : Int32).toNatClampNeg) &&& 2 = 0 then
      0
    else
      1
  else
    if (f (32 : Int32).toNatClampNeg) &&& 4 = 0 then
      0
    else
      1
set_option maxHeartbeats 4000000 in
set_option maxRecDepth 100000 in
theorem c_X1_isMapped (l : Launch) (dC : Nat → ClassId) (dI : Nat → Nat → Nat) (h0 me sp : Nat) (cI : ClassId) (f : Nat → Int32) (fa fl fd cr lo so : Int32) (how : Int32)  : Met l yX1_isMapped wsX1_isMapped ({ frames := 0, cells := 0, slots := 0, locals := 0 }) (va_Pc [.ref h0, .int how] (fun U => va_P (dC, dI) vwCl [(h0, .inr (1, [.ref me, .ref sp, .int fa, .int fl, .int fd, .int cr, .int lo, .int so])), (sp, .inl (cI, 33, .inl f))] U.heap ∧ va_K (dC, dI) vwCl [(cI, .int)] U)) (vp_Si (fun x_ => x_ = s_X1_isMapped f how)) 0 0 (fun _ => False) := by
  refine Met.ofW (cc := cX1_isMapped) (maxL := 3) (ret := (some .boolean)) (by decide) rfl ?_
  intro p e s m args below meth c s₁ B hml hv
  obtain ⟨rfl, hP, hK⟩ := hv
  have hx := B.exec
  have hb := B.bytes
  have hr := B.returns
  have hts := atoms_spec (ws := wsX1_isMapped) B.pre
  have hown : s.vm.findClass RX1 = some m.cls := findClass_of_methodNamed B.named
  have hlocks := B.notSynchronized
  have hl := lv_entry ([.ref h0, .int how]) (n := 3) (Nat.le_of_ble_eq_true rfl)
  rw [lg_entry_eq]
  generalize (lg_sl ([.ref h0, .int how]) ++ List.replicate (3 - (lg_sl ([.ref h0, .int how])).length) Slot.unset).toArray = ls at hl ⊢
  have hl : lv_has ls 3 [(0, .ref h0), (1, .int how)] := hl
  have hP : va_P (dC, dI) vwCl [(h0, .inr (1, [.ref me, .ref sp, .int fa, .int fl, .int fd, .int cr, .int lo, .int so])), (sp, .inl (cI, 33, .inl f))] s.heap := hP
  refine lv_iload_n hx hb dX1_isMapped_0 rfl (lv_at hl 1 rfl) ?_
  refine lv_if_ne (tgt := 8) hx hb dX1_isMapped_1 (by decide) (fun c_1 => ?_) (fun c_1 => ?_)
  · skip
    refine lv_iconst (v := 4) hx hb dX1_isMapped_8 (by decide) ?_
    refine lv_istore_n (lv' := [(2, .int 4), (0, .ref h0), (1, .int how)]) hx hb dX1_isMapped_9 rfl hl (by decide) rfl (fun ls hl => ?_)
    refine lv_aload_n hx hb dX1_isMapped_10 rfl (lv_at hl 1 rfl) ?_
    refine va_get (D := (dC, dI)) (ci := 1) (v := .ref sp) (C := RX1) (T := TX1) (N := 8) hx hb hts miX1_isMapped_X1 hown hK hP 0 rfl rfl 1 (by decide) (hts _ mbX1_isMapped_1) (fun _ h9 => h9) rfl dX1_isMapped_11 ?_
    refine lv_bipush (v := 32) hx hb dX1_isMapped_14 (by decide) ?_
    refine va_iald hx hb hK hP 1 0 rfl rfl (pk_in 32 33 (by decide)) dX1_isMapped_16 ?_
    refine lv_iload_n hx hb dX1_isMapped_17 rfl (lv_at hl 0 rfl) ?_
    refine lv_iand hx hb dX1_isMapped_18 ?_
    refine lv_if_eq (tgt := 26) hx hb dX1_isMapped_19 (by decide) (fun c_2 => ?_) (fun c_2 => ?_)
    · skip
      refine lv_iconst (v := 0) hx hb dX1_isMapped_26 (by decide) ?_
      exact W.zret (v := 0) hx hb hr rfl (fun t ht hW => ⟨0, rfl, by simp only [s_X1_isMapped, if_neg c_1, if_pos c_2], ht⟩) (fun q h => by cases h) dX1_isMapped_27
    · skip
      refine lv_iconst (v := 1) hx hb dX1_isMapped_22 (by decide) ?_
      refine lv_goto (tgt := 27) hx hb dX1_isMapped_23 (by decide) ?_
      exact W.zret (v := 1) hx hb hr rfl (fun t ht hW => ⟨1, rfl, by simp only [s_X1_isMapped, if_neg c_1, if_neg c_2], ht⟩) (fun q h => by cases h) dX1_isMapped_27
  · skip
    refine lv_iconst (v := 2) hx hb dX1_isMapped_4 (by decide) ?_
    refine lv_goto (tgt := 9) hx hb dX1_isMapped_5 (by decide) ?_
    refine lv_istore_n (lv' := [(2, .int 2), (0, .ref h0), (1, .int how)]) hx hb dX1_isMapped_9 rfl hl (by decide) rfl (fun ls hl => ?_)
    refine lv_aload_n hx hb dX1_isMapped_10 rfl (lv_at hl 1 rfl) ?_
    refine va_get (D := (dC, dI)) (ci := 1) (v := .ref sp) (C := RX1) (T := TX1) (N := 8) hx hb hts miX1_isMapped_X1 hown hK hP 0 rfl rfl 1 (by decide) (hts _ mbX1_isMapped_1) (fun _ h9 => h9) rfl dX1_isMapped_11 ?_
    refine lv_bipush (v := 32) hx hb dX1_isMapped_14 (by decide) ?_
    refine va_iald hx hb hK hP 1 0 rfl rfl (pk_in 32 33 (by decide)) dX1_isMapped_16 ?_
    refine lv_iload_n hx hb dX1_isMapped_17 rfl (lv_at hl 0 rfl) ?_
    refine lv_iand hx hb dX1_isMapped_18 ?_
    refine lv_if_eq (tgt := 26) hx hb dX1_isMapped_19 (by decide) (fun c_3 => ?_) (fun c_3 => ?_)
    · skip
      refine lv_iconst (v := 0) hx hb dX1_isMapped_26 (by decide) ?_
      exact W.zret (v := 0) hx hb hr rfl (fun t ht hW => ⟨0, rfl, by simp only [s_X1_isMapped, if_pos c_1, if_pos c_3], ht⟩) (fun q h => by cases h) dX1_isMapped_27
    · skip
      refine lv_iconst (v := 1) hx hb dX1_isMapped_22 (by decide) ?_
      refine lv_goto (tgt := 27) hx hb dX1_isMapped_23 (by decide) ?_
      exact W.zret (v := 1) hx hb hr rfl (fun t ht hW => ⟨1, rfl, by simp only [s_X1_isMapped, if_pos c_1, if_neg c_3], ht⟩) (fun q h => by cases h) dX1_isMapped_27
theorem z_X1_isMapped (f : Nat → Int32) (how : Int32) : s_X1_isMapped f how = 0 ∨ s_X1_isMapped f how = 1 := by
  unfold s_X1_isMapped
  (repeat' split) <;> first | exact Or.inl rfl | exact Or.inr rfl | skip
set_option maxRecDepth 100000 in
theorem miX1_neededRight_X1 : ∀ w ∈ u_ws RX1 TX1 8, w ∈ wsX1_neededRight := by decide +kernel
set_option maxRecDepth 100000 in
theorem mbX1_neededRight_1 : (.fieldLink RX1 16 "SoftMaps" "specials" "[I" : Cond) ∈ wsX1_neededRight := by decide +kernel
def s_X1_neededRight (f : Nat → Int32) (how : Int32) : Int32 :=
  if how = 2 then
    if (f (32 : Int32).toNatClampNeg) &&& 1 = 0 then
      2
    else
      2 <<< ((2 : Int32) &&& 31)
  else
    if (f (32 : Int32).toNatClampNeg) &&& 1 = 0 then
      1
    else
      1 <<< ((2 : Int32) &&& 31)
set_option maxHeartbeats 4000000 in
set_option maxRecDepth 100000 in
theorem c_X1_neededRight (l : Launch) (dC : Nat → ClassId) (dI : Nat → Nat → Nat) (h0 me sp : Nat) (cI : ClassId) (f : Nat → Int32) (fa fl fd cr lo so : Int32) (how : Int32)  : Met l yX1_neededRight wsX1_neededRight ({ frames := 0, cells := 0, slots := 0, locals := 0 }) (va_Pc [.ref h0, .int how] (fun U => va_P (dC, dI) vwCl [(h0, .inr (1, [.ref me, .ref sp, .int fa, .int fl, .int fd, .int cr, .int lo, .int so])), (sp, .inl (cI, 33, .inl f))] U.heap ∧ va_K (dC, dI) vwCl [(cI, .int)] U)) (vp_Si (fun x_ => x_ = s_X1_neededRight f how)) 0 0 (fun _ => False) := by
  refine Met.ofW (cc := cX1_neededRight) (maxL := 4) (ret := (some .int)) (by decide) rfl ?_
  intro p e s m args below meth c s₁ B hml hv
  obtain ⟨rfl, hP, hK⟩ := hv
  have hx := B.exec
  have hb := B.bytes
  have hr := B.returns
  have hts := atoms_spec (ws := wsX1_neededRight) B.pre
  have hown : s.vm.findClass RX1 = some m.cls := findClass_of_methodNamed B.named
  have hlocks := B.notSynchronized
  have hl := lv_entry ([.ref h0, .int how]) (n := 4) (Nat.le_of_ble_eq_true rfl)
  rw [lg_entry_eq]
  generalize (lg_sl ([.ref h0, .int how]) ++ List.replicate (4 - (lg_sl ([.ref h0, .int how])).length) Slot.unset).toArray = ls at hl ⊢
  have hl : lv_has ls 4 [(0, .ref h0), (1, .int how)] := hl
  have hP : va_P (dC, dI) vwCl [(h0, .inr (1, [.ref me, .ref sp, .int fa, .int fl, .int fd, .int cr, .int lo, .int so])), (sp, .inl (cI, 33, .inl f))] s.heap := hP
  refine lv_iload_n hx hb dX1_neededRight_0 rfl (lv_at hl 1 rfl) ?_
  refine lv_iconst (v := 2) hx hb dX1_neededRight_1 (by decide) ?_
  refine lv_icmp_ne (tgt := 9) hx hb dX1_neededRight_2 (by decide) (fun c_1 => ?_) (fun c_1 => ?_)
  · skip
    refine lv_iconst (v := 1) hx hb dX1_neededRight_9 (by decide) ?_
    refine lv_istore_n (lv' := [(2, .int 1), (0, .ref h0), (1, .int how)]) hx hb dX1_neededRight_10 rfl hl (by decide) rfl (fun ls hl => ?_)
    refine lv_aload_n hx hb dX1_neededRight_11 rfl (lv_at hl 1 rfl) ?_
    refine va_get (D := (dC, dI)) (ci := 1) (v := .ref sp) (C := RX1) (T := TX1) (N := 8) hx hb hts miX1_neededRight_X1 hown hK hP 0 rfl rfl 1 (by decide) (hts _ mbX1_neededRight_1) (fun _ h9 => h9) rfl dX1_neededRight_12 ?_
    refine lv_bipush (v := 32) hx hb dX1_neededRight_15 (by decide) ?_
    refine va_iald hx hb hK hP 1 0 rfl rfl (pk_in 32 33 (by decide)) dX1_neededRight_17 ?_
    refine lv_iconst (v := 1) hx hb dX1_neededRight_18 (by decide) ?_
    refine lv_iand hx hb dX1_neededRight_19 ?_
    refine lv_if_eq (tgt := 27) hx hb dX1_neededRight_20 (by decide) (fun c_2 => ?_) (fun c_2 => ?_)
    · skip
      refine lv_iconst (v := 0) hx hb dX1_neededRight_27 (by decide) ?_
      refine lv_istore_n (lv' := [(3, .int 0), (2, .int 1), (0, .ref h0), (1, .int how)]) hx hb dX1_neededRight_28 rfl hl (by decide) rfl (fun ls hl => ?_)
      refine lv_iload_n hx hb dX1_neededRight_29 rfl (lv_at hl 0 rfl) ?_
      refine lv_if_eq (tgt := 39) hx hb dX1_neededRight_30 (by decide) (fun c_3 => ?_) (fun c_3 => ?_)
      · skip
        refine lv_iload_n hx hb dX1_neededRight_39 rfl (lv_at hl 1 rfl) ?_
        exact W.iret (v := 1) hx hb hr (fun t ht hW => ⟨1, rfl, by simp only [s_X1_neededRight, if_neg c_1, if_pos c_2], ht⟩) (fun q h => by cases h) dX1_neededRight_40
      · exact absurd c_3 (by decide)
    · skip
      refine lv_iconst (v := 1) hx hb dX1_neededRight_23 (by decide) ?_
      refine lv_goto (tgt := 28) hx hb dX1_neededRight_24 (by decide) ?_
      refine lv_istore_n (lv' := [(3, .int 1), (2, .int 1), (0, .ref h0), (1, .int how)]) hx hb dX1_neededRight_28 rfl hl (by decide) rfl (fun ls hl => ?_)
      refine lv_iload_n hx hb dX1_neededRight_29 rfl (lv_at hl 0 rfl) ?_
      refine lv_if_eq (tgt := 39) hx hb dX1_neededRight_30 (by decide) (fun c_4 => ?_) (fun c_4 => ?_)
      · exact absurd c_4 (by decide)
      · skip
        refine lv_iload_n hx hb dX1_neededRight_33 rfl (lv_at hl 1 rfl) ?_
        refine lv_iconst (v := 2) hx hb dX1_neededRight_34 (by decide) ?_
        refine lv_ishl hx hb dX1_neededRight_35 ?_
        refine lv_goto (tgt := 40) hx hb dX1_neededRight_36 (by decide) ?_
        exact W.iret (v := 1 <<< ((2 : Int32) &&& 31)) hx hb hr (fun t ht hW => ⟨1 <<< ((2 : Int32) &&& 31), rfl, by simp only [s_X1_neededRight, if_neg c_1, if_neg c_2], ht⟩) (fun q h => by cases h) dX1_neededRight_40
  · skip
    refine lv_iconst (v := 2) hx hb dX1_neededRight_5 (by decide) ?_
    refine lv_goto (tgt := 10) hx hb dX1_neededRight_6 (by decide) ?_
    refine lv_istore_n (lv' := [(2, .int 2), (0, .ref h0), (1, .int how)]) hx hb dX1_neededRight_10 rfl hl (by decide) rfl (fun ls hl => ?_)
    refine lv_aload_n hx hb dX1_neededRight_11 rfl (lv_at hl 1 rfl) ?_
    refine va_get (D := (dC, dI)) (ci := 1) (v := .ref sp) (C := RX1) (T := TX1) (N := 8) hx hb hts miX1_neededRight_X1 hown hK hP 0 rfl rfl 1 (by decide) (hts _ mbX1_neededRight_1) (fun _ h9 => h9) rfl dX1_neededRight_12 ?_
    refine lv_bipush (v := 32) hx hb dX1_neededRight_15 (by decide) ?_
    refine va_iald hx hb hK hP 1 0 rfl rfl (pk_in 32 33 (by decide)) dX1_neededRight_17 ?_
    refine lv_iconst (v := 1) hx hb dX1_neededRight_18 (by decide) ?_
    refine lv_iand hx hb dX1_neededRight_19 ?_
    refine lv_if_eq (tgt := 27) hx hb dX1_neededRight_20 (by decide) (fun c_5 => ?_) (fun c_5 => ?_)
    · skip
      refine lv_iconst (v := 0) hx hb dX1_neededRight_27 (by decide) ?_
      refine lv_istore_n (lv' := [(3, .int 0), (2, .int 2), (0, .ref h0), (1, .int how)]) hx hb dX1_neededRight_28 rfl hl (by decide) rfl (fun ls hl => ?_)
      refine lv_iload_n hx hb dX1_neededRight_29 rfl (lv_at hl 0 rfl) ?_
      refine lv_if_eq (tgt := 39) hx hb dX1_neededRight_30 (by decide) (fun c_6 => ?_) (fun c_6 => ?_)
      · skip
        refine lv_iload_n hx hb dX1_neededRight_39 rfl (lv_at hl 1 rfl) ?_
        exact W.iret (v := 2) hx hb hr (fun t ht hW => ⟨2, rfl, by simp only [s_X1_neededRight, if_pos c_1, if_pos c_5], ht⟩) (fun q h => by cases h) dX1_neededRight_40
      · exact absurd c_6 (by decide)
    · skip
      refine lv_iconst (v := 1) hx hb dX1_neededRight_23 (by decide) ?_
      refine lv_goto (tgt := 28) hx hb dX1_neededRight_24 (by decide) ?_
      refine lv_istore_n (lv' := [(3, .int 1), (2, .int 2), (0, .ref h0), (1, .int how)]) hx hb dX1_neededRight_28 rfl hl (by decide) rfl (fun ls hl => ?_)
      refine lv_iload_n hx hb dX1_neededRight_29 rfl (lv_at hl 0 rfl) ?_
      refine lv_if_eq (tgt := 39) hx hb dX1_neededRight_30 (by decide) (fun c_7 => ?_) (fun c_7 => ?_)
      · exact absurd c_7 (by decide)
      · skip
        refine lv_iload_n hx hb dX1_neededRight_33 rfl (lv_at hl 1 rfl) ?_
        refine lv_iconst (v := 2) hx hb dX1_neededRight_34 (by decide) ?_
        refine lv_ishl hx hb dX1_neededRight_35 ?_
        refine lv_goto (tgt := 40) hx hb dX1_neededRight_36 (by decide) ?_
        exact W.iret (v := 2 <<< ((2 : Int32) &&& 31)) hx hb hr (fun t ht hW => ⟨2 <<< ((2 : Int32) &&& 31), rfl, by simp only [s_X1_neededRight, if_pos c_1, if_neg c_5], ht⟩) (fun q h => by cases h) dX1_neededRight_40
set_option maxRecDepth 100000 in
theorem miX1_locate_X1 : ∀ w ∈ u_ws RX1 TX1 8, w ∈ wsX1_locate := by decide +kernel
set_option maxRecDepth 100000 in
theorem mbX1_locate_1 : (.fieldLink RX1 16 "SoftMaps" "specials" "[I" : Cond) ∈ wsX1_locate := by decide +kernel
def s_X1_locate (f : Nat → Int32) (v : Int32) (how : Int32) (wd : Int32) : Int32 :=
  if wd = 0 then
    if s_X1_isMapped f how = 0 then
      s_X1_within v how
    else
      if how = 0 then
        if s_X1_isOfPage (f ((s_X1_firstMatch 0) + (s_X1_setOf v)).toNatClampNeg) v = 0 then
          (-10)
        else
          if (f (((s_X1_firstMatch 0) + (s_X1_setOf v)) + 8).toNatClampNeg) &&& (s_X1_neededRight f how) = 0 then
            (-4)
          else
            s_X1_within (((f (((s_X1_firstMatch 0) + (s_X1_setOf v)) + 8).toNatClampNeg) &&& (-1024)) ||| (v &&& 1023)) how
      else
        if s_X1_isOfPage (f ((s_X1_firstMatch 1) + (s_X1_setOf v)).toNatClampNeg) v = 0 then
          (-9)
        else
          if (f (((s_X1_firstMatch 1) + (s_X1_setOf v)) + 8).toNatClampNeg) &&& (s_X1_neededRight f how) = 0 then
            (-3)
          else
            s_X1_within (((f (((s_X1_firstMatch 1) + (s_X1_setOf v)) + 8).toNatClampNeg) &&& (-1024)) ||| (v &&& 1023)) how
  else
    if s_X1_isAligned v = 0 then
      (-6)
    else
      if s_X1_isMapped f how = 0 then
        s_X1_within v how
      else
        if how = 0 then
          if s_X1_isOfPage (f ((s_X1_firstMatch 0) + (s_X1_setOf v)).toNatClampNeg) v = 0 then
            (-10)
          else
            if (f (((s_X1_firstMatch 0) + (s_X1_setOf v)) + 8).toNatClampNeg) &&& (s_X1_neededRight f how) = 0 then
              (-4)
            else
              s_X1_within (((f (((s_X1_firstMatch 0) + (s_X1_setOf v)) + 8).toNatClampNeg) &&& (-1024)) ||| (v &&& 1023)) how
        else
          if s_X1_isOfPage (f ((s_X1_firstMatch 1) + (s_X1_setOf v)).toNatClampNeg) v = 0 then
            (-9)
          else
            if (f (((s_X1_firstMatch 1) + (s_X1_setOf v)) + 8).toNatClampNeg) &&& (s_X1_neededRight f how) = 0 then
              (-3)
            else
              s_X1_within (((f (((s_X1_firstMatch 1) + (s_X1_setOf v)) + 8).toNatClampNeg) &&& (-1024)) ||| (v &&& 1023)) how
set_option maxHeartbeats 4000000 in
set_option maxRecDepth 100000 in
theorem c_X1_locate (l : Launch) (dC : Nat → ClassId) (dI : Nat → Nat → Nat) (h0 me sp : Nat) (cI : ClassId) (f : Nat → Int32) (fa fl fd cr lo so : Int32) (v : Int32) (how : Int32) (wd : Int32)  : Met l yX1_locate wsX1_locate ({ frames := 2, cells := 0, slots := 0, locals := 41 }) (va_Pc [.ref h0, .int v, .int how, .int wd] (fun U => va_P (dC, dI) vwCl [(h0, .inr (1, [.ref me, .ref sp, .int fa, .int fl, .int fd, .int cr, .int lo, .int so])), (sp, .inl (cI, 33, .inl f))] U.heap ∧ va_K (dC, dI) vwCl [(cI, .int)] U)) (vp_Si (fun x_ => x_ = s_X1_locate f v how wd)) 0 0 (fun _ => False) := by
  refine Met.ofW (cc := cX1_locate) (maxL := 6) (ret := (some .int)) (by decide) rfl ?_
  intro p e s m args below meth c s₁ B hml hv
  obtain ⟨rfl, hP, hK⟩ := hv
  have hx := B.exec
  have hb := B.bytes
  have hr := B.returns
  have hts := atoms_spec (ws := wsX1_locate) B.pre
  have hown : s.vm.findClass RX1 = some m.cls := findClass_of_methodNamed B.named
  have hlocks := B.notSynchronized
  have hl := lv_entry ([.ref h0, .int v, .int how, .int wd]) (n := 6) (Nat.le_of_ble_eq_true rfl)
  rw [lg_entry_eq]
  generalize (lg_sl ([.ref h0, .int v, .int how, .int wd]) ++ List.replicate (6 - (lg_sl ([.ref h0, .int v, .int how, .int wd])).length) Slot.unset).toArray = ls at hl ⊢
  have hl : lv_has ls 6 [(0, .ref h0), (1, .int v), (2, .int how), (3, .int wd)] := hl
  have hP : va_P (dC, dI) vwCl [(h0, .inr (1, [.ref me, .ref sp, .int fa, .int fl, .int fd, .int cr, .int lo, .int so])), (sp, .inl (cI, 33, .inl f))] s.heap := hP
  refine lv_iload_n hx hb dX1_locate_0 rfl (lv_at hl 3 rfl) ?_
  refine lv_if_eq (tgt := 14) hx hb dX1_locate_1 (by decide) (fun c_1 => ?_) (fun c_1 => ?_)
  · skip
    refine lv_aload_n hx hb dX1_locate_14 rfl (lv_at hl 0 rfl) ?_
    refine lv_iload_n hx hb dX1_locate_15 rfl (lv_at hl 2 rfl) ?_
    have hPc := hP.sub (ws' := [(h0, .inr (1, [.ref me, .ref sp, .int fa, .int fl, .int fd, .int cr, .int lo, .int so])), (sp, .inl (cI, 33, .inl f))]) [0, 1] rfl
    have hKc := hK.sub (tys' := [(cI, .int)]) [0] rfl
    refine vp_callSi (va_Run.run (va_runV (As := [.int how]) (rest := []) ⟨hx, hb, hml, hown, hts⟩ (c_X1_isMapped l dC dI h0 me sp cI f fa fl fd cr lo so how) (cwV 1 hts gX1_locate_X1_isMapped rfl rfl rfl (by decide +kernel) ⟨Nat.le_of_ble_eq_true rfl, Nat.le_of_ble_eq_true rfl⟩) ⟨fun a U g mk q => by obtain ⟨q0, qP, qK⟩ := q; exact ⟨q0, qP, va_K.moved (u := U) (U := U.calling g mk a) (Vm.Alike.refl U.vm) qK⟩, va_recv hKc hPc (ci := 1) (q0 := 0) rfl rfl, fun U hU hW => ⟨rfl, by rw [hU]; exact hPc, va_K.moved hW.alike hKc⟩⟩ rfl rfl hl.1 rfl (lv_room (Nat.le_of_ble_eq_true rfl)) dX1_locate_16 ⟨Nat.le_of_ble_eq_true rfl, Nat.le_of_ble_eq_true rfl⟩)) (fun r_2 hw_3 => ?_)
    subst hw_3
    refine lv_if_ne (tgt := 28) hx hb dX1_locate_19 (by decide) (fun c_4 => ?_) (fun c_4 => ?_)
    · skip
      refine lv_iload_n hx hb dX1_locate_28 rfl (lv_at hl 2 rfl) ?_
      refine lv_if_eq (tgt := 36) hx hb dX1_locate_29 (by decide) (fun c_5 => ?_) (fun c_5 => ?_)
      · skip
        refine lv_iconst (v := 0) hx hb dX1_locate_36 (by decide) ?_
        refine vp_callSi (va_Run.run (va_runS (As := [.int 0]) (rest := []) ⟨hx, hb, hml, hown, hts⟩ (c_X1_firstMatch l 0) (va_cwS 1 hts gX1_locate_X1_firstMatch rfl rfl rfl (by decide +kernel) ⟨Nat.le_of_ble_eq_true rfl, Nat.le_of_ble_eq_true rfl⟩) ⟨fun a U g mk q => q, fun U hU hW => ⟨rfl, trivial⟩⟩ rfl rfl hl.1 rfl (lv_room (Nat.le_of_ble_eq_true rfl)) dX1_locate_37 ⟨Nat.le_of_ble_eq_true rfl, Nat.le_of_ble_eq_true rfl⟩)) (fun r_6 hw_7 => ?_)
        subst hw_7
        refine lv_iload_n hx hb dX1_locate_40 rfl (lv_at hl 1 rfl) ?_
        refine vp_callSi (va_Run.run (va_runS (As := [.int v]) (rest := [.int (s_X1_firstMatch 0)]) ⟨hx, hb, hml, hown, hts⟩ (c_X1_setOf l v) (va_cwS 1 hts gX1_locate_X1_setOf rfl rfl rfl (by decide +kernel) ⟨Nat.le_of_ble_eq_true rfl, Nat.le_of_ble_eq_true rfl⟩) ⟨fun a U g mk q => q, fun U hU hW => ⟨rfl, trivial⟩⟩ rfl rfl hl.1 rfl (lv_room (Nat.le_of_ble_eq_true rfl)) dX1_locate_41 ⟨Nat.le_of_ble_eq_true rfl, Nat.le_of_ble_eq_true rfl⟩)) (fun r_8 hw_9 => ?_)
        subst hw_9
        refine lv_iadd hx hb dX1_locate_44 ?_
        refine lv_istore (lv' := [(4, .int ((s_X1_firstMatch 0) + (s_X1_setOf v))), (0, .ref h0), (1, .int v), (2, .int how), (3, .int wd)]) hx hb dX1_locate_45 hl (by decide) rfl (fun ls hl => ?_)
        refine lv_aload_n hx hb dX1_locate_47 rfl (lv_at hl 1 rfl) ?_
        refine va_get (D := (dC, dI)) (ci := 1) (v := .ref sp) (C := RX1) (T := TX1) (N := 8) hx hb hts miX1_locate_X1 hown hK hP 0 rfl rfl 1 (by decide) (hts _ mbX1_locate_1) (fun _ h9 => h9) rfl dX1_locate_48 ?_
        refine lv_iload hx hb dX1_locate_51 (lv_at hl 0 rfl) ?_
        refine va_iald hx hb hK hP 1 0 rfl rfl (in_m 0 v) dX1_locate_53 ?_
        refine lv_iload_n hx hb dX1_locate_54 rfl (lv_at hl 2 rfl) ?_
        refine vp_callSi (va_Run.run (va_runS (As := [.int (f ((s_X1_firstMatch 0) + (s_X1_setOf v)).toNatClampNeg), .int v]) (rest := []) ⟨hx, hb, hml, hown, hts⟩ (c_X1_isOfPage l (f ((s_X1_firstMatch 0) + (s_X1_setOf v)).toNatClampNeg) v) (va_cwS 2 hts gX1_locate_X1_isOfPage rfl rfl rfl (by decide +kernel) ⟨Nat.le_of_ble_eq_true rfl, Nat.le_of_ble_eq_true rfl⟩) ⟨fun a U g mk q => q, fun U hU hW => ⟨rfl, trivial⟩⟩ rfl rfl hl.1 rfl (lv_room (Nat.le_of_ble_eq_true rfl)) dX1_locate_55 ⟨Nat.le_of_ble_eq_true rfl, Nat.le_of_ble_eq_true rfl⟩)) (fun r_10 hw_11 => ?_)
        subst hw_11
        refine lv_if_ne (tgt := 73) hx hb dX1_locate_58 (by decide) (fun c_12 => ?_) (fun c_12 => ?_)
        · skip
          refine lv_aload_n hx hb dX1_locate_73 rfl (lv_at hl 1 rfl) ?_
          refine va_get (D := (dC, dI)) (ci := 1) (v := .ref sp) (C := RX1) (T := TX1) (N := 8) hx hb hts miX1_locate_X1 hown hK hP 0 rfl rfl 1 (by decide) (hts _ mbX1_locate_1) (fun _ h9 => h9) rfl dX1_locate_74 ?_
          refine lv_iload hx hb dX1_locate_77 (lv_at hl 0 rfl) ?_
          refine lv_bipush (v := 8) hx hb dX1_locate_79 (by decide) ?_
          refine lv_iadd hx hb dX1_locate_81 ?_
          refine va_iald hx hb hK hP 1 0 rfl rfl (in_p 0 v) dX1_locate_82 ?_
          refine lv_istore (lv' := [(5, .int (f (((s_X1_firstMatch 0) + (s_X1_setOf v)) + 8).toNatClampNeg)), (4, .int ((s_X1_firstMatch 0) + (s_X1_setOf v))), (0, .ref h0), (1, .int v), (2, .int how), (3, .int wd)]) hx hb dX1_locate_83 hl (by decide) rfl (fun ls hl => ?_)
          refine lv_iload hx hb dX1_locate_85 (lv_at hl 0 rfl) ?_
          refine lv_aload_n hx hb dX1_locate_87 rfl (lv_at hl 2 rfl) ?_
          refine lv_iload_n hx hb dX1_locate_88 rfl (lv_at hl 4 rfl) ?_
          have hPc := hP.sub (ws' := [(h0, .inr (1, [.ref me, .ref sp, .int fa, .int fl, .int fd, .int cr, .int lo, .int so])), (sp, .inl (cI, 33, .inl f))]) [0, 1] rfl
          have hKc := hK.sub (tys' := [(cI, .int)]) [0] rfl
          refine vp_callSi (va_Run.run (va_runV (As := [.int how]) (rest := [.int (f (((s_X1_firstMatch 0) + (s_X1_setOf v)) + 8).toNatClampNeg)]) ⟨hx, hb, hml, hown, hts⟩ (c_X1_neededRight l dC dI h0 me sp cI f fa fl fd cr lo so how) (cwV 1 hts gX1_locate_X1_neededRight rfl rfl rfl (by decide +kernel) ⟨Nat.le_of_ble_eq_true rfl, Nat.le_of_ble_eq_true rfl⟩) ⟨fun a U g mk q => by obtain ⟨q0, qP, qK⟩ := q; exact ⟨q0, qP, va_K.moved (u := U) (U := U.calling g mk a) (Vm.Alike.refl U.vm) qK⟩, va_recv hKc hPc (ci := 1) (q0 := 0) rfl rfl, fun U hU hW => ⟨rfl, by rw [hU]; exact hPc, va_K.moved hW.alike hKc⟩⟩ rfl rfl hl.1 rfl (lv_room (Nat.le_of_ble_eq_true rfl)) dX1_locate_89 ⟨Nat.le_of_ble_eq_true rfl, Nat.le_of_ble_eq_true rfl⟩)) (fun r_13 hw_14 => ?_)
          subst hw_14
          refine lv_iand hx hb dX1_locate_92 ?_
          refine lv_if_ne (tgt := 108) hx hb dX1_locate_93 (by decide) (fun c_15 => ?_) (fun c_15 => ?_)
          · skip
            refine lv_iload hx hb dX1_locate_108 (lv_at hl 0 rfl) ?_
            refine lv_sipush (v := (-1024)) hx hb dX1_locate_110 (by decide) ?_
            refine lv_iand hx hb dX1_locate_113 ?_
            refine lv_iload_n hx hb dX1_locate_114 rfl (lv_at hl 3 rfl) ?_
            refine lv_sipush (v := 1023) hx hb dX1_locate_115 (by decide) ?_
            refine lv_iand hx hb dX1_locate_118 ?_
            refine lv_ior hx hb dX1_locate_119 ?_
            refine lv_iload_n hx hb dX1_locate_120 rfl (lv_at hl 4 rfl) ?_
            refine vp_callSi (va_Run.run (va_runS (As := [.int (((f (((s_X1_firstMatch 0) + (s_X1_setOf v)) + 8).toNatClampNeg) &&& (-1024)) ||| (v &&& 1023)), .int how]) (rest := []) ⟨hx, hb, hml, hown, hts⟩ (c_X1_within l (((f (((s_X1_firstMatch 0) + (s_X1_setOf v)) + 8).toNatClampNeg) &&& (-1024)) ||| (v &&& 1023)) how) (va_cwS 2 hts gX1_locate_X1_within rfl rfl rfl (by decide +kernel) ⟨Nat.le_of_ble_eq_true rfl, Nat.le_of_ble_eq_true rfl⟩) ⟨fun a U g mk q => q, fun U hU hW => ⟨rfl, trivial⟩⟩ rfl rfl hl.1 rfl (lv_room (Nat.le_of_ble_eq_true rfl)) dX1_locate_121 ⟨Nat.le_of_ble_eq_true rfl, Nat.le_of_ble_eq_true rfl⟩)) (fun r_16 hw_17 => ?_)
            subst hw_17
            exact W.iret (v := s_X1_within (((f (((s_X1_firstMatch 0) + (s_X1_setOf v)) + 8).toNatClampNeg) &&& (-1024)) ||| (v &&& 1023)) how) hx hb hr (fun t ht hW => ⟨s_X1_within (((f (((s_X1_firstMatch 0) + (s_X1_setOf v)) + 8).toNatClampNeg) &&& (-1024)) ||| (v &&& 1023)) how, rfl, by simp only [s_X1_locate, if_pos c_1, if_neg c_4, if_pos c_5, if_neg c_12, if_neg c_15], ht⟩) (fun q h => by cases h) dX1_locate_124
          · skip
            refine lv_iload_n hx hb dX1_locate_96 rfl (lv_at hl 4 rfl) ?_
            refine lv_if_ne (tgt := 105) hx hb dX1_locate_97 (by decide) (fun c_18 => ?_) (fun c_18 => ?_)
            · exact absurd c_5 c_18
            · skip
              refine lv_bipush (v := (-4)) hx hb dX1_locate_100 (by decide) ?_
              refine lv_goto (tgt := 107) hx hb dX1_locate_102 (by decide) ?_
              exact W.iret (v := (-4)) hx hb hr (fun t ht hW => ⟨(-4), rfl, by simp only [s_X1_locate, if_pos c_1, if_neg c_4, if_pos c_5, if_neg c_12, if_pos c_15], ht⟩) (fun q h => by cases h) dX1_locate_107
        · skip
          refine lv_iload_n hx hb dX1_locate_61 rfl (lv_at hl 3 rfl) ?_
          refine lv_if_ne (tgt := 70) hx hb dX1_locate_62 (by decide) (fun c_19 => ?_) (fun c_19 => ?_)
          · exact absurd c_5 c_19
          · skip
            refine lv_bipush (v := (-10)) hx hb dX1_locate_65 (by decide) ?_
            refine lv_goto (tgt := 72) hx hb dX1_locate_67 (by decide) ?_
            exact W.iret (v := (-10)) hx hb hr (fun t ht hW => ⟨(-10), rfl, by simp only [s_X1_locate, if_pos c_1, if_neg c_4, if_pos c_5, if_pos c_12], ht⟩) (fun q h => by cases h) dX1_locate_72
      · skip
        refine lv_iconst (v := 1) hx hb dX1_locate_32 (by decide) ?_
        refine lv_goto (tgt := 37) hx hb dX1_locate_33 (by decide) ?_
        refine vp_callSi (va_Run.run (va_runS (As := [.int 1]) (rest := []) ⟨hx, hb, hml, hown, hts⟩ (c_X1_firstMatch l 1) (va_cwS 1 hts gX1_locate_X1_firstMatch rfl rfl rfl (by decide +kernel) ⟨Nat.le_of_ble_eq_true rfl, Nat.le_of_ble_eq_true rfl⟩) ⟨fun a U g mk q => q, fun U hU hW => ⟨rfl, trivial⟩⟩ rfl rfl hl.1 rfl (lv_room (Nat.le_of_ble_eq_true rfl)) dX1_locate_37 ⟨Nat.le_of_ble_eq_true rfl, Nat.le_of_ble_eq_true rfl⟩)) (fun r_20 hw_21 => ?_)
        subst hw_21
        refine lv_iload_n hx hb dX1_locate_40 rfl (lv_at hl 1 rfl) ?_
        refine vp_callSi (va_Run.run (va_runS (As := [.int v]) (rest := [.int (s_X1_firstMatch 1)]) ⟨hx, hb, hml, hown, hts⟩ (c_X1_setOf l v) (va_cwS 1 hts gX1_locate_X1_setOf rfl rfl rfl (by decide +kernel) ⟨Nat.le_of_ble_eq_true rfl, Nat.le_of_ble_eq_true rfl⟩) ⟨fun a U g mk q => q, fun U hU hW => ⟨rfl, trivial⟩⟩ rfl rfl hl.1 rfl (lv_room (Nat.le_of_ble_eq_true rfl)) dX1_locate_41 ⟨Nat.le_of_ble_eq_true rfl, Nat.le_of_ble_eq_true rfl⟩)) (fun r_22 hw_23 => ?_)
        subst hw_23
        refine lv_iadd hx hb dX1_locate_44 ?_
        refine lv_istore (lv' := [(4, .int ((s_X1_firstMatch 1) + (s_X1_setOf v))), (0, .ref h0), (1, .int v), (2, .int how), (3, .int wd)]) hx hb dX1_locate_45 hl (by decide) rfl (fun ls hl => ?_)
        refine lv_aload_n hx hb dX1_locate_47 rfl (lv_at hl 1 rfl) ?_
        refine va_get (D := (dC, dI)) (ci := 1) (v := .ref sp) (C := RX1) (T := TX1) (N := 8) hx hb hts miX1_locate_X1 hown hK hP 0 rfl rfl 1 (by decide) (hts _ mbX1_locate_1) (fun _ h9 => h9) rfl dX1_locate_48 ?_
        refine lv_iload hx hb dX1_locate_51 (lv_at hl 0 rfl) ?_
        refine va_iald hx hb hK hP 1 0 rfl rfl (in_m 1 v) dX1_locate_53 ?_
        refine lv_iload_n hx hb dX1_locate_54 rfl (lv_at hl 2 rfl) ?_
        refine vp_callSi (va_Run.run (va_runS (As := [.int (f ((s_X1_firstMatch 1) + (s_X1_setOf v)).toNatClampNeg), .int v]) (rest := []) ⟨hx, hb, hml, hown, hts⟩ (c_X1_isOfPage l (f ((s_X1_firstMatch 1) + (s_X1_setOf v)).toNatClampNeg) v) (va_cwS 2 hts gX1_locate_X1_isOfPage rfl rfl rfl (by decide +kernel) ⟨Nat.le_of_ble_eq_true rfl, Nat.le_of_ble_eq_true rfl⟩) ⟨fun a U g mk q => q, fun U hU hW => ⟨rfl, trivial⟩⟩ rfl rfl hl.1 rfl (lv_room (Nat.le_of_ble_eq_true rfl)) dX1_locate_55 ⟨Nat.le_of_ble_eq_true rfl, Nat.le_of_ble_eq_true rfl⟩)) (fun r_24 hw_25 => ?_)
        subst hw_25
        refine lv_if_ne (tgt := 73) hx hb dX1_locate_58 (by decide) (fun c_26 => ?_) (fun c_26 => ?_)
        · skip
          refine lv_aload_n hx hb dX1_locate_73 rfl (lv_at hl 1 rfl) ?_
          refine va_get (D := (dC, dI)) (ci := 1) (v := .ref sp) (C := RX1) (T := TX1) (N := 8) hx hb hts miX1_locate_X1 hown hK hP 0 rfl rfl 1 (by decide) (hts _ mbX1_locate_1) (fun _ h9 => h9) rfl dX1_locate_74 ?_
          refine lv_iload hx hb dX1_locate_77 (lv_at hl 0 rfl) ?_
          refine lv_bipush (v := 8) hx hb dX1_locate_79 (by decide) ?_
          refine lv_iadd hx hb dX1_locate_81 ?_
          refine va_iald hx hb hK hP 1 0 rfl rfl (in_p 1 v) dX1_locate_82 ?_
          refine lv_istore (lv' := [(5, .int (f (((s_X1_firstMatch 1) + (s_X1_setOf v)) + 8).toNatClampNeg)), (4, .int ((s_X1_firstMatch 1) + (s_X1_setOf v))), (0, .ref h0), (1, .int v), (2, .int how), (3, .int wd)]) hx hb dX1_locate_83 hl (by decide) rfl (fun ls hl => ?_)
          refine lv_iload hx hb dX1_locate_85 (lv_at hl 0 rfl) ?_
          refine lv_aload_n hx hb dX1_locate_87 rfl (lv_at hl 2 rfl) ?_
          refine lv_iload_n hx hb dX1_locate_88 rfl (lv_at hl 4 rfl) ?_
          have hPc := hP.sub (ws' := [(h0, .inr (1, [.ref me, .ref sp, .int fa, .int fl, .int fd, .int cr, .int lo, .int so])), (sp, .inl (cI, 33, .inl f))]) [0, 1] rfl
          have hKc := hK.sub (tys' := [(cI, .int)]) [0] rfl
          refine vp_callSi (va_Run.run (va_runV (As := [.int how]) (rest := [.int (f (((s_X1_firstMatch 1) + (s_X1_setOf v)) + 8).toNatClampNeg)]) ⟨hx, hb, hml, hown, hts⟩ (c_X1_neededRight l dC dI h0 me sp cI f fa fl fd cr lo so how) (cwV 1 hts gX1_locate_X1_neededRight rfl rfl rfl (by decide +kernel) ⟨Nat.le_of_ble_eq_true rfl, Nat.le_of_ble_eq_true rfl⟩) ⟨fun a U g mk q => by obtain ⟨q0, qP, qK⟩ := q; exact ⟨q0, qP, va_K.moved (u := U) (U := U.calling g mk a) (Vm.Alike.refl U.vm) qK⟩, va_recv hKc hPc (ci := 1) (q0 := 0) rfl rfl, fun U hU hW => ⟨rfl, by rw [hU]; exact hPc, va_K.moved hW.alike hKc⟩⟩ rfl rfl hl.1 rfl (lv_room (Nat.le_of_ble_eq_true rfl)) dX1_locate_89 ⟨Nat.le_of_ble_eq_true rfl, Nat.le_of_ble_eq_true rfl⟩)) (fun r_27 hw_28 => ?_)
          subst hw_28
          refine lv_iand hx hb dX1_locate_92 ?_
          refine lv_if_ne (tgt := 108) hx hb dX1_locate_93 (by decide) (fun c_29 => ?_) (fun c_29 => ?_)
          · skip
            refine lv_iload hx hb dX1_locate_108 (lv_at hl 0 rfl) ?_
            refine lv_sipush (v := (-1024)) hx hb dX1_locate_110 (by decide) ?_
            refine lv_iand hx hb dX1_locate_113 ?_
            refine lv_iload_n hx hb dX1_locate_114 rfl (lv_at hl 3 rfl) ?_
            refine lv_sipush (v := 1023) hx hb dX1_locate_115 (by decide) ?_
            refine lv_iand hx hb dX1_locate_118 ?_
            refine lv_ior hx hb dX1_locate_119 ?_
            refine lv_iload_n hx hb dX1_locate_120 rfl (lv_at hl 4 rfl) ?_
            refine vp_callSi (va_Run.run (va_runS (As := [.int (((f (((s_X1_firstMatch 1) + (s_X1_setOf v)) + 8).toNatClampNeg) &&& (-1024)) ||| (v &&& 1023)), .int how]) (rest := []) ⟨hx, hb, hml, hown, hts⟩ (c_X1_within l (((f (((s_X1_firstMatch 1) + (s_X1_setOf v)) + 8).toNatClampNeg) &&& (-1024)) ||| (v &&& 1023)) how) (va_cwS 2 hts gX1_locate_X1_within rfl rfl rfl (by decide +kernel) ⟨Nat.le_of_ble_eq_true rfl, Nat.le_of_ble_eq_true rfl⟩) ⟨fun a U g mk q => q, fun U hU hW => ⟨rfl, trivial⟩⟩ rfl rfl hl.1 rfl (lv_room (Nat.le_of_ble_eq_true rfl)) dX1_locate_121 ⟨Nat.le_of_ble_eq_true rfl, Nat.le_of_ble_eq_true rfl⟩)) (fun r_30 hw_31 => ?_)
            subst hw_31
            exact W.iret (v := s_X1_within (((f (((s_X1_firstMatch 1) + (s_X1_setOf v)) + 8).toNatClampNeg) &&& (-1024)) ||| (v &&& 1023)) how) hx hb hr (fun t ht hW => ⟨s_X1_within (((f (((s_X1_firstMatch 1) + (s_X1_setOf v)) + 8).toNatClampNeg) &&& (-1024)) ||| (v &&& 1023)) how, rfl, by simp only [s_X1_locate, if_pos c_1, if_neg c_4, if_neg c_5, if_neg c_26, if_neg c_29], ht⟩) (fun q h => by cases h) dX1_locate_124
          · skip
            refine lv_iload_n hx hb dX1_locate_96 rfl (lv_at hl 4 rfl) ?_
            refine lv_if_ne (tgt := 105) hx hb dX1_locate_97 (by decide) (fun c_32 => ?_) (fun c_32 => ?_)
            · skip
              refine lv_bipush (v := (-3)) hx hb dX1_locate_105 (by decide) ?_
              exact W.iret (v := (-3)) hx hb hr (fun t ht hW => ⟨(-3), rfl, by simp only [s_X1_locate, if_pos c_1, if_neg c_4, if_neg c_5, if_neg c_26, if_pos c_29], ht⟩) (fun q h => by cases h) dX1_locate_107
            · exact absurd c_32 c_5
        · skip
          refine lv_iload_n hx hb dX1_locate_61 rfl (lv_at hl 3 rfl) ?_
          refine lv_if_ne (tgt := 70) hx hb dX1_locate_62 (by decide) (fun c_33 => ?_) (fun c_33 => ?_)
          · skip
            refine lv_bipush (v := (-9)) hx hb dX1_locate_70 (by decide) ?_
            exact W.iret (v := (-9)) hx hb hr (fun t ht hW => ⟨(-9), rfl, by simp only [s_X1_locate, if_pos c_1, if_neg c_4, if_neg c_5, if_pos c_26], ht⟩) (fun q h => by cases h) dX1_locate_72
          · exact absurd c_33 c_5
    · skip
      refine lv_iload_n hx hb dX1_locate_22 rfl (lv_at hl 1 rfl) ?_
      refine lv_iload_n hx hb dX1_locate_23 rfl (lv_at hl 2 rfl) ?_
      refine vp_callSi (va_Run.run (va_runS (As := [.int v, .int how]) (rest := []) ⟨hx, hb, hml, hown, hts⟩ (c_X1_within l v how) (va_cwS 2 hts gX1_locate_X1_within rfl rfl rfl (by decide +kernel) ⟨Nat.le_of_ble_eq_true rfl, Nat.le_of_ble_eq_true rfl⟩) ⟨fun a U g mk q => q, fun U hU hW => ⟨rfl, trivial⟩⟩ rfl rfl hl.1 rfl (lv_room (Nat.le_of_ble_eq_true rfl)) dX1_locate_24 ⟨Nat.le_of_ble_eq_true rfl, Nat.le_of_ble_eq_true rfl⟩)) (fun r_34 hw_35 => ?_)
      subst hw_35
      exact W.iret (v := s_X1_within v how) hx hb hr (fun t ht hW => ⟨s_X1_within v how, rfl, by simp only [s_X1_locate, if_pos c_1, if_pos c_4], ht⟩) (fun q h => by cases h) dX1_locate_27
  · skip
    refine lv_iload_n hx hb dX1_locate_4 rfl (lv_at hl 1 rfl) ?_
    refine vp_callSi (va_Run.run (va_runS (As := [.int v]) (rest := []) ⟨hx, hb, hml, hown, hts⟩ (c_X1_isAligned l v) (va_cwS 1 hts gX1_locate_X1_isAligned rfl rfl rfl (by decide +kernel) ⟨Nat.le_of_ble_eq_true rfl, Nat.le_of_ble_eq_true rfl⟩) ⟨fun a U g mk q => q, fun U hU hW => ⟨rfl, trivial⟩⟩ rfl rfl hl.1 rfl (lv_room (Nat.le_of_ble_eq_true rfl)) dX1_locate_5 ⟨Nat.le_of_ble_eq_true rfl, Nat.le_of_ble_eq_true rfl⟩)) (fun r_36 hw_37 => ?_)
    subst hw_37
    refine lv_if_ne (tgt := 14) hx hb dX1_locate_8 (by decide) (fun c_38 => ?_) (fun c_38 => ?_)
    · skip
      refine lv_aload_n hx hb dX1_locate_14 rfl (lv_at hl 0 rfl) ?_
      refine lv_iload_n hx hb dX1_locate_15 rfl (lv_at hl 2 rfl) ?_
      have hPc := hP.sub (ws' := [(h0, .inr (1, [.ref me, .ref sp, .int fa, .int fl, .int fd, .int cr, .int lo, .int so])), (sp, .inl (cI, 33, .inl f))]) [0, 1] rfl
      have hKc := hK.sub (tys' := [(cI, .int)]) [0] rfl
      refine vp_callSi (va_Run.run (va_runV (As := [.int how]) (rest := []) ⟨hx, hb, hml, hown, hts⟩ (c_X1_isMapped l dC dI h0 me sp cI f fa fl fd cr lo so how) (cwV 1 hts gX1_locate_X1_isMapped rfl rfl rfl (by decide +kernel) ⟨Nat.le_of_ble_eq_true rfl, Nat.le_of_ble_eq_true rfl⟩) ⟨fun a U g mk q => by obtain ⟨q0, qP, qK⟩ := q; exact ⟨q0, qP, va_K.moved (u := U) (U := U.calling g mk a) (Vm.Alike.refl U.vm) qK⟩, va_recv hKc hPc (ci := 1) (q0 := 0) rfl rfl, fun U hU hW => ⟨rfl, by rw [hU]; exact hPc, va_K.moved hW.alike hKc⟩⟩ rfl rfl hl.1 rfl (lv_room (Nat.le_of_ble_eq_true rfl)) dX1_locate_16 ⟨Nat.le_of_ble_eq_true rfl, Nat.le_of_ble_eq_true rfl⟩)) (fun r_39 hw_40 => ?_)
      subst hw_40
      refine lv_if_ne (tgt := 28) hx hb dX1_locate_19 (by decide) (fun c_41 => ?_) (fun c_41 => ?_)
      · skip
        refine lv_iload_n hx hb dX1_locate_28 rfl (lv_at hl 2 rfl) ?_
        refine lv_if_eq (tgt := 36) hx hb dX1_locate_29 (by decide) (fun c_42 => ?_) (fun c_42 => ?_)
        · skip
          refine lv_iconst (v := 0) hx hb dX1_locate_36 (by decide) ?_
          refine vp_callSi (va_Run.run (va_runS (As := [.int 0]) (rest := []) ⟨hx, hb, hml, hown, hts⟩ (c_X1_firstMatch l 0) (va_cwS 1 hts gX1_locate_X1_firstMatch rfl rfl rfl (by decide +kernel) ⟨Nat.le_of_ble_eq_true rfl, Nat.le_of_ble_eq_true rfl⟩) ⟨fun a U g mk q => q, fun U hU hW => ⟨rfl, trivial⟩⟩ rfl rfl hl.1 rfl (lv_room (Nat.le_of_ble_eq_true rfl)) dX1_locate_37 ⟨Nat.le_of_ble_eq_true rfl, Nat.le_of_ble_eq_true rfl⟩)) (fun r_43 hw_44 => ?_)
          subst hw_44
          refine lv_iload_n hx hb dX1_locate_40 rfl (lv_at hl 1 rfl) ?_
          refine vp_callSi (va_Run.run (va_runS (As := [.int v]) (rest := [.int (s_X1_firstMatch 0)]) ⟨hx, hb, hml, hown, hts⟩ (c_X1_setOf l v) (va_cwS 1 hts gX1_locate_X1_setOf rfl rfl rfl (by decide +kernel) ⟨Nat.le_of_ble_eq_true rfl, Nat.le_of_ble_eq_true rfl⟩) ⟨fun a U g mk q => q, fun U hU hW => ⟨rfl, trivial⟩⟩ rfl rfl hl.1 rfl (lv_room (Nat.le_of_ble_eq_true rfl)) dX1_locate_41 ⟨Nat.le_of_ble_eq_true rfl, Nat.le_of_ble_eq_true rfl⟩)) (fun r_45 hw_46 => ?_)
          subst hw_46
          refine lv_iadd hx hb dX1_locate_44 ?_
          refine lv_istore (lv' := [(4, .int ((s_X1_firstMatch 0) + (s_X1_setOf v))), (0, .ref h0), (1, .int v), (2, .int how), (3, .int wd)]) hx hb dX1_locate_45 hl (by decide) rfl (fun ls hl => ?_)
          refine lv_aload_n hx hb dX1_locate_47 rfl (lv_at hl 1 rfl) ?_
          refine va_get (D := (dC, dI)) (ci := 1) (v := .ref sp) (C := RX1) (T := TX1) (N := 8) hx hb hts miX1_locate_X1 hown hK hP 0 rfl rfl 1 (by decide) (hts _ mbX1_locate_1) (fun _ h9 => h9) rfl dX1_locate_48 ?_
          refine lv_iload hx hb dX1_locate_51 (lv_at hl 0 rfl) ?_
          refine va_iald hx hb hK hP 1 0 rfl rfl (in_m 0 v) dX1_locate_53 ?_
          refine lv_iload_n hx hb dX1_locate_54 rfl (lv_at hl 2 rfl) ?_
          refine vp_callSi (va_Run.run (va_runS (As := [.int (f ((s_X1_firstMatch 0) + (s_X1_setOf v)).toNatClampNeg), .int v]) (rest := []) ⟨hx, hb, hml, hown, hts⟩ (c_X1_isOfPage l (f ((s_X1_firstMatch 0) + (s_X1_setOf v)).toNatClampNeg) v) (va_cwS 2 hts gX1_locate_X1_isOfPage rfl rfl rfl (by decide +kernel) ⟨Nat.le_of_ble_eq_true rfl, Nat.le_of_ble_eq_true rfl⟩) ⟨fun a U g mk q => q, fun U hU hW => ⟨rfl, trivial⟩⟩ rfl rfl hl.1 rfl (lv_room (Nat.le_of_ble_eq_true rfl)) dX1_locate_55 ⟨Nat.le_of_ble_eq_true rfl, Nat.le_of_ble_eq_true rfl⟩)) (fun r_47 hw_48 => ?_)
          subst hw_48
          refine lv_if_ne (tgt := 73) hx hb dX1_locate_58 (by decide) (fun c_49 => ?_) (fun c_49 => ?_)
          · skip
            refine lv_aload_n hx hb dX1_locate_73 rfl (lv_at hl 1 rfl) ?_
            refine va_get (D := (dC, dI)) (ci := 1) (v := .ref sp) (C := RX1) (T := TX1) (N := 8) hx hb hts miX1_locate_X1 hown hK hP 0 rfl rfl 1 (by decide) (hts _ mbX1_locate_1) (fun _ h9 => h9) rfl dX1_locate_74 ?_
            refine lv_iload hx hb dX1_locate_77 (lv_at hl 0 rfl) ?_
            refine lv_bipush (v := 8) hx hb dX1_locate_79 (by decide) ?_
            refine lv_iadd hx hb dX1_locate_81 ?_
            refine va_iald hx hb hK hP 1 0 rfl rfl (in_p 0 v) dX1_locate_82 ?_
            refine lv_istore (lv' := [(5, .int (f (((s_X1_firstMatch 0) + (s_X1_setOf v)) + 8).toNatClampNeg)), (4, .int ((s_X1_firstMatch 0) + (s_X1_setOf v))), (0, .ref h0), (1, .int v), (2, .int how), (3, .int wd)]) hx hb dX1_locate_83 hl (by decide) rfl (fun ls hl => ?_)
            refine lv_iload hx hb dX1_locate_85 (lv_at hl 0 rfl) ?_
            refine lv_aload_n hx hb dX1_locate_87 rfl (lv_at hl 2 rfl) ?_
            refine lv_iload_n hx hb dX1_locate_88 rfl (lv_at hl 4 rfl) ?_
            have hPc := hP.sub (ws' := [(h0, .inr (1, [.ref me, .ref sp, .int fa, .int fl, .int fd, .int cr, .int lo, .int so])), (sp, .inl (cI, 33, .inl f))]) [0, 1] rfl
            have hKc := hK.sub (tys' := [(cI, .int)]) [0] rfl
            refine vp_callSi (va_Run.run (va_runV (As := [.int how]) (rest := [.int (f (((s_X1_firstMatch 0) + (s_X1_setOf v)) + 8).toNatClampNeg)]) ⟨hx, hb, hml, hown, hts⟩ (c_X1_neededRight l dC dI h0 me sp cI f fa fl fd cr lo so how) (cwV 1 hts gX1_locate_X1_neededRight rfl rfl rfl (by decide +kernel) ⟨Nat.le_of_ble_eq_true rfl, Nat.le_of_ble_eq_true rfl⟩) ⟨fun a U g mk q => by obtain ⟨q0, qP, qK⟩ := q; exact ⟨q0, qP, va_K.moved (u := U) (U := U.calling g mk a) (Vm.Alike.refl U.vm) qK⟩, va_recv hKc hPc (ci := 1) (q0 := 0) rfl rfl, fun U hU hW => ⟨rfl, by rw [hU]; exact hPc, va_K.moved hW.alike hKc⟩⟩ rfl rfl hl.1 rfl (lv_room (Nat.le_of_ble_eq_true rfl)) dX1_locate_89 ⟨Nat.le_of_ble_eq_true rfl, Nat.le_of_ble_eq_true rfl⟩)) (fun r_50 hw_51 => ?_)
            subst hw_51
            refine lv_iand hx hb dX1_locate_92 ?_
            refine lv_if_ne (tgt := 108) hx hb dX1_locate_93 (by decide) (fun c_52 => ?_) (fun c_52 => ?_)
            · skip
              refine lv_iload hx hb dX1_locate_108 (lv_at hl 0 rfl) ?_
              refine lv_sipush (v := (-1024)) hx hb dX1_locate_110 (by decide) ?_
              refine lv_iand hx hb dX1_locate_113 ?_
              refine lv_iload_n hx hb dX1_locate_114 rfl (lv_at hl 3 rfl) ?_
              refine lv_sipush (v := 1023) hx hb dX1_locate_115 (by decide) ?_
              refine lv_iand hx hb dX1_locate_118 ?_
              refine lv_ior hx hb dX1_locate_119 ?_
              refine lv_iload_n hx hb dX1_locate_120 rfl (lv_at hl 4 rfl) ?_
              refine vp_callSi (va_Run.run (va_runS (As := [.int (((f (((s_X1_firstMatch 0) + (s_X1_setOf v)) + 8).toNatClampNeg) &&& (-1024)) ||| (v &&& 1023)), .int how]) (rest := []) ⟨hx, hb, hml, hown, hts⟩ (c_X1_within l (((f (((s_X1_firstMatch 0) + (s_X1_setOf v)) + 8).toNatClampNeg) &&& (-1024)) ||| (v &&& 1023)) how) (va_cwS 2 hts gX1_locate_X1_within rfl rfl rfl (by decide +kernel) ⟨Nat.le_of_ble_eq_true rfl, Nat.le_of_ble_eq_true rfl⟩) ⟨fun a U g mk q => q, fun U hU hW => ⟨rfl, trivial⟩⟩ rfl rfl hl.1 rfl (lv_room (Nat.le_of_ble_eq_true rfl)) dX1_locate_121 ⟨Nat.le_of_ble_eq_true rfl, Nat.le_of_ble_eq_true rfl⟩)) (fun r_53 hw_54 => ?_)
              subst hw_54
              exact W.iret (v := s_X1_within (((f (((s_X1_firstMatch 0) + (s_X1_setOf v)) + 8).toNatClampNeg) &&& (-1024)) ||| (v &&& 1023)) how) hx hb hr (fun t ht hW => ⟨s_X1_within (((f (((s_X1_firstMatch 0) + (s_X1_setOf v)) + 8).toNatClampNeg) &&& (-1024)) ||| (v &&& 1023)) how, rfl, by simp only [s_X1_locate, if_neg c_1, if_neg c_38, if_neg c_41, if_pos c_42, if_neg c_49, if_neg c_52], ht⟩) (fun q h => by cases h) dX1_locate_124
            · skip
              refine lv_iload_n hx hb dX1_locate_96 rfl (lv_at hl 4 rfl) ?_
              refine lv_if_ne (tgt := 105) hx hb dX1_locate_97 (by decide) (fun c_55 => ?_) (fun c_55 => ?_)
              · exact absurd c_42 c_55
              · skip
                refine lv_bipush (v := (-4)) hx hb dX1_locate_100 (by decide) ?_
                refine lv_goto (tgt := 107) hx hb dX1_locate_102 (by decide) ?_
                exact W.iret (v := (-4)) hx hb hr (fun t ht hW => ⟨(-4), rfl, by simp only [s_X1_locate, if_neg c_1, if_neg c_38, if_neg c_41, if_pos c_42, if_neg c_49, if_pos c_52], ht⟩) (fun q h => by cases h) dX1_locate_107
          · skip
            refine lv_iload_n hx hb dX1_locate_61 rfl (lv_at hl 3 rfl) ?_
            refine lv_if_ne (tgt := 70) hx hb dX1_locate_62 (by decide) (fun c_56 => ?_) (fun c_56 => ?_)
            · exact absurd c_42 c_56
            · skip
              refine lv_bipush (v := (-10)) hx hb dX1_locate_65 (by decide) ?_
              refine lv_goto (tgt := 72) hx hb dX1_locate_67 (by decide) ?_
              exact W.iret (v := (-10)) hx hb hr (fun t ht hW => ⟨(-10), rfl, by simp only [s_X1_locate, if_neg c_1, if_neg c_38, if_neg c_41, if_pos c_42, if_pos c_49], ht⟩) (fun q h => by cases h) dX1_locate_72
        · skip
          refine lv_iconst (v := 1) hx hb dX1_locate_32 (by decide) ?_
          refine lv_goto (tgt := 37) hx hb dX1_locate_33 (by decide) ?_
          refine vp_callSi (va_Run.run (va_runS (As := [.int 1]) (rest := []) ⟨hx, hb, hml, hown, hts⟩ (c_X1_firstMatch l 1) (va_cwS 1 hts gX1_locate_X1_firstMatch rfl rfl rfl (by decide +kernel) ⟨Nat.le_of_ble_eq_true rfl, Nat.le_of_ble_eq_true rfl⟩) ⟨fun a U g mk q => q, fun U hU hW => ⟨rfl, trivial⟩⟩ rfl rfl hl.1 rfl (lv_room (Nat.le_of_ble_eq_true rfl)) dX1_locate_37 ⟨Nat.le_of_ble_eq_true rfl, Nat.le_of_ble_eq_true rfl⟩)) (fun r_57 hw_58 => ?_)
          subst hw_58
          refine lv_iload_n hx hb dX1_locate_40 rfl (lv_at hl 1 rfl) ?_
          refine vp_callSi (va_Run.run (va_runS (As := [.int v]) (rest := [.int (s_X1_firstMatch 1)]) ⟨hx, hb, hml, hown, hts⟩ (c_X1_setOf l v) (va_cwS 1 hts gX1_locate_X1_setOf rfl rfl rfl (by decide +kernel) ⟨Nat.le_of_ble_eq_true rfl, Nat.le_of_ble_eq_true rfl⟩) ⟨fun a U g mk q => q, fun U hU hW => ⟨rfl, trivial⟩⟩ rfl rfl hl.1 rfl (lv_room (Nat.le_of_ble_eq_true rfl)) dX1_locate_41 ⟨Nat.le_of_ble_eq_true rfl, Nat.le_of_ble_eq_true rfl⟩)) (fun r_59 hw_60 => ?_)
          subst hw_60
          refine lv_iadd hx hb dX1_locate_44 ?_
          refine lv_istore (lv' := [(4, .int ((s_X1_firstMatch 1) + (s_X1_setOf v))), (0, .ref h0), (1, .int v), (2, .int how), (3, .int wd)]) hx hb dX1_locate_45 hl (by decide) rfl (fun ls hl => ?_)
          refine lv_aload_n hx hb dX1_locate_47 rfl (lv_at hl 1 rfl) ?_
          refine va_get (D := (dC, dI)) (ci := 1) (v := .ref sp) (C := RX1) (T := TX1) (N := 8) hx hb hts miX1_locate_X1 hown hK hP 0 rfl rfl 1 (by decide) (hts _ mbX1_locate_1) (fun _ h9 => h9) rfl dX1_locate_48 ?_
          refine lv_iload hx hb dX1_locate_51 (lv_at hl 0 rfl) ?_
          refine va_iald hx hb hK hP 1 0 rfl rfl (in_m 1 v) dX1_locate_53 ?_
          refine lv_iload_n hx hb dX1_locate_54 rfl (lv_at hl 2 rfl) ?_
          refine vp_callSi (va_Run.run (va_runS (As := [.int (f ((s_X1_firstMatch 1) + (s_X1_setOf v)).toNatClampNeg), .int v]) (rest := []) ⟨hx, hb, hml, hown, hts⟩ (c_X1_isOfPage l (f ((s_X1_firstMatch 1) + (s_X1_setOf v)).toNatClampNeg) v) (va_cwS 2 hts gX1_locate_X1_isOfPage rfl rfl rfl (by decide +kernel) ⟨Nat.le_of_ble_eq_true rfl, Nat.le_of_ble_eq_true rfl⟩) ⟨fun a U g mk q => q, fun U hU hW => ⟨rfl, trivial⟩⟩ rfl rfl hl.1 rfl (lv_room (Nat.le_of_ble_eq_true rfl)) dX1_locate_55 ⟨Nat.le_of_ble_eq_true rfl, Nat.le_of_ble_eq_true rfl⟩)) (fun r_61 hw_62 => ?_)
          subst hw_62
          refine lv_if_ne (tgt := 73) hx hb dX1_locate_58 (by decide) (fun c_63 => ?_) (fun c_63 => ?_)
          · skip
            refine lv_aload_n hx hb dX1_locate_73 rfl (lv_at hl 1 rfl) ?_
            refine va_get (D := (dC, dI)) (ci := 1) (v := .ref sp) (C := RX1) (T := TX1) (N := 8) hx hb hts miX1_locate_X1 hown hK hP 0 rfl rfl 1 (by decide) (hts _ mbX1_locate_1) (fun _ h9 => h9) rfl dX1_locate_74 ?_
            refine lv_iload hx hb dX1_locate_77 (lv_at hl 0 rfl) ?_
            refine lv_bipush (v := 8) hx hb dX1_locate_79 (by decide) ?_
            refine lv_iadd hx hb dX1_locate_81 ?_
            refine va_iald hx hb hK hP 1 0 rfl rfl (in_p 1 v) dX1_locate_82 ?_
            refine lv_istore (lv' := [(5, .int (f (((s_X1_firstMatch 1) + (s_X1_setOf v)) + 8).toNatClampNeg)), (4, .int ((s_X1_firstMatch 1) + (s_X1_setOf v))), (0, .ref h0), (1, .int v), (2, .int how), (3, .int wd)]) hx hb dX1_locate_83 hl (by decide) rfl (fun ls hl => ?_)
            refine lv_iload hx hb dX1_locate_85 (lv_at hl 0 rfl) ?_
            refine lv_aload_n hx hb dX1_locate_87 rfl (lv_at hl 2 rfl) ?_
            refine lv_iload_n hx hb dX1_locate_88 rfl (lv_at hl 4 rfl) ?_
            have hPc := hP.sub (ws' := [(h0, .inr (1, [.ref me, .ref sp, .int fa, .int fl, .int fd, .int cr, .int lo, .int so])), (sp, .inl (cI, 33, .inl f))]) [0, 1] rfl
            have hKc := hK.sub (tys' := [(cI, .int)]) [0] rfl
            refine vp_callSi (va_Run.run (va_runV (As := [.int how]) (rest := [.int (f (((s_X1_firstMatch 1) + (s_X1_setOf v)) + 8).toNatClampNeg)]) ⟨hx, hb, hml, hown, hts⟩ (c_X1_neededRight l dC dI h0 me sp cI f fa fl fd cr lo so how) (cwV 1 hts gX1_locate_X1_neededRight rfl rfl rfl (by decide +kernel) ⟨Nat.le_of_ble_eq_true rfl, Nat.le_of_ble_eq_true rfl⟩) ⟨fun a U g mk q => by obtain ⟨q0, qP, qK⟩ := q; exact ⟨q0, qP, va_K.moved (u := U) (U := U.calling g mk a) (Vm.Alike.refl U.vm) qK⟩, va_recv hKc hPc (ci := 1) (q0 := 0) rfl rfl, fun U hU hW => ⟨rfl, by rw [hU]; exact hPc, va_K.moved hW.alike hKc⟩⟩ rfl rfl hl.1 rfl (lv_room (Nat.le_of_ble_eq_true rfl)) dX1_locate_89 ⟨Nat.le_of_ble_eq_true rfl, Nat.le_of_ble_eq_true rfl⟩)) (fun r_64 hw_65 => ?_)
            subst hw_65
            refine lv_iand hx hb dX1_locate_92 ?_
            refine lv_if_ne (tgt := 108) hx hb dX1_locate_93 (by decide) (fun c_66 => ?_) (fun c_66 => ?_)
            · skip
              refine lv_iload hx hb dX1_locate_108 (lv_at hl 0 rfl) ?_
              refine lv_sipush (v := (-1024)) hx hb dX1_locate_110 (by decide) ?_
              refine lv_iand hx hb dX1_locate_113 ?_
              refine lv_iload_n hx hb dX1_locate_114 rfl (lv_at hl 3 rfl) ?_
              refine lv_sipush (v := 1023) hx hb dX1_locate_115 (by decide) ?_
              refine lv_iand hx hb dX1_locate_118 ?_
              refine lv_ior hx hb dX1_locate_119 ?_
              refine lv_iload_n hx hb dX1_locate_120 rfl (lv_at hl 4 rfl) ?_
              refine vp_callSi (va_Run.run (va_runS (As := [.int (((f (((s_X1_firstMatch 1) + (s_X1_setOf v)) + 8).toNatClampNeg) &&& (-1024)) ||| (v &&& 1023)), .int how]) (rest := []) ⟨hx, hb, hml, hown, hts⟩ (c_X1_within l (((f (((s_X1_firstMatch 1) + (s_X1_setOf v)) + 8).toNatClampNeg) &&& (-1024)) ||| (v &&& 1023)) how) (va_cwS 2 hts gX1_locate_X1_within rfl rfl rfl (by decide +kernel) ⟨Nat.le_of_ble_eq_true rfl, Nat.le_of_ble_eq_true rfl⟩) ⟨fun a U g mk q => q, fun U hU hW => ⟨rfl, trivial⟩⟩ rfl rfl hl.1 rfl (lv_room (Nat.le_of_ble_eq_true rfl)) dX1_locate_121 ⟨Nat.le_of_ble_eq_true rfl, Nat.le_of_ble_eq_true rfl⟩)) (fun r_67 hw_68 => ?_)
              subst hw_68
              exact W.iret (v := s_X1_within (((f (((s_X1_firstMatch 1) + (s_X1_setOf v)) + 8).toNatClampNeg) &&& (-1024)) ||| (v &&& 1023)) how) hx hb hr (fun t ht hW => ⟨s_X1_within (((f (((s_X1_firstMatch 1) + (s_X1_setOf v)) + 8).toNatClampNeg) &&& (-1024)) ||| (v &&& 1023)) how, rfl, by simp only [s_X1_locate, if_neg c_1, if_neg c_38, if_neg c_41, if_neg c_42, if_neg c_63, if_neg c_66], ht⟩) (fun q h => by cases h) dX1_locate_124
            · skip
              refine lv_iload_n hx hb dX1_locate_96 rfl (lv_at hl 4 rfl) ?_
              refine lv_if_ne (tgt := 105) hx hb dX1_locate_97 (by decide) (fun c_69 => ?_) (fun c_69 => ?_)
              · skip
                refine lv_bipush (v := (-3)) hx hb dX1_locate_105 (by decide) ?_
                exact W.iret (v := (-3)) hx hb hr (fun t ht hW => ⟨(-3), rfl, by simp only [s_X1_locate, if_neg c_1, if_neg c_38, if_neg c_41, if_neg c_42, if_neg c_63, if_pos c_66], ht⟩) (fun q h => by cases h) dX1_locate_107
              · exact absurd c_69 c_42
          · skip
            refine lv_iload_n hx hb dX1_locate_61 rfl (lv_at hl 3 rfl) ?_
            refine lv_if_ne (tgt := 70) hx hb dX1_locate_62 (by decide) (fun c_70 => ?_) (fun c_70 => ?_)
            · skip
              refine lv_bipush (v := (-9)) hx hb dX1_locate_70 (by decide) ?_
              exact W.iret (v := (-9)) hx hb hr (fun t ht hW => ⟨(-9), rfl, by simp only [s_X1_locate, if_neg c_1, if_neg c_38, if_neg c_41, if_neg c_42, if_pos c_63], ht⟩) (fun q h => by cases h) dX1_locate_72
            · exact absurd c_70 c_42
      · skip
        refine lv_iload_n hx hb dX1_locate_22 rfl (lv_at hl 1 rfl) ?_
        refine lv_iload_n hx hb dX1_locate_23 rfl (lv_at hl 2 rfl) ?_
        refine vp_callSi (va_Run.run (va_runS (As := [.int v, .int how]) (rest := []) ⟨hx, hb, hml, hown, hts⟩ (c_X1_within l v how) (va_cwS 2 hts gX1_locate_X1_within rfl rfl rfl (by decide +kernel) ⟨Nat.le_of_ble_eq_true rfl, Nat.le_of_ble_eq_true rfl⟩) ⟨fun a U g mk q => q, fun U hU hW => ⟨rfl, trivial⟩⟩ rfl rfl hl.1 rfl (lv_room (Nat.le_of_ble_eq_true rfl)) dX1_locate_24 ⟨Nat.le_of_ble_eq_true rfl, Nat.le_of_ble_eq_true rfl⟩)) (fun r_71 hw_72 => ?_)
        subst hw_72
        exact W.iret (v := s_X1_within v how) hx hb hr (fun t ht hW => ⟨s_X1_within v how, rfl, by simp only [s_X1_locate, if_neg c_1, if_neg c_38, if_pos c_41], ht⟩) (fun q h => by cases h) dX1_locate_27
    · skip
      refine lv_bipush (v := (-6)) hx hb dX1_locate_11 (by decide) ?_
      exact W.iret (v := (-6)) hx hb hr (fun t ht hW => ⟨(-6), rfl, by simp only [s_X1_locate, if_neg c_1, if_pos c_38], ht⟩) (fun q h => by cases h) dX1_locate_13
end
section
theorem in_k {k : Int32} (h : ¬ s_X1_isSpecial k = 0) : vp_in k 33 := by
  unfold s_X1_isSpecial at h
  rw [vp_in_iff]
  split at h
  · exact absurd rfl h
  · split at h
    · exact absurd rfl h
    · rename_i h1 h2
      rw [Int32.lt_iff_toInt_lt] at h1
      rw [Int32.le_iff_toInt_le] at h2
      have e0 : (0 : Int32).toInt = 0 := by decide
      have e1 : (33 : Int32).toInt = 33 := by decide
      omega
set_option maxRecDepth 100000 in
theorem miX1_set_X1 : ∀ w ∈ u_ws RX1 TX1 8, w ∈ wsX1_set := by decide +kernel
set_option maxRecDepth 100000 in
theorem mbX1_set_1 : (.fieldLink RX1 16 "SoftMaps" "specials" "[I" : Cond) ∈ wsX1_set := by decide +kernel
def s_X1_set (f : Nat → Int32) (k : Int32) (w : Int32) : Int32 × (Nat → Int32) :=
  if s_X1_isSpecial k = 0 then
    (0, f)
  else
    if k = 32 then
      (1, upd f k.toNatClampNeg (w &&& 7))
    else
      (1, upd f k.toNatClampNeg w)
set_option maxHeartbeats 4000000 in
set_option maxRecDepth 100000 in
theorem c_X1_set (l : Launch) (dC : Nat → ClassId) (dI : Nat → Nat → Nat) (sz : Nat) (h0 me sp : Nat) (cI : ClassId) (f : Nat → Int32) (fa fl fd cr lo so : Int32) (k : Int32) (w : Int32)  : Met l yX1_set wsX1_set ({ frames := 1, cells := 0, slots := 0, locals := 20 }) (va_Pc [.ref h0, .int k, .int w] (fun U => U.heap.size = sz ∧ va_P (dC, dI) vwCl [(h0, .inr (1, [.ref me, .ref sp, .int fa, .int fl, .int fd, .int cr, .int lo, .int so])), (sp, .inl (cI, 33, .inl f))] U.heap ∧ va_K (dC, dI) vwCl [(cI, .int)] U ∧ va_D (fun _ => True) [(h0, .inr (1, [.ref me, .ref sp, .int fa, .int fl, .int fd, .int cr, .int lo, .int so])), (sp, .inl (cI, 33, .inl f))])) (va_Qi (fun (a_ : Int32) (u : Nat → Int32) => (a_, u) = s_X1_set f k w) (fun (u : Nat → Int32) (t : State) => va_P (dC, dI) vwCl [(h0, .inr (1, [.ref me, .ref sp, .int fa, .int fl, .int fd, .int cr, .int lo, .int so])), (sp, .inl (cI, 33, .inl u))] t.heap ∧ va_K (dC, dI) vwCl [(cI, .int)] t ∧ va_D (va_A [(h0, .inr (1, [.ref me, .ref sp, .int fa, .int fl, .int fd, .int cr, .int lo, .int so])), (sp, .inl (cI, 33, .inl f))] sz) [(h0, .inr (1, [.ref me, .ref sp, .int fa, .int fl, .int fd, .int cr, .int lo, .int so])), (sp, .inl (cI, 33, .inl u))]) (va_A [(h0, .inr (1, [.ref me, .ref sp, .int fa, .int fl, .int fd, .int cr, .int lo, .int so])), (sp, .inl (cI, 33, .inl f))] sz)) 0 0 (va_A [(h0, .inr (1, [.ref me, .ref sp, .int fa, .int fl, .int fd, .int cr, .int lo, .int so])), (sp, .inl (cI, 33, .inl f))] sz) := by
  refine Met.ofW (cc := cX1_set) (maxL := 3) (ret := (some .boolean)) (by decide) rfl ?_
  intro p e s m args below meth c s₁ B hml hv
  obtain ⟨rfl, hsz, hP, hK, hD0⟩ := hv
  have hx := B.exec
  have hb := B.bytes
  have hr := B.returns
  have hts := atoms_spec (ws := wsX1_set) B.pre
  have hown : s.vm.findClass RX1 = some m.cls := findClass_of_methodNamed B.named
  have hlocks := B.notSynchronized
  subst hsz
  have hD := hD0.self (sz := s.heap.size)
  generalize hAe : va_A [(h0, .inr (1, [.ref me, .ref sp, .int fa, .int fl, .int fd, .int cr, .int lo, .int so])), (sp, .inl (cI, 33, .inl f))] s.heap.size = A at hD ⊢
  have hA : ∀ q : Nat, s.heap.size ≤ q → A q := fun q h => by rw [← hAe]; exact Or.inr h
  have hS : va_S A s.heap s.heap [] := va_S.rf
  have hP : va_P (dC, dI) vwCl [(h0, .inr (1, [.ref me, .ref sp, .int fa, .int fl, .int fd, .int cr, .int lo, .int so])), (sp, .inl (cI, 33, .inl f))] s.heap := hP
  have hl := lv_entry ([.ref h0, .int k, .int w]) (n := 3) (Nat.le_of_ble_eq_true rfl)
  rw [lg_entry_eq]
  generalize (lg_sl ([.ref h0, .int k, .int w]) ++ List.replicate (3 - (lg_sl ([.ref h0, .int k, .int w])).length) Slot.unset).toArray = ls at hl ⊢
  have hl : lv_has ls 3 [(0, .ref h0), (1, .int k), (2, .int w)] := hl
  refine lv_iload_n hx hb dX1_set_0 rfl (lv_at hl 1 rfl) ?_
  refine vp_callSi (va_Run.run (va_runS (As := [.int k]) (rest := []) ⟨hx, hb, hml, hown, hts⟩ (c_X1_isSpecial l k) (va_cwS 1 hts gX1_set_X1_isSpecial rfl rfl rfl (by decide +kernel) ⟨Nat.le_of_ble_eq_true rfl, Nat.le_of_ble_eq_true rfl⟩) ⟨fun a U g mk q => q, fun U hU hW => ⟨rfl, trivial⟩⟩ rfl rfl hl.1 rfl (lv_room (Nat.le_of_ble_eq_true rfl)) dX1_set_1 ⟨Nat.le_of_ble_eq_true rfl, Nat.le_of_ble_eq_true rfl⟩)) (fun r_1 hw_2 => ?_)
  subst hw_2
  refine lv_if_ne (tgt := 9) hx hb dX1_set_4 (by decide) (fun c_3 => ?_) (fun c_3 => ?_)
  · skip
    refine lv_aload_n hx hb dX1_set_9 rfl (lv_at hl 0 rfl) ?_
    refine va_get (D := (dC, dI)) (ci := 1) (v := .ref sp) (C := RX1) (T := TX1) (N := 8) hx hb hts miX1_set_X1 hown hK hP 0 rfl rfl 1 (by decide) (hts _ mbX1_set_1) (fun _ h9 => h9) rfl dX1_set_10 ?_
    refine lv_iload_n hx hb dX1_set_13 rfl (lv_at hl 1 rfl) ?_
    refine lv_iload_n hx hb dX1_set_14 rfl (lv_at hl 1 rfl) ?_
    refine lv_bipush (v := 32) hx hb dX1_set_15 (by decide) ?_
    refine lv_icmp_ne (tgt := 27) hx hb dX1_set_17 (by decide) (fun c_4 => ?_) (fun c_4 => ?_)
    · skip
      refine lv_iload_n hx hb dX1_set_27 rfl (lv_at hl 2 rfl) ?_
      refine va_iast hx hb hK hP hD hS 1 0 rfl rfl (in_k c_3) dX1_set_28 (fun H locs hP hD hS => ?_)
      have hP : va_P (dC, dI) vwCl [(h0, .inr (1, [.ref me, .ref sp, .int fa, .int fl, .int fd, .int cr, .int lo, .int so])), (sp, .inl (cI, 33, .inl (upd f k.toNatClampNeg w)))] H := hP
      have hD : va_D A [(h0, .inr (1, [.ref me, .ref sp, .int fa, .int fl, .int fd, .int cr, .int lo, .int so])), (sp, .inl (cI, 33, .inl (upd f k.toNatClampNeg w)))] := hD
      refine lv_iconst (v := 1) hx hb dX1_set_29 (by decide) ?_
      exact W.zret (v := 1) hx hb hr rfl (fun t ht hW => ⟨⟨1, (upd f k.toNatClampNeg w), rfl, by simp only [s_X1_set, if_neg c_3, if_neg c_4], by rw [ht]; exact hP, va_K.moved hW.alike hK, hD⟩, hS.F ht⟩) hS.2.2 dX1_set_30
    · skip
      refine lv_iload_n hx hb dX1_set_20 rfl (lv_at hl 2 rfl) ?_
      refine lv_bipush (v := 7) hx hb dX1_set_21 (by decide) ?_
      refine lv_iand hx hb dX1_set_23 ?_
      refine lv_goto (tgt := 28) hx hb dX1_set_24 (by decide) ?_
      refine va_iast hx hb hK hP hD hS 1 0 rfl rfl (in_k c_3) dX1_set_28 (fun H locs hP hD hS => ?_)
      have hP : va_P (dC, dI) vwCl [(h0, .inr (1, [.ref me, .ref sp, .int fa, .int fl, .int fd, .int cr, .int lo, .int so])), (sp, .inl (cI, 33, .inl (upd f k.toNatClampNeg (w &&& 7))))] H := hP
      have hD : va_D A [(h0, .inr (1, [.ref me, .ref sp, .int fa, .int fl, .int fd, .int cr, .int lo, .int so])), (sp, .inl (cI, 33, .inl (upd f k.toNatClampNeg (w &&& 7))))] := hD
      refine lv_iconst (v := 1) hx hb dX1_set_29 (by decide) ?_
      exact W.zret (v := 1) hx hb hr rfl (fun t ht hW => ⟨⟨1, (upd f k.toNatClampNeg (w &&& 7)), rfl, by simp only [s_X1_set, if_neg c_3, if_pos c_4], by rw [ht]; exact hP, va_K.moved hW.alike hK, hD⟩, hS.F ht⟩) hS.2.2 dX1_set_30
  · skip
    refine lv_iconst (v := 0) hx hb dX1_set_7 (by decide) ?_
    exact W.zret (v := 0) hx hb hr rfl (fun t ht hW => ⟨⟨0, f, rfl, by simp only [s_X1_set, if_pos c_3], by rw [ht]; exact hP, va_K.moved hW.alike hK, hD⟩, hS.F ht⟩) hS.2.2 dX1_set_8
set_option maxRecDepth 100000 in
theorem miX1_map_X1 : ∀ w ∈ u_ws RX1 TX1 8, w ∈ wsX1_map := by decide +kernel
set_option maxRecDepth 100000 in
theorem mbX1_map_1 : (.fieldLink RX1 16 "SoftMaps" "specials" "[I" : Cond) ∈ wsX1_map := by decide +kernel
def s_X1_map (f : Nat → Int32) (v : Int32) (fr : Int32) (ri : Int32) (dd : Int32) : Int32 × (Nat → Int32) :=
  if fr < 0 then
    ((-1), f)
  else
    if 64 ≤ fr then
      ((-1), f)
    else
      if ri < 0 then
        ((-1), f)
      else
        if ri < 16 then
          (s_X1_setOf v, upd (upd f ((s_X1_firstMatch dd) + (s_X1_setOf v)).toNatClampNeg ((v &&& (-1024)) ||| 1)) (((s_X1_firstMatch dd) + (s_X1_setOf v)) + 8).toNatClampNeg ((fr <<< ((10 : Int32) &&& 31)) ||| ri))
        else
          ((-1), f)
set_option maxHeartbeats 4000000 in
set_option maxRecDepth 100000 in
theorem c_X1_map (l : Launch) (dC : Nat → ClassId) (dI : Nat → Nat → Nat) (sz : Nat) (h0 me sp : Nat) (cI : ClassId) (f : Nat → Int32) (fa fl fd cr lo so : Int32) (v : Int32) (fr : Int32) (ri : Int32) (dd : Int32)  : Met l yX1_map wsX1_map ({ frames := 1, cells := 0, slots := 0, locals := 20 }) (va_Pc [.ref h0, .int v, .int fr, .int ri, .int dd] (fun U => U.heap.size = sz ∧ va_P (dC, dI) vwCl [(h0, .inr (1, [.ref me, .ref sp, .int fa, .int fl, .int fd, .int cr, .int lo, .int so])), (sp, .inl (cI, 33, .inl f))] U.heap ∧ va_K (dC, dI) vwCl [(cI, .int)] U ∧ va_D (fun _ => True) [(h0, .inr (1, [.ref me, .ref sp, .int fa, .int fl, .int fd, .int cr, .int lo, .int so])), (sp, .inl (cI, 33, .inl f))])) (va_Qi (fun (a_ : Int32) (u : Nat → Int32) => (a_, u) = s_X1_map f v fr ri dd) (fun (u : Nat → Int32) (t : State) => va_P (dC, dI) vwCl [(h0, .inr (1, [.ref me, .ref sp, .int fa, .int fl, .int fd, .int cr, .int lo, .int so])), (sp, .inl (cI, 33, .inl u))] t.heap ∧ va_K (dC, dI) vwCl [(cI, .int)] t ∧ va_D (va_A [(h0, .inr (1, [.ref me, .ref sp, .int fa, .int fl, .int fd, .int cr, .int lo, .int so])), (sp, .inl (cI, 33, .inl f))] sz) [(h0, .inr (1, [.ref me, .ref sp, .int fa, .int fl, .int fd, .int cr, .int lo, .int so])), (sp, .inl (cI, 33, .inl u))]) (va_A [(h0, .inr (1, [.ref me, .ref sp, .int fa, .int fl, .int fd, .int cr, .int lo, .int so])), (sp, .inl (cI, 33, .inl f))] sz)) 0 0 (va_A [(h0, .inr (1, [.ref me, .ref sp, .int fa, .int fl, .int fd, .int cr, .int lo, .int so])), (sp, .inl (cI, 33, .inl f))] sz) := by
  refine Met.ofW (cc := cX1_map) (maxL := 7) (ret := (some .int)) (by decide) rfl ?_
  intro p e s m args below meth c s₁ B hml hv
  obtain ⟨rfl, hsz, hP, hK, hD0⟩ := hv
  have hx := B.exec
  have hb := B.bytes
  have hr := B.returns
  have hts := atoms_spec (ws := wsX1_map) B.pre
  have hown : s.vm.findClass RX1 = some m.cls := findClass_of_methodNamed B.named
  have hlocks := B.notSynchronized
  subst hsz
  have hD := hD0.self (sz := s.heap.size)
  generalize hAe : va_A [(h0, .inr (1, [.ref me, .ref sp, .int fa, .int fl, .int fd, .int cr, .int lo, .int so])), (sp, .inl (cI, 33, .inl f))] s.heap.size = A at hD ⊢
  have hA : ∀ q : Nat, s.heap.size ≤ q → A q := fun q h => by rw [← hAe]; exact Or.inr h
  have hS : va_S A s.heap s.heap [] := va_S.rf
  have hP : va_P (dC, dI) vwCl [(h0, .inr (1, [.ref me, .ref sp, .int fa, .int fl, .int fd, .int cr, .int lo, .int so])), (sp, .inl (cI, 33, .inl f))] s.heap := hP
  have hl := lv_entry ([.ref h0, .int v, .int fr, .int ri, .int dd]) (n := 7) (Nat.le_of_ble_eq_true rfl)
  rw [lg_entry_eq]
  generalize (lg_sl ([.ref h0, .int v, .int fr, .int ri, .int dd]) ++ List.replicate (7 - (lg_sl ([.ref h0, .int v, .int fr, .int ri, .int dd])).length) Slot.unset).toArray = ls at hl ⊢
  have hl : lv_has ls 7 [(0, .ref h0), (1, .int v), (2, .int fr), (3, .int ri), (4, .int dd)] := hl
  refine lv_iload_n hx hb dX1_map_0 rfl (lv_at hl 2 rfl) ?_
  refine lv_if_lt (tgt := 20) hx hb dX1_map_1 (by decide) (fun c_1 => ?_) (fun c_1 => ?_)
  · skip
    refine lv_iconst (v := (-1)) hx hb dX1_map_20 (by decide) ?_
    exact W.iret (v := (-1)) hx hb hr (fun t ht hW => ⟨⟨(-1), f, rfl, by simp only [s_X1_map, if_pos c_1], by rw [ht]; exact hP, va_K.moved hW.alike hK, hD⟩, hS.F ht⟩) hS.2.2 dX1_map_21
  · skip
    refine lv_iload_n hx hb dX1_map_4 rfl (lv_at hl 2 rfl) ?_
    refine lv_bipush (v := 64) hx hb dX1_map_5 (by decide) ?_
    refine lv_icmp_ge (tgt := 20) hx hb dX1_map_7 (by decide) (fun c_2 => ?_) (fun c_2 => ?_)
    · skip
      refine lv_iconst (v := (-1)) hx hb dX1_map_20 (by decide) ?_
      exact W.iret (v := (-1)) hx hb hr (fun t ht hW => ⟨⟨(-1), f, rfl, by simp only [s_X1_map, if_neg c_1, if_pos c_2], by rw [ht]; exact hP, va_K.moved hW.alike hK, hD⟩, hS.F ht⟩) hS.2.2 dX1_map_21
    · skip
      refine lv_iload_n hx hb dX1_map_10 rfl (lv_at hl 3 rfl) ?_
      refine lv_if_lt (tgt := 20) hx hb dX1_map_11 (by decide) (fun c_3 => ?_) (fun c_3 => ?_)
      · skip
        refine lv_iconst (v := (-1)) hx hb dX1_map_20 (by decide) ?_
        exact W.iret (v := (-1)) hx hb hr (fun t ht hW => ⟨⟨(-1), f, rfl, by simp only [s_X1_map, if_neg c_1, if_neg c_2, if_pos c_3], by rw [ht]; exact hP, va_K.moved hW.alike hK, hD⟩, hS.F ht⟩) hS.2.2 dX1_map_21
      · skip
        refine lv_iload_n hx hb dX1_map_14 rfl (lv_at hl 3 rfl) ?_
        refine lv_bipush (v := 16) hx hb dX1_map_15 (by decide) ?_
        refine lv_icmp_lt (tgt := 22) hx hb dX1_map_17 (by decide) (fun c_4 => ?_) (fun c_4 => ?_)
        · skip
          refine lv_iload_n hx hb dX1_map_22 rfl (lv_at hl 1 rfl) ?_
          refine vp_callSi (va_Run.run (va_runS (As := [.int v]) (rest := []) ⟨hx, hb, hml, hown, hts⟩ (c_X1_setOf l v) (va_cwS 1 hts gX1_map_X1_setOf rfl rfl rfl (by decide +kernel) ⟨Nat.le_of_ble_eq_true rfl, Nat.le_of_ble_eq_true rfl⟩) ⟨fun a U g mk q => q, fun U hU hW => ⟨rfl, trivial⟩⟩ rfl rfl hl.1 rfl (lv_room (Nat.le_of_ble_eq_true rfl)) dX1_map_23 ⟨Nat.le_of_ble_eq_true rfl, Nat.le_of_ble_eq_true rfl⟩)) (fun r_5 hw_6 => ?_)
          subst hw_6
          refine lv_istore (lv' := [(5, .int (s_X1_setOf v)), (0, .ref h0), (1, .int v), (2, .int fr), (3, .int ri), (4, .int dd)]) hx hb dX1_map_26 hl (by decide) rfl (fun ls hl => ?_)
          refine lv_iload hx hb dX1_map_28 (lv_at hl 5 rfl) ?_
          refine vp_callSi (va_Run.run (va_runS (As := [.int dd]) (rest := []) ⟨hx, hb, hml, hown, hts⟩ (c_X1_firstMatch l dd) (va_cwS 1 hts gX1_map_X1_firstMatch rfl rfl rfl (by decide +kernel) ⟨Nat.le_of_ble_eq_true rfl, Nat.le_of_ble_eq_true rfl⟩) ⟨fun a U g mk q => q, fun U hU hW => ⟨rfl, trivial⟩⟩ rfl rfl hl.1 rfl (lv_room (Nat.le_of_ble_eq_true rfl)) dX1_map_30 ⟨Nat.le_of_ble_eq_true rfl, Nat.le_of_ble_eq_true rfl⟩)) (fun r_7 hw_8 => ?_)
          subst hw_8
          refine lv_iload hx hb dX1_map_33 (lv_at hl 0 rfl) ?_
          refine lv_iadd hx hb dX1_map_35 ?_
          refine lv_istore (lv' := [(6, .int ((s_X1_firstMatch dd) + (s_X1_setOf v))), (5, .int (s_X1_setOf v)), (0, .ref h0), (1, .int v), (2, .int fr), (3, .int ri), (4, .int dd)]) hx hb dX1_map_36 hl (by decide) rfl (fun ls hl => ?_)
          refine lv_aload_n hx hb dX1_map_38 rfl (lv_at hl 2 rfl) ?_
          refine va_get (D := (dC, dI)) (ci := 1) (v := .ref sp) (C := RX1) (T := TX1) (N := 8) hx hb hts miX1_map_X1 hown hK hP 0 rfl rfl 1 (by decide) (hts _ mbX1_map_1) (fun _ h9 => h9) rfl dX1_map_39 ?_
          refine lv_iload hx hb dX1_map_42 (lv_at hl 0 rfl) ?_
          refine lv_iload_n hx hb dX1_map_44 rfl (lv_at hl 3 rfl) ?_
          refine lv_sipush (v := (-1024)) hx hb dX1_map_45 (by decide) ?_
          refine lv_iand hx hb dX1_map_48 ?_
          refine lv_iconst (v := 1) hx hb dX1_map_49 (by decide) ?_
          refine lv_ior hx hb dX1_map_50 ?_
          refine va_iast hx hb hK hP hD hS 1 0 rfl rfl (in_m dd v) dX1_map_51 (fun H locs hP hD hS => ?_)
          have hP : va_P (dC, dI) vwCl [(h0, .inr (1, [.ref me, .ref sp, .int fa, .int fl, .int fd, .int cr, .int lo, .int so])), (sp, .inl (cI, 33, .inl (upd f ((s_X1_firstMatch dd) + (s_X1_setOf v)).toNatClampNeg ((v &&& (-1024)) ||| 1))))] H := hP
          have hD : va_D A [(h0, .inr (1, [.ref me, .ref sp, .int fa, .int fl, .int fd, .int cr, .int lo, .int so])), (sp, .inl (cI, 33, .inl (upd f ((s_X1_firstMatch dd) + (s_X1_setOf v)).toNatClampNeg ((v &&& (-1024)) ||| 1))))] := hD
          refine lv_aload_n hx hb dX1_map_52 rfl (lv_at hl 2 rfl) ?_
          refine va_get (D := (dC, dI)) (ci := 1) (v := .ref sp) (C := RX1) (T := TX1) (N := 8) hx hb hts miX1_map_X1 hown hK hP 0 rfl rfl 1 (by decide) (hts _ mbX1_map_1) (fun _ h9 => h9) rfl dX1_map_53 ?_
          refine lv_iload hx hb dX1_map_56 (lv_at hl 0 rfl) ?_
          refine lv_bipush (v := 8) hx hb dX1_map_58 (by decide) ?_
          refine lv_iadd hx hb dX1_map_60 ?_
          refine lv_iload_n hx hb dX1_map_61 rfl (lv_at hl 4 rfl) ?_
          refine lv_bipush (v := 10) hx hb dX1_map_62 (by decide) ?_
          refine lv_ishl hx hb dX1_map_64 ?_
          refine lv_iload_n hx hb dX1_map_65 rfl (lv_at hl 5 rfl) ?_
          refine lv_ior hx hb dX1_map_66 ?_
          refine va_iast hx hb hK hP hD hS 1 0 rfl rfl (in_p dd v) dX1_map_67 (fun H locs hP hD hS => ?_)
          have hP : va_P (dC, dI) vwCl [(h0, .inr (1, [.ref me, .ref sp, .int fa, .int fl, .int fd, .int cr, .int lo, .int so])), (sp, .inl (cI, 33, .inl (upd (upd f ((s_X1_firstMatch dd) + (s_X1_setOf v)).toNatClampNeg ((v &&& (-1024)) ||| 1)) (((s_X1_firstMatch dd) + (s_X1_setOf v)) + 8).toNatClampNeg ((fr <<< ((10 : Int32) &&& 31)) ||| ri))))] H := hP
          have hD : va_D A [(h0, .inr (1, [.ref me, .ref sp, .int fa, .int fl, .int fd, .int cr, .int lo, .int so])), (sp, .inl (cI, 33, .inl (upd (upd f ((s_X1_firstMatch dd) + (s_X1_setOf v)).toNatClampNeg ((v &&& (-1024)) ||| 1)) (((s_X1_firstMatch dd) + (s_X1_setOf v)) + 8).toNatClampNeg ((fr <<< ((10 : Int32) &&& 31)) ||| ri))))] := hD
          refine lv_iload hx hb dX1_map_68 (lv_at hl 1 rfl) ?_
          exact W.iret (v := s_X1_setOf v) hx hb hr (fun t ht hW => ⟨⟨s_X1_setOf v, (upd (upd f ((s_X1_firstMatch dd) + (s_X1_setOf v)).toNatClampNeg ((v &&& (-1024)) ||| 1)) (((s_X1_firstMatch dd) + (s_X1_setOf v)) + 8).toNatClampNeg ((fr <<< ((10 : Int32) &&& 31)) ||| ri)), rfl, by simp only [s_X1_map, if_neg c_1, if_neg c_2, if_neg c_3, if_pos c_4], by rw [ht]; exact hP, va_K.moved hW.alike hK, hD⟩, hS.F ht⟩) hS.2.2 dX1_map_70
        · skip
          refine lv_iconst (v := (-1)) hx hb dX1_map_20 (by decide) ?_
          exact W.iret (v := (-1)) hx hb hr (fun t ht hW => ⟨⟨(-1), f, rfl, by simp only [s_X1_map, if_neg c_1, if_neg c_2, if_neg c_3, if_neg c_4], by rw [ht]; exact hP, va_K.moved hW.alike hK, hD⟩, hS.F ht⟩) hS.2.2 dX1_map_21
set_option maxRecDepth 100000 in
theorem miX1_special_X1 : ∀ w ∈ u_ws RX1 TX1 8, w ∈ wsX1_special := by decide +kernel
set_option maxRecDepth 100000 in
theorem mbX1_special_1 : (.fieldLink RX1 16 "SoftMaps" "specials" "[I" : Cond) ∈ wsX1_special := by decide +kernel
def s_X1_special (f : Nat → Int32) (k : Int32) : Int32 :=
  if s_X1_isSpecial k = 0 then
    0
  else
    f k.toNatClampNeg
set_option maxHeartbeats 4000000 in
set_option maxRecDepth 100000 in
theorem c_X1_special (l : Launch) (dC : Nat → ClassId) (dI : Nat → Nat → Nat) (h0 me sp : Nat) (cI : ClassId) (f : Nat → Int32) (fa fl fd cr lo so : Int32) (k : Int32)  : Met l yX1_special wsX1_special ({ frames := 1, cells := 0, slots := 0, locals := 20 }) (va_Pc [.ref h0, .int k] (fun U => va_P (dC, dI) vwCl [(h0, .inr (1, [.ref me, .ref sp, .int fa, .int fl, .int fd, .int cr, .int lo, .int so])), (sp, .inl (cI, 33, .inl f))] U.heap ∧ va_K (dC, dI) vwCl [(cI, .int)] U)) (vp_Si (fun x_ => x_ = s_X1_special f k)) 0 0 (fun _ => False) := by
  refine Met.ofW (cc := cX1_special) (maxL := 2) (ret := (some .int)) (by decide) rfl ?_
  intro p e s m args below meth c s₁ B hml hv
  obtain ⟨rfl, hP, hK⟩ := hv
  have hx := B.exec
  have hb := B.bytes
  have hr := B.returns
  have hts := atoms_spec (ws := wsX1_special) B.pre
  have hown : s.vm.findClass RX1 = some m.cls := findClass_of_methodNamed B.named
  have hlocks := B.notSynchronized
  have hl := lv_entry ([.ref h0, .int k]) (n := 2) (Nat.le_of_ble_eq_true rfl)
  rw [lg_entry_eq]
  generalize (lg_sl ([.ref h0, .int k]) ++ List.replicate (2 - (lg_sl ([.ref h0, .int k])).length) Slot.unset).toArray = ls at hl ⊢
  have hl : lv_has ls 2 [(0, .ref h0), (1, .int k)] := hl
  have hP : va_P (dC, dI) vwCl [(h0, .inr (1, [.ref me, .ref sp, .int fa, .int fl, .int fd, .int cr, .int lo, .int so])), (sp, .inl (cI, 33, .inl f))] s.heap := hP
  refine lv_iload_n hx hb dX1_special_0 rfl (lv_at hl 1 rfl) ?_
  refine vp_callSi (va_Run.run (va_runS (As := [.int k]) (rest := []) ⟨hx, hb, hml, hown, hts⟩ (c_X1_isSpecial l k) (va_cwS 1 hts gX1_special_X1_isSpecial rfl rfl rfl (by decide +kernel) ⟨Nat.le_of_ble_eq_true rfl, Nat.le_of_ble_eq_true rfl⟩) ⟨fun a U g mk q => q, fun U hU hW => ⟨rfl, trivial⟩⟩ rfl rfl hl.1 rfl (lv_room (Nat.le_of_ble_eq_true rfl)) dX1_special_1 ⟨Nat.le_of_ble_eq_true rfl, Nat.le_of_ble_eq_true rfl⟩)) (fun r_1 hw_2 => ?_)
  subst hw_2
  refine lv_if_eq (tgt := 16) hx hb dX1_special_4 (by decide) (fun c_3 => ?_) (fun c_3 => ?_)
  · skip
    refine lv_iconst (v := 0) hx hb dX1_special_16 (by decide) ?_
    exact W.iret (v := 0) hx hb hr (fun t ht hW => ⟨0, rfl, by simp only [s_X1_special, if_pos c_3], ht⟩) (fun q h => by cases h) dX1_special_17
  · skip
    refine lv_aload_n hx hb dX1_special_7 rfl (lv_at hl 0 rfl) ?_
    refine va_get (D := (dC, dI)) (ci := 1) (v := .ref sp) (C := RX1) (T := TX1) (N := 8) hx hb hts miX1_special_X1 hown hK hP 0 rfl rfl 1 (by decide) (hts _ mbX1_special_1) (fun _ h9 => h9) rfl dX1_special_8 ?_
    refine lv_iload_n hx hb dX1_special_11 rfl (lv_at hl 1 rfl) ?_
    refine va_iald hx hb hK hP 1 0 rfl rfl (in_k c_3) dX1_special_12 ?_
    refine lv_goto (tgt := 17) hx hb dX1_special_13 (by decide) ?_
    exact W.iret (v := f k.toNatClampNeg) hx hb hr (fun t ht hW => ⟨f k.toNatClampNeg, rfl, by simp only [s_X1_special, if_neg c_3], ht⟩) (fun q h => by cases h) dX1_special_17
end
section
/-- how many of the first i are odd -/
def s_cnt (f : Nat → Int32) (b : Int32) : Nat → Int32
  | 0 => 0
  | i + 1 => if s_X1_isOdd (f (b + nI i).toNatClampNeg) = 0 then s_cnt f b i else s_cnt f b i + 1
/-- the first i made even -/
def s_clr (f : Nat → Int32) (b : Int32) : Nat → Nat → Int32
  | 0 => f
  | i + 1 => upd (s_clr f b i) (b + nI i).toNatClampNeg (s_clr f b i (b + nI i).toNatClampNeg &&& (-2))
theorem in_c (d : Int32) {i : Nat} (hi : i < 8) : vp_in (s_X1_firstMatch d + nI i) 33 := by
  rcases fm_n d with h | h
  · exact pk_in (0 + i) 33 (by omega) (by rw [h, nI_add])
  · exact pk_in (16 + i) 33 (by omega) (by rw [h, nI_add])
set_option maxRecDepth 100000 in
theorem miX1_countMatches_X1 : ∀ w ∈ u_ws RX1 TX1 8, w ∈ wsX1_countMatches := by decide +kernel
set_option maxRecDepth 100000 in
theorem mbX1_countMatches_1 : (.fieldLink RX1 16 "SoftMaps" "specials" "[I" : Cond) ∈ wsX1_countMatches := by decide +kernel
set_option maxHeartbeats 4000000 in
set_option maxRecDepth 100000 in
theorem lp_X1_countMatches {p : Program} {l : Launch} {e : Env} {s : State} {m : MethodId} {args : Array Value} {below : List Frame} {meth : Method} {c : Code} {Q : State → Prop} {H : Heap} {locs : List Loc} (hx : p.tables.exec = Jvm.exec) (hb : c.code = cX1_countMatches) (hml : c.maxLocals = 5) (hown : s.vm.findClass RX1 = some m.cls) (hts : ∀ w ∈ wsX1_countMatches, w.before args s = true) (dC : Nat → ClassId) (dI : Nat → Nat → Nat) (h0 me sp : Nat) (cI : ClassId) (f : Nat → Int32) (fa fl fd cr lo so : Int32) (dd : Int32) (hP : va_P (dC, dI) vwCl [(h0, .inr (1, [.ref me, .ref sp, .int fa, .int fl, .int fd, .int cr, .int lo, .int so])), (sp, .inl (cI, 33, .inl f))] H) (hK : va_K (dC, dI) vwCl [(cI, .int)] s) : ∀ (n i : Nat) (ls : Array Slot), i + n = 8 → lv_has ls 5 [(4, .int (nI i)), (3, .int (s_cnt f (s_X1_firstMatch dd) i)), (2, .int (s_X1_firstMatch dd)), (0, .ref h0), (1, .int dd)] → (∀ ls : Array Slot, lv_has ls 5 [(4, .int (nI 8)), (3, .int (s_cnt f (s_X1_firstMatch dd) 8)), (2, .int (s_X1_firstMatch dd)), (0, .ref h0), (1, .int dd)] → W p l e ({ frames := 1, cells := 0, slots := 0, locals := 20 }) s m args below meth c H locs 0 0 Q (F0 m 41 ls [])) → W p l e ({ frames := 1, cells := 0, slots := 0, locals := 20 }) s m args below meth c H locs 0 0 Q (F0 m 10 ls []) := by
  intro n
  induction n with
  | zero =>
    intro i ls hin hl kk
    obtain rfl : i = 8 := by omega
    refine lv_iload hx hb dX1_countMatches_10 (lv_at hl 0 rfl) ?_
    refine lv_bipush (v := 8) hx hb dX1_countMatches_12 (by decide) ?_
    refine lv_icmp_ge (tgt := 41) hx hb dX1_countMatches_14 (by decide) (fun cz => ?_) (fun cz => ?_)
    · exact kk ls hl
    · exact absurd (nI_le (Nat.le_refl 8) (by decide)) cz
  | succ n ih =>
    intro i ls hin hl kk
    have hi : i < 8 := by omega
    refine lv_iload hx hb dX1_countMatches_10 (lv_at hl 0 rfl) ?_
    refine lv_bipush (v := 8) hx hb dX1_countMatches_12 (by decide) ?_
    refine lv_icmp_ge (tgt := 41) hx hb dX1_countMatches_14 (by decide) (fun cz => ?_) (fun cz => ?_)
    · exact absurd cz (nI_ge hi (by decide))
    · skip
      refine lv_aload_n hx hb dX1_countMatches_17 rfl (lv_at hl 3 rfl) ?_
      refine va_get (D := (dC, dI)) (ci := 1) (v := .ref sp) (C := RX1) (T := TX1) (N := 8) hx hb hts miX1_countMatches_X1 hown hK hP 0 rfl rfl 1 (by decide) (hts _ mbX1_countMatches_1) (fun _ h9 => h9) rfl dX1_countMatches_18 ?_
      refine lv_iload_n hx hb dX1_countMatches_21 rfl (lv_at hl 2 rfl) ?_
      refine lv_iload hx hb dX1_countMatches_22 (lv_at hl 0 rfl) ?_
      refine lv_iadd hx hb dX1_countMatches_24 ?_
      refine va_iald hx hb hK hP 1 0 rfl rfl (in_c dd hi) dX1_countMatches_25 ?_
      refine vp_callSi (va_Run.run (va_runS (As := [.int (f ((s_X1_firstMatch dd) + (nI i)).toNatClampNeg)]) (rest := []) ⟨hx, hb, hml, hown, hts⟩ (c_X1_isOdd l (f ((s_X1_firstMatch dd) + (nI i)).toNatClampNeg)) (va_cwS 1 hts gX1_countMatches_X1_isOdd rfl rfl rfl (by decide +kernel) ⟨Nat.le_of_ble_eq_true rfl, Nat.le_of_ble_eq_true rfl⟩) ⟨fun a U g mk q => q, fun U hU hW => ⟨rfl, trivial⟩⟩ rfl rfl hl.1 rfl (lv_room (Nat.le_of_ble_eq_true rfl)) dX1_countMatches_26 ⟨Nat.le_of_ble_eq_true rfl, Nat.le_of_ble_eq_true rfl⟩)) (fun r_1 hw_2 => ?_)
      subst hw_2
      refine lv_if_eq (tgt := 35) hx hb dX1_countMatches_29 (by decide) (fun c_3 => ?_) (fun c_3 => ?_)
      · skip
        refine lv_iinc (v := (nI i) + 1) (lv' := [(4, .int ((nI i) + 1)), (3, .int (s_cnt f (s_X1_firstMatch dd) i)), (2, .int (s_X1_firstMatch dd)), (0, .ref h0), (1, .int dd)]) hx hb dX1_countMatches_35 hl (k := 0) rfl rfl (by decide) rfl (fun ls hl => ?_)
        refine lv_goto (tgt := 10) hx hb dX1_countMatches_38 (by decide) ?_
        have e2 : s_cnt f (s_X1_firstMatch dd) (i + 1) = s_cnt f (s_X1_firstMatch dd) i := by simp only [s_cnt, if_pos c_3]
        exact ih (i + 1) ls (by omega) (by rw [e2, ← nI_1 i]; exact lv_sub hl [0, 1, 2, 3, 4] rfl) kk
      · skip
        refine lv_iinc (v := (s_cnt f (s_X1_firstMatch dd) i) + 1) (lv' := [(3, .int ((s_cnt f (s_X1_firstMatch dd) i) + 1)), (4, .int (nI i)), (2, .int (s_X1_firstMatch dd)), (0, .ref h0), (1, .int dd)]) hx hb dX1_countMatches_32 hl (k := 1) rfl rfl (by decide) rfl (fun ls hl => ?_)
        refine lv_iinc (v := (nI i) + 1) (lv' := [(4, .int ((nI i) + 1)), (3, .int ((s_cnt f (s_X1_firstMatch dd) i) + 1)), (2, .int (s_X1_firstMatch dd)), (0, .ref h0), (1, .int dd)]) hx hb dX1_countMatches_35 hl (k := 1) rfl rfl (by decide) rfl (fun ls hl => ?_)
        refine lv_goto (tgt := 10) hx hb dX1_countMatches_38 (by decide) ?_
        have e2 : s_cnt f (s_X1_firstMatch dd) (i + 1) = (s_cnt f (s_X1_firstMatch dd) i) + 1 := by simp only [s_cnt, if_neg c_3]
        exact ih (i + 1) ls (by omega) (by rw [e2, ← nI_1 i]; exact lv_sub hl [0, 1, 2, 3, 4] rfl) kk
def s_X1_countMatches (f : Nat → Int32) (dd : Int32) : Int32 :=
  s_cnt f (s_X1_firstMatch dd) 8
set_option maxHeartbeats 4000000 in
set_option maxRecDepth 100000 in
theorem c_X1_countMatches (l : Launch) (dC : Nat → ClassId) (dI : Nat → Nat → Nat) (h0 me sp : Nat) (cI : ClassId) (f : Nat → Int32) (fa fl fd cr lo so : Int32) (dd : Int32)  : Met l yX1_countMatches wsX1_countMatches ({ frames := 1, cells := 0, slots := 0, locals := 20 }) (va_Pc [.ref h0, .int dd] (fun U => va_P (dC, dI) vwCl [(h0, .inr (1, [.ref me, .ref sp, .int fa, .int fl, .int fd, .int cr, .int lo, .int so])), (sp, .inl (cI, 33, .inl f))] U.heap ∧ va_K (dC, dI) vwCl [(cI, .int)] U)) (vp_Si (fun x_ => x_ = s_X1_countMatches f dd)) 0 0 (fun _ => False) := by
  refine Met.ofW (cc := cX1_countMatches) (maxL := 5) (ret := (some .int)) (by decide) rfl ?_
  intro p e s m args below meth c s₁ B hml hv
  obtain ⟨rfl, hP, hK⟩ := hv
  have hx := B.exec
  have hb := B.bytes
  have hr := B.returns
  have hts := atoms_spec (ws := wsX1_countMatches) B.pre
  have hown : s.vm.findClass RX1 = some m.cls := findClass_of_methodNamed B.named
  have hlocks := B.notSynchronized
  have hl := lv_entry ([.ref h0, .int dd]) (n := 5) (Nat.le_of_ble_eq_true rfl)
  rw [lg_entry_eq]
  generalize (lg_sl ([.ref h0, .int dd]) ++ List.replicate (5 - (lg_sl ([.ref h0, .int dd])).length) Slot.unset).toArray = ls at hl ⊢
  have hl : lv_has ls 5 [(0, .ref h0), (1, .int dd)] := hl
  have hP : va_P (dC, dI) vwCl [(h0, .inr (1, [.ref me, .ref sp, .int fa, .int fl, .int fd, .int cr, .int lo, .int so])), (sp, .inl (cI, 33, .inl f))] s.heap := hP
  refine lv_iload_n hx hb dX1_countMatches_0 rfl (lv_at hl 1 rfl) ?_
  refine vp_callSi (va_Run.run (va_runS (As := [.int dd]) (rest := []) ⟨hx, hb, hml, hown, hts⟩ (c_X1_firstMatch l dd) (va_cwS 1 hts gX1_countMatches_X1_firstMatch rfl rfl rfl (by decide +kernel) ⟨Nat.le_of_ble_eq_true rfl, Nat.le_of_ble_eq_true rfl⟩) ⟨fun a U g mk q => q, fun U hU hW => ⟨rfl, trivial⟩⟩ rfl rfl hl.1 rfl (lv_room (Nat.le_of_ble_eq_true rfl)) dX1_countMatches_1 ⟨Nat.le_of_ble_eq_true rfl, Nat.le_of_ble_eq_true rfl⟩)) (fun r_1 hw_2 => ?_)
  subst hw_2
  refine lv_istore_n (lv' := [(2, .int (s_X1_firstMatch dd)), (0, .ref h0), (1, .int dd)]) hx hb dX1_countMatches_4 rfl hl (by decide) rfl (fun ls hl => ?_)
  refine lv_iconst (v := 0) hx hb dX1_countMatches_5 (by decide) ?_
  refine lv_istore_n (lv' := [(3, .int 0), (2, .int (s_X1_firstMatch dd)), (0, .ref h0), (1, .int dd)]) hx hb dX1_countMatches_6 rfl hl (by decide) rfl (fun ls hl => ?_)
  refine lv_iconst (v := 0) hx hb dX1_countMatches_7 (by decide) ?_
  refine lv_istore (lv' := [(4, .int 0), (3, .int 0), (2, .int (s_X1_firstMatch dd)), (0, .ref h0), (1, .int dd)]) hx hb dX1_countMatches_8 hl (by decide) rfl (fun ls hl => ?_)
  refine lp_X1_countMatches hx hb hml hown hts dC dI h0 me sp cI f fa fl fd cr lo so dd hP hK 8 0 ls (by omega) (lv_sub hl [0, 1, 2, 3, 4] rfl) (fun ls hl => ?_)
  refine lv_iload_n hx hb dX1_countMatches_41 rfl (lv_at hl 1 rfl) ?_
  exact W.iret (v := s_cnt f (s_X1_firstMatch dd) 8) hx hb hr (fun t ht hW => ⟨s_cnt f (s_X1_firstMatch dd) 8, rfl, by first | rfl | (unfold s_X1_countMatches; rfl), ht⟩) (fun q h => by cases h) dX1_countMatches_42
set_option maxRecDepth 100000 in
theorem miX1_look_X1 : ∀ w ∈ u_ws RX1 TX1 8, w ∈ wsX1_look := by decide +kernel
set_option maxRecDepth 100000 in
theorem mbX1_look_1 : (.fieldLink RX1 68 "SoftMaps" "faults" "I" : Cond) ∈ wsX1_look := by decide +kernel
set_option maxRecDepth 100000 in
theorem mbX1_look_2 : (.fieldLink RX1 71 "SoftMaps" "latestFault" "I" : Cond) ∈ wsX1_look := by decide +kernel
set_option maxRecDepth 100000 in
theorem mbX1_look_3 : (.fieldLink RX1 74 "SoftMaps" "faultAddress" "I" : Cond) ∈ wsX1_look := by decide +kernel
set_option maxRecDepth 100000 in
theorem mbX1_look_4 : (.fieldLink RX1 35 "SoftMaps" "codeReads" "I" : Cond) ∈ wsX1_look := by decide +kernel
set_option maxRecDepth 100000 in
theorem mbX1_look_5 : (.fieldLink RX1 43 "SoftMaps" "loads" "I" : Cond) ∈ wsX1_look := by decide +kernel
set_option maxRecDepth 100000 in
theorem mbX1_look_6 : (.fieldLink RX1 49 "SoftMaps" "stores" "I" : Cond) ∈ wsX1_look := by decide +kernel
def s_X1_look (f : Nat → Int32) (fa : Int32) (fl : Int32) (fd : Int32) (cr : Int32) (lo : Int32) (so : Int32) (k : Int32) : Int32 :=
  if k = 0 then
    fa
  else
    if k = 1 then
      fl
    else
      if k = 2 then
        fd
      else
        if k = 3 then
          cr
        else
          if k = 4 then
            lo
          else
            if k = 5 then
              so
            else
              if k = 6 then
                s_X1_countMatches f 0
              else
                if k = 7 then
                  s_X1_countMatches f 1
                else
                  (-1)
set_option maxHeartbeats 4000000 in
set_option maxRecDepth 100000 in
theorem c_X1_look (l : Launch) (dC : Nat → ClassId) (dI : Nat → Nat → Nat) (h0 me sp : Nat) (cI : ClassId) (f : Nat → Int32) (fa fl fd cr lo so : Int32) (k : Int32)  : Met l yX1_look wsX1_look ({ frames := 2, cells := 0, slots := 0, locals := 44 }) (va_Pc [.ref h0, .int k] (fun U => va_P (dC, dI) vwCl [(h0, .inr (1, [.ref me, .ref sp, .int fa, .int fl, .int fd, .int cr, .int lo, .int so])), (sp, .inl (cI, 33, .inl f))] U.heap ∧ va_K (dC, dI) vwCl [(cI, .int)] U)) (vp_Si (fun x_ => x_ = s_X1_look f fa fl fd cr lo so k)) 0 0 (fun _ => False) := by
  refine Met.ofW (cc := cX1_look) (maxL := 2) (ret := (some .int)) (by decide) rfl ?_
  intro p e s m args below meth c s₁ B hml hv
  obtain ⟨rfl, hP, hK⟩ := hv
  have hx := B.exec
  have hb := B.bytes
  have hr := B.returns
  have hts := atoms_spec (ws := wsX1_look) B.pre
  have hown : s.vm.findClass RX1 = some m.cls := findClass_of_methodNamed B.named
  have hlocks := B.notSynchronized
  have hl := lv_entry ([.ref h0, .int k]) (n := 2) (Nat.le_of_ble_eq_true rfl)
  rw [lg_entry_eq]
  generalize (lg_sl ([.ref h0, .int k]) ++ List.replicate (2 - (lg_sl ([.ref h0, .int k])).length) Slot.unset).toArray = ls at hl ⊢
  have hl : lv_has ls 2 [(0, .ref h0), (1, .int k)] := hl
  have hP : va_P (dC, dI) vwCl [(h0, .inr (1, [.ref me, .ref sp, .int fa, .int fl, .int fd, .int cr, .int lo, .int so])), (sp, .inl (cI, 33, .inl f))] s.heap := hP
  refine lv_iload_n hx hb dX1_look_0 rfl (lv_at hl 1 rfl) ?_
  by_cases hs_1 : k = 0
  · refine lv_tableIn (tgt := 48) hx hb dX1_look_1 (by rw [hs_1]; decide) (by rw [hs_1]; decide) (off := 47) (by rw [hs_1]; decide) (by decide) ?_
    refine lv_aload_n hx hb dX1_look_48 rfl (lv_at hl 0 rfl) ?_
    refine va_get (D := (dC, dI)) (ci := 1) (v := .int fa) (C := RX1) (T := TX1) (N := 8) hx hb hts miX1_look_X1 hown hK hP 0 rfl rfl 2 (by decide) (hts _ mbX1_look_1) (fun _ h9 => h9) rfl dX1_look_49 ?_
    exact W.iret (v := fa) hx hb hr (fun t ht hW => ⟨fa, rfl, by simp only [s_X1_look, if_pos hs_1], ht⟩) (fun q h => by cases h) dX1_look_52
  · skip
    by_cases hs_2 : k = 1
    · refine lv_tableIn (tgt := 53) hx hb dX1_look_1 (by rw [hs_2]; decide) (by rw [hs_2]; decide) (off := 52) (by rw [hs_2]; decide) (by decide) ?_
      refine lv_aload_n hx hb dX1_look_53 rfl (lv_at hl 0 rfl) ?_
      refine va_get (D := (dC, dI)) (ci := 1) (v := .int fl) (C := RX1) (T := TX1) (N := 8) hx hb hts miX1_look_X1 hown hK hP 0 rfl rfl 3 (by decide) (hts _ mbX1_look_2) (fun _ h9 => h9) rfl dX1_look_54 ?_
      exact W.iret (v := fl) hx hb hr (fun t ht hW => ⟨fl, rfl, by simp only [s_X1_look, if_neg hs_1, if_pos hs_2], ht⟩) (fun q h => by cases h) dX1_look_57
    · skip
      by_cases hs_3 : k = 2
      · refine lv_tableIn (tgt := 58) hx hb dX1_look_1 (by rw [hs_3]; decide) (by rw [hs_3]; decide) (off := 57) (by rw [hs_3]; decide) (by decide) ?_
        refine lv_aload_n hx hb dX1_look_58 rfl (lv_at hl 0 rfl) ?_
        refine va_get (D := (dC, dI)) (ci := 1) (v := .int fd) (C := RX1) (T := TX1) (N := 8) hx hb hts miX1_look_X1 hown hK hP 0 rfl rfl 4 (by decide) (hts _ mbX1_look_3) (fun _ h9 => h9) rfl dX1_look_59 ?_
        exact W.iret (v := fd) hx hb hr (fun t ht hW => ⟨fd, rfl, by simp only [s_X1_look, if_neg hs_1, if_neg hs_2, if_pos hs_3], ht⟩) (fun q h => by cases h) dX1_look_62
      · skip
        by_cases hs_4 : k = 3
        · refine lv_tableIn (tgt := 63) hx hb dX1_look_1 (by rw [hs_4]; decide) (by rw [hs_4]; decide) (off := 62) (by rw [hs_4]; decide) (by decide) ?_
          refine lv_aload_n hx hb dX1_look_63 rfl (lv_at hl 0 rfl) ?_
          refine va_get (D := (dC, dI)) (ci := 1) (v := .int cr) (C := RX1) (T := TX1) (N := 8) hx hb hts miX1_look_X1 hown hK hP 0 rfl rfl 5 (by decide) (hts _ mbX1_look_4) (fun _ h9 => h9) rfl dX1_look_64 ?_
          exact W.iret (v := cr) hx hb hr (fun t ht hW => ⟨cr, rfl, by simp only [s_X1_look, if_neg hs_1, if_neg hs_2, if_neg hs_3, if_pos hs_4], ht⟩) (fun q h => by cases h) dX1_look_67
        · skip
          by_cases hs_5 : k = 4
          · refine lv_tableIn (tgt := 68) hx hb dX1_look_1 (by rw [hs_5]; decide) (by rw [hs_5]; decide) (off := 67) (by rw [hs_5]; decide) (by decide) ?_
            refine lv_aload_n hx hb dX1_look_68 rfl (lv_at hl 0 rfl) ?_
            refine va_get (D := (dC, dI)) (ci := 1) (v := .int lo) (C := RX1) (T := TX1) (N := 8) hx hb hts miX1_look_X1 hown hK hP 0 rfl rfl 6 (by decide) (hts _ mbX1_look_5) (fun _ h9 => h9) rfl dX1_look_69 ?_
            exact W.iret (v := lo) hx hb hr (fun t ht hW => ⟨lo, rfl, by simp only [s_X1_look, if_neg hs_1, if_neg hs_2, if_neg hs_3, if_neg hs_4, if_pos hs_5], ht⟩) (fun q h => by cases h) dX1_look_72
          · skip
            by_cases hs_6 : k = 5
            · refine lv_tableIn (tgt := 73) hx hb dX1_look_1 (by rw [hs_6]; decide) (by rw [hs_6]; decide) (off := 72) (by rw [hs_6]; decide) (by decide) ?_
              refine lv_aload_n hx hb dX1_look_73 rfl (lv_at hl 0 rfl) ?_
              refine va_get (D := (dC, dI)) (ci := 1) (v := .int so) (C := RX1) (T := TX1) (N := 8) hx hb hts miX1_look_X1 hown hK hP 0 rfl rfl 7 (by decide) (hts _ mbX1_look_6) (fun _ h9 => h9) rfl dX1_look_74 ?_
              exact W.iret (v := so) hx hb hr (fun t ht hW => ⟨so, rfl, by simp only [s_X1_look, if_neg hs_1, if_neg hs_2, if_neg hs_3, if_neg hs_4, if_neg hs_5, if_pos hs_6], ht⟩) (fun q h => by cases h) dX1_look_77
            · skip
              by_cases hs_7 : k = 6
              · refine lv_tableIn (tgt := 78) hx hb dX1_look_1 (by rw [hs_7]; decide) (by rw [hs_7]; decide) (off := 77) (by rw [hs_7]; decide) (by decide) ?_
                refine lv_aload_n hx hb dX1_look_78 rfl (lv_at hl 0 rfl) ?_
                refine lv_iconst (v := 0) hx hb dX1_look_79 (by decide) ?_
                have hPc := hP.sub (ws' := [(h0, .inr (1, [.ref me, .ref sp, .int fa, .int fl, .int fd, .int cr, .int lo, .int so])), (sp, .inl (cI, 33, .inl f))]) [0, 1] rfl
                have hKc := hK.sub (tys' := [(cI, .int)]) [0] rfl
                refine vp_callSi (va_Run.run (va_runV (As := [.int 0]) (rest := []) ⟨hx, hb, hml, hown, hts⟩ (c_X1_countMatches l dC dI h0 me sp cI f fa fl fd cr lo so 0) (cwV 1 hts gX1_look_X1_countMatches rfl rfl rfl (by decide +kernel) ⟨Nat.le_of_ble_eq_true rfl, Nat.le_of_ble_eq_true rfl⟩) ⟨fun a U g mk q => by obtain ⟨q0, qP, qK⟩ := q; exact ⟨q0, qP, va_K.moved (u := U) (U := U.calling g mk a) (Vm.Alike.refl U.vm) qK⟩, va_recv hKc hPc (ci := 1) (q0 := 0) rfl rfl, fun U hU hW => ⟨rfl, by rw [hU]; exact hPc, va_K.moved hW.alike hKc⟩⟩ rfl rfl hl.1 rfl (lv_room (Nat.le_of_ble_eq_true rfl)) dX1_look_80 ⟨Nat.le_of_ble_eq_true rfl, Nat.le_of_ble_eq_true rfl⟩)) (fun r_8 hw_9 => ?_)
                subst hw_9
                exact W.iret (v := s_X1_countMatches f 0) hx hb hr (fun t ht hW => ⟨s_X1_countMatches f 0, rfl, by simp only [s_X1_look, if_neg hs_1, if_neg hs_2, if_neg hs_3, if_neg hs_4, if_neg hs_5, if_neg hs_6, if_pos hs_7], ht⟩) (fun q h => by cases h) dX1_look_83
              · skip
                by_cases hs_10 : k = 7
                · refine lv_tableIn (tgt := 84) hx hb dX1_look_1 (by rw [hs_10]; decide) (by rw [hs_10]; decide) (off := 83) (by rw [hs_10]; decide) (by decide) ?_
                  refine lv_aload_n hx hb dX1_look_84 rfl (lv_at hl 0 rfl) ?_
                  refine lv_iconst (v := 1) hx hb dX1_look_85 (by decide) ?_
                  have hPc := hP.sub (ws' := [(h0, .inr (1, [.ref me, .ref sp, .int fa, .int fl, .int fd, .int cr, .int lo, .int so])), (sp, .inl (cI, 33, .inl f))]) [0, 1] rfl
                  have hKc := hK.sub (tys' := [(cI, .int)]) [0] rfl
                  refine vp_callSi (va_Run.run (va_runV (As := [.int 1]) (rest := []) ⟨hx, hb, hml, hown, hts⟩ (c_X1_countMatches l dC dI h0 me sp cI f fa fl fd cr lo so 1) (cwV 1 hts gX1_look_X1_countMatches rfl rfl rfl (by decide +kernel) ⟨Nat.le_of_ble_eq_true rfl, Nat.le_of_ble_eq_true rfl⟩) ⟨fun a U g mk q => by obtain ⟨q0, qP, qK⟩ := q; exact ⟨q0, qP, va_K.moved (u := U) (U := U.calling g mk a) (Vm.Alike.refl U.vm) qK⟩, va_recv hKc hPc (ci := 1) (q0 := 0) rfl rfl, fun U hU hW => ⟨rfl, by rw [hU]; exact hPc, va_K.moved hW.alike hKc⟩⟩ rfl rfl hl.1 rfl (lv_room (Nat.le_of_ble_eq_true rfl)) dX1_look_86 ⟨Nat.le_of_ble_eq_true rfl, Nat.le_of_ble_eq_true rfl⟩)) (fun r_11 hw_12 => ?_)
                  subst hw_12
                  exact W.iret (v := s_X1_countMatches f 1) hx hb hr (fun t ht hW => ⟨s_X1_countMatches f 1, rfl, by simp only [s_X1_look, if_neg hs_1, if_neg hs_2, if_neg hs_3, if_neg hs_4, if_neg hs_5, if_neg hs_6, if_neg hs_7, if_pos hs_10], ht⟩) (fun q h => by cases h) dX1_look_89
                · skip
                  refine lv_tableOut (tgt := 90) hx hb dX1_look_1 (by have := lv_neT hs_1 (a := 0) (by decide); have := lv_neT hs_2 (a := 1) (by decide); have := lv_neT hs_3 (a := 2) (by decide); have := lv_neT hs_4 (a := 3) (by decide); have := lv_neT hs_5 (a := 4) (by decide); have := lv_neT hs_6 (a := 5) (by decide); have := lv_neT hs_7 (a := 6) (by decide); have := lv_neT hs_10 (a := 7) (by decide); omega) (by decide) ?_
                  refine lv_iconst (v := (-1)) hx hb dX1_look_90 (by decide) ?_
                  exact W.iret (v := (-1)) hx hb hr (fun t ht hW => ⟨(-1), rfl, by simp only [s_X1_look, if_neg hs_1, if_neg hs_2, if_neg hs_3, if_neg hs_4, if_neg hs_5, if_neg hs_6, if_neg hs_7, if_neg hs_10], ht⟩) (fun q h => by cases h) dX1_look_91
end
section
set_option maxRecDepth 100000 in
theorem miX1_forget_X1 : ∀ w ∈ u_ws RX1 TX1 8, w ∈ wsX1_forget := by decide +kernel
set_option maxRecDepth 100000 in
theorem mbX1_forget_1 : (.fieldLink RX1 16 "SoftMaps" "specials" "[I" : Cond) ∈ wsX1_forget := by decide +kernel
set_option maxHeartbeats 4000000 in
set_option maxRecDepth 100000 in
theorem lp_X1_forget {p : Program} {l : Launch} {e : Env} {s : State} {m : MethodId} {args : Array Value} {below : List Frame} {meth : Method} {c : Code} {Q : State → Prop} (hx : p.tables.exec = Jvm.exec) (hb : c.code = cX1_forget) (hml : c.maxLocals = 5) (hown : s.vm.findClass RX1 = some m.cls) (hts : ∀ w ∈ wsX1_forget, w.before args s = true) (dC : Nat → ClassId) (dI : Nat → Nat → Nat) (h0 me sp : Nat) (cI : ClassId) (f : Nat → Int32) (fa fl fd cr lo so : Int32) (dd be : Int32) {A : Nat → Prop} (hA : ∀ q : Nat, s.heap.size ≤ q → A q) (hK : va_K (dC, dI) vwCl [(cI, .int)] s) : ∀ (n i : Nat) (H : Heap) (locs : List Loc) (ls : Array Slot), i + n = 8 → va_P (dC, dI) vwCl [(h0, .inr (1, [.ref me, .ref sp, .int fa, .int fl, .int fd, .int cr, .int lo, .int so])), (sp, .inl (cI, 33, .inl (s_clr f (s_X1_firstMatch dd) i)))] H → va_D A [(h0, .inr (1, [.ref me, .ref sp, .int fa, .int fl, .int fd, .int cr, .int lo, .int so])), (sp, .inl (cI, 33, .inl (s_clr f (s_X1_firstMatch dd) i)))] → va_S A s.heap H locs → lv_has ls 5 [(4, .int (nI i)), (3, .int (s_X1_firstMatch dd)), (2, .int be), (0, .ref h0), (1, .int dd)] → (∀ (H : Heap) (locs : List Loc) (ls : Array Slot), va_P (dC, dI) vwCl [(h0, .inr (1, [.ref me, .ref sp, .int fa, .int fl, .int fd, .int cr, .int lo, .int so])), (sp, .inl (cI, 33, .inl (s_clr f (s_X1_firstMatch dd) 8)))] H → va_D A [(h0, .inr (1, [.ref me, .ref sp, .int fa, .int fl, .int fd, .int cr, .int lo, .int so])), (sp, .inl (cI, 33, .inl (s_clr f (s_X1_firstMatch dd) 8)))] → va_S A s.heap H locs → lv_has ls 5 [(4, .int (nI 8)), (3, .int (s_X1_firstMatch dd)), (2, .int be), (0, .ref h0), (1, .int dd)] → W p l e ({ frames := 2, cells := 0, slots := 0, locals := 44 }) s m args below meth c H locs 0 0 Q (F0 m 41 ls [])) → W p l e ({ frames := 2, cells := 0, slots := 0, locals := 44 }) s m args below meth c H locs 0 0 Q (F0 m 14 ls []) := by
  intro n
  induction n with
  | zero =>
    intro i H locs ls hin hP hD hS hl kk
    obtain rfl : i = 8 := by omega
    refine lv_iload hx hb dX1_forget_14 (lv_at hl 0 rfl) ?_
    refine lv_bipush (v := 8) hx hb dX1_forget_16 (by decide) ?_
    refine lv_icmp_ge (tgt := 41) hx hb dX1_forget_18 (by decide) (fun cz => ?_) (fun cz => ?_)
    · exact kk H locs ls hP hD hS hl
    · exact absurd (nI_le (Nat.le_refl 8) (by decide)) cz
  | succ n ih =>
    intro i H locs ls hin hP hD hS hl kk
    have hi : i < 8 := by omega
    refine lv_iload hx hb dX1_forget_14 (lv_at hl 0 rfl) ?_
    refine lv_bipush (v := 8) hx hb dX1_forget_16 (by decide) ?_
    refine lv_icmp_ge (tgt := 41) hx hb dX1_forget_18 (by decide) (fun cz => ?_) (fun cz => ?_)
    · exact absurd cz (nI_ge hi (by decide))
    · skip
      refine lv_aload_n hx hb dX1_forget_21 rfl (lv_at hl 3 rfl) ?_
      refine va_get (D := (dC, dI)) (ci := 1) (v := .ref sp) (C := RX1) (T := TX1) (N := 8) hx hb hts miX1_forget_X1 hown hK hP 0 rfl rfl 1 (by decide) (hts _ mbX1_forget_1) (fun _ h9 => h9) rfl dX1_forget_22 ?_
      refine lv_iload_n hx hb dX1_forget_25 rfl (lv_at hl 1 rfl) ?_
      refine lv_iload hx hb dX1_forget_26 (lv_at hl 0 rfl) ?_
      refine lv_iadd hx hb dX1_forget_28 ?_
      refine lv_dup2_11 hx hb dX1_forget_29 rfl rfl ?_
      refine va_iald hx hb hK hP 1 0 rfl rfl (in_c dd hi) dX1_forget_30 ?_
      refine lv_bipush (v := (-2)) hx hb dX1_forget_31 (by decide) ?_
      refine lv_iand hx hb dX1_forget_33 ?_
      refine va_iast hx hb hK hP hD hS 1 0 rfl rfl (in_c dd hi) dX1_forget_34 (fun H locs hP hD hS => ?_)
      have hP : va_P (dC, dI) vwCl [(h0, .inr (1, [.ref me, .ref sp, .int fa, .int fl, .int fd, .int cr, .int lo, .int so])), (sp, .inl (cI, 33, .inl (upd (s_clr f (s_X1_firstMatch dd) i) ((s_X1_firstMatch dd) + (nI i)).toNatClampNeg (((s_clr f (s_X1_firstMatch dd) i) ((s_X1_firstMatch dd) + (nI i)).toNatClampNeg) &&& (-2)))))] H := hP
      have hD : va_D A [(h0, .inr (1, [.ref me, .ref sp, .int fa, .int fl, .int fd, .int cr, .int lo, .int so])), (sp, .inl (cI, 33, .inl (upd (s_clr f (s_X1_firstMatch dd) i) ((s_X1_firstMatch dd) + (nI i)).toNatClampNeg (((s_clr f (s_X1_firstMatch dd) i) ((s_X1_firstMatch dd) + (nI i)).toNatClampNeg) &&& (-2)))))] := hD
      refine lv_iinc (v := (nI i) + 1) (lv' := [(4, .int ((nI i) + 1)), (3, .int (s_X1_firstMatch dd)), (2, .int be), (0, .ref h0), (1, .int dd)]) hx hb dX1_forget_35 hl (k := 0) rfl rfl (by decide) rfl (fun ls hl => ?_)
      refine lv_goto (tgt := 14) hx hb dX1_forget_38 (by decide) ?_
      exact ih (i + 1) H locs ls (by omega) hP hD hS (by rw [← nI_1 i]; exact lv_sub hl [0, 1, 2, 3, 4] rfl) kk
def s_X1_forget (f : Nat → Int32) (dd : Int32) : Int32 × (Nat → Int32) :=
  (s_X1_countMatches f dd, s_clr f (s_X1_firstMatch dd) 8)
set_option maxHeartbeats 4000000 in
set_option maxRecDepth 100000 in
theorem c_X1_forget (l : Launch) (dC : Nat → ClassId) (dI : Nat → Nat → Nat) (sz : Nat) (h0 me sp : Nat) (cI : ClassId) (f : Nat → Int32) (fa fl fd cr lo so : Int32) (dd : Int32)  : Met l yX1_forget wsX1_forget ({ frames := 2, cells := 0, slots := 0, locals := 44 }) (va_Pc [.ref h0, .int dd] (fun U => U.heap.size = sz ∧ va_P (dC, dI) vwCl [(h0, .inr (1, [.ref me, .ref sp, .int fa, .int fl, .int fd, .int cr, .int lo, .int so])), (sp, .inl (cI, 33, .inl f))] U.heap ∧ va_K (dC, dI) vwCl [(cI, .int)] U ∧ va_D (fun _ => True) [(h0, .inr (1, [.ref me, .ref sp, .int fa, .int fl, .int fd, .int cr, .int lo, .int so])), (sp, .inl (cI, 33, .inl f))])) (va_Qi (fun (a_ : Int32) (u : Nat → Int32) => (a_, u) = s_X1_forget f dd) (fun (u : Nat → Int32) (t : State) => va_P (dC, dI) vwCl [(h0, .inr (1, [.ref me, .ref sp, .int fa, .int fl, .int fd, .int cr, .int lo, .int so])), (sp, .inl (cI, 33, .inl u))] t.heap ∧ va_K (dC, dI) vwCl [(cI, .int)] t ∧ va_D (va_A [(h0, .inr (1, [.ref me, .ref sp, .int fa, .int fl, .int fd, .int cr, .int lo, .int so])), (sp, .inl (cI, 33, .inl f))] sz) [(h0, .inr (1, [.ref me, .ref sp, .int fa, .int fl, .int fd, .int cr, .int lo, .int so])), (sp, .inl (cI, 33, .inl u))]) (va_A [(h0, .inr (1, [.ref me, .ref sp, .int fa, .int fl, .int fd, .int cr, .int lo, .int so])), (sp, .inl (cI, 33, .inl f))] sz)) 0 0 (va_A [(h0, .inr (1, [.ref me, .ref sp, .int fa, .int fl, .int fd, .int cr, .int lo, .int so])), (sp, .inl (cI, 33, .inl f))] sz) := by
  refine Met.ofW (cc := cX1_forget) (maxL := 5) (ret := (some .int)) (by decide) rfl ?_
  intro p e s m args below meth c s₁ B hml hv
  obtain ⟨rfl, hsz, hP, hK, hD0⟩ := hv
  have hx := B.exec
  have hb := B.bytes
  have hr := B.returns
  have hts := atoms_spec (ws := wsX1_forget) B.pre
  have hown : s.vm.findClass RX1 = some m.cls := findClass_of_methodNamed B.named
  have hlocks := B.notSynchronized
  subst hsz
  have hD := hD0.self (sz := s.heap.size)
  generalize hAe : va_A [(h0, .inr (1, [.ref me, .ref sp, .int fa, .int fl, .int fd, .int cr, .int lo, .int so])), (sp, .inl (cI, 33, .inl f))] s.heap.size = A at hD ⊢
  have hA : ∀ q : Nat, s.heap.size ≤ q → A q := fun q h => by rw [← hAe]; exact Or.inr h
  have hS : va_S A s.heap s.heap [] := va_S.rf
  have hP : va_P (dC, dI) vwCl [(h0, .inr (1, [.ref me, .ref sp, .int fa, .int fl, .int fd, .int cr, .int lo, .int so])), (sp, .inl (cI, 33, .inl f))] s.heap := hP
  have hl := lv_entry ([.ref h0, .int dd]) (n := 5) (Nat.le_of_ble_eq_true rfl)
  rw [lg_entry_eq]
  generalize (lg_sl ([.ref h0, .int dd]) ++ List.replicate (5 - (lg_sl ([.ref h0, .int dd])).length) Slot.unset).toArray = ls at hl ⊢
  have hl : lv_has ls 5 [(0, .ref h0), (1, .int dd)] := hl
  refine lv_aload_n hx hb dX1_forget_0 rfl (lv_at hl 0 rfl) ?_
  refine lv_iload_n hx hb dX1_forget_1 rfl (lv_at hl 1 rfl) ?_
  have hPc := hP.sub (ws' := [(h0, .inr (1, [.ref me, .ref sp, .int fa, .int fl, .int fd, .int cr, .int lo, .int so])), (sp, .inl (cI, 33, .inl f))]) [0, 1] rfl
  have hKc := hK.sub (tys' := [(cI, .int)]) [0] rfl
  refine vp_callSi (va_Run.run (va_runV (As := [.int dd]) (rest := []) ⟨hx, hb, hml, hown, hts⟩ (c_X1_countMatches l dC dI h0 me sp cI f fa fl fd cr lo so dd) (cwV 1 hts gX1_forget_X1_countMatches rfl rfl rfl (by decide +kernel) ⟨Nat.le_of_ble_eq_true rfl, Nat.le_of_ble_eq_true rfl⟩) ⟨fun a U g mk q => by obtain ⟨q0, qP, qK⟩ := q; exact ⟨q0, qP, va_K.moved (u := U) (U := U.calling g mk a) (Vm.Alike.refl U.vm) qK⟩, va_recv hKc hPc (ci := 1) (q0 := 0) rfl rfl, fun U hU hW => ⟨rfl, by rw [hU]; exact hPc, va_K.moved hW.alike hKc⟩⟩ rfl rfl hl.1 rfl (lv_room (Nat.le_of_ble_eq_true rfl)) dX1_forget_2 ⟨Nat.le_of_ble_eq_true rfl, Nat.le_of_ble_eq_true rfl⟩)) (fun r_1 hw_2 => ?_)
  subst hw_2
  refine lv_istore_n (lv' := [(2, .int (s_X1_countMatches f dd)), (0, .ref h0), (1, .int dd)]) hx hb dX1_forget_5 rfl hl (by decide) rfl (fun ls hl => ?_)
  refine lv_iload_n hx hb dX1_forget_6 rfl (lv_at hl 2 rfl) ?_
  refine vp_callSi (va_Run.run (va_runS (As := [.int dd]) (rest := []) ⟨hx, hb, hml, hown, hts⟩ (c_X1_firstMatch l dd) (va_cwS 1 hts gX1_forget_X1_firstMatch rfl rfl rfl (by decide +kernel) ⟨Nat.le_of_ble_eq_true rfl, Nat.le_of_ble_eq_true rfl⟩) ⟨fun a U g mk q => q, fun U hU hW => ⟨rfl, trivial⟩⟩ rfl rfl hl.1 rfl (lv_room (Nat.le_of_ble_eq_true rfl)) dX1_forget_7 ⟨Nat.le_of_ble_eq_true rfl, Nat.le_of_ble_eq_true rfl⟩)) (fun r_3 hw_4 => ?_)
  subst hw_4
  refine lv_istore_n (lv' := [(3, .int (s_X1_firstMatch dd)), (2, .int (s_X1_countMatches f dd)), (0, .ref h0), (1, .int dd)]) hx hb dX1_forget_10 rfl hl (by decide) rfl (fun ls hl => ?_)
  refine lv_iconst (v := 0) hx hb dX1_forget_11 (by decide) ?_
  refine lv_istore (lv' := [(4, .int 0), (3, .int (s_X1_firstMatch dd)), (2, .int (s_X1_countMatches f dd)), (0, .ref h0), (1, .int dd)]) hx hb dX1_forget_12 hl (by decide) rfl (fun ls hl => ?_)
  refine lp_X1_forget hx hb hml hown hts dC dI h0 me sp cI f fa fl fd cr lo so dd (s_X1_countMatches f dd) hA hK 8 0 _ _ ls (by omega) hP hD hS (lv_sub hl [0, 1, 2, 3, 4] rfl) (fun H locs ls hP hD hS hl => ?_)
  refine lv_iload_n hx hb dX1_forget_41 rfl (lv_at hl 2 rfl) ?_
  exact W.iret (v := s_X1_countMatches f dd) hx hb hr (fun t ht hW => ⟨⟨s_X1_countMatches f dd, (s_clr f (s_X1_firstMatch dd) 8), rfl, by first | rfl | (unfold s_X1_forget; rfl), by rw [ht]; exact hP, va_K.moved hW.alike hK, hD⟩, hS.F ht⟩) hS.2.2 dX1_forget_42
def s_X1_find (f : Nat → Int32) (v : Int32) (how : Int32) (wd : Int32) : Int32 :=
  if how < 0 then
    0
  else
    if how ≤ 2 then
      if wd = 0 then
        if how = 0 then
          s_X1_locate f v how 1
        else
          s_X1_locate f v how 0
      else
        s_X1_locate f v how 1
    else
      0
set_option maxHeartbeats 4000000 in
set_option maxRecDepth 100000 in
theorem c_X1_find (l : Launch) (dC : Nat → ClassId) (dI : Nat → Nat → Nat) (h0 me sp : Nat) (cI : ClassId) (f : Nat → Int32) (fa fl fd cr lo so : Int32) (v : Int32) (how : Int32) (wd : Int32)  : Met l yX1_find wsX1_find ({ frames := 3, cells := 0, slots := 0, locals := 66 }) (va_Pc [.ref h0, .int v, .int how, .int wd] (fun U => va_P (dC, dI) vwCl [(h0, .inr (1, [.ref me, .ref sp, .int fa, .int fl, .int fd, .int cr, .int lo, .int so])), (sp, .inl (cI, 33, .inl f))] U.heap ∧ va_K (dC, dI) vwCl [(cI, .int)] U)) (vp_Si (fun x_ => x_ = s_X1_find f v how wd)) 0 0 (fun _ => False) := by
  refine Met.ofW (cc := cX1_find) (maxL := 4) (ret := (some .int)) (by decide) rfl ?_
  intro p e s m args below meth c s₁ B hml hv
  obtain ⟨rfl, hP, hK⟩ := hv
  have hx := B.exec
  have hb := B.bytes
  have hr := B.returns
  have hts := atoms_spec (ws := wsX1_find) B.pre
  have hown : s.vm.findClass RX1 = some m.cls := findClass_of_methodNamed B.named
  have hlocks := B.notSynchronized
  have hl := lv_entry ([.ref h0, .int v, .int how, .int wd]) (n := 4) (Nat.le_of_ble_eq_true rfl)
  rw [lg_entry_eq]
  generalize (lg_sl ([.ref h0, .int v, .int how, .int wd]) ++ List.replicate (4 - (lg_sl ([.ref h0, .int v, .int how, .int wd])).length) Slot.unset).toArray = ls at hl ⊢
  have hl : lv_has ls 4 [(0, .ref h0), (1, .int v), (2, .int how), (3, .int wd)] := hl
  have hP : va_P (dC, dI) vwCl [(h0, .inr (1, [.ref me, .ref sp, .int fa, .int fl, .int fd, .int cr, .int lo, .int so])), (sp, .inl (cI, 33, .inl f))] s.heap := hP
  refine lv_iload_n hx hb dX1_find_0 rfl (lv_at hl 2 rfl) ?_
  refine lv_if_lt (tgt := 9) hx hb dX1_find_1 (by decide) (fun c_1 => ?_) (fun c_1 => ?_)
  · skip
    refine lv_iconst (v := 0) hx hb dX1_find_9 (by decide) ?_
    exact W.iret (v := 0) hx hb hr (fun t ht hW => ⟨0, rfl, by simp only [s_X1_find, if_pos c_1], ht⟩) (fun q h => by cases h) dX1_find_10
  · skip
    refine lv_iload_n hx hb dX1_find_4 rfl (lv_at hl 2 rfl) ?_
    refine lv_iconst (v := 2) hx hb dX1_find_5 (by decide) ?_
    refine lv_icmp_le (tgt := 11) hx hb dX1_find_6 (by decide) (fun c_2 => ?_) (fun c_2 => ?_)
    · skip
      refine lv_aload_n hx hb dX1_find_11 rfl (lv_at hl 0 rfl) ?_
      refine lv_iload_n hx hb dX1_find_12 rfl (lv_at hl 1 rfl) ?_
      refine lv_iload_n hx hb dX1_find_13 rfl (lv_at hl 2 rfl) ?_
      refine lv_iload_n hx hb dX1_find_14 rfl (lv_at hl 3 rfl) ?_
      refine lv_if_ne (tgt := 22) hx hb dX1_find_15 (by decide) (fun c_3 => ?_) (fun c_3 => ?_)
      · skip
        refine lv_iconst (v := 1) hx hb dX1_find_22 (by decide) ?_
        refine lv_goto (tgt := 27) hx hb dX1_find_23 (by decide) ?_
        have hPc := hP.sub (ws' := [(h0, .inr (1, [.ref me, .ref sp, .int fa, .int fl, .int fd, .int cr, .int lo, .int so])), (sp, .inl (cI, 33, .inl f))]) [0, 1] rfl
        have hKc := hK.sub (tys' := [(cI, .int)]) [0] rfl
        refine vp_callSi (va_Run.run (va_runV (As := [.int v, .int how, .int 1]) (rest := []) ⟨hx, hb, hml, hown, hts⟩ (c_X1_locate l dC dI h0 me sp cI f fa fl fd cr lo so v how 1) (cwV 3 hts gX1_find_X1_locate rfl rfl rfl (by decide +kernel) ⟨Nat.le_of_ble_eq_true rfl, Nat.le_of_ble_eq_true rfl⟩) ⟨fun a U g mk q => by obtain ⟨q0, qP, qK⟩ := q; exact ⟨q0, qP, va_K.moved (u := U) (U := U.calling g mk a) (Vm.Alike.refl U.vm) qK⟩, va_recv hKc hPc (ci := 1) (q0 := 0) rfl rfl, fun U hU hW => ⟨rfl, by rw [hU]; exact hPc, va_K.moved hW.alike hKc⟩⟩ rfl rfl hl.1 rfl (lv_room (Nat.le_of_ble_eq_true rfl)) dX1_find_27 ⟨Nat.le_of_ble_eq_true rfl, Nat.le_of_ble_eq_true rfl⟩)) (fun r_4 hw_5 => ?_)
        subst hw_5
        exact W.iret (v := s_X1_locate f v how 1) hx hb hr (fun t ht hW => ⟨s_X1_locate f v how 1, rfl, by simp only [s_X1_find, if_neg c_1, if_pos c_2, if_neg c_3], ht⟩) (fun q h => by cases h) dX1_find_30
      · skip
        refine lv_iload_n hx hb dX1_find_18 rfl (lv_at hl 2 rfl) ?_
        refine lv_if_ne (tgt := 26) hx hb dX1_find_19 (by decide) (fun c_6 => ?_) (fun c_6 => ?_)
        · skip
          refine lv_iconst (v := 0) hx hb dX1_find_26 (by decide) ?_
          have hPc := hP.sub (ws' := [(h0, .inr (1, [.ref me, .ref sp, .int fa, .int fl, .int fd, .int cr, .int lo, .int so])), (sp, .inl (cI, 33, .inl f))]) [0, 1] rfl
          have hKc := hK.sub (tys' := [(cI, .int)]) [0] rfl
          refine vp_callSi (va_Run.run (va_runV (As := [.int v, .int how, .int 0]) (rest := []) ⟨hx, hb, hml, hown, hts⟩ (c_X1_locate l dC dI h0 me sp cI f fa fl fd cr lo so v how 0) (cwV 3 hts gX1_find_X1_locate rfl rfl rfl (by decide +kernel) ⟨Nat.le_of_ble_eq_true rfl, Nat.le_of_ble_eq_true rfl⟩) ⟨fun a U g mk q => by obtain ⟨q0, qP, qK⟩ := q; exact ⟨q0, qP, va_K.moved (u := U) (U := U.calling g mk a) (Vm.Alike.refl U.vm) qK⟩, va_recv hKc hPc (ci := 1) (q0 := 0) rfl rfl, fun U hU hW => ⟨rfl, by rw [hU]; exact hPc, va_K.moved hW.alike hKc⟩⟩ rfl rfl hl.1 rfl (lv_room (Nat.le_of_ble_eq_true rfl)) dX1_find_27 ⟨Nat.le_of_ble_eq_true rfl, Nat.le_of_ble_eq_true rfl⟩)) (fun r_7 hw_8 => ?_)
          subst hw_8
          exact W.iret (v := s_X1_locate f v how 0) hx hb hr (fun t ht hW => ⟨s_X1_locate f v how 0, rfl, by simp only [s_X1_find, if_neg c_1, if_pos c_2, if_pos c_3, if_neg c_6], ht⟩) (fun q h => by cases h) dX1_find_30
        · skip
          refine lv_iconst (v := 1) hx hb dX1_find_22 (by decide) ?_
          refine lv_goto (tgt := 27) hx hb dX1_find_23 (by decide) ?_
          have hPc := hP.sub (ws' := [(h0, .inr (1, [.ref me, .ref sp, .int fa, .int fl, .int fd, .int cr, .int lo, .int so])), (sp, .inl (cI, 33, .inl f))]) [0, 1] rfl
          have hKc := hK.sub (tys' := [(cI, .int)]) [0] rfl
          refine vp_callSi (va_Run.run (va_runV (As := [.int v, .int how, .int 1]) (rest := []) ⟨hx, hb, hml, hown, hts⟩ (c_X1_locate l dC dI h0 me sp cI f fa fl fd cr lo so v how 1) (cwV 3 hts gX1_find_X1_locate rfl rfl rfl (by decide +kernel) ⟨Nat.le_of_ble_eq_true rfl, Nat.le_of_ble_eq_true rfl⟩) ⟨fun a U g mk q => by obtain ⟨q0, qP, qK⟩ := q; exact ⟨q0, qP, va_K.moved (u := U) (U := U.calling g mk a) (Vm.Alike.refl U.vm) qK⟩, va_recv hKc hPc (ci := 1) (q0 := 0) rfl rfl, fun U hU hW => ⟨rfl, by rw [hU]; exact hPc, va_K.moved hW.alike hKc⟩⟩ rfl rfl hl.1 rfl (lv_room (Nat.le_of_ble_eq_true rfl)) dX1_find_27 ⟨Nat.le_of_ble_eq_true rfl, Nat.le_of_ble_eq_true rfl⟩)) (fun r_9 hw_10 => ?_)
          subst hw_10
          exact W.iret (v := s_X1_locate f v how 1) hx hb hr (fun t ht hW => ⟨s_X1_locate f v how 1, rfl, by simp only [s_X1_find, if_neg c_1, if_pos c_2, if_pos c_3, if_pos c_6], ht⟩) (fun q h => by cases h) dX1_find_30
    · skip
      refine lv_iconst (v := 0) hx hb dX1_find_9 (by decide) ?_
      exact W.iret (v := 0) hx hb hr (fun t ht hW => ⟨0, rfl, by simp only [s_X1_find, if_neg c_1, if_neg c_2], ht⟩) (fun q h => by cases h) dX1_find_10
end
section
set_option maxRecDepth 100000 in
theorem miX1_probe_X1 : ∀ w ∈ u_ws RX1 TX1 8, w ∈ wsX1_probe := by decide +kernel
set_option maxRecDepth 100000 in
theorem mbX1_probe_1 : (.fieldLink RX1 68 "SoftMaps" "faults" "I" : Cond) ∈ wsX1_probe := by decide +kernel
set_option maxRecDepth 100000 in
theorem mbX1_probe_2 : (.fieldLink RX1 71 "SoftMaps" "latestFault" "I" : Cond) ∈ wsX1_probe := by decide +kernel
set_option maxRecDepth 100000 in
theorem mbX1_probe_3 : (.fieldLink RX1 74 "SoftMaps" "faultAddress" "I" : Cond) ∈ wsX1_probe := by decide +kernel
def s_X1_probe (f : Nat → Int32) (fa fl fd : Int32) (v : Int32) (how : Int32) (wd : Int32) : Int32 × (Int32 × Int32 × Int32) :=
  if 0 ≤ s_X1_locate f v how wd then
    (s_X1_locate f v how wd, (fa, fl, fd))
  else
    (s_X1_locate f v how wd, (fa + 1, -(s_X1_locate f v how wd), v))
set_option maxHeartbeats 4000000 in
set_option maxRecDepth 100000 in
theorem c_X1_probe (l : Launch) (dC : Nat → ClassId) (dI : Nat → Nat → Nat) (sz : Nat) (h0 me sp : Nat) (cI : ClassId) (f : Nat → Int32) (fa fl fd cr lo so : Int32) (v : Int32) (how : Int32) (wd : Int32)  : Met l yX1_probe wsX1_probe ({ frames := 3, cells := 0, slots := 0, locals := 66 }) (va_Pc [.ref h0, .int v, .int how, .int wd] (fun U => U.heap.size = sz ∧ va_P (dC, dI) vwCl [(h0, .inr (1, [.ref me, .ref sp, .int fa, .int fl, .int fd, .int cr, .int lo, .int so])), (sp, .inl (cI, 33, .inl f))] U.heap ∧ va_K (dC, dI) vwCl [(cI, .int)] U ∧ va_D (fun _ => True) [(h0, .inr (1, [.ref me, .ref sp, .int fa, .int fl, .int fd, .int cr, .int lo, .int so])), (sp, .inl (cI, 33, .inl f))])) (va_Qi (fun (a_ : Int32) (u : Int32 × Int32 × Int32) => (a_, u) = s_X1_probe f fa fl fd v how wd) (fun (u : Int32 × Int32 × Int32) (t : State) => va_P (dC, dI) vwCl [(h0, .inr (1, [.ref me, .ref sp, .int u.1, .int u.2.1, .int u.2.2, .int cr, .int lo, .int so])), (sp, .inl (cI, 33, .inl f))] t.heap ∧ va_K (dC, dI) vwCl [(cI, .int)] t ∧ va_D (va_A [(h0, .inr (1, [.ref me, .ref sp, .int fa, .int fl, .int fd, .int cr, .int lo, .int so])), (sp, .inl (cI, 33, .inl f))] sz) [(h0, .inr (1, [.ref me, .ref sp, .int u.1, .int u.2.1, .int u.2.2, .int cr, .int lo, .int so])), (sp, .inl (cI, 33, .inl f))]) (va_A [(h0, .inr (1, [.ref me, .ref sp, .int fa, .int fl, .int fd, .int cr, .int lo, .int so])), (sp, .inl (cI, 33, .inl f))] sz)) 0 0 (va_A [(h0, .inr (1, [.ref me, .ref sp, .int fa, .int fl, .int fd, .int cr, .int lo, .int so])), (sp, .inl (cI, 33, .inl f))] sz) := by
  refine Met.ofW (cc := cX1_probe) (maxL := 5) (ret := (some .int)) (by decide) rfl ?_
  intro p e s m args below meth c s₁ B hml hv
  obtain ⟨rfl, hsz, hP, hK, hD0⟩ := hv
  have hx := B.exec
  have hb := B.bytes
  have hr := B.returns
  have hts := atoms_spec (ws := wsX1_probe) B.pre
  have hown : s.vm.findClass RX1 = some m.cls := findClass_of_methodNamed B.named
  have hlocks := B.notSynchronized
  subst hsz
  have hD := hD0.self (sz := s.heap.size)
  generalize hAe : va_A [(h0, .inr (1, [.ref me, .ref sp, .int fa, .int fl, .int fd, .int cr, .int lo, .int so])), (sp, .inl (cI, 33, .inl f))] s.heap.size = A at hD ⊢
  have hA : ∀ q : Nat, s.heap.size ≤ q → A q := fun q h => by rw [← hAe]; exact Or.inr h
  have hS : va_S A s.heap s.heap [] := va_S.rf
  have hP : va_P (dC, dI) vwCl [(h0, .inr (1, [.ref me, .ref sp, .int fa, .int fl, .int fd, .int cr, .int lo, .int so])), (sp, .inl (cI, 33, .inl f))] s.heap := hP
  have hl := lv_entry ([.ref h0, .int v, .int how, .int wd]) (n := 5) (Nat.le_of_ble_eq_true rfl)
  rw [lg_entry_eq]
  generalize (lg_sl ([.ref h0, .int v, .int how, .int wd]) ++ List.replicate (5 - (lg_sl ([.ref h0, .int v, .int how, .int wd])).length) Slot.unset).toArray = ls at hl ⊢
  have hl : lv_has ls 5 [(0, .ref h0), (1, .int v), (2, .int how), (3, .int wd)] := hl
  refine lv_aload_n hx hb dX1_probe_0 rfl (lv_at hl 0 rfl) ?_
  refine lv_iload_n hx hb dX1_probe_1 rfl (lv_at hl 1 rfl) ?_
  refine lv_iload_n hx hb dX1_probe_2 rfl (lv_at hl 2 rfl) ?_
  refine lv_iload_n hx hb dX1_probe_3 rfl (lv_at hl 3 rfl) ?_
  have hPc := hP.sub (ws' := [(h0, .inr (1, [.ref me, .ref sp, .int fa, .int fl, .int fd, .int cr, .int lo, .int so])), (sp, .inl (cI, 33, .inl f))]) [0, 1] rfl
  have hKc := hK.sub (tys' := [(cI, .int)]) [0] rfl
  refine vp_callSi (va_Run.run (va_runV (As := [.int v, .int how, .int wd]) (rest := []) ⟨hx, hb, hml, hown, hts⟩ (c_X1_locate l dC dI h0 me sp cI f fa fl fd cr lo so v how wd) (cwV 3 hts gX1_probe_X1_locate rfl rfl rfl (by decide +kernel) ⟨Nat.le_of_ble_eq_true rfl, Nat.le_of_ble_eq_true rfl⟩) ⟨fun a U g mk q => by obtain ⟨q0, qP, qK⟩ := q; exact ⟨q0, qP, va_K.moved (u := U) (U := U.calling g mk a) (Vm.Alike.refl U.vm) qK⟩, va_recv hKc hPc (ci := 1) (q0 := 0) rfl rfl, fun U hU hW => ⟨rfl, by rw [hU]; exact hPc, va_K.moved hW.alike hKc⟩⟩ rfl rfl hl.1 rfl (lv_room (Nat.le_of_ble_eq_true rfl)) dX1_probe_4 ⟨Nat.le_of_ble_eq_true rfl, Nat.le_of_ble_eq_true rfl⟩)) (fun r_1 hw_2 => ?_)
  subst hw_2
  refine lv_istore (lv' := [(4, .int (s_X1_locate f v how wd)), (0, .ref h0), (1, .int v), (2, .int how), (3, .int wd)]) hx hb dX1_probe_7 hl (by decide) rfl (fun ls hl => ?_)
  refine lv_iload hx hb dX1_probe_9 (lv_at hl 0 rfl) ?_
  refine lv_if_ge (tgt := 36) hx hb dX1_probe_11 (by decide) (fun c_3 => ?_) (fun c_3 => ?_)
  · skip
    refine lv_iload hx hb dX1_probe_36 (lv_at hl 0 rfl) ?_
    exact W.iret (v := s_X1_locate f v how wd) hx hb hr (fun t ht hW => ⟨⟨s_X1_locate f v how wd, (fa, fl, fd), rfl, by simp only [s_X1_probe, if_pos c_3], by rw [ht]; exact hP, va_K.moved hW.alike hK, hD⟩, hS.F ht⟩) hS.2.2 dX1_probe_38
  · skip
    refine lv_aload_n hx hb dX1_probe_14 rfl (lv_at hl 1 rfl) ?_
    refine lv_dup hx hb dX1_probe_15 rfl ?_
    refine va_get (D := (dC, dI)) (ci := 1) (v := .int fa) (C := RX1) (T := TX1) (N := 8) hx hb hts miX1_probe_X1 hown hK hP 0 rfl rfl 2 (by decide) (hts _ mbX1_probe_1) (fun _ h9 => h9) rfl dX1_probe_16 ?_
    refine lv_iconst (v := 1) hx hb dX1_probe_19 (by decide) ?_
    refine lv_iadd hx hb dX1_probe_20 ?_
    refine va_put (D := (dC, dI)) (ci := 1) (v := .int (fa + 1)) (ty := tyX1 2) (C := RX1) (T := TX1) (N := 8) hx hb hts miX1_probe_X1 tyX1 tyX1_ok nmX1 hown hK hP hD hS 0 rfl rfl 2 (by decide) (hts _ mbX1_probe_1) (fun _ h9 => h9) rfl (by decide +kernel) rfl rfl (Nat.le_of_ble_eq_true rfl) dX1_probe_21 (fun H locs hP hD hS => ?_)
    have hP : va_P (dC, dI) vwCl [(h0, .inr (1, [.ref me, .ref sp, .int (fa + 1), .int fl, .int fd, .int cr, .int lo, .int so])), (sp, .inl (cI, 33, .inl f))] H := hP
    have hD : va_D A [(h0, .inr (1, [.ref me, .ref sp, .int (fa + 1), .int fl, .int fd, .int cr, .int lo, .int so])), (sp, .inl (cI, 33, .inl f))] := hD
    refine lv_aload_n hx hb dX1_probe_24 rfl (lv_at hl 1 rfl) ?_
    refine lv_iload hx hb dX1_probe_25 (lv_at hl 0 rfl) ?_
    refine lv_ineg hx hb dX1_probe_27 ?_
    refine va_put (D := (dC, dI)) (ci := 1) (v := .int (-(s_X1_locate f v how wd))) (ty := tyX1 3) (C := RX1) (T := TX1) (N := 8) hx hb hts miX1_probe_X1 tyX1 tyX1_ok nmX1 hown hK hP hD hS 0 rfl rfl 3 (by decide) (hts _ mbX1_probe_2) (fun _ h9 => h9) rfl (by decide +kernel) rfl rfl (Nat.le_of_ble_eq_true rfl) dX1_probe_28 (fun H locs hP hD hS => ?_)
    have hP : va_P (dC, dI) vwCl [(h0, .inr (1, [.ref me, .ref sp, .int (fa + 1), .int (-(s_X1_locate f v how wd)), .int fd, .int cr, .int lo, .int so])), (sp, .inl (cI, 33, .inl f))] H := hP
    have hD : va_D A [(h0, .inr (1, [.ref me, .ref sp, .int (fa + 1), .int (-(s_X1_locate f v how wd)), .int fd, .int cr, .int lo, .int so])), (sp, .inl (cI, 33, .inl f))] := hD
    refine lv_aload_n hx hb dX1_probe_31 rfl (lv_at hl 1 rfl) ?_
    refine lv_iload_n hx hb dX1_probe_32 rfl (lv_at hl 2 rfl) ?_
    refine va_put (D := (dC, dI)) (ci := 1) (v := .int v) (ty := tyX1 4) (C := RX1) (T := TX1) (N := 8) hx hb hts miX1_probe_X1 tyX1 tyX1_ok nmX1 hown hK hP hD hS 0 rfl rfl 4 (by decide) (hts _ mbX1_probe_3) (fun _ h9 => h9) rfl (by decide +kernel) rfl rfl (Nat.le_of_ble_eq_true rfl) dX1_probe_33 (fun H locs hP hD hS => ?_)
    have hP : va_P (dC, dI) vwCl [(h0, .inr (1, [.ref me, .ref sp, .int (fa + 1), .int (-(s_X1_locate f v how wd)), .int v, .int cr, .int lo, .int so])), (sp, .inl (cI, 33, .inl f))] H := hP
    have hD : va_D A [(h0, .inr (1, [.ref me, .ref sp, .int (fa + 1), .int (-(s_X1_locate f v how wd)), .int v, .int cr, .int lo, .int so])), (sp, .inl (cI, 33, .inl f))] := hD
    refine lv_iload hx hb dX1_probe_36 (lv_at hl 0 rfl) ?_
    exact W.iret (v := s_X1_locate f v how wd) hx hb hr (fun t ht hW => ⟨⟨s_X1_locate f v how wd, (fa + 1, -(s_X1_locate f v how wd), v), rfl, by simp only [s_X1_probe, if_neg c_3], by rw [ht]; exact hP, va_K.moved hW.alike hK, hD⟩, hS.F ht⟩) hS.2.2 dX1_probe_38
end
section
def s_X0_indexInPage (pl : Int32) : Int32 :=
  ush (pl &&& 1023) 2
set_option maxHeartbeats 4000000 in
set_option maxRecDepth 100000 in
theorem c_X0_indexInPage (l : Launch) (pl : Int32)  : Met l yX0_indexInPage wsX0_indexInPage ({ frames := 0, cells := 0, slots := 0, locals := 0 }) (va_Pc [.int pl] (fun U => True)) (vp_Si (fun x_ => x_ = s_X0_indexInPage pl)) 0 0 (fun _ => False) := by
  refine Met.ofW (cc := cX0_indexInPage) (maxL := 1) (ret := (some .int)) (by decide) rfl ?_
  intro p e s m args below meth c s₁ B hml hv
  obtain ⟨rfl, -⟩ := hv
  have hx := B.exec
  have hb := B.bytes
  have hr := B.returns
  have hts := atoms_spec (ws := wsX0_indexInPage) B.pre
  have hown : s.vm.findClass RX0 = some m.cls := findClass_of_methodNamed B.named
  have hlocks := B.notSynchronized
  have hl := lv_entry ([.int pl]) (n := 1) (Nat.le_of_ble_eq_true rfl)
  rw [lg_entry_eq]
  generalize (lg_sl ([.int pl]) ++ List.replicate (1 - (lg_sl ([.int pl])).length) Slot.unset).toArray = ls at hl ⊢
  have hl : lv_has ls 1 [(0, .int pl)] := hl
  refine lv_iload_n hx hb dX0_indexInPage_0 rfl (lv_at hl 0 rfl) ?_
  refine lv_sipush (v := 1023) hx hb dX0_indexInPage_1 (by decide) ?_
  refine lv_iand hx hb dX0_indexInPage_4 ?_
  refine lv_iconst (v := 2) hx hb dX0_indexInPage_5 (by decide) ?_
  refine lv_iushr (v := ush (pl &&& 1023) 2) hx hb dX0_indexInPage_6 rfl ?_
  exact W.iret (v := ush (pl &&& 1023) 2) hx hb hr (fun t ht hW => ⟨ush (pl &&& 1023) 2, rfl, by first | rfl | (unfold s_X0_indexInPage; rfl), ht⟩) (fun q h => by cases h) dX0_indexInPage_7
def s_X0_byteShift (pl : Int32) : Int32 :=
  (3 - (pl &&& 3)) * 8
set_option maxHeartbeats 4000000 in
set_option maxRecDepth 100000 in
theorem c_X0_byteShift (l : Launch) (pl : Int32)  : Met l yX0_byteShift wsX0_byteShift ({ frames := 0, cells := 0, slots := 0, locals := 0 }) (va_Pc [.int pl] (fun U => True)) (vp_Si (fun x_ => x_ = s_X0_byteShift pl)) 0 0 (fun _ => False) := by
  refine Met.ofW (cc := cX0_byteShift) (maxL := 1) (ret := (some .int)) (by decide) rfl ?_
  intro p e s m args below meth c s₁ B hml hv
  obtain ⟨rfl, -⟩ := hv
  have hx := B.exec
  have hb := B.bytes
  have hr := B.returns
  have hts := atoms_spec (ws := wsX0_byteShift) B.pre
  have hown : s.vm.findClass RX0 = some m.cls := findClass_of_methodNamed B.named
  have hlocks := B.notSynchronized
  have hl := lv_entry ([.int pl]) (n := 1) (Nat.le_of_ble_eq_true rfl)
  rw [lg_entry_eq]
  generalize (lg_sl ([.int pl]) ++ List.replicate (1 - (lg_sl ([.int pl])).length) Slot.unset).toArray = ls at hl ⊢
  have hl : lv_has ls 1 [(0, .int pl)] := hl
  refine lv_iconst (v := 3) hx hb dX0_byteShift_0 (by decide) ?_
  refine lv_iload_n hx hb dX0_byteShift_1 rfl (lv_at hl 0 rfl) ?_
  refine lv_iconst (v := 3) hx hb dX0_byteShift_2 (by decide) ?_
  refine lv_iand hx hb dX0_byteShift_3 ?_
  refine lv_isub hx hb dX0_byteShift_4 ?_
  refine lv_bipush (v := 8) hx hb dX0_byteShift_5 (by decide) ?_
  refine lv_imul hx hb dX0_byteShift_7 ?_
  exact W.iret (v := (3 - (pl &&& 3)) * 8) hx hb hr (fun t ht hW => ⟨(3 - (pl &&& 3)) * 8, rfl, by first | rfl | (unfold s_X0_byteShift; rfl), ht⟩) (fun q h => by cases h) dX0_byteShift_8
set_option maxRecDepth 100000 in
theorem mbX0_wordAt_0 : (.constant RX0 17 (65536) : Cond) ∈ wsX0_wordAt := by decide +kernel
set_option maxRecDepth 100000 in
theorem miX0_wordAt_X0 : ∀ w ∈ u_ws RX0 TX0 1, w ∈ wsX0_wordAt := by decide +kernel
set_option maxRecDepth 100000 in
theorem mbX0_wordAt_2 : (.fieldLink RX0 11 "SoftMaps$Memory" "pages" "[[I" : Cond) ∈ wsX0_wordAt := by decide +kernel
set_option maxHeartbeats 4000000 in
set_option maxRecDepth 100000 in
theorem c_X0_wordAt (l : Launch) (dC : Nat → ClassId) (dI : Nat → Nat → Nat) (me pg : Nat) (cP cI : ClassId) (g : Nat → Option Nat) (LP : List Nat) (r : Nat → Nat → Int32) (pl : Int32) (hm : mok g LP) : Met l yX0_wordAt wsX0_wordAt ({ frames := 1, cells := 0, slots := 0, locals := 20 }) (va_Pc [.ref me, .int pl] (fun U => va_P (dC, dI) vwCl ([(me, .inr (0, [.ref pg])), (pg, .inl (cP, 64, .inr (.inr (.inr (.inr g)))))] ++ va_pl LP (prow cI r)) U.heap ∧ va_K (dC, dI) vwCl [(cP, .array .int), (cI, .int)] U)) (vp_Si (fun x => x = m_get (mw g r) pl)) 0 0 (fun _ => False) := by
  refine Met.ofW (cc := cX0_wordAt) (maxL := 3) (ret := (some .int)) (by decide) rfl ?_
  intro p e s m args below meth c s₁ B hml hv
  obtain ⟨rfl, hP, hK⟩ := hv
  have hx := B.exec
  have hb := B.bytes
  have hr := B.returns
  have hts := atoms_spec (ws := wsX0_wordAt) B.pre
  have hown : s.vm.findClass RX0 = some m.cls := findClass_of_methodNamed B.named
  have hlocks := B.notSynchronized
  have hl := lv_entry ([.ref me, .int pl]) (n := 3) (Nat.le_of_ble_eq_true rfl)
  rw [lg_entry_eq]
  generalize (lg_sl ([.ref me, .int pl]) ++ List.replicate (3 - (lg_sl ([.ref me, .int pl])).length) Slot.unset).toArray = ls at hl ⊢
  have hl : lv_has ls 3 [(0, .ref me), (1, .int pl)] := hl
  have hP : va_P (dC, dI) vwCl ([(me, .inr (0, [.ref pg])), (pg, .inl (cP, 64, .inr (.inr (.inr (.inr g)))))] ++ va_pl LP (prow cI r)) s.heap := hP
  refine lv_iload_n hx hb dX0_wordAt_0 rfl (lv_at hl 1 rfl) ?_
  refine lv_if_lt (tgt := 10) hx hb dX0_wordAt_1 (by decide) (fun c_1 => ?_) (fun c_1 => ?_)
  · skip
    refine lv_iconst (v := 0) hx hb dX0_wordAt_10 (by decide) ?_
    exact W.iret (v := 0) hx hb hr (fun t ht hW => ⟨0, rfl, by simp only [m_get, if_pos c_1], ht⟩) (fun q h => by cases h) dX0_wordAt_11
  · skip
    refine lv_iload_n hx hb dX0_wordAt_4 rfl (lv_at hl 1 rfl) ?_
    refine lv_ldc (v := 65536) hx hb hown (hts _ mbX0_wordAt_0) dX0_wordAt_5 ?_
    refine lv_icmp_lt (tgt := 12) hx hb dX0_wordAt_7 (by decide) (fun c_2 => ?_) (fun c_2 => ?_)
    · skip
      refine lv_aload_n hx hb dX0_wordAt_12 rfl (lv_at hl 0 rfl) ?_
      refine va_get (D := (dC, dI)) (ci := 0) (v := .ref pg) (C := RX0) (T := TX0) (N := 1) hx hb hts miX0_wordAt_X0 hown hK hP 0 rfl rfl 0 (by decide) (hts _ mbX0_wordAt_2) (fun _ h9 => h9) rfl dX0_wordAt_13 ?_
      refine lv_iload_n hx hb dX0_wordAt_16 rfl (lv_at hl 1 rfl) ?_
      refine lv_bipush (v := 10) hx hb dX0_wordAt_17 (by decide) ?_
      refine lv_iushr (v := ush pl 10) hx hb dX0_wordAt_19 rfl ?_
      refine ag_ld hx hb hK hP 1 0 rfl rfl (pg_in c_1 (Int32.not_le.mpr c_2)) dX0_wordAt_20 ?_
      cases hg_3 : g (ush pl 10).toNatClampNeg with
      | none =>
        refine W.eq (g2 := F0 m 21 ls [.null]) rfl ?_
        refine lv_astore_nN (lv' := [(2, .null), (0, .ref me), (1, .int pl)]) hx hb dX0_wordAt_21 rfl hl (by decide) rfl (fun ls hl => ?_)
        refine lv_aload_nN hx hb dX0_wordAt_22 rfl (lv_at hl 0 rfl) ?_
        refine lv_ifnonnullN hx hb dX0_wordAt_23 ?_
        refine lv_iconst (v := 0) hx hb dX0_wordAt_26 (by decide) ?_
        refine lv_goto (tgt := 36) hx hb dX0_wordAt_27 (by decide) ?_
        exact W.iret (v := 0) hx hb hr (fun t ht hW => ⟨0, rfl, m_get_none c_1 (Int32.not_le.mpr c_2) hg_3, ht⟩) (fun q h => by cases h) dX0_wordAt_36
      | some y_4 =>
        have hy_5 : y_4 ∈ LP := hm.1 _ _ (pg_cl c_1 (Int32.not_le.mpr c_2)).2 hg_3
        refine W.eq (g2 := F0 m 21 ls [.ref y_4]) rfl ?_
        refine lv_astore_n (lv' := [(2, .ref y_4), (0, .ref me), (1, .int pl)]) hx hb dX0_wordAt_21 rfl hl (by decide) rfl (fun ls hl => ?_)
        refine lv_aload_n hx hb dX0_wordAt_22 rfl (lv_at hl 0 rfl) ?_
        refine lv_ifnonnull (tgt := 30) hx hb dX0_wordAt_23 (by decide) ?_
        refine lv_aload_n hx hb dX0_wordAt_30 rfl (lv_at hl 0 rfl) ?_
        refine lv_iload_n hx hb dX0_wordAt_31 rfl (lv_at hl 2 rfl) ?_
        refine vp_callSi (va_Run.run (va_runS (As := [.int pl]) (rest := [.ref y_4]) ⟨hx, hb, hml, hown, hts⟩ (c_X0_indexInPage l pl) (va_cwS 1 hts gX0_wordAt_X0_indexInPage rfl rfl rfl (by decide +kernel) ⟨Nat.le_of_ble_eq_true rfl, Nat.le_of_ble_eq_true rfl⟩) ⟨fun a U g mk q => q, fun U hU hW => ⟨rfl, trivial⟩⟩ rfl rfl hl.1 rfl (lv_room (Nat.le_of_ble_eq_true rfl)) dX0_wordAt_32 ⟨Nat.le_of_ble_eq_true rfl, Nat.le_of_ble_eq_true rfl⟩)) (fun r_6 hw_7 => ?_)
        subst hw_7
        obtain ⟨kk, hkk⟩ := va_pl_get (X := [(me, .inr (0, [.ref pg])), (pg, .inl (cP, 64, .inr (.inr (.inr (.inr g)))))]) (f := prow cI r) hy_5
        refine va_iald (n := 256) (f := r y_4) (cA := cI) hx hb hK hP kk 1 hkk rfl (of_in c_1 (Int32.not_le.mpr c_2)) dX0_wordAt_35 ?_
        exact W.iret (v := r y_4 (s_X0_indexInPage pl).toNatClampNeg) hx hb hr (fun t ht hW => ⟨r y_4 (s_X0_indexInPage pl).toNatClampNeg, rfl, m_get_some c_1 (Int32.not_le.mpr c_2) hg_3, ht⟩) (fun q h => by cases h) dX0_wordAt_36
    · skip
      refine lv_iconst (v := 0) hx hb dX0_wordAt_10 (by decide) ?_
      exact W.iret (v := 0) hx hb hr (fun t ht hW => ⟨0, rfl, by simp only [m_get, if_neg c_1, if_pos (Int32.not_lt.mp c_2)], ht⟩) (fun q h => by cases h) dX0_wordAt_11
set_option maxRecDepth 100000 in
theorem mbX0_putWord_0 : (.constant RX0 17 (65536) : Cond) ∈ wsX0_putWord := by decide +kernel
set_option maxRecDepth 100000 in
theorem miX0_putWord_X0 : ∀ w ∈ u_ws RX0 TX0 1, w ∈ wsX0_putWord := by decide +kernel
set_option maxRecDepth 100000 in
theorem mbX0_putWord_2 : (.fieldLink RX0 11 "SoftMaps$Memory" "pages" "[[I" : Cond) ∈ wsX0_putWord := by decide +kernel
set_option maxRecDepth 100000 in
theorem mbX0_putWord_3 : (.arrayClass .int : Cond) ∈ wsX0_putWord := by decide +kernel
set_option maxHeartbeats 4000000 in
set_option maxRecDepth 100000 in
theorem c_X0_putWord (l : Launch) (dC : Nat → ClassId) (dI : Nat → Nat → Nat) (sz : Nat) (me pg : Nat) (cP cI : ClassId) (g : Nat → Option Nat) (LP : List Nat) (r : Nat → Nat → Int32) (pl w : Int32) (hm : mok g LP) : Met l yX0_putWord wsX0_putWord ({ frames := 1, cells := 1, slots := 256, locals := 20 }) (va_Pc [.ref me, .int pl, .int w] (fun U => U.heap.size = sz ∧ va_P (dC, dI) vwCl ([(me, .inr (0, [.ref pg])), (pg, .inl (cP, 64, .inr (.inr (.inr (.inr g)))))] ++ va_pl LP (prow cI r)) U.heap ∧ va_K (dC, dI) vwCl [(cP, .array .int), (cI, .int)] U ∧ va_D (fun _ => True) ([(me, .inr (0, [.ref pg])), (pg, .inl (cP, 64, .inr (.inr (.inr (.inr g)))))] ++ va_pl LP (prow cI r)) ∧ ag_O .int U)) (va_Qv (fun u : (Nat → Option Nat) × List Nat × (Nat → Nat → Int32) => mok u.1 u.2.1 ∧ ∀ k, k < 16384 → mw u.1 u.2.2 k = m_put (mw g r) pl w k) (fun (u : (Nat → Option Nat) × List Nat × (Nat → Nat → Int32)) (t : State) => va_P (dC, dI) vwCl ([(me, .inr (0, [.ref pg])), (pg, .inl (cP, 64, .inr (.inr (.inr (.inr u.1)))))] ++ va_pl u.2.1 (prow cI u.2.2)) t.heap ∧ va_K (dC, dI) vwCl [(cP, .array .int), (cI, .int)] t ∧ va_D (va_A ([(me, .inr (0, [.ref pg])), (pg, .inl (cP, 64, .inr (.inr (.inr (.inr g)))))] ++ va_pl LP (prow cI r)) sz) ([(me, .inr (0, [.ref pg])), (pg, .inl (cP, 64, .inr (.inr (.inr (.inr u.1)))))] ++ va_pl u.2.1 (prow cI u.2.2))) (va_A ([(me, .inr (0, [.ref pg])), (pg, .inl (cP, 64, .inr (.inr (.inr (.inr g)))))] ++ va_pl LP (prow cI r)) sz)) 1 256 (va_A ([(me, .inr (0, [.ref pg])), (pg, .inl (cP, 64, .inr (.inr (.inr (.inr g)))))] ++ va_pl LP (prow cI r)) sz) := by
  refine Met.ofW (cc := cX0_putWord) (maxL := 4) (ret := none) (by decide) rfl ?_
  intro p e s m args below meth c s₁ B hml hv
  obtain ⟨rfl, hsz, hP, hK, hD0, hZ⟩ := hv
  have hx := B.exec
  have hb := B.bytes
  have hr := B.returns
  have hts := atoms_spec (ws := wsX0_putWord) B.pre
  have hown : s.vm.findClass RX0 = some m.cls := findClass_of_methodNamed B.named
  have hlocks := B.notSynchronized
  subst hsz
  have hD := hD0.self (sz := s.heap.size)
  generalize hAe : va_A ([(me, .inr (0, [.ref pg])), (pg, .inl (cP, 64, .inr (.inr (.inr (.inr g)))))] ++ va_pl LP (prow cI r)) s.heap.size = A at hD ⊢
  have hA : ∀ q : Nat, s.heap.size ≤ q → A q := fun q h => by rw [← hAe]; exact Or.inr h
  have hS : va_S A s.heap s.heap [] := va_S.rf
  have hP : va_P (dC, dI) vwCl ([(me, .inr (0, [.ref pg])), (pg, .inl (cP, 64, .inr (.inr (.inr (.inr g)))))] ++ va_pl LP (prow cI r)) s.heap := hP
  have hl := lv_entry ([.ref me, .int pl, .int w]) (n := 4) (Nat.le_of_ble_eq_true rfl)
  rw [lg_entry_eq]
  generalize (lg_sl ([.ref me, .int pl, .int w]) ++ List.replicate (4 - (lg_sl ([.ref me, .int pl, .int w])).length) Slot.unset).toArray = ls at hl ⊢
  have hl : lv_has ls 4 [(0, .ref me), (1, .int pl), (2, .int w)] := hl
  refine lv_iload_n hx hb dX0_putWord_0 rfl (lv_at hl 1 rfl) ?_
  refine lv_if_lt (tgt := 10) hx hb dX0_putWord_1 (by decide) (fun c_1 => ?_) (fun c_1 => ?_)
  · skip
    refine W.widen (k := 1) (n := 256) (by omega) (by omega) ?_
    have hPe := hP
    exact W.vret hx hb hr (fun t ht hW => ⟨⟨(g, LP, r), rfl, ⟨hm, fun k hk => by simp only [m_put, if_pos c_1]⟩, by rw [ht]; exact hP, va_K.moved hW.alike hK, hD⟩, hS.F ht⟩) hS.2.2 dX0_putWord_10
  · skip
    refine lv_iload_n hx hb dX0_putWord_4 rfl (lv_at hl 1 rfl) ?_
    refine lv_ldc (v := 65536) hx hb hown (hts _ mbX0_putWord_0) dX0_putWord_5 ?_
    refine lv_icmp_lt (tgt := 11) hx hb dX0_putWord_7 (by decide) (fun c_2 => ?_) (fun c_2 => ?_)
    · skip
      refine lv_aload_n hx hb dX0_putWord_11 rfl (lv_at hl 0 rfl) ?_
      refine va_get (D := (dC, dI)) (ci := 0) (v := .ref pg) (C := RX0) (T := TX0) (N := 1) hx hb hts miX0_putWord_X0 hown hK hP 0 rfl rfl 0 (by decide) (hts _ mbX0_putWord_2) (fun _ h9 => h9) rfl dX0_putWord_12 ?_
      refine lv_iload_n hx hb dX0_putWord_15 rfl (lv_at hl 1 rfl) ?_
      refine lv_bipush (v := 10) hx hb dX0_putWord_16 (by decide) ?_
      refine lv_iushr (v := ush pl 10) hx hb dX0_putWord_18 rfl ?_
      refine ag_ld hx hb hK hP 1 0 rfl rfl (pg_in c_1 (Int32.not_le.mpr c_2)) dX0_putWord_19 ?_
      cases hg_3 : g (ush pl 10).toNatClampNeg with
      | none =>
        refine W.eq (g2 := F0 m 20 ls [.null]) rfl ?_
        refine lv_astore_nN (lv' := [(3, .null), (0, .ref me), (1, .int pl), (2, .int w)]) hx hb dX0_putWord_20 rfl hl (by decide) rfl (fun ls hl => ?_)
        refine lv_aload_nN hx hb dX0_putWord_21 rfl (lv_at hl 0 rfl) ?_
        refine lv_ifnonnullN hx hb dX0_putWord_22 ?_
        refine lv_sipush (v := 256) hx hb dX0_putWord_25 (by decide) ?_
        refine va_newa (atype := .int) (N' := 256) (a0 := (256, .inl (fun _ => 0))) (ty := .int) (n := 256) hx hb (hts _ mbX0_putWord_3) rfl hK hP hD hS hA (fun _ => rfl) (by decide) (by decide +kernel) (by decide) (Nat.le_of_ble_eq_true rfl) (Nat.le_of_ble_eq_true rfl) dX0_putWord_28 (fun q_6 cA_7 H hK hP hD hS => ?_)
        have hcA : cA_7 = cI := cls_eq hK (i := 2) (j := 1) rfl rfl
        rw [hcA] at hP hD
        have hq_8 : q_6 ∉ LP := va_pl_fresh2 hD
        rw [List.append_assoc, va_pl_push hq_8, prow_up] at hP hD
        have hP : va_P (dC, dI) vwCl ([(me, .inr (0, [.ref pg])), (pg, .inl (cP, 64, .inr (.inr (.inr (.inr g)))))] ++ va_pl (LP ++ [q_6]) (prow cI (va_up r q_6 (fun _ => 0)))) H := hP
        have hD : va_D A ([(me, .inr (0, [.ref pg])), (pg, .inl (cP, 64, .inr (.inr (.inr (.inr g)))))] ++ va_pl (LP ++ [q_6]) (prow cI (va_up r q_6 (fun _ => 0)))) := hD
        have hK := hK.sub (tys' := [(cP, .array .int), (cI, .int)]) [0, 1] rfl
        have hy_9 : q_6 ∈ LP ++ [q_6] := l_in_new LP q_6
        refine W.widen (k := 1) (n := 256) (by omega) (by omega) ?_
        refine lv_astore_n (lv' := [(3, .ref q_6), (0, .ref me), (1, .int pl), (2, .int w)]) hx hb dX0_putWord_30 rfl hl (by decide) rfl (fun ls hl => ?_)
        refine lv_aload_n hx hb dX0_putWord_31 rfl (lv_at hl 1 rfl) ?_
        refine va_get (D := (dC, dI)) (ci := 0) (v := .ref pg) (C := RX0) (T := TX0) (N := 1) hx hb hts miX0_putWord_X0 hown hK hP 0 rfl rfl 0 (by decide) (hts _ mbX0_putWord_2) (fun _ h9 => h9) rfl dX0_putWord_32 ?_
        refine lv_iload_n hx hb dX0_putWord_35 rfl (lv_at hl 2 rfl) ?_
        refine lv_bipush (v := 10) hx hb dX0_putWord_36 (by decide) ?_
        refine lv_iushr (v := ush pl 10) hx hb dX0_putWord_38 rfl ?_
        refine lv_aload_n hx hb dX0_putWord_39 rfl (lv_at hl 0 rfl) ?_
        obtain ⟨kk, hkk⟩ := va_pl_get (X := [(me, .inr (0, [.ref pg])), (pg, .inl (cP, 64, .inr (.inr (.inr (.inr g)))))]) (f := prow cI (va_up r q_6 (fun _ => 0))) hy_9
        refine ag_st (t := .int) (cR := cI) hx hb hK hP hD hS 1 0 rfl rfl hZ (hK.2 1 _ rfl).2 ⟨_, hP kk _ hkk, rfl, rfl⟩ (pg_in c_1 (Int32.not_le.mpr c_2)) dX0_putWord_40 (fun H locs hP hD hS => ?_)
        have hP : va_P (dC, dI) vwCl ([(me, .inr (0, [.ref pg])), (pg, .inl (cP, 64, .inr (.inr (.inr (.inr (va_up g (ush pl 10).toNatClampNeg (some q_6)))))))] ++ va_pl (LP ++ [q_6]) (prow cI (va_up r q_6 (fun _ => 0)))) H := hP
        have hD : va_D A ([(me, .inr (0, [.ref pg])), (pg, .inl (cP, 64, .inr (.inr (.inr (.inr (va_up g (ush pl 10).toNatClampNeg (some q_6)))))))] ++ va_pl (LP ++ [q_6]) (prow cI (va_up r q_6 (fun _ => 0)))) := hD
        refine lv_aload_n hx hb dX0_putWord_41 rfl (lv_at hl 0 rfl) ?_
        refine lv_iload_n hx hb dX0_putWord_42 rfl (lv_at hl 2 rfl) ?_
        refine vp_callSi (va_Run.run (va_runS (As := [.int pl]) (rest := [.ref q_6]) ⟨hx, hb, hml, hown, hts⟩ (c_X0_indexInPage l pl) (va_cwS 1 hts gX0_putWord_X0_indexInPage rfl rfl rfl (by decide +kernel) ⟨Nat.le_of_ble_eq_true rfl, Nat.le_of_ble_eq_true rfl⟩) ⟨fun a U g mk q => q, fun U hU hW => ⟨rfl, trivial⟩⟩ rfl rfl hl.1 rfl (lv_room (Nat.le_of_ble_eq_true rfl)) dX0_putWord_43 ⟨Nat.le_of_ble_eq_true rfl, Nat.le_of_ble_eq_true rfl⟩)) (fun r_10 hw_11 => ?_)
        subst hw_11
        refine lv_iload_n hx hb dX0_putWord_46 rfl (lv_at hl 3 rfl) ?_
        obtain ⟨kk, hkk⟩ := va_pl_get (X := [(me, .inr (0, [.ref pg])), (pg, .inl (cP, 64, .inr (.inr (.inr (.inr (va_up g (ush pl 10).toNatClampNeg (some q_6)))))))]) (f := prow cI (va_up r q_6 (fun _ => 0))) hy_9
        have hDo := hD
        refine va_iast (n := 256) (f := (va_up r q_6 (fun _ => 0)) q_6) (cA := cI) hx hb hK hP hD hS kk 1 hkk rfl (of_in c_1 (Int32.not_le.mpr c_2)) dX0_putWord_47 (fun H locs hP hD hS => ?_)
        rw [va_pl_set hDo hy_9 hkk, prow_up] at hP hD
        rw [va_up_self, bx_uu] at hP hD
        have hP : va_P (dC, dI) vwCl ([(me, .inr (0, [.ref pg])), (pg, .inl (cP, 64, .inr (.inr (.inr (.inr (va_up g (ush pl 10).toNatClampNeg (some q_6)))))))] ++ va_pl (LP ++ [q_6]) (prow cI (va_up r q_6 (upd (fun _ => 0) (s_X0_indexInPage pl).toNatClampNeg w)))) H := hP
        have hD : va_D A ([(me, .inr (0, [.ref pg])), (pg, .inl (cP, 64, .inr (.inr (.inr (.inr (va_up g (ush pl 10).toNatClampNeg (some q_6)))))))] ++ va_pl (LP ++ [q_6]) (prow cI (va_up r q_6 (upd (fun _ => 0) (s_X0_indexInPage pl).toNatClampNeg w)))) := hD
        have hPe := hP
        exact W.vret hx hb hr (fun t ht hW => ⟨⟨(va_up g (ush pl 10).toNatClampNeg (some q_6), LP ++ [q_6], va_up r q_6 (upd (fun _ => 0) (s_X0_indexInPage pl).toNatClampNeg w)), rfl, ⟨mok_new hm hq_8, fun k hk => m_put_none hm hq_8 c_1 (Int32.not_le.mpr c_2) hg_3 k hk⟩, by rw [ht]; exact hP, va_K.moved hW.alike hK, hD⟩, hS.F ht⟩) hS.2.2 dX0_putWord_48
      | some y_4 =>
        have hy_5 : y_4 ∈ LP := hm.1 _ _ (pg_cl c_1 (Int32.not_le.mpr c_2)).2 hg_3
        refine W.eq (g2 := F0 m 20 ls [.ref y_4]) rfl ?_
        refine lv_astore_n (lv' := [(3, .ref y_4), (0, .ref me), (1, .int pl), (2, .int w)]) hx hb dX0_putWord_20 rfl hl (by decide) rfl (fun ls hl => ?_)
        refine lv_aload_n hx hb dX0_putWord_21 rfl (lv_at hl 0 rfl) ?_
        refine lv_ifnonnull (tgt := 41) hx hb dX0_putWord_22 (by decide) ?_
        refine lv_aload_n hx hb dX0_putWord_41 rfl (lv_at hl 0 rfl) ?_
        refine lv_iload_n hx hb dX0_putWord_42 rfl (lv_at hl 2 rfl) ?_
        refine vp_callSi (va_Run.run (va_runS (As := [.int pl]) (rest := [.ref y_4]) ⟨hx, hb, hml, hown, hts⟩ (c_X0_indexInPage l pl) (va_cwS 1 hts gX0_putWord_X0_indexInPage rfl rfl rfl (by decide +kernel) ⟨Nat.le_of_ble_eq_true rfl, Nat.le_of_ble_eq_true rfl⟩) ⟨fun a U g mk q => q, fun U hU hW => ⟨rfl, trivial⟩⟩ rfl rfl hl.1 rfl (lv_room (Nat.le_of_ble_eq_true rfl)) dX0_putWord_43 ⟨Nat.le_of_ble_eq_true rfl, Nat.le_of_ble_eq_true rfl⟩)) (fun r_12 hw_13 => ?_)
        subst hw_13
        refine lv_iload_n hx hb dX0_putWord_46 rfl (lv_at hl 3 rfl) ?_
        obtain ⟨kk, hkk⟩ := va_pl_get (X := [(me, .inr (0, [.ref pg])), (pg, .inl (cP, 64, .inr (.inr (.inr (.inr g)))))]) (f := prow cI r) hy_5
        have hDo := hD
        refine va_iast (n := 256) (f := r y_4) (cA := cI) hx hb hK hP hD hS kk 1 hkk rfl (of_in c_1 (Int32.not_le.mpr c_2)) dX0_putWord_47 (fun H locs hP hD hS => ?_)
        rw [va_pl_set hDo hy_5 hkk, prow_up] at hP hD
        have hP : va_P (dC, dI) vwCl ([(me, .inr (0, [.ref pg])), (pg, .inl (cP, 64, .inr (.inr (.inr (.inr g)))))] ++ va_pl (LP) (prow cI (va_up r y_4 (upd (r y_4) (s_X0_indexInPage pl).toNatClampNeg w)))) H := hP
        have hD : va_D A ([(me, .inr (0, [.ref pg])), (pg, .inl (cP, 64, .inr (.inr (.inr (.inr g)))))] ++ va_pl (LP) (prow cI (va_up r y_4 (upd (r y_4) (s_X0_indexInPage pl).toNatClampNeg w)))) := hD
        refine W.widen (k := 1) (n := 256) (by omega) (by omega) ?_
        have hPe := hP
        exact W.vret hx hb hr (fun t ht hW => ⟨⟨(g, LP, va_up r y_4 (upd (r y_4) (s_X0_indexInPage pl).toNatClampNeg w)), rfl, ⟨hm, fun k hk => m_put_some hm c_1 (Int32.not_le.mpr c_2) hg_3 k hk⟩, by rw [ht]; exact hP, va_K.moved hW.alike hK, hD⟩, hS.F ht⟩) hS.2.2 dX0_putWord_48
    · skip
      refine W.widen (k := 1) (n := 256) (by omega) (by omega) ?_
      have hPe := hP
      exact W.vret hx hb hr (fun t ht hW => ⟨⟨(g, LP, r), rfl, ⟨hm, fun k hk => by simp only [m_put, if_neg c_1, if_pos (Int32.not_lt.mp c_2)]⟩, by rw [ht]; exact hP, va_K.moved hW.alike hK, hD⟩, hS.F ht⟩) hS.2.2 dX0_putWord_10
def s_X0_byteAt (M : Nat → Int32) (pl : Int32) : Int32 :=
  (ush (m_get M pl) (s_X0_byteShift pl)) &&& 255
set_option maxHeartbeats 4000000 in
set_option maxRecDepth 100000 in
theorem c_X0_byteAt (l : Launch) (dC : Nat → ClassId) (dI : Nat → Nat → Nat) (me pg : Nat) (cP cI : ClassId) (g : Nat → Option Nat) (LP : List Nat) (r : Nat → Nat → Int32) (pl : Int32) (hm : mok g LP) : Met l yX0_byteAt wsX0_byteAt ({ frames := 2, cells := 0, slots := 0, locals := 42 }) (va_Pc [.ref me, .int pl] (fun U => va_P (dC, dI) vwCl ([(me, .inr (0, [.ref pg])), (pg, .inl (cP, 64, .inr (.inr (.inr (.inr g)))))] ++ va_pl LP (prow cI r)) U.heap ∧ va_K (dC, dI) vwCl [(cP, .array .int), (cI, .int)] U)) (vp_Si (fun x_ => x_ = s_X0_byteAt (mw g r) pl)) 0 0 (fun _ => False) := by
  refine Met.ofW (cc := cX0_byteAt) (maxL := 2) (ret := (some .int)) (by decide) rfl ?_
  intro p e s m args below meth c s₁ B hml hv
  obtain ⟨rfl, hP, hK⟩ := hv
  have hx := B.exec
  have hb := B.bytes
  have hr := B.returns
  have hts := atoms_spec (ws := wsX0_byteAt) B.pre
  have hown : s.vm.findClass RX0 = some m.cls := findClass_of_methodNamed B.named
  have hlocks := B.notSynchronized
  have hl := lv_entry ([.ref me, .int pl]) (n := 2) (Nat.le_of_ble_eq_true rfl)
  rw [lg_entry_eq]
  generalize (lg_sl ([.ref me, .int pl]) ++ List.replicate (2 - (lg_sl ([.ref me, .int pl])).length) Slot.unset).toArray = ls at hl ⊢
  have hl : lv_has ls 2 [(0, .ref me), (1, .int pl)] := hl
  have hP : va_P (dC, dI) vwCl ([(me, .inr (0, [.ref pg])), (pg, .inl (cP, 64, .inr (.inr (.inr (.inr g)))))] ++ va_pl LP (prow cI r)) s.heap := hP
  refine lv_aload_n hx hb dX0_byteAt_0 rfl (lv_at hl 0 rfl) ?_
  refine lv_iload_n hx hb dX0_byteAt_1 rfl (lv_at hl 1 rfl) ?_
  have hPc := va_P.part (X := [(me, .inr (0, [.ref pg])), (pg, .inl (cP, 64, .inr (.inr (.inr (.inr g)))))]) (cx := [(me, .inr (0, [.ref pg])), (pg, .inl (cP, 64, .inr (.inr (.inr (.inr g)))))]) hP [0, 1] rfl
  have hKc := hK.sub (tys' := [(cP, .array .int), (cI, .int)]) [0, 1] rfl
  refine vp_callSi (va_Run.run (va_runV (As := [.int pl]) (rest := []) ⟨hx, hb, hml, hown, hts⟩ (c_X0_wordAt l dC dI me pg cP cI g LP r pl hm) (cwV 1 hts gX0_byteAt_X0_wordAt rfl rfl rfl (by decide +kernel) ⟨Nat.le_of_ble_eq_true rfl, Nat.le_of_ble_eq_true rfl⟩) ⟨fun a U g mk q => by obtain ⟨q0, qP, qK⟩ := q; exact ⟨q0, qP, va_K.moved (u := U) (U := U.calling g mk a) (Vm.Alike.refl U.vm) qK⟩, va_recv hKc hPc (ci := 0) (q0 := 0) rfl rfl, fun U hU hW => ⟨rfl, by rw [hU]; exact hPc, va_K.moved hW.alike hKc⟩⟩ rfl rfl hl.1 rfl (lv_room (Nat.le_of_ble_eq_true rfl)) dX0_byteAt_2 ⟨Nat.le_of_ble_eq_true rfl, Nat.le_of_ble_eq_true rfl⟩)) (fun r_1 hw_2 => ?_)
  subst hw_2
  refine lv_iload_n hx hb dX0_byteAt_5 rfl (lv_at hl 1 rfl) ?_
  refine vp_callSi (va_Run.run (va_runS (As := [.int pl]) (rest := [.int (m_get (mw g r) pl)]) ⟨hx, hb, hml, hown, hts⟩ (c_X0_byteShift l pl) (va_cwS 1 hts gX0_byteAt_X0_byteShift rfl rfl rfl (by decide +kernel) ⟨Nat.le_of_ble_eq_true rfl, Nat.le_of_ble_eq_true rfl⟩) ⟨fun a U g mk q => q, fun U hU hW => ⟨rfl, trivial⟩⟩ rfl rfl hl.1 rfl (lv_room (Nat.le_of_ble_eq_true rfl)) dX0_byteAt_6 ⟨Nat.le_of_ble_eq_true rfl, Nat.le_of_ble_eq_true rfl⟩)) (fun r_3 hw_4 => ?_)
  subst hw_4
  refine lv_iushr (v := ush (m_get (mw g r) pl) (s_X0_byteShift pl)) hx hb dX0_byteAt_9 rfl ?_
  refine lv_sipush (v := 255) hx hb dX0_byteAt_10 (by decide) ?_
  refine lv_iand hx hb dX0_byteAt_13 ?_
  exact W.iret (v := (ush (m_get (mw g r) pl) (s_X0_byteShift pl)) &&& 255) hx hb hr (fun t ht hW => ⟨(ush (m_get (mw g r) pl) (s_X0_byteShift pl)) &&& 255, rfl, by first | rfl | (unfold s_X0_byteAt; rfl), ht⟩) (fun q h => by cases h) dX0_byteAt_14
def s_X0_putByte (M : Nat → Int32) (pl w : Int32) : Nat → Int32 :=
  m_put M pl (((m_get M pl) &&& ((255 <<< ((s_X0_byteShift pl : Int32) &&& 31)) ^^^ (-1))) ||| ((w &&& 255) <<< ((s_X0_byteShift pl : Int32) &&& 31)))
set_option maxHeartbeats 4000000 in
set_option maxRecDepth 100000 in
theorem c_X0_putByte (l : Launch) (dC : Nat → ClassId) (dI : Nat → Nat → Nat) (sz : Nat) (me pg : Nat) (cP cI : ClassId) (g : Nat → Option Nat) (LP : List Nat) (r : Nat → Nat → Int32) (pl w : Int32) (hm : mok g LP) : Met l yX0_putByte wsX0_putByte ({ frames := 2, cells := 1, slots := 256, locals := 43 }) (va_Pc [.ref me, .int pl, .int w] (fun U => U.heap.size = sz ∧ va_P (dC, dI) vwCl ([(me, .inr (0, [.ref pg])), (pg, .inl (cP, 64, .inr (.inr (.inr (.inr g)))))] ++ va_pl LP (prow cI r)) U.heap ∧ va_K (dC, dI) vwCl [(cP, .array .int), (cI, .int)] U ∧ va_D (fun _ => True) ([(me, .inr (0, [.ref pg])), (pg, .inl (cP, 64, .inr (.inr (.inr (.inr g)))))] ++ va_pl LP (prow cI r)) ∧ ag_O .int U)) (va_Qv (fun u : (Nat → Option Nat) × List Nat × (Nat → Nat → Int32) => mok u.1 u.2.1 ∧ ∀ k, k < 16384 → mw u.1 u.2.2 k = s_X0_putByte (mw g r) pl w k) (fun (u : (Nat → Option Nat) × List Nat × (Nat → Nat → Int32)) (t : State) => va_P (dC, dI) vwCl ([(me, .inr (0, [.ref pg])), (pg, .inl (cP, 64, .inr (.inr (.inr (.inr u.1)))))] ++ va_pl u.2.1 (prow cI u.2.2)) t.heap ∧ va_K (dC, dI) vwCl [(cP, .array .int), (cI, .int)] t ∧ va_D (va_A ([(me, .inr (0, [.ref pg])), (pg, .inl (cP, 64, .inr (.inr (.inr (.inr g)))))] ++ va_pl LP (prow cI r)) sz) ([(me, .inr (0, [.ref pg])), (pg, .inl (cP, 64, .inr (.inr (.inr (.inr u.1)))))] ++ va_pl u.2.1 (prow cI u.2.2))) (va_A ([(me, .inr (0, [.ref pg])), (pg, .inl (cP, 64, .inr (.inr (.inr (.inr g)))))] ++ va_pl LP (prow cI r)) sz)) 1 256 (va_A ([(me, .inr (0, [.ref pg])), (pg, .inl (cP, 64, .inr (.inr (.inr (.inr g)))))] ++ va_pl LP (prow cI r)) sz) := by
  refine Met.ofW (cc := cX0_putByte) (maxL := 5) (ret := none) (by decide) rfl ?_
  intro p e s m args below meth c s₁ B hml hv
  obtain ⟨rfl, hsz, hP, hK, hD0, hZ⟩ := hv
  have hx := B.exec
  have hb := B.bytes
  have hr := B.returns
  have hts := atoms_spec (ws := wsX0_putByte) B.pre
  have hown : s.vm.findClass RX0 = some m.cls := findClass_of_methodNamed B.named
  have hlocks := B.notSynchronized
  subst hsz
  have hD := hD0.self (sz := s.heap.size)
  generalize hAe : va_A ([(me, .inr (0, [.ref pg])), (pg, .inl (cP, 64, .inr (.inr (.inr (.inr g)))))] ++ va_pl LP (prow cI r)) s.heap.size = A at hD ⊢
  have hA : ∀ q : Nat, s.heap.size ≤ q → A q := fun q h => by rw [← hAe]; exact Or.inr h
  have hS : va_S A s.heap s.heap [] := va_S.rf
  have hP : va_P (dC, dI) vwCl ([(me, .inr (0, [.ref pg])), (pg, .inl (cP, 64, .inr (.inr (.inr (.inr g)))))] ++ va_pl LP (prow cI r)) s.heap := hP
  have hl := lv_entry ([.ref me, .int pl, .int w]) (n := 5) (Nat.le_of_ble_eq_true rfl)
  rw [lg_entry_eq]
  generalize (lg_sl ([.ref me, .int pl, .int w]) ++ List.replicate (5 - (lg_sl ([.ref me, .int pl, .int w])).length) Slot.unset).toArray = ls at hl ⊢
  have hl : lv_has ls 5 [(0, .ref me), (1, .int pl), (2, .int w)] := hl
  refine lv_iload_n hx hb dX0_putByte_0 rfl (lv_at hl 1 rfl) ?_
  refine vp_callSi (va_Run.run (va_runS (As := [.int pl]) (rest := []) ⟨hx, hb, hml, hown, hts⟩ (c_X0_byteShift l pl) (va_cwS 1 hts gX0_putByte_X0_byteShift rfl rfl rfl (by decide +kernel) ⟨Nat.le_of_ble_eq_true rfl, Nat.le_of_ble_eq_true rfl⟩) ⟨fun a U g mk q => q, fun U hU hW => ⟨rfl, trivial⟩⟩ rfl rfl hl.1 rfl (lv_room (Nat.le_of_ble_eq_true rfl)) dX0_putByte_1 ⟨Nat.le_of_ble_eq_true rfl, Nat.le_of_ble_eq_true rfl⟩)) (fun r_1 hw_2 => ?_)
  subst hw_2
  refine lv_istore_n (lv' := [(3, .int (s_X0_byteShift pl)), (0, .ref me), (1, .int pl), (2, .int w)]) hx hb dX0_putByte_4 rfl hl (by decide) rfl (fun ls hl => ?_)
  refine lv_aload_n hx hb dX0_putByte_5 rfl (lv_at hl 1 rfl) ?_
  refine lv_iload_n hx hb dX0_putByte_6 rfl (lv_at hl 2 rfl) ?_
  have hPc := va_P.part (X := [(me, .inr (0, [.ref pg])), (pg, .inl (cP, 64, .inr (.inr (.inr (.inr g)))))]) (cx := [(me, .inr (0, [.ref pg])), (pg, .inl (cP, 64, .inr (.inr (.inr (.inr g)))))]) hP [0, 1] rfl
  have hKc := hK.sub (tys' := [(cP, .array .int), (cI, .int)]) [0, 1] rfl
  refine vp_callSi (va_Run.run (va_runV (As := [.int pl]) (rest := []) ⟨hx, hb, hml, hown, hts⟩ (c_X0_wordAt l dC dI me pg cP cI g LP r pl hm) (cwV 1 hts gX0_putByte_X0_wordAt rfl rfl rfl (by decide +kernel) ⟨Nat.le_of_ble_eq_true rfl, Nat.le_of_ble_eq_true rfl⟩) ⟨fun a U g mk q => by obtain ⟨q0, qP, qK⟩ := q; exact ⟨q0, qP, va_K.moved (u := U) (U := U.calling g mk a) (Vm.Alike.refl U.vm) qK⟩, va_recv hKc hPc (ci := 0) (q0 := 0) rfl rfl, fun U hU hW => ⟨rfl, by rw [hU]; exact hPc, va_K.moved hW.alike hKc⟩⟩ rfl rfl hl.1 rfl (lv_room (Nat.le_of_ble_eq_true rfl)) dX0_putByte_7 ⟨Nat.le_of_ble_eq_true rfl, Nat.le_of_ble_eq_true rfl⟩)) (fun r_3 hw_4 => ?_)
  subst hw_4
  refine lv_sipush (v := 255) hx hb dX0_putByte_10 (by decide) ?_
  refine lv_iload_n hx hb dX0_putByte_13 rfl (lv_at hl 0 rfl) ?_
  refine lv_ishl hx hb dX0_putByte_14 ?_
  refine lv_iconst (v := (-1)) hx hb dX0_putByte_15 (by decide) ?_
  refine lv_ixor hx hb dX0_putByte_16 ?_
  refine lv_iand hx hb dX0_putByte_17 ?_
  refine lv_istore (lv' := [(4, .int ((m_get (mw g r) pl) &&& ((255 <<< ((s_X0_byteShift pl : Int32) &&& 31)) ^^^ (-1)))), (3, .int (s_X0_byteShift pl)), (0, .ref me), (1, .int pl), (2, .int w)]) hx hb dX0_putByte_18 hl (by decide) rfl (fun ls hl => ?_)
  refine lv_aload_n hx hb dX0_putByte_20 rfl (lv_at hl 2 rfl) ?_
  refine lv_iload_n hx hb dX0_putByte_21 rfl (lv_at hl 3 rfl) ?_
  refine lv_iload hx hb dX0_putByte_22 (lv_at hl 0 rfl) ?_
  refine lv_iload_n hx hb dX0_putByte_24 rfl (lv_at hl 4 rfl) ?_
  refine lv_sipush (v := 255) hx hb dX0_putByte_25 (by decide) ?_
  refine lv_iand hx hb dX0_putByte_28 ?_
  refine lv_iload_n hx hb dX0_putByte_29 rfl (lv_at hl 1 rfl) ?_
  refine lv_ishl hx hb dX0_putByte_30 ?_
  refine lv_ior hx hb dX0_putByte_31 ?_
  have hPc := va_P.part (X := [(me, .inr (0, [.ref pg])), (pg, .inl (cP, 64, .inr (.inr (.inr (.inr g)))))]) (cx := [(me, .inr (0, [.ref pg])), (pg, .inl (cP, 64, .inr (.inr (.inr (.inr g)))))]) hP [0, 1] rfl
  have hDc := va_D.part (X := [(me, .inr (0, [.ref pg])), (pg, .inl (cP, 64, .inr (.inr (.inr (.inr g)))))]) (cx := [(me, .inr (0, [.ref pg])), (pg, .inl (cP, 64, .inr (.inr (.inr (.inr g)))))]) hD [0, 1] (by decide) rfl
  have hFc := va_freeP (X := [(me, .inr (0, [.ref pg])), (pg, .inl (cP, 64, .inr (.inr (.inr (.inr g)))))]) (cx := [(me, .inr (0, [.ref pg])), (pg, .inl (cP, 64, .inr (.inr (.inr (.inr g)))))]) hD hS hA [0, 1] rfl
  have hKc := hK.sub (tys' := [(cP, .array .int), (cI, .int)]) [0, 1] rfl
  refine va_callv (va_runV (As := [.int pl, .int (((m_get (mw g r) pl) &&& ((255 <<< ((s_X0_byteShift pl : Int32) &&& 31)) ^^^ (-1))) ||| ((w &&& 255) <<< ((s_X0_byteShift pl : Int32) &&& 31)))]) (rest := []) ⟨hx, hb, hml, hown, hts⟩ (c_X0_putWord l dC dI (s.heap.size) me pg cP cI g LP r pl (((m_get (mw g r) pl) &&& ((255 <<< ((s_X0_byteShift pl : Int32) &&& 31)) ^^^ (-1))) ||| ((w &&& 255) <<< ((s_X0_byteShift pl : Int32) &&& 31))) hm) (cwV 2 hts gX0_putByte_X0_putWord rfl rfl rfl (by decide +kernel) ⟨Nat.le_of_ble_eq_true rfl, Nat.le_of_ble_eq_true rfl⟩) ⟨fun a U g mk q => by obtain ⟨q0, q1, qP, qK, qD, q7⟩ := q; exact ⟨q0, q1, qP, va_K.moved (u := U) (U := U.calling g mk a) (Vm.Alike.refl U.vm) qK, qD, ag_O.moved (Vm.Alike.refl U.vm) q7⟩, va_recv hKc hPc (ci := 0) (q0 := 0) rfl rfl, fun U hU hW => ⟨rfl, by rw [hU], by rw [hU]; exact hPc, va_K.moved hW.alike hKc, hDc.weaken (fun _ _ _ _ => trivial), hZ.moved hW.alike⟩⟩ rfl rfl hl.1 rfl (lv_room (Nat.le_of_ble_eq_true rfl)) dX0_putByte_32 ⟨Nat.le_of_ble_eq_true rfl, Nat.le_of_ble_eq_true rfl⟩) hS (fun q _ h => hFc q h) hFc (fun u_7 t H1 locs ht hvm hw_6 hB hz1 hk1 hS => ?_)
  obtain ⟨g_8, LP_9, r_10⟩ := u_7
  obtain ⟨hm_11, hM_12⟩ := hw_6
  dsimp only at hm_11 hM_12
  obtain ⟨hP1, hK1, hD1⟩ := hB
  rw [ht] at hP1
  obtain ⟨hP, hD⟩ := va_joinP (X := [(me, .inr (0, [.ref pg])), (pg, .inl (cP, 64, .inr (.inr (.inr (.inr g)))))]) (cx := [(me, .inr (0, [.ref pg])), (pg, .inl (cP, 64, .inr (.inr (.inr (.inr g)))))]) (wr := []) (rx := [(me, .inr (0, [.ref pg])), (pg, .inl (cP, 64, .inr (.inr (.inr (.inr g_8)))))]) hP hD [0, 1] [] rfl rfl (by decide) (by decide) hk1 hFc hP1 hD1
  generalize H1 = H at hP hS ⊢
  have hP : va_P (dC, dI) vwCl ([(me, .inr (0, [.ref pg])), (pg, .inl (cP, 64, .inr (.inr (.inr (.inr g_8)))))] ++ va_pl LP_9 (prow cI r_10)) H := hP
  have hD : va_D A ([(me, .inr (0, [.ref pg])), (pg, .inl (cP, 64, .inr (.inr (.inr (.inr g_8)))))] ++ va_pl LP_9 (prow cI r_10)) := hD
  refine W.widen (k := 1) (n := 256) (by omega) (by omega) ?_
  exact W.vret hx hb hr (fun t ht hW => ⟨⟨(g_8, LP_9, r_10), rfl, ⟨hm_11, fun k hk => by rw [hM_12 k hk]; rfl⟩, by rw [ht]; exact hP, va_K.moved hW.alike hK, hD⟩, hS.F ht⟩) hS.2.2 dX0_putByte_35
end
section
set_option maxRecDepth 100000 in
theorem miX1_word_X1 : ∀ w ∈ u_ws RX1 TX1 8, w ∈ wsX1_word := by decide +kernel
set_option maxRecDepth 100000 in
theorem mbX1_word_1 : (.fieldLink RX1 12 "SoftMaps" "memory" "LSoftMaps$Memory;" : Cond) ∈ wsX1_word := by decide +kernel
def s_X1_word (M : Nat → Int32) (pl : Int32) : Int32 :=
  if s_X1_isWordPlace pl = 0 then
    0
  else
    m_get M pl
set_option maxHeartbeats 4000000 in
set_option maxRecDepth 100000 in
theorem c_X1_word (l : Launch) (dC : Nat → ClassId) (dI : Nat → Nat → Nat) (h0 me sp : Nat) (cI : ClassId) (f : Nat → Int32) (fa fl fd cr lo so : Int32) (pg : Nat) (cP : ClassId) (g : Nat → Option Nat) (LP : List Nat) (r : Nat → Nat → Int32) (pl : Int32) (hm : mok g LP) : Met l yX1_word wsX1_word ({ frames := 2, cells := 0, slots := 0, locals := 42 }) (va_Pc [.ref h0, .int pl] (fun U => va_P (dC, dI) vwCl ([(h0, .inr (1, [.ref me, .ref sp, .int fa, .int fl, .int fd, .int cr, .int lo, .int so])), (sp, .inl (cI, 33, .inl f)), (me, .inr (0, [.ref pg])), (pg, .inl (cP, 64, .inr (.inr (.inr (.inr g)))))] ++ va_pl LP (prow cI r)) U.heap ∧ va_K (dC, dI) vwCl [(cI, .int), (cP, .array .int)] U)) (vp_Si (fun x_ => x_ = s_X1_word (mw g r) pl)) 0 0 (fun _ => False) := by
  refine Met.ofW (cc := cX1_word) (maxL := 2) (ret := (some .int)) (by decide) rfl ?_
  intro p e s m args below meth c s₁ B hml hv
  obtain ⟨rfl, hP, hK⟩ := hv
  have hx := B.exec
  have hb := B.bytes
  have hr := B.returns
  have hts := atoms_spec (ws := wsX1_word) B.pre
  have hown : s.vm.findClass RX1 = some m.cls := findClass_of_methodNamed B.named
  have hlocks := B.notSynchronized
  have hl := lv_entry ([.ref h0, .int pl]) (n := 2) (Nat.le_of_ble_eq_true rfl)
  rw [lg_entry_eq]
  generalize (lg_sl ([.ref h0, .int pl]) ++ List.replicate (2 - (lg_sl ([.ref h0, .int pl])).length) Slot.unset).toArray = ls at hl ⊢
  have hl : lv_has ls 2 [(0, .ref h0), (1, .int pl)] := hl
  have hP : va_P (dC, dI) vwCl ([(h0, .inr (1, [.ref me, .ref sp, .int fa, .int fl, .int fd, .int cr, .int lo, .int so])), (sp, .inl (cI, 33, .inl f)), (me, .inr (0, [.ref pg])), (pg, .inl (cP, 64, .inr (.inr (.inr (.inr g)))))] ++ va_pl LP (prow cI r)) s.heap := hP
  refine lv_iload_n hx hb dX1_word_0 rfl (lv_at hl 1 rfl) ?_
  refine vp_callSi (va_Run.run (va_runS (As := [.int pl]) (rest := []) ⟨hx, hb, hml, hown, hts⟩ (c_X1_isWordPlace l pl) (va_cwS 1 hts gX1_word_X1_isWordPlace rfl rfl rfl (by decide +kernel) ⟨Nat.le_of_ble_eq_true rfl, Nat.le_of_ble_eq_true rfl⟩) ⟨fun a U g mk q => q, fun U hU hW => ⟨rfl, trivial⟩⟩ rfl rfl hl.1 rfl (lv_room (Nat.le_of_ble_eq_true rfl)) dX1_word_1 ⟨Nat.le_of_ble_eq_true rfl, Nat.le_of_ble_eq_true rfl⟩)) (fun r_1 hw_2 => ?_)
  subst hw_2
  refine lv_if_eq (tgt := 18) hx hb dX1_word_4 (by decide) (fun c_3 => ?_) (fun c_3 => ?_)
  · skip
    refine lv_iconst (v := 0) hx hb dX1_word_18 (by decide) ?_
    exact W.iret (v := 0) hx hb hr (fun t ht hW => ⟨0, rfl, by simp only [s_X1_word, if_pos c_3], ht⟩) (fun q h => by cases h) dX1_word_19
  · skip
    refine lv_aload_n hx hb dX1_word_7 rfl (lv_at hl 0 rfl) ?_
    refine va_get (D := (dC, dI)) (ci := 1) (v := .ref me) (C := RX1) (T := TX1) (N := 8) hx hb hts miX1_word_X1 hown hK hP 0 rfl rfl 0 (by decide) (hts _ mbX1_word_1) (fun _ h9 => h9) rfl dX1_word_8 ?_
    refine lv_iload_n hx hb dX1_word_11 rfl (lv_at hl 1 rfl) ?_
    have hPc := va_P.part (X := [(h0, .inr (1, [.ref me, .ref sp, .int fa, .int fl, .int fd, .int cr, .int lo, .int so])), (sp, .inl (cI, 33, .inl f)), (me, .inr (0, [.ref pg])), (pg, .inl (cP, 64, .inr (.inr (.inr (.inr g)))))]) (cx := [(me, .inr (0, [.ref pg])), (pg, .inl (cP, 64, .inr (.inr (.inr (.inr g)))))]) hP [2, 3] rfl
    have hKc := hK.sub (tys' := [(cP, .array .int), (cI, .int)]) [1, 0] rfl
    refine vp_callSi (va_Run.run (va_runV (As := [.int pl]) (rest := []) ⟨hx, hb, hml, hown, hts⟩ (c_X0_wordAt l dC dI me pg cP cI g LP r pl hm) (cwV 1 hts gX1_word_X0_wordAt rfl rfl rfl (by decide +kernel) ⟨Nat.le_of_ble_eq_true rfl, Nat.le_of_ble_eq_true rfl⟩) ⟨fun a U g mk q => by obtain ⟨q0, qP, qK⟩ := q; exact ⟨q0, qP, va_K.moved (u := U) (U := U.calling g mk a) (Vm.Alike.refl U.vm) qK⟩, va_recv hKc hPc (ci := 0) (q0 := 0) rfl rfl, fun U hU hW => ⟨rfl, by rw [hU]; exact hPc, va_K.moved hW.alike hKc⟩⟩ rfl rfl hl.1 rfl (lv_room (Nat.le_of_ble_eq_true rfl)) dX1_word_12 ⟨Nat.le_of_ble_eq_true rfl, Nat.le_of_ble_eq_true rfl⟩)) (fun r_4 hw_5 => ?_)
    subst hw_5
    refine lv_goto (tgt := 19) hx hb dX1_word_15 (by decide) ?_
    exact W.iret (v := m_get (mw g r) pl) hx hb hr (fun t ht hW => ⟨m_get (mw g r) pl, rfl, by simp only [s_X1_word, if_neg c_3], ht⟩) (fun q h => by cases h) dX1_word_19
set_option maxRecDepth 100000 in
theorem miX1_code_X1 : ∀ w ∈ u_ws RX1 TX1 8, w ∈ wsX1_code := by decide +kernel
set_option maxRecDepth 100000 in
theorem mbX1_code_1 : (.fieldLink RX1 35 "SoftMaps" "codeReads" "I" : Cond) ∈ wsX1_code := by decide +kernel
set_option maxRecDepth 100000 in
theorem mbX1_code_2 : (.fieldLink RX1 12 "SoftMaps" "memory" "LSoftMaps$Memory;" : Cond) ∈ wsX1_code := by decide +kernel
def s_X1_code (f M : Nat → Int32) (fa fl fd cr : Int32) (v : Int32) : Int32 × (Int32 × Int32 × Int32 × Int32) :=
  if 0 ≤ (s_X1_probe f fa fl fd v 0 1).1 then
    (m_get M ((s_X1_probe f fa fl fd v 0 1).1), ((s_X1_probe f fa fl fd v 0 1).2.1, (s_X1_probe f fa fl fd v 0 1).2.2.1, (s_X1_probe f fa fl fd v 0 1).2.2.2, cr + 1))
  else
    (0, ((s_X1_probe f fa fl fd v 0 1).2.1, (s_X1_probe f fa fl fd v 0 1).2.2.1, (s_X1_probe f fa fl fd v 0 1).2.2.2, cr))
set_option maxHeartbeats 4000000 in
set_option maxRecDepth 100000 in
theorem c_X1_code (l : Launch) (dC : Nat → ClassId) (dI : Nat → Nat → Nat) (sz : Nat) (h0 me sp : Nat) (cI : ClassId) (f : Nat → Int32) (fa fl fd cr lo so : Int32) (pg : Nat) (cP : ClassId) (g : Nat → Option Nat) (LP : List Nat) (r : Nat → Nat → Int32) (v : Int32) (hm : mok g LP) : Met l yX1_code wsX1_code ({ frames := 4, cells := 0, slots := 0, locals := 90 }) (va_Pc [.ref h0, .int v] (fun U => U.heap.size = sz ∧ va_P (dC, dI) vwCl ([(h0, .inr (1, [.ref me, .ref sp, .int fa, .int fl, .int fd, .int cr, .int lo, .int so])), (sp, .inl (cI, 33, .inl f)), (me, .inr (0, [.ref pg])), (pg, .inl (cP, 64, .inr (.inr (.inr (.inr g)))))] ++ va_pl LP (prow cI r)) U.heap ∧ va_K (dC, dI) vwCl [(cI, .int), (cP, .array .int)] U ∧ va_D (fun _ => True) ([(h0, .inr (1, [.ref me, .ref sp, .int fa, .int fl, .int fd, .int cr, .int lo, .int so])), (sp, .inl (cI, 33, .inl f)), (me, .inr (0, [.ref pg])), (pg, .inl (cP, 64, .inr (.inr (.inr (.inr g)))))] ++ va_pl LP (prow cI r)))) (va_Qi (fun (a_ : Int32) (u : Int32 × Int32 × Int32 × Int32) => (a_, u) = s_X1_code f (mw g r) fa fl fd cr v) (fun (u : Int32 × Int32 × Int32 × Int32) (t : State) => va_P (dC, dI) vwCl ([(h0, .inr (1, [.ref me, .ref sp, .int u.1, .int u.2.1, .int u.2.2.1, .int u.2.2.2, .int lo, .int so])), (sp, .inl (cI, 33, .inl f)), (me, .inr (0, [.ref pg])), (pg, .inl (cP, 64, .inr (.inr (.inr (.inr g)))))] ++ va_pl LP (prow cI r)) t.heap ∧ va_K (dC, dI) vwCl [(cI, .int), (cP, .array .int)] t ∧ va_D (va_A ([(h0, .inr (1, [.ref me, .ref sp, .int fa, .int fl, .int fd, .int cr, .int lo, .int so])), (sp, .inl (cI, 33, .inl f)), (me, .inr (0, [.ref pg])), (pg, .inl (cP, 64, .inr (.inr (.inr (.inr g)))))] ++ va_pl LP (prow cI r)) sz) ([(h0, .inr (1, [.ref me, .ref sp, .int u.1, .int u.2.1, .int u.2.2.1, .int u.2.2.2, .int lo, .int so])), (sp, .inl (cI, 33, .inl f)), (me, .inr (0, [.ref pg])), (pg, .inl (cP, 64, .inr (.inr (.inr (.inr g)))))] ++ va_pl LP (prow cI r))) (va_A ([(h0, .inr (1, [.ref me, .ref sp, .int fa, .int fl, .int fd, .int cr, .int lo, .int so])), (sp, .inl (cI, 33, .inl f)), (me, .inr (0, [.ref pg])), (pg, .inl (cP, 64, .inr (.inr (.inr (.inr g)))))] ++ va_pl LP (prow cI r)) sz)) 0 0 (va_A ([(h0, .inr (1, [.ref me, .ref sp, .int fa, .int fl, .int fd, .int cr, .int lo, .int so])), (sp, .inl (cI, 33, .inl f)), (me, .inr (0, [.ref pg])), (pg, .inl (cP, 64, .inr (.inr (.inr (.inr g)))))] ++ va_pl LP (prow cI r)) sz) := by
  refine Met.ofW (cc := cX1_code) (maxL := 3) (ret := (some .int)) (by decide) rfl ?_
  intro p e s m args below meth c s₁ B hml hv
  obtain ⟨rfl, hsz, hP, hK, hD0⟩ := hv
  have hx := B.exec
  have hb := B.bytes
  have hr := B.returns
  have hts := atoms_spec (ws := wsX1_code) B.pre
  have hown : s.vm.findClass RX1 = some m.cls := findClass_of_methodNamed B.named
  have hlocks := B.notSynchronized
  subst hsz
  have hD := hD0.self (sz := s.heap.size)
  generalize hAe : va_A ([(h0, .inr (1, [.ref me, .ref sp, .int fa, .int fl, .int fd, .int cr, .int lo, .int so])), (sp, .inl (cI, 33, .inl f)), (me, .inr (0, [.ref pg])), (pg, .inl (cP, 64, .inr (.inr (.inr (.inr g)))))] ++ va_pl LP (prow cI r)) s.heap.size = A at hD ⊢
  have hA : ∀ q : Nat, s.heap.size ≤ q → A q := fun q h => by rw [← hAe]; exact Or.inr h
  have hS : va_S A s.heap s.heap [] := va_S.rf
  have hP : va_P (dC, dI) vwCl ([(h0, .inr (1, [.ref me, .ref sp, .int fa, .int fl, .int fd, .int cr, .int lo, .int so])), (sp, .inl (cI, 33, .inl f)), (me, .inr (0, [.ref pg])), (pg, .inl (cP, 64, .inr (.inr (.inr (.inr g)))))] ++ va_pl LP (prow cI r)) s.heap := hP
  have hl := lv_entry ([.ref h0, .int v]) (n := 3) (Nat.le_of_ble_eq_true rfl)
  rw [lg_entry_eq]
  generalize (lg_sl ([.ref h0, .int v]) ++ List.replicate (3 - (lg_sl ([.ref h0, .int v])).length) Slot.unset).toArray = ls at hl ⊢
  have hl : lv_has ls 3 [(0, .ref h0), (1, .int v)] := hl
  refine lv_aload_n hx hb dX1_code_0 rfl (lv_at hl 0 rfl) ?_
  refine lv_iload_n hx hb dX1_code_1 rfl (lv_at hl 1 rfl) ?_
  refine lv_iconst (v := 0) hx hb dX1_code_2 (by decide) ?_
  refine lv_iconst (v := 1) hx hb dX1_code_3 (by decide) ?_
  have hPc := hP.sub (ws' := [(h0, .inr (1, [.ref me, .ref sp, .int fa, .int fl, .int fd, .int cr, .int lo, .int so])), (sp, .inl (cI, 33, .inl f))]) [0, 1] rfl
  have hDc := hD.sub (ws' := [(h0, .inr (1, [.ref me, .ref sp, .int fa, .int fl, .int fd, .int cr, .int lo, .int so])), (sp, .inl (cI, 33, .inl f))]) [0, 1] (by decide) rfl
  have hFc := va_free (wc := [(h0, .inr (1, [.ref me, .ref sp, .int fa, .int fl, .int fd, .int cr, .int lo, .int so])), (sp, .inl (cI, 33, .inl f))]) hD hS hA [0, 1] rfl
  have hKc := hK.sub (tys' := [(cI, .int)]) [0] rfl
  refine va_calli (va_runV (As := [.int v, .int 0, .int 1]) (rest := []) ⟨hx, hb, hml, hown, hts⟩ (c_X1_probe l dC dI (s.heap.size) h0 me sp cI f fa fl fd cr lo so v 0 1) (cwV 3 hts gX1_code_X1_probe rfl rfl rfl (by decide +kernel) ⟨Nat.le_of_ble_eq_true rfl, Nat.le_of_ble_eq_true rfl⟩) ⟨fun a U g mk q => by obtain ⟨q0, q1, qP, qK, qD⟩ := q; exact ⟨q0, q1, qP, va_K.moved (u := U) (U := U.calling g mk a) (Vm.Alike.refl U.vm) qK, qD⟩, va_recv hKc hPc (ci := 1) (q0 := 0) rfl rfl, fun U hU hW => ⟨rfl, by rw [hU], by rw [hU]; exact hPc, va_K.moved hW.alike hKc, hDc.weaken (fun _ _ _ _ => trivial)⟩⟩ rfl rfl hl.1 rfl (lv_room (Nat.le_of_ble_eq_true rfl)) dX1_code_4 ⟨Nat.le_of_ble_eq_true rfl, Nat.le_of_ble_eq_true rfl⟩) hS (fun q _ h => hFc q h) hFc (fun r_1 u_3 t H1 locs ht hvm hw_2 hB hz1 hk1 hS => ?_)
  have e1_ : r_1 = (s_X1_probe f fa fl fd v 0 1).1 := congrArg Prod.fst hw_2
  have e2_ : u_3 = (s_X1_probe f fa fl fd v 0 1).2 := congrArg Prod.snd hw_2
  subst e1_ e2_
  obtain ⟨hP1, hK1, hD1⟩ := hB
  rw [ht] at hP1
  obtain ⟨hP, hD⟩ := va_joinQ (X := [(h0, .inr (1, [.ref me, .ref sp, .int fa, .int fl, .int fd, .int cr, .int lo, .int so])), (sp, .inl (cI, 33, .inl f)), (me, .inr (0, [.ref pg])), (pg, .inl (cP, 64, .inr (.inr (.inr (.inr g)))))]) (cx := [(h0, .inr (1, [.ref me, .ref sp, .int fa, .int fl, .int fd, .int cr, .int lo, .int so])), (sp, .inl (cI, 33, .inl f))]) (wr := [(me, .inr (0, [.ref pg])), (pg, .inl (cP, 64, .inr (.inr (.inr (.inr g)))))]) (w1 := [(h0, .inr (1, [.ref me, .ref sp, .int ((s_X1_probe f fa fl fd v 0 1).2.1), .int ((s_X1_probe f fa fl fd v 0 1).2.2.1), .int ((s_X1_probe f fa fl fd v 0 1).2.2.2), .int cr, .int lo, .int so])), (sp, .inl (cI, 33, .inl f))]) hP hD [0, 1] [2, 3] rfl rfl (by decide) (by decide) hk1 hFc hP1 hD1
  generalize H1 = H at hP hS ⊢
  have hP := va_P.part (X := [(me, .inr (0, [.ref pg])), (pg, .inl (cP, 64, .inr (.inr (.inr (.inr g))))), (h0, .inr (1, [.ref me, .ref sp, .int ((s_X1_probe f fa fl fd v 0 1).2.1), .int ((s_X1_probe f fa fl fd v 0 1).2.2.1), .int ((s_X1_probe f fa fl fd v 0 1).2.2.2), .int cr, .int lo, .int so])), (sp, .inl (cI, 33, .inl f))]) (cx := [(h0, .inr (1, [.ref me, .ref sp, .int ((s_X1_probe f fa fl fd v 0 1).2.1), .int ((s_X1_probe f fa fl fd v 0 1).2.2.1), .int ((s_X1_probe f fa fl fd v 0 1).2.2.2), .int cr, .int lo, .int so])), (sp, .inl (cI, 33, .inl f)), (me, .inr (0, [.ref pg])), (pg, .inl (cP, 64, .inr (.inr (.inr (.inr g)))))]) hP [2, 3, 0, 1] rfl
  have hD := va_D.part (X := [(me, .inr (0, [.ref pg])), (pg, .inl (cP, 64, .inr (.inr (.inr (.inr g))))), (h0, .inr (1, [.ref me, .ref sp, .int ((s_X1_probe f fa fl fd v 0 1).2.1), .int ((s_X1_probe f fa fl fd v 0 1).2.2.1), .int ((s_X1_probe f fa fl fd v 0 1).2.2.2), .int cr, .int lo, .int so])), (sp, .inl (cI, 33, .inl f))]) (cx := [(h0, .inr (1, [.ref me, .ref sp, .int ((s_X1_probe f fa fl fd v 0 1).2.1), .int ((s_X1_probe f fa fl fd v 0 1).2.2.1), .int ((s_X1_probe f fa fl fd v 0 1).2.2.2), .int cr, .int lo, .int so])), (sp, .inl (cI, 33, .inl f)), (me, .inr (0, [.ref pg])), (pg, .inl (cP, 64, .inr (.inr (.inr (.inr g)))))]) hD [2, 3, 0, 1] (by decide) rfl
  have hP : va_P (dC, dI) vwCl ([(h0, .inr (1, [.ref me, .ref sp, .int ((s_X1_probe f fa fl fd v 0 1).2.1), .int ((s_X1_probe f fa fl fd v 0 1).2.2.1), .int ((s_X1_probe f fa fl fd v 0 1).2.2.2), .int cr, .int lo, .int so])), (sp, .inl (cI, 33, .inl f)), (me, .inr (0, [.ref pg])), (pg, .inl (cP, 64, .inr (.inr (.inr (.inr g)))))] ++ va_pl LP (prow cI r)) H := hP
  have hD : va_D A ([(h0, .inr (1, [.ref me, .ref sp, .int ((s_X1_probe f fa fl fd v 0 1).2.1), .int ((s_X1_probe f fa fl fd v 0 1).2.2.1), .int ((s_X1_probe f fa fl fd v 0 1).2.2.2), .int cr, .int lo, .int so])), (sp, .inl (cI, 33, .inl f)), (me, .inr (0, [.ref pg])), (pg, .inl (cP, 64, .inr (.inr (.inr (.inr g)))))] ++ va_pl LP (prow cI r)) := hD
  refine lv_istore_n (lv' := [(2, .int ((s_X1_probe f fa fl fd v 0 1).1)), (0, .ref h0), (1, .int v)]) hx hb dX1_code_7 rfl hl (by decide) rfl (fun ls hl => ?_)
  refine lv_iload_n hx hb dX1_code_8 rfl (lv_at hl 0 rfl) ?_
  refine lv_if_ge (tgt := 14) hx hb dX1_code_9 (by decide) (fun c_4 => ?_) (fun c_4 => ?_)
  · skip
    refine lv_aload_n hx hb dX1_code_14 rfl (lv_at hl 1 rfl) ?_
    refine lv_dup hx hb dX1_code_15 rfl ?_
    refine va_get (D := (dC, dI)) (ci := 1) (v := .int cr) (C := RX1) (T := TX1) (N := 8) hx hb hts miX1_code_X1 hown hK hP 0 rfl rfl 5 (by decide) (hts _ mbX1_code_1) (fun _ h9 => h9) rfl dX1_code_16 ?_
    refine lv_iconst (v := 1) hx hb dX1_code_19 (by decide) ?_
    refine lv_iadd hx hb dX1_code_20 ?_
    refine va_put (D := (dC, dI)) (ci := 1) (v := .int (cr + 1)) (ty := tyX1 5) (C := RX1) (T := TX1) (N := 8) hx hb hts miX1_code_X1 tyX1 tyX1_ok nmX1 hown hK hP hD hS 0 rfl rfl 5 (by decide) (hts _ mbX1_code_1) (fun _ h9 => h9) rfl (by decide +kernel) rfl rfl (Nat.le_of_ble_eq_true rfl) dX1_code_21 (fun H locs hP hD hS => ?_)
    have hP : va_P (dC, dI) vwCl ([(h0, .inr (1, [.ref me, .ref sp, .int ((s_X1_probe f fa fl fd v 0 1).2.1), .int ((s_X1_probe f fa fl fd v 0 1).2.2.1), .int ((s_X1_probe f fa fl fd v 0 1).2.2.2), .int (cr + 1), .int lo, .int so])), (sp, .inl (cI, 33, .inl f)), (me, .inr (0, [.ref pg])), (pg, .inl (cP, 64, .inr (.inr (.inr (.inr g)))))] ++ va_pl LP (prow cI r)) H := hP
    have hD : va_D A ([(h0, .inr (1, [.ref me, .ref sp, .int ((s_X1_probe f fa fl fd v 0 1).2.1), .int ((s_X1_probe f fa fl fd v 0 1).2.2.1), .int ((s_X1_probe f fa fl fd v 0 1).2.2.2), .int (cr + 1), .int lo, .int so])), (sp, .inl (cI, 33, .inl f)), (me, .inr (0, [.ref pg])), (pg, .inl (cP, 64, .inr (.inr (.inr (.inr g)))))] ++ va_pl LP (prow cI r)) := hD
    refine lv_aload_n hx hb dX1_code_24 rfl (lv_at hl 1 rfl) ?_
    refine va_get (D := (dC, dI)) (ci := 1) (v := .ref me) (C := RX1) (T := TX1) (N := 8) hx hb hts miX1_code_X1 hown hK hP 0 rfl rfl 0 (by decide) (hts _ mbX1_code_2) (fun _ h9 => h9) rfl dX1_code_25 ?_
    refine lv_iload_n hx hb dX1_code_28 rfl (lv_at hl 0 rfl) ?_
    have hPc := va_P.part (X := [(h0, .inr (1, [.ref me, .ref sp, .int ((s_X1_probe f fa fl fd v 0 1).2.1), .int ((s_X1_probe f fa fl fd v 0 1).2.2.1), .int ((s_X1_probe f fa fl fd v 0 1).2.2.2), .int (cr + 1), .int lo, .int so])), (sp, .inl (cI, 33, .inl f)), (me, .inr (0, [.ref pg])), (pg, .inl (cP, 64, .inr (.inr (.inr (.inr g)))))]) (cx := [(me, .inr (0, [.ref pg])), (pg, .inl (cP, 64, .inr (.inr (.inr (.inr g)))))]) hP [2, 3] rfl
    have hKc := hK.sub (tys' := [(cP, .array .int), (cI, .int)]) [1, 0] rfl
    refine vp_callSi (va_Run.run (va_runV (As := [.int ((s_X1_probe f fa fl fd v 0 1).1)]) (rest := []) ⟨hx, hb, hml, hown, hts⟩ (c_X0_wordAt l dC dI me pg cP cI g LP r ((s_X1_probe f fa fl fd v 0 1).1) hm) (cwV 1 hts gX1_code_X0_wordAt rfl rfl rfl (by decide +kernel) ⟨Nat.le_of_ble_eq_true rfl, Nat.le_of_ble_eq_true rfl⟩) ⟨fun a U g mk q => by obtain ⟨q0, qP, qK⟩ := q; exact ⟨q0, qP, va_K.moved (u := U) (U := U.calling g mk a) (Vm.Alike.refl U.vm) qK⟩, va_recv hKc hPc (ci := 0) (q0 := 0) rfl rfl, fun U hU hW => ⟨rfl, by rw [hU]; exact hPc, va_K.moved hW.alike hKc⟩⟩ rfl rfl hl.1 rfl (lv_room (Nat.le_of_ble_eq_true rfl)) dX1_code_29 ⟨Nat.le_of_ble_eq_true rfl, Nat.le_of_ble_eq_true rfl⟩)) (fun r_5 hw_6 => ?_)
    subst hw_6
    exact W.iret (v := m_get (mw g r) ((s_X1_probe f fa fl fd v 0 1).1)) hx hb hr (fun t ht hW => ⟨⟨m_get (mw g r) ((s_X1_probe f fa fl fd v 0 1).1), ((s_X1_probe f fa fl fd v 0 1).2.1, (s_X1_probe f fa fl fd v 0 1).2.2.1, (s_X1_probe f fa fl fd v 0 1).2.2.2, cr + 1), rfl, by simp only [s_X1_code, if_pos c_4], by rw [ht]; exact hP, va_K.moved hW.alike hK, hD⟩, hS.F ht⟩) hS.2.2 dX1_code_32
  · skip
    refine lv_iconst (v := 0) hx hb dX1_code_12 (by decide) ?_
    exact W.iret (v := 0) hx hb hr (fun t ht hW => ⟨⟨0, ((s_X1_probe f fa fl fd v 0 1).2.1, (s_X1_probe f fa fl fd v 0 1).2.2.1, (s_X1_probe f fa fl fd v 0 1).2.2.2, cr), rfl, by simp only [s_X1_code, if_neg c_4], by rw [ht]; exact hP, va_K.moved hW.alike hK, hD⟩, hS.F ht⟩) hS.2.2 dX1_code_13
set_option maxRecDepth 100000 in
theorem miX1_load_X1 : ∀ w ∈ u_ws RX1 TX1 8, w ∈ wsX1_load := by decide +kernel
set_option maxRecDepth 100000 in
theorem mbX1_load_1 : (.fieldLink RX1 43 "SoftMaps" "loads" "I" : Cond) ∈ wsX1_load := by decide +kernel
set_option maxRecDepth 100000 in
theorem mbX1_load_2 : (.fieldLink RX1 12 "SoftMaps" "memory" "LSoftMaps$Memory;" : Cond) ∈ wsX1_load := by decide +kernel
def s_X1_load (f M : Nat → Int32) (fa fl fd lo : Int32) (v : Int32) (wd : Int32) : Int32 × (Int32 × Int32 × Int32 × Int32) :=
  if 0 ≤ (s_X1_probe f fa fl fd v 1 wd).1 then
    if wd = 0 then
      (s_X0_byteAt M ((s_X1_probe f fa fl fd v 1 wd).1), ((s_X1_probe f fa fl fd v 1 wd).2.1, (s_X1_probe f fa fl fd v 1 wd).2.2.1, (s_X1_probe f fa fl fd v 1 wd).2.2.2, lo + 1))
    else
      (m_get M ((s_X1_probe f fa fl fd v 1 wd).1), ((s_X1_probe f fa fl fd v 1 wd).2.1, (s_X1_probe f fa fl fd v 1 wd).2.2.1, (s_X1_probe f fa fl fd v 1 wd).2.2.2, lo + 1))
  else
    (0, ((s_X1_probe f fa fl fd v 1 wd).2.1, (s_X1_probe f fa fl fd v 1 wd).2.2.1, (s_X1_probe f fa fl fd v 1 wd).2.2.2, lo))
set_option maxHeartbeats 4000000 in
set_option maxRecDepth 100000 in
theorem c_X1_load (l : Launch) (dC : Nat → ClassId) (dI : Nat → Nat → Nat) (sz : Nat) (h0 me sp : Nat) (cI : ClassId) (f : Nat → Int32) (fa fl fd cr lo so : Int32) (pg : Nat) (cP : ClassId) (g : Nat → Option Nat) (LP : List Nat) (r : Nat → Nat → Int32) (v : Int32) (wd : Int32) (hm : mok g LP) : Met l yX1_load wsX1_load ({ frames := 4, cells := 0, slots := 0, locals := 90 }) (va_Pc [.ref h0, .int v, .int wd] (fun U => U.heap.size = sz ∧ va_P (dC, dI) vwCl ([(h0, .inr (1, [.ref me, .ref sp, .int fa, .int fl, .int fd, .int cr, .int lo, .int so])), (sp, .inl (cI, 33, .inl f)), (me, .inr (0, [.ref pg])), (pg, .inl (cP, 64, .inr (.inr (.inr (.inr g)))))] ++ va_pl LP (prow cI r)) U.heap ∧ va_K (dC, dI) vwCl [(cI, .int), (cP, .array .int)] U ∧ va_D (fun _ => True) ([(h0, .inr (1, [.ref me, .ref sp, .int fa, .int fl, .int fd, .int cr, .int lo, .int so])), (sp, .inl (cI, 33, .inl f)), (me, .inr (0, [.ref pg])), (pg, .inl (cP, 64, .inr (.inr (.inr (.inr g)))))] ++ va_pl LP (prow cI r)))) (va_Qi (fun (a_ : Int32) (u : Int32 × Int32 × Int32 × Int32) => (a_, u) = s_X1_load f (mw g r) fa fl fd lo v wd) (fun (u : Int32 × Int32 × Int32 × Int32) (t : State) => va_P (dC, dI) vwCl ([(h0, .inr (1, [.ref me, .ref sp, .int u.1, .int u.2.1, .int u.2.2.1, .int cr, .int u.2.2.2, .int so])), (sp, .inl (cI, 33, .inl f)), (me, .inr (0, [.ref pg])), (pg, .inl (cP, 64, .inr (.inr (.inr (.inr g)))))] ++ va_pl LP (prow cI r)) t.heap ∧ va_K (dC, dI) vwCl [(cI, .int), (cP, .array .int)] t ∧ va_D (va_A ([(h0, .inr (1, [.ref me, .ref sp, .int fa, .int fl, .int fd, .int cr, .int lo, .int so])), (sp, .inl (cI, 33, .inl f)), (me, .inr (0, [.ref pg])), (pg, .inl (cP, 64, .inr (.inr (.inr (.inr g)))))] ++ va_pl LP (prow cI r)) sz) ([(h0, .inr (1, [.ref me, .ref sp, .int u.1, .int u.2.1, .int u.2.2.1, .int cr, .int u.2.2.2, .int so])), (sp, .inl (cI, 33, .inl f)), (me, .inr (0, [.ref pg])), (pg, .inl (cP, 64, .inr (.inr (.inr (.inr g)))))] ++ va_pl LP (prow cI r))) (va_A ([(h0, .inr (1, [.ref me, .ref sp, .int fa, .int fl, .int fd, .int cr, .int lo, .int so])), (sp, .inl (cI, 33, .inl f)), (me, .inr (0, [.ref pg])), (pg, .inl (cP, 64, .inr (.inr (.inr (.inr g)))))] ++ va_pl LP (prow cI r)) sz)) 0 0 (va_A ([(h0, .inr (1, [.ref me, .ref sp, .int fa, .int fl, .int fd, .int cr, .int lo, .int so])), (sp, .inl (cI, 33, .inl f)), (me, .inr (0, [.ref pg])), (pg, .inl (cP, 64, .inr (.inr (.inr (.inr g)))))] ++ va_pl LP (prow cI r)) sz) := by
  refine Met.ofW (cc := cX1_load) (maxL := 4) (ret := (some .int)) (by decide) rfl ?_
  intro p e s m args below meth c s₁ B hml hv
  obtain ⟨rfl, hsz, hP, hK, hD0⟩ := hv
  have hx := B.exec
  have hb := B.bytes
  have hr := B.returns
  have hts := atoms_spec (ws := wsX1_load) B.pre
  have hown : s.vm.findClass RX1 = some m.cls := findClass_of_methodNamed B.named
  have hlocks := B.notSynchronized
  subst hsz
  have hD := hD0.self (sz := s.heap.size)
  generalize hAe : va_A ([(h0, .inr (1, [.ref me, .ref sp, .int fa, .int fl, .int fd, .int cr, .int lo, .int so])), (sp, .inl (cI, 33, .inl f)), (me, .inr (0, [.ref pg])), (pg, .inl (cP, 64, .inr (.inr (.inr (.inr g)))))] ++ va_pl LP (prow cI r)) s.heap.size = A at hD ⊢
  have hA : ∀ q : Nat, s.heap.size ≤ q → A q := fun q h => by rw [← hAe]; exact Or.inr h
  have hS : va_S A s.heap s.heap [] := va_S.rf
  have hP : va_P (dC, dI) vwCl ([(h0, .inr (1, [.ref me, .ref sp, .int fa, .int fl, .int fd, .int cr, .int lo, .int so])), (sp, .inl (cI, 33, .inl f)), (me, .inr (0, [.ref pg])), (pg, .inl (cP, 64, .inr (.inr (.inr (.inr g)))))] ++ va_pl LP (prow cI r)) s.heap := hP
  have hl := lv_entry ([.ref h0, .int v, .int wd]) (n := 4) (Nat.le_of_ble_eq_true rfl)
  rw [lg_entry_eq]
  generalize (lg_sl ([.ref h0, .int v, .int wd]) ++ List.replicate (4 - (lg_sl ([.ref h0, .int v, .int wd])).length) Slot.unset).toArray = ls at hl ⊢
  have hl : lv_has ls 4 [(0, .ref h0), (1, .int v), (2, .int wd)] := hl
  refine lv_aload_n hx hb dX1_load_0 rfl (lv_at hl 0 rfl) ?_
  refine lv_iload_n hx hb dX1_load_1 rfl (lv_at hl 1 rfl) ?_
  refine lv_iconst (v := 1) hx hb dX1_load_2 (by decide) ?_
  refine lv_iload_n hx hb dX1_load_3 rfl (lv_at hl 2 rfl) ?_
  have hPc := hP.sub (ws' := [(h0, .inr (1, [.ref me, .ref sp, .int fa, .int fl, .int fd, .int cr, .int lo, .int so])), (sp, .inl (cI, 33, .inl f))]) [0, 1] rfl
  have hDc := hD.sub (ws' := [(h0, .inr (1, [.ref me, .ref sp, .int fa, .int fl, .int fd, .int cr, .int lo, .int so])), (sp, .inl (cI, 33, .inl f))]) [0, 1] (by decide) rfl
  have hFc := va_free (wc := [(h0, .inr (1, [.ref me, .ref sp, .int fa, .int fl, .int fd, .int cr, .int lo, .int so])), (sp, .inl (cI, 33, .inl f))]) hD hS hA [0, 1] rfl
  have hKc := hK.sub (tys' := [(cI, .int)]) [0] rfl
  refine va_calli (va_runV (As := [.int v, .int 1, .int wd]) (rest := []) ⟨hx, hb, hml, hown, hts⟩ (c_X1_probe l dC dI (s.heap.size) h0 me sp cI f fa fl fd cr lo so v 1 wd) (cwV 3 hts gX1_load_X1_probe rfl rfl rfl (by decide +kernel) ⟨Nat.le_of_ble_eq_true rfl, Nat.le_of_ble_eq_true rfl⟩) ⟨fun a U g mk q => by obtain ⟨q0, q1, qP, qK, qD⟩ := q; exact ⟨q0, q1, qP, va_K.moved (u := U) (U := U.calling g mk a) (Vm.Alike.refl U.vm) qK, qD⟩, va_recv hKc hPc (ci := 1) (q0 := 0) rfl rfl, fun U hU hW => ⟨rfl, by rw [hU], by rw [hU]; exact hPc, va_K.moved hW.alike hKc, hDc.weaken (fun _ _ _ _ => trivial)⟩⟩ rfl rfl hl.1 rfl (lv_room (Nat.le_of_ble_eq_true rfl)) dX1_load_4 ⟨Nat.le_of_ble_eq_true rfl, Nat.le_of_ble_eq_true rfl⟩) hS (fun q _ h => hFc q h) hFc (fun r_1 u_3 t H1 locs ht hvm hw_2 hB hz1 hk1 hS => ?_)
  have e1_ : r_1 = (s_X1_probe f fa fl fd v 1 wd).1 := congrArg Prod.fst hw_2
  have e2_ : u_3 = (s_X1_probe f fa fl fd v 1 wd).2 := congrArg Prod.snd hw_2
  subst e1_ e2_
  obtain ⟨hP1, hK1, hD1⟩ := hB
  rw [ht] at hP1
  obtain ⟨hP, hD⟩ := va_joinQ (X := [(h0, .inr (1, [.ref me, .ref sp, .int fa, .int fl, .int fd, .int cr, .int lo, .int so])), (sp, .inl (cI, 33, .inl f)), (me, .inr (0, [.ref pg])), (pg, .inl (cP, 64, .inr (.inr (.inr (.inr g)))))]) (cx := [(h0, .inr (1, [.ref me, .ref sp, .int fa, .int fl, .int fd, .int cr, .int lo, .int so])), (sp, .inl (cI, 33, .inl f))]) (wr := [(me, .inr (0, [.ref pg])), (pg, .inl (cP, 64, .inr (.inr (.inr (.inr g)))))]) (w1 := [(h0, .inr (1, [.ref me, .ref sp, .int ((s_X1_probe f fa fl fd v 1 wd).2.1), .int ((s_X1_probe f fa fl fd v 1 wd).2.2.1), .int ((s_X1_probe f fa fl fd v 1 wd).2.2.2), .int cr, .int lo, .int so])), (sp, .inl (cI, 33, .inl f))]) hP hD [0, 1] [2, 3] rfl rfl (by decide) (by decide) hk1 hFc hP1 hD1
  generalize H1 = H at hP hS ⊢
  have hP := va_P.part (X := [(me, .inr (0, [.ref pg])), (pg, .inl (cP, 64, .inr (.inr (.inr (.inr g))))), (h0, .inr (1, [.ref me, .ref sp, .int ((s_X1_probe f fa fl fd v 1 wd).2.1), .int ((s_X1_probe f fa fl fd v 1 wd).2.2.1), .int ((s_X1_probe f fa fl fd v 1 wd).2.2.2), .int cr, .int lo, .int so])), (sp, .inl (cI, 33, .inl f))]) (cx := [(h0, .inr (1, [.ref me, .ref sp, .int ((s_X1_probe f fa fl fd v 1 wd).2.1), .int ((s_X1_probe f fa fl fd v 1 wd).2.2.1), .int ((s_X1_probe f fa fl fd v 1 wd).2.2.2), .int cr, .int lo, .int so])), (sp, .inl (cI, 33, .inl f)), (me, .inr (0, [.ref pg])), (pg, .inl (cP, 64, .inr (.inr (.inr (.inr g)))))]) hP [2, 3, 0, 1] rfl
  have hD := va_D.part (X := [(me, .inr (0, [.ref pg])), (pg, .inl (cP, 64, .inr (.inr (.inr (.inr g))))), (h0, .inr (1, [.ref me, .ref sp, .int ((s_X1_probe f fa fl fd v 1 wd).2.1), .int ((s_X1_probe f fa fl fd v 1 wd).2.2.1), .int ((s_X1_probe f fa fl fd v 1 wd).2.2.2), .int cr, .int lo, .int so])), (sp, .inl (cI, 33, .inl f))]) (cx := [(h0, .inr (1, [.ref me, .ref sp, .int ((s_X1_probe f fa fl fd v 1 wd).2.1), .int ((s_X1_probe f fa fl fd v 1 wd).2.2.1), .int ((s_X1_probe f fa fl fd v 1 wd).2.2.2), .int cr, .int lo, .int so])), (sp, .inl (cI, 33, .inl f)), (me, .inr (0, [.ref pg])), (pg, .inl (cP, 64, .inr (.inr (.inr (.inr g)))))]) hD [2, 3, 0, 1] (by decide) rfl
  have hP : va_P (dC, dI) vwCl ([(h0, .inr (1, [.ref me, .ref sp, .int ((s_X1_probe f fa fl fd v 1 wd).2.1), .int ((s_X1_probe f fa fl fd v 1 wd).2.2.1), .int ((s_X1_probe f fa fl fd v 1 wd).2.2.2), .int cr, .int lo, .int so])), (sp, .inl (cI, 33, .inl f)), (me, .inr (0, [.ref pg])), (pg, .inl (cP, 64, .inr (.inr (.inr (.inr g)))))] ++ va_pl LP (prow cI r)) H := hP
  have hD : va_D A ([(h0, .inr (1, [.ref me, .ref sp, .int ((s_X1_probe f fa fl fd v 1 wd).2.1), .int ((s_X1_probe f fa fl fd v 1 wd).2.2.1), .int ((s_X1_probe f fa fl fd v 1 wd).2.2.2), .int cr, .int lo, .int so])), (sp, .inl (cI, 33, .inl f)), (me, .inr (0, [.ref pg])), (pg, .inl (cP, 64, .inr (.inr (.inr (.inr g)))))] ++ va_pl LP (prow cI r)) := hD
  refine lv_istore_n (lv' := [(3, .int ((s_X1_probe f fa fl fd v 1 wd).1)), (0, .ref h0), (1, .int v), (2, .int wd)]) hx hb dX1_load_7 rfl hl (by decide) rfl (fun ls hl => ?_)
  refine lv_iload_n hx hb dX1_load_8 rfl (lv_at hl 0 rfl) ?_
  refine lv_if_ge (tgt := 14) hx hb dX1_load_9 (by decide) (fun c_4 => ?_) (fun c_4 => ?_)
  · skip
    refine lv_aload_n hx hb dX1_load_14 rfl (lv_at hl 1 rfl) ?_
    refine lv_dup hx hb dX1_load_15 rfl ?_
    refine va_get (D := (dC, dI)) (ci := 1) (v := .int lo) (C := RX1) (T := TX1) (N := 8) hx hb hts miX1_load_X1 hown hK hP 0 rfl rfl 6 (by decide) (hts _ mbX1_load_1) (fun _ h9 => h9) rfl dX1_load_16 ?_
    refine lv_iconst (v := 1) hx hb dX1_load_19 (by decide) ?_
    refine lv_iadd hx hb dX1_load_20 ?_
    refine va_put (D := (dC, dI)) (ci := 1) (v := .int (lo + 1)) (ty := tyX1 6) (C := RX1) (T := TX1) (N := 8) hx hb hts miX1_load_X1 tyX1 tyX1_ok nmX1 hown hK hP hD hS 0 rfl rfl 6 (by decide) (hts _ mbX1_load_1) (fun _ h9 => h9) rfl (by decide +kernel) rfl rfl (Nat.le_of_ble_eq_true rfl) dX1_load_21 (fun H locs hP hD hS => ?_)
    have hP : va_P (dC, dI) vwCl ([(h0, .inr (1, [.ref me, .ref sp, .int ((s_X1_probe f fa fl fd v 1 wd).2.1), .int ((s_X1_probe f fa fl fd v 1 wd).2.2.1), .int ((s_X1_probe f fa fl fd v 1 wd).2.2.2), .int cr, .int (lo + 1), .int so])), (sp, .inl (cI, 33, .inl f)), (me, .inr (0, [.ref pg])), (pg, .inl (cP, 64, .inr (.inr (.inr (.inr g)))))] ++ va_pl LP (prow cI r)) H := hP
    have hD : va_D A ([(h0, .inr (1, [.ref me, .ref sp, .int ((s_X1_probe f fa fl fd v 1 wd).2.1), .int ((s_X1_probe f fa fl fd v 1 wd).2.2.1), .int ((s_X1_probe f fa fl fd v 1 wd).2.2.2), .int cr, .int (lo + 1), .int so])), (sp, .inl (cI, 33, .inl f)), (me, .inr (0, [.ref pg])), (pg, .inl (cP, 64, .inr (.inr (.inr (.inr g)))))] ++ va_pl LP (prow cI r)) := hD
    refine lv_iload_n hx hb dX1_load_24 rfl (lv_at hl 3 rfl) ?_
    refine lv_if_eq (tgt := 39) hx hb dX1_load_25 (by decide) (fun c_5 => ?_) (fun c_5 => ?_)
    · skip
      refine lv_aload_n hx hb dX1_load_39 rfl (lv_at hl 1 rfl) ?_
      refine va_get (D := (dC, dI)) (ci := 1) (v := .ref me) (C := RX1) (T := TX1) (N := 8) hx hb hts miX1_load_X1 hown hK hP 0 rfl rfl 0 (by decide) (hts _ mbX1_load_2) (fun _ h9 => h9) rfl dX1_load_40 ?_
      refine lv_iload_n hx hb dX1_load_43 rfl (lv_at hl 0 rfl) ?_
      have hPc := va_P.part (X := [(h0, .inr (1, [.ref me, .ref sp, .int ((s_X1_probe f fa fl fd v 1 wd).2.1), .int ((s_X1_probe f fa fl fd v 1 wd).2.2.1), .int ((s_X1_probe f fa fl fd v 1 wd).2.2.2), .int cr, .int (lo + 1), .int so])), (sp, .inl (cI, 33, .inl f)), (me, .inr (0, [.ref pg])), (pg, .inl (cP, 64, .inr (.inr (.inr (.inr g)))))]) (cx := [(me, .inr (0, [.ref pg])), (pg, .inl (cP, 64, .inr (.inr (.inr (.inr g)))))]) hP [2, 3] rfl
      have hKc := hK.sub (tys' := [(cP, .array .int), (cI, .int)]) [1, 0] rfl
      refine vp_callSi (va_Run.run (va_runV (As := [.int ((s_X1_probe f fa fl fd v 1 wd).1)]) (rest := []) ⟨hx, hb, hml, hown, hts⟩ (c_X0_byteAt l dC dI me pg cP cI g LP r ((s_X1_probe f fa fl fd v 1 wd).1) hm) (cwV 1 hts gX1_load_X0_byteAt rfl rfl rfl (by decide +kernel) ⟨Nat.le_of_ble_eq_true rfl, Nat.le_of_ble_eq_true rfl⟩) ⟨fun a U g mk q => by obtain ⟨q0, qP, qK⟩ := q; exact ⟨q0, qP, va_K.moved (u := U) (U := U.calling g mk a) (Vm.Alike.refl U.vm) qK⟩, va_recv hKc hPc (ci := 0) (q0 := 0) rfl rfl, fun U hU hW => ⟨rfl, by rw [hU]; exact hPc, va_K.moved hW.alike hKc⟩⟩ rfl rfl hl.1 rfl (lv_room (Nat.le_of_ble_eq_true rfl)) dX1_load_44 ⟨Nat.le_of_ble_eq_true rfl, Nat.le_of_ble_eq_true rfl⟩)) (fun r_6 hw_7 => ?_)
      subst hw_7
      exact W.iret (v := s_X0_byteAt (mw g r) ((s_X1_probe f fa fl fd v 1 wd).1)) hx hb hr (fun t ht hW => ⟨⟨s_X0_byteAt (mw g r) ((s_X1_probe f fa fl fd v 1 wd).1), ((s_X1_probe f fa fl fd v 1 wd).2.1, (s_X1_probe f fa fl fd v 1 wd).2.2.1, (s_X1_probe f fa fl fd v 1 wd).2.2.2, lo + 1), rfl, by simp only [s_X1_load, if_pos c_4, if_pos c_5], by rw [ht]; exact hP, va_K.moved hW.alike hK, hD⟩, hS.F ht⟩) hS.2.2 dX1_load_47
    · skip
      refine lv_aload_n hx hb dX1_load_28 rfl (lv_at hl 1 rfl) ?_
      refine va_get (D := (dC, dI)) (ci := 1) (v := .ref me) (C := RX1) (T := TX1) (N := 8) hx hb hts miX1_load_X1 hown hK hP 0 rfl rfl 0 (by decide) (hts _ mbX1_load_2) (fun _ h9 => h9) rfl dX1_load_29 ?_
      refine lv_iload_n hx hb dX1_load_32 rfl (lv_at hl 0 rfl) ?_
      have hPc := va_P.part (X := [(h0, .inr (1, [.ref me, .ref sp, .int ((s_X1_probe f fa fl fd v 1 wd).2.1), .int ((s_X1_probe f fa fl fd v 1 wd).2.2.1), .int ((s_X1_probe f fa fl fd v 1 wd).2.2.2), .int cr, .int (lo + 1), .int so])), (sp, .inl (cI, 33, .inl f)), (me, .inr (0, [.ref pg])), (pg, .inl (cP, 64, .inr (.inr (.inr (.inr g)))))]) (cx := [(me, .inr (0, [.ref pg])), (pg, .inl (cP, 64, .inr (.inr (.inr (.inr g)))))]) hP [2, 3] rfl
      have hKc := hK.sub (tys' := [(cP, .array .int), (cI, .int)]) [1, 0] rfl
      refine vp_callSi (va_Run.run (va_runV (As := [.int ((s_X1_probe f fa fl fd v 1 wd).1)]) (rest := []) ⟨hx, hb, hml, hown, hts⟩ (c_X0_wordAt l dC dI me pg cP cI g LP r ((s_X1_probe f fa fl fd v 1 wd).1) hm) (cwV 1 hts gX1_load_X0_wordAt rfl rfl rfl (by decide +kernel) ⟨Nat.le_of_ble_eq_true rfl, Nat.le_of_ble_eq_true rfl⟩) ⟨fun a U g mk q => by obtain ⟨q0, qP, qK⟩ := q; exact ⟨q0, qP, va_K.moved (u := U) (U := U.calling g mk a) (Vm.Alike.refl U.vm) qK⟩, va_recv hKc hPc (ci := 0) (q0 := 0) rfl rfl, fun U hU hW => ⟨rfl, by rw [hU]; exact hPc, va_K.moved hW.alike hKc⟩⟩ rfl rfl hl.1 rfl (lv_room (Nat.le_of_ble_eq_true rfl)) dX1_load_33 ⟨Nat.le_of_ble_eq_true rfl, Nat.le_of_ble_eq_true rfl⟩)) (fun r_8 hw_9 => ?_)
      subst hw_9
      refine lv_goto (tgt := 47) hx hb dX1_load_36 (by decide) ?_
      exact W.iret (v := m_get (mw g r) ((s_X1_probe f fa fl fd v 1 wd).1)) hx hb hr (fun t ht hW => ⟨⟨m_get (mw g r) ((s_X1_probe f fa fl fd v 1 wd).1), ((s_X1_probe f fa fl fd v 1 wd).2.1, (s_X1_probe f fa fl fd v 1 wd).2.2.1, (s_X1_probe f fa fl fd v 1 wd).2.2.2, lo + 1), rfl, by simp only [s_X1_load, if_pos c_4, if_neg c_5], by rw [ht]; exact hP, va_K.moved hW.alike hK, hD⟩, hS.F ht⟩) hS.2.2 dX1_load_47
  · skip
    refine lv_iconst (v := 0) hx hb dX1_load_12 (by decide) ?_
    exact W.iret (v := 0) hx hb hr (fun t ht hW => ⟨⟨0, ((s_X1_probe f fa fl fd v 1 wd).2.1, (s_X1_probe f fa fl fd v 1 wd).2.2.1, (s_X1_probe f fa fl fd v 1 wd).2.2.2, lo), rfl, by simp only [s_X1_load, if_neg c_4], by rw [ht]; exact hP, va_K.moved hW.alike hK, hD⟩, hS.F ht⟩) hS.2.2 dX1_load_13
set_option maxRecDepth 100000 in
theorem miX1_poke_X1 : ∀ w ∈ u_ws RX1 TX1 8, w ∈ wsX1_poke := by decide +kernel
set_option maxRecDepth 100000 in
theorem mbX1_poke_1 : (.fieldLink RX1 12 "SoftMaps" "memory" "LSoftMaps$Memory;" : Cond) ∈ wsX1_poke := by decide +kernel
def s_X1_poke (M : Nat → Int32) (pl w : Int32) : Int32 × (Nat → Int32) :=
  if s_X1_isWordPlace pl = 0 then
    (0, M)
  else
    (1, m_put M pl w)
set_option maxHeartbeats 4000000 in
set_option maxRecDepth 100000 in
theorem c_X1_poke (l : Launch) (dC : Nat → ClassId) (dI : Nat → Nat → Nat) (sz : Nat) (h0 me sp : Nat) (cI : ClassId) (f : Nat → Int32) (fa fl fd cr lo so : Int32) (pg : Nat) (cP : ClassId) (g : Nat → Option Nat) (LP : List Nat) (r : Nat → Nat → Int32) (pl w : Int32) (hm : mok g LP) : Met l yX1_poke wsX1_poke ({ frames := 2, cells := 1, slots := 256, locals := 43 }) (va_Pc [.ref h0, .int pl, .int w] (fun U => U.heap.size = sz ∧ va_P (dC, dI) vwCl ([(h0, .inr (1, [.ref me, .ref sp, .int fa, .int fl, .int fd, .int cr, .int lo, .int so])), (sp, .inl (cI, 33, .inl f)), (me, .inr (0, [.ref pg])), (pg, .inl (cP, 64, .inr (.inr (.inr (.inr g)))))] ++ va_pl LP (prow cI r)) U.heap ∧ va_K (dC, dI) vwCl [(cI, .int), (cP, .array .int)] U ∧ va_D (fun _ => True) ([(h0, .inr (1, [.ref me, .ref sp, .int fa, .int fl, .int fd, .int cr, .int lo, .int so])), (sp, .inl (cI, 33, .inl f)), (me, .inr (0, [.ref pg])), (pg, .inl (cP, 64, .inr (.inr (.inr (.inr g)))))] ++ va_pl LP (prow cI r)) ∧ ag_O .int U)) (va_Qi (fun (a_ : Int32) (u : (Nat → Option Nat) × List Nat × (Nat → Nat → Int32)) => a_ = (s_X1_poke (mw g r) pl w).1 ∧ mok u.1 u.2.1 ∧ ∀ k, k < 16384 → mw u.1 u.2.2 k = (s_X1_poke (mw g r) pl w).2 k) (fun (u : (Nat → Option Nat) × List Nat × (Nat → Nat → Int32)) (t : State) => va_P (dC, dI) vwCl ([(h0, .inr (1, [.ref me, .ref sp, .int fa, .int fl, .int fd, .int cr, .int lo, .int so])), (sp, .inl (cI, 33, .inl f)), (me, .inr (0, [.ref pg])), (pg, .inl (cP, 64, .inr (.inr (.inr (.inr u.1)))))] ++ va_pl u.2.1 (prow cI u.2.2)) t.heap ∧ va_K (dC, dI) vwCl [(cI, .int), (cP, .array .int)] t ∧ va_D (va_A ([(h0, .inr (1, [.ref me, .ref sp, .int fa, .int fl, .int fd, .int cr, .int lo, .int so])), (sp, .inl (cI, 33, .inl f)), (me, .inr (0, [.ref pg])), (pg, .inl (cP, 64, .inr (.inr (.inr (.inr g)))))] ++ va_pl LP (prow cI r)) sz) ([(h0, .inr (1, [.ref me, .ref sp, .int fa, .int fl, .int fd, .int cr, .int lo, .int so])), (sp, .inl (cI, 33, .inl f)), (me, .inr (0, [.ref pg])), (pg, .inl (cP, 64, .inr (.inr (.inr (.inr u.1)))))] ++ va_pl u.2.1 (prow cI u.2.2))) (va_A ([(h0, .inr (1, [.ref me, .ref sp, .int fa, .int fl, .int fd, .int cr, .int lo, .int so])), (sp, .inl (cI, 33, .inl f)), (me, .inr (0, [.ref pg])), (pg, .inl (cP, 64, .inr (.inr (.inr (.inr g)))))] ++ va_pl LP (prow cI r)) sz)) 1 256 (va_A ([(h0, .inr (1, [.ref me, .ref sp, .int fa, .int fl, .int fd, .int cr, .int lo, .int so])), (sp, .inl (cI, 33, .inl f)), (me, .inr (0, [.ref pg])), (pg, .inl (cP, 64, .inr (.inr (.inr (.inr g)))))] ++ va_pl LP (prow cI r)) sz) := by
  refine Met.ofW (cc := cX1_poke) (maxL := 3) (ret := (some .boolean)) (by decide) rfl ?_
  intro p e s m args below meth c s₁ B hml hv
  obtain ⟨rfl, hsz, hP, hK, hD0, hZ⟩ := hv
  have hx := B.exec
  have hb := B.bytes
  have hr := B.returns
  have hts := atoms_spec (ws := wsX1_poke) B.pre
  have hown : s.vm.findClass RX1 = some m.cls := findClass_of_methodNamed B.named
  have hlocks := B.notSynchronized
  subst hsz
  have hD := hD0.self (sz := s.heap.size)
  generalize hAe : va_A ([(h0, .inr (1, [.ref me, .ref sp, .int fa, .int fl, .int fd, .int cr, .int lo, .int so])), (sp, .inl (cI, 33, .inl f)), (me, .inr (0, [.ref pg])), (pg, .inl (cP, 64, .inr (.inr (.inr (.inr g)))))] ++ va_pl LP (prow cI r)) s.heap.size = A at hD ⊢
  have hA : ∀ q : Nat, s.heap.size ≤ q → A q := fun q h => by rw [← hAe]; exact Or.inr h
  have hS : va_S A s.heap s.heap [] := va_S.rf
  have hP : va_P (dC, dI) vwCl ([(h0, .inr (1, [.ref me, .ref sp, .int fa, .int fl, .int fd, .int cr, .int lo, .int so])), (sp, .inl (cI, 33, .inl f)), (me, .inr (0, [.ref pg])), (pg, .inl (cP, 64, .inr (.inr (.inr (.inr g)))))] ++ va_pl LP (prow cI r)) s.heap := hP
  have hl := lv_entry ([.ref h0, .int pl, .int w]) (n := 3) (Nat.le_of_ble_eq_true rfl)
  rw [lg_entry_eq]
  generalize (lg_sl ([.ref h0, .int pl, .int w]) ++ List.replicate (3 - (lg_sl ([.ref h0, .int pl, .int w])).length) Slot.unset).toArray = ls at hl ⊢
  have hl : lv_has ls 3 [(0, .ref h0), (1, .int pl), (2, .int w)] := hl
  refine lv_iload_n hx hb dX1_poke_0 rfl (lv_at hl 1 rfl) ?_
  refine vp_callSi (va_Run.run (va_runS (As := [.int pl]) (rest := []) ⟨hx, hb, hml, hown, hts⟩ (c_X1_isWordPlace l pl) (va_cwS 1 hts gX1_poke_X1_isWordPlace rfl rfl rfl (by decide +kernel) ⟨Nat.le_of_ble_eq_true rfl, Nat.le_of_ble_eq_true rfl⟩) ⟨fun a U g mk q => q, fun U hU hW => ⟨rfl, trivial⟩⟩ rfl rfl hl.1 rfl (lv_room (Nat.le_of_ble_eq_true rfl)) dX1_poke_1 ⟨Nat.le_of_ble_eq_true rfl, Nat.le_of_ble_eq_true rfl⟩)) (fun r_1 hw_2 => ?_)
  subst hw_2
  refine lv_if_ne (tgt := 9) hx hb dX1_poke_4 (by decide) (fun c_3 => ?_) (fun c_3 => ?_)
  · skip
    refine lv_aload_n hx hb dX1_poke_9 rfl (lv_at hl 0 rfl) ?_
    refine va_get (D := (dC, dI)) (ci := 1) (v := .ref me) (C := RX1) (T := TX1) (N := 8) hx hb hts miX1_poke_X1 hown hK hP 0 rfl rfl 0 (by decide) (hts _ mbX1_poke_1) (fun _ h9 => h9) rfl dX1_poke_10 ?_
    refine lv_iload_n hx hb dX1_poke_13 rfl (lv_at hl 1 rfl) ?_
    refine lv_iload_n hx hb dX1_poke_14 rfl (lv_at hl 2 rfl) ?_
    have hPc := va_P.part (X := [(h0, .inr (1, [.ref me, .ref sp, .int fa, .int fl, .int fd, .int cr, .int lo, .int so])), (sp, .inl (cI, 33, .inl f)), (me, .inr (0, [.ref pg])), (pg, .inl (cP, 64, .inr (.inr (.inr (.inr g)))))]) (cx := [(me, .inr (0, [.ref pg])), (pg, .inl (cP, 64, .inr (.inr (.inr (.inr g)))))]) hP [2, 3] rfl
    have hDc := va_D.part (X := [(h0, .inr (1, [.ref me, .ref sp, .int fa, .int fl, .int fd, .int cr, .int lo, .int so])), (sp, .inl (cI, 33, .inl f)), (me, .inr (0, [.ref pg])), (pg, .inl (cP, 64, .inr (.inr (.inr (.inr g)))))]) (cx := [(me, .inr (0, [.ref pg])), (pg, .inl (cP, 64, .inr (.inr (.inr (.inr g)))))]) hD [2, 3] (by decide) rfl
    have hFc := va_freeP (X := [(h0, .inr (1, [.ref me, .ref sp, .int fa, .int fl, .int fd, .int cr, .int lo, .int so])), (sp, .inl (cI, 33, .inl f)), (me, .inr (0, [.ref pg])), (pg, .inl (cP, 64, .inr (.inr (.inr (.inr g)))))]) (cx := [(me, .inr (0, [.ref pg])), (pg, .inl (cP, 64, .inr (.inr (.inr (.inr g)))))]) hD hS hA [2, 3] rfl
    have hKc := hK.sub (tys' := [(cP, .array .int), (cI, .int)]) [1, 0] rfl
    refine va_callv (va_runV (As := [.int pl, .int w]) (rest := []) ⟨hx, hb, hml, hown, hts⟩ (c_X0_putWord l dC dI (s.heap.size) me pg cP cI g LP r pl w hm) (cwV 2 hts gX1_poke_X0_putWord rfl rfl rfl (by decide +kernel) ⟨Nat.le_of_ble_eq_true rfl, Nat.le_of_ble_eq_true rfl⟩) ⟨fun a U g mk q => by obtain ⟨q0, q1, qP, qK, qD, q7⟩ := q; exact ⟨q0, q1, qP, va_K.moved (u := U) (U := U.calling g mk a) (Vm.Alike.refl U.vm) qK, qD, ag_O.moved (Vm.Alike.refl U.vm) q7⟩, va_recv hKc hPc (ci := 0) (q0 := 0) rfl rfl, fun U hU hW => ⟨rfl, by rw [hU], by rw [hU]; exact hPc, va_K.moved hW.alike hKc, hDc.weaken (fun _ _ _ _ => trivial), hZ.moved hW.alike⟩⟩ rfl rfl hl.1 rfl (lv_room (Nat.le_of_ble_eq_true rfl)) dX1_poke_15 ⟨Nat.le_of_ble_eq_true rfl, Nat.le_of_ble_eq_true rfl⟩) hS (fun q _ h => hFc q h) hFc (fun u_6 t H1 locs ht hvm hw_5 hB hz1 hk1 hS => ?_)
    obtain ⟨g_7, LP_8, r_9⟩ := u_6
    obtain ⟨hm_10, hM_11⟩ := hw_5
    dsimp only at hm_10 hM_11
    obtain ⟨hP1, hK1, hD1⟩ := hB
    rw [ht] at hP1
    obtain ⟨hP, hD⟩ := va_joinP (X := [(h0, .inr (1, [.ref me, .ref sp, .int fa, .int fl, .int fd, .int cr, .int lo, .int so])), (sp, .inl (cI, 33, .inl f)), (me, .inr (0, [.ref pg])), (pg, .inl (cP, 64, .inr (.inr (.inr (.inr g)))))]) (cx := [(me, .inr (0, [.ref pg])), (pg, .inl (cP, 64, .inr (.inr (.inr (.inr g)))))]) (wr := [(h0, .inr (1, [.ref me, .ref sp, .int fa, .int fl, .int fd, .int cr, .int lo, .int so])), (sp, .inl (cI, 33, .inl f))]) (rx := [(me, .inr (0, [.ref pg])), (pg, .inl (cP, 64, .inr (.inr (.inr (.inr g_7)))))]) hP hD [2, 3] [0, 1] rfl rfl (by decide) (by decide) hk1 hFc hP1 hD1
    generalize H1 = H at hP hS ⊢
    have hP : va_P (dC, dI) vwCl ([(h0, .inr (1, [.ref me, .ref sp, .int fa, .int fl, .int fd, .int cr, .int lo, .int so])), (sp, .inl (cI, 33, .inl f)), (me, .inr (0, [.ref pg])), (pg, .inl (cP, 64, .inr (.inr (.inr (.inr g_7)))))] ++ va_pl LP_8 (prow cI r_9)) H := hP
    have hD : va_D A ([(h0, .inr (1, [.ref me, .ref sp, .int fa, .int fl, .int fd, .int cr, .int lo, .int so])), (sp, .inl (cI, 33, .inl f)), (me, .inr (0, [.ref pg])), (pg, .inl (cP, 64, .inr (.inr (.inr (.inr g_7)))))] ++ va_pl LP_8 (prow cI r_9)) := hD
    refine W.widen (k := 1) (n := 256) (by omega) (by omega) ?_
    refine lv_iconst (v := 1) hx hb dX1_poke_18 (by decide) ?_
    exact W.zret (v := 1) hx hb hr rfl (fun t ht hW => ⟨⟨1, (g_7, LP_8, r_9), rfl, ⟨by simp only [s_X1_poke, if_neg c_3], hm_10, fun k hk => by simp only [s_X1_poke, if_neg c_3]; exact hM_11 k hk⟩, by rw [ht]; exact hP, va_K.moved hW.alike hK, hD⟩, hS.F ht⟩) hS.2.2 dX1_poke_19
  · skip
    refine lv_iconst (v := 0) hx hb dX1_poke_7 (by decide) ?_
    refine W.widen (k := 1) (n := 256) (by omega) (by omega) ?_
    exact W.zret (v := 0) hx hb hr rfl (fun t ht hW => ⟨⟨0, (g, LP, r), rfl, ⟨by simp only [s_X1_poke, if_pos c_3], hm, fun k hk => by simp only [s_X1_poke, if_pos c_3]⟩, by rw [ht]; exact hP, va_K.moved hW.alike hK, hD⟩, hS.F ht⟩) hS.2.2 dX1_poke_8
set_option maxRecDepth 100000 in
theorem miX1_store_X1 : ∀ w ∈ u_ws RX1 TX1 8, w ∈ wsX1_store := by decide +kernel
set_option maxRecDepth 100000 in
theorem mbX1_store_1 : (.fieldLink RX1 49 "SoftMaps" "stores" "I" : Cond) ∈ wsX1_store := by decide +kernel
set_option maxRecDepth 100000 in
theorem mbX1_store_2 : (.fieldLink RX1 12 "SoftMaps" "memory" "LSoftMaps$Memory;" : Cond) ∈ wsX1_store := by decide +kernel
def s_X1_store (f M : Nat → Int32) (fa fl fd so : Int32) (v w wd : Int32) : Int32 × (Int32 × Int32 × Int32 × Int32) × (Nat → Int32) :=
  if 0 ≤ (s_X1_probe f fa fl fd v 2 wd).1 then
    if wd = 0 then
      ((s_X1_probe f fa fl fd v 2 wd).1, ((s_X1_probe f fa fl fd v 2 wd).2.1, (s_X1_probe f fa fl fd v 2 wd).2.2.1, (s_X1_probe f fa fl fd v 2 wd).2.2.2, so + 1), s_X0_putByte M ((s_X1_probe f fa fl fd v 2 wd).1) w)
    else
      ((s_X1_probe f fa fl fd v 2 wd).1, ((s_X1_probe f fa fl fd v 2 wd).2.1, (s_X1_probe f fa fl fd v 2 wd).2.2.1, (s_X1_probe f fa fl fd v 2 wd).2.2.2, so + 1), m_put M ((s_X1_probe f fa fl fd v 2 wd).1) w)
  else
    ((-1), ((s_X1_probe f fa fl fd v 2 wd).2.1, (s_X1_probe f fa fl fd v 2 wd).2.2.1, (s_X1_probe f fa fl fd v 2 wd).2.2.2, so), M)
set_option maxHeartbeats 4000000 in
set_option maxRecDepth 100000 in
theorem c_X1_store (l : Launch) (dC : Nat → ClassId) (dI : Nat → Nat → Nat) (sz : Nat) (h0 me sp : Nat) (cI : ClassId) (f : Nat → Int32) (fa fl fd cr lo so : Int32) (pg : Nat) (cP : ClassId) (g : Nat → Option Nat) (LP : List Nat) (r : Nat → Nat → Int32) (v w wd : Int32) (hm : mok g LP) : Met l yX1_store wsX1_store ({ frames := 4, cells := 1, slots := 256, locals := 90 }) (va_Pc [.ref h0, .int v, .int w, .int wd] (fun U => U.heap.size = sz ∧ va_P (dC, dI) vwCl ([(h0, .inr (1, [.ref me, .ref sp, .int fa, .int fl, .int fd, .int cr, .int lo, .int so])), (sp, .inl (cI, 33, .inl f)), (me, .inr (0, [.ref pg])), (pg, .inl (cP, 64, .inr (.inr (.inr (.inr g)))))] ++ va_pl LP (prow cI r)) U.heap ∧ va_K (dC, dI) vwCl [(cI, .int), (cP, .array .int)] U ∧ va_D (fun _ => True) ([(h0, .inr (1, [.ref me, .ref sp, .int fa, .int fl, .int fd, .int cr, .int lo, .int so])), (sp, .inl (cI, 33, .inl f)), (me, .inr (0, [.ref pg])), (pg, .inl (cP, 64, .inr (.inr (.inr (.inr g)))))] ++ va_pl LP (prow cI r)) ∧ ag_O .int U)) (va_Qi (fun (a_ : Int32) (u : (Int32 × Int32 × Int32 × Int32) × (Nat → Option Nat) × List Nat × (Nat → Nat → Int32)) => a_ = (s_X1_store f (mw g r) fa fl fd so v w wd).1 ∧ u.1 = (s_X1_store f (mw g r) fa fl fd so v w wd).2.1 ∧ mok u.2.1 u.2.2.1 ∧ ∀ k, k < 16384 → mw u.2.1 u.2.2.2 k = (s_X1_store f (mw g r) fa fl fd so v w wd).2.2 k) (fun (u : (Int32 × Int32 × Int32 × Int32) × (Nat → Option Nat) × List Nat × (Nat → Nat → Int32)) (t : State) => va_P (dC, dI) vwCl ([(h0, .inr (1, [.ref me, .ref sp, .int u.1.1, .int u.1.2.1, .int u.1.2.2.1, .int cr, .int lo, .int u.1.2.2.2])), (sp, .inl (cI, 33, .inl f)), (me, .inr (0, [.ref pg])), (pg, .inl (cP, 64, .inr (.inr (.inr (.inr u.2.1)))))] ++ va_pl u.2.2.1 (prow cI u.2.2.2)) t.heap ∧ va_K (dC, dI) vwCl [(cI, .int), (cP, .array .int)] t ∧ va_D (va_A ([(h0, .inr (1, [.ref me, .ref sp, .int fa, .int fl, .int fd, .int cr, .int lo, .int so])), (sp, .inl (cI, 33, .inl f)), (me, .inr (0, [.ref pg])), (pg, .inl (cP, 64, .inr (.inr (.inr (.inr g)))))] ++ va_pl LP (prow cI r)) sz) ([(h0, .inr (1, [.ref me, .ref sp, .int u.1.1, .int u.1.2.1, .int u.1.2.2.1, .int cr, .int lo, .int u.1.2.2.2])), (sp, .inl (cI, 33, .inl f)), (me, .inr (0, [.ref pg])), (pg, .inl (cP, 64, .inr (.inr (.inr (.inr u.2.1)))))] ++ va_pl u.2.2.1 (prow cI u.2.2.2))) (va_A ([(h0, .inr (1, [.ref me, .ref sp, .int fa, .int fl, .int fd, .int cr, .int lo, .int so])), (sp, .inl (cI, 33, .inl f)), (me, .inr (0, [.ref pg])), (pg, .inl (cP, 64, .inr (.inr (.inr (.inr g)))))] ++ va_pl LP (prow cI r)) sz)) 1 256 (va_A ([(h0, .inr (1, [.ref me, .ref sp, .int fa, .int fl, .int fd, .int cr, .int lo, .int so])), (sp, .inl (cI, 33, .inl f)), (me, .inr (0, [.ref pg])), (pg, .inl (cP, 64, .inr (.inr (.inr (.inr g)))))] ++ va_pl LP (prow cI r)) sz) := by
  refine Met.ofW (cc := cX1_store) (maxL := 5) (ret := (some .int)) (by decide) rfl ?_
  intro p e s m args below meth c s₁ B hml hv
  obtain ⟨rfl, hsz, hP, hK, hD0, hZ⟩ := hv
  have hx := B.exec
  have hb := B.bytes
  have hr := B.returns
  have hts := atoms_spec (ws := wsX1_store) B.pre
  have hown : s.vm.findClass RX1 = some m.cls := findClass_of_methodNamed B.named
  have hlocks := B.notSynchronized
  subst hsz
  have hD := hD0.self (sz := s.heap.size)
  generalize hAe : va_A ([(h0, .inr (1, [.ref me, .ref sp, .int fa, .int fl, .int fd, .int cr, .int lo, .int so])), (sp, .inl (cI, 33, .inl f)), (me, .inr (0, [.ref pg])), (pg, .inl (cP, 64, .inr (.inr (.inr (.inr g)))))] ++ va_pl LP (prow cI r)) s.heap.size = A at hD ⊢
  have hA : ∀ q : Nat, s.heap.size ≤ q → A q := fun q h => by rw [← hAe]; exact Or.inr h
  have hS : va_S A s.heap s.heap [] := va_S.rf
  have hP : va_P (dC, dI) vwCl ([(h0, .inr (1, [.ref me, .ref sp, .int fa, .int fl, .int fd, .int cr, .int lo, .int so])), (sp, .inl (cI, 33, .inl f)), (me, .inr (0, [.ref pg])), (pg, .inl (cP, 64, .inr (.inr (.inr (.inr g)))))] ++ va_pl LP (prow cI r)) s.heap := hP
  have hl := lv_entry ([.ref h0, .int v, .int w, .int wd]) (n := 5) (Nat.le_of_ble_eq_true rfl)
  rw [lg_entry_eq]
  generalize (lg_sl ([.ref h0, .int v, .int w, .int wd]) ++ List.replicate (5 - (lg_sl ([.ref h0, .int v, .int w, .int wd])).length) Slot.unset).toArray = ls at hl ⊢
  have hl : lv_has ls 5 [(0, .ref h0), (1, .int v), (2, .int w), (3, .int wd)] := hl
  refine lv_aload_n hx hb dX1_store_0 rfl (lv_at hl 0 rfl) ?_
  refine lv_iload_n hx hb dX1_store_1 rfl (lv_at hl 1 rfl) ?_
  refine lv_iconst (v := 2) hx hb dX1_store_2 (by decide) ?_
  refine lv_iload_n hx hb dX1_store_3 rfl (lv_at hl 3 rfl) ?_
  have hPc := hP.sub (ws' := [(h0, .inr (1, [.ref me, .ref sp, .int fa, .int fl, .int fd, .int cr, .int lo, .int so])), (sp, .inl (cI, 33, .inl f))]) [0, 1] rfl
  have hDc := hD.sub (ws' := [(h0, .inr (1, [.ref me, .ref sp, .int fa, .int fl, .int fd, .int cr, .int lo, .int so])), (sp, .inl (cI, 33, .inl f))]) [0, 1] (by decide) rfl
  have hFc := va_free (wc := [(h0, .inr (1, [.ref me, .ref sp, .int fa, .int fl, .int fd, .int cr, .int lo, .int so])), (sp, .inl (cI, 33, .inl f))]) hD hS hA [0, 1] rfl
  have hKc := hK.sub (tys' := [(cI, .int)]) [0] rfl
  refine va_calli (va_runV (As := [.int v, .int 2, .int wd]) (rest := []) ⟨hx, hb, hml, hown, hts⟩ (c_X1_probe l dC dI (s.heap.size) h0 me sp cI f fa fl fd cr lo so v 2 wd) (cwV 3 hts gX1_store_X1_probe rfl rfl rfl (by decide +kernel) ⟨Nat.le_of_ble_eq_true rfl, Nat.le_of_ble_eq_true rfl⟩) ⟨fun a U g mk q => by obtain ⟨q0, q1, qP, qK, qD⟩ := q; exact ⟨q0, q1, qP, va_K.moved (u := U) (U := U.calling g mk a) (Vm.Alike.refl U.vm) qK, qD⟩, va_recv hKc hPc (ci := 1) (q0 := 0) rfl rfl, fun U hU hW => ⟨rfl, by rw [hU], by rw [hU]; exact hPc, va_K.moved hW.alike hKc, hDc.weaken (fun _ _ _ _ => trivial)⟩⟩ rfl rfl hl.1 rfl (lv_room (Nat.le_of_ble_eq_true rfl)) dX1_store_4 ⟨Nat.le_of_ble_eq_true rfl, Nat.le_of_ble_eq_true rfl⟩) hS (fun q _ h => hFc q h) hFc (fun r_1 u_3 t H1 locs ht hvm hw_2 hB hz1 hk1 hS => ?_)
  have e1_ : r_1 = (s_X1_probe f fa fl fd v 2 wd).1 := congrArg Prod.fst hw_2
  have e2_ : u_3 = (s_X1_probe f fa fl fd v 2 wd).2 := congrArg Prod.snd hw_2
  subst e1_ e2_
  obtain ⟨hP1, hK1, hD1⟩ := hB
  rw [ht] at hP1
  obtain ⟨hP, hD⟩ := va_joinQ (X := [(h0, .inr (1, [.ref me, .ref sp, .int fa, .int fl, .int fd, .int cr, .int lo, .int so])), (sp, .inl (cI, 33, .inl f)), (me, .inr (0, [.ref pg])), (pg, .inl (cP, 64, .inr (.inr (.inr (.inr g)))))]) (cx := [(h0, .inr (1, [.ref me, .ref sp, .int fa, .int fl, .int fd, .int cr, .int lo, .int so])), (sp, .inl (cI, 33, .inl f))]) (wr := [(me, .inr (0, [.ref pg])), (pg, .inl (cP, 64, .inr (.inr (.inr (.inr g)))))]) (w1 := [(h0, .inr (1, [.ref me, .ref sp, .int ((s_X1_probe f fa fl fd v 2 wd).2.1), .int ((s_X1_probe f fa fl fd v 2 wd).2.2.1), .int ((s_X1_probe f fa fl fd v 2 wd).2.2.2), .int cr, .int lo, .int so])), (sp, .inl (cI, 33, .inl f))]) hP hD [0, 1] [2, 3] rfl rfl (by decide) (by decide) hk1 hFc hP1 hD1
  generalize H1 = H at hP hS ⊢
  have hP := va_P.part (X := [(me, .inr (0, [.ref pg])), (pg, .inl (cP, 64, .inr (.inr (.inr (.inr g))))), (h0, .inr (1, [.ref me, .ref sp, .int ((s_X1_probe f fa fl fd v 2 wd).2.1), .int ((s_X1_probe f fa fl fd v 2 wd).2.2.1), .int ((s_X1_probe f fa fl fd v 2 wd).2.2.2), .int cr, .int lo, .int so])), (sp, .inl (cI, 33, .inl f))]) (cx := [(h0, .inr (1, [.ref me, .ref sp, .int ((s_X1_probe f fa fl fd v 2 wd).2.1), .int ((s_X1_probe f fa fl fd v 2 wd).2.2.1), .int ((s_X1_probe f fa fl fd v 2 wd).2.2.2), .int cr, .int lo, .int so])), (sp, .inl (cI, 33, .inl f)), (me, .inr (0, [.ref pg])), (pg, .inl (cP, 64, .inr (.inr (.inr (.inr g)))))]) hP [2, 3, 0, 1] rfl
  have hD := va_D.part (X := [(me, .inr (0, [.ref pg])), (pg, .inl (cP, 64, .inr (.inr (.inr (.inr g))))), (h0, .inr (1, [.ref me, .ref sp, .int ((s_X1_probe f fa fl fd v 2 wd).2.1), .int ((s_X1_probe f fa fl fd v 2 wd).2.2.1), .int ((s_X1_probe f fa fl fd v 2 wd).2.2.2), .int cr, .int lo, .int so])), (sp, .inl (cI, 33, .inl f))]) (cx := [(h0, .inr (1, [.ref me, .ref sp, .int ((s_X1_probe f fa fl fd v 2 wd).2.1), .int ((s_X1_probe f fa fl fd v 2 wd).2.2.1), .int ((s_X1_probe f fa fl fd v 2 wd).2.2.2), .int cr, .int lo, .int so])), (sp, .inl (cI, 33, .inl f)), (me, .inr (0, [.ref pg])), (pg, .inl (cP, 64, .inr (.inr (.inr (.inr g)))))]) hD [2, 3, 0, 1] (by decide) rfl
  have hP : va_P (dC, dI) vwCl ([(h0, .inr (1, [.ref me, .ref sp, .int ((s_X1_probe f fa fl fd v 2 wd).2.1), .int ((s_X1_probe f fa fl fd v 2 wd).2.2.1), .int ((s_X1_probe f fa fl fd v 2 wd).2.2.2), .int cr, .int lo, .int so])), (sp, .inl (cI, 33, .inl f)), (me, .inr (0, [.ref pg])), (pg, .inl (cP, 64, .inr (.inr (.inr (.inr g)))))] ++ va_pl LP (prow cI r)) H := hP
  have hD : va_D A ([(h0, .inr (1, [.ref me, .ref sp, .int ((s_X1_probe f fa fl fd v 2 wd).2.1), .int ((s_X1_probe f fa fl fd v 2 wd).2.2.1), .int ((s_X1_probe f fa fl fd v 2 wd).2.2.2), .int cr, .int lo, .int so])), (sp, .inl (cI, 33, .inl f)), (me, .inr (0, [.ref pg])), (pg, .inl (cP, 64, .inr (.inr (.inr (.inr g)))))] ++ va_pl LP (prow cI r)) := hD
  refine lv_istore (lv' := [(4, .int ((s_X1_probe f fa fl fd v 2 wd).1)), (0, .ref h0), (1, .int v), (2, .int w), (3, .int wd)]) hx hb dX1_store_7 hl (by decide) rfl (fun ls hl => ?_)
  refine lv_iload hx hb dX1_store_9 (lv_at hl 0 rfl) ?_
  refine lv_if_ge (tgt := 16) hx hb dX1_store_11 (by decide) (fun c_4 => ?_) (fun c_4 => ?_)
  · skip
    refine lv_aload_n hx hb dX1_store_16 rfl (lv_at hl 1 rfl) ?_
    refine lv_dup hx hb dX1_store_17 rfl ?_
    refine va_get (D := (dC, dI)) (ci := 1) (v := .int so) (C := RX1) (T := TX1) (N := 8) hx hb hts miX1_store_X1 hown hK hP 0 rfl rfl 7 (by decide) (hts _ mbX1_store_1) (fun _ h9 => h9) rfl dX1_store_18 ?_
    refine lv_iconst (v := 1) hx hb dX1_store_21 (by decide) ?_
    refine lv_iadd hx hb dX1_store_22 ?_
    refine va_put (D := (dC, dI)) (ci := 1) (v := .int (so + 1)) (ty := tyX1 7) (C := RX1) (T := TX1) (N := 8) hx hb hts miX1_store_X1 tyX1 tyX1_ok nmX1 hown hK hP hD hS 0 rfl rfl 7 (by decide) (hts _ mbX1_store_1) (fun _ h9 => h9) rfl (by decide +kernel) rfl rfl (Nat.le_of_ble_eq_true rfl) dX1_store_23 (fun H locs hP hD hS => ?_)
    have hP : va_P (dC, dI) vwCl ([(h0, .inr (1, [.ref me, .ref sp, .int ((s_X1_probe f fa fl fd v 2 wd).2.1), .int ((s_X1_probe f fa fl fd v 2 wd).2.2.1), .int ((s_X1_probe f fa fl fd v 2 wd).2.2.2), .int cr, .int lo, .int (so + 1)])), (sp, .inl (cI, 33, .inl f)), (me, .inr (0, [.ref pg])), (pg, .inl (cP, 64, .inr (.inr (.inr (.inr g)))))] ++ va_pl LP (prow cI r)) H := hP
    have hD : va_D A ([(h0, .inr (1, [.ref me, .ref sp, .int ((s_X1_probe f fa fl fd v 2 wd).2.1), .int ((s_X1_probe f fa fl fd v 2 wd).2.2.1), .int ((s_X1_probe f fa fl fd v 2 wd).2.2.2), .int cr, .int lo, .int (so + 1)])), (sp, .inl (cI, 33, .inl f)), (me, .inr (0, [.ref pg])), (pg, .inl (cP, 64, .inr (.inr (.inr (.inr g)))))] ++ va_pl LP (prow cI r)) := hD
    refine lv_iload_n hx hb dX1_store_26 rfl (lv_at hl 4 rfl) ?_
    refine lv_if_eq (tgt := 43) hx hb dX1_store_27 (by decide) (fun c_5 => ?_) (fun c_5 => ?_)
    · skip
      refine lv_aload_n hx hb dX1_store_43 rfl (lv_at hl 1 rfl) ?_
      refine va_get (D := (dC, dI)) (ci := 1) (v := .ref me) (C := RX1) (T := TX1) (N := 8) hx hb hts miX1_store_X1 hown hK hP 0 rfl rfl 0 (by decide) (hts _ mbX1_store_2) (fun _ h9 => h9) rfl dX1_store_44 ?_
      refine lv_iload hx hb dX1_store_47 (lv_at hl 0 rfl) ?_
      refine lv_iload_n hx hb dX1_store_49 rfl (lv_at hl 3 rfl) ?_
      have hPc := va_P.part (X := [(h0, .inr (1, [.ref me, .ref sp, .int ((s_X1_probe f fa fl fd v 2 wd).2.1), .int ((s_X1_probe f fa fl fd v 2 wd).2.2.1), .int ((s_X1_probe f fa fl fd v 2 wd).2.2.2), .int cr, .int lo, .int (so + 1)])), (sp, .inl (cI, 33, .inl f)), (me, .inr (0, [.ref pg])), (pg, .inl (cP, 64, .inr (.inr (.inr (.inr g)))))]) (cx := [(me, .inr (0, [.ref pg])), (pg, .inl (cP, 64, .inr (.inr (.inr (.inr g)))))]) hP [2, 3] rfl
      have hDc := va_D.part (X := [(h0, .inr (1, [.ref me, .ref sp, .int ((s_X1_probe f fa fl fd v 2 wd).2.1), .int ((s_X1_probe f fa fl fd v 2 wd).2.2.1), .int ((s_X1_probe f fa fl fd v 2 wd).2.2.2), .int cr, .int lo, .int (so + 1)])), (sp, .inl (cI, 33, .inl f)), (me, .inr (0, [.ref pg])), (pg, .inl (cP, 64, .inr (.inr (.inr (.inr g)))))]) (cx := [(me, .inr (0, [.ref pg])), (pg, .inl (cP, 64, .inr (.inr (.inr (.inr g)))))]) hD [2, 3] (by decide) rfl
      have hFc := va_freeP (X := [(h0, .inr (1, [.ref me, .ref sp, .int ((s_X1_probe f fa fl fd v 2 wd).2.1), .int ((s_X1_probe f fa fl fd v 2 wd).2.2.1), .int ((s_X1_probe f fa fl fd v 2 wd).2.2.2), .int cr, .int lo, .int (so + 1)])), (sp, .inl (cI, 33, .inl f)), (me, .inr (0, [.ref pg])), (pg, .inl (cP, 64, .inr (.inr (.inr (.inr g)))))]) (cx := [(me, .inr (0, [.ref pg])), (pg, .inl (cP, 64, .inr (.inr (.inr (.inr g)))))]) hD hS hA [2, 3] rfl
      have hKc := hK.sub (tys' := [(cP, .array .int), (cI, .int)]) [1, 0] rfl
      refine va_callv (va_runV (As := [.int ((s_X1_probe f fa fl fd v 2 wd).1), .int w]) (rest := []) ⟨hx, hb, hml, hown, hts⟩ (c_X0_putByte l dC dI (H.size) me pg cP cI g LP r ((s_X1_probe f fa fl fd v 2 wd).1) w hm) (cwV 2 hts gX1_store_X0_putByte rfl rfl rfl (by decide +kernel) ⟨Nat.le_of_ble_eq_true rfl, Nat.le_of_ble_eq_true rfl⟩) ⟨fun a U g mk q => by obtain ⟨q0, q1, qP, qK, qD, q7⟩ := q; exact ⟨q0, q1, qP, va_K.moved (u := U) (U := U.calling g mk a) (Vm.Alike.refl U.vm) qK, qD, ag_O.moved (Vm.Alike.refl U.vm) q7⟩, va_recv hKc hPc (ci := 0) (q0 := 0) rfl rfl, fun U hU hW => ⟨rfl, by rw [hU], by rw [hU]; exact hPc, va_K.moved hW.alike hKc, hDc.weaken (fun _ _ _ _ => trivial), hZ.moved hW.alike⟩⟩ rfl rfl hl.1 rfl (lv_room (Nat.le_of_ble_eq_true rfl)) dX1_store_50 ⟨Nat.le_of_ble_eq_true rfl, Nat.le_of_ble_eq_true rfl⟩) hS (fun q _ h => hFc q h) hFc (fun u_8 t H1 locs ht hvm hw_7 hB hz1 hk1 hS => ?_)
      obtain ⟨g_9, LP_10, r_11⟩ := u_8
      obtain ⟨hm_12, hM_13⟩ := hw_7
      dsimp only at hm_12 hM_13
      obtain ⟨hP1, hK1, hD1⟩ := hB
      rw [ht] at hP1
      obtain ⟨hP, hD⟩ := va_joinP (X := [(h0, .inr (1, [.ref me, .ref sp, .int ((s_X1_probe f fa fl fd v 2 wd).2.1), .int ((s_X1_probe f fa fl fd v 2 wd).2.2.1), .int ((s_X1_probe f fa fl fd v 2 wd).2.2.2), .int cr, .int lo, .int (so + 1)])), (sp, .inl (cI, 33, .inl f)), (me, .inr (0, [.ref pg])), (pg, .inl (cP, 64, .inr (.inr (.inr (.inr g)))))]) (cx := [(me, .inr (0, [.ref pg])), (pg, .inl (cP, 64, .inr (.inr (.inr (.inr g)))))]) (wr := [(h0, .inr (1, [.ref me, .ref sp, .int ((s_X1_probe f fa fl fd v 2 wd).2.1), .int ((s_X1_probe f fa fl fd v 2 wd).2.2.1), .int ((s_X1_probe f fa fl fd v 2 wd).2.2.2), .int cr, .int lo, .int (so + 1)])), (sp, .inl (cI, 33, .inl f))]) (rx := [(me, .inr (0, [.ref pg])), (pg, .inl (cP, 64, .inr (.inr (.inr (.inr g_9)))))]) hP hD [2, 3] [0, 1] rfl rfl (by decide) (by decide) hk1 hFc hP1 hD1
      generalize H1 = H at hP hS ⊢
      have hP : va_P (dC, dI) vwCl ([(h0, .inr (1, [.ref me, .ref sp, .int ((s_X1_probe f fa fl fd v 2 wd).2.1), .int ((s_X1_probe f fa fl fd v 2 wd).2.2.1), .int ((s_X1_probe f fa fl fd v 2 wd).2.2.2), .int cr, .int lo, .int (so + 1)])), (sp, .inl (cI, 33, .inl f)), (me, .inr (0, [.ref pg])), (pg, .inl (cP, 64, .inr (.inr (.inr (.inr g_9)))))] ++ va_pl LP_10 (prow cI r_11)) H := hP
      have hD : va_D A ([(h0, .inr (1, [.ref me, .ref sp, .int ((s_X1_probe f fa fl fd v 2 wd).2.1), .int ((s_X1_probe f fa fl fd v 2 wd).2.2.1), .int ((s_X1_probe f fa fl fd v 2 wd).2.2.2), .int cr, .int lo, .int (so + 1)])), (sp, .inl (cI, 33, .inl f)), (me, .inr (0, [.ref pg])), (pg, .inl (cP, 64, .inr (.inr (.inr (.inr g_9)))))] ++ va_pl LP_10 (prow cI r_11)) := hD
      refine W.widen (k := 1) (n := 256) (by omega) (by omega) ?_
      refine lv_iload hx hb dX1_store_53 (lv_at hl 0 rfl) ?_
      exact W.iret (v := (s_X1_probe f fa fl fd v 2 wd).1) hx hb hr (fun t ht hW => ⟨⟨(s_X1_probe f fa fl fd v 2 wd).1, (((s_X1_probe f fa fl fd v 2 wd).2.1, (s_X1_probe f fa fl fd v 2 wd).2.2.1, (s_X1_probe f fa fl fd v 2 wd).2.2.2, so + 1), g_9, LP_10, r_11), rfl, ⟨by simp only [s_X1_store, if_pos c_4, if_pos c_5], by simp only [s_X1_store, if_pos c_4, if_pos c_5], hm_12, fun k hk => by simp only [s_X1_store, if_pos c_4, if_pos c_5]; exact hM_13 k hk⟩, by rw [ht]; exact hP, va_K.moved hW.alike hK, hD⟩, hS.F ht⟩) hS.2.2 dX1_store_55
    · skip
      refine lv_aload_n hx hb dX1_store_30 rfl (lv_at hl 1 rfl) ?_
      refine va_get (D := (dC, dI)) (ci := 1) (v := .ref me) (C := RX1) (T := TX1) (N := 8) hx hb hts miX1_store_X1 hown hK hP 0 rfl rfl 0 (by decide) (hts _ mbX1_store_2) (fun _ h9 => h9) rfl dX1_store_31 ?_
      refine lv_iload hx hb dX1_store_34 (lv_at hl 0 rfl) ?_
      refine lv_iload_n hx hb dX1_store_36 rfl (lv_at hl 3 rfl) ?_
      have hPc := va_P.part (X := [(h0, .inr (1, [.ref me, .ref sp, .int ((s_X1_probe f fa fl fd v 2 wd).2.1), .int ((s_X1_probe f fa fl fd v 2 wd).2.2.1), .int ((s_X1_probe f fa fl fd v 2 wd).2.2.2), .int cr, .int lo, .int (so + 1)])), (sp, .inl (cI, 33, .inl f)), (me, .inr (0, [.ref pg])), (pg, .inl (cP, 64, .inr (.inr (.inr (.inr g)))))]) (cx := [(me, .inr (0, [.ref pg])), (pg, .inl (cP, 64, .inr (.inr (.inr (.inr g)))))]) hP [2, 3] rfl
      have hDc := va_D.part (X := [(h0, .inr (1, [.ref me, .ref sp, .int ((s_X1_probe f fa fl fd v 2 wd).2.1), .int ((s_X1_probe f fa fl fd v 2 wd).2.2.1), .int ((s_X1_probe f fa fl fd v 2 wd).2.2.2), .int cr, .int lo, .int (so + 1)])), (sp, .inl (cI, 33, .inl f)), (me, .inr (0, [.ref pg])), (pg, .inl (cP, 64, .inr (.inr (.inr (.inr g)))))]) (cx := [(me, .inr (0, [.ref pg])), (pg, .inl (cP, 64, .inr (.inr (.inr (.inr g)))))]) hD [2, 3] (by decide) rfl
      have hFc := va_freeP (X := [(h0, .inr (1, [.ref me, .ref sp, .int ((s_X1_probe f fa fl fd v 2 wd).2.1), .int ((s_X1_probe f fa fl fd v 2 wd).2.2.1), .int ((s_X1_probe f fa fl fd v 2 wd).2.2.2), .int cr, .int lo, .int (so + 1)])), (sp, .inl (cI, 33, .inl f)), (me, .inr (0, [.ref pg])), (pg, .inl (cP, 64, .inr (.inr (.inr (.inr g)))))]) (cx := [(me, .inr (0, [.ref pg])), (pg, .inl (cP, 64, .inr (.inr (.inr (.inr g)))))]) hD hS hA [2, 3] rfl
      have hKc := hK.sub (tys' := [(cP, .array .int), (cI, .int)]) [1, 0] rfl
      refine va_callv (va_runV (As := [.int ((s_X1_probe f fa fl fd v 2 wd).1), .int w]) (rest := []) ⟨hx, hb, hml, hown, hts⟩ (c_X0_putWord l dC dI (H.size) me pg cP cI g LP r ((s_X1_probe f fa fl fd v 2 wd).1) w hm) (cwV 2 hts gX1_store_X0_putWord rfl rfl rfl (by decide +kernel) ⟨Nat.le_of_ble_eq_true rfl, Nat.le_of_ble_eq_true rfl⟩) ⟨fun a U g mk q => by obtain ⟨q0, q1, qP, qK, qD, q7⟩ := q; exact ⟨q0, q1, qP, va_K.moved (u := U) (U := U.calling g mk a) (Vm.Alike.refl U.vm) qK, qD, ag_O.moved (Vm.Alike.refl U.vm) q7⟩, va_recv hKc hPc (ci := 0) (q0 := 0) rfl rfl, fun U hU hW => ⟨rfl, by rw [hU], by rw [hU]; exact hPc, va_K.moved hW.alike hKc, hDc.weaken (fun _ _ _ _ => trivial), hZ.moved hW.alike⟩⟩ rfl rfl hl.1 rfl (lv_room (Nat.le_of_ble_eq_true rfl)) dX1_store_37 ⟨Nat.le_of_ble_eq_true rfl, Nat.le_of_ble_eq_true rfl⟩) hS (fun q _ h => hFc q h) hFc (fun u_16 t H1 locs ht hvm hw_15 hB hz1 hk1 hS => ?_)
      obtain ⟨g_17, LP_18, r_19⟩ := u_16
      obtain ⟨hm_20, hM_21⟩ := hw_15
      dsimp only at hm_20 hM_21
      obtain ⟨hP1, hK1, hD1⟩ := hB
      rw [ht] at hP1
      obtain ⟨hP, hD⟩ := va_joinP (X := [(h0, .inr (1, [.ref me, .ref sp, .int ((s_X1_probe f fa fl fd v 2 wd).2.1), .int ((s_X1_probe f fa fl fd v 2 wd).2.2.1), .int ((s_X1_probe f fa fl fd v 2 wd).2.2.2), .int cr, .int lo, .int (so + 1)])), (sp, .inl (cI, 33, .inl f)), (me, .inr (0, [.ref pg])), (pg, .inl (cP, 64, .inr (.inr (.inr (.inr g)))))]) (cx := [(me, .inr (0, [.ref pg])), (pg, .inl (cP, 64, .inr (.inr (.inr (.inr g)))))]) (wr := [(h0, .inr (1, [.ref me, .ref sp, .int ((s_X1_probe f fa fl fd v 2 wd).2.1), .int ((s_X1_probe f fa fl fd v 2 wd).2.2.1), .int ((s_X1_probe f fa fl fd v 2 wd).2.2.2), .int cr, .int lo, .int (so + 1)])), (sp, .inl (cI, 33, .inl f))]) (rx := [(me, .inr (0, [.ref pg])), (pg, .inl (cP, 64, .inr (.inr (.inr (.inr g_17)))))]) hP hD [2, 3] [0, 1] rfl rfl (by decide) (by decide) hk1 hFc hP1 hD1
      generalize H1 = H at hP hS ⊢
      have hP : va_P (dC, dI) vwCl ([(h0, .inr (1, [.ref me, .ref sp, .int ((s_X1_probe f fa fl fd v 2 wd).2.1), .int ((s_X1_probe f fa fl fd v 2 wd).2.2.1), .int ((s_X1_probe f fa fl fd v 2 wd).2.2.2), .int cr, .int lo, .int (so + 1)])), (sp, .inl (cI, 33, .inl f)), (me, .inr (0, [.ref pg])), (pg, .inl (cP, 64, .inr (.inr (.inr (.inr g_17)))))] ++ va_pl LP_18 (prow cI r_19)) H := hP
      have hD : va_D A ([(h0, .inr (1, [.ref me, .ref sp, .int ((s_X1_probe f fa fl fd v 2 wd).2.1), .int ((s_X1_probe f fa fl fd v 2 wd).2.2.1), .int ((s_X1_probe f fa fl fd v 2 wd).2.2.2), .int cr, .int lo, .int (so + 1)])), (sp, .inl (cI, 33, .inl f)), (me, .inr (0, [.ref pg])), (pg, .inl (cP, 64, .inr (.inr (.inr (.inr g_17)))))] ++ va_pl LP_18 (prow cI r_19)) := hD
      refine W.widen (k := 1) (n := 256) (by omega) (by omega) ?_
      refine lv_goto (tgt := 53) hx hb dX1_store_40 (by decide) ?_
      refine lv_iload hx hb dX1_store_53 (lv_at hl 0 rfl) ?_
      exact W.iret (v := (s_X1_probe f fa fl fd v 2 wd).1) hx hb hr (fun t ht hW => ⟨⟨(s_X1_probe f fa fl fd v 2 wd).1, (((s_X1_probe f fa fl fd v 2 wd).2.1, (s_X1_probe f fa fl fd v 2 wd).2.2.1, (s_X1_probe f fa fl fd v 2 wd).2.2.2, so + 1), g_17, LP_18, r_19), rfl, ⟨by simp only [s_X1_store, if_pos c_4, if_neg c_5], by simp only [s_X1_store, if_pos c_4, if_neg c_5], hm_20, fun k hk => by simp only [s_X1_store, if_pos c_4, if_neg c_5]; exact hM_21 k hk⟩, by rw [ht]; exact hP, va_K.moved hW.alike hK, hD⟩, hS.F ht⟩) hS.2.2 dX1_store_55
  · skip
    refine lv_iconst (v := (-1)) hx hb dX1_store_14 (by decide) ?_
    refine W.widen (k := 1) (n := 256) (by omega) (by omega) ?_
    exact W.iret (v := (-1)) hx hb hr (fun t ht hW => ⟨⟨(-1), (((s_X1_probe f fa fl fd v 2 wd).2.1, (s_X1_probe f fa fl fd v 2 wd).2.2.1, (s_X1_probe f fa fl fd v 2 wd).2.2.2, so), g, LP, r), rfl, ⟨by simp only [s_X1_store, if_neg c_4], by simp only [s_X1_store, if_neg c_4], hm, fun k hk => by simp only [s_X1_store, if_neg c_4]⟩, by rw [ht]; exact hP, va_K.moved hW.alike hK, hD⟩, hS.F ht⟩) hS.2.2 dX1_store_15
end
section
/-- a place with three behind it in the memory -/
def pin4 (p : Int32) : Prop := ∃ n : Nat, n + 4 ≤ 65536 ∧ p = nI n
theorem in4 {p : Int32} (h : pin4 p) (k : Nat) (hk : k < 4) : vp_in (p + nI k) 65536 := by
  obtain ⟨n, hn, rfl⟩ := h
  exact pk_in (n + k) 65536 (by omega) (nI_add n k)
theorem in4_0 {p : Int32} (h : pin4 p) : vp_in (p + 0) 65536 := in4 h 0 (by decide)
theorem in4_1 {p : Int32} (h : pin4 p) : vp_in (p + 1) 65536 := in4 h 1 (by decide)
theorem in4_2 {p : Int32} (h : pin4 p) : vp_in (p + 2) 65536 := in4 h 2 (by decide)
theorem in4_3 {p : Int32} (h : pin4 p) : vp_in (p + 3) 65536 := in4 h 3 (by decide)
theorem pin4_of {p : Int32} {n : Nat} (hn : n < 65536) (h4 : n % 4 = 0) (e : p = nI n) : pin4 p := ⟨n, by omega, e⟩
set_option maxRecDepth 100000 in
theorem mbM_isWordPlace_0 : (.constant RX2 7 (65536) : Cond) ∈ wsM_isWordPlace := by decide +kernel
def s_M_isWordPlace (pp : Int32) : Int32 :=
  if pp < 0 then
    0
  else
    if 65536 ≤ pp then
      0
    else
      if pp - pp / 4 * 4 = 0 then
        1
      else
        0
set_option maxHeartbeats 4000000 in
set_option maxRecDepth 100000 in
theorem c_M_isWordPlace (l : Launch) (pp : Int32)  : Met l yM_isWordPlace wsM_isWordPlace ({ frames := 0, cells := 0, slots := 0, locals := 0 }) (va_Pc [.int pp] (fun U => True)) (vp_Si (fun x_ => x_ = s_M_isWordPlace pp)) 0 0 (fun _ => False) := by
  refine Met.ofW (cc := cM_isWordPlace) (maxL := 1) (ret := (some .boolean)) (by decide) rfl ?_
  intro p e s m args below meth c s₁ B hml hv
  obtain ⟨rfl, -⟩ := hv
  have hx := B.exec
  have hb := B.bytes
  have hr := B.returns
  have hts := atoms_spec (ws := wsM_isWordPlace) B.pre
  have hown : s.vm.findClass RX2 = some m.cls := findClass_of_methodNamed B.named
  have hlocks := B.notSynchronized
  have hl := lv_entry ([.int pp]) (n := 1) (Nat.le_of_ble_eq_true rfl)
  rw [lg_entry_eq]
  generalize (lg_sl ([.int pp]) ++ List.replicate (1 - (lg_sl ([.int pp])).length) Slot.unset).toArray = ls at hl ⊢
  have hl : lv_has ls 1 [(0, .int pp)] := hl
  refine lv_iload_n hx hb dM_isWordPlace_0 rfl (lv_at hl 0 rfl) ?_
  refine lv_if_lt (tgt := 20) hx hb dM_isWordPlace_1 (by decide) (fun c_1 => ?_) (fun c_1 => ?_)
  · skip
    refine lv_iconst (v := 0) hx hb dM_isWordPlace_20 (by decide) ?_
    exact W.zret (v := 0) hx hb hr rfl (fun t ht hW => ⟨0, rfl, by simp only [s_M_isWordPlace, if_pos c_1], ht⟩) (fun q h => by cases h) dM_isWordPlace_21
  · skip
    refine lv_iload_n hx hb dM_isWordPlace_4 rfl (lv_at hl 0 rfl) ?_
    refine lv_ldc (v := 65536) hx hb hown (hts _ mbM_isWordPlace_0) dM_isWordPlace_5 ?_
    refine lv_icmp_ge (tgt := 20) hx hb dM_isWordPlace_7 (by decide) (fun c_2 => ?_) (fun c_2 => ?_)
    · skip
      refine lv_iconst (v := 0) hx hb dM_isWordPlace_20 (by decide) ?_
      exact W.zret (v := 0) hx hb hr rfl (fun t ht hW => ⟨0, rfl, by simp only [s_M_isWordPlace, if_neg c_1, if_pos c_2], ht⟩) (fun q h => by cases h) dM_isWordPlace_21
    · skip
      refine lv_iload_n hx hb dM_isWordPlace_10 rfl (lv_at hl 0 rfl) ?_
      refine lv_iconst (v := 4) hx hb dM_isWordPlace_11 (by decide) ?_
      refine lv_irem hx hb dM_isWordPlace_12 (by decide) ?_
      refine lv_if_ne (tgt := 20) hx hb dM_isWordPlace_13 (by decide) (fun c_3 => ?_) (fun c_3 => ?_)
      · skip
        refine lv_iconst (v := 0) hx hb dM_isWordPlace_20 (by decide) ?_
        exact W.zret (v := 0) hx hb hr rfl (fun t ht hW => ⟨0, rfl, by simp only [s_M_isWordPlace, if_neg c_1, if_neg c_2, if_neg c_3], ht⟩) (fun q h => by cases h) dM_isWordPlace_21
      · skip
        refine lv_iconst (v := 1) hx hb dM_isWordPlace_16 (by decide) ?_
        refine lv_goto (tgt := 21) hx hb dM_isWordPlace_17 (by decide) ?_
        exact W.zret (v := 1) hx hb hr rfl (fun t ht hW => ⟨1, rfl, by simp only [s_M_isWordPlace, if_neg c_1, if_neg c_2, if_pos c_3], ht⟩) (fun q h => by cases h) dM_isWordPlace_21
theorem z_M_isWordPlace (pp : Int32) : s_M_isWordPlace pp = 0 ∨ s_M_isWordPlace pp = 1 := by
  unfold s_M_isWordPlace
  (repeat' split) <;> first | exact Or.inl rfl | exact Or.inr rfl | skip
set_option maxRecDepth 100000 in
theorem miM_wordIn_X2 : ∀ w ∈ u_ws RX2 TX2 10, w ∈ wsM_wordIn := by decide +kernel
set_option maxRecDepth 100000 in
theorem mbM_wordIn_1 : (.fieldLink RX2 8 "SoftMapsModel" "bytes" "[I" : Cond) ∈ wsM_wordIn := by decide +kernel
def s_M_wordIn (y : Nat → Int32) (pp : Int32) : Int32 :=
  (((((((0 * 256) + (y (pp + 0).toNatClampNeg)) * 256) + (y (pp + 1).toNatClampNeg)) * 256) + (y (pp + 2).toNatClampNeg)) * 256) + (y (pp + 3).toNatClampNeg)
set_option maxHeartbeats 4000000 in
set_option maxRecDepth 100000 in
theorem c_M_wordIn (l : Launch) (dC : Nat → ClassId) (dI : Nat → Nat → Nat) (k0 yb zb : Nat) (cI : ClassId) (y z : Nat → Int32) (th a1 a2 a3 a4 a5 a6 fo : Int32) (pp : Int32) (hp : pin4 pp) : Met l yM_wordIn wsM_wordIn ({ frames := 0, cells := 0, slots := 0, locals := 0 }) (va_Pc [.ref k0, .int pp] (fun U => va_P (dC, dI) vwCl [(k0, .inr (2, [.int th, .ref yb, .ref zb, .int a1, .int a2, .int a3, .int a4, .int a5, .int a6, .int fo])), (yb, .inl (cI, 65536, .inl y)), (zb, .inl (cI, 33, .inl z))] U.heap ∧ va_K (dC, dI) vwCl [(cI, .int)] U)) (vp_Si (fun x_ => x_ = s_M_wordIn y pp)) 0 0 (fun _ => False) := by
  refine Met.ofW (cc := cM_wordIn) (maxL := 4) (ret := (some .int)) (by decide) rfl ?_
  intro p e s m args below meth c s₁ B hml hv
  obtain ⟨rfl, hP, hK⟩ := hv
  have hx := B.exec
  have hb := B.bytes
  have hr := B.returns
  have hts := atoms_spec (ws := wsM_wordIn) B.pre
  have hown : s.vm.findClass RX2 = some m.cls := findClass_of_methodNamed B.named
  have hlocks := B.notSynchronized
  have hl := lv_entry ([.ref k0, .int pp]) (n := 4) (Nat.le_of_ble_eq_true rfl)
  rw [lg_entry_eq]
  generalize (lg_sl ([.ref k0, .int pp]) ++ List.replicate (4 - (lg_sl ([.ref k0, .int pp])).length) Slot.unset).toArray = ls at hl ⊢
  have hl : lv_has ls 4 [(0, .ref k0), (1, .int pp)] := hl
  have hP : va_P (dC, dI) vwCl [(k0, .inr (2, [.int th, .ref yb, .ref zb, .int a1, .int a2, .int a3, .int a4, .int a5, .int a6, .int fo])), (yb, .inl (cI, 65536, .inl y)), (zb, .inl (cI, 33, .inl z))] s.heap := hP
  refine lv_iconst (v := 0) hx hb dM_wordIn_0 (by decide) ?_
  refine lv_istore_n (lv' := [(2, .int 0), (0, .ref k0), (1, .int pp)]) hx hb dM_wordIn_1 rfl hl (by decide) rfl (fun ls hl => ?_)
  refine lv_iconst (v := 0) hx hb dM_wordIn_2 (by decide) ?_
  refine lv_istore_n (lv' := [(3, .int 0), (2, .int 0), (0, .ref k0), (1, .int pp)]) hx hb dM_wordIn_3 rfl hl (by decide) rfl (fun ls hl => ?_)
  refine lv_iload_n hx hb dM_wordIn_4 rfl (lv_at hl 0 rfl) ?_
  refine lv_iconst (v := 4) hx hb dM_wordIn_5 (by decide) ?_
  refine lv_icmp_ge (tgt := 30) hx hb dM_wordIn_6 (by decide) (fun c_1 => ?_) (fun c_1 => ?_)
  · exact absurd c_1 (by decide)
  · skip
    refine lv_iload_n hx hb dM_wordIn_9 rfl (lv_at hl 1 rfl) ?_
    refine lv_sipush (v := 256) hx hb dM_wordIn_10 (by decide) ?_
    refine lv_imul hx hb dM_wordIn_13 ?_
    refine lv_aload_n hx hb dM_wordIn_14 rfl (lv_at hl 2 rfl) ?_
    refine va_get (D := (dC, dI)) (ci := 2) (v := .ref yb) (C := RX2) (T := TX2) (N := 10) hx hb hts miM_wordIn_X2 hown hK hP 0 rfl rfl 1 (by decide) (hts _ mbM_wordIn_1) (fun _ h9 => h9) rfl dM_wordIn_15 ?_
    refine lv_iload_n hx hb dM_wordIn_18 rfl (lv_at hl 3 rfl) ?_
    refine lv_iload_n hx hb dM_wordIn_19 rfl (lv_at hl 0 rfl) ?_
    refine lv_iadd hx hb dM_wordIn_20 ?_
    refine va_iald hx hb hK hP 1 0 rfl rfl (in4_0 hp) dM_wordIn_21 ?_
    refine lv_iadd hx hb dM_wordIn_22 ?_
    refine lv_istore_n (lv' := [(2, .int ((0 * 256) + (y (pp + 0).toNatClampNeg))), (3, .int 0), (0, .ref k0), (1, .int pp)]) hx hb dM_wordIn_23 rfl hl (by decide) rfl (fun ls hl => ?_)
    refine lv_iinc (v := 1) (lv' := [(3, .int 1), (2, .int ((0 * 256) + (y (pp + 0).toNatClampNeg))), (0, .ref k0), (1, .int pp)]) hx hb dM_wordIn_24 hl (k := 1) rfl rfl (by decide) rfl (fun ls hl => ?_)
    refine lv_goto (tgt := 4) hx hb dM_wordIn_27 (by decide) ?_
    refine lv_iload_n hx hb dM_wordIn_4 rfl (lv_at hl 0 rfl) ?_
    refine lv_iconst (v := 4) hx hb dM_wordIn_5 (by decide) ?_
    refine lv_icmp_ge (tgt := 30) hx hb dM_wordIn_6 (by decide) (fun c_2 => ?_) (fun c_2 => ?_)
    · exact absurd c_2 (by decide)
    · skip
      refine lv_iload_n hx hb dM_wordIn_9 rfl (lv_at hl 1 rfl) ?_
      refine lv_sipush (v := 256) hx hb dM_wordIn_10 (by decide) ?_
      refine lv_imul hx hb dM_wordIn_13 ?_
      refine lv_aload_n hx hb dM_wordIn_14 rfl (lv_at hl 2 rfl) ?_
      refine va_get (D := (dC, dI)) (ci := 2) (v := .ref yb) (C := RX2) (T := TX2) (N := 10) hx hb hts miM_wordIn_X2 hown hK hP 0 rfl rfl 1 (by decide) (hts _ mbM_wordIn_1) (fun _ h9 => h9) rfl dM_wordIn_15 ?_
      refine lv_iload_n hx hb dM_wordIn_18 rfl (lv_at hl 3 rfl) ?_
      refine lv_iload_n hx hb dM_wordIn_19 rfl (lv_at hl 0 rfl) ?_
      refine lv_iadd hx hb dM_wordIn_20 ?_
      refine va_iald hx hb hK hP 1 0 rfl rfl (in4_1 hp) dM_wordIn_21 ?_
      refine lv_iadd hx hb dM_wordIn_22 ?_
      refine lv_istore_n (lv' := [(2, .int ((((0 * 256) + (y (pp + 0).toNatClampNeg)) * 256) + (y (pp + 1).toNatClampNeg))), (3, .int 1), (0, .ref k0), (1, .int pp)]) hx hb dM_wordIn_23 rfl hl (by decide) rfl (fun ls hl => ?_)
      refine lv_iinc (v := 2) (lv' := [(3, .int 2), (2, .int ((((0 * 256) + (y (pp + 0).toNatClampNeg)) * 256) + (y (pp + 1).toNatClampNeg))), (0, .ref k0), (1, .int pp)]) hx hb dM_wordIn_24 hl (k := 1) rfl rfl (by decide) rfl (fun ls hl => ?_)
      refine lv_goto (tgt := 4) hx hb dM_wordIn_27 (by decide) ?_
      refine lv_iload_n hx hb dM_wordIn_4 rfl (lv_at hl 0 rfl) ?_
      refine lv_iconst (v := 4) hx hb dM_wordIn_5 (by decide) ?_
      refine lv_icmp_ge (tgt := 30) hx hb dM_wordIn_6 (by decide) (fun c_3 => ?_) (fun c_3 => ?_)
      · exact absurd c_3 (by decide)
      · skip
        refine lv_iload_n hx hb dM_wordIn_9 rfl (lv_at hl 1 rfl) ?_
        refine lv_sipush (v := 256) hx hb dM_wordIn_10 (by decide) ?_
        refine lv_imul hx hb dM_wordIn_13 ?_
        refine lv_aload_n hx hb dM_wordIn_14 rfl (lv_at hl 2 rfl) ?_
        refine va_get (D := (dC, dI)) (ci := 2) (v := .ref yb) (C := RX2) (T := TX2) (N := 10) hx hb hts miM_wordIn_X2 hown hK hP 0 rfl rfl 1 (by decide) (hts _ mbM_wordIn_1) (fun _ h9 => h9) rfl dM_wordIn_15 ?_
        refine lv_iload_n hx hb dM_wordIn_18 rfl (lv_at hl 3 rfl) ?_
        refine lv_iload_n hx hb dM_wordIn_19 rfl (lv_at hl 0 rfl) ?_
        refine lv_iadd hx hb dM_wordIn_20 ?_
        refine va_iald hx hb hK hP 1 0 rfl rfl (in4_2 hp) dM_wordIn_21 ?_
        refine lv_iadd hx hb dM_wordIn_22 ?_
        refine lv_istore_n (lv' := [(2, .int ((((((0 * 256) + (y (pp + 0).toNatClampNeg)) * 256) + (y (pp + 1).toNatClampNeg)) * 256) + (y (pp + 2).toNatClampNeg))), (3, .int 2), (0, .ref k0), (1, .int pp)]) hx hb dM_wordIn_23 rfl hl (by decide) rfl (fun ls hl => ?_)
        refine lv_iinc (v := 3) (lv' := [(3, .int 3), (2, .int ((((((0 * 256) + (y (pp + 0).toNatClampNeg)) * 256) + (y (pp + 1).toNatClampNeg)) * 256) + (y (pp + 2).toNatClampNeg))), (0, .ref k0), (1, .int pp)]) hx hb dM_wordIn_24 hl (k := 1) rfl rfl (by decide) rfl (fun ls hl => ?_)
        refine lv_goto (tgt := 4) hx hb dM_wordIn_27 (by decide) ?_
        refine lv_iload_n hx hb dM_wordIn_4 rfl (lv_at hl 0 rfl) ?_
        refine lv_iconst (v := 4) hx hb dM_wordIn_5 (by decide) ?_
        refine lv_icmp_ge (tgt := 30) hx hb dM_wordIn_6 (by decide) (fun c_4 => ?_) (fun c_4 => ?_)
        · exact absurd c_4 (by decide)
        · skip
          refine lv_iload_n hx hb dM_wordIn_9 rfl (lv_at hl 1 rfl) ?_
          refine lv_sipush (v := 256) hx hb dM_wordIn_10 (by decide) ?_
          refine lv_imul hx hb dM_wordIn_13 ?_
          refine lv_aload_n hx hb dM_wordIn_14 rfl (lv_at hl 2 rfl) ?_
          refine va_get (D := (dC, dI)) (ci := 2) (v := .ref yb) (C := RX2) (T := TX2) (N := 10) hx hb hts miM_wordIn_X2 hown hK hP 0 rfl rfl 1 (by decide) (hts _ mbM_wordIn_1) (fun _ h9 => h9) rfl dM_wordIn_15 ?_
          refine lv_iload_n hx hb dM_wordIn_18 rfl (lv_at hl 3 rfl) ?_
          refine lv_iload_n hx hb dM_wordIn_19 rfl (lv_at hl 0 rfl) ?_
          refine lv_iadd hx hb dM_wordIn_20 ?_
          refine va_iald hx hb hK hP 1 0 rfl rfl (in4_3 hp) dM_wordIn_21 ?_
          refine lv_iadd hx hb dM_wordIn_22 ?_
          refine lv_istore_n (lv' := [(2, .int ((((((((0 * 256) + (y (pp + 0).toNatClampNeg)) * 256) + (y (pp + 1).toNatClampNeg)) * 256) + (y (pp + 2).toNatClampNeg)) * 256) + (y (pp + 3).toNatClampNeg))), (3, .int 3), (0, .ref k0), (1, .int pp)]) hx hb dM_wordIn_23 rfl hl (by decide) rfl (fun ls hl => ?_)
          refine lv_iinc (v := 4) (lv' := [(3, .int 4), (2, .int ((((((((0 * 256) + (y (pp + 0).toNatClampNeg)) * 256) + (y (pp + 1).toNatClampNeg)) * 256) + (y (pp + 2).toNatClampNeg)) * 256) + (y (pp + 3).toNatClampNeg))), (0, .ref k0), (1, .int pp)]) hx hb dM_wordIn_24 hl (k := 1) rfl rfl (by decide) rfl (fun ls hl => ?_)
          refine lv_goto (tgt := 4) hx hb dM_wordIn_27 (by decide) ?_
          refine lv_iload_n hx hb dM_wordIn_4 rfl (lv_at hl 0 rfl) ?_
          refine lv_iconst (v := 4) hx hb dM_wordIn_5 (by decide) ?_
          refine lv_icmp_ge (tgt := 30) hx hb dM_wordIn_6 (by decide) (fun c_5 => ?_) (fun c_5 => ?_)
          · skip
            refine lv_iload_n hx hb dM_wordIn_30 rfl (lv_at hl 1 rfl) ?_
            exact W.iret (v := (((((((0 * 256) + (y (pp + 0).toNatClampNeg)) * 256) + (y (pp + 1).toNatClampNeg)) * 256) + (y (pp + 2).toNatClampNeg)) * 256) + (y (pp + 3).toNatClampNeg)) hx hb hr (fun t ht hW => ⟨(((((((0 * 256) + (y (pp + 0).toNatClampNeg)) * 256) + (y (pp + 1).toNatClampNeg)) * 256) + (y (pp + 2).toNatClampNeg)) * 256) + (y (pp + 3).toNatClampNeg), rfl, by first | rfl | (unfold s_M_wordIn; rfl), ht⟩) (fun q h => by cases h) dM_wordIn_31
          · exact absurd c_5 (by decide)
set_option maxRecDepth 100000 in
theorem miM_lay_X2 : ∀ w ∈ u_ws RX2 TX2 10, w ∈ wsM_lay := by decide +kernel
set_option maxRecDepth 100000 in
theorem mbM_lay_1 : (.fieldLink RX2 8 "SoftMapsModel" "bytes" "[I" : Cond) ∈ wsM_lay := by decide +kernel
def s_M_lay (y : Nat → Int32) (pp : Int32) (v : Int32) : (Nat → Int32) :=
  (upd (upd (upd (upd y (pp + 0).toNatClampNeg ((v >>> ((24 - (8 * 0) : Int32) &&& 31)) &&& 255)) (pp + 1).toNatClampNeg ((v >>> ((24 - (8 * 1) : Int32) &&& 31)) &&& 255)) (pp + 2).toNatClampNeg ((v >>> ((24 - (8 * 2) : Int32) &&& 31)) &&& 255)) (pp + 3).toNatClampNeg ((v >>> ((24 - (8 * 3) : Int32) &&& 31)) &&& 255))
set_option maxHeartbeats 4000000 in
set_option maxRecDepth 100000 in
theorem c_M_lay (l : Launch) (dC : Nat → ClassId) (dI : Nat → Nat → Nat) (sz : Nat) (k0 yb zb : Nat) (cI : ClassId) (y z : Nat → Int32) (th a1 a2 a3 a4 a5 a6 fo : Int32) (pp : Int32) (v : Int32) (hp : pin4 pp) : Met l yM_lay wsM_lay ({ frames := 0, cells := 0, slots := 0, locals := 0 }) (va_Pc [.ref k0, .int pp, .int v] (fun U => U.heap.size = sz ∧ va_P (dC, dI) vwCl [(k0, .inr (2, [.int th, .ref yb, .ref zb, .int a1, .int a2, .int a3, .int a4, .int a5, .int a6, .int fo])), (yb, .inl (cI, 65536, .inl y)), (zb, .inl (cI, 33, .inl z))] U.heap ∧ va_K (dC, dI) vwCl [(cI, .int)] U ∧ va_D (fun _ => True) [(k0, .inr (2, [.int th, .ref yb, .ref zb, .int a1, .int a2, .int a3, .int a4, .int a5, .int a6, .int fo])), (yb, .inl (cI, 65536, .inl y)), (zb, .inl (cI, 33, .inl z))])) (va_Qv (fun u : (Nat → Int32) => u = s_M_lay y pp v) (fun (u : (Nat → Int32)) (t : State) => va_P (dC, dI) vwCl [(k0, .inr (2, [.int th, .ref yb, .ref zb, .int a1, .int a2, .int a3, .int a4, .int a5, .int a6, .int fo])), (yb, .inl (cI, 65536, .inl u)), (zb, .inl (cI, 33, .inl z))] t.heap ∧ va_K (dC, dI) vwCl [(cI, .int)] t ∧ va_D (va_A [(k0, .inr (2, [.int th, .ref yb, .ref zb, .int a1, .int a2, .int a3, .int a4, .int a5, .int a6, .int fo])), (yb, .inl (cI, 65536, .inl y)), (zb, .inl (cI, 33, .inl z))] sz) [(k0, .inr (2, [.int th, .ref yb, .ref zb, .int a1, .int a2, .int a3, .int a4, .int a5, .int a6, .int fo])), (yb, .inl (cI, 65536, .inl u)), (zb, .inl (cI, 33, .inl z))]) (va_A [(k0, .inr (2, [.int th, .ref yb, .ref zb, .int a1, .int a2, .int a3, .int a4, .int a5, .int a6, .int fo])), (yb, .inl (cI, 65536, .inl y)), (zb, .inl (cI, 33, .inl z))] sz)) 0 0 (va_A [(k0, .inr (2, [.int th, .ref yb, .ref zb, .int a1, .int a2, .int a3, .int a4, .int a5, .int a6, .int fo])), (yb, .inl (cI, 65536, .inl y)), (zb, .inl (cI, 33, .inl z))] sz) := by
  refine Met.ofW (cc := cM_lay) (maxL := 4) (ret := none) (by decide) rfl ?_
  intro p e s m args below meth c s₁ B hml hv
  obtain ⟨rfl, hsz, hP, hK, hD0⟩ := hv
  have hx := B.exec
  have hb := B.bytes
  have hr := B.returns
  have hts := atoms_spec (ws := wsM_lay) B.pre
  have hown : s.vm.findClass RX2 = some m.cls := findClass_of_methodNamed B.named
  have hlocks := B.notSynchronized
  subst hsz
  have hD := hD0.self (sz := s.heap.size)
  generalize hAe : va_A [(k0, .inr (2, [.int th, .ref yb, .ref zb, .int a1, .int a2, .int a3, .int a4, .int a5, .int a6, .int fo])), (yb, .inl (cI, 65536, .inl y)), (zb, .inl (cI, 33, .inl z))] s.heap.size = A at hD ⊢
  have hA : ∀ q : Nat, s.heap.size ≤ q → A q := fun q h => by rw [← hAe]; exact Or.inr h
  have hS : va_S A s.heap s.heap [] := va_S.rf
  have hP : va_P (dC, dI) vwCl [(k0, .inr (2, [.int th, .ref yb, .ref zb, .int a1, .int a2, .int a3, .int a4, .int a5, .int a6, .int fo])), (yb, .inl (cI, 65536, .inl y)), (zb, .inl (cI, 33, .inl z))] s.heap := hP
  have hl := lv_entry ([.ref k0, .int pp, .int v]) (n := 4) (Nat.le_of_ble_eq_true rfl)
  rw [lg_entry_eq]
  generalize (lg_sl ([.ref k0, .int pp, .int v]) ++ List.replicate (4 - (lg_sl ([.ref k0, .int pp, .int v])).length) Slot.unset).toArray = ls at hl ⊢
  have hl : lv_has ls 4 [(0, .ref k0), (1, .int pp), (2, .int v)] := hl
  refine lv_iconst (v := 0) hx hb dM_lay_0 (by decide) ?_
  refine lv_istore_n (lv' := [(3, .int 0), (0, .ref k0), (1, .int pp), (2, .int v)]) hx hb dM_lay_1 rfl hl (by decide) rfl (fun ls hl => ?_)
  refine lv_iload_n hx hb dM_lay_2 rfl (lv_at hl 0 rfl) ?_
  refine lv_iconst (v := 4) hx hb dM_lay_3 (by decide) ?_
  refine lv_icmp_ge (tgt := 34) hx hb dM_lay_4 (by decide) (fun c_1 => ?_) (fun c_1 => ?_)
  · exact absurd c_1 (by decide)
  · skip
    refine lv_aload_n hx hb dM_lay_7 rfl (lv_at hl 1 rfl) ?_
    refine va_get (D := (dC, dI)) (ci := 2) (v := .ref yb) (C := RX2) (T := TX2) (N := 10) hx hb hts miM_lay_X2 hown hK hP 0 rfl rfl 1 (by decide) (hts _ mbM_lay_1) (fun _ h9 => h9) rfl dM_lay_8 ?_
    refine lv_iload_n hx hb dM_lay_11 rfl (lv_at hl 2 rfl) ?_
    refine lv_iload_n hx hb dM_lay_12 rfl (lv_at hl 0 rfl) ?_
    refine lv_iadd hx hb dM_lay_13 ?_
    refine lv_iload_n hx hb dM_lay_14 rfl (lv_at hl 3 rfl) ?_
    refine lv_bipush (v := 24) hx hb dM_lay_15 (by decide) ?_
    refine lv_bipush (v := 8) hx hb dM_lay_17 (by decide) ?_
    refine lv_iload_n hx hb dM_lay_19 rfl (lv_at hl 0 rfl) ?_
    refine lv_imul hx hb dM_lay_20 ?_
    refine lv_isub hx hb dM_lay_21 ?_
    refine lv_ishr hx hb dM_lay_22 ?_
    refine lv_sipush (v := 255) hx hb dM_lay_23 (by decide) ?_
    refine lv_iand hx hb dM_lay_26 ?_
    refine va_iast hx hb hK hP hD hS 1 0 rfl rfl (in4_0 hp) dM_lay_27 (fun H locs hP hD hS => ?_)
    have hP : va_P (dC, dI) vwCl [(k0, .inr (2, [.int th, .ref yb, .ref zb, .int a1, .int a2, .int a3, .int a4, .int a5, .int a6, .int fo])), (yb, .inl (cI, 65536, .inl (upd y (pp + 0).toNatClampNeg ((v >>> ((24 - (8 * 0) : Int32) &&& 31)) &&& 255)))), (zb, .inl (cI, 33, .inl z))] H := hP
    have hD : va_D A [(k0, .inr (2, [.int th, .ref yb, .ref zb, .int a1, .int a2, .int a3, .int a4, .int a5, .int a6, .int fo])), (yb, .inl (cI, 65536, .inl (upd y (pp + 0).toNatClampNeg ((v >>> ((24 - (8 * 0) : Int32) &&& 31)) &&& 255)))), (zb, .inl (cI, 33, .inl z))] := hD
    refine lv_iinc (v := 1) (lv' := [(3, .int 1), (0, .ref k0), (1, .int pp), (2, .int v)]) hx hb dM_lay_28 hl (k := 0) rfl rfl (by decide) rfl (fun ls hl => ?_)
    refine lv_goto (tgt := 2) hx hb dM_lay_31 (by decide) ?_
    refine lv_iload_n hx hb dM_lay_2 rfl (lv_at hl 0 rfl) ?_
    refine lv_iconst (v := 4) hx hb dM_lay_3 (by decide) ?_
    refine lv_icmp_ge (tgt := 34) hx hb dM_lay_4 (by decide) (fun c_2 => ?_) (fun c_2 => ?_)
    · exact absurd c_2 (by decide)
    · skip
      refine lv_aload_n hx hb dM_lay_7 rfl (lv_at hl 1 rfl) ?_
      refine va_get (D := (dC, dI)) (ci := 2) (v := .ref yb) (C := RX2) (T := TX2) (N := 10) hx hb hts miM_lay_X2 hown hK hP 0 rfl rfl 1 (by decide) (hts _ mbM_lay_1) (fun _ h9 => h9) rfl dM_lay_8 ?_
      refine lv_iload_n hx hb dM_lay_11 rfl (lv_at hl 2 rfl) ?_
      refine lv_iload_n hx hb dM_lay_12 rfl (lv_at hl 0 rfl) ?_
      refine lv_iadd hx hb dM_lay_13 ?_
      refine lv_iload_n hx hb dM_lay_14 rfl (lv_at hl 3 rfl) ?_
      refine lv_bipush (v := 24) hx hb dM_lay_15 (by decide) ?_
      refine lv_bipush (v := 8) hx hb dM_lay_17 (by decide) ?_
      refine lv_iload_n hx hb dM_lay_19 rfl (lv_at hl 0 rfl) ?_
      refine lv_imul hx hb dM_lay_20 ?_
      refine lv_isub hx hb dM_lay_21 ?_
      refine lv_ishr hx hb dM_lay_22 ?_
      refine lv_sipush (v := 255) hx hb dM_lay_23 (by decide) ?_
      refine lv_iand hx hb dM_lay_26 ?_
      refine va_iast hx hb hK hP hD hS 1 0 rfl rfl (in4_1 hp) dM_lay_27 (fun H locs hP hD hS => ?_)
      have hP : va_P (dC, dI) vwCl [(k0, .inr (2, [.int th, .ref yb, .ref zb, .int a1, .int a2, .int a3, .int a4, .int a5, .int a6, .int fo])), (yb, .inl (cI, 65536, .inl (upd (upd y (pp + 0).toNatClampNeg ((v >>> ((24 - (8 * 0) : Int32) &&& 31)) &&& 255)) (pp + 1).toNatClampNeg ((v >>> ((24 - (8 * 1) : Int32) &&& 31)) &&& 255)))), (zb, .inl (cI, 33, .inl z))] H := hP
      have hD : va_D A [(k0, .inr (2, [.int th, .ref yb, .ref zb, .int a1, .int a2, .int a3, .int a4, .int a5, .int a6, .int fo])), (yb, .inl (cI, 65536, .inl (upd (upd y (pp + 0).toNatClampNeg ((v >>> ((24 - (8 * 0) : Int32) &&& 31)) &&& 255)) (pp + 1).toNatClampNeg ((v >>> ((24 - (8 * 1) : Int32) &&& 31)) &&& 255)))), (zb, .inl (cI, 33, .inl z))] := hD
      refine lv_iinc (v := 2) (lv' := [(3, .int 2), (0, .ref k0), (1, .int pp), (2, .int v)]) hx hb dM_lay_28 hl (k := 0) rfl rfl (by decide) rfl (fun ls hl => ?_)
      refine lv_goto (tgt := 2) hx hb dM_lay_31 (by decide) ?_
      refine lv_iload_n hx hb dM_lay_2 rfl (lv_at hl 0 rfl) ?_
      refine lv_iconst (v := 4) hx hb dM_lay_3 (by decide) ?_
      refine lv_icmp_ge (tgt := 34) hx hb dM_lay_4 (by decide) (fun c_3 => ?_) (fun c_3 => ?_)
      · exact absurd c_3 (by decide)
      · skip
        refine lv_aload_n hx hb dM_lay_7 rfl (lv_at hl 1 rfl) ?_
        refine va_get (D := (dC, dI)) (ci := 2) (v := .ref yb) (C := RX2) (T := TX2) (N := 10) hx hb hts miM_lay_X2 hown hK hP 0 rfl rfl 1 (by decide) (hts _ mbM_lay_1) (fun _ h9 => h9) rfl dM_lay_8 ?_
        refine lv_iload_n hx hb dM_lay_11 rfl (lv_at hl 2 rfl) ?_
        refine lv_iload_n hx hb dM_lay_12 rfl (lv_at hl 0 rfl) ?_
        refine lv_iadd hx hb dM_lay_13 ?_
        refine lv_iload_n hx hb dM_lay_14 rfl (lv_at hl 3 rfl) ?_
        refine lv_bipush (v := 24) hx hb dM_lay_15 (by decide) ?_
        refine lv_bipush (v := 8) hx hb dM_lay_17 (by decide) ?_
        refine lv_iload_n hx hb dM_lay_19 rfl (lv_at hl 0 rfl) ?_
        refine lv_imul hx hb dM_lay_20 ?_
        refine lv_isub hx hb dM_lay_21 ?_
        refine lv_ishr hx hb dM_lay_22 ?_
        refine lv_sipush (v := 255) hx hb dM_lay_23 (by decide) ?_
        refine lv_iand hx hb dM_lay_26 ?_
        refine va_iast hx hb hK hP hD hS 1 0 rfl rfl (in4_2 hp) dM_lay_27 (fun H locs hP hD hS => ?_)
        have hP : va_P (dC, dI) vwCl [(k0, .inr (2, [.int th, .ref yb, .ref zb, .int a1, .int a2, .int a3, .int a4, .int a5, .int a6, .int fo])), (yb, .inl (cI, 65536, .inl (upd (upd (upd y (pp + 0).toNatClampNeg ((v >>> ((24 - (8 * 0) : Int32) &&& 31)) &&& 255)) (pp + 1).toNatClampNeg ((v >>> ((24 - (8 * 1) : Int32) &&& 31)) &&& 255)) (pp + 2).toNatClampNeg ((v >>> ((24 - (8 * 2) : Int32) &&& 31)) &&& 255)))), (zb, .inl (cI, 33, .inl z))] H := hP
        have hD : va_D A [(k0, .inr (2, [.int th, .ref yb, .ref zb, .int a1, .int a2, .int a3, .int a4, .int a5, .int a6, .int fo])), (yb, .inl (cI, 65536, .inl (upd (upd (upd y (pp + 0).toNatClampNeg ((v >>> ((24 - (8 * 0) : Int32) &&& 31)) &&& 255)) (pp + 1).toNatClampNeg ((v >>> ((24 - (8 * 1) : Int32) &&& 31)) &&& 255)) (pp + 2).toNatClampNeg ((v >>> ((24 - (8 * 2) : Int32) &&& 31)) &&& 255)))), (zb, .inl (cI, 33, .inl z))] := hD
        refine lv_iinc (v := 3) (lv' := [(3, .int 3), (0, .ref k0), (1, .int pp), (2, .int v)]) hx hb dM_lay_28 hl (k := 0) rfl rfl (by decide) rfl (fun ls hl => ?_)
        refine lv_goto (tgt := 2) hx hb dM_lay_31 (by decide) ?_
        refine lv_iload_n hx hb dM_lay_2 rfl (lv_at hl 0 rfl) ?_
        refine lv_iconst (v := 4) hx hb dM_lay_3 (by decide) ?_
        refine lv_icmp_ge (tgt := 34) hx hb dM_lay_4 (by decide) (fun c_4 => ?_) (fun c_4 => ?_)
        · exact absurd c_4 (by decide)
        · skip
          refine lv_aload_n hx hb dM_lay_7 rfl (lv_at hl 1 rfl) ?_
          refine va_get (D := (dC, dI)) (ci := 2) (v := .ref yb) (C := RX2) (T := TX2) (N := 10) hx hb hts miM_lay_X2 hown hK hP 0 rfl rfl 1 (by decide) (hts _ mbM_lay_1) (fun _ h9 => h9) rfl dM_lay_8 ?_
          refine lv_iload_n hx hb dM_lay_11 rfl (lv_at hl 2 rfl) ?_
          refine lv_iload_n hx hb dM_lay_12 rfl (lv_at hl 0 rfl) ?_
          refine lv_iadd hx hb dM_lay_13 ?_
          refine lv_iload_n hx hb dM_lay_14 rfl (lv_at hl 3 rfl) ?_
          refine lv_bipush (v := 24) hx hb dM_lay_15 (by decide) ?_
          refine lv_bipush (v := 8) hx hb dM_lay_17 (by decide) ?_
          refine lv_iload_n hx hb dM_lay_19 rfl (lv_at hl 0 rfl) ?_
          refine lv_imul hx hb dM_lay_20 ?_
          refine lv_isub hx hb dM_lay_21 ?_
          refine lv_ishr hx hb dM_lay_22 ?_
          refine lv_sipush (v := 255) hx hb dM_lay_23 (by decide) ?_
          refine lv_iand hx hb dM_lay_26 ?_
          refine va_iast hx hb hK hP hD hS 1 0 rfl rfl (in4_3 hp) dM_lay_27 (fun H locs hP hD hS => ?_)
          have hP : va_P (dC, dI) vwCl [(k0, .inr (2, [.int th, .ref yb, .ref zb, .int a1, .int a2, .int a3, .int a4, .int a5, .int a6, .int fo])), (yb, .inl (cI, 65536, .inl (upd (upd (upd (upd y (pp + 0).toNatClampNeg ((v >>> ((24 - (8 * 0) : Int32) &&& 31)) &&& 255)) (pp + 1).toNatClampNeg ((v >>> ((24 - (8 * 1) : Int32) &&& 31)) &&& 255)) (pp + 2).toNatClampNeg ((v >>> ((24 - (8 * 2) : Int32) &&& 31)) &&& 255)) (pp + 3).toNatClampNeg ((v >>> ((24 - (8 * 3) : Int32) &&& 31)) &&& 255)))), (zb, .inl (cI, 33, .inl z))] H := hP
          have hD : va_D A [(k0, .inr (2, [.int th, .ref yb, .ref zb, .int a1, .int a2, .int a3, .int a4, .int a5, .int a6, .int fo])), (yb, .inl (cI, 65536, .inl (upd (upd (upd (upd y (pp + 0).toNatClampNeg ((v >>> ((24 - (8 * 0) : Int32) &&& 31)) &&& 255)) (pp + 1).toNatClampNeg ((v >>> ((24 - (8 * 1) : Int32) &&& 31)) &&& 255)) (pp + 2).toNatClampNeg ((v >>> ((24 - (8 * 2) : Int32) &&& 31)) &&& 255)) (pp + 3).toNatClampNeg ((v >>> ((24 - (8 * 3) : Int32) &&& 31)) &&& 255)))), (zb, .inl (cI, 33, .inl z))] := hD
          refine lv_iinc (v := 4) (lv' := [(3, .int 4), (0, .ref k0), (1, .int pp), (2, .int v)]) hx hb dM_lay_28 hl (k := 0) rfl rfl (by decide) rfl (fun ls hl => ?_)
          refine lv_goto (tgt := 2) hx hb dM_lay_31 (by decide) ?_
          refine lv_iload_n hx hb dM_lay_2 rfl (lv_at hl 0 rfl) ?_
          refine lv_iconst (v := 4) hx hb dM_lay_3 (by decide) ?_
          refine lv_icmp_ge (tgt := 34) hx hb dM_lay_4 (by decide) (fun c_5 => ?_) (fun c_5 => ?_)
          · skip
            exact W.vret hx hb hr (fun t ht hW => ⟨⟨(upd (upd (upd (upd y (pp + 0).toNatClampNeg ((v >>> ((24 - (8 * 0) : Int32) &&& 31)) &&& 255)) (pp + 1).toNatClampNeg ((v >>> ((24 - (8 * 1) : Int32) &&& 31)) &&& 255)) (pp + 2).toNatClampNeg ((v >>> ((24 - (8 * 2) : Int32) &&& 31)) &&& 255)) (pp + 3).toNatClampNeg ((v >>> ((24 - (8 * 3) : Int32) &&& 31)) &&& 255)), rfl, by first | rfl | (unfold s_M_lay; rfl), by rw [ht]; exact hP, va_K.moved hW.alike hK, hD⟩, hS.F ht⟩) hS.2.2 dM_lay_34
          · exact absurd c_5 (by decide)
theorem mwp_n {p : Int32} (h : ¬ s_M_isWordPlace p = 0) : ∃ n : Nat, n < 65536 ∧ n % 4 = 0 ∧ p = nI n := by
  unfold s_M_isWordPlace at h
  split at h
  · exact absurd rfl h
  · split at h
    · exact absurd rfl h
    · split at h
      · rename_i h0 h1 h2
        obtain ⟨n, hn, rfl⟩ := pl_n h0 h1
        have e : (4 : Int32) = nI 4 := rfl
        rw [e, pk_rem (by omega) (by omega) (by omega)] at h2
        have e0 : (0 : Int32) = nI 0 := rfl
        rw [e0, nI_eq (by omega) (by omega)] at h2
        exact ⟨n, hn, h2, rfl⟩
      · exact absurd rfl h
theorem mwp_4 {p : Int32} (h : ¬ s_M_isWordPlace p = 0) : pin4 p := by
  obtain ⟨n, h1, h2, h3⟩ := mwp_n h
  exact pin4_of h1 h2 h3
set_option maxRecDepth 100000 in
theorem miM_poke_X2 : ∀ w ∈ u_ws RX2 TX2 10, w ∈ wsM_poke := by decide +kernel
set_option maxRecDepth 100000 in
theorem mbM_poke_1 : (.fieldLink RX2 17 "SoftMapsModel" "thrown" "I" : Cond) ∈ wsM_poke := by decide +kernel
def s_M_poke (y : Nat → Int32) (pp : Int32) (v : Int32) : Int32 × Int32 × (Nat → Int32) :=
  if s_M_isWordPlace pp = 0 then
    (0, (0, y))
  else
    (1, (0, (s_M_lay y pp v)))
set_option maxHeartbeats 4000000 in
set_option maxRecDepth 100000 in
theorem c_M_poke (l : Launch) (dC : Nat → ClassId) (dI : Nat → Nat → Nat) (sz : Nat) (k0 yb zb : Nat) (cI : ClassId) (y z : Nat → Int32) (th a1 a2 a3 a4 a5 a6 fo : Int32) (pp : Int32) (v : Int32)  : Met l yM_poke wsM_poke ({ frames := 1, cells := 0, slots := 0, locals := 23 }) (va_Pc [.ref k0, .int pp, .int v] (fun U => U.heap.size = sz ∧ va_P (dC, dI) vwCl [(k0, .inr (2, [.int th, .ref yb, .ref zb, .int a1, .int a2, .int a3, .int a4, .int a5, .int a6, .int fo])), (yb, .inl (cI, 65536, .inl y)), (zb, .inl (cI, 33, .inl z))] U.heap ∧ va_K (dC, dI) vwCl [(cI, .int)] U ∧ va_D (fun _ => True) [(k0, .inr (2, [.int th, .ref yb, .ref zb, .int a1, .int a2, .int a3, .int a4, .int a5, .int a6, .int fo])), (yb, .inl (cI, 65536, .inl y)), (zb, .inl (cI, 33, .inl z))])) (va_Qi (fun (a_ : Int32) (u : Int32 × (Nat → Int32)) => (a_, u) = s_M_poke y pp v) (fun (u : Int32 × (Nat → Int32)) (t : State) => va_P (dC, dI) vwCl [(k0, .inr (2, [.int u.1, .ref yb, .ref zb, .int a1, .int a2, .int a3, .int a4, .int a5, .int a6, .int fo])), (yb, .inl (cI, 65536, .inl u.2)), (zb, .inl (cI, 33, .inl z))] t.heap ∧ va_K (dC, dI) vwCl [(cI, .int)] t ∧ va_D (va_A [(k0, .inr (2, [.int th, .ref yb, .ref zb, .int a1, .int a2, .int a3, .int a4, .int a5, .int a6, .int fo])), (yb, .inl (cI, 65536, .inl y)), (zb, .inl (cI, 33, .inl z))] sz) [(k0, .inr (2, [.int u.1, .ref yb, .ref zb, .int a1, .int a2, .int a3, .int a4, .int a5, .int a6, .int fo])), (yb, .inl (cI, 65536, .inl u.2)), (zb, .inl (cI, 33, .inl z))]) (va_A [(k0, .inr (2, [.int th, .ref yb, .ref zb, .int a1, .int a2, .int a3, .int a4, .int a5, .int a6, .int fo])), (yb, .inl (cI, 65536, .inl y)), (zb, .inl (cI, 33, .inl z))] sz)) 0 0 (va_A [(k0, .inr (2, [.int th, .ref yb, .ref zb, .int a1, .int a2, .int a3, .int a4, .int a5, .int a6, .int fo])), (yb, .inl (cI, 65536, .inl y)), (zb, .inl (cI, 33, .inl z))] sz) := by
  refine Met.ofW (cc := cM_poke) (maxL := 3) (ret := (some .boolean)) (by decide) rfl ?_
  intro p e s m args below meth c s₁ B hml hv
  obtain ⟨rfl, hsz, hP, hK, hD0⟩ := hv
  have hx := B.exec
  have hb := B.bytes
  have hr := B.returns
  have hts := atoms_spec (ws := wsM_poke) B.pre
  have hown : s.vm.findClass RX2 = some m.cls := findClass_of_methodNamed B.named
  have hlocks := B.notSynchronized
  subst hsz
  have hD := hD0.self (sz := s.heap.size)
  generalize hAe : va_A [(k0, .inr (2, [.int th, .ref yb, .ref zb, .int a1, .int a2, .int a3, .int a4, .int a5, .int a6, .int fo])), (yb, .inl (cI, 65536, .inl y)), (zb, .inl (cI, 33, .inl z))] s.heap.size = A at hD ⊢
  have hA : ∀ q : Nat, s.heap.size ≤ q → A q := fun q h => by rw [← hAe]; exact Or.inr h
  have hS : va_S A s.heap s.heap [] := va_S.rf
  have hP : va_P (dC, dI) vwCl [(k0, .inr (2, [.int th, .ref yb, .ref zb, .int a1, .int a2, .int a3, .int a4, .int a5, .int a6, .int fo])), (yb, .inl (cI, 65536, .inl y)), (zb, .inl (cI, 33, .inl z))] s.heap := hP
  have hl := lv_entry ([.ref k0, .int pp, .int v]) (n := 3) (Nat.le_of_ble_eq_true rfl)
  rw [lg_entry_eq]
  generalize (lg_sl ([.ref k0, .int pp, .int v]) ++ List.replicate (3 - (lg_sl ([.ref k0, .int pp, .int v])).length) Slot.unset).toArray = ls at hl ⊢
  have hl : lv_has ls 3 [(0, .ref k0), (1, .int pp), (2, .int v)] := hl
  refine lv_aload_n hx hb dM_poke_0 rfl (lv_at hl 0 rfl) ?_
  refine lv_iconst (v := 0) hx hb dM_poke_1 (by decide) ?_
  refine va_put (D := (dC, dI)) (ci := 2) (v := .int 0) (ty := tyX2 0) (C := RX2) (T := TX2) (N := 10) hx hb hts miM_poke_X2 tyX2 tyX2_ok nmX2 hown hK hP hD hS 0 rfl rfl 0 (by decide) (hts _ mbM_poke_1) (fun _ h9 => h9) rfl (by decide +kernel) rfl rfl (Nat.le_of_ble_eq_true rfl) dM_poke_2 (fun H locs hP hD hS => ?_)
  have hP : va_P (dC, dI) vwCl [(k0, .inr (2, [.int 0, .ref yb, .ref zb, .int a1, .int a2, .int a3, .int a4, .int a5, .int a6, .int fo])), (yb, .inl (cI, 65536, .inl y)), (zb, .inl (cI, 33, .inl z))] H := hP
  have hD : va_D A [(k0, .inr (2, [.int 0, .ref yb, .ref zb, .int a1, .int a2, .int a3, .int a4, .int a5, .int a6, .int fo])), (yb, .inl (cI, 65536, .inl y)), (zb, .inl (cI, 33, .inl z))] := hD
  refine lv_iload_n hx hb dM_poke_5 rfl (lv_at hl 1 rfl) ?_
  refine vp_callSi (va_Run.run (va_runS (As := [.int pp]) (rest := []) ⟨hx, hb, hml, hown, hts⟩ (c_M_isWordPlace l pp) (va_cwS 1 hts gM_poke_M_isWordPlace rfl rfl rfl (by decide +kernel) ⟨Nat.le_of_ble_eq_true rfl, Nat.le_of_ble_eq_true rfl⟩) ⟨fun a U g mk q => q, fun U hU hW => ⟨rfl, trivial⟩⟩ rfl rfl hl.1 rfl (lv_room (Nat.le_of_ble_eq_true rfl)) dM_poke_6 ⟨Nat.le_of_ble_eq_true rfl, Nat.le_of_ble_eq_true rfl⟩)) (fun r_1 hw_2 => ?_)
  subst hw_2
  refine lv_if_ne (tgt := 14) hx hb dM_poke_9 (by decide) (fun c_3 => ?_) (fun c_3 => ?_)
  · skip
    refine lv_aload_n hx hb dM_poke_14 rfl (lv_at hl 0 rfl) ?_
    refine lv_iload_n hx hb dM_poke_15 rfl (lv_at hl 1 rfl) ?_
    refine lv_iload_n hx hb dM_poke_16 rfl (lv_at hl 2 rfl) ?_
    have hPc := hP.sub (ws' := [(k0, .inr (2, [.int 0, .ref yb, .ref zb, .int a1, .int a2, .int a3, .int a4, .int a5, .int a6, .int fo])), (yb, .inl (cI, 65536, .inl y)), (zb, .inl (cI, 33, .inl z))]) [0, 1, 2] rfl
    have hDc := hD.sub (ws' := [(k0, .inr (2, [.int 0, .ref yb, .ref zb, .int a1, .int a2, .int a3, .int a4, .int a5, .int a6, .int fo])), (yb, .inl (cI, 65536, .inl y)), (zb, .inl (cI, 33, .inl z))]) [0, 1, 2] (by decide) rfl
    have hFc := va_free (wc := [(k0, .inr (2, [.int 0, .ref yb, .ref zb, .int a1, .int a2, .int a3, .int a4, .int a5, .int a6, .int fo])), (yb, .inl (cI, 65536, .inl y)), (zb, .inl (cI, 33, .inl z))]) hD hS hA [0, 1, 2] rfl
    have hKc := hK.sub (tys' := [(cI, .int)]) [0] rfl
    refine va_callv (va_runV (As := [.int pp, .int v]) (rest := []) ⟨hx, hb, hml, hown, hts⟩ (c_M_lay l dC dI (H.size) k0 yb zb cI y z 0 a1 a2 a3 a4 a5 a6 fo pp v (mwp_4 c_3)) (cwV 2 hts gM_poke_M_lay rfl rfl rfl (by decide +kernel) ⟨Nat.le_of_ble_eq_true rfl, Nat.le_of_ble_eq_true rfl⟩) ⟨fun a U g mk q => by obtain ⟨q0, q1, qP, qK, qD⟩ := q; exact ⟨q0, q1, qP, va_K.moved (u := U) (U := U.calling g mk a) (Vm.Alike.refl U.vm) qK, qD⟩, va_recv hKc hPc (ci := 2) (q0 := 0) rfl rfl, fun U hU hW => ⟨rfl, by rw [hU], by rw [hU]; exact hPc, va_K.moved hW.alike hKc, hDc.weaken (fun _ _ _ _ => trivial)⟩⟩ rfl rfl hl.1 rfl (lv_room (Nat.le_of_ble_eq_true rfl)) dM_poke_17 ⟨Nat.le_of_ble_eq_true rfl, Nat.le_of_ble_eq_true rfl⟩) hS (fun q _ h => hFc q h) hFc (fun u_6 t H1 locs ht hvm hw_5 hB hz1 hk1 hS => ?_)
    subst hw_5
    obtain ⟨hP1, hK1, hD1⟩ := hB
    rw [ht] at hP1
    obtain ⟨hP, hD⟩ := va_join (wr := []) (w1 := [(k0, .inr (2, [.int 0, .ref yb, .ref zb, .int a1, .int a2, .int a3, .int a4, .int a5, .int a6, .int fo])), (yb, .inl (cI, 65536, .inl (s_M_lay y pp v))), (zb, .inl (cI, 33, .inl z))]) hP hD [0, 1, 2] [] rfl rfl (by decide) (by decide) hk1 hFc hP1 hD1
    generalize H1 = H at hP hS ⊢
    have hP : va_P (dC, dI) vwCl [(k0, .inr (2, [.int 0, .ref yb, .ref zb, .int a1, .int a2, .int a3, .int a4, .int a5, .int a6, .int fo])), (yb, .inl (cI, 65536, .inl (s_M_lay y pp v))), (zb, .inl (cI, 33, .inl z))] H := hP
    have hD : va_D A [(k0, .inr (2, [.int 0, .ref yb, .ref zb, .int a1, .int a2, .int a3, .int a4, .int a5, .int a6, .int fo])), (yb, .inl (cI, 65536, .inl (s_M_lay y pp v))), (zb, .inl (cI, 33, .inl z))] := hD
    refine lv_iconst (v := 1) hx hb dM_poke_20 (by decide) ?_
    exact W.zret (v := 1) hx hb hr rfl (fun t ht hW => ⟨⟨1, (0, (s_M_lay y pp v)), rfl, by simp only [s_M_poke, if_neg c_3], by rw [ht]; exact hP, va_K.moved hW.alike hK, hD⟩, hS.F ht⟩) hS.2.2 dM_poke_21
  · skip
    refine lv_iconst (v := 0) hx hb dM_poke_12 (by decide) ?_
    exact W.zret (v := 0) hx hb hr rfl (fun t ht hW => ⟨⟨0, (0, y), rfl, by simp only [s_M_poke, if_pos c_3], by rw [ht]; exact hP, va_K.moved hW.alike hK, hD⟩, hS.F ht⟩) hS.2.2 dM_poke_13
set_option maxRecDepth 100000 in
theorem miM_word_X2 : ∀ w ∈ u_ws RX2 TX2 10, w ∈ wsM_word := by decide +kernel
set_option maxRecDepth 100000 in
theorem mbM_word_1 : (.fieldLink RX2 17 "SoftMapsModel" "thrown" "I" : Cond) ∈ wsM_word := by decide +kernel
def s_M_word (y : Nat → Int32) (pp : Int32) : Int32 × Int32 :=
  if s_M_isWordPlace pp = 0 then
    (0, 0)
  else
    (s_M_wordIn y pp, 0)
set_option maxHeartbeats 4000000 in
set_option maxRecDepth 100000 in
theorem c_M_word (l : Launch) (dC : Nat → ClassId) (dI : Nat → Nat → Nat) (sz : Nat) (k0 yb zb : Nat) (cI : ClassId) (y z : Nat → Int32) (th a1 a2 a3 a4 a5 a6 fo : Int32) (pp : Int32)  : Met l yM_word wsM_word ({ frames := 1, cells := 0, slots := 0, locals := 23 }) (va_Pc [.ref k0, .int pp] (fun U => U.heap.size = sz ∧ va_P (dC, dI) vwCl [(k0, .inr (2, [.int th, .ref yb, .ref zb, .int a1, .int a2, .int a3, .int a4, .int a5, .int a6, .int fo])), (yb, .inl (cI, 65536, .inl y)), (zb, .inl (cI, 33, .inl z))] U.heap ∧ va_K (dC, dI) vwCl [(cI, .int)] U ∧ va_D (fun _ => True) [(k0, .inr (2, [.int th, .ref yb, .ref zb, .int a1, .int a2, .int a3, .int a4, .int a5, .int a6, .int fo])), (yb, .inl (cI, 65536, .inl y)), (zb, .inl (cI, 33, .inl z))])) (va_Qi (fun (a_ : Int32) (u : Int32) => (a_, u) = s_M_word y pp) (fun (u : Int32) (t : State) => va_P (dC, dI) vwCl [(k0, .inr (2, [.int u, .ref yb, .ref zb, .int a1, .int a2, .int a3, .int a4, .int a5, .int a6, .int fo])), (yb, .inl (cI, 65536, .inl y)), (zb, .inl (cI, 33, .inl z))] t.heap ∧ va_K (dC, dI) vwCl [(cI, .int)] t ∧ va_D (va_A [(k0, .inr (2, [.int th, .ref yb, .ref zb, .int a1, .int a2, .int a3, .int a4, .int a5, .int a6, .int fo])), (yb, .inl (cI, 65536, .inl y)), (zb, .inl (cI, 33, .inl z))] sz) [(k0, .inr (2, [.int u, .ref yb, .ref zb, .int a1, .int a2, .int a3, .int a4, .int a5, .int a6, .int fo])), (yb, .inl (cI, 65536, .inl y)), (zb, .inl (cI, 33, .inl z))]) (va_A [(k0, .inr (2, [.int th, .ref yb, .ref zb, .int a1, .int a2, .int a3, .int a4, .int a5, .int a6, .int fo])), (yb, .inl (cI, 65536, .inl y)), (zb, .inl (cI, 33, .inl z))] sz)) 0 0 (va_A [(k0, .inr (2, [.int th, .ref yb, .ref zb, .int a1, .int a2, .int a3, .int a4, .int a5, .int a6, .int fo])), (yb, .inl (cI, 65536, .inl y)), (zb, .inl (cI, 33, .inl z))] sz) := by
  refine Met.ofW (cc := cM_word) (maxL := 2) (ret := (some .int)) (by decide) rfl ?_
  intro p e s m args below meth c s₁ B hml hv
  obtain ⟨rfl, hsz, hP, hK, hD0⟩ := hv
  have hx := B.exec
  have hb := B.bytes
  have hr := B.returns
  have hts := atoms_spec (ws := wsM_word) B.pre
  have hown : s.vm.findClass RX2 = some m.cls := findClass_of_methodNamed B.named
  have hlocks := B.notSynchronized
  subst hsz
  have hD := hD0.self (sz := s.heap.size)
  generalize hAe : va_A [(k0, .inr (2, [.int th, .ref yb, .ref zb, .int a1, .int a2, .int a3, .int a4, .int a5, .int a6, .int fo])), (yb, .inl (cI, 65536, .inl y)), (zb, .inl (cI, 33, .inl z))] s.heap.size = A at hD ⊢
  have hA : ∀ q : Nat, s.heap.size ≤ q → A q := fun q h => by rw [← hAe]; exact Or.inr h
  have hS : va_S A s.heap s.heap [] := va_S.rf
  have hP : va_P (dC, dI) vwCl [(k0, .inr (2, [.int th, .ref yb, .ref zb, .int a1, .int a2, .int a3, .int a4, .int a5, .int a6, .int fo])), (yb, .inl (cI, 65536, .inl y)), (zb, .inl (cI, 33, .inl z))] s.heap := hP
  have hl := lv_entry ([.ref k0, .int pp]) (n := 2) (Nat.le_of_ble_eq_true rfl)
  rw [lg_entry_eq]
  generalize (lg_sl ([.ref k0, .int pp]) ++ List.replicate (2 - (lg_sl ([.ref k0, .int pp])).length) Slot.unset).toArray = ls at hl ⊢
  have hl : lv_has ls 2 [(0, .ref k0), (1, .int pp)] := hl
  refine lv_aload_n hx hb dM_word_0 rfl (lv_at hl 0 rfl) ?_
  refine lv_iconst (v := 0) hx hb dM_word_1 (by decide) ?_
  refine va_put (D := (dC, dI)) (ci := 2) (v := .int 0) (ty := tyX2 0) (C := RX2) (T := TX2) (N := 10) hx hb hts miM_word_X2 tyX2 tyX2_ok nmX2 hown hK hP hD hS 0 rfl rfl 0 (by decide) (hts _ mbM_word_1) (fun _ h9 => h9) rfl (by decide +kernel) rfl rfl (Nat.le_of_ble_eq_true rfl) dM_word_2 (fun H locs hP hD hS => ?_)
  have hP : va_P (dC, dI) vwCl [(k0, .inr (2, [.int 0, .ref yb, .ref zb, .int a1, .int a2, .int a3, .int a4, .int a5, .int a6, .int fo])), (yb, .inl (cI, 65536, .inl y)), (zb, .inl (cI, 33, .inl z))] H := hP
  have hD : va_D A [(k0, .inr (2, [.int 0, .ref yb, .ref zb, .int a1, .int a2, .int a3, .int a4, .int a5, .int a6, .int fo])), (yb, .inl (cI, 65536, .inl y)), (zb, .inl (cI, 33, .inl z))] := hD
  refine lv_iload_n hx hb dM_word_5 rfl (lv_at hl 1 rfl) ?_
  refine vp_callSi (va_Run.run (va_runS (As := [.int pp]) (rest := []) ⟨hx, hb, hml, hown, hts⟩ (c_M_isWordPlace l pp) (va_cwS 1 hts gM_word_M_isWordPlace rfl rfl rfl (by decide +kernel) ⟨Nat.le_of_ble_eq_true rfl, Nat.le_of_ble_eq_true rfl⟩) ⟨fun a U g mk q => q, fun U hU hW => ⟨rfl, trivial⟩⟩ rfl rfl hl.1 rfl (lv_room (Nat.le_of_ble_eq_true rfl)) dM_word_6 ⟨Nat.le_of_ble_eq_true rfl, Nat.le_of_ble_eq_true rfl⟩)) (fun r_1 hw_2 => ?_)
  subst hw_2
  refine lv_if_eq (tgt := 20) hx hb dM_word_9 (by decide) (fun c_3 => ?_) (fun c_3 => ?_)
  · skip
    refine lv_iconst (v := 0) hx hb dM_word_20 (by decide) ?_
    exact W.iret (v := 0) hx hb hr (fun t ht hW => ⟨⟨0, 0, rfl, by simp only [s_M_word, if_pos c_3], by rw [ht]; exact hP, va_K.moved hW.alike hK, hD⟩, hS.F ht⟩) hS.2.2 dM_word_21
  · skip
    refine lv_aload_n hx hb dM_word_12 rfl (lv_at hl 0 rfl) ?_
    refine lv_iload_n hx hb dM_word_13 rfl (lv_at hl 1 rfl) ?_
    have hPc := hP.sub (ws' := [(k0, .inr (2, [.int 0, .ref yb, .ref zb, .int a1, .int a2, .int a3, .int a4, .int a5, .int a6, .int fo])), (yb, .inl (cI, 65536, .inl y)), (zb, .inl (cI, 33, .inl z))]) [0, 1, 2] rfl
    have hKc := hK.sub (tys' := [(cI, .int)]) [0] rfl
    refine vp_callSi (va_Run.run (va_runV (As := [.int pp]) (rest := []) ⟨hx, hb, hml, hown, hts⟩ (c_M_wordIn l dC dI k0 yb zb cI y z 0 a1 a2 a3 a4 a5 a6 fo pp (mwp_4 c_3)) (cwV 1 hts gM_word_M_wordIn rfl rfl rfl (by decide +kernel) ⟨Nat.le_of_ble_eq_true rfl, Nat.le_of_ble_eq_true rfl⟩) ⟨fun a U g mk q => by obtain ⟨q0, qP, qK⟩ := q; exact ⟨q0, qP, va_K.moved (u := U) (U := U.calling g mk a) (Vm.Alike.refl U.vm) qK⟩, va_recv hKc hPc (ci := 2) (q0 := 0) rfl rfl, fun U hU hW => ⟨rfl, by rw [hU]; exact hPc, va_K.moved hW.alike hKc⟩⟩ rfl rfl hl.1 rfl (lv_room (Nat.le_of_ble_eq_true rfl)) dM_word_14 ⟨Nat.le_of_ble_eq_true rfl, Nat.le_of_ble_eq_true rfl⟩)) (fun r_4 hw_5 => ?_)
    subst hw_5
    refine lv_goto (tgt := 21) hx hb dM_word_17 (by decide) ?_
    exact W.iret (v := s_M_wordIn y pp) hx hb hr (fun t ht hW => ⟨⟨s_M_wordIn y pp, 0, rfl, by simp only [s_M_word, if_neg c_3], by rw [ht]; exact hP, va_K.moved hW.alike hK, hD⟩, hS.F ht⟩) hS.2.2 dM_word_21
end
section
theorem in_mk {k : Int32} (h0 : ¬ k < 0) (h1 : ¬ 32 < k) : vp_in k 33 := by
  rw [vp_in_iff]
  rw [Int32.lt_iff_toInt_lt] at h0 h1
  have e0 : (0 : Int32).toInt = 0 := by decide
  have e1 : (32 : Int32).toInt = 32 := by decide
  omega
theorem mset_n (v : Int32) : ∃ j : Nat, j < 8 ∧ ush v 10 - ush v 10 / 8 * 8 = nI j := by
  have e : ush v 10 = nI (v.toBitVec.toNat / 2 ^ 10) := by
    have h := pk_ushr v 10 10 (by decide)
    have h2 : (ush v 10).toBitVec.toNat = v.toBitVec.toNat / 2 ^ 10 := h
    apply Int32.toBitVec_inj.mp
    apply BitVec.eq_of_toNat_eq
    rw [h2, pk_tn]
    have := v.toBitVec.isLt
    omega
  have hv := v.toBitVec.isLt
  rw [e, show (8 : Int32) = nI 8 from rfl, pk_rem (by omega) (by omega) (by omega)]
  exact ⟨_, Nat.mod_lt _ (by omega), rfl⟩
theorem in_ms (a : Nat) (ha : a ≤ 25) (A : Int32) (hA : A = nI a) (v : Int32) : vp_in (A + (ush v 10 - ush v 10 / 8 * 8)) 33 := by
  obtain ⟨j, hj, e⟩ := mset_n v
  exact pk_in (a + j) 33 (by omega) (by rw [e, hA, nI_add])
/-- where a kind's sets begin -/
def fr_ok (x : Int32) : Prop := x = nI 0 ∨ x = nI 16
theorem in_fr {x : Int32} (h : fr_ok x) (k : Nat) (hk : k < 8) (K : Int32) (hK : K = nI k) : vp_in (x + K) 33 := by
  rcases h with h | h
  · exact pk_in (0 + k) 33 (by omega) (by rw [h, hK, nI_add])
  · exact pk_in (16 + k) 33 (by omega) (by rw [h, hK, nI_add])
set_option maxRecDepth 100000 in
theorem miM_set_X2 : ∀ w ∈ u_ws RX2 TX2 10, w ∈ wsM_set := by decide +kernel
set_option maxRecDepth 100000 in
theorem mbM_set_1 : (.fieldLink RX2 17 "SoftMapsModel" "thrown" "I" : Cond) ∈ wsM_set := by decide +kernel
set_option maxRecDepth 100000 in
theorem mbM_set_2 : (.fieldLink RX2 14 "SoftMapsModel" "specials" "[I" : Cond) ∈ wsM_set := by decide +kernel
def s_M_set (z : Nat → Int32) (k : Int32) (w : Int32) : Int32 × Int32 × (Nat → Int32) :=
  if k < 0 then
    (0, (0, z))
  else
    if k ≤ 32 then
      if k = 32 then
        (1, (0, upd z k.toNatClampNeg (w &&& 7)))
      else
        (1, (0, upd z k.toNatClampNeg w))
    else
      (0, (0, z))
set_option maxHeartbeats 4000000 in
set_option maxRecDepth 100000 in
theorem c_M_set (l : Launch) (dC : Nat → ClassId) (dI : Nat → Nat → Nat) (sz : Nat) (k0 yb zb : Nat) (cI : ClassId) (y z : Nat → Int32) (th a1 a2 a3 a4 a5 a6 fo : Int32) (k : Int32) (w : Int32)  : Met l yM_set wsM_set ({ frames := 0, cells := 0, slots := 0, locals := 0 }) (va_Pc [.ref k0, .int k, .int w] (fun U => U.heap.size = sz ∧ va_P (dC, dI) vwCl [(k0, .inr (2, [.int th, .ref yb, .ref zb, .int a1, .int a2, .int a3, .int a4, .int a5, .int a6, .int fo])), (yb, .inl (cI, 65536, .inl y)), (zb, .inl (cI, 33, .inl z))] U.heap ∧ va_K (dC, dI) vwCl [(cI, .int)] U ∧ va_D (fun _ => True) [(k0, .inr (2, [.int th, .ref yb, .ref zb, .int a1, .int a2, .int a3, .int a4, .int a5, .int a6, .int fo])), (yb, .inl (cI, 65536, .inl y)), (zb, .inl (cI, 33, .inl z))])) (va_Qi (fun (a_ : Int32) (u : Int32 × (Nat → Int32)) => (a_, u) = s_M_set z k w) (fun (u : Int32 × (Nat → Int32)) (t : State) => va_P (dC, dI) vwCl [(k0, .inr (2, [.int u.1, .ref yb, .ref zb, .int a1, .int a2, .int a3, .int a4, .int a5, .int a6, .int fo])), (yb, .inl (cI, 65536, .inl y)), (zb, .inl (cI, 33, .inl u.2))] t.heap ∧ va_K (dC, dI) vwCl [(cI, .int)] t ∧ va_D (va_A [(k0, .inr (2, [.int th, .ref yb, .ref zb, .int a1, .int a2, .int a3, .int a4, .int a5, .int a6, .int fo])), (yb, .inl (cI, 65536, .inl y)), (zb, .inl (cI, 33, .inl z))] sz) [(k0, .inr (2, [.int u.1, .ref yb, .ref zb, .int a1, .int a2, .int a3, .int a4, .int a5, .int a6, .int fo])), (yb, .inl (cI, 65536, .inl y)), (zb, .inl (cI, 33, .inl u.2))]) (va_A [(k0, .inr (2, [.int th, .ref yb, .ref zb, .int a1, .int a2, .int a3, .int a4, .int a5, .int a6, .int fo])), (yb, .inl (cI, 65536, .inl y)), (zb, .inl (cI, 33, .inl z))] sz)) 0 0 (va_A [(k0, .inr (2, [.int th, .ref yb, .ref zb, .int a1, .int a2, .int a3, .int a4, .int a5, .int a6, .int fo])), (yb, .inl (cI, 65536, .inl y)), (zb, .inl (cI, 33, .inl z))] sz) := by
  refine Met.ofW (cc := cM_set) (maxL := 3) (ret := (some .boolean)) (by decide) rfl ?_
  intro p e s m args below meth c s₁ B hml hv
  obtain ⟨rfl, hsz, hP, hK, hD0⟩ := hv
  have hx := B.exec
  have hb := B.bytes
  have hr := B.returns
  have hts := atoms_spec (ws := wsM_set) B.pre
  have hown : s.vm.findClass RX2 = some m.cls := findClass_of_methodNamed B.named
  have hlocks := B.notSynchronized
  subst hsz
  have hD := hD0.self (sz := s.heap.size)
  generalize hAe : va_A [(k0, .inr (2, [.int th, .ref yb, .ref zb, .int a1, .int a2, .int a3, .int a4, .int a5, .int a6, .int fo])), (yb, .inl (cI, 65536, .inl y)), (zb, .inl (cI, 33, .inl z))] s.heap.size = A at hD ⊢
  have hA : ∀ q : Nat, s.heap.size ≤ q → A q := fun q h => by rw [← hAe]; exact Or.inr h
  have hS : va_S A s.heap s.heap [] := va_S.rf
  have hP : va_P (dC, dI) vwCl [(k0, .inr (2, [.int th, .ref yb, .ref zb, .int a1, .int a2, .int a3, .int a4, .int a5, .int a6, .int fo])), (yb, .inl (cI, 65536, .inl y)), (zb, .inl (cI, 33, .inl z))] s.heap := hP
  have hl := lv_entry ([.ref k0, .int k, .int w]) (n := 3) (Nat.le_of_ble_eq_true rfl)
  rw [lg_entry_eq]
  generalize (lg_sl ([.ref k0, .int k, .int w]) ++ List.replicate (3 - (lg_sl ([.ref k0, .int k, .int w])).length) Slot.unset).toArray = ls at hl ⊢
  have hl : lv_has ls 3 [(0, .ref k0), (1, .int k), (2, .int w)] := hl
  refine lv_aload_n hx hb dM_set_0 rfl (lv_at hl 0 rfl) ?_
  refine lv_iconst (v := 0) hx hb dM_set_1 (by decide) ?_
  refine va_put (D := (dC, dI)) (ci := 2) (v := .int 0) (ty := tyX2 0) (C := RX2) (T := TX2) (N := 10) hx hb hts miM_set_X2 tyX2 tyX2_ok nmX2 hown hK hP hD hS 0 rfl rfl 0 (by decide) (hts _ mbM_set_1) (fun _ h9 => h9) rfl (by decide +kernel) rfl rfl (Nat.le_of_ble_eq_true rfl) dM_set_2 (fun H locs hP hD hS => ?_)
  have hP : va_P (dC, dI) vwCl [(k0, .inr (2, [.int 0, .ref yb, .ref zb, .int a1, .int a2, .int a3, .int a4, .int a5, .int a6, .int fo])), (yb, .inl (cI, 65536, .inl y)), (zb, .inl (cI, 33, .inl z))] H := hP
  have hD : va_D A [(k0, .inr (2, [.int 0, .ref yb, .ref zb, .int a1, .int a2, .int a3, .int a4, .int a5, .int a6, .int fo])), (yb, .inl (cI, 65536, .inl y)), (zb, .inl (cI, 33, .inl z))] := hD
  refine lv_iload_n hx hb dM_set_5 rfl (lv_at hl 1 rfl) ?_
  refine lv_if_lt (tgt := 15) hx hb dM_set_6 (by decide) (fun c_1 => ?_) (fun c_1 => ?_)
  · skip
    refine lv_iconst (v := 0) hx hb dM_set_15 (by decide) ?_
    exact W.zret (v := 0) hx hb hr rfl (fun t ht hW => ⟨⟨0, (0, z), rfl, by simp only [s_M_set, if_pos c_1], by rw [ht]; exact hP, va_K.moved hW.alike hK, hD⟩, hS.F ht⟩) hS.2.2 dM_set_16
  · skip
    refine lv_iload_n hx hb dM_set_9 rfl (lv_at hl 1 rfl) ?_
    refine lv_bipush (v := 32) hx hb dM_set_10 (by decide) ?_
    refine lv_icmp_le (tgt := 17) hx hb dM_set_12 (by decide) (fun c_2 => ?_) (fun c_2 => ?_)
    · skip
      refine lv_aload_n hx hb dM_set_17 rfl (lv_at hl 0 rfl) ?_
      refine va_get (D := (dC, dI)) (ci := 2) (v := .ref zb) (C := RX2) (T := TX2) (N := 10) hx hb hts miM_set_X2 hown hK hP 0 rfl rfl 2 (by decide) (hts _ mbM_set_2) (fun _ h9 => h9) rfl dM_set_18 ?_
      refine lv_iload_n hx hb dM_set_21 rfl (lv_at hl 1 rfl) ?_
      refine lv_iload_n hx hb dM_set_22 rfl (lv_at hl 1 rfl) ?_
      refine lv_bipush (v := 32) hx hb dM_set_23 (by decide) ?_
      refine lv_icmp_ne (tgt := 35) hx hb dM_set_25 (by decide) (fun c_3 => ?_) (fun c_3 => ?_)
      · skip
        refine lv_iload_n hx hb dM_set_35 rfl (lv_at hl 2 rfl) ?_
        refine va_iast hx hb hK hP hD hS 2 0 rfl rfl (in_mk c_1 (Int32.not_lt.mpr c_2)) dM_set_36 (fun H locs hP hD hS => ?_)
        have hP : va_P (dC, dI) vwCl [(k0, .inr (2, [.int 0, .ref yb, .ref zb, .int a1, .int a2, .int a3, .int a4, .int a5, .int a6, .int fo])), (yb, .inl (cI, 65536, .inl y)), (zb, .inl (cI, 33, .inl (upd z k.toNatClampNeg w)))] H := hP
        have hD : va_D A [(k0, .inr (2, [.int 0, .ref yb, .ref zb, .int a1, .int a2, .int a3, .int a4, .int a5, .int a6, .int fo])), (yb, .inl (cI, 65536, .inl y)), (zb, .inl (cI, 33, .inl (upd z k.toNatClampNeg w)))] := hD
        refine lv_iconst (v := 1) hx hb dM_set_37 (by decide) ?_
        exact W.zret (v := 1) hx hb hr rfl (fun t ht hW => ⟨⟨1, (0, upd z k.toNatClampNeg w), rfl, by simp only [s_M_set, if_neg c_1, if_pos c_2, if_neg c_3], by rw [ht]; exact hP, va_K.moved hW.alike hK, hD⟩, hS.F ht⟩) hS.2.2 dM_set_38
      · skip
        refine lv_iload_n hx hb dM_set_28 rfl (lv_at hl 2 rfl) ?_
        refine lv_bipush (v := 7) hx hb dM_set_29 (by decide) ?_
        refine lv_iand hx hb dM_set_31 ?_
        refine lv_goto (tgt := 36) hx hb dM_set_32 (by decide) ?_
        refine va_iast hx hb hK hP hD hS 2 0 rfl rfl (in_mk c_1 (Int32.not_lt.mpr c_2)) dM_set_36 (fun H locs hP hD hS => ?_)
        have hP : va_P (dC, dI) vwCl [(k0, .inr (2, [.int 0, .ref yb, .ref zb, .int a1, .int a2, .int a3, .int a4, .int a5, .int a6, .int fo])), (yb, .inl (cI, 65536, .inl y)), (zb, .inl (cI, 33, .inl (upd z k.toNatClampNeg (w &&& 7))))] H := hP
        have hD : va_D A [(k0, .inr (2, [.int 0, .ref yb, .ref zb, .int a1, .int a2, .int a3, .int a4, .int a5, .int a6, .int fo])), (yb, .inl (cI, 65536, .inl y)), (zb, .inl (cI, 33, .inl (upd z k.toNatClampNeg (w &&& 7))))] := hD
        refine lv_iconst (v := 1) hx hb dM_set_37 (by decide) ?_
        exact W.zret (v := 1) hx hb hr rfl (fun t ht hW => ⟨⟨1, (0, upd z k.toNatClampNeg (w &&& 7)), rfl, by simp only [s_M_set, if_neg c_1, if_pos c_2, if_pos c_3], by rw [ht]; exact hP, va_K.moved hW.alike hK, hD⟩, hS.F ht⟩) hS.2.2 dM_set_38
    · skip
      refine lv_iconst (v := 0) hx hb dM_set_15 (by decide) ?_
      exact W.zret (v := 0) hx hb hr rfl (fun t ht hW => ⟨⟨0, (0, z), rfl, by simp only [s_M_set, if_neg c_1, if_neg c_2], by rw [ht]; exact hP, va_K.moved hW.alike hK, hD⟩, hS.F ht⟩) hS.2.2 dM_set_16
set_option maxRecDepth 100000 in
theorem miM_map_X2 : ∀ w ∈ u_ws RX2 TX2 10, w ∈ wsM_map := by decide +kernel
set_option maxRecDepth 100000 in
theorem mbM_map_1 : (.fieldLink RX2 17 "SoftMapsModel" "thrown" "I" : Cond) ∈ wsM_map := by decide +kernel
set_option maxRecDepth 100000 in
theorem mbM_map_2 : (.fieldLink RX2 14 "SoftMapsModel" "specials" "[I" : Cond) ∈ wsM_map := by decide +kernel
def s_M_map (z : Nat → Int32) (v : Int32) (fm : Int32) (ri : Int32) (dd : Int32) : Int32 × Int32 × (Nat → Int32) :=
  if fm < 0 then
    ((-1), (0, z))
  else
    if 63 < fm then
      ((-1), (0, z))
    else
      if ri < 0 then
        ((-1), (0, z))
      else
        if ri ≤ 15 then
          if dd = 0 then
            ((ush v 10) - (ush v 10) / 8 * 8, (0, upd (upd z (0 + ((ush v 10) - (ush v 10) / 8 * 8)).toNatClampNeg (((v >>> ((10 : Int32) &&& 31)) <<< ((10 : Int32) &&& 31)) ||| 1)) ((0 + 8) + ((ush v 10) - (ush v 10) / 8 * 8)).toNatClampNeg ((1024 * fm) + ri)))
          else
            ((ush v 10) - (ush v 10) / 8 * 8, (0, upd (upd z (16 + ((ush v 10) - (ush v 10) / 8 * 8)).toNatClampNeg (((v >>> ((10 : Int32) &&& 31)) <<< ((10 : Int32) &&& 31)) ||| 1)) ((16 + 8) + ((ush v 10) - (ush v 10) / 8 * 8)).toNatClampNeg ((1024 * fm) + ri)))
        else
          ((-1), (0, z))
set_option maxHeartbeats 4000000 in
set_option maxRecDepth 100000 in
theorem c_M_map (l : Launch) (dC : Nat → ClassId) (dI : Nat → Nat → Nat) (sz : Nat) (k0 yb zb : Nat) (cI : ClassId) (y z : Nat → Int32) (th a1 a2 a3 a4 a5 a6 fo : Int32) (v : Int32) (fm : Int32) (ri : Int32) (dd : Int32)  : Met l yM_map wsM_map ({ frames := 0, cells := 0, slots := 0, locals := 0 }) (va_Pc [.ref k0, .int v, .int fm, .int ri, .int dd] (fun U => U.heap.size = sz ∧ va_P (dC, dI) vwCl [(k0, .inr (2, [.int th, .ref yb, .ref zb, .int a1, .int a2, .int a3, .int a4, .int a5, .int a6, .int fo])), (yb, .inl (cI, 65536, .inl y)), (zb, .inl (cI, 33, .inl z))] U.heap ∧ va_K (dC, dI) vwCl [(cI, .int)] U ∧ va_D (fun _ => True) [(k0, .inr (2, [.int th, .ref yb, .ref zb, .int a1, .int a2, .int a3, .int a4, .int a5, .int a6, .int fo])), (yb, .inl (cI, 65536, .inl y)), (zb, .inl (cI, 33, .inl z))])) (va_Qi (fun (a_ : Int32) (u : Int32 × (Nat → Int32)) => (a_, u) = s_M_map z v fm ri dd) (fun (u : Int32 × (Nat → Int32)) (t : State) => va_P (dC, dI) vwCl [(k0, .inr (2, [.int u.1, .ref yb, .ref zb, .int a1, .int a2, .int a3, .int a4, .int a5, .int a6, .int fo])), (yb, .inl (cI, 65536, .inl y)), (zb, .inl (cI, 33, .inl u.2))] t.heap ∧ va_K (dC, dI) vwCl [(cI, .int)] t ∧ va_D (va_A [(k0, .inr (2, [.int th, .ref yb, .ref zb, .int a1, .int a2, .int a3, .int a4, .int a5, .int a6, .int fo])), (yb, .inl (cI, 65536, .inl y)), (zb, .inl (cI, 33, .inl z))] sz) [(k0, .inr (2, [.int u.1, .ref yb, .ref zb, .int a1, .int a2, .int a3, .int a4, .int a5, .int a6, .int fo])), (yb, .inl (cI, 65536, .inl y)), (zb, .inl (cI, 33, .inl u.2))]) (va_A [(k0, .inr (2, [.int th, .ref yb, .ref zb, .int a1, .int a2, .int a3, .int a4, .int a5, .int a6, .int fo])), (yb, .inl (cI, 65536, .inl y)), (zb, .inl (cI, 33, .inl z))] sz)) 0 0 (va_A [(k0, .inr (2, [.int th, .ref yb, .ref zb, .int a1, .int a2, .int a3, .int a4, .int a5, .int a6, .int fo])), (yb, .inl (cI, 65536, .inl y)), (zb, .inl (cI, 33, .inl z))] sz) := by
  refine Met.ofW (cc := cM_map) (maxL := 7) (ret := (some .int)) (by decide) rfl ?_
  intro p e s m args below meth c s₁ B hml hv
  obtain ⟨rfl, hsz, hP, hK, hD0⟩ := hv
  have hx := B.exec
  have hb := B.bytes
  have hr := B.returns
  have hts := atoms_spec (ws := wsM_map) B.pre
  have hown : s.vm.findClass RX2 = some m.cls := findClass_of_methodNamed B.named
  have hlocks := B.notSynchronized
  subst hsz
  have hD := hD0.self (sz := s.heap.size)
  generalize hAe : va_A [(k0, .inr (2, [.int th, .ref yb, .ref zb, .int a1, .int a2, .int a3, .int a4, .int a5, .int a6, .int fo])), (yb, .inl (cI, 65536, .inl y)), (zb, .inl (cI, 33, .inl z))] s.heap.size = A at hD ⊢
  have hA : ∀ q : Nat, s.heap.size ≤ q → A q := fun q h => by rw [← hAe]; exact Or.inr h
  have hS : va_S A s.heap s.heap [] := va_S.rf
  have hP : va_P (dC, dI) vwCl [(k0, .inr (2, [.int th, .ref yb, .ref zb, .int a1, .int a2, .int a3, .int a4, .int a5, .int a6, .int fo])), (yb, .inl (cI, 65536, .inl y)), (zb, .inl (cI, 33, .inl z))] s.heap := hP
  have hl := lv_entry ([.ref k0, .int v, .int fm, .int ri, .int dd]) (n := 7) (Nat.le_of_ble_eq_true rfl)
  rw [lg_entry_eq]
  generalize (lg_sl ([.ref k0, .int v, .int fm, .int ri, .int dd]) ++ List.replicate (7 - (lg_sl ([.ref k0, .int v, .int fm, .int ri, .int dd])).length) Slot.unset).toArray = ls at hl ⊢
  have hl : lv_has ls 7 [(0, .ref k0), (1, .int v), (2, .int fm), (3, .int ri), (4, .int dd)] := hl
  refine lv_aload_n hx hb dM_map_0 rfl (lv_at hl 0 rfl) ?_
  refine lv_iconst (v := 0) hx hb dM_map_1 (by decide) ?_
  refine va_put (D := (dC, dI)) (ci := 2) (v := .int 0) (ty := tyX2 0) (C := RX2) (T := TX2) (N := 10) hx hb hts miM_map_X2 tyX2 tyX2_ok nmX2 hown hK hP hD hS 0 rfl rfl 0 (by decide) (hts _ mbM_map_1) (fun _ h9 => h9) rfl (by decide +kernel) rfl rfl (Nat.le_of_ble_eq_true rfl) dM_map_2 (fun H locs hP hD hS => ?_)
  have hP : va_P (dC, dI) vwCl [(k0, .inr (2, [.int 0, .ref yb, .ref zb, .int a1, .int a2, .int a3, .int a4, .int a5, .int a6, .int fo])), (yb, .inl (cI, 65536, .inl y)), (zb, .inl (cI, 33, .inl z))] H := hP
  have hD : va_D A [(k0, .inr (2, [.int 0, .ref yb, .ref zb, .int a1, .int a2, .int a3, .int a4, .int a5, .int a6, .int fo])), (yb, .inl (cI, 65536, .inl y)), (zb, .inl (cI, 33, .inl z))] := hD
  refine lv_iload_n hx hb dM_map_5 rfl (lv_at hl 2 rfl) ?_
  refine lv_if_lt (tgt := 25) hx hb dM_map_6 (by decide) (fun c_1 => ?_) (fun c_1 => ?_)
  · skip
    refine lv_iconst (v := (-1)) hx hb dM_map_25 (by decide) ?_
    exact W.iret (v := (-1)) hx hb hr (fun t ht hW => ⟨⟨(-1), (0, z), rfl, by simp only [s_M_map, if_pos c_1], by rw [ht]; exact hP, va_K.moved hW.alike hK, hD⟩, hS.F ht⟩) hS.2.2 dM_map_26
  · skip
    refine lv_iload_n hx hb dM_map_9 rfl (lv_at hl 2 rfl) ?_
    refine lv_bipush (v := 63) hx hb dM_map_10 (by decide) ?_
    refine lv_icmp_gt (tgt := 25) hx hb dM_map_12 (by decide) (fun c_2 => ?_) (fun c_2 => ?_)
    · skip
      refine lv_iconst (v := (-1)) hx hb dM_map_25 (by decide) ?_
      exact W.iret (v := (-1)) hx hb hr (fun t ht hW => ⟨⟨(-1), (0, z), rfl, by simp only [s_M_map, if_neg c_1, if_pos c_2], by rw [ht]; exact hP, va_K.moved hW.alike hK, hD⟩, hS.F ht⟩) hS.2.2 dM_map_26
    · skip
      refine lv_iload_n hx hb dM_map_15 rfl (lv_at hl 3 rfl) ?_
      refine lv_if_lt (tgt := 25) hx hb dM_map_16 (by decide) (fun c_3 => ?_) (fun c_3 => ?_)
      · skip
        refine lv_iconst (v := (-1)) hx hb dM_map_25 (by decide) ?_
        exact W.iret (v := (-1)) hx hb hr (fun t ht hW => ⟨⟨(-1), (0, z), rfl, by simp only [s_M_map, if_neg c_1, if_neg c_2, if_pos c_3], by rw [ht]; exact hP, va_K.moved hW.alike hK, hD⟩, hS.F ht⟩) hS.2.2 dM_map_26
      · skip
        refine lv_iload_n hx hb dM_map_19 rfl (lv_at hl 3 rfl) ?_
        refine lv_bipush (v := 15) hx hb dM_map_20 (by decide) ?_
        refine lv_icmp_le (tgt := 27) hx hb dM_map_22 (by decide) (fun c_4 => ?_) (fun c_4 => ?_)
        · skip
          refine lv_iload_n hx hb dM_map_27 rfl (lv_at hl 1 rfl) ?_
          refine lv_bipush (v := 10) hx hb dM_map_28 (by decide) ?_
          refine lv_iushr (v := ush v 10) hx hb dM_map_30 rfl ?_
          refine lv_bipush (v := 8) hx hb dM_map_31 (by decide) ?_
          refine lv_irem hx hb dM_map_33 (by decide) ?_
          refine lv_istore (lv' := [(5, .int ((ush v 10) - (ush v 10) / 8 * 8)), (0, .ref k0), (1, .int v), (2, .int fm), (3, .int ri), (4, .int dd)]) hx hb dM_map_34 hl (by decide) rfl (fun ls hl => ?_)
          refine lv_iload hx hb dM_map_36 (lv_at hl 5 rfl) ?_
          refine lv_if_eq (tgt := 46) hx hb dM_map_38 (by decide) (fun c_5 => ?_) (fun c_5 => ?_)
          · skip
            refine lv_iconst (v := 0) hx hb dM_map_46 (by decide) ?_
            refine lv_istore (lv' := [(6, .int 0), (5, .int ((ush v 10) - (ush v 10) / 8 * 8)), (0, .ref k0), (1, .int v), (2, .int fm), (3, .int ri), (4, .int dd)]) hx hb dM_map_47 hl (by decide) rfl (fun ls hl => ?_)
            refine lv_aload_n hx hb dM_map_49 rfl (lv_at hl 2 rfl) ?_
            refine va_get (D := (dC, dI)) (ci := 2) (v := .ref zb) (C := RX2) (T := TX2) (N := 10) hx hb hts miM_map_X2 hown hK hP 0 rfl rfl 2 (by decide) (hts _ mbM_map_2) (fun _ h9 => h9) rfl dM_map_50 ?_
            refine lv_iload hx hb dM_map_53 (lv_at hl 0 rfl) ?_
            refine lv_iload hx hb dM_map_55 (lv_at hl 1 rfl) ?_
            refine lv_iadd hx hb dM_map_57 ?_
            refine lv_iload_n hx hb dM_map_58 rfl (lv_at hl 3 rfl) ?_
            refine lv_bipush (v := 10) hx hb dM_map_59 (by decide) ?_
            refine lv_ishr hx hb dM_map_61 ?_
            refine lv_bipush (v := 10) hx hb dM_map_62 (by decide) ?_
            refine lv_ishl hx hb dM_map_64 ?_
            refine lv_iconst (v := 1) hx hb dM_map_65 (by decide) ?_
            refine lv_ior hx hb dM_map_66 ?_
            refine va_iast hx hb hK hP hD hS 2 0 rfl rfl (in_ms 0 (by decide) _ rfl v) dM_map_67 (fun H locs hP hD hS => ?_)
            have hP : va_P (dC, dI) vwCl [(k0, .inr (2, [.int 0, .ref yb, .ref zb, .int a1, .int a2, .int a3, .int a4, .int a5, .int a6, .int fo])), (yb, .inl (cI, 65536, .inl y)), (zb, .inl (cI, 33, .inl (upd z (0 + ((ush v 10) - (ush v 10) / 8 * 8)).toNatClampNeg (((v >>> ((10 : Int32) &&& 31)) <<< ((10 : Int32) &&& 31)) ||| 1))))] H := hP
            have hD : va_D A [(k0, .inr (2, [.int 0, .ref yb, .ref zb, .int a1, .int a2, .int a3, .int a4, .int a5, .int a6, .int fo])), (yb, .inl (cI, 65536, .inl y)), (zb, .inl (cI, 33, .inl (upd z (0 + ((ush v 10) - (ush v 10) / 8 * 8)).toNatClampNeg (((v >>> ((10 : Int32) &&& 31)) <<< ((10 : Int32) &&& 31)) ||| 1))))] := hD
            refine lv_aload_n hx hb dM_map_68 rfl (lv_at hl 2 rfl) ?_
            refine va_get (D := (dC, dI)) (ci := 2) (v := .ref zb) (C := RX2) (T := TX2) (N := 10) hx hb hts miM_map_X2 hown hK hP 0 rfl rfl 2 (by decide) (hts _ mbM_map_2) (fun _ h9 => h9) rfl dM_map_69 ?_
            refine lv_iload hx hb dM_map_72 (lv_at hl 0 rfl) ?_
            refine lv_bipush (v := 8) hx hb dM_map_74 (by decide) ?_
            refine lv_iadd hx hb dM_map_76 ?_
            refine lv_iload hx hb dM_map_77 (lv_at hl 1 rfl) ?_
            refine lv_iadd hx hb dM_map_79 ?_
            refine lv_sipush (v := 1024) hx hb dM_map_80 (by decide) ?_
            refine lv_iload_n hx hb dM_map_83 rfl (lv_at hl 4 rfl) ?_
            refine lv_imul hx hb dM_map_84 ?_
            refine lv_iload_n hx hb dM_map_85 rfl (lv_at hl 5 rfl) ?_
            refine lv_iadd hx hb dM_map_86 ?_
            refine va_iast hx hb hK hP hD hS 2 0 rfl rfl (in_ms 8 (by decide) _ rfl v) dM_map_87 (fun H locs hP hD hS => ?_)
            have hP : va_P (dC, dI) vwCl [(k0, .inr (2, [.int 0, .ref yb, .ref zb, .int a1, .int a2, .int a3, .int a4, .int a5, .int a6, .int fo])), (yb, .inl (cI, 65536, .inl y)), (zb, .inl (cI, 33, .inl (upd (upd z (0 + ((ush v 10) - (ush v 10) / 8 * 8)).toNatClampNeg (((v >>> ((10 : Int32) &&& 31)) <<< ((10 : Int32) &&& 31)) ||| 1)) ((0 + 8) + ((ush v 10) - (ush v 10) / 8 * 8)).toNatClampNeg ((1024 * fm) + ri))))] H := hP
            have hD : va_D A [(k0, .inr (2, [.int 0, .ref yb, .ref zb, .int a1, .int a2, .int a3, .int a4, .int a5, .int a6, .int fo])), (yb, .inl (cI, 65536, .inl y)), (zb, .inl (cI, 33, .inl (upd (upd z (0 + ((ush v 10) - (ush v 10) / 8 * 8)).toNatClampNeg (((v >>> ((10 : Int32) &&& 31)) <<< ((10 : Int32) &&& 31)) ||| 1)) ((0 + 8) + ((ush v 10) - (ush v 10) / 8 * 8)).toNatClampNeg ((1024 * fm) + ri))))] := hD
            refine lv_iload hx hb dM_map_88 (lv_at hl 1 rfl) ?_
            exact W.iret (v := (ush v 10) - (ush v 10) / 8 * 8) hx hb hr (fun t ht hW => ⟨⟨(ush v 10) - (ush v 10) / 8 * 8, (0, upd (upd z (0 + ((ush v 10) - (ush v 10) / 8 * 8)).toNatClampNeg (((v >>> ((10 : Int32) &&& 31)) <<< ((10 : Int32) &&& 31)) ||| 1)) ((0 + 8) + ((ush v 10) - (ush v 10) / 8 * 8)).toNatClampNeg ((1024 * fm) + ri)), rfl, by simp only [s_M_map, if_neg c_1, if_neg c_2, if_neg c_3, if_pos c_4, if_pos c_5], by rw [ht]; exact hP, va_K.moved hW.alike hK, hD⟩, hS.F ht⟩) hS.2.2 dM_map_90
          · skip
            refine lv_bipush (v := 16) hx hb dM_map_41 (by decide) ?_
            refine lv_goto (tgt := 47) hx hb dM_map_43 (by decide) ?_
            refine lv_istore (lv' := [(6, .int 16), (5, .int ((ush v 10) - (ush v 10) / 8 * 8)), (0, .ref k0), (1, .int v), (2, .int fm), (3, .int ri), (4, .int dd)]) hx hb dM_map_47 hl (by decide) rfl (fun ls hl => ?_)
            refine lv_aload_n hx hb dM_map_49 rfl (lv_at hl 2 rfl) ?_
            refine va_get (D := (dC, dI)) (ci := 2) (v := .ref zb) (C := RX2) (T := TX2) (N := 10) hx hb hts miM_map_X2 hown hK hP 0 rfl rfl 2 (by decide) (hts _ mbM_map_2) (fun _ h9 => h9) rfl dM_map_50 ?_
            refine lv_iload hx hb dM_map_53 (lv_at hl 0 rfl) ?_
            refine lv_iload hx hb dM_map_55 (lv_at hl 1 rfl) ?_
            refine lv_iadd hx hb dM_map_57 ?_
            refine lv_iload_n hx hb dM_map_58 rfl (lv_at hl 3 rfl) ?_
            refine lv_bipush (v := 10) hx hb dM_map_59 (by decide) ?_
            refine lv_ishr hx hb dM_map_61 ?_
            refine lv_bipush (v := 10) hx hb dM_map_62 (by decide) ?_
            refine lv_ishl hx hb dM_map_64 ?_
            refine lv_iconst (v := 1) hx hb dM_map_65 (by decide) ?_
            refine lv_ior hx hb dM_map_66 ?_
            refine va_iast hx hb hK hP hD hS 2 0 rfl rfl (in_ms 16 (by decide) _ rfl v) dM_map_67 (fun H locs hP hD hS => ?_)
            have hP : va_P (dC, dI) vwCl [(k0, .inr (2, [.int 0, .ref yb, .ref zb, .int a1, .int a2, .int a3, .int a4, .int a5, .int a6, .int fo])), (yb, .inl (cI, 65536, .inl y)), (zb, .inl (cI, 33, .inl (upd z (16 + ((ush v 10) - (ush v 10) / 8 * 8)).toNatClampNeg (((v >>> ((10 : Int32) &&& 31)) <<< ((10 : Int32) &&& 31)) ||| 1))))] H := hP
            have hD : va_D A [(k0, .inr (2, [.int 0, .ref yb, .ref zb, .int a1, .int a2, .int a3, .int a4, .int a5, .int a6, .int fo])), (yb, .inl (cI, 65536, .inl y)), (zb, .inl (cI, 33, .inl (upd z (16 + ((ush v 10) - (ush v 10) / 8 * 8)).toNatClampNeg (((v >>> ((10 : Int32) &&& 31)) <<< ((10 : Int32) &&& 31)) ||| 1))))] := hD
            refine lv_aload_n hx hb dM_map_68 rfl (lv_at hl 2 rfl) ?_
            refine va_get (D := (dC, dI)) (ci := 2) (v := .ref zb) (C := RX2) (T := TX2) (N := 10) hx hb hts miM_map_X2 hown hK hP 0 rfl rfl 2 (by decide) (hts _ mbM_map_2) (fun _ h9 => h9) rfl dM_map_69 ?_
            refine lv_iload hx hb dM_map_72 (lv_at hl 0 rfl) ?_
            refine lv_bipush (v := 8) hx hb dM_map_74 (by decide) ?_
            refine lv_iadd hx hb dM_map_76 ?_
            refine lv_iload hx hb dM_map_77 (lv_at hl 1 rfl) ?_
            refine lv_iadd hx hb dM_map_79 ?_
            refine lv_sipush (v := 1024) hx hb dM_map_80 (by decide) ?_
            refine lv_iload_n hx hb dM_map_83 rfl (lv_at hl 4 rfl) ?_
            refine lv_imul hx hb dM_map_84 ?_
            refine lv_iload_n hx hb dM_map_85 rfl (lv_at hl 5 rfl) ?_
            refine lv_iadd hx hb dM_map_86 ?_
            refine va_iast hx hb hK hP hD hS 2 0 rfl rfl (in_ms 24 (by decide) _ rfl v) dM_map_87 (fun H locs hP hD hS => ?_)
            have hP : va_P (dC, dI) vwCl [(k0, .inr (2, [.int 0, .ref yb, .ref zb, .int a1, .int a2, .int a3, .int a4, .int a5, .int a6, .int fo])), (yb, .inl (cI, 65536, .inl y)), (zb, .inl (cI, 33, .inl (upd (upd z (16 + ((ush v 10) - (ush v 10) / 8 * 8)).toNatClampNeg (((v >>> ((10 : Int32) &&& 31)) <<< ((10 : Int32) &&& 31)) ||| 1)) ((16 + 8) + ((ush v 10) - (ush v 10) / 8 * 8)).toNatClampNeg ((1024 * fm) + ri))))] H := hP
            have hD : va_D A [(k0, .inr (2, [.int 0, .ref yb, .ref zb, .int a1, .int a2, .int a3, .int a4, .int a5, .int a6, .int fo])), (yb, .inl (cI, 65536, .inl y)), (zb, .inl (cI, 33, .inl (upd (upd z (16 + ((ush v 10) - (ush v 10) / 8 * 8)).toNatClampNeg (((v >>> ((10 : Int32) &&& 31)) <<< ((10 : Int32) &&& 31)) ||| 1)) ((16 + 8) + ((ush v 10) - (ush v 10) / 8 * 8)).toNatClampNeg ((1024 * fm) + ri))))] := hD
            refine lv_iload hx hb dM_map_88 (lv_at hl 1 rfl) ?_
            exact W.iret (v := (ush v 10) - (ush v 10) / 8 * 8) hx hb hr (fun t ht hW => ⟨⟨(ush v 10) - (ush v 10) / 8 * 8, (0, upd (upd z (16 + ((ush v 10) - (ush v 10) / 8 * 8)).toNatClampNeg (((v >>> ((10 : Int32) &&& 31)) <<< ((10 : Int32) &&& 31)) ||| 1)) ((16 + 8) + ((ush v 10) - (ush v 10) / 8 * 8)).toNatClampNeg ((1024 * fm) + ri)), rfl, by simp only [s_M_map, if_neg c_1, if_neg c_2, if_neg c_3, if_pos c_4, if_neg c_5], by rw [ht]; exact hP, va_K.moved hW.alike hK, hD⟩, hS.F ht⟩) hS.2.2 dM_map_90
        · skip
          refine lv_iconst (v := (-1)) hx hb dM_map_25 (by decide) ?_
          exact W.iret (v := (-1)) hx hb hr (fun t ht hW => ⟨⟨(-1), (0, z), rfl, by simp only [s_M_map, if_neg c_1, if_neg c_2, if_neg c_3, if_neg c_4], by rw [ht]; exact hP, va_K.moved hW.alike hK, hD⟩, hS.F ht⟩) hS.2.2 dM_map_26
set_option maxRecDepth 100000 in
theorem miM_special_X2 : ∀ w ∈ u_ws RX2 TX2 10, w ∈ wsM_special := by decide +kernel
set_option maxRecDepth 100000 in
theorem mbM_special_1 : (.fieldLink RX2 17 "SoftMapsModel" "thrown" "I" : Cond) ∈ wsM_special := by decide +kernel
set_option maxRecDepth 100000 in
theorem mbM_special_2 : (.fieldLink RX2 14 "SoftMapsModel" "specials" "[I" : Cond) ∈ wsM_special := by decide +kernel
def s_M_special (z : Nat → Int32) (k : Int32) : Int32 × Int32 :=
  if k < 0 then
    (0, 0)
  else
    if k ≤ 32 then
      (z k.toNatClampNeg, 0)
    else
      (0, 0)
set_option maxHeartbeats 4000000 in
set_option maxRecDepth 100000 in
theorem c_M_special (l : Launch) (dC : Nat → ClassId) (dI : Nat → Nat → Nat) (sz : Nat) (k0 yb zb : Nat) (cI : ClassId) (y z : Nat → Int32) (th a1 a2 a3 a4 a5 a6 fo : Int32) (k : Int32)  : Met l yM_special wsM_special ({ frames := 0, cells := 0, slots := 0, locals := 0 }) (va_Pc [.ref k0, .int k] (fun U => U.heap.size = sz ∧ va_P (dC, dI) vwCl [(k0, .inr (2, [.int th, .ref yb, .ref zb, .int a1, .int a2, .int a3, .int a4, .int a5, .int a6, .int fo])), (yb, .inl (cI, 65536, .inl y)), (zb, .inl (cI, 33, .inl z))] U.heap ∧ va_K (dC, dI) vwCl [(cI, .int)] U ∧ va_D (fun _ => True) [(k0, .inr (2, [.int th, .ref yb, .ref zb, .int a1, .int a2, .int a3, .int a4, .int a5, .int a6, .int fo])), (yb, .inl (cI, 65536, .inl y)), (zb, .inl (cI, 33, .inl z))])) (va_Qi (fun (a_ : Int32) (u : Int32) => (a_, u) = s_M_special z k) (fun (u : Int32) (t : State) => va_P (dC, dI) vwCl [(k0, .inr (2, [.int u, .ref yb, .ref zb, .int a1, .int a2, .int a3, .int a4, .int a5, .int a6, .int fo])), (yb, .inl (cI, 65536, .inl y)), (zb, .inl (cI, 33, .inl z))] t.heap ∧ va_K (dC, dI) vwCl [(cI, .int)] t ∧ va_D (va_A [(k0, .inr (2, [.int th, .ref yb, .ref zb, .int a1, .int a2, .int a3, .int a4, .int a5, .int a6, .int fo])), (yb, .inl (cI, 65536, .inl y)), (zb, .inl (cI, 33, .inl z))] sz) [(k0, .inr (2, [.int u, .ref yb, .ref zb, .int a1, .int a2, .int a3, .int a4, .int a5, .int a6, .int fo])), (yb, .inl (cI, 65536, .inl y)), (zb, .inl (cI, 33, .inl z))]) (va_A [(k0, .inr (2, [.int th, .ref yb, .ref zb, .int a1, .int a2, .int a3, .int a4, .int a5, .int a6, .int fo])), (yb, .inl (cI, 65536, .inl y)), (zb, .inl (cI, 33, .inl z))] sz)) 0 0 (va_A [(k0, .inr (2, [.int th, .ref yb, .ref zb, .int a1, .int a2, .int a3, .int a4, .int a5, .int a6, .int fo])), (yb, .inl (cI, 65536, .inl y)), (zb, .inl (cI, 33, .inl z))] sz) := by
  refine Met.ofW (cc := cM_special) (maxL := 2) (ret := (some .int)) (by decide) rfl ?_
  intro p e s m args below meth c s₁ B hml hv
  obtain ⟨rfl, hsz, hP, hK, hD0⟩ := hv
  have hx := B.exec
  have hb := B.bytes
  have hr := B.returns
  have hts := atoms_spec (ws := wsM_special) B.pre
  have hown : s.vm.findClass RX2 = some m.cls := findClass_of_methodNamed B.named
  have hlocks := B.notSynchronized
  subst hsz
  have hD := hD0.self (sz := s.heap.size)
  generalize hAe : va_A [(k0, .inr (2, [.int th, .ref yb, .ref zb, .int a1, .int a2, .int a3, .int a4, .int a5, .int a6, .int fo])), (yb, .inl (cI, 65536, .inl y)), (zb, .inl (cI, 33, .inl z))] s.heap.size = A at hD ⊢
  have hA : ∀ q : Nat, s.heap.size ≤ q → A q := fun q h => by rw [← hAe]; exact Or.inr h
  have hS : va_S A s.heap s.heap [] := va_S.rf
  have hP : va_P (dC, dI) vwCl [(k0, .inr (2, [.int th, .ref yb, .ref zb, .int a1, .int a2, .int a3, .int a4, .int a5, .int a6, .int fo])), (yb, .inl (cI, 65536, .inl y)), (zb, .inl (cI, 33, .inl z))] s.heap := hP
  have hl := lv_entry ([.ref k0, .int k]) (n := 2) (Nat.le_of_ble_eq_true rfl)
  rw [lg_entry_eq]
  generalize (lg_sl ([.ref k0, .int k]) ++ List.replicate (2 - (lg_sl ([.ref k0, .int k])).length) Slot.unset).toArray = ls at hl ⊢
  have hl : lv_has ls 2 [(0, .ref k0), (1, .int k)] := hl
  refine lv_aload_n hx hb dM_special_0 rfl (lv_at hl 0 rfl) ?_
  refine lv_iconst (v := 0) hx hb dM_special_1 (by decide) ?_
  refine va_put (D := (dC, dI)) (ci := 2) (v := .int 0) (ty := tyX2 0) (C := RX2) (T := TX2) (N := 10) hx hb hts miM_special_X2 tyX2 tyX2_ok nmX2 hown hK hP hD hS 0 rfl rfl 0 (by decide) (hts _ mbM_special_1) (fun _ h9 => h9) rfl (by decide +kernel) rfl rfl (Nat.le_of_ble_eq_true rfl) dM_special_2 (fun H locs hP hD hS => ?_)
  have hP : va_P (dC, dI) vwCl [(k0, .inr (2, [.int 0, .ref yb, .ref zb, .int a1, .int a2, .int a3, .int a4, .int a5, .int a6, .int fo])), (yb, .inl (cI, 65536, .inl y)), (zb, .inl (cI, 33, .inl z))] H := hP
  have hD : va_D A [(k0, .inr (2, [.int 0, .ref yb, .ref zb, .int a1, .int a2, .int a3, .int a4, .int a5, .int a6, .int fo])), (yb, .inl (cI, 65536, .inl y)), (zb, .inl (cI, 33, .inl z))] := hD
  refine lv_iload_n hx hb dM_special_5 rfl (lv_at hl 1 rfl) ?_
  refine lv_if_lt (tgt := 15) hx hb dM_special_6 (by decide) (fun c_1 => ?_) (fun c_1 => ?_)
  · skip
    refine lv_iconst (v := 0) hx hb dM_special_15 (by decide) ?_
    refine lv_goto (tgt := 25) hx hb dM_special_16 (by decide) ?_
    exact W.iret (v := 0) hx hb hr (fun t ht hW => ⟨⟨0, 0, rfl, by simp only [s_M_special, if_pos c_1], by rw [ht]; exact hP, va_K.moved hW.alike hK, hD⟩, hS.F ht⟩) hS.2.2 dM_special_25
  · skip
    refine lv_iload_n hx hb dM_special_9 rfl (lv_at hl 1 rfl) ?_
    refine lv_bipush (v := 32) hx hb dM_special_10 (by decide) ?_
    refine lv_icmp_le (tgt := 19) hx hb dM_special_12 (by decide) (fun c_2 => ?_) (fun c_2 => ?_)
    · skip
      refine lv_aload_n hx hb dM_special_19 rfl (lv_at hl 0 rfl) ?_
      refine va_get (D := (dC, dI)) (ci := 2) (v := .ref zb) (C := RX2) (T := TX2) (N := 10) hx hb hts miM_special_X2 hown hK hP 0 rfl rfl 2 (by decide) (hts _ mbM_special_2) (fun _ h9 => h9) rfl dM_special_20 ?_
      refine lv_iload_n hx hb dM_special_23 rfl (lv_at hl 1 rfl) ?_
      refine va_iald hx hb hK hP 2 0 rfl rfl (in_mk c_1 (Int32.not_lt.mpr c_2)) dM_special_24 ?_
      exact W.iret (v := z k.toNatClampNeg) hx hb hr (fun t ht hW => ⟨⟨z k.toNatClampNeg, 0, rfl, by simp only [s_M_special, if_neg c_1, if_pos c_2], by rw [ht]; exact hP, va_K.moved hW.alike hK, hD⟩, hS.F ht⟩) hS.2.2 dM_special_25
    · skip
      refine lv_iconst (v := 0) hx hb dM_special_15 (by decide) ?_
      refine lv_goto (tgt := 25) hx hb dM_special_16 (by decide) ?_
      exact W.iret (v := 0) hx hb hr (fun t ht hW => ⟨⟨0, 0, rfl, by simp only [s_M_special, if_neg c_1, if_neg c_2], by rw [ht]; exact hP, va_K.moved hW.alike hK, hD⟩, hS.F ht⟩) hS.2.2 dM_special_25
set_option maxRecDepth 100000 in
theorem miM_matched_X2 : ∀ w ∈ u_ws RX2 TX2 10, w ∈ wsM_matched := by decide +kernel
set_option maxRecDepth 100000 in
theorem mbM_matched_1 : (.fieldLink RX2 14 "SoftMapsModel" "specials" "[I" : Cond) ∈ wsM_matched := by decide +kernel
def s_M_matched (z : Nat → Int32) (fr : Int32) : Int32 :=
  (((((((0 + ((z (fr + 0).toNatClampNeg) &&& 1)) + ((z (fr + 1).toNatClampNeg) &&& 1)) + ((z (fr + 2).toNatClampNeg) &&& 1)) + ((z (fr + 3).toNatClampNeg) &&& 1)) + ((z (fr + 4).toNatClampNeg) &&& 1)) + ((z (fr + 5).toNatClampNeg) &&& 1)) + ((z (fr + 6).toNatClampNeg) &&& 1)) + ((z (fr + 7).toNatClampNeg) &&& 1)
set_option maxHeartbeats 4000000 in
set_option maxRecDepth 100000 in
theorem c_M_matched (l : Launch) (dC : Nat → ClassId) (dI : Nat → Nat → Nat) (k0 yb zb : Nat) (cI : ClassId) (y z : Nat → Int32) (th a1 a2 a3 a4 a5 a6 fo : Int32) (fr : Int32) (hf : fr_ok fr) : Met l yM_matched wsM_matched ({ frames := 0, cells := 0, slots := 0, locals := 0 }) (va_Pc [.ref k0, .int fr] (fun U => va_P (dC, dI) vwCl [(k0, .inr (2, [.int th, .ref yb, .ref zb, .int a1, .int a2, .int a3, .int a4, .int a5, .int a6, .int fo])), (yb, .inl (cI, 65536, .inl y)), (zb, .inl (cI, 33, .inl z))] U.heap ∧ va_K (dC, dI) vwCl [(cI, .int)] U)) (vp_Si (fun x_ => x_ = s_M_matched z fr)) 0 0 (fun _ => False) := by
  refine Met.ofW (cc := cM_matched) (maxL := 4) (ret := (some .int)) (by decide) rfl ?_
  intro p e s m args below meth c s₁ B hml hv
  obtain ⟨rfl, hP, hK⟩ := hv
  have hx := B.exec
  have hb := B.bytes
  have hr := B.returns
  have hts := atoms_spec (ws := wsM_matched) B.pre
  have hown : s.vm.findClass RX2 = some m.cls := findClass_of_methodNamed B.named
  have hlocks := B.notSynchronized
  have hl := lv_entry ([.ref k0, .int fr]) (n := 4) (Nat.le_of_ble_eq_true rfl)
  rw [lg_entry_eq]
  generalize (lg_sl ([.ref k0, .int fr]) ++ List.replicate (4 - (lg_sl ([.ref k0, .int fr])).length) Slot.unset).toArray = ls at hl ⊢
  have hl : lv_has ls 4 [(0, .ref k0), (1, .int fr)] := hl
  have hP : va_P (dC, dI) vwCl [(k0, .inr (2, [.int th, .ref yb, .ref zb, .int a1, .int a2, .int a3, .int a4, .int a5, .int a6, .int fo])), (yb, .inl (cI, 65536, .inl y)), (zb, .inl (cI, 33, .inl z))] s.heap := hP
  refine lv_iconst (v := 0) hx hb dM_matched_0 (by decide) ?_
  refine lv_istore_n (lv' := [(2, .int 0), (0, .ref k0), (1, .int fr)]) hx hb dM_matched_1 rfl hl (by decide) rfl (fun ls hl => ?_)
  refine lv_iconst (v := 0) hx hb dM_matched_2 (by decide) ?_
  refine lv_istore_n (lv' := [(3, .int 0), (2, .int 0), (0, .ref k0), (1, .int fr)]) hx hb dM_matched_3 rfl hl (by decide) rfl (fun ls hl => ?_)
  refine lv_iload_n hx hb dM_matched_4 rfl (lv_at hl 0 rfl) ?_
  refine lv_bipush (v := 8) hx hb dM_matched_5 (by decide) ?_
  refine lv_icmp_ge (tgt := 29) hx hb dM_matched_7 (by decide) (fun c_1 => ?_) (fun c_1 => ?_)
  · exact absurd c_1 (by decide)
  · skip
    refine lv_iload_n hx hb dM_matched_10 rfl (lv_at hl 1 rfl) ?_
    refine lv_aload_n hx hb dM_matched_11 rfl (lv_at hl 2 rfl) ?_
    refine va_get (D := (dC, dI)) (ci := 2) (v := .ref zb) (C := RX2) (T := TX2) (N := 10) hx hb hts miM_matched_X2 hown hK hP 0 rfl rfl 2 (by decide) (hts _ mbM_matched_1) (fun _ h9 => h9) rfl dM_matched_12 ?_
    refine lv_iload_n hx hb dM_matched_15 rfl (lv_at hl 3 rfl) ?_
    refine lv_iload_n hx hb dM_matched_16 rfl (lv_at hl 0 rfl) ?_
    refine lv_iadd hx hb dM_matched_17 ?_
    refine va_iald hx hb hK hP 2 0 rfl rfl (in_fr hf 0 (by decide) _ rfl) dM_matched_18 ?_
    refine lv_iconst (v := 1) hx hb dM_matched_19 (by decide) ?_
    refine lv_iand hx hb dM_matched_20 ?_
    refine lv_iadd hx hb dM_matched_21 ?_
    refine lv_istore_n (lv' := [(2, .int (0 + ((z (fr + 0).toNatClampNeg) &&& 1))), (3, .int 0), (0, .ref k0), (1, .int fr)]) hx hb dM_matched_22 rfl hl (by decide) rfl (fun ls hl => ?_)
    refine lv_iinc (v := 1) (lv' := [(3, .int 1), (2, .int (0 + ((z (fr + 0).toNatClampNeg) &&& 1))), (0, .ref k0), (1, .int fr)]) hx hb dM_matched_23 hl (k := 1) rfl rfl (by decide) rfl (fun ls hl => ?_)
    refine lv_goto (tgt := 4) hx hb dM_matched_26 (by decide) ?_
    refine lv_iload_n hx hb dM_matched_4 rfl (lv_at hl 0 rfl) ?_
    refine lv_bipush (v := 8) hx hb dM_matched_5 (by decide) ?_
    refine lv_icmp_ge (tgt := 29) hx hb dM_matched_7 (by decide) (fun c_2 => ?_) (fun c_2 => ?_)
    · exact absurd c_2 (by decide)
    · skip
      refine lv_iload_n hx hb dM_matched_10 rfl (lv_at hl 1 rfl) ?_
      refine lv_aload_n hx hb dM_matched_11 rfl (lv_at hl 2 rfl) ?_
      refine va_get (D := (dC, dI)) (ci := 2) (v := .ref zb) (C := RX2) (T := TX2) (N := 10) hx hb hts miM_matched_X2 hown hK hP 0 rfl rfl 2 (by decide) (hts _ mbM_matched_1) (fun _ h9 => h9) rfl dM_matched_12 ?_
      refine lv_iload_n hx hb dM_matched_15 rfl (lv_at hl 3 rfl) ?_
      refine lv_iload_n hx hb dM_matched_16 rfl (lv_at hl 0 rfl) ?_
      refine lv_iadd hx hb dM_matched_17 ?_
      refine va_iald hx hb hK hP 2 0 rfl rfl (in_fr hf 1 (by decide) _ rfl) dM_matched_18 ?_
      refine lv_iconst (v := 1) hx hb dM_matched_19 (by decide) ?_
      refine lv_iand hx hb dM_matched_20 ?_
      refine lv_iadd hx hb dM_matched_21 ?_
      refine lv_istore_n (lv' := [(2, .int ((0 + ((z (fr + 0).toNatClampNeg) &&& 1)) + ((z (fr + 1).toNatClampNeg) &&& 1))), (3, .int 1), (0, .ref k0), (1, .int fr)]) hx hb dM_matched_22 rfl hl (by decide) rfl (fun ls hl => ?_)
      refine lv_iinc (v := 2) (lv' := [(3, .int 2), (2, .int ((0 + ((z (fr + 0).toNatClampNeg) &&& 1)) + ((z (fr + 1).toNatClampNeg) &&& 1))), (0, .ref k0), (1, .int fr)]) hx hb dM_matched_23 hl (k := 1) rfl rfl (by decide) rfl (fun ls hl => ?_)
      refine lv_goto (tgt := 4) hx hb dM_matched_26 (by decide) ?_
      refine lv_iload_n hx hb dM_matched_4 rfl (lv_at hl 0 rfl) ?_
      refine lv_bipush (v := 8) hx hb dM_matched_5 (by decide) ?_
      refine lv_icmp_ge (tgt := 29) hx hb dM_matched_7 (by decide) (fun c_3 => ?_) (fun c_3 => ?_)
      · exact absurd c_3 (by decide)
      · skip
        refine lv_iload_n hx hb dM_matched_10 rfl (lv_at hl 1 rfl) ?_
        refine lv_aload_n hx hb dM_matched_11 rfl (lv_at hl 2 rfl) ?_
        refine va_get (D := (dC, dI)) (ci := 2) (v := .ref zb) (C := RX2) (T := TX2) (N := 10) hx hb hts miM_matched_X2 hown hK hP 0 rfl rfl 2 (by decide) (hts _ mbM_matched_1) (fun _ h9 => h9) rfl dM_matched_12 ?_
        refine lv_iload_n hx hb dM_matched_15 rfl (lv_at hl 3 rfl) ?_
        refine lv_iload_n hx hb dM_matched_16 rfl (lv_at hl 0 rfl) ?_
        refine lv_iadd hx hb dM_matched_17 ?_
        refine va_iald hx hb hK hP 2 0 rfl rfl (in_fr hf 2 (by decide) _ rfl) dM_matched_18 ?_
        refine lv_iconst (v := 1) hx hb dM_matched_19 (by decide) ?_
        refine lv_iand hx hb dM_matched_20 ?_
        refine lv_iadd hx hb dM_matched_21 ?_
        refine lv_istore_n (lv' := [(2, .int (((0 + ((z (fr + 0).toNatClampNeg) &&& 1)) + ((z (fr + 1).toNatClampNeg) &&& 1)) + ((z (fr + 2).toNatClampNeg) &&& 1))), (3, .int 2), (0, .ref k0), (1, .int fr)]) hx hb dM_matched_22 rfl hl (by decide) rfl (fun ls hl => ?_)
        refine lv_iinc (v := 3) (lv' := [(3, .int 3), (2, .int (((0 + ((z (fr + 0).toNatClampNeg) &&& 1)) + ((z (fr + 1).toNatClampNeg) &&& 1)) + ((z (fr + 2).toNatClampNeg) &&& 1))), (0, .ref k0), (1, .int fr)]) hx hb dM_matched_23 hl (k := 1) rfl rfl (by decide) rfl (fun ls hl => ?_)
        refine lv_goto (tgt := 4) hx hb dM_matched_26 (by decide) ?_
        refine lv_iload_n hx hb dM_matched_4 rfl (lv_at hl 0 rfl) ?_
        refine lv_bipush (v := 8) hx hb dM_matched_5 (by decide) ?_
        refine lv_icmp_ge (tgt := 29) hx hb dM_matched_7 (by decide) (fun c_4 => ?_) (fun c_4 => ?_)
        · exact absurd c_4 (by decide)
        · skip
          refine lv_iload_n hx hb dM_matched_10 rfl (lv_at hl 1 rfl) ?_
          refine lv_aload_n hx hb dM_matched_11 rfl (lv_at hl 2 rfl) ?_
          refine va_get (D := (dC, dI)) (ci := 2) (v := .ref zb) (C := RX2) (T := TX2) (N := 10) hx hb hts miM_matched_X2 hown hK hP 0 rfl rfl 2 (by decide) (hts _ mbM_matched_1) (fun _ h9 => h9) rfl dM_matched_12 ?_
          refine lv_iload_n hx hb dM_matched_15 rfl (lv_at hl 3 rfl) ?_
          refine lv_iload_n hx hb dM_matched_16 rfl (lv_at hl 0 rfl) ?_
          refine lv_iadd hx hb dM_matched_17 ?_
          refine va_iald hx hb hK hP 2 0 rfl rfl (in_fr hf 3 (by decide) _ rfl) dM_matched_18 ?_
          refine lv_iconst (v := 1) hx hb dM_matched_19 (by decide) ?_
          refine lv_iand hx hb dM_matched_20 ?_
          refine lv_iadd hx hb dM_matched_21 ?_
          refine lv_istore_n (lv' := [(2, .int ((((0 + ((z (fr + 0).toNatClampNeg) &&& 1)) + ((z (fr + 1).toNatClampNeg) &&& 1)) + ((z (fr + 2).toNatClampNeg) &&& 1)) + ((z (fr + 3).toNatClampNeg) &&& 1))), (3, .int 3), (0, .ref k0), (1, .int fr)]) hx hb dM_matched_22 rfl hl (by decide) rfl (fun ls hl => ?_)
          refine lv_iinc (v := 4) (lv' := [(3, .int 4), (2, .int ((((0 + ((z (fr + 0).toNatClampNeg) &&& 1)) + ((z (fr + 1).toNatClampNeg) &&& 1)) + ((z (fr + 2).toNatClampNeg) &&& 1)) + ((z (fr + 3).toNatClampNeg) &&& 1))), (0, .ref k0), (1, .int fr)]) hx hb dM_matched_23 hl (k := 1) rfl rfl (by decide) rfl (fun ls hl => ?_)
          refine lv_goto (tgt := 4) hx hb dM_matched_26 (by decide) ?_
          refine lv_iload_n hx hb dM_matched_4 rfl (lv_at hl 0 rfl) ?_
          refine lv_bipush (v := 8) hx hb dM_matched_5 (by decide) ?_
          refine lv_icmp_ge (tgt := 29) hx hb dM_matched_7 (by decide) (fun c_5 => ?_) (fun c_5 => ?_)
          · exact absurd c_5 (by decide)
          · skip
            refine lv_iload_n hx hb dM_matched_10 rfl (lv_at hl 1 rfl) ?_
            refine lv_aload_n hx hb dM_matched_11 rfl (lv_at hl 2 rfl) ?_
            refine va_get (D := (dC, dI)) (ci := 2) (v := .ref zb) (C := RX2) (T := TX2) (N := 10) hx hb hts miM_matched_X2 hown hK hP 0 rfl rfl 2 (by decide) (hts _ mbM_matched_1) (fun _ h9 => h9) rfl dM_matched_12 ?_
            refine lv_iload_n hx hb dM_matched_15 rfl (lv_at hl 3 rfl) ?_
            refine lv_iload_n hx hb dM_matched_16 rfl (lv_at hl 0 rfl) ?_
            refine lv_iadd hx hb dM_matched_17 ?_
            refine va_iald hx hb hK hP 2 0 rfl rfl (in_fr hf 4 (by decide) _ rfl) dM_matched_18 ?_
            refine lv_iconst (v := 1) hx hb dM_matched_19 (by decide) ?_
            refine lv_iand hx hb dM_matched_20 ?_
            refine lv_iadd hx hb dM_matched_21 ?_
            refine lv_istore_n (lv' := [(2, .int (((((0 + ((z (fr + 0).toNatClampNeg) &&& 1)) + ((z (fr + 1).toNatClampNeg) &&& 1)) + ((z (fr + 2).toNatClampNeg) &&& 1)) + ((z (fr + 3).toNatClampNeg) &&& 1)) + ((z (fr + 4).toNatClampNeg) &&& 1))), (3, .int 4), (0, .ref k0), (1, .int fr)]) hx hb dM_matched_22 rfl hl (by decide) rfl (fun ls hl => ?_)
            refine lv_iinc (v := 5) (lv' := [(3, .int 5), (2, .int (((((0 + ((z (fr + 0).toNatClampNeg) &&& 1)) + ((z (fr + 1).toNatClampNeg) &&& 1)) + ((z (fr + 2).toNatClampNeg) &&& 1)) + ((z (fr + 3).toNatClampNeg) &&& 1)) + ((z (fr + 4).toNatClampNeg) &&& 1))), (0, .ref k0), (1, .int fr)]) hx hb dM_matched_23 hl (k := 1) rfl rfl (by decide) rfl (fun ls hl => ?_)
            refine lv_goto (tgt := 4) hx hb dM_matched_26 (by decide) ?_
            refine lv_iload_n hx hb dM_matched_4 rfl (lv_at hl 0 rfl) ?_
            refine lv_bipush (v := 8) hx hb dM_matched_5 (by decide) ?_
            refine lv_icmp_ge (tgt := 29) hx hb dM_matched_7 (by decide) (fun c_6 => ?_) (fun c_6 => ?_)
            · exact absurd c_6 (by decide)
            · skip
              refine lv_iload_n hx hb dM_matched_10 rfl (lv_at hl 1 rfl) ?_
              refine lv_aload_n hx hb dM_matched_11 rfl (lv_at hl 2 rfl) ?_
              refine va_get (D := (dC, dI)) (ci := 2) (v := .ref zb) (C := RX2) (T := TX2) (N := 10) hx hb hts miM_matched_X2 hown hK hP 0 rfl rfl 2 (by decide) (hts _ mbM_matched_1) (fun _ h9 => h9) rfl dM_matched_12 ?_
              refine lv_iload_n hx hb dM_matched_15 rfl (lv_at hl 3 rfl) ?_
              refine lv_iload_n hx hb dM_matched_16 rfl (lv_at hl 0 rfl) ?_
              refine lv_iadd hx hb dM_matched_17 ?_
              refine va_iald hx hb hK hP 2 0 rfl rfl (in_fr hf 5 (by decide) _ rfl) dM_matched_18 ?_
              refine lv_iconst (v := 1) hx hb dM_matched_19 (by decide) ?_
              refine lv_iand hx hb dM_matched_20 ?_
              refine lv_iadd hx hb dM_matched_21 ?_
              refine lv_istore_n (lv' := [(2, .int ((((((0 + ((z (fr + 0).toNatClampNeg) &&& 1)) + ((z (fr + 1).toNatClampNeg) &&& 1)) + ((z (fr + 2).toNatClampNeg) &&& 1)) + ((z (fr + 3).toNatClampNeg) &&& 1)) + ((z (fr + 4).toNatClampNeg) &&& 1)) + ((z (fr + 5).toNatClampNeg) &&& 1))), (3, .int 5), (0, .ref k0), (1, .int fr)]) hx hb dM_matched_22 rfl hl (by decide) rfl (fun ls hl => ?_)
              refine lv_iinc (v := 6) (lv' := [(3, .int 6), (2, .int ((((((0 + ((z (fr + 0).toNatClampNeg) &&& 1)) + ((z (fr + 1).toNatClampNeg) &&& 1)) + ((z (fr + 2).toNatClampNeg) &&& 1)) + ((z (fr + 3).toNatClampNeg) &&& 1)) + ((z (fr + 4).toNatClampNeg) &&& 1)) + ((z (fr + 5).toNatClampNeg) &&& 1))), (0, .ref k0), (1, .int fr)]) hx hb dM_matched_23 hl (k := 1) rfl rfl (by decide) rfl (fun ls hl => ?_)
              refine lv_goto (tgt := 4) hx hb dM_matched_26 (by decide) ?_
              refine lv_iload_n hx hb dM_matched_4 rfl (lv_at hl 0 rfl) ?_
              refine lv_bipush (v := 8) hx hb dM_matched_5 (by decide) ?_
              refine lv_icmp_ge (tgt := 29) hx hb dM_matched_7 (by decide) (fun c_7 => ?_) (fun c_7 => ?_)
              · exact absurd c_7 (by decide)
              · skip
                refine lv_iload_n hx hb dM_matched_10 rfl (lv_at hl 1 rfl) ?_
                refine lv_aload_n hx hb dM_matched_11 rfl (lv_at hl 2 rfl) ?_
                refine va_get (D := (dC, dI)) (ci := 2) (v := .ref zb) (C := RX2) (T := TX2) (N := 10) hx hb hts miM_matched_X2 hown hK hP 0 rfl rfl 2 (by decide) (hts _ mbM_matched_1) (fun _ h9 => h9) rfl dM_matched_12 ?_
                refine lv_iload_n hx hb dM_matched_15 rfl (lv_at hl 3 rfl) ?_
                refine lv_iload_n hx hb dM_matched_16 rfl (lv_at hl 0 rfl) ?_
                refine lv_iadd hx hb dM_matched_17 ?_
                refine va_iald hx hb hK hP 2 0 rfl rfl (in_fr hf 6 (by decide) _ rfl) dM_matched_18 ?_
                refine lv_iconst (v := 1) hx hb dM_matched_19 (by decide) ?_
                refine lv_iand hx hb dM_matched_20 ?_
                refine lv_iadd hx hb dM_matched_21 ?_
                refine lv_istore_n (lv' := [(2, .int (((((((0 + ((z (fr + 0).toNatClampNeg) &&& 1)) + ((z (fr + 1).toNatClampNeg) &&& 1)) + ((z (fr + 2).toNatClampNeg) &&& 1)) + ((z (fr + 3).toNatClampNeg) &&& 1)) + ((z (fr + 4).toNatClampNeg) &&& 1)) + ((z (fr + 5).toNatClampNeg) &&& 1)) + ((z (fr + 6).toNatClampNeg) &&& 1))), (3, .int 6), (0, .ref k0), (1, .int fr)]) hx hb dM_matched_22 rfl hl (by decide) rfl (fun ls hl => ?_)
                refine lv_iinc (v := 7) (lv' := [(3, .int 7), (2, .int (((((((0 + ((z (fr + 0).toNatClampNeg) &&& 1)) + ((z (fr + 1).toNatClampNeg) &&& 1)) + ((z (fr + 2).toNatClampNeg) &&& 1)) + ((z (fr + 3).toNatClampNeg) &&& 1)) + ((z (fr + 4).toNatClampNeg) &&& 1)) + ((z (fr + 5).toNatClampNeg) &&& 1)) + ((z (fr + 6).toNatClampNeg) &&& 1))), (0, .ref k0), (1, .int fr)]) hx hb dM_matched_23 hl (k := 1) rfl rfl (by decide) rfl (fun ls hl => ?_)
                refine lv_goto (tgt := 4) hx hb dM_matched_26 (by decide) ?_
                refine lv_iload_n hx hb dM_matched_4 rfl (lv_at hl 0 rfl) ?_
                refine lv_bipush (v := 8) hx hb dM_matched_5 (by decide) ?_
                refine lv_icmp_ge (tgt := 29) hx hb dM_matched_7 (by decide) (fun c_8 => ?_) (fun c_8 => ?_)
                · exact absurd c_8 (by decide)
                · skip
                  refine lv_iload_n hx hb dM_matched_10 rfl (lv_at hl 1 rfl) ?_
                  refine lv_aload_n hx hb dM_matched_11 rfl (lv_at hl 2 rfl) ?_
                  refine va_get (D := (dC, dI)) (ci := 2) (v := .ref zb) (C := RX2) (T := TX2) (N := 10) hx hb hts miM_matched_X2 hown hK hP 0 rfl rfl 2 (by decide) (hts _ mbM_matched_1) (fun _ h9 => h9) rfl dM_matched_12 ?_
                  refine lv_iload_n hx hb dM_matched_15 rfl (lv_at hl 3 rfl) ?_
                  refine lv_iload_n hx hb dM_matched_16 rfl (lv_at hl 0 rfl) ?_
                  refine lv_iadd hx hb dM_matched_17 ?_
                  refine va_iald hx hb hK hP 2 0 rfl rfl (in_fr hf 7 (by decide) _ rfl) dM_matched_18 ?_
                  refine lv_iconst (v := 1) hx hb dM_matched_19 (by decide) ?_
                  refine lv_iand hx hb dM_matched_20 ?_
                  refine lv_iadd hx hb dM_matched_21 ?_
                  refine lv_istore_n (lv' := [(2, .int ((((((((0 + ((z (fr + 0).toNatClampNeg) &&& 1)) + ((z (fr + 1).toNatClampNeg) &&& 1)) + ((z (fr + 2).toNatClampNeg) &&& 1)) + ((z (fr + 3).toNatClampNeg) &&& 1)) + ((z (fr + 4).toNatClampNeg) &&& 1)) + ((z (fr + 5).toNatClampNeg) &&& 1)) + ((z (fr + 6).toNatClampNeg) &&& 1)) + ((z (fr + 7).toNatClampNeg) &&& 1))), (3, .int 7), (0, .ref k0), (1, .int fr)]) hx hb dM_matched_22 rfl hl (by decide) rfl (fun ls hl => ?_)
                  refine lv_iinc (v := 8) (lv' := [(3, .int 8), (2, .int ((((((((0 + ((z (fr + 0).toNatClampNeg) &&& 1)) + ((z (fr + 1).toNatClampNeg) &&& 1)) + ((z (fr + 2).toNatClampNeg) &&& 1)) + ((z (fr + 3).toNatClampNeg) &&& 1)) + ((z (fr + 4).toNatClampNeg) &&& 1)) + ((z (fr + 5).toNatClampNeg) &&& 1)) + ((z (fr + 6).toNatClampNeg) &&& 1)) + ((z (fr + 7).toNatClampNeg) &&& 1))), (0, .ref k0), (1, .int fr)]) hx hb dM_matched_23 hl (k := 1) rfl rfl (by decide) rfl (fun ls hl => ?_)
                  refine lv_goto (tgt := 4) hx hb dM_matched_26 (by decide) ?_
                  refine lv_iload_n hx hb dM_matched_4 rfl (lv_at hl 0 rfl) ?_
                  refine lv_bipush (v := 8) hx hb dM_matched_5 (by decide) ?_
                  refine lv_icmp_ge (tgt := 29) hx hb dM_matched_7 (by decide) (fun c_9 => ?_) (fun c_9 => ?_)
                  · skip
                    refine lv_iload_n hx hb dM_matched_29 rfl (lv_at hl 1 rfl) ?_
                    exact W.iret (v := (((((((0 + ((z (fr + 0).toNatClampNeg) &&& 1)) + ((z (fr + 1).toNatClampNeg) &&& 1)) + ((z (fr + 2).toNatClampNeg) &&& 1)) + ((z (fr + 3).toNatClampNeg) &&& 1)) + ((z (fr + 4).toNatClampNeg) &&& 1)) + ((z (fr + 5).toNatClampNeg) &&& 1)) + ((z (fr + 6).toNatClampNeg) &&& 1)) + ((z (fr + 7).toNatClampNeg) &&& 1)) hx hb hr (fun t ht hW => ⟨(((((((0 + ((z (fr + 0).toNatClampNeg) &&& 1)) + ((z (fr + 1).toNatClampNeg) &&& 1)) + ((z (fr + 2).toNatClampNeg) &&& 1)) + ((z (fr + 3).toNatClampNeg) &&& 1)) + ((z (fr + 4).toNatClampNeg) &&& 1)) + ((z (fr + 5).toNatClampNeg) &&& 1)) + ((z (fr + 6).toNatClampNeg) &&& 1)) + ((z (fr + 7).toNatClampNeg) &&& 1), rfl, by first | rfl | (unfold s_M_matched; rfl), ht⟩) (fun q h => by cases h) dM_matched_30
                  · exact absurd c_9 (by decide)
/-- the first i sets made even, as the reference does it -/
def s_mclr (z : Nat → Int32) (b : Int32) : Nat → Nat → Int32
  | 0 => z
  | i + 1 => upd (s_mclr z b i) (b + nI i).toNatClampNeg (s_mclr z b i (b + nI i).toNatClampNeg - (s_mclr z b i (b + nI i).toNatClampNeg &&& 1))
theorem mclr_s (z : Nat → Int32) (b : Int32) (i : Nat) (K : Int32) (hK : K = nI i) : upd (s_mclr z b i) (b + K).toNatClampNeg (s_mclr z b i (b + K).toNatClampNeg - (s_mclr z b i (b + K).toNatClampNeg &&& 1)) = s_mclr z b (i + 1) := by
  subst hK
  rfl
set_option maxRecDepth 100000 in
theorem miM_forget_X2 : ∀ w ∈ u_ws RX2 TX2 10, w ∈ wsM_forget := by decide +kernel
set_option maxRecDepth 100000 in
theorem mbM_forget_1 : (.fieldLink RX2 17 "SoftMapsModel" "thrown" "I" : Cond) ∈ wsM_forget := by decide +kernel
set_option maxRecDepth 100000 in
theorem mbM_forget_2 : (.fieldLink RX2 14 "SoftMapsModel" "specials" "[I" : Cond) ∈ wsM_forget := by decide +kernel
def s_M_forget (z : Nat → Int32) (dd : Int32) : Int32 × Int32 × (Nat → Int32) :=
  if dd = 0 then
    (s_M_matched z 0, (0, s_mclr z 0 8))
  else
    (s_M_matched z 16, (0, s_mclr z 16 8))
set_option maxHeartbeats 4000000 in
set_option maxRecDepth 100000 in
theorem c_M_forget (l : Launch) (dC : Nat → ClassId) (dI : Nat → Nat → Nat) (sz : Nat) (k0 yb zb : Nat) (cI : ClassId) (y z : Nat → Int32) (th a1 a2 a3 a4 a5 a6 fo : Int32) (dd : Int32)  : Met l yM_forget wsM_forget ({ frames := 1, cells := 0, slots := 0, locals := 23 }) (va_Pc [.ref k0, .int dd] (fun U => U.heap.size = sz ∧ va_P (dC, dI) vwCl [(k0, .inr (2, [.int th, .ref yb, .ref zb, .int a1, .int a2, .int a3, .int a4, .int a5, .int a6, .int fo])), (yb, .inl (cI, 65536, .inl y)), (zb, .inl (cI, 33, .inl z))] U.heap ∧ va_K (dC, dI) vwCl [(cI, .int)] U ∧ va_D (fun _ => True) [(k0, .inr (2, [.int th, .ref yb, .ref zb, .int a1, .int a2, .int a3, .int a4, .int a5, .int a6, .int fo])), (yb, .inl (cI, 65536, .inl y)), (zb, .inl (cI, 33, .inl z))])) (va_Qi (fun (a_ : Int32) (u : Int32 × (Nat → Int32)) => (a_, u) = s_M_forget z dd) (fun (u : Int32 × (Nat → Int32)) (t : State) => va_P (dC, dI) vwCl [(k0, .inr (2, [.int u.1, .ref yb, .ref zb, .int a1, .int a2, .int a3, .int a4, .int a5, .int a6, .int fo])), (yb, .inl (cI, 65536, .inl y)), (zb, .inl (cI, 33, .inl u.2))] t.heap ∧ va_K (dC, dI) vwCl [(cI, .int)] t ∧ va_D (va_A [(k0, .inr (2, [.int th, .ref yb, .ref zb, .int a1, .int a2, .int a3, .int a4, .int a5, .int a6, .int fo])), (yb, .inl (cI, 65536, .inl y)), (zb, .inl (cI, 33, .inl z))] sz) [(k0, .inr (2, [.int u.1, .ref yb, .ref zb, .int a1, .int a2, .int a3, .int a4, .int a5, .int a6, .int fo])), (yb, .inl (cI, 65536, .inl y)), (zb, .inl (cI, 33, .inl u.2))]) (va_A [(k0, .inr (2, [.int th, .ref yb, .ref zb, .int a1, .int a2, .int a3, .int a4, .int a5, .int a6, .int fo])), (yb, .inl (cI, 65536, .inl y)), (zb, .inl (cI, 33, .inl z))] sz)) 0 0 (va_A [(k0, .inr (2, [.int th, .ref yb, .ref zb, .int a1, .int a2, .int a3, .int a4, .int a5, .int a6, .int fo])), (yb, .inl (cI, 65536, .inl y)), (zb, .inl (cI, 33, .inl z))] sz) := by
  refine Met.ofW (cc := cM_forget) (maxL := 5) (ret := (some .int)) (by decide) rfl ?_
  intro p e s m args below meth c s₁ B hml hv
  obtain ⟨rfl, hsz, hP, hK, hD0⟩ := hv
  have hx := B.exec
  have hb := B.bytes
  have hr := B.returns
  have hts := atoms_spec (ws := wsM_forget) B.pre
  have hown : s.vm.findClass RX2 = some m.cls := findClass_of_methodNamed B.named
  have hlocks := B.notSynchronized
  subst hsz
  have hD := hD0.self (sz := s.heap.size)
  generalize hAe : va_A [(k0, .inr (2, [.int th, .ref yb, .ref zb, .int a1, .int a2, .int a3, .int a4, .int a5, .int a6, .int fo])), (yb, .inl (cI, 65536, .inl y)), (zb, .inl (cI, 33, .inl z))] s.heap.size = A at hD ⊢
  have hA : ∀ q : Nat, s.heap.size ≤ q → A q := fun q h => by rw [← hAe]; exact Or.inr h
  have hS : va_S A s.heap s.heap [] := va_S.rf
  have hP : va_P (dC, dI) vwCl [(k0, .inr (2, [.int th, .ref yb, .ref zb, .int a1, .int a2, .int a3, .int a4, .int a5, .int a6, .int fo])), (yb, .inl (cI, 65536, .inl y)), (zb, .inl (cI, 33, .inl z))] s.heap := hP
  have hl := lv_entry ([.ref k0, .int dd]) (n := 5) (Nat.le_of_ble_eq_true rfl)
  rw [lg_entry_eq]
  generalize (lg_sl ([.ref k0, .int dd]) ++ List.replicate (5 - (lg_sl ([.ref k0, .int dd])).length) Slot.unset).toArray = ls at hl ⊢
  have hl : lv_has ls 5 [(0, .ref k0), (1, .int dd)] := hl
  refine lv_aload_n hx hb dM_forget_0 rfl (lv_at hl 0 rfl) ?_
  refine lv_iconst (v := 0) hx hb dM_forget_1 (by decide) ?_
  refine va_put (D := (dC, dI)) (ci := 2) (v := .int 0) (ty := tyX2 0) (C := RX2) (T := TX2) (N := 10) hx hb hts miM_forget_X2 tyX2 tyX2_ok nmX2 hown hK hP hD hS 0 rfl rfl 0 (by decide) (hts _ mbM_forget_1) (fun _ h9 => h9) rfl (by decide +kernel) rfl rfl (Nat.le_of_ble_eq_true rfl) dM_forget_2 (fun H locs hP hD hS => ?_)
  have hP : va_P (dC, dI) vwCl [(k0, .inr (2, [.int 0, .ref yb, .ref zb, .int a1, .int a2, .int a3, .int a4, .int a5, .int a6, .int fo])), (yb, .inl (cI, 65536, .inl y)), (zb, .inl (cI, 33, .inl z))] H := hP
  have hD : va_D A [(k0, .inr (2, [.int 0, .ref yb, .ref zb, .int a1, .int a2, .int a3, .int a4, .int a5, .int a6, .int fo])), (yb, .inl (cI, 65536, .inl y)), (zb, .inl (cI, 33, .inl z))] := hD
  refine lv_iload_n hx hb dM_forget_5 rfl (lv_at hl 1 rfl) ?_
  refine lv_if_eq (tgt := 14) hx hb dM_forget_6 (by decide) (fun c_1 => ?_) (fun c_1 => ?_)
  · skip
    refine lv_iconst (v := 0) hx hb dM_forget_14 (by decide) ?_
    refine lv_istore_n (lv' := [(2, .int 0), (0, .ref k0), (1, .int dd)]) hx hb dM_forget_15 rfl hl (by decide) rfl (fun ls hl => ?_)
    refine lv_aload_n hx hb dM_forget_16 rfl (lv_at hl 1 rfl) ?_
    refine lv_iload_n hx hb dM_forget_17 rfl (lv_at hl 0 rfl) ?_
    have hPc := hP.sub (ws' := [(k0, .inr (2, [.int 0, .ref yb, .ref zb, .int a1, .int a2, .int a3, .int a4, .int a5, .int a6, .int fo])), (yb, .inl (cI, 65536, .inl y)), (zb, .inl (cI, 33, .inl z))]) [0, 1, 2] rfl
    have hKc := hK.sub (tys' := [(cI, .int)]) [0] rfl
    refine vp_callSi (va_Run.run (va_runV (As := [.int 0]) (rest := []) ⟨hx, hb, hml, hown, hts⟩ (c_M_matched l dC dI k0 yb zb cI y z 0 a1 a2 a3 a4 a5 a6 fo 0 (Or.inl rfl)) (cwV 1 hts gM_forget_M_matched rfl rfl rfl (by decide +kernel) ⟨Nat.le_of_ble_eq_true rfl, Nat.le_of_ble_eq_true rfl⟩) ⟨fun a U g mk q => by obtain ⟨q0, qP, qK⟩ := q; exact ⟨q0, qP, va_K.moved (u := U) (U := U.calling g mk a) (Vm.Alike.refl U.vm) qK⟩, va_recv hKc hPc (ci := 2) (q0 := 0) rfl rfl, fun U hU hW => ⟨rfl, by rw [hU]; exact hPc, va_K.moved hW.alike hKc⟩⟩ rfl rfl hl.1 rfl (lv_room (Nat.le_of_ble_eq_true rfl)) dM_forget_18 ⟨Nat.le_of_ble_eq_true rfl, Nat.le_of_ble_eq_true rfl⟩)) (fun r_2 hw_3 => ?_)
    subst hw_3
    refine lv_istore_n (lv' := [(3, .int (s_M_matched z 0)), (2, .int 0), (0, .ref k0), (1, .int dd)]) hx hb dM_forget_21 rfl hl (by decide) rfl (fun ls hl => ?_)
    refine lv_iconst (v := 0) hx hb dM_forget_22 (by decide) ?_
    refine lv_istore (lv' := [(4, .int 0), (3, .int (s_M_matched z 0)), (2, .int 0), (0, .ref k0), (1, .int dd)]) hx hb dM_forget_23 hl (by decide) rfl (fun ls hl => ?_)
    refine lv_iload hx hb dM_forget_25 (lv_at hl 0 rfl) ?_
    refine lv_bipush (v := 8) hx hb dM_forget_27 (by decide) ?_
    refine lv_icmp_ge (tgt := 61) hx hb dM_forget_29 (by decide) (fun c_4 => ?_) (fun c_4 => ?_)
    · exact absurd c_4 (by decide)
    · skip
      refine lv_aload_n hx hb dM_forget_32 rfl (lv_at hl 3 rfl) ?_
      refine va_get (D := (dC, dI)) (ci := 2) (v := .ref zb) (C := RX2) (T := TX2) (N := 10) hx hb hts miM_forget_X2 hown hK hP 0 rfl rfl 2 (by decide) (hts _ mbM_forget_2) (fun _ h9 => h9) rfl dM_forget_33 ?_
      refine lv_iload_n hx hb dM_forget_36 rfl (lv_at hl 2 rfl) ?_
      refine lv_iload hx hb dM_forget_37 (lv_at hl 0 rfl) ?_
      refine lv_iadd hx hb dM_forget_39 ?_
      refine lv_dup2_11 hx hb dM_forget_40 rfl rfl ?_
      refine va_iald hx hb hK hP 2 0 rfl rfl (pk_in 0 33 (by decide)) dM_forget_41 ?_
      refine lv_aload_n hx hb dM_forget_42 rfl (lv_at hl 3 rfl) ?_
      refine va_get (D := (dC, dI)) (ci := 2) (v := .ref zb) (C := RX2) (T := TX2) (N := 10) hx hb hts miM_forget_X2 hown hK hP 0 rfl rfl 2 (by decide) (hts _ mbM_forget_2) (fun _ h9 => h9) rfl dM_forget_43 ?_
      refine lv_iload_n hx hb dM_forget_46 rfl (lv_at hl 2 rfl) ?_
      refine lv_iload hx hb dM_forget_47 (lv_at hl 0 rfl) ?_
      refine lv_iadd hx hb dM_forget_49 ?_
      refine va_iald hx hb hK hP 2 0 rfl rfl (pk_in 0 33 (by decide)) dM_forget_50 ?_
      refine lv_iconst (v := 1) hx hb dM_forget_51 (by decide) ?_
      refine lv_iand hx hb dM_forget_52 ?_
      refine lv_isub hx hb dM_forget_53 ?_
      refine va_iast hx hb hK hP hD hS 2 0 rfl rfl (pk_in 0 33 (by decide)) dM_forget_54 (fun H locs hP hD hS => ?_)
      have hPn : va_P (dC, dI) vwCl [(k0, .inr (2, [.int 0, .ref yb, .ref zb, .int a1, .int a2, .int a3, .int a4, .int a5, .int a6, .int fo])), (yb, .inl (cI, 65536, .inl y)), (zb, .inl (cI, 33, .inl (s_mclr z 0 1)))] H := (mclr_s z 0 0 0 rfl) ▸ hP
      have hDn : va_D A [(k0, .inr (2, [.int 0, .ref yb, .ref zb, .int a1, .int a2, .int a3, .int a4, .int a5, .int a6, .int fo])), (yb, .inl (cI, 65536, .inl y)), (zb, .inl (cI, 33, .inl (s_mclr z 0 1)))] := (mclr_s z 0 0 0 rfl) ▸ hD
      have hP := hPn
      have hD := hDn
      refine lv_iinc (v := 1) (lv' := [(4, .int 1), (3, .int (s_M_matched z 0)), (2, .int 0), (0, .ref k0), (1, .int dd)]) hx hb dM_forget_55 hl (k := 0) rfl rfl (by decide) rfl (fun ls hl => ?_)
      refine lv_goto (tgt := 25) hx hb dM_forget_58 (by decide) ?_
      refine lv_iload hx hb dM_forget_25 (lv_at hl 0 rfl) ?_
      refine lv_bipush (v := 8) hx hb dM_forget_27 (by decide) ?_
      refine lv_icmp_ge (tgt := 61) hx hb dM_forget_29 (by decide) (fun c_5 => ?_) (fun c_5 => ?_)
      · exact absurd c_5 (by decide)
      · skip
        refine lv_aload_n hx hb dM_forget_32 rfl (lv_at hl 3 rfl) ?_
        refine va_get (D := (dC, dI)) (ci := 2) (v := .ref zb) (C := RX2) (T := TX2) (N := 10) hx hb hts miM_forget_X2 hown hK hP 0 rfl rfl 2 (by decide) (hts _ mbM_forget_2) (fun _ h9 => h9) rfl dM_forget_33 ?_
        refine lv_iload_n hx hb dM_forget_36 rfl (lv_at hl 2 rfl) ?_
        refine lv_iload hx hb dM_forget_37 (lv_at hl 0 rfl) ?_
        refine lv_iadd hx hb dM_forget_39 ?_
        refine lv_dup2_11 hx hb dM_forget_40 rfl rfl ?_
        refine va_iald hx hb hK hP 2 0 rfl rfl (pk_in 1 33 (by decide)) dM_forget_41 ?_
        refine lv_aload_n hx hb dM_forget_42 rfl (lv_at hl 3 rfl) ?_
        refine va_get (D := (dC, dI)) (ci := 2) (v := .ref zb) (C := RX2) (T := TX2) (N := 10) hx hb hts miM_forget_X2 hown hK hP 0 rfl rfl 2 (by decide) (hts _ mbM_forget_2) (fun _ h9 => h9) rfl dM_forget_43 ?_
        refine lv_iload_n hx hb dM_forget_46 rfl (lv_at hl 2 rfl) ?_
        refine lv_iload hx hb dM_forget_47 (lv_at hl 0 rfl) ?_
        refine lv_iadd hx hb dM_forget_49 ?_
        refine va_iald hx hb hK hP 2 0 rfl rfl (pk_in 1 33 (by decide)) dM_forget_50 ?_
        refine lv_iconst (v := 1) hx hb dM_forget_51 (by decide) ?_
        refine lv_iand hx hb dM_forget_52 ?_
        refine lv_isub hx hb dM_forget_53 ?_
        refine va_iast hx hb hK hP hD hS 2 0 rfl rfl (pk_in 1 33 (by decide)) dM_forget_54 (fun H locs hP hD hS => ?_)
        have hPn : va_P (dC, dI) vwCl [(k0, .inr (2, [.int 0, .ref yb, .ref zb, .int a1, .int a2, .int a3, .int a4, .int a5, .int a6, .int fo])), (yb, .inl (cI, 65536, .inl y)), (zb, .inl (cI, 33, .inl (s_mclr z 0 2)))] H := (mclr_s z 0 1 1 rfl) ▸ hP
        have hDn : va_D A [(k0, .inr (2, [.int 0, .ref yb, .ref zb, .int a1, .int a2, .int a3, .int a4, .int a5, .int a6, .int fo])), (yb, .inl (cI, 65536, .inl y)), (zb, .inl (cI, 33, .inl (s_mclr z 0 2)))] := (mclr_s z 0 1 1 rfl) ▸ hD
        have hP := hPn
        have hD := hDn
        refine lv_iinc (v := 2) (lv' := [(4, .int 2), (3, .int (s_M_matched z 0)), (2, .int 0), (0, .ref k0), (1, .int dd)]) hx hb dM_forget_55 hl (k := 0) rfl rfl (by decide) rfl (fun ls hl => ?_)
        refine lv_goto (tgt := 25) hx hb dM_forget_58 (by decide) ?_
        refine lv_iload hx hb dM_forget_25 (lv_at hl 0 rfl) ?_
        refine lv_bipush (v := 8) hx hb dM_forget_27 (by decide) ?_
        refine lv_icmp_ge (tgt := 61) hx hb dM_forget_29 (by decide) (fun c_6 => ?_) (fun c_6 => ?_)
        · exact absurd c_6 (by decide)
        · skip
          refine lv_aload_n hx hb dM_forget_32 rfl (lv_at hl 3 rfl) ?_
          refine va_get (D := (dC, dI)) (ci := 2) (v := .ref zb) (C := RX2) (T := TX2) (N := 10) hx hb hts miM_forget_X2 hown hK hP 0 rfl rfl 2 (by decide) (hts _ mbM_forget_2) (fun _ h9 => h9) rfl dM_forget_33 ?_
          refine lv_iload_n hx hb dM_forget_36 rfl (lv_at hl 2 rfl) ?_
          refine lv_iload hx hb dM_forget_37 (lv_at hl 0 rfl) ?_
          refine lv_iadd hx hb dM_forget_39 ?_
          refine lv_dup2_11 hx hb dM_forget_40 rfl rfl ?_
          refine va_iald hx hb hK hP 2 0 rfl rfl (pk_in 2 33 (by decide)) dM_forget_41 ?_
          refine lv_aload_n hx hb dM_forget_42 rfl (lv_at hl 3 rfl) ?_
          refine va_get (D := (dC, dI)) (ci := 2) (v := .ref zb) (C := RX2) (T := TX2) (N := 10) hx hb hts miM_forget_X2 hown hK hP 0 rfl rfl 2 (by decide) (hts _ mbM_forget_2) (fun _ h9 => h9) rfl dM_forget_43 ?_
          refine lv_iload_n hx hb dM_forget_46 rfl (lv_at hl 2 rfl) ?_
          refine lv_iload hx hb dM_forget_47 (lv_at hl 0 rfl) ?_
          refine lv_iadd hx hb dM_forget_49 ?_
          refine va_iald hx hb hK hP 2 0 rfl rfl (pk_in 2 33 (by decide)) dM_forget_50 ?_
          refine lv_iconst (v := 1) hx hb dM_forget_51 (by decide) ?_
          refine lv_iand hx hb dM_forget_52 ?_
          refine lv_isub hx hb dM_forget_53 ?_
          refine va_iast hx hb hK hP hD hS 2 0 rfl rfl (pk_in 2 33 (by decide)) dM_forget_54 (fun H locs hP hD hS => ?_)
          have hPn : va_P (dC, dI) vwCl [(k0, .inr (2, [.int 0, .ref yb, .ref zb, .int a1, .int a2, .int a3, .int a4, .int a5, .int a6, .int fo])), (yb, .inl (cI, 65536, .inl y)), (zb, .inl (cI, 33, .inl (s_mclr z 0 3)))] H := (mclr_s z 0 2 2 rfl) ▸ hP
          have hDn : va_D A [(k0, .inr (2, [.int 0, .ref yb, .ref zb, .int a1, .int a2, .int a3, .int a4, .int a5, .int a6, .int fo])), (yb, .inl (cI, 65536, .inl y)), (zb, .inl (cI, 33, .inl (s_mclr z 0 3)))] := (mclr_s z 0 2 2 rfl) ▸ hD
          have hP := hPn
          have hD := hDn
          refine lv_iinc (v := 3) (lv' := [(4, .int 3), (3, .int (s_M_matched z 0)), (2, .int 0), (0, .ref k0), (1, .int dd)]) hx hb dM_forget_55 hl (k := 0) rfl rfl (by decide) rfl (fun ls hl => ?_)
          refine lv_goto (tgt := 25) hx hb dM_forget_58 (by decide) ?_
          refine lv_iload hx hb dM_forget_25 (lv_at hl 0 rfl) ?_
          refine lv_bipush (v := 8) hx hb dM_forget_27 (by decide) ?_
          refine lv_icmp_ge (tgt := 61) hx hb dM_forget_29 (by decide) (fun c_7 => ?_) (fun c_7 => ?_)
          · exact absurd c_7 (by decide)
          · skip
            refine lv_aload_n hx hb dM_forget_32 rfl (lv_at hl 3 rfl) ?_
            refine va_get (D := (dC, dI)) (ci := 2) (v := .ref zb) (C := RX2) (T := TX2) (N := 10) hx hb hts miM_forget_X2 hown hK hP 0 rfl rfl 2 (by decide) (hts _ mbM_forget_2) (fun _ h9 => h9) rfl dM_forget_33 ?_
            refine lv_iload_n hx hb dM_forget_36 rfl (lv_at hl 2 rfl) ?_
            refine lv_iload hx hb dM_forget_37 (lv_at hl 0 rfl) ?_
            refine lv_iadd hx hb dM_forget_39 ?_
            refine lv_dup2_11 hx hb dM_forget_40 rfl rfl ?_
            refine va_iald hx hb hK hP 2 0 rfl rfl (pk_in 3 33 (by decide)) dM_forget_41 ?_
            refine lv_aload_n hx hb dM_forget_42 rfl (lv_at hl 3 rfl) ?_
            refine va_get (D := (dC, dI)) (ci := 2) (v := .ref zb) (C := RX2) (T := TX2) (N := 10) hx hb hts miM_forget_X2 hown hK hP 0 rfl rfl 2 (by decide) (hts _ mbM_forget_2) (fun _ h9 => h9) rfl dM_forget_43 ?_
            refine lv_iload_n hx hb dM_forget_46 rfl (lv_at hl 2 rfl) ?_
            refine lv_iload hx hb dM_forget_47 (lv_at hl 0 rfl) ?_
            refine lv_iadd hx hb dM_forget_49 ?_
            refine va_iald hx hb hK hP 2 0 rfl rfl (pk_in 3 33 (by decide)) dM_forget_50 ?_
            refine lv_iconst (v := 1) hx hb dM_forget_51 (by decide) ?_
            refine lv_iand hx hb dM_forget_52 ?_
            refine lv_isub hx hb dM_forget_53 ?_
            refine va_iast hx hb hK hP hD hS 2 0 rfl rfl (pk_in 3 33 (by decide)) dM_forget_54 (fun H locs hP hD hS => ?_)
            have hPn : va_P (dC, dI) vwCl [(k0, .inr (2, [.int 0, .ref yb, .ref zb, .int a1, .int a2, .int a3, .int a4, .int a5, .int a6, .int fo])), (yb, .inl (cI, 65536, .inl y)), (zb, .inl (cI, 33, .inl (s_mclr z 0 4)))] H := (mclr_s z 0 3 3 rfl) ▸ hP
            have hDn : va_D A [(k0, .inr (2, [.int 0, .ref yb, .ref zb, .int a1, .int a2, .int a3, .int a4, .int a5, .int a6, .int fo])), (yb, .inl (cI, 65536, .inl y)), (zb, .inl (cI, 33, .inl (s_mclr z 0 4)))] := (mclr_s z 0 3 3 rfl) ▸ hD
            have hP := hPn
            have hD := hDn
            refine lv_iinc (v := 4) (lv' := [(4, .int 4), (3, .int (s_M_matched z 0)), (2, .int 0), (0, .ref k0), (1, .int dd)]) hx hb dM_forget_55 hl (k := 0) rfl rfl (by decide) rfl (fun ls hl => ?_)
            refine lv_goto (tgt := 25) hx hb dM_forget_58 (by decide) ?_
            refine lv_iload hx hb dM_forget_25 (lv_at hl 0 rfl) ?_
            refine lv_bipush (v := 8) hx hb dM_forget_27 (by decide) ?_
            refine lv_icmp_ge (tgt := 61) hx hb dM_forget_29 (by decide) (fun c_8 => ?_) (fun c_8 => ?_)
            · exact absurd c_8 (by decide)
            · skip
              refine lv_aload_n hx hb dM_forget_32 rfl (lv_at hl 3 rfl) ?_
              refine va_get (D := (dC, dI)) (ci := 2) (v := .ref zb) (C := RX2) (T := TX2) (N := 10) hx hb hts miM_forget_X2 hown hK hP 0 rfl rfl 2 (by decide) (hts _ mbM_forget_2) (fun _ h9 => h9) rfl dM_forget_33 ?_
              refine lv_iload_n hx hb dM_forget_36 rfl (lv_at hl 2 rfl) ?_
              refine lv_iload hx hb dM_forget_37 (lv_at hl 0 rfl) ?_
              refine lv_iadd hx hb dM_forget_39 ?_
              refine lv_dup2_11 hx hb dM_forget_40 rfl rfl ?_
              refine va_iald hx hb hK hP 2 0 rfl rfl (pk_in 4 33 (by decide)) dM_forget_41 ?_
              refine lv_aload_n hx hb dM_forget_42 rfl (lv_at hl 3 rfl) ?_
              refine va_get (D := (dC, dI)) (ci := 2) (v := .ref zb) (C := RX2) (T := TX2) (N := 10) hx hb hts miM_forget_X2 hown hK hP 0 rfl rfl 2 (by decide) (hts _ mbM_forget_2) (fun _ h9 => h9) rfl dM_forget_43 ?_
              refine lv_iload_n hx hb dM_forget_46 rfl (lv_at hl 2 rfl) ?_
              refine lv_iload hx hb dM_forget_47 (lv_at hl 0 rfl) ?_
              refine lv_iadd hx hb dM_forget_49 ?_
              refine va_iald hx hb hK hP 2 0 rfl rfl (pk_in 4 33 (by decide)) dM_forget_50 ?_
              refine lv_iconst (v := 1) hx hb dM_forget_51 (by decide) ?_
              refine lv_iand hx hb dM_forget_52 ?_
              refine lv_isub hx hb dM_forget_53 ?_
              refine va_iast hx hb hK hP hD hS 2 0 rfl rfl (pk_in 4 33 (by decide)) dM_forget_54 (fun H locs hP hD hS => ?_)
              have hPn : va_P (dC, dI) vwCl [(k0, .inr (2, [.int 0, .ref yb, .ref zb, .int a1, .int a2, .int a3, .int a4, .int a5, .int a6, .int fo])), (yb, .inl (cI, 65536, .inl y)), (zb, .inl (cI, 33, .inl (s_mclr z 0 5)))] H := (mclr_s z 0 4 4 rfl) ▸ hP
              have hDn : va_D A [(k0, .inr (2, [.int 0, .ref yb, .ref zb, .int a1, .int a2, .int a3, .int a4, .int a5, .int a6, .int fo])), (yb, .inl (cI, 65536, .inl y)), (zb, .inl (cI, 33, .inl (s_mclr z 0 5)))] := (mclr_s z 0 4 4 rfl) ▸ hD
              have hP := hPn
              have hD := hDn
              refine lv_iinc (v := 5) (lv' := [(4, .int 5), (3, .int (s_M_matched z 0)), (2, .int 0), (0, .ref k0), (1, .int dd)]) hx hb dM_forget_55 hl (k := 0) rfl rfl (by decide) rfl (fun ls hl => ?_)
              refine lv_goto (tgt := 25) hx hb dM_forget_58 (by decide) ?_
              refine lv_iload hx hb dM_forget_25 (lv_at hl 0 rfl) ?_
              refine lv_bipush (v := 8) hx hb dM_forget_27 (by decide) ?_
              refine lv_icmp_ge (tgt := 61) hx hb dM_forget_29 (by decide) (fun c_9 => ?_) (fun c_9 => ?_)
              · exact absurd c_9 (by decide)
              · skip
                refine lv_aload_n hx hb dM_forget_32 rfl (lv_at hl 3 rfl) ?_
                refine va_get (D := (dC, dI)) (ci := 2) (v := .ref zb) (C := RX2) (T := TX2) (N := 10) hx hb hts miM_forget_X2 hown hK hP 0 rfl rfl 2 (by decide) (hts _ mbM_forget_2) (fun _ h9 => h9) rfl dM_forget_33 ?_
                refine lv_iload_n hx hb dM_forget_36 rfl (lv_at hl 2 rfl) ?_
                refine lv_iload hx hb dM_forget_37 (lv_at hl 0 rfl) ?_
                refine lv_iadd hx hb dM_forget_39 ?_
                refine lv_dup2_11 hx hb dM_forget_40 rfl rfl ?_
                refine va_iald hx hb hK hP 2 0 rfl rfl (pk_in 5 33 (by decide)) dM_forget_41 ?_
                refine lv_aload_n hx hb dM_forget_42 rfl (lv_at hl 3 rfl) ?_
                refine va_get (D := (dC, dI)) (ci := 2) (v := .ref zb) (C := RX2) (T := TX2) (N := 10) hx hb hts miM_forget_X2 hown hK hP 0 rfl rfl 2 (by decide) (hts _ mbM_forget_2) (fun _ h9 => h9) rfl dM_forget_43 ?_
                refine lv_iload_n hx hb dM_forget_46 rfl (lv_at hl 2 rfl) ?_
                refine lv_iload hx hb dM_forget_47 (lv_at hl 0 rfl) ?_
                refine lv_iadd hx hb dM_forget_49 ?_
                refine va_iald hx hb hK hP 2 0 rfl rfl (pk_in 5 33 (by decide)) dM_forget_50 ?_
                refine lv_iconst (v := 1) hx hb dM_forget_51 (by decide) ?_
                refine lv_iand hx hb dM_forget_52 ?_
                refine lv_isub hx hb dM_forget_53 ?_
                refine va_iast hx hb hK hP hD hS 2 0 rfl rfl (pk_in 5 33 (by decide)) dM_forget_54 (fun H locs hP hD hS => ?_)
                have hPn : va_P (dC, dI) vwCl [(k0, .inr (2, [.int 0, .ref yb, .ref zb, .int a1, .int a2, .int a3, .int a4, .int a5, .int a6, .int fo])), (yb, .inl (cI, 65536, .inl y)), (zb, .inl (cI, 33, .inl (s_mclr z 0 6)))] H := (mclr_s z 0 5 5 rfl) ▸ hP
                have hDn : va_D A [(k0, .inr (2, [.int 0, .ref yb, .ref zb, .int a1, .int a2, .int a3, .int a4, .int a5, .int a6, .int fo])), (yb, .inl (cI, 65536, .inl y)), (zb, .inl (cI, 33, .inl (s_mclr z 0 6)))] := (mclr_s z 0 5 5 rfl) ▸ hD
                have hP := hPn
                have hD := hDn
                refine lv_iinc (v := 6) (lv' := [(4, .int 6), (3, .int (s_M_matched z 0)), (2, .int 0), (0, .ref k0), (1, .int dd)]) hx hb dM_forget_55 hl (k := 0) rfl rfl (by decide) rfl (fun ls hl => ?_)
                refine lv_goto (tgt := 25) hx hb dM_forget_58 (by decide) ?_
                refine lv_iload hx hb dM_forget_25 (lv_at hl 0 rfl) ?_
                refine lv_bipush (v := 8) hx hb dM_forget_27 (by decide) ?_
                refine lv_icmp_ge (tgt := 61) hx hb dM_forget_29 (by decide) (fun c_10 => ?_) (fun c_10 => ?_)
                · exact absurd c_10 (by decide)
                · skip
                  refine lv_aload_n hx hb dM_forget_32 rfl (lv_at hl 3 rfl) ?_
                  refine va_get (D := (dC, dI)) (ci := 2) (v := .ref zb) (C := RX2) (T := TX2) (N := 10) hx hb hts miM_forget_X2 hown hK hP 0 rfl rfl 2 (by decide) (hts _ mbM_forget_2) (fun _ h9 => h9) rfl dM_forget_33 ?_
                  refine lv_iload_n hx hb dM_forget_36 rfl (lv_at hl 2 rfl) ?_
                  refine lv_iload hx hb dM_forget_37 (lv_at hl 0 rfl) ?_
                  refine lv_iadd hx hb dM_forget_39 ?_
                  refine lv_dup2_11 hx hb dM_forget_40 rfl rfl ?_
                  refine va_iald hx hb hK hP 2 0 rfl rfl (pk_in 6 33 (by decide)) dM_forget_41 ?_
                  refine lv_aload_n hx hb dM_forget_42 rfl (lv_at hl 3 rfl) ?_
                  refine va_get (D := (dC, dI)) (ci := 2) (v := .ref zb) (C := RX2) (T := TX2) (N := 10) hx hb hts miM_forget_X2 hown hK hP 0 rfl rfl 2 (by decide) (hts _ mbM_forget_2) (fun _ h9 => h9) rfl dM_forget_43 ?_
                  refine lv_iload_n hx hb dM_forget_46 rfl (lv_at hl 2 rfl) ?_
                  refine lv_iload hx hb dM_forget_47 (lv_at hl 0 rfl) ?_
                  refine lv_iadd hx hb dM_forget_49 ?_
                  refine va_iald hx hb hK hP 2 0 rfl rfl (pk_in 6 33 (by decide)) dM_forget_50 ?_
                  refine lv_iconst (v := 1) hx hb dM_forget_51 (by decide) ?_
                  refine lv_iand hx hb dM_forget_52 ?_
                  refine lv_isub hx hb dM_forget_53 ?_
                  refine va_iast hx hb hK hP hD hS 2 0 rfl rfl (pk_in 6 33 (by decide)) dM_forget_54 (fun H locs hP hD hS => ?_)
                  have hPn : va_P (dC, dI) vwCl [(k0, .inr (2, [.int 0, .ref yb, .ref zb, .int a1, .int a2, .int a3, .int a4, .int a5, .int a6, .int fo])), (yb, .inl (cI, 65536, .inl y)), (zb, .inl (cI, 33, .inl (s_mclr z 0 7)))] H := (mclr_s z 0 6 6 rfl) ▸ hP
                  have hDn : va_D A [(k0, .inr (2, [.int 0, .ref yb, .ref zb, .int a1, .int a2, .int a3, .int a4, .int a5, .int a6, .int fo])), (yb, .inl (cI, 65536, .inl y)), (zb, .inl (cI, 33, .inl (s_mclr z 0 7)))] := (mclr_s z 0 6 6 rfl) ▸ hD
                  have hP := hPn
                  have hD := hDn
                  refine lv_iinc (v := 7) (lv' := [(4, .int 7), (3, .int (s_M_matched z 0)), (2, .int 0), (0, .ref k0), (1, .int dd)]) hx hb dM_forget_55 hl (k := 0) rfl rfl (by decide) rfl (fun ls hl => ?_)
                  refine lv_goto (tgt := 25) hx hb dM_forget_58 (by decide) ?_
                  refine lv_iload hx hb dM_forget_25 (lv_at hl 0 rfl) ?_
                  refine lv_bipush (v := 8) hx hb dM_forget_27 (by decide) ?_
                  refine lv_icmp_ge (tgt := 61) hx hb dM_forget_29 (by decide) (fun c_11 => ?_) (fun c_11 => ?_)
                  · exact absurd c_11 (by decide)
                  · skip
                    refine lv_aload_n hx hb dM_forget_32 rfl (lv_at hl 3 rfl) ?_
                    refine va_get (D := (dC, dI)) (ci := 2) (v := .ref zb) (C := RX2) (T := TX2) (N := 10) hx hb hts miM_forget_X2 hown hK hP 0 rfl rfl 2 (by decide) (hts _ mbM_forget_2) (fun _ h9 => h9) rfl dM_forget_33 ?_
                    refine lv_iload_n hx hb dM_forget_36 rfl (lv_at hl 2 rfl) ?_
                    refine lv_iload hx hb dM_forget_37 (lv_at hl 0 rfl) ?_
                    refine lv_iadd hx hb dM_forget_39 ?_
                    refine lv_dup2_11 hx hb dM_forget_40 rfl rfl ?_
                    refine va_iald hx hb hK hP 2 0 rfl rfl (pk_in 7 33 (by decide)) dM_forget_41 ?_
                    refine lv_aload_n hx hb dM_forget_42 rfl (lv_at hl 3 rfl) ?_
                    refine va_get (D := (dC, dI)) (ci := 2) (v := .ref zb) (C := RX2) (T := TX2) (N := 10) hx hb hts miM_forget_X2 hown hK hP 0 rfl rfl 2 (by decide) (hts _ mbM_forget_2) (fun _ h9 => h9) rfl dM_forget_43 ?_
                    refine lv_iload_n hx hb dM_forget_46 rfl (lv_at hl 2 rfl) ?_
                    refine lv_iload hx hb dM_forget_47 (lv_at hl 0 rfl) ?_
                    refine lv_iadd hx hb dM_forget_49 ?_
                    refine va_iald hx hb hK hP 2 0 rfl rfl (pk_in 7 33 (by decide)) dM_forget_50 ?_
                    refine lv_iconst (v := 1) hx hb dM_forget_51 (by decide) ?_
                    refine lv_iand hx hb dM_forget_52 ?_
                    refine lv_isub hx hb dM_forget_53 ?_
                    refine va_iast hx hb hK hP hD hS 2 0 rfl rfl (pk_in 7 33 (by decide)) dM_forget_54 (fun H locs hP hD hS => ?_)
                    have hPn : va_P (dC, dI) vwCl [(k0, .inr (2, [.int 0, .ref yb, .ref zb, .int a1, .int a2, .int a3, .int a4, .int a5, .int a6, .int fo])), (yb, .inl (cI, 65536, .inl y)), (zb, .inl (cI, 33, .inl (s_mclr z 0 8)))] H := (mclr_s z 0 7 7 rfl) ▸ hP
                    have hDn : va_D A [(k0, .inr (2, [.int 0, .ref yb, .ref zb, .int a1, .int a2, .int a3, .int a4, .int a5, .int a6, .int fo])), (yb, .inl (cI, 65536, .inl y)), (zb, .inl (cI, 33, .inl (s_mclr z 0 8)))] := (mclr_s z 0 7 7 rfl) ▸ hD
                    have hP := hPn
                    have hD := hDn
                    refine lv_iinc (v := 8) (lv' := [(4, .int 8), (3, .int (s_M_matched z 0)), (2, .int 0), (0, .ref k0), (1, .int dd)]) hx hb dM_forget_55 hl (k := 0) rfl rfl (by decide) rfl (fun ls hl => ?_)
                    refine lv_goto (tgt := 25) hx hb dM_forget_58 (by decide) ?_
                    refine lv_iload hx hb dM_forget_25 (lv_at hl 0 rfl) ?_
                    refine lv_bipush (v := 8) hx hb dM_forget_27 (by decide) ?_
                    refine lv_icmp_ge (tgt := 61) hx hb dM_forget_29 (by decide) (fun c_12 => ?_) (fun c_12 => ?_)
                    · skip
                      refine lv_iload_n hx hb dM_forget_61 rfl (lv_at hl 1 rfl) ?_
                      exact W.iret (v := s_M_matched z 0) hx hb hr (fun t ht hW => ⟨⟨s_M_matched z 0, (0, s_mclr z 0 8), rfl, by simp only [s_M_forget, if_pos c_1], by rw [ht]; exact hP, va_K.moved hW.alike hK, hD⟩, hS.F ht⟩) hS.2.2 dM_forget_62
                    · exact absurd c_12 (by decide)
  · skip
    refine lv_bipush (v := 16) hx hb dM_forget_9 (by decide) ?_
    refine lv_goto (tgt := 15) hx hb dM_forget_11 (by decide) ?_
    refine lv_istore_n (lv' := [(2, .int 16), (0, .ref k0), (1, .int dd)]) hx hb dM_forget_15 rfl hl (by decide) rfl (fun ls hl => ?_)
    refine lv_aload_n hx hb dM_forget_16 rfl (lv_at hl 1 rfl) ?_
    refine lv_iload_n hx hb dM_forget_17 rfl (lv_at hl 0 rfl) ?_
    have hPc := hP.sub (ws' := [(k0, .inr (2, [.int 0, .ref yb, .ref zb, .int a1, .int a2, .int a3, .int a4, .int a5, .int a6, .int fo])), (yb, .inl (cI, 65536, .inl y)), (zb, .inl (cI, 33, .inl z))]) [0, 1, 2] rfl
    have hKc := hK.sub (tys' := [(cI, .int)]) [0] rfl
    refine vp_callSi (va_Run.run (va_runV (As := [.int 16]) (rest := []) ⟨hx, hb, hml, hown, hts⟩ (c_M_matched l dC dI k0 yb zb cI y z 0 a1 a2 a3 a4 a5 a6 fo 16 (Or.inr rfl)) (cwV 1 hts gM_forget_M_matched rfl rfl rfl (by decide +kernel) ⟨Nat.le_of_ble_eq_true rfl, Nat.le_of_ble_eq_true rfl⟩) ⟨fun a U g mk q => by obtain ⟨q0, qP, qK⟩ := q; exact ⟨q0, qP, va_K.moved (u := U) (U := U.calling g mk a) (Vm.Alike.refl U.vm) qK⟩, va_recv hKc hPc (ci := 2) (q0 := 0) rfl rfl, fun U hU hW => ⟨rfl, by rw [hU]; exact hPc, va_K.moved hW.alike hKc⟩⟩ rfl rfl hl.1 rfl (lv_room (Nat.le_of_ble_eq_true rfl)) dM_forget_18 ⟨Nat.le_of_ble_eq_true rfl, Nat.le_of_ble_eq_true rfl⟩)) (fun r_13 hw_14 => ?_)
    subst hw_14
    refine lv_istore_n (lv' := [(3, .int (s_M_matched z 16)), (2, .int 16), (0, .ref k0), (1, .int dd)]) hx hb dM_forget_21 rfl hl (by decide) rfl (fun ls hl => ?_)
    refine lv_iconst (v := 0) hx hb dM_forget_22 (by decide) ?_
    refine lv_istore (lv' := [(4, .int 0), (3, .int (s_M_matched z 16)), (2, .int 16), (0, .ref k0), (1, .int dd)]) hx hb dM_forget_23 hl (by decide) rfl (fun ls hl => ?_)
    refine lv_iload hx hb dM_forget_25 (lv_at hl 0 rfl) ?_
    refine lv_bipush (v := 8) hx hb dM_forget_27 (by decide) ?_
    refine lv_icmp_ge (tgt := 61) hx hb dM_forget_29 (by decide) (fun c_15 => ?_) (fun c_15 => ?_)
    · exact absurd c_15 (by decide)
    · skip
      refine lv_aload_n hx hb dM_forget_32 rfl (lv_at hl 3 rfl) ?_
      refine va_get (D := (dC, dI)) (ci := 2) (v := .ref zb) (C := RX2) (T := TX2) (N := 10) hx hb hts miM_forget_X2 hown hK hP 0 rfl rfl 2 (by decide) (hts _ mbM_forget_2) (fun _ h9 => h9) rfl dM_forget_33 ?_
      refine lv_iload_n hx hb dM_forget_36 rfl (lv_at hl 2 rfl) ?_
      refine lv_iload hx hb dM_forget_37 (lv_at hl 0 rfl) ?_
      refine lv_iadd hx hb dM_forget_39 ?_
      refine lv_dup2_11 hx hb dM_forget_40 rfl rfl ?_
      refine va_iald hx hb hK hP 2 0 rfl rfl (pk_in 16 33 (by decide)) dM_forget_41 ?_
      refine lv_aload_n hx hb dM_forget_42 rfl (lv_at hl 3 rfl) ?_
      refine va_get (D := (dC, dI)) (ci := 2) (v := .ref zb) (C := RX2) (T := TX2) (N := 10) hx hb hts miM_forget_X2 hown hK hP 0 rfl rfl 2 (by decide) (hts _ mbM_forget_2) (fun _ h9 => h9) rfl dM_forget_43 ?_
      refine lv_iload_n hx hb dM_forget_46 rfl (lv_at hl 2 rfl) ?_
      refine lv_iload hx hb dM_forget_47 (lv_at hl 0 rfl) ?_
      refine lv_iadd hx hb dM_forget_49 ?_
      refine va_iald hx hb hK hP 2 0 rfl rfl (pk_in 16 33 (by decide)) dM_forget_50 ?_
      refine lv_iconst (v := 1) hx hb dM_forget_51 (by decide) ?_
      refine lv_iand hx hb dM_forget_52 ?_
      refine lv_isub hx hb dM_forget_53 ?_
      refine va_iast hx hb hK hP hD hS 2 0 rfl rfl (pk_in 16 33 (by decide)) dM_forget_54 (fun H locs hP hD hS => ?_)
      have hPn : va_P (dC, dI) vwCl [(k0, .inr (2, [.int 0, .ref yb, .ref zb, .int a1, .int a2, .int a3, .int a4, .int a5, .int a6, .int fo])), (yb, .inl (cI, 65536, .inl y)), (zb, .inl (cI, 33, .inl (s_mclr z 16 1)))] H := (mclr_s z 16 0 0 rfl) ▸ hP
      have hDn : va_D A [(k0, .inr (2, [.int 0, .ref yb, .ref zb, .int a1, .int a2, .int a3, .int a4, .int a5, .int a6, .int fo])), (yb, .inl (cI, 65536, .inl y)), (zb, .inl (cI, 33, .inl (s_mclr z 16 1)))] := (mclr_s z 16 0 0 rfl) ▸ hD
      have hP := hPn
      have hD := hDn
      refine lv_iinc (v := 1) (lv' := [(4, .int 1), (3, .int (s_M_matched z 16)), (2, .int 16), (0, .ref k0), (1, .int dd)]) hx hb dM_forget_55 hl (k := 0) rfl rfl (by decide) rfl (fun ls hl => ?_)
      refine lv_goto (tgt := 25) hx hb dM_forget_58 (by decide) ?_
      refine lv_iload hx hb dM_forget_25 (lv_at hl 0 rfl) ?_
      refine lv_bipush (v := 8) hx hb dM_forget_27 (by decide) ?_
      refine lv_icmp_ge (tgt := 61) hx hb dM_forget_29 (by decide) (fun c_16 => ?_) (fun c_16 => ?_)
      · exact absurd c_16 (by decide)
      · skip
        refine lv_aload_n hx hb dM_forget_32 rfl (lv_at hl 3 rfl) ?_
        refine va_get (D := (dC, dI)) (ci := 2) (v := .ref zb) (C := RX2) (T := TX2) (N := 10) hx hb hts miM_forget_X2 hown hK hP 0 rfl rfl 2 (by decide) (hts _ mbM_forget_2) (fun _ h9 => h9) rfl dM_forget_33 ?_
        refine lv_iload_n hx hb dM_forget_36 rfl (lv_at hl 2 rfl) ?_
        refine lv_iload hx hb dM_forget_37 (lv_at hl 0 rfl) ?_
        refine lv_iadd hx hb dM_forget_39 ?_
        refine lv_dup2_11 hx hb dM_forget_40 rfl rfl ?_
        refine va_iald hx hb hK hP 2 0 rfl rfl (pk_in 17 33 (by decide)) dM_forget_41 ?_
        refine lv_aload_n hx hb dM_forget_42 rfl (lv_at hl 3 rfl) ?_
        refine va_get (D := (dC, dI)) (ci := 2) (v := .ref zb) (C := RX2) (T := TX2) (N := 10) hx hb hts miM_forget_X2 hown hK hP 0 rfl rfl 2 (by decide) (hts _ mbM_forget_2) (fun _ h9 => h9) rfl dM_forget_43 ?_
        refine lv_iload_n hx hb dM_forget_46 rfl (lv_at hl 2 rfl) ?_
        refine lv_iload hx hb dM_forget_47 (lv_at hl 0 rfl) ?_
        refine lv_iadd hx hb dM_forget_49 ?_
        refine va_iald hx hb hK hP 2 0 rfl rfl (pk_in 17 33 (by decide)) dM_forget_50 ?_
        refine lv_iconst (v := 1) hx hb dM_forget_51 (by decide) ?_
        refine lv_iand hx hb dM_forget_52 ?_
        refine lv_isub hx hb dM_forget_53 ?_
        refine va_iast hx hb hK hP hD hS 2 0 rfl rfl (pk_in 17 33 (by decide)) dM_forget_54 (fun H locs hP hD hS => ?_)
        have hPn : va_P (dC, dI) vwCl [(k0, .inr (2, [.int 0, .ref yb, .ref zb, .int a1, .int a2, .int a3, .int a4, .int a5, .int a6, .int fo])), (yb, .inl (cI, 65536, .inl y)), (zb, .inl (cI, 33, .inl (s_mclr z 16 2)))] H := (mclr_s z 16 1 1 rfl) ▸ hP
        have hDn : va_D A [(k0, .inr (2, [.int 0, .ref yb, .ref zb, .int a1, .int a2, .int a3, .int a4, .int a5, .int a6, .int fo])), (yb, .inl (cI, 65536, .inl y)), (zb, .inl (cI, 33, .inl (s_mclr z 16 2)))] := (mclr_s z 16 1 1 rfl) ▸ hD
        have hP := hPn
        have hD := hDn
        refine lv_iinc (v := 2) (lv' := [(4, .int 2), (3, .int (s_M_matched z 16)), (2, .int 16), (0, .ref k0), (1, .int dd)]) hx hb dM_forget_55 hl (k := 0) rfl rfl (by decide) rfl (fun ls hl => ?_)
        refine lv_goto (tgt := 25) hx hb dM_forget_58 (by decide) ?_
        refine lv_iload hx hb dM_forget_25 (lv_at hl 0 rfl) ?_
        refine lv_bipush (v := 8) hx hb dM_forget_27 (by decide) ?_
        refine lv_icmp_ge (tgt := 61) hx hb dM_forget_29 (by decide) (fun c_17 => ?_) (fun c_17 => ?_)
        · exact absurd c_17 (by decide)
        · skip
          refine lv_aload_n hx hb dM_forget_32 rfl (lv_at hl 3 rfl) ?_
          refine va_get (D := (dC, dI)) (ci := 2) (v := .ref zb) (C := RX2) (T := TX2) (N := 10) hx hb hts miM_forget_X2 hown hK hP 0 rfl rfl 2 (by decide) (hts _ mbM_forget_2) (fun _ h9 => h9) rfl dM_forget_33 ?_
          refine lv_iload_n hx hb dM_forget_36 rfl (lv_at hl 2 rfl) ?_
          refine lv_iload hx hb dM_forget_37 (lv_at hl 0 rfl) ?_
          refine lv_iadd hx hb dM_forget_39 ?_
          refine lv_dup2_11 hx hb dM_forget_40 rfl rfl ?_
          refine va_iald hx hb hK hP 2 0 rfl rfl (pk_in 18 33 (by decide)) dM_forget_41 ?_
          refine lv_aload_n hx hb dM_forget_42 rfl (lv_at hl 3 rfl) ?_
          refine va_get (D := (dC, dI)) (ci := 2) (v := .ref zb) (C := RX2) (T := TX2) (N := 10) hx hb hts miM_forget_X2 hown hK hP 0 rfl rfl 2 (by decide) (hts _ mbM_forget_2) (fun _ h9 => h9) rfl dM_forget_43 ?_
          refine lv_iload_n hx hb dM_forget_46 rfl (lv_at hl 2 rfl) ?_
          refine lv_iload hx hb dM_forget_47 (lv_at hl 0 rfl) ?_
          refine lv_iadd hx hb dM_forget_49 ?_
          refine va_iald hx hb hK hP 2 0 rfl rfl (pk_in 18 33 (by decide)) dM_forget_50 ?_
          refine lv_iconst (v := 1) hx hb dM_forget_51 (by decide) ?_
          refine lv_iand hx hb dM_forget_52 ?_
          refine lv_isub hx hb dM_forget_53 ?_
          refine va_iast hx hb hK hP hD hS 2 0 rfl rfl (pk_in 18 33 (by decide)) dM_forget_54 (fun H locs hP hD hS => ?_)
          have hPn : va_P (dC, dI) vwCl [(k0, .inr (2, [.int 0, .ref yb, .ref zb, .int a1, .int a2, .int a3, .int a4, .int a5, .int a6, .int fo])), (yb, .inl (cI, 65536, .inl y)), (zb, .inl (cI, 33, .inl (s_mclr z 16 3)))] H := (mclr_s z 16 2 2 rfl) ▸ hP
          have hDn : va_D A [(k0, .inr (2, [.int 0, .ref yb, .ref zb, .int a1, .int a2, .int a3, .int a4, .int a5, .int a6, .int fo])), (yb, .inl (cI, 65536, .inl y)), (zb, .inl (cI, 33, .inl (s_mclr z 16 3)))] := (mclr_s z 16 2 2 rfl) ▸ hD
          have hP := hPn
          have hD := hDn
          refine lv_iinc (v := 3) (lv' := [(4, .int 3), (3, .int (s_M_matched z 16)), (2, .int 16), (0, .ref k0), (1, .int dd)]) hx hb dM_forget_55 hl (k := 0) rfl rfl (by decide) rfl (fun ls hl => ?_)
          refine lv_goto (tgt := 25) hx hb dM_forget_58 (by decide) ?_
          refine lv_iload hx hb dM_forget_25 (lv_at hl 0 rfl) ?_
          refine lv_bipush (v := 8) hx hb dM_forget_27 (by decide) ?_
          refine lv_icmp_ge (tgt := 61) hx hb dM_forget_29 (by decide) (fun c_18 => ?_) (fun c_18 => ?_)
          · exact absurd c_18 (by decide)
          · skip
            refine lv_aload_n hx hb dM_forget_32 rfl (lv_at hl 3 rfl) ?_
            refine va_get (D := (dC, dI)) (ci := 2) (v := .ref zb) (C := RX2) (T := TX2) (N := 10) hx hb hts miM_forget_X2 hown hK hP 0 rfl rfl 2 (by decide) (hts _ mbM_forget_2) (fun _ h9 => h9) rfl dM_forget_33 ?_
            refine lv_iload_n hx hb dM_forget_36 rfl (lv_at hl 2 rfl) ?_
            refine lv_iload hx hb dM_forget_37 (lv_at hl 0 rfl) ?_
            refine lv_iadd hx hb dM_forget_39 ?_
            refine lv_dup2_11 hx hb dM_forget_40 rfl rfl ?_
            refine va_iald hx hb hK hP 2 0 rfl rfl (pk_in 19 33 (by decide)) dM_forget_41 ?_
            refine lv_aload_n hx hb dM_forget_42 rfl (lv_at hl 3 rfl) ?_
            refine va_get (D := (dC, dI)) (ci := 2) (v := .ref zb) (C := RX2) (T := TX2) (N := 10) hx hb hts miM_forget_X2 hown hK hP 0 rfl rfl 2 (by decide) (hts _ mbM_forget_2) (fun _ h9 => h9) rfl dM_forget_43 ?_
            refine lv_iload_n hx hb dM_forget_46 rfl (lv_at hl 2 rfl) ?_
            refine lv_iload hx hb dM_forget_47 (lv_at hl 0 rfl) ?_
            refine lv_iadd hx hb dM_forget_49 ?_
            refine va_iald hx hb hK hP 2 0 rfl rfl (pk_in 19 33 (by decide)) dM_forget_50 ?_
            refine lv_iconst (v := 1) hx hb dM_forget_51 (by decide) ?_
            refine lv_iand hx hb dM_forget_52 ?_
            refine lv_isub hx hb dM_forget_53 ?_
            refine va_iast hx hb hK hP hD hS 2 0 rfl rfl (pk_in 19 33 (by decide)) dM_forget_54 (fun H locs hP hD hS => ?_)
            have hPn : va_P (dC, dI) vwCl [(k0, .inr (2, [.int 0, .ref yb, .ref zb, .int a1, .int a2, .int a3, .int a4, .int a5, .int a6, .int fo])), (yb, .inl (cI, 65536, .inl y)), (zb, .inl (cI, 33, .inl (s_mclr z 16 4)))] H := (mclr_s z 16 3 3 rfl) ▸ hP
            have hDn : va_D A [(k0, .inr (2, [.int 0, .ref yb, .ref zb, .int a1, .int a2, .int a3, .int a4, .int a5, .int a6, .int fo])), (yb, .inl (cI, 65536, .inl y)), (zb, .inl (cI, 33, .inl (s_mclr z 16 4)))] := (mclr_s z 16 3 3 rfl) ▸ hD
            have hP := hPn
            have hD := hDn
            refine lv_iinc (v := 4) (lv' := [(4, .int 4), (3, .int (s_M_matched z 16)), (2, .int 16), (0, .ref k0), (1, .int dd)]) hx hb dM_forget_55 hl (k := 0) rfl rfl (by decide) rfl (fun ls hl => ?_)
            refine lv_goto (tgt := 25) hx hb dM_forget_58 (by decide) ?_
            refine lv_iload hx hb dM_forget_25 (lv_at hl 0 rfl) ?_
            refine lv_bipush (v := 8) hx hb dM_forget_27 (by decide) ?_
            refine lv_icmp_ge (tgt := 61) hx hb dM_forget_29 (by decide) (fun c_19 => ?_) (fun c_19 => ?_)
            · exact absurd c_19 (by decide)
            · skip
              refine lv_aload_n hx hb dM_forget_32 rfl (lv_at hl 3 rfl) ?_
              refine va_get (D := (dC, dI)) (ci := 2) (v := .ref zb) (C := RX2) (T := TX2) (N := 10) hx hb hts miM_forget_X2 hown hK hP 0 rfl rfl 2 (by decide) (hts _ mbM_forget_2) (fun _ h9 => h9) rfl dM_forget_33 ?_
              refine lv_iload_n hx hb dM_forget_36 rfl (lv_at hl 2 rfl) ?_
              refine lv_iload hx hb dM_forget_37 (lv_at hl 0 rfl) ?_
              refine lv_iadd hx hb dM_forget_39 ?_
              refine lv_dup2_11 hx hb dM_forget_40 rfl rfl ?_
              refine va_iald hx hb hK hP 2 0 rfl rfl (pk_in 20 33 (by decide)) dM_forget_41 ?_
              refine lv_aload_n hx hb dM_forget_42 rfl (lv_at hl 3 rfl) ?_
              refine va_get (D := (dC, dI)) (ci := 2) (v := .ref zb) (C := RX2) (T := TX2) (N := 10) hx hb hts miM_forget_X2 hown hK hP 0 rfl rfl 2 (by decide) (hts _ mbM_forget_2) (fun _ h9 => h9) rfl dM_forget_43 ?_
              refine lv_iload_n hx hb dM_forget_46 rfl (lv_at hl 2 rfl) ?_
              refine lv_iload hx hb dM_forget_47 (lv_at hl 0 rfl) ?_
              refine lv_iadd hx hb dM_forget_49 ?_
              refine va_iald hx hb hK hP 2 0 rfl rfl (pk_in 20 33 (by decide)) dM_forget_50 ?_
              refine lv_iconst (v := 1) hx hb dM_forget_51 (by decide) ?_
              refine lv_iand hx hb dM_forget_52 ?_
              refine lv_isub hx hb dM_forget_53 ?_
              refine va_iast hx hb hK hP hD hS 2 0 rfl rfl (pk_in 20 33 (by decide)) dM_forget_54 (fun H locs hP hD hS => ?_)
              have hPn : va_P (dC, dI) vwCl [(k0, .inr (2, [.int 0, .ref yb, .ref zb, .int a1, .int a2, .int a3, .int a4, .int a5, .int a6, .int fo])), (yb, .inl (cI, 65536, .inl y)), (zb, .inl (cI, 33, .inl (s_mclr z 16 5)))] H := (mclr_s z 16 4 4 rfl) ▸ hP
              have hDn : va_D A [(k0, .inr (2, [.int 0, .ref yb, .ref zb, .int a1, .int a2, .int a3, .int a4, .int a5, .int a6, .int fo])), (yb, .inl (cI, 65536, .inl y)), (zb, .inl (cI, 33, .inl (s_mclr z 16 5)))] := (mclr_s z 16 4 4 rfl) ▸ hD
              have hP := hPn
              have hD := hDn
              refine lv_iinc (v := 5) (lv' := [(4, .int 5), (3, .int (s_M_matched z 16)), (2, .int 16), (0, .ref k0), (1, .int dd)]) hx hb dM_forget_55 hl (k := 0) rfl rfl (by decide) rfl (fun ls hl => ?_)
              refine lv_goto (tgt := 25) hx hb dM_forget_58 (by decide) ?_
              refine lv_iload hx hb dM_forget_25 (lv_at hl 0 rfl) ?_
              refine lv_bipush (v := 8) hx hb dM_forget_27 (by decide) ?_
              refine lv_icmp_ge (tgt := 61) hx hb dM_forget_29 (by decide) (fun c_20 => ?_) (fun c_20 => ?_)
              · exact absurd c_20 (by decide)
              · skip
                refine lv_aload_n hx hb dM_forget_32 rfl (lv_at hl 3 rfl) ?_
                refine va_get (D := (dC, dI)) (ci := 2) (v := .ref zb) (C := RX2) (T := TX2) (N := 10) hx hb hts miM_forget_X2 hown hK hP 0 rfl rfl 2 (by decide) (hts _ mbM_forget_2) (fun _ h9 => h9) rfl dM_forget_33 ?_
                refine lv_iload_n hx hb dM_forget_36 rfl (lv_at hl 2 rfl) ?_
                refine lv_iload hx hb dM_forget_37 (lv_at hl 0 rfl) ?_
                refine lv_iadd hx hb dM_forget_39 ?_
                refine lv_dup2_11 hx hb dM_forget_40 rfl rfl ?_
                refine va_iald hx hb hK hP 2 0 rfl rfl (pk_in 21 33 (by decide)) dM_forget_41 ?_
                refine lv_aload_n hx hb dM_forget_42 rfl (lv_at hl 3 rfl) ?_
                refine va_get (D := (dC, dI)) (ci := 2) (v := .ref zb) (C := RX2) (T := TX2) (N := 10) hx hb hts miM_forget_X2 hown hK hP 0 rfl rfl 2 (by decide) (hts _ mbM_forget_2) (fun _ h9 => h9) rfl dM_forget_43 ?_
                refine lv_iload_n hx hb dM_forget_46 rfl (lv_at hl 2 rfl) ?_
                refine lv_iload hx hb dM_forget_47 (lv_at hl 0 rfl) ?_
                refine lv_iadd hx hb dM_forget_49 ?_
                refine va_iald hx hb hK hP 2 0 rfl rfl (pk_in 21 33 (by decide)) dM_forget_50 ?_
                refine lv_iconst (v := 1) hx hb dM_forget_51 (by decide) ?_
                refine lv_iand hx hb dM_forget_52 ?_
                refine lv_isub hx hb dM_forget_53 ?_
                refine va_iast hx hb hK hP hD hS 2 0 rfl rfl (pk_in 21 33 (by decide)) dM_forget_54 (fun H locs hP hD hS => ?_)
                have hPn : va_P (dC, dI) vwCl [(k0, .inr (2, [.int 0, .ref yb, .ref zb, .int a1, .int a2, .int a3, .int a4, .int a5, .int a6, .int fo])), (yb, .inl (cI, 65536, .inl y)), (zb, .inl (cI, 33, .inl (s_mclr z 16 6)))] H := (mclr_s z 16 5 5 rfl) ▸ hP
                have hDn : va_D A [(k0, .inr (2, [.int 0, .ref yb, .ref zb, .int a1, .int a2, .int a3, .int a4, .int a5, .int a6, .int fo])), (yb, .inl (cI, 65536, .inl y)), (zb, .inl (cI, 33, .inl (s_mclr z 16 6)))] := (mclr_s z 16 5 5 rfl) ▸ hD
                have hP := hPn
                have hD := hDn
                refine lv_iinc (v := 6) (lv' := [(4, .int 6), (3, .int (s_M_matched z 16)), (2, .int 16), (0, .ref k0), (1, .int dd)]) hx hb dM_forget_55 hl (k := 0) rfl rfl (by decide) rfl (fun ls hl => ?_)
                refine lv_goto (tgt := 25) hx hb dM_forget_58 (by decide) ?_
                refine lv_iload hx hb dM_forget_25 (lv_at hl 0 rfl) ?_
                refine lv_bipush (v := 8) hx hb dM_forget_27 (by decide) ?_
                refine lv_icmp_ge (tgt := 61) hx hb dM_forget_29 (by decide) (fun c_21 => ?_) (fun c_21 => ?_)
                · exact absurd c_21 (by decide)
                · skip
                  refine lv_aload_n hx hb dM_forget_32 rfl (lv_at hl 3 rfl) ?_
                  refine va_get (D := (dC, dI)) (ci := 2) (v := .ref zb) (C := RX2) (T := TX2) (N := 10) hx hb hts miM_forget_X2 hown hK hP 0 rfl rfl 2 (by decide) (hts _ mbM_forget_2) (fun _ h9 => h9) rfl dM_forget_33 ?_
                  refine lv_iload_n hx hb dM_forget_36 rfl (lv_at hl 2 rfl) ?_
                  refine lv_iload hx hb dM_forget_37 (lv_at hl 0 rfl) ?_
                  refine lv_iadd hx hb dM_forget_39 ?_
                  refine lv_dup2_11 hx hb dM_forget_40 rfl rfl ?_
                  refine va_iald hx hb hK hP 2 0 rfl rfl (pk_in 22 33 (by decide)) dM_forget_41 ?_
                  refine lv_aload_n hx hb dM_forget_42 rfl (lv_at hl 3 rfl) ?_
                  refine va_get (D := (dC, dI)) (ci := 2) (v := .ref zb) (C := RX2) (T := TX2) (N := 10) hx hb hts miM_forget_X2 hown hK hP 0 rfl rfl 2 (by decide) (hts _ mbM_forget_2) (fun _ h9 => h9) rfl dM_forget_43 ?_
                  refine lv_iload_n hx hb dM_forget_46 rfl (lv_at hl 2 rfl) ?_
                  refine lv_iload hx hb dM_forget_47 (lv_at hl 0 rfl) ?_
                  refine lv_iadd hx hb dM_forget_49 ?_
                  refine va_iald hx hb hK hP 2 0 rfl rfl (pk_in 22 33 (by decide)) dM_forget_50 ?_
                  refine lv_iconst (v := 1) hx hb dM_forget_51 (by decide) ?_
                  refine lv_iand hx hb dM_forget_52 ?_
                  refine lv_isub hx hb dM_forget_53 ?_
                  refine va_iast hx hb hK hP hD hS 2 0 rfl rfl (pk_in 22 33 (by decide)) dM_forget_54 (fun H locs hP hD hS => ?_)
                  have hPn : va_P (dC, dI) vwCl [(k0, .inr (2, [.int 0, .ref yb, .ref zb, .int a1, .int a2, .int a3, .int a4, .int a5, .int a6, .int fo])), (yb, .inl (cI, 65536, .inl y)), (zb, .inl (cI, 33, .inl (s_mclr z 16 7)))] H := (mclr_s z 16 6 6 rfl) ▸ hP
                  have hDn : va_D A [(k0, .inr (2, [.int 0, .ref yb, .ref zb, .int a1, .int a2, .int a3, .int a4, .int a5, .int a6, .int fo])), (yb, .inl (cI, 65536, .inl y)), (zb, .inl (cI, 33, .inl (s_mclr z 16 7)))] := (mclr_s z 16 6 6 rfl) ▸ hD
                  have hP := hPn
                  have hD := hDn
                  refine lv_iinc (v := 7) (lv' := [(4, .int 7), (3, .int (s_M_matched z 16)), (2, .int 16), (0, .ref k0), (1, .int dd)]) hx hb dM_forget_55 hl (k := 0) rfl rfl (by decide) rfl (fun ls hl => ?_)
                  refine lv_goto (tgt := 25) hx hb dM_forget_58 (by decide) ?_
                  refine lv_iload hx hb dM_forget_25 (lv_at hl 0 rfl) ?_
                  refine lv_bipush (v := 8) hx hb dM_forget_27 (by decide) ?_
                  refine lv_icmp_ge (tgt := 61) hx hb dM_forget_29 (by decide) (fun c_22 => ?_) (fun c_22 => ?_)
                  · exact absurd c_22 (by decide)
                  · skip
                    refine lv_aload_n hx hb dM_forget_32 rfl (lv_at hl 3 rfl) ?_
                    refine va_get (D := (dC, dI)) (ci := 2) (v := .ref zb) (C := RX2) (T := TX2) (N := 10) hx hb hts miM_forget_X2 hown hK hP 0 rfl rfl 2 (by decide) (hts _ mbM_forget_2) (fun _ h9 => h9) rfl dM_forget_33 ?_
                    refine lv_iload_n hx hb dM_forget_36 rfl (lv_at hl 2 rfl) ?_
                    refine lv_iload hx hb dM_forget_37 (lv_at hl 0 rfl) ?_
                    refine lv_iadd hx hb dM_forget_39 ?_
                    refine lv_dup2_11 hx hb dM_forget_40 rfl rfl ?_
                    refine va_iald hx hb hK hP 2 0 rfl rfl (pk_in 23 33 (by decide)) dM_forget_41 ?_
                    refine lv_aload_n hx hb dM_forget_42 rfl (lv_at hl 3 rfl) ?_
                    refine va_get (D := (dC, dI)) (ci := 2) (v := .ref zb) (C := RX2) (T := TX2) (N := 10) hx hb hts miM_forget_X2 hown hK hP 0 rfl rfl 2 (by decide) (hts _ mbM_forget_2) (fun _ h9 => h9) rfl dM_forget_43 ?_
                    refine lv_iload_n hx hb dM_forget_46 rfl (lv_at hl 2 rfl) ?_
                    refine lv_iload hx hb dM_forget_47 (lv_at hl 0 rfl) ?_
                    refine lv_iadd hx hb dM_forget_49 ?_
                    refine va_iald hx hb hK hP 2 0 rfl rfl (pk_in 23 33 (by decide)) dM_forget_50 ?_
                    refine lv_iconst (v := 1) hx hb dM_forget_51 (by decide) ?_
                    refine lv_iand hx hb dM_forget_52 ?_
                    refine lv_isub hx hb dM_forget_53 ?_
                    refine va_iast hx hb hK hP hD hS 2 0 rfl rfl (pk_in 23 33 (by decide)) dM_forget_54 (fun H locs hP hD hS => ?_)
                    have hPn : va_P (dC, dI) vwCl [(k0, .inr (2, [.int 0, .ref yb, .ref zb, .int a1, .int a2, .int a3, .int a4, .int a5, .int a6, .int fo])), (yb, .inl (cI, 65536, .inl y)), (zb, .inl (cI, 33, .inl (s_mclr z 16 8)))] H := (mclr_s z 16 7 7 rfl) ▸ hP
                    have hDn : va_D A [(k0, .inr (2, [.int 0, .ref yb, .ref zb, .int a1, .int a2, .int a3, .int a4, .int a5, .int a6, .int fo])), (yb, .inl (cI, 65536, .inl y)), (zb, .inl (cI, 33, .inl (s_mclr z 16 8)))] := (mclr_s z 16 7 7 rfl) ▸ hD
                    have hP := hPn
                    have hD := hDn
                    refine lv_iinc (v := 8) (lv' := [(4, .int 8), (3, .int (s_M_matched z 16)), (2, .int 16), (0, .ref k0), (1, .int dd)]) hx hb dM_forget_55 hl (k := 0) rfl rfl (by decide) rfl (fun ls hl => ?_)
                    refine lv_goto (tgt := 25) hx hb dM_forget_58 (by decide) ?_
                    refine lv_iload hx hb dM_forget_25 (lv_at hl 0 rfl) ?_
                    refine lv_bipush (v := 8) hx hb dM_forget_27 (by decide) ?_
                    refine lv_icmp_ge (tgt := 61) hx hb dM_forget_29 (by decide) (fun c_23 => ?_) (fun c_23 => ?_)
                    · skip
                      refine lv_iload_n hx hb dM_forget_61 rfl (lv_at hl 1 rfl) ?_
                      exact W.iret (v := s_M_matched z 16) hx hb hr (fun t ht hW => ⟨⟨s_M_matched z 16, (0, s_mclr z 16 8), rfl, by simp only [s_M_forget, if_neg c_1], by rw [ht]; exact hP, va_K.moved hW.alike hK, hD⟩, hS.F ht⟩) hS.2.2 dM_forget_62
                    · exact absurd c_23 (by decide)
set_option maxRecDepth 100000 in
theorem miM_look_X2 : ∀ w ∈ u_ws RX2 TX2 10, w ∈ wsM_look := by decide +kernel
set_option maxRecDepth 100000 in
theorem mbM_look_1 : (.fieldLink RX2 17 "SoftMapsModel" "thrown" "I" : Cond) ∈ wsM_look := by decide +kernel
set_option maxRecDepth 100000 in
theorem mbM_look_2 : (.fieldLink RX2 53 "SoftMapsModel" "faults" "I" : Cond) ∈ wsM_look := by decide +kernel
set_option maxRecDepth 100000 in
theorem mbM_look_3 : (.fieldLink RX2 56 "SoftMapsModel" "fault" "I" : Cond) ∈ wsM_look := by decide +kernel
set_option maxRecDepth 100000 in
theorem mbM_look_4 : (.fieldLink RX2 59 "SoftMapsModel" "address" "I" : Cond) ∈ wsM_look := by decide +kernel
set_option maxRecDepth 100000 in
theorem mbM_look_5 : (.fieldLink RX2 66 "SoftMapsModel" "codes" "I" : Cond) ∈ wsM_look := by decide +kernel
set_option maxRecDepth 100000 in
theorem mbM_look_6 : (.fieldLink RX2 73 "SoftMapsModel" "loads" "I" : Cond) ∈ wsM_look := by decide +kernel
set_option maxRecDepth 100000 in
theorem mbM_look_7 : (.fieldLink RX2 76 "SoftMapsModel" "stores" "I" : Cond) ∈ wsM_look := by decide +kernel
def s_M_look (z : Nat → Int32) (a1 : Int32) (a2 : Int32) (a3 : Int32) (a4 : Int32) (a5 : Int32) (a6 : Int32) (k : Int32) : Int32 × Int32 :=
  if k = 0 then
    (a1, 0)
  else
    if k = 1 then
      (a2, 0)
    else
      if k = 2 then
        (a3, 0)
      else
        if k = 3 then
          (a4, 0)
        else
          if k = 4 then
            (a5, 0)
          else
            if k = 5 then
              (a6, 0)
            else
              if k = 6 then
                (s_M_matched z 0, 0)
              else
                if k = 7 then
                  (s_M_matched z 16, 0)
                else
                  ((-1), 0)
set_option maxHeartbeats 4000000 in
set_option maxRecDepth 100000 in
theorem c_M_look (l : Launch) (dC : Nat → ClassId) (dI : Nat → Nat → Nat) (sz : Nat) (k0 yb zb : Nat) (cI : ClassId) (y z : Nat → Int32) (th a1 a2 a3 a4 a5 a6 fo : Int32) (k : Int32)  : Met l yM_look wsM_look ({ frames := 1, cells := 0, slots := 0, locals := 23 }) (va_Pc [.ref k0, .int k] (fun U => U.heap.size = sz ∧ va_P (dC, dI) vwCl [(k0, .inr (2, [.int th, .ref yb, .ref zb, .int a1, .int a2, .int a3, .int a4, .int a5, .int a6, .int fo])), (yb, .inl (cI, 65536, .inl y)), (zb, .inl (cI, 33, .inl z))] U.heap ∧ va_K (dC, dI) vwCl [(cI, .int)] U ∧ va_D (fun _ => True) [(k0, .inr (2, [.int th, .ref yb, .ref zb, .int a1, .int a2, .int a3, .int a4, .int a5, .int a6, .int fo])), (yb, .inl (cI, 65536, .inl y)), (zb, .inl (cI, 33, .inl z))])) (va_Qi (fun (a_ : Int32) (u : Int32) => (a_, u) = s_M_look z a1 a2 a3 a4 a5 a6 k) (fun (u : Int32) (t : State) => va_P (dC, dI) vwCl [(k0, .inr (2, [.int u, .ref yb, .ref zb, .int a1, .int a2, .int a3, .int a4, .int a5, .int a6, .int fo])), (yb, .inl (cI, 65536, .inl y)), (zb, .inl (cI, 33, .inl z))] t.heap ∧ va_K (dC, dI) vwCl [(cI, .int)] t ∧ va_D (va_A [(k0, .inr (2, [.int th, .ref yb, .ref zb, .int a1, .int a2, .int a3, .int a4, .int a5, .int a6, .int fo])), (yb, .inl (cI, 65536, .inl y)), (zb, .inl (cI, 33, .inl z))] sz) [(k0, .inr (2, [.int u, .ref yb, .ref zb, .int a1, .int a2, .int a3, .int a4, .int a5, .int a6, .int fo])), (yb, .inl (cI, 65536, .inl y)), (zb, .inl (cI, 33, .inl z))]) (va_A [(k0, .inr (2, [.int th, .ref yb, .ref zb, .int a1, .int a2, .int a3, .int a4, .int a5, .int a6, .int fo])), (yb, .inl (cI, 65536, .inl y)), (zb, .inl (cI, 33, .inl z))] sz)) 0 0 (va_A [(k0, .inr (2, [.int th, .ref yb, .ref zb, .int a1, .int a2, .int a3, .int a4, .int a5, .int a6, .int fo])), (yb, .inl (cI, 65536, .inl y)), (zb, .inl (cI, 33, .inl z))] sz) := by
  refine Met.ofW (cc := cM_look) (maxL := 2) (ret := (some .int)) (by decide) rfl ?_
  intro p e s m args below meth c s₁ B hml hv
  obtain ⟨rfl, hsz, hP, hK, hD0⟩ := hv
  have hx := B.exec
  have hb := B.bytes
  have hr := B.returns
  have hts := atoms_spec (ws := wsM_look) B.pre
  have hown : s.vm.findClass RX2 = some m.cls := findClass_of_methodNamed B.named
  have hlocks := B.notSynchronized
  subst hsz
  have hD := hD0.self (sz := s.heap.size)
  generalize hAe : va_A [(k0, .inr (2, [.int th, .ref yb, .ref zb, .int a1, .int a2, .int a3, .int a4, .int a5, .int a6, .int fo])), (yb, .inl (cI, 65536, .inl y)), (zb, .inl (cI, 33, .inl z))] s.heap.size = A at hD ⊢
  have hA : ∀ q : Nat, s.heap.size ≤ q → A q := fun q h => by rw [← hAe]; exact Or.inr h
  have hS : va_S A s.heap s.heap [] := va_S.rf
  have hP : va_P (dC, dI) vwCl [(k0, .inr (2, [.int th, .ref yb, .ref zb, .int a1, .int a2, .int a3, .int a4, .int a5, .int a6, .int fo])), (yb, .inl (cI, 65536, .inl y)), (zb, .inl (cI, 33, .inl z))] s.heap := hP
  have hl := lv_entry ([.ref k0, .int k]) (n := 2) (Nat.le_of_ble_eq_true rfl)
  rw [lg_entry_eq]
  generalize (lg_sl ([.ref k0, .int k]) ++ List.replicate (2 - (lg_sl ([.ref k0, .int k])).length) Slot.unset).toArray = ls at hl ⊢
  have hl : lv_has ls 2 [(0, .ref k0), (1, .int k)] := hl
  refine lv_aload_n hx hb dM_look_0 rfl (lv_at hl 0 rfl) ?_
  refine lv_iconst (v := 0) hx hb dM_look_1 (by decide) ?_
  refine va_put (D := (dC, dI)) (ci := 2) (v := .int 0) (ty := tyX2 0) (C := RX2) (T := TX2) (N := 10) hx hb hts miM_look_X2 tyX2 tyX2_ok nmX2 hown hK hP hD hS 0 rfl rfl 0 (by decide) (hts _ mbM_look_1) (fun _ h9 => h9) rfl (by decide +kernel) rfl rfl (Nat.le_of_ble_eq_true rfl) dM_look_2 (fun H locs hP hD hS => ?_)
  have hP : va_P (dC, dI) vwCl [(k0, .inr (2, [.int 0, .ref yb, .ref zb, .int a1, .int a2, .int a3, .int a4, .int a5, .int a6, .int fo])), (yb, .inl (cI, 65536, .inl y)), (zb, .inl (cI, 33, .inl z))] H := hP
  have hD : va_D A [(k0, .inr (2, [.int 0, .ref yb, .ref zb, .int a1, .int a2, .int a3, .int a4, .int a5, .int a6, .int fo])), (yb, .inl (cI, 65536, .inl y)), (zb, .inl (cI, 33, .inl z))] := hD
  refine lv_iload_n hx hb dM_look_5 rfl (lv_at hl 1 rfl) ?_
  by_cases hs_1 : k = 0
  · refine lv_tableIn (tgt := 52) hx hb dM_look_6 (by rw [hs_1]; decide) (by rw [hs_1]; decide) (off := 46) (by rw [hs_1]; decide) (by decide) ?_
    refine lv_aload_n hx hb dM_look_52 rfl (lv_at hl 0 rfl) ?_
    refine va_get (D := (dC, dI)) (ci := 2) (v := .int a1) (C := RX2) (T := TX2) (N := 10) hx hb hts miM_look_X2 hown hK hP 0 rfl rfl 3 (by decide) (hts _ mbM_look_2) (fun _ h9 => h9) rfl dM_look_53 ?_
    exact W.iret (v := a1) hx hb hr (fun t ht hW => ⟨⟨a1, 0, rfl, by simp only [s_M_look, if_pos hs_1], by rw [ht]; exact hP, va_K.moved hW.alike hK, hD⟩, hS.F ht⟩) hS.2.2 dM_look_56
  · skip
    by_cases hs_2 : k = 1
    · refine lv_tableIn (tgt := 57) hx hb dM_look_6 (by rw [hs_2]; decide) (by rw [hs_2]; decide) (off := 51) (by rw [hs_2]; decide) (by decide) ?_
      refine lv_aload_n hx hb dM_look_57 rfl (lv_at hl 0 rfl) ?_
      refine va_get (D := (dC, dI)) (ci := 2) (v := .int a2) (C := RX2) (T := TX2) (N := 10) hx hb hts miM_look_X2 hown hK hP 0 rfl rfl 4 (by decide) (hts _ mbM_look_3) (fun _ h9 => h9) rfl dM_look_58 ?_
      exact W.iret (v := a2) hx hb hr (fun t ht hW => ⟨⟨a2, 0, rfl, by simp only [s_M_look, if_neg hs_1, if_pos hs_2], by rw [ht]; exact hP, va_K.moved hW.alike hK, hD⟩, hS.F ht⟩) hS.2.2 dM_look_61
    · skip
      by_cases hs_3 : k = 2
      · refine lv_tableIn (tgt := 62) hx hb dM_look_6 (by rw [hs_3]; decide) (by rw [hs_3]; decide) (off := 56) (by rw [hs_3]; decide) (by decide) ?_
        refine lv_aload_n hx hb dM_look_62 rfl (lv_at hl 0 rfl) ?_
        refine va_get (D := (dC, dI)) (ci := 2) (v := .int a3) (C := RX2) (T := TX2) (N := 10) hx hb hts miM_look_X2 hown hK hP 0 rfl rfl 5 (by decide) (hts _ mbM_look_4) (fun _ h9 => h9) rfl dM_look_63 ?_
        exact W.iret (v := a3) hx hb hr (fun t ht hW => ⟨⟨a3, 0, rfl, by simp only [s_M_look, if_neg hs_1, if_neg hs_2, if_pos hs_3], by rw [ht]; exact hP, va_K.moved hW.alike hK, hD⟩, hS.F ht⟩) hS.2.2 dM_look_66
      · skip
        by_cases hs_4 : k = 3
        · refine lv_tableIn (tgt := 67) hx hb dM_look_6 (by rw [hs_4]; decide) (by rw [hs_4]; decide) (off := 61) (by rw [hs_4]; decide) (by decide) ?_
          refine lv_aload_n hx hb dM_look_67 rfl (lv_at hl 0 rfl) ?_
          refine va_get (D := (dC, dI)) (ci := 2) (v := .int a4) (C := RX2) (T := TX2) (N := 10) hx hb hts miM_look_X2 hown hK hP 0 rfl rfl 6 (by decide) (hts _ mbM_look_5) (fun _ h9 => h9) rfl dM_look_68 ?_
          exact W.iret (v := a4) hx hb hr (fun t ht hW => ⟨⟨a4, 0, rfl, by simp only [s_M_look, if_neg hs_1, if_neg hs_2, if_neg hs_3, if_pos hs_4], by rw [ht]; exact hP, va_K.moved hW.alike hK, hD⟩, hS.F ht⟩) hS.2.2 dM_look_71
        · skip
          by_cases hs_5 : k = 4
          · refine lv_tableIn (tgt := 72) hx hb dM_look_6 (by rw [hs_5]; decide) (by rw [hs_5]; decide) (off := 66) (by rw [hs_5]; decide) (by decide) ?_
            refine lv_aload_n hx hb dM_look_72 rfl (lv_at hl 0 rfl) ?_
            refine va_get (D := (dC, dI)) (ci := 2) (v := .int a5) (C := RX2) (T := TX2) (N := 10) hx hb hts miM_look_X2 hown hK hP 0 rfl rfl 7 (by decide) (hts _ mbM_look_6) (fun _ h9 => h9) rfl dM_look_73 ?_
            exact W.iret (v := a5) hx hb hr (fun t ht hW => ⟨⟨a5, 0, rfl, by simp only [s_M_look, if_neg hs_1, if_neg hs_2, if_neg hs_3, if_neg hs_4, if_pos hs_5], by rw [ht]; exact hP, va_K.moved hW.alike hK, hD⟩, hS.F ht⟩) hS.2.2 dM_look_76
          · skip
            by_cases hs_6 : k = 5
            · refine lv_tableIn (tgt := 77) hx hb dM_look_6 (by rw [hs_6]; decide) (by rw [hs_6]; decide) (off := 71) (by rw [hs_6]; decide) (by decide) ?_
              refine lv_aload_n hx hb dM_look_77 rfl (lv_at hl 0 rfl) ?_
              refine va_get (D := (dC, dI)) (ci := 2) (v := .int a6) (C := RX2) (T := TX2) (N := 10) hx hb hts miM_look_X2 hown hK hP 0 rfl rfl 8 (by decide) (hts _ mbM_look_7) (fun _ h9 => h9) rfl dM_look_78 ?_
              exact W.iret (v := a6) hx hb hr (fun t ht hW => ⟨⟨a6, 0, rfl, by simp only [s_M_look, if_neg hs_1, if_neg hs_2, if_neg hs_3, if_neg hs_4, if_neg hs_5, if_pos hs_6], by rw [ht]; exact hP, va_K.moved hW.alike hK, hD⟩, hS.F ht⟩) hS.2.2 dM_look_81
            · skip
              by_cases hs_7 : k = 6
              · refine lv_tableIn (tgt := 82) hx hb dM_look_6 (by rw [hs_7]; decide) (by rw [hs_7]; decide) (off := 76) (by rw [hs_7]; decide) (by decide) ?_
                refine lv_aload_n hx hb dM_look_82 rfl (lv_at hl 0 rfl) ?_
                refine lv_iconst (v := 0) hx hb dM_look_83 (by decide) ?_
                have hPc := hP.sub (ws' := [(k0, .inr (2, [.int 0, .ref yb, .ref zb, .int a1, .int a2, .int a3, .int a4, .int a5, .int a6, .int fo])), (yb, .inl (cI, 65536, .inl y)), (zb, .inl (cI, 33, .inl z))]) [0, 1, 2] rfl
                have hKc := hK.sub (tys' := [(cI, .int)]) [0] rfl
                refine vp_callSi (va_Run.run (va_runV (As := [.int 0]) (rest := []) ⟨hx, hb, hml, hown, hts⟩ (c_M_matched l dC dI k0 yb zb cI y z 0 a1 a2 a3 a4 a5 a6 fo 0 (Or.inl rfl)) (cwV 1 hts gM_look_M_matched rfl rfl rfl (by decide +kernel) ⟨Nat.le_of_ble_eq_true rfl, Nat.le_of_ble_eq_true rfl⟩) ⟨fun a U g mk q => by obtain ⟨q0, qP, qK⟩ := q; exact ⟨q0, qP, va_K.moved (u := U) (U := U.calling g mk a) (Vm.Alike.refl U.vm) qK⟩, va_recv hKc hPc (ci := 2) (q0 := 0) rfl rfl, fun U hU hW => ⟨rfl, by rw [hU]; exact hPc, va_K.moved hW.alike hKc⟩⟩ rfl rfl hl.1 rfl (lv_room (Nat.le_of_ble_eq_true rfl)) dM_look_84 ⟨Nat.le_of_ble_eq_true rfl, Nat.le_of_ble_eq_true rfl⟩)) (fun r_8 hw_9 => ?_)
                subst hw_9
                exact W.iret (v := s_M_matched z 0) hx hb hr (fun t ht hW => ⟨⟨s_M_matched z 0, 0, rfl, by simp only [s_M_look, if_neg hs_1, if_neg hs_2, if_neg hs_3, if_neg hs_4, if_neg hs_5, if_neg hs_6, if_pos hs_7], by rw [ht]; exact hP, va_K.moved hW.alike hK, hD⟩, hS.F ht⟩) hS.2.2 dM_look_87
              · skip
                by_cases hs_10 : k = 7
                · refine lv_tableIn (tgt := 88) hx hb dM_look_6 (by rw [hs_10]; decide) (by rw [hs_10]; decide) (off := 82) (by rw [hs_10]; decide) (by decide) ?_
                  refine lv_aload_n hx hb dM_look_88 rfl (lv_at hl 0 rfl) ?_
                  refine lv_bipush (v := 16) hx hb dM_look_89 (by decide) ?_
                  have hPc := hP.sub (ws' := [(k0, .inr (2, [.int 0, .ref yb, .ref zb, .int a1, .int a2, .int a3, .int a4, .int a5, .int a6, .int fo])), (yb, .inl (cI, 65536, .inl y)), (zb, .inl (cI, 33, .inl z))]) [0, 1, 2] rfl
                  have hKc := hK.sub (tys' := [(cI, .int)]) [0] rfl
                  refine vp_callSi (va_Run.run (va_runV (As := [.int 16]) (rest := []) ⟨hx, hb, hml, hown, hts⟩ (c_M_matched l dC dI k0 yb zb cI y z 0 a1 a2 a3 a4 a5 a6 fo 16 (Or.inr rfl)) (cwV 1 hts gM_look_M_matched rfl rfl rfl (by decide +kernel) ⟨Nat.le_of_ble_eq_true rfl, Nat.le_of_ble_eq_true rfl⟩) ⟨fun a U g mk q => by obtain ⟨q0, qP, qK⟩ := q; exact ⟨q0, qP, va_K.moved (u := U) (U := U.calling g mk a) (Vm.Alike.refl U.vm) qK⟩, va_recv hKc hPc (ci := 2) (q0 := 0) rfl rfl, fun U hU hW => ⟨rfl, by rw [hU]; exact hPc, va_K.moved hW.alike hKc⟩⟩ rfl rfl hl.1 rfl (lv_room (Nat.le_of_ble_eq_true rfl)) dM_look_91 ⟨Nat.le_of_ble_eq_true rfl, Nat.le_of_ble_eq_true rfl⟩)) (fun r_11 hw_12 => ?_)
                  subst hw_12
                  exact W.iret (v := s_M_matched z 16) hx hb hr (fun t ht hW => ⟨⟨s_M_matched z 16, 0, rfl, by simp only [s_M_look, if_neg hs_1, if_neg hs_2, if_neg hs_3, if_neg hs_4, if_neg hs_5, if_neg hs_6, if_neg hs_7, if_pos hs_10], by rw [ht]; exact hP, va_K.moved hW.alike hK, hD⟩, hS.F ht⟩) hS.2.2 dM_look_94
                · skip
                  refine lv_tableOut (tgt := 95) hx hb dM_look_6 (by have := lv_neT hs_1 (a := 0) (by decide); have := lv_neT hs_2 (a := 1) (by decide); have := lv_neT hs_3 (a := 2) (by decide); have := lv_neT hs_4 (a := 3) (by decide); have := lv_neT hs_5 (a := 4) (by decide); have := lv_neT hs_6 (a := 5) (by decide); have := lv_neT hs_7 (a := 6) (by decide); have := lv_neT hs_10 (a := 7) (by decide); omega) (by decide) ?_
                  refine lv_iconst (v := (-1)) hx hb dM_look_95 (by decide) ?_
                  exact W.iret (v := (-1)) hx hb hr (fun t ht hW => ⟨⟨(-1), 0, rfl, by simp only [s_M_look, if_neg hs_1, if_neg hs_2, if_neg hs_3, if_neg hs_4, if_neg hs_5, if_neg hs_6, if_neg hs_7, if_neg hs_10], by rw [ht]; exact hP, va_K.moved hW.alike hK, hD⟩, hS.F ht⟩) hS.2.2 dM_look_96
end
section
set_option maxRecDepth 100000 in
theorem miM_mode_X2 : ∀ w ∈ u_ws RX2 TX2 10, w ∈ wsM_mode := by decide +kernel
set_option maxRecDepth 100000 in
theorem mbM_mode_1 : (.fieldLink RX2 14 "SoftMapsModel" "specials" "[I" : Cond) ∈ wsM_mode := by decide +kernel
def s_M_mode (z : Nat → Int32) (bit : Int32) : Int32 :=
  if ((z (32 : Int32).toNatClampNeg) / bit) - ((z (32 : Int32).toNatClampNeg) / bit) / 2 * 2 = 1 then
    1
  else
    0
set_option maxHeartbeats 4000000 in
set_option maxRecDepth 100000 in
theorem c_M_mode (l : Launch) (dC : Nat → ClassId) (dI : Nat → Nat → Nat) (k0 yb zb : Nat) (cI : ClassId) (y z : Nat → Int32) (th a1 a2 a3 a4 a5 a6 fo : Int32) (bit : Int32) (hb0 : ¬ bit = 0) : Met l yM_mode wsM_mode ({ frames := 0, cells := 0, slots := 0, locals := 0 }) (va_Pc [.ref k0, .int bit] (fun U => va_P (dC, dI) vwCl [(k0, .inr (2, [.int th, .ref yb, .ref zb, .int a1, .int a2, .int a3, .int a4, .int a5, .int a6, .int fo])), (yb, .inl (cI, 65536, .inl y)), (zb, .inl (cI, 33, .inl z))] U.heap ∧ va_K (dC, dI) vwCl [(cI, .int)] U)) (vp_Si (fun x_ => x_ = s_M_mode z bit)) 0 0 (fun _ => False) := by
  refine Met.ofW (cc := cM_mode) (maxL := 2) (ret := (some .boolean)) (by decide) rfl ?_
  intro p e s m args below meth c s₁ B hml hv
  obtain ⟨rfl, hP, hK⟩ := hv
  have hx := B.exec
  have hb := B.bytes
  have hr := B.returns
  have hts := atoms_spec (ws := wsM_mode) B.pre
  have hown : s.vm.findClass RX2 = some m.cls := findClass_of_methodNamed B.named
  have hlocks := B.notSynchronized
  have hl := lv_entry ([.ref k0, .int bit]) (n := 2) (Nat.le_of_ble_eq_true rfl)
  rw [lg_entry_eq]
  generalize (lg_sl ([.ref k0, .int bit]) ++ List.replicate (2 - (lg_sl ([.ref k0, .int bit])).length) Slot.unset).toArray = ls at hl ⊢
  have hl : lv_has ls 2 [(0, .ref k0), (1, .int bit)] := hl
  have hP : va_P (dC, dI) vwCl [(k0, .inr (2, [.int th, .ref yb, .ref zb, .int a1, .int a2, .int a3, .int a4, .int a5, .int a6, .int fo])), (yb, .inl (cI, 65536, .inl y)), (zb, .inl (cI, 33, .inl z))] s.heap := hP
  refine lv_aload_n hx hb dM_mode_0 rfl (lv_at hl 0 rfl) ?_
  refine va_get (D := (dC, dI)) (ci := 2) (v := .ref zb) (C := RX2) (T := TX2) (N := 10) hx hb hts miM_mode_X2 hown hK hP 0 rfl rfl 2 (by decide) (hts _ mbM_mode_1) (fun _ h9 => h9) rfl dM_mode_1 ?_
  refine lv_bipush (v := 32) hx hb dM_mode_4 (by decide) ?_
  refine va_iald hx hb hK hP 2 0 rfl rfl (pk_in 32 33 (by decide)) dM_mode_6 ?_
  refine lv_iload_n hx hb dM_mode_7 rfl (lv_at hl 1 rfl) ?_
  refine lv_idiv hx hb dM_mode_8 hb0 ?_
  refine lv_iconst (v := 2) hx hb dM_mode_9 (by decide) ?_
  refine lv_irem hx hb dM_mode_10 (by decide) ?_
  refine lv_iconst (v := 1) hx hb dM_mode_11 (by decide) ?_
  refine lv_icmp_ne (tgt := 19) hx hb dM_mode_12 (by decide) (fun c_1 => ?_) (fun c_1 => ?_)
  · skip
    refine lv_iconst (v := 0) hx hb dM_mode_19 (by decide) ?_
    exact W.zret (v := 0) hx hb hr rfl (fun t ht hW => ⟨0, rfl, by simp only [s_M_mode, if_neg c_1], ht⟩) (fun q h => by cases h) dM_mode_20
  · skip
    refine lv_iconst (v := 1) hx hb dM_mode_15 (by decide) ?_
    refine lv_goto (tgt := 20) hx hb dM_mode_16 (by decide) ?_
    exact W.zret (v := 1) hx hb hr rfl (fun t ht hW => ⟨1, rfl, by simp only [s_M_mode, if_pos c_1], ht⟩) (fun q h => by cases h) dM_mode_20
theorem z_M_mode (z : Nat → Int32) (bit : Int32) : s_M_mode z bit = 0 ∨ s_M_mode z bit = 1 := by
  unfold s_M_mode
  (repeat' split) <;> first | exact Or.inl rfl | exact Or.inr rfl | skip
set_option maxRecDepth 100000 in
theorem mbM_wrong_0 : (.constantLong RX2 44 (65536) : Cond) ∈ wsM_wrong := by decide +kernel
set_option maxRecDepth 100000 in
theorem miM_wrong_X2 : ∀ w ∈ u_ws RX2 TX2 10, w ∈ wsM_wrong := by decide +kernel
set_option maxRecDepth 100000 in
theorem mbM_wrong_2 : (.fieldLink RX2 46 "SoftMapsModel" "found" "I" : Cond) ∈ wsM_wrong := by decide +kernel
set_option maxRecDepth 100000 in
theorem mbM_wrong_3 : (.constantLong RX2 42 (32768) : Cond) ∈ wsM_wrong := by decide +kernel
def s_b232 (how : Int32) (at_ : Int64) : Int32 × Int32 :=
  if how = 0 then
    if lg_cmp at_ 32768 < 0 then
      (0, at_.toInt32)
    else
      (2, 0)
  else
    if 0 ≤ lg_cmp at_ 65536 then
      (2, 0)
    else
      if how = 2 then
        if 0 ≤ lg_cmp at_ 32768 then
          (0, at_.toInt32)
        else
          (2, 0)
      else
        (0, at_.toInt32)
set_option maxHeartbeats 4000000 in
set_option maxRecDepth 100000 in
theorem b_M_wrong {p : Program} {l : Launch} {e : Env} {R : Room} {s : State} {m : MethodId} {args : Array Value} {below : List Frame} {meth : Method} {c : Code} {Q : State → Prop} (hx : p.tables.exec = Jvm.exec) (hb : c.code = cM_wrong) (hown : s.vm.findClass RX2 = some m.cls) (hts : ∀ w ∈ wsM_wrong, w.before args s = true) (dC : Nat → ClassId) (dI : Nat → Nat → Nat) (k0 yb zb : Nat) (cI : ClassId) (y z : Nat → Int32) (th a1 a2 a3 a4 a5 a6 fo : Int32) (how : Int32) (at_ : Int64) {A : Nat → Prop} (hK : va_K (dC, dI) vwCl [(cI, .int)] s) : ∀ (H : Heap) (locs : List Loc) (ls : Array Slot), va_P (dC, dI) vwCl [(k0, .inr (2, [.int th, .ref yb, .ref zb, .int a1, .int a2, .int a3, .int a4, .int a5, .int a6, .int fo])), (yb, .inl (cI, 65536, .inl y)), (zb, .inl (cI, 33, .inl z))] H → va_D A [(k0, .inr (2, [.int th, .ref yb, .ref zb, .int a1, .int a2, .int a3, .int a4, .int a5, .int a6, .int fo])), (yb, .inl (cI, 65536, .inl y)), (zb, .inl (cI, 33, .inl z))] → va_S A s.heap H locs → lv_has ls 16 [(5, .long at_), (2, .int how), (0, .ref k0)] → (∀ (H : Heap) (locs : List Loc) (ls : Array Slot), ls.size = 16 → va_P (dC, dI) vwCl [(k0, .inr (2, [.int th, .ref yb, .ref zb, .int a1, .int a2, .int a3, .int a4, .int a5, .int a6, .int ((s_b232 how at_).2)])), (yb, .inl (cI, 65536, .inl y)), (zb, .inl (cI, 33, .inl z))] H → va_D A [(k0, .inr (2, [.int th, .ref yb, .ref zb, .int a1, .int a2, .int a3, .int a4, .int a5, .int a6, .int ((s_b232 how at_).2)])), (yb, .inl (cI, 65536, .inl y)), (zb, .inl (cI, 33, .inl z))] → va_S A s.heap H locs → W p l e R s m args below meth c H locs 0 0 Q (F0 m 309 ls [.int (s_b232 how at_).1])) → W p l e R s m args below meth c H locs 0 0 Q (F0 m 232 ls []) := by
  intro H locs ls hP hD hS hl kk
  refine lv_iload_n hx hb dM_wrong_232 rfl (lv_at hl 1 rfl) ?_
  refine lv_if_ne (tgt := 253) hx hb dM_wrong_233 (by decide) (fun c_1 => ?_) (fun c_1 => ?_)
  · skip
    refine lv_lload hx hb dM_wrong_253 (lv_at hl 0 rfl) ?_
    refine lv_ldc2 (v := 65536) hx hb hown (hts _ mbM_wrong_0) dM_wrong_255 ?_
    refine W.lcmp hx hb dM_wrong_258 ?_
    refine lv_if_ge (tgt := 276) hx hb dM_wrong_259 (by decide) (fun c_2 => ?_) (fun c_2 => ?_)
    · skip
      refine lv_iconst (v := 1) hx hb dM_wrong_276 (by decide) ?_
      refine lv_goto (tgt := 281) hx hb dM_wrong_277 (by decide) ?_
      refine lv_istore (lv' := [(7, .int 1), (5, .long at_), (2, .int how), (0, .ref k0)]) hx hb dM_wrong_281 hl (by decide) rfl (fun ls hl => ?_)
      refine lv_aload_n hx hb dM_wrong_283 rfl (lv_at hl 3 rfl) ?_
      refine lv_iload hx hb dM_wrong_284 (lv_at hl 0 rfl) ?_
      refine lv_if_eq (tgt := 293) hx hb dM_wrong_286 (by decide) (fun c_3 => ?_) (fun c_3 => ?_)
      · exact absurd c_3 (by decide)
      · skip
        refine lv_iconst (v := 0) hx hb dM_wrong_289 (by decide) ?_
        refine lv_goto (tgt := 296) hx hb dM_wrong_290 (by decide) ?_
        refine va_put (D := (dC, dI)) (ci := 2) (v := .int 0) (ty := tyX2 9) (C := RX2) (T := TX2) (N := 10) hx hb hts miM_wrong_X2 tyX2 tyX2_ok nmX2 hown hK hP hD hS 0 rfl rfl 9 (by decide) (hts _ mbM_wrong_2) (fun _ h9 => h9) rfl (by decide +kernel) rfl rfl (Nat.le_of_ble_eq_true rfl) dM_wrong_296 (fun H locs hP hD hS => ?_)
        have hP : va_P (dC, dI) vwCl [(k0, .inr (2, [.int th, .ref yb, .ref zb, .int a1, .int a2, .int a3, .int a4, .int a5, .int a6, .int 0])), (yb, .inl (cI, 65536, .inl y)), (zb, .inl (cI, 33, .inl z))] H := hP
        have hD : va_D A [(k0, .inr (2, [.int th, .ref yb, .ref zb, .int a1, .int a2, .int a3, .int a4, .int a5, .int a6, .int 0])), (yb, .inl (cI, 65536, .inl y)), (zb, .inl (cI, 33, .inl z))] := hD
        refine lv_iload hx hb dM_wrong_299 (lv_at hl 0 rfl) ?_
        refine lv_if_eq (tgt := 308) hx hb dM_wrong_301 (by decide) (fun c_4 => ?_) (fun c_4 => ?_)
        · exact absurd c_4 (by decide)
        · skip
          refine lv_iconst (v := 2) hx hb dM_wrong_304 (by decide) ?_
          refine lv_goto (tgt := 309) hx hb dM_wrong_305 (by decide) ?_
          have e9 : s_b232 how at_ = (2, 0) := by simp only [s_b232, if_neg c_1, if_pos c_2]
          have k9 := kk H locs ls hl.1
          rw [e9] at k9
          exact k9 hP hD hS
    · skip
      refine lv_iload_n hx hb dM_wrong_262 rfl (lv_at hl 1 rfl) ?_
      refine lv_iconst (v := 2) hx hb dM_wrong_263 (by decide) ?_
      refine lv_icmp_ne (tgt := 280) hx hb dM_wrong_264 (by decide) (fun c_5 => ?_) (fun c_5 => ?_)
      · skip
        refine lv_iconst (v := 0) hx hb dM_wrong_280 (by decide) ?_
        refine lv_istore (lv' := [(7, .int 0), (5, .long at_), (2, .int how), (0, .ref k0)]) hx hb dM_wrong_281 hl (by decide) rfl (fun ls hl => ?_)
        refine lv_aload_n hx hb dM_wrong_283 rfl (lv_at hl 3 rfl) ?_
        refine lv_iload hx hb dM_wrong_284 (lv_at hl 0 rfl) ?_
        refine lv_if_eq (tgt := 293) hx hb dM_wrong_286 (by decide) (fun c_6 => ?_) (fun c_6 => ?_)
        · skip
          refine lv_lload hx hb dM_wrong_293 (lv_at hl 1 rfl) ?_
          refine lv_l2i (v := at_.toInt32) hx hb dM_wrong_295 rfl ?_
          refine va_put (D := (dC, dI)) (ci := 2) (v := .int at_.toInt32) (ty := tyX2 9) (C := RX2) (T := TX2) (N := 10) hx hb hts miM_wrong_X2 tyX2 tyX2_ok nmX2 hown hK hP hD hS 0 rfl rfl 9 (by decide) (hts _ mbM_wrong_2) (fun _ h9 => h9) rfl (by decide +kernel) rfl rfl (Nat.le_of_ble_eq_true rfl) dM_wrong_296 (fun H locs hP hD hS => ?_)
          have hP : va_P (dC, dI) vwCl [(k0, .inr (2, [.int th, .ref yb, .ref zb, .int a1, .int a2, .int a3, .int a4, .int a5, .int a6, .int at_.toInt32])), (yb, .inl (cI, 65536, .inl y)), (zb, .inl (cI, 33, .inl z))] H := hP
          have hD : va_D A [(k0, .inr (2, [.int th, .ref yb, .ref zb, .int a1, .int a2, .int a3, .int a4, .int a5, .int a6, .int at_.toInt32])), (yb, .inl (cI, 65536, .inl y)), (zb, .inl (cI, 33, .inl z))] := hD
          refine lv_iload hx hb dM_wrong_299 (lv_at hl 0 rfl) ?_
          refine lv_if_eq (tgt := 308) hx hb dM_wrong_301 (by decide) (fun c_7 => ?_) (fun c_7 => ?_)
          · skip
            refine lv_iconst (v := 0) hx hb dM_wrong_308 (by decide) ?_
            have e9 : s_b232 how at_ = (0, at_.toInt32) := by simp only [s_b232, if_neg c_1, if_neg c_2, if_neg c_5]
            have k9 := kk H locs ls hl.1
            rw [e9] at k9
            exact k9 hP hD hS
          · exact absurd c_7 (by decide)
        · exact absurd c_6 (by decide)
      · skip
        refine lv_lload hx hb dM_wrong_267 (lv_at hl 0 rfl) ?_
        refine lv_ldc2 (v := 32768) hx hb hown (hts _ mbM_wrong_3) dM_wrong_269 ?_
        refine W.lcmp hx hb dM_wrong_272 ?_
        refine lv_if_ge (tgt := 280) hx hb dM_wrong_273 (by decide) (fun c_8 => ?_) (fun c_8 => ?_)
        · skip
          refine lv_iconst (v := 0) hx hb dM_wrong_280 (by decide) ?_
          refine lv_istore (lv' := [(7, .int 0), (5, .long at_), (2, .int how), (0, .ref k0)]) hx hb dM_wrong_281 hl (by decide) rfl (fun ls hl => ?_)
          refine lv_aload_n hx hb dM_wrong_283 rfl (lv_at hl 3 rfl) ?_
          refine lv_iload hx hb dM_wrong_284 (lv_at hl 0 rfl) ?_
          refine lv_if_eq (tgt := 293) hx hb dM_wrong_286 (by decide) (fun c_9 => ?_) (fun c_9 => ?_)
          · skip
            refine lv_lload hx hb dM_wrong_293 (lv_at hl 1 rfl) ?_
            refine lv_l2i (v := at_.toInt32) hx hb dM_wrong_295 rfl ?_
            refine va_put (D := (dC, dI)) (ci := 2) (v := .int at_.toInt32) (ty := tyX2 9) (C := RX2) (T := TX2) (N := 10) hx hb hts miM_wrong_X2 tyX2 tyX2_ok nmX2 hown hK hP hD hS 0 rfl rfl 9 (by decide) (hts _ mbM_wrong_2) (fun _ h9 => h9) rfl (by decide +kernel) rfl rfl (Nat.le_of_ble_eq_true rfl) dM_wrong_296 (fun H locs hP hD hS => ?_)
            have hP : va_P (dC, dI) vwCl [(k0, .inr (2, [.int th, .ref yb, .ref zb, .int a1, .int a2, .int a3, .int a4, .int a5, .int a6, .int at_.toInt32])), (yb, .inl (cI, 65536, .inl y)), (zb, .inl (cI, 33, .inl z))] H := hP
            have hD : va_D A [(k0, .inr (2, [.int th, .ref yb, .ref zb, .int a1, .int a2, .int a3, .int a4, .int a5, .int a6, .int at_.toInt32])), (yb, .inl (cI, 65536, .inl y)), (zb, .inl (cI, 33, .inl z))] := hD
            refine lv_iload hx hb dM_wrong_299 (lv_at hl 0 rfl) ?_
            refine lv_if_eq (tgt := 308) hx hb dM_wrong_301 (by decide) (fun c_10 => ?_) (fun c_10 => ?_)
            · skip
              refine lv_iconst (v := 0) hx hb dM_wrong_308 (by decide) ?_
              have e9 : s_b232 how at_ = (0, at_.toInt32) := by simp only [s_b232, if_neg c_1, if_neg c_2, if_pos c_5, if_pos c_8]
              have k9 := kk H locs ls hl.1
              rw [e9] at k9
              exact k9 hP hD hS
            · exact absurd c_10 (by decide)
          · exact absurd c_9 (by decide)
        · skip
          refine lv_iconst (v := 1) hx hb dM_wrong_276 (by decide) ?_
          refine lv_goto (tgt := 281) hx hb dM_wrong_277 (by decide) ?_
          refine lv_istore (lv' := [(7, .int 1), (5, .long at_), (2, .int how), (0, .ref k0)]) hx hb dM_wrong_281 hl (by decide) rfl (fun ls hl => ?_)
          refine lv_aload_n hx hb dM_wrong_283 rfl (lv_at hl 3 rfl) ?_
          refine lv_iload hx hb dM_wrong_284 (lv_at hl 0 rfl) ?_
          refine lv_if_eq (tgt := 293) hx hb dM_wrong_286 (by decide) (fun c_11 => ?_) (fun c_11 => ?_)
          · exact absurd c_11 (by decide)
          · skip
            refine lv_iconst (v := 0) hx hb dM_wrong_289 (by decide) ?_
            refine lv_goto (tgt := 296) hx hb dM_wrong_290 (by decide) ?_
            refine va_put (D := (dC, dI)) (ci := 2) (v := .int 0) (ty := tyX2 9) (C := RX2) (T := TX2) (N := 10) hx hb hts miM_wrong_X2 tyX2 tyX2_ok nmX2 hown hK hP hD hS 0 rfl rfl 9 (by decide) (hts _ mbM_wrong_2) (fun _ h9 => h9) rfl (by decide +kernel) rfl rfl (Nat.le_of_ble_eq_true rfl) dM_wrong_296 (fun H locs hP hD hS => ?_)
            have hP : va_P (dC, dI) vwCl [(k0, .inr (2, [.int th, .ref yb, .ref zb, .int a1, .int a2, .int a3, .int a4, .int a5, .int a6, .int 0])), (yb, .inl (cI, 65536, .inl y)), (zb, .inl (cI, 33, .inl z))] H := hP
            have hD : va_D A [(k0, .inr (2, [.int th, .ref yb, .ref zb, .int a1, .int a2, .int a3, .int a4, .int a5, .int a6, .int 0])), (yb, .inl (cI, 65536, .inl y)), (zb, .inl (cI, 33, .inl z))] := hD
            refine lv_iload hx hb dM_wrong_299 (lv_at hl 0 rfl) ?_
            refine lv_if_eq (tgt := 308) hx hb dM_wrong_301 (by decide) (fun c_12 => ?_) (fun c_12 => ?_)
            · exact absurd c_12 (by decide)
            · skip
              refine lv_iconst (v := 2) hx hb dM_wrong_304 (by decide) ?_
              refine lv_goto (tgt := 309) hx hb dM_wrong_305 (by decide) ?_
              have e9 : s_b232 how at_ = (2, 0) := by simp only [s_b232, if_neg c_1, if_neg c_2, if_pos c_5, if_neg c_8]
              have k9 := kk H locs ls hl.1
              rw [e9] at k9
              exact k9 hP hD hS
  · skip
    refine lv_lload hx hb dM_wrong_236 (lv_at hl 0 rfl) ?_
    refine lv_ldc2 (v := 32768) hx hb hown (hts _ mbM_wrong_3) dM_wrong_238 ?_
    refine W.lcmp hx hb dM_wrong_241 ?_
    refine lv_if_lt (tgt := 249) hx hb dM_wrong_242 (by decide) (fun c_13 => ?_) (fun c_13 => ?_)
    · skip
      refine lv_iconst (v := 0) hx hb dM_wrong_249 (by decide) ?_
      refine lv_goto (tgt := 281) hx hb dM_wrong_250 (by decide) ?_
      refine lv_istore (lv' := [(7, .int 0), (5, .long at_), (2, .int how), (0, .ref k0)]) hx hb dM_wrong_281 hl (by decide) rfl (fun ls hl => ?_)
      refine lv_aload_n hx hb dM_wrong_283 rfl (lv_at hl 3 rfl) ?_
      refine lv_iload hx hb dM_wrong_284 (lv_at hl 0 rfl) ?_
      refine lv_if_eq (tgt := 293) hx hb dM_wrong_286 (by decide) (fun c_14 => ?_) (fun c_14 => ?_)
      · skip
        refine lv_lload hx hb dM_wrong_293 (lv_at hl 1 rfl) ?_
        refine lv_l2i (v := at_.toInt32) hx hb dM_wrong_295 rfl ?_
        refine va_put (D := (dC, dI)) (ci := 2) (v := .int at_.toInt32) (ty := tyX2 9) (C := RX2) (T := TX2) (N := 10) hx hb hts miM_wrong_X2 tyX2 tyX2_ok nmX2 hown hK hP hD hS 0 rfl rfl 9 (by decide) (hts _ mbM_wrong_2) (fun _ h9 => h9) rfl (by decide +kernel) rfl rfl (Nat.le_of_ble_eq_true rfl) dM_wrong_296 (fun H locs hP hD hS => ?_)
        have hP : va_P (dC, dI) vwCl [(k0, .inr (2, [.int th, .ref yb, .ref zb, .int a1, .int a2, .int a3, .int a4, .int a5, .int a6, .int at_.toInt32])), (yb, .inl (cI, 65536, .inl y)), (zb, .inl (cI, 33, .inl z))] H := hP
        have hD : va_D A [(k0, .inr (2, [.int th, .ref yb, .ref zb, .int a1, .int a2, .int a3, .int a4, .int a5, .int a6, .int at_.toInt32])), (yb, .inl (cI, 65536, .inl y)), (zb, .inl (cI, 33, .inl z))] := hD
        refine lv_iload hx hb dM_wrong_299 (lv_at hl 0 rfl) ?_
        refine lv_if_eq (tgt := 308) hx hb dM_wrong_301 (by decide) (fun c_15 => ?_) (fun c_15 => ?_)
        · skip
          refine lv_iconst (v := 0) hx hb dM_wrong_308 (by decide) ?_
          have e9 : s_b232 how at_ = (0, at_.toInt32) := by simp only [s_b232, if_pos c_1, if_pos c_13]
          have k9 := kk H locs ls hl.1
          rw [e9] at k9
          exact k9 hP hD hS
        · exact absurd c_15 (by decide)
      · exact absurd c_14 (by decide)
    · skip
      refine lv_iconst (v := 1) hx hb dM_wrong_245 (by decide) ?_
      refine lv_goto (tgt := 281) hx hb dM_wrong_246 (by decide) ?_
      refine lv_istore (lv' := [(7, .int 1), (5, .long at_), (2, .int how), (0, .ref k0)]) hx hb dM_wrong_281 hl (by decide) rfl (fun ls hl => ?_)
      refine lv_aload_n hx hb dM_wrong_283 rfl (lv_at hl 3 rfl) ?_
      refine lv_iload hx hb dM_wrong_284 (lv_at hl 0 rfl) ?_
      refine lv_if_eq (tgt := 293) hx hb dM_wrong_286 (by decide) (fun c_16 => ?_) (fun c_16 => ?_)
      · exact absurd c_16 (by decide)
      · skip
        refine lv_iconst (v := 0) hx hb dM_wrong_289 (by decide) ?_
        refine lv_goto (tgt := 296) hx hb dM_wrong_290 (by decide) ?_
        refine va_put (D := (dC, dI)) (ci := 2) (v := .int 0) (ty := tyX2 9) (C := RX2) (T := TX2) (N := 10) hx hb hts miM_wrong_X2 tyX2 tyX2_ok nmX2 hown hK hP hD hS 0 rfl rfl 9 (by decide) (hts _ mbM_wrong_2) (fun _ h9 => h9) rfl (by decide +kernel) rfl rfl (Nat.le_of_ble_eq_true rfl) dM_wrong_296 (fun H locs hP hD hS => ?_)
        have hP : va_P (dC, dI) vwCl [(k0, .inr (2, [.int th, .ref yb, .ref zb, .int a1, .int a2, .int a3, .int a4, .int a5, .int a6, .int 0])), (yb, .inl (cI, 65536, .inl y)), (zb, .inl (cI, 33, .inl z))] H := hP
        have hD : va_D A [(k0, .inr (2, [.int th, .ref yb, .ref zb, .int a1, .int a2, .int a3, .int a4, .int a5, .int a6, .int 0])), (yb, .inl (cI, 65536, .inl y)), (zb, .inl (cI, 33, .inl z))] := hD
        refine lv_iload hx hb dM_wrong_299 (lv_at hl 0 rfl) ?_
        refine lv_if_eq (tgt := 308) hx hb dM_wrong_301 (by decide) (fun c_17 => ?_) (fun c_17 => ?_)
        · exact absurd c_17 (by decide)
        · skip
          refine lv_iconst (v := 2) hx hb dM_wrong_304 (by decide) ?_
          refine lv_goto (tgt := 309) hx hb dM_wrong_305 (by decide) ?_
          have e9 : s_b232 how at_ = (2, 0) := by simp only [s_b232, if_pos c_1, if_neg c_13]
          have k9 := kk H locs ls hl.1
          rw [e9] at k9
          exact k9 hP hD hS
theorem at_n (v : Int32) : ∃ n : Nat, n < 2 ^ 32 ∧ v = nI n ∧ v.toInt64 &&& 4294967295 = lN n := by
  refine ⟨v.toBitVec.toNat, v.toBitVec.isLt, ?_, ?_⟩
  · apply Int32.toBitVec_inj.mp
    apply BitVec.eq_of_toNat_eq
    rw [pk_tn v.toBitVec.isLt]
  · apply Int64.toBitVec_inj.mp
    apply BitVec.eq_of_toNat_eq
    have hv := v.toBitVec.isLt
    have e1 : (lN v.toBitVec.toNat).toBitVec.toNat = v.toBitVec.toNat := by
      show (BitVec.ofNat 64 v.toBitVec.toNat).toNat = _
      rw [BitVec.toNat_ofNat]
      omega
    rw [e1]
    show (v.toInt64.toBitVec &&& (4294967295 : Int64).toBitVec).toNat = _
    rw [BitVec.toNat_and]
    have e2 : (4294967295 : Int64).toBitVec.toNat = 2 ^ 32 - 1 := by decide
    rw [e2, Nat.and_two_pow_sub_one_eq_mod]
    have e3 : v.toInt64.toBitVec = v.toBitVec.signExtend 64 := rfl
    rw [e3, BitVec.toNat_signExtend]
    simp only [BitVec.toNat_setWidth]
    split <;> omega
theorem wset_n (v : Int32) : ∃ j : Nat, j < 8 ∧ ((v.toInt64 &&& 4294967295) / 1024 - (v.toInt64 &&& 4294967295) / 1024 / 8 * 8).toInt32 = nI j := by
  obtain ⟨n, hn, -, e⟩ := at_n v
  rw [e, show (1024 : Int64) = lN 1024 from rfl, show (8 : Int64) = lN 8 from rfl, pk_lDiv (by omega) (by omega) (by omega), pk_lRem (by omega) (by omega) (by omega), lN_i]
  exact ⟨_, Nat.mod_lt _ (by omega), rfl⟩
theorem in_w (v : Int32) (a : Nat) (ha : a ≤ 25) (A : Int32) (hA : A = nI a) : vp_in (((v.toInt64 &&& 4294967295) / 1024 - (v.toInt64 &&& 4294967295) / 1024 / 8 * 8).toInt32 + A) 33 := by
  obtain ⟨j, hj, e⟩ := wset_n v
  exact pk_in (j + a) 33 (by omega) (by rw [e, hA, nI_add])
theorem in_w8 (v : Int32) (a : Nat) (ha : a ≤ 17) (A : Int32) (hA : A = nI a) : vp_in (((v.toInt64 &&& 4294967295) / 1024 - (v.toInt64 &&& 4294967295) / 1024 / 8 * 8).toInt32 + A + 8) 33 := by
  obtain ⟨j, hj, e⟩ := wset_n v
  exact pk_in (j + a + 8) 33 (by omega) (by rw [e, hA, nI_add, show (8 : Int32) = nI 8 from rfl, nI_add])
set_option maxRecDepth 100000 in
theorem mbM_wrong_4 : (.constantLong RX2 29 (4294967295) : Cond) ∈ wsM_wrong := by decide +kernel
set_option maxRecDepth 100000 in
theorem mbM_wrong_5 : (.constantLong RX2 34 (1024) : Cond) ∈ wsM_wrong := by decide +kernel
set_option maxRecDepth 100000 in
theorem mbM_wrong_6 : (.constantLong RX2 36 (8) : Cond) ∈ wsM_wrong := by decide +kernel
set_option maxRecDepth 100000 in
theorem mbM_wrong_7 : (.fieldLink RX2 14 "SoftMapsModel" "specials" "[I" : Cond) ∈ wsM_wrong := by decide +kernel
set_option maxRecDepth 100000 in
theorem mbM_wrong_8 : (.constantLong RX2 38 (2) : Cond) ∈ wsM_wrong := by decide +kernel
set_option maxRecDepth 100000 in
theorem mbM_wrong_9 : (.constantLong RX2 40 (4) : Cond) ∈ wsM_wrong := by decide +kernel
def s_M_wrong (z : Nat → Int32) (fo : Int32) (v : Int32) (how : Int32) (wd : Int32) : Int32 × Int32 :=
  if wd = 0 then
    if how = 0 then
      if v &&& 3 = 0 then
        if s_M_mode z 2 = 0 then
          ((s_b232 how (v.toInt64 &&& 4294967295)).1, ((s_b232 how (v.toInt64 &&& 4294967295)).2))
        else
          if lg_cmp ((((z (((((v.toInt64 &&& 4294967295) / 1024) - ((v.toInt64 &&& 4294967295) / 1024) / 8 * 8).toInt32) + 0).toNatClampNeg).toInt64) &&& 4294967295) - (((z (((((v.toInt64 &&& 4294967295) / 1024) - ((v.toInt64 &&& 4294967295) / 1024) / 8 * 8).toInt32) + 0).toNatClampNeg).toInt64) &&& 4294967295) / 2 * 2) 0 = 0 then
            (10, fo)
          else
            if lg_cmp ((((z (((((v.toInt64 &&& 4294967295) / 1024) - ((v.toInt64 &&& 4294967295) / 1024) / 8 * 8).toInt32) + 0).toNatClampNeg).toInt64) &&& 4294967295) / 1024) ((v.toInt64 &&& 4294967295) / 1024) = 0 then
              if how = 2 then
                if s_M_mode z 1 = 0 then
                  if lg_cmp (((((z ((((((v.toInt64 &&& 4294967295) / 1024) - ((v.toInt64 &&& 4294967295) / 1024) / 8 * 8).toInt32) + 0) + 8).toNatClampNeg).toInt64) &&& 4294967295) / 2) - ((((z ((((((v.toInt64 &&& 4294967295) / 1024) - ((v.toInt64 &&& 4294967295) / 1024) / 8 * 8).toInt32) + 0) + 8).toNatClampNeg).toInt64) &&& 4294967295) / 2) / 2 * 2) 0 = 0 then
                    (4, fo)
                  else
                    ((s_b232 how ((((((z ((((((v.toInt64 &&& 4294967295) / 1024) - ((v.toInt64 &&& 4294967295) / 1024) / 8 * 8).toInt32) + 0) + 8).toNatClampNeg).toInt64) &&& 4294967295) / 1024) * 1024) + ((v.toInt64 &&& 4294967295) - (v.toInt64 &&& 4294967295) / 1024 * 1024))).1, ((s_b232 how ((((((z ((((((v.toInt64 &&& 4294967295) / 1024) - ((v.toInt64 &&& 4294967295) / 1024) / 8 * 8).toInt32) + 0) + 8).toNatClampNeg).toInt64) &&& 4294967295) / 1024) * 1024) + ((v.toInt64 &&& 4294967295) - (v.toInt64 &&& 4294967295) / 1024 * 1024))).2))
                else
                  if lg_cmp (((((z ((((((v.toInt64 &&& 4294967295) / 1024) - ((v.toInt64 &&& 4294967295) / 1024) / 8 * 8).toInt32) + 0) + 8).toNatClampNeg).toInt64) &&& 4294967295) / 8) - ((((z ((((((v.toInt64 &&& 4294967295) / 1024) - ((v.toInt64 &&& 4294967295) / 1024) / 8 * 8).toInt32) + 0) + 8).toNatClampNeg).toInt64) &&& 4294967295) / 8) / 2 * 2) 0 = 0 then
                    (4, fo)
                  else
                    ((s_b232 how ((((((z ((((((v.toInt64 &&& 4294967295) / 1024) - ((v.toInt64 &&& 4294967295) / 1024) / 8 * 8).toInt32) + 0) + 8).toNatClampNeg).toInt64) &&& 4294967295) / 1024) * 1024) + ((v.toInt64 &&& 4294967295) - (v.toInt64 &&& 4294967295) / 1024 * 1024))).1, ((s_b232 how ((((((z ((((((v.toInt64 &&& 4294967295) / 1024) - ((v.toInt64 &&& 4294967295) / 1024) / 8 * 8).toInt32) + 0) + 8).toNatClampNeg).toInt64) &&& 4294967295) / 1024) * 1024) + ((v.toInt64 &&& 4294967295) - (v.toInt64 &&& 4294967295) / 1024 * 1024))).2))
              else
                if s_M_mode z 1 = 0 then
                  if lg_cmp (((((z ((((((v.toInt64 &&& 4294967295) / 1024) - ((v.toInt64 &&& 4294967295) / 1024) / 8 * 8).toInt32) + 0) + 8).toNatClampNeg).toInt64) &&& 4294967295) / 1) - ((((z ((((((v.toInt64 &&& 4294967295) / 1024) - ((v.toInt64 &&& 4294967295) / 1024) / 8 * 8).toInt32) + 0) + 8).toNatClampNeg).toInt64) &&& 4294967295) / 1) / 2 * 2) 0 = 0 then
                    (4, fo)
                  else
                    ((s_b232 how ((((((z ((((((v.toInt64 &&& 4294967295) / 1024) - ((v.toInt64 &&& 4294967295) / 1024) / 8 * 8).toInt32) + 0) + 8).toNatClampNeg).toInt64) &&& 4294967295) / 1024) * 1024) + ((v.toInt64 &&& 4294967295) - (v.toInt64 &&& 4294967295) / 1024 * 1024))).1, ((s_b232 how ((((((z ((((((v.toInt64 &&& 4294967295) / 1024) - ((v.toInt64 &&& 4294967295) / 1024) / 8 * 8).toInt32) + 0) + 8).toNatClampNeg).toInt64) &&& 4294967295) / 1024) * 1024) + ((v.toInt64 &&& 4294967295) - (v.toInt64 &&& 4294967295) / 1024 * 1024))).2))
                else
                  if lg_cmp (((((z ((((((v.toInt64 &&& 4294967295) / 1024) - ((v.toInt64 &&& 4294967295) / 1024) / 8 * 8).toInt32) + 0) + 8).toNatClampNeg).toInt64) &&& 4294967295) / 4) - ((((z ((((((v.toInt64 &&& 4294967295) / 1024) - ((v.toInt64 &&& 4294967295) / 1024) / 8 * 8).toInt32) + 0) + 8).toNatClampNeg).toInt64) &&& 4294967295) / 4) / 2 * 2) 0 = 0 then
                    (4, fo)
                  else
                    ((s_b232 how ((((((z ((((((v.toInt64 &&& 4294967295) / 1024) - ((v.toInt64 &&& 4294967295) / 1024) / 8 * 8).toInt32) + 0) + 8).toNatClampNeg).toInt64) &&& 4294967295) / 1024) * 1024) + ((v.toInt64 &&& 4294967295) - (v.toInt64 &&& 4294967295) / 1024 * 1024))).1, ((s_b232 how ((((((z ((((((v.toInt64 &&& 4294967295) / 1024) - ((v.toInt64 &&& 4294967295) / 1024) / 8 * 8).toInt32) + 0) + 8).toNatClampNeg).toInt64) &&& 4294967295) / 1024) * 1024) + ((v.toInt64 &&& 4294967295) - (v.toInt64 &&& 4294967295) / 1024 * 1024))).2))
            else
              (10, fo)
      else
        (6, fo)
    else
      if s_M_mode z 4 = 0 then
        ((s_b232 how (v.toInt64 &&& 4294967295)).1, ((s_b232 how (v.toInt64 &&& 4294967295)).2))
      else
        if lg_cmp ((((z (((((v.toInt64 &&& 4294967295) / 1024) - ((v.toInt64 &&& 4294967295) / 1024) / 8 * 8).toInt32) + 16).toNatClampNeg).toInt64) &&& 4294967295) - (((z (((((v.toInt64 &&& 4294967295) / 1024) - ((v.toInt64 &&& 4294967295) / 1024) / 8 * 8).toInt32) + 16).toNatClampNeg).toInt64) &&& 4294967295) / 2 * 2) 0 = 0 then
          (9, fo)
        else
          if lg_cmp ((((z (((((v.toInt64 &&& 4294967295) / 1024) - ((v.toInt64 &&& 4294967295) / 1024) / 8 * 8).toInt32) + 16).toNatClampNeg).toInt64) &&& 4294967295) / 1024) ((v.toInt64 &&& 4294967295) / 1024) = 0 then
            if how = 2 then
              if s_M_mode z 1 = 0 then
                if lg_cmp (((((z ((((((v.toInt64 &&& 4294967295) / 1024) - ((v.toInt64 &&& 4294967295) / 1024) / 8 * 8).toInt32) + 16) + 8).toNatClampNeg).toInt64) &&& 4294967295) / 2) - ((((z ((((((v.toInt64 &&& 4294967295) / 1024) - ((v.toInt64 &&& 4294967295) / 1024) / 8 * 8).toInt32) + 16) + 8).toNatClampNeg).toInt64) &&& 4294967295) / 2) / 2 * 2) 0 = 0 then
                  (3, fo)
                else
                  ((s_b232 how ((((((z ((((((v.toInt64 &&& 4294967295) / 1024) - ((v.toInt64 &&& 4294967295) / 1024) / 8 * 8).toInt32) + 16) + 8).toNatClampNeg).toInt64) &&& 4294967295) / 1024) * 1024) + ((v.toInt64 &&& 4294967295) - (v.toInt64 &&& 4294967295) / 1024 * 1024))).1, ((s_b232 how ((((((z ((((((v.toInt64 &&& 4294967295) / 1024) - ((v.toInt64 &&& 4294967295) / 1024) / 8 * 8).toInt32) + 16) + 8).toNatClampNeg).toInt64) &&& 4294967295) / 1024) * 1024) + ((v.toInt64 &&& 4294967295) - (v.toInt64 &&& 4294967295) / 1024 * 1024))).2))
              else
                if lg_cmp (((((z ((((((v.toInt64 &&& 4294967295) / 1024) - ((v.toInt64 &&& 4294967295) / 1024) / 8 * 8).toInt32) + 16) + 8).toNatClampNeg).toInt64) &&& 4294967295) / 8) - ((((z ((((((v.toInt64 &&& 4294967295) / 1024) - ((v.toInt64 &&& 4294967295) / 1024) / 8 * 8).toInt32) + 16) + 8).toNatClampNeg).toInt64) &&& 4294967295) / 8) / 2 * 2) 0 = 0 then
                  (3, fo)
                else
                  ((s_b232 how ((((((z ((((((v.toInt64 &&& 4294967295) / 1024) - ((v.toInt64 &&& 4294967295) / 1024) / 8 * 8).toInt32) + 16) + 8).toNatClampNeg).toInt64) &&& 4294967295) / 1024) * 1024) + ((v.toInt64 &&& 4294967295) - (v.toInt64 &&& 4294967295) / 1024 * 1024))).1, ((s_b232 how ((((((z ((((((v.toInt64 &&& 4294967295) / 1024) - ((v.toInt64 &&& 4294967295) / 1024) / 8 * 8).toInt32) + 16) + 8).toNatClampNeg).toInt64) &&& 4294967295) / 1024) * 1024) + ((v.toInt64 &&& 4294967295) - (v.toInt64 &&& 4294967295) / 1024 * 1024))).2))
            else
              if s_M_mode z 1 = 0 then
                if lg_cmp (((((z ((((((v.toInt64 &&& 4294967295) / 1024) - ((v.toInt64 &&& 4294967295) / 1024) / 8 * 8).toInt32) + 16) + 8).toNatClampNeg).toInt64) &&& 4294967295) / 1) - ((((z ((((((v.toInt64 &&& 4294967295) / 1024) - ((v.toInt64 &&& 4294967295) / 1024) / 8 * 8).toInt32) + 16) + 8).toNatClampNeg).toInt64) &&& 4294967295) / 1) / 2 * 2) 0 = 0 then
                  (3, fo)
                else
                  ((s_b232 how ((((((z ((((((v.toInt64 &&& 4294967295) / 1024) - ((v.toInt64 &&& 4294967295) / 1024) / 8 * 8).toInt32) + 16) + 8).toNatClampNeg).toInt64) &&& 4294967295) / 1024) * 1024) + ((v.toInt64 &&& 4294967295) - (v.toInt64 &&& 4294967295) / 1024 * 1024))).1, ((s_b232 how ((((((z ((((((v.toInt64 &&& 4294967295) / 1024) - ((v.toInt64 &&& 4294967295) / 1024) / 8 * 8).toInt32) + 16) + 8).toNatClampNeg).toInt64) &&& 4294967295) / 1024) * 1024) + ((v.toInt64 &&& 4294967295) - (v.toInt64 &&& 4294967295) / 1024 * 1024))).2))
              else
                if lg_cmp (((((z ((((((v.toInt64 &&& 4294967295) / 1024) - ((v.toInt64 &&& 4294967295) / 1024) / 8 * 8).toInt32) + 16) + 8).toNatClampNeg).toInt64) &&& 4294967295) / 4) - ((((z ((((((v.toInt64 &&& 4294967295) / 1024) - ((v.toInt64 &&& 4294967295) / 1024) / 8 * 8).toInt32) + 16) + 8).toNatClampNeg).toInt64) &&& 4294967295) / 4) / 2 * 2) 0 = 0 then
                  (3, fo)
                else
                  ((s_b232 how ((((((z ((((((v.toInt64 &&& 4294967295) / 1024) - ((v.toInt64 &&& 4294967295) / 1024) / 8 * 8).toInt32) + 16) + 8).toNatClampNeg).toInt64) &&& 4294967295) / 1024) * 1024) + ((v.toInt64 &&& 4294967295) - (v.toInt64 &&& 4294967295) / 1024 * 1024))).1, ((s_b232 how ((((((z ((((((v.toInt64 &&& 4294967295) / 1024) - ((v.toInt64 &&& 4294967295) / 1024) / 8 * 8).toInt32) + 16) + 8).toNatClampNeg).toInt64) &&& 4294967295) / 1024) * 1024) + ((v.toInt64 &&& 4294967295) - (v.toInt64 &&& 4294967295) / 1024 * 1024))).2))
          else
            (9, fo)
  else
    if v &&& 3 = 0 then
      if how = 0 then
        if s_M_mode z 2 = 0 then
          ((s_b232 how (v.toInt64 &&& 4294967295)).1, ((s_b232 how (v.toInt64 &&& 4294967295)).2))
        else
          if lg_cmp ((((z (((((v.toInt64 &&& 4294967295) / 1024) - ((v.toInt64 &&& 4294967295) / 1024) / 8 * 8).toInt32) + 0).toNatClampNeg).toInt64) &&& 4294967295) - (((z (((((v.toInt64 &&& 4294967295) / 1024) - ((v.toInt64 &&& 4294967295) / 1024) / 8 * 8).toInt32) + 0).toNatClampNeg).toInt64) &&& 4294967295) / 2 * 2) 0 = 0 then
            (10, fo)
          else
            if lg_cmp ((((z (((((v.toInt64 &&& 4294967295) / 1024) - ((v.toInt64 &&& 4294967295) / 1024) / 8 * 8).toInt32) + 0).toNatClampNeg).toInt64) &&& 4294967295) / 1024) ((v.toInt64 &&& 4294967295) / 1024) = 0 then
              if how = 2 then
                if s_M_mode z 1 = 0 then
                  if lg_cmp (((((z ((((((v.toInt64 &&& 4294967295) / 1024) - ((v.toInt64 &&& 4294967295) / 1024) / 8 * 8).toInt32) + 0) + 8).toNatClampNeg).toInt64) &&& 4294967295) / 2) - ((((z ((((((v.toInt64 &&& 4294967295) / 1024) - ((v.toInt64 &&& 4294967295) / 1024) / 8 * 8).toInt32) + 0) + 8).toNatClampNeg).toInt64) &&& 4294967295) / 2) / 2 * 2) 0 = 0 then
                    (4, fo)
                  else
                    ((s_b232 how ((((((z ((((((v.toInt64 &&& 4294967295) / 1024) - ((v.toInt64 &&& 4294967295) / 1024) / 8 * 8).toInt32) + 0) + 8).toNatClampNeg).toInt64) &&& 4294967295) / 1024) * 1024) + ((v.toInt64 &&& 4294967295) - (v.toInt64 &&& 4294967295) / 1024 * 1024))).1, ((s_b232 how ((((((z ((((((v.toInt64 &&& 4294967295) / 1024) - ((v.toInt64 &&& 4294967295) / 1024) / 8 * 8).toInt32) + 0) + 8).toNatClampNeg).toInt64) &&& 4294967295) / 1024) * 1024) + ((v.toInt64 &&& 4294967295) - (v.toInt64 &&& 4294967295) / 1024 * 1024))).2))
                else
                  if lg_cmp (((((z ((((((v.toInt64 &&& 4294967295) / 1024) - ((v.toInt64 &&& 4294967295) / 1024) / 8 * 8).toInt32) + 0) + 8).toNatClampNeg).toInt64) &&& 4294967295) / 8) - ((((z ((((((v.toInt64 &&& 4294967295) / 1024) - ((v.toInt64 &&& 4294967295) / 1024) / 8 * 8).toInt32) + 0) + 8).toNatClampNeg).toInt64) &&& 4294967295) / 8) / 2 * 2) 0 = 0 then
                    (4, fo)
                  else
                    ((s_b232 how ((((((z ((((((v.toInt64 &&& 4294967295) / 1024) - ((v.toInt64 &&& 4294967295) / 1024) / 8 * 8).toInt32) + 0) + 8).toNatClampNeg).toInt64) &&& 4294967295) / 1024) * 1024) + ((v.toInt64 &&& 4294967295) - (v.toInt64 &&& 4294967295) / 1024 * 1024))).1, ((s_b232 how ((((((z ((((((v.toInt64 &&& 4294967295) / 1024) - ((v.toInt64 &&& 4294967295) / 1024) / 8 * 8).toInt32) + 0) + 8).toNatClampNeg).toInt64) &&& 4294967295) / 1024) * 1024) + ((v.toInt64 &&& 4294967295) - (v.toInt64 &&& 4294967295) / 1024 * 1024))).2))
              else
                if s_M_mode z 1 = 0 then
                  if lg_cmp (((((z ((((((v.toInt64 &&& 4294967295) / 1024) - ((v.toInt64 &&& 4294967295) / 1024) / 8 * 8).toInt32) + 0) + 8).toNatClampNeg).toInt64) &&& 4294967295) / 1) - ((((z ((((((v.toInt64 &&& 4294967295) / 1024) - ((v.toInt64 &&& 4294967295) / 1024) / 8 * 8).toInt32) + 0) + 8).toNatClampNeg).toInt64) &&& 4294967295) / 1) / 2 * 2) 0 = 0 then
                    (4, fo)
                  else
                    ((s_b232 how ((((((z ((((((v.toInt64 &&& 4294967295) / 1024) - ((v.toInt64 &&& 4294967295) / 1024) / 8 * 8).toInt32) + 0) + 8).toNatClampNeg).toInt64) &&& 4294967295) / 1024) * 1024) + ((v.toInt64 &&& 4294967295) - (v.toInt64 &&& 4294967295) / 1024 * 1024))).1, ((s_b232 how ((((((z ((((((v.toInt64 &&& 4294967295) / 1024) - ((v.toInt64 &&& 4294967295) / 1024) / 8 * 8).toInt32) + 0) + 8).toNatClampNeg).toInt64) &&& 4294967295) / 1024) * 1024) + ((v.toInt64 &&& 4294967295) - (v.toInt64 &&& 4294967295) / 1024 * 1024))).2))
                else
                  if lg_cmp (((((z ((((((v.toInt64 &&& 4294967295) / 1024) - ((v.toInt64 &&& 4294967295) / 1024) / 8 * 8).toInt32) + 0) + 8).toNatClampNeg).toInt64) &&& 4294967295) / 4) - ((((z ((((((v.toInt64 &&& 4294967295) / 1024) - ((v.toInt64 &&& 4294967295) / 1024) / 8 * 8).toInt32) + 0) + 8).toNatClampNeg).toInt64) &&& 4294967295) / 4) / 2 * 2) 0 = 0 then
                    (4, fo)
                  else
                    ((s_b232 how ((((((z ((((((v.toInt64 &&& 4294967295) / 1024) - ((v.toInt64 &&& 4294967295) / 1024) / 8 * 8).toInt32) + 0) + 8).toNatClampNeg).toInt64) &&& 4294967295) / 1024) * 1024) + ((v.toInt64 &&& 4294967295) - (v.toInt64 &&& 4294967295) / 1024 * 1024))).1, ((s_b232 how ((((((z ((((((v.toInt64 &&& 4294967295) / 1024) - ((v.toInt64 &&& 4294967295) / 1024) / 8 * 8).toInt32) + 0) + 8).toNatClampNeg).toInt64) &&& 4294967295) / 1024) * 1024) + ((v.toInt64 &&& 4294967295) - (v.toInt64 &&& 4294967295) / 1024 * 1024))).2))
            else
              (10, fo)
      else
        if s_M_mode z 4 = 0 then
          ((s_b232 how (v.toInt64 &&& 4294967295)).1, ((s_b232 how (v.toInt64 &&& 4294967295)).2))
        else
          if lg_cmp ((((z (((((v.toInt64 &&& 4294967295) / 1024) - ((v.toInt64 &&& 4294967295) / 1024) / 8 * 8).toInt32) + 16).toNatClampNeg).toInt64) &&& 4294967295) - (((z (((((v.toInt64 &&& 4294967295) / 1024) - ((v.toInt64 &&& 4294967295) / 1024) / 8 * 8).toInt32) + 16).toNatClampNeg).toInt64) &&& 4294967295) / 2 * 2) 0 = 0 then
            (9, fo)
          else
            if lg_cmp ((((z (((((v.toInt64 &&& 4294967295) / 1024) - ((v.toInt64 &&& 4294967295) / 1024) / 8 * 8).toInt32) + 16).toNatClampNeg).toInt64) &&& 4294967295) / 1024) ((v.toInt64 &&& 4294967295) / 1024) = 0 then
              if how = 2 then
                if s_M_mode z 1 = 0 then
                  if lg_cmp (((((z ((((((v.toInt64 &&& 4294967295) / 1024) - ((v.toInt64 &&& 4294967295) / 1024) / 8 * 8).toInt32) + 16) + 8).toNatClampNeg).toInt64) &&& 4294967295) / 2) - ((((z ((((((v.toInt64 &&& 4294967295) / 1024) - ((v.toInt64 &&& 4294967295) / 1024) / 8 * 8).toInt32) + 16) + 8).toNatClampNeg).toInt64) &&& 4294967295) / 2) / 2 * 2) 0 = 0 then
                    (3, fo)
                  else
                    ((s_b232 how ((((((z ((((((v.toInt64 &&& 4294967295) / 1024) - ((v.toInt64 &&& 4294967295) / 1024) / 8 * 8).toInt32) + 16) + 8).toNatClampNeg).toInt64) &&& 4294967295) / 1024) * 1024) + ((v.toInt64 &&& 4294967295) - (v.toInt64 &&& 4294967295) / 1024 * 1024))).1, ((s_b232 how ((((((z ((((((v.toInt64 &&& 4294967295) / 1024) - ((v.toInt64 &&& 4294967295) / 1024) / 8 * 8).toInt32) + 16) + 8).toNatClampNeg).toInt64) &&& 4294967295) / 1024) * 1024) + ((v.toInt64 &&& 4294967295) - (v.toInt64 &&& 4294967295) / 1024 * 1024))).2))
                else
                  if lg_cmp (((((z ((((((v.toInt64 &&& 4294967295) / 1024) - ((v.toInt64 &&& 4294967295) / 1024) / 8 * 8).toInt32) + 16) + 8).toNatClampNeg).toInt64) &&& 4294967295) / 8) - ((((z ((((((v.toInt64 &&& 4294967295) / 1024) - ((v.toInt64 &&& 4294967295) / 1024) / 8 * 8).toInt32) + 16) + 8).toNatClampNeg).toInt64) &&& 4294967295) / 8) / 2 * 2) 0 = 0 then
                    (3, fo)
                  else
                    ((s_b232 how ((((((z ((((((v.toInt64 &&& 4294967295) / 1024) - ((v.toInt64 &&& 4294967295) / 1024) / 8 * 8).toInt32) + 16) + 8).toNatClampNeg).toInt64) &&& 4294967295) / 1024) * 1024) + ((v.toInt64 &&& 4294967295) - (v.toInt64 &&& 4294967295) / 1024 * 1024))).1, ((s_b232 how ((((((z ((((((v.toInt64 &&& 4294967295) / 1024) - ((v.toInt64 &&& 4294967295) / 1024) / 8 * 8).toInt32) + 16) + 8).toNatClampNeg).toInt64) &&& 4294967295) / 1024) * 1024) + ((v.toInt64 &&& 4294967295) - (v.toInt64 &&& 4294967295) / 1024 * 1024))).2))
              else
                if s_M_mode z 1 = 0 then
                  if lg_cmp (((((z ((((((v.toInt64 &&& 4294967295) / 1024) - ((v.toInt64 &&& 4294967295) / 1024) / 8 * 8).toInt32) + 16) + 8).toNatClampNeg).toInt64) &&& 4294967295) / 1) - ((((z ((((((v.toInt64 &&& 4294967295) / 1024) - ((v.toInt64 &&& 4294967295) / 1024) / 8 * 8).toInt32) + 16) + 8).toNatClampNeg).toInt64) &&& 4294967295) / 1) / 2 * 2) 0 = 0 then
                    (3, fo)
                  else
                    ((s_b232 how ((((((z ((((((v.toInt64 &&& 4294967295) / 1024) - ((v.toInt64 &&& 4294967295) / 1024) / 8 * 8).toInt32) + 16) + 8).toNatClampNeg).toInt64) &&& 4294967295) / 1024) * 1024) + ((v.toInt64 &&& 4294967295) - (v.toInt64 &&& 4294967295) / 1024 * 1024))).1, ((s_b232 how ((((((z ((((((v.toInt64 &&& 4294967295) / 1024) - ((v.toInt64 &&& 4294967295) / 1024) / 8 * 8).toInt32) + 16) + 8).toNatClampNeg).toInt64) &&& 4294967295) / 1024) * 1024) + ((v.toInt64 &&& 4294967295) - (v.toInt64 &&& 4294967295) / 1024 * 1024))).2))
                else
                  if lg_cmp (((((z ((((((v.toInt64 &&& 4294967295) / 1024) - ((v.toInt64 &&& 4294967295) / 1024) / 8 * 8).toInt32) + 16) + 8).toNatClampNeg).toInt64) &&& 4294967295) / 4) - ((((z ((((((v.toInt64 &&& 4294967295) / 1024) - ((v.toInt64 &&& 4294967295) / 1024) / 8 * 8).toInt32) + 16) + 8).toNatClampNeg).toInt64) &&& 4294967295) / 4) / 2 * 2) 0 = 0 then
                    (3, fo)
                  else
                    ((s_b232 how ((((((z ((((((v.toInt64 &&& 4294967295) / 1024) - ((v.toInt64 &&& 4294967295) / 1024) / 8 * 8).toInt32) + 16) + 8).toNatClampNeg).toInt64) &&& 4294967295) / 1024) * 1024) + ((v.toInt64 &&& 4294967295) - (v.toInt64 &&& 4294967295) / 1024 * 1024))).1, ((s_b232 how ((((((z ((((((v.toInt64 &&& 4294967295) / 1024) - ((v.toInt64 &&& 4294967295) / 1024) / 8 * 8).toInt32) + 16) + 8).toNatClampNeg).toInt64) &&& 4294967295) / 1024) * 1024) + ((v.toInt64 &&& 4294967295) - (v.toInt64 &&& 4294967295) / 1024 * 1024))).2))
            else
              (9, fo)
    else
      (6, fo)
set_option maxHeartbeats 4000000 in
set_option maxRecDepth 100000 in
theorem c_M_wrong (l : Launch) (dC : Nat → ClassId) (dI : Nat → Nat → Nat) (sz : Nat) (k0 yb zb : Nat) (cI : ClassId) (y z : Nat → Int32) (th a1 a2 a3 a4 a5 a6 fo : Int32) (v : Int32) (how : Int32) (wd : Int32)  : Met l yM_wrong wsM_wrong ({ frames := 1, cells := 0, slots := 0, locals := 21 }) (va_Pc [.ref k0, .int v, .int how, .int wd] (fun U => U.heap.size = sz ∧ va_P (dC, dI) vwCl [(k0, .inr (2, [.int th, .ref yb, .ref zb, .int a1, .int a2, .int a3, .int a4, .int a5, .int a6, .int fo])), (yb, .inl (cI, 65536, .inl y)), (zb, .inl (cI, 33, .inl z))] U.heap ∧ va_K (dC, dI) vwCl [(cI, .int)] U ∧ va_D (fun _ => True) [(k0, .inr (2, [.int th, .ref yb, .ref zb, .int a1, .int a2, .int a3, .int a4, .int a5, .int a6, .int fo])), (yb, .inl (cI, 65536, .inl y)), (zb, .inl (cI, 33, .inl z))])) (va_Qi (fun (a_ : Int32) (u : Int32) => (a_, u) = s_M_wrong z fo v how wd) (fun (u : Int32) (t : State) => va_P (dC, dI) vwCl [(k0, .inr (2, [.int th, .ref yb, .ref zb, .int a1, .int a2, .int a3, .int a4, .int a5, .int a6, .int u])), (yb, .inl (cI, 65536, .inl y)), (zb, .inl (cI, 33, .inl z))] t.heap ∧ va_K (dC, dI) vwCl [(cI, .int)] t ∧ va_D (va_A [(k0, .inr (2, [.int th, .ref yb, .ref zb, .int a1, .int a2, .int a3, .int a4, .int a5, .int a6, .int fo])), (yb, .inl (cI, 65536, .inl y)), (zb, .inl (cI, 33, .inl z))] sz) [(k0, .inr (2, [.int th, .ref yb, .ref zb, .int a1, .int a2, .int a3, .int a4, .int a5, .int a6, .int u])), (yb, .inl (cI, 65536, .inl y)), (zb, .inl (cI, 33, .inl z))]) (va_A [(k0, .inr (2, [.int th, .ref yb, .ref zb, .int a1, .int a2, .int a3, .int a4, .int a5, .int a6, .int fo])), (yb, .inl (cI, 65536, .inl y)), (zb, .inl (cI, 33, .inl z))] sz)) 0 0 (va_A [(k0, .inr (2, [.int th, .ref yb, .ref zb, .int a1, .int a2, .int a3, .int a4, .int a5, .int a6, .int fo])), (yb, .inl (cI, 65536, .inl y)), (zb, .inl (cI, 33, .inl z))] sz) := by
  refine Met.ofW (cc := cM_wrong) (maxL := 16) (ret := (some .int)) (by decide) rfl ?_
  intro p e s m args below meth c s₁ B hml hv
  obtain ⟨rfl, hsz, hP, hK, hD0⟩ := hv
  have hx := B.exec
  have hb := B.bytes
  have hr := B.returns
  have hts := atoms_spec (ws := wsM_wrong) B.pre
  have hown : s.vm.findClass RX2 = some m.cls := findClass_of_methodNamed B.named
  have hlocks := B.notSynchronized
  subst hsz
  have hD := hD0.self (sz := s.heap.size)
  generalize hAe : va_A [(k0, .inr (2, [.int th, .ref yb, .ref zb, .int a1, .int a2, .int a3, .int a4, .int a5, .int a6, .int fo])), (yb, .inl (cI, 65536, .inl y)), (zb, .inl (cI, 33, .inl z))] s.heap.size = A at hD ⊢
  have hA : ∀ q : Nat, s.heap.size ≤ q → A q := fun q h => by rw [← hAe]; exact Or.inr h
  have hS : va_S A s.heap s.heap [] := va_S.rf
  have hP : va_P (dC, dI) vwCl [(k0, .inr (2, [.int th, .ref yb, .ref zb, .int a1, .int a2, .int a3, .int a4, .int a5, .int a6, .int fo])), (yb, .inl (cI, 65536, .inl y)), (zb, .inl (cI, 33, .inl z))] s.heap := hP
  have hl := lv_entry ([.ref k0, .int v, .int how, .int wd]) (n := 16) (Nat.le_of_ble_eq_true rfl)
  rw [lg_entry_eq]
  generalize (lg_sl ([.ref k0, .int v, .int how, .int wd]) ++ List.replicate (16 - (lg_sl ([.ref k0, .int v, .int how, .int wd])).length) Slot.unset).toArray = ls at hl ⊢
  have hl : lv_has ls 16 [(0, .ref k0), (1, .int v), (2, .int how), (3, .int wd)] := hl
  refine lv_iload_n hx hb dM_wrong_0 rfl (lv_at hl 3 rfl) ?_
  refine lv_if_ne (tgt := 8) hx hb dM_wrong_1 (by decide) (fun c_1 => ?_) (fun c_1 => ?_)
  · skip
    refine lv_iconst (v := 1) hx hb dM_wrong_8 (by decide) ?_
    refine lv_goto (tgt := 13) hx hb dM_wrong_9 (by decide) ?_
    refine lv_istore (lv' := [(4, .int 1), (0, .ref k0), (1, .int v), (2, .int how), (3, .int wd)]) hx hb dM_wrong_13 hl (by decide) rfl (fun ls hl => ?_)
    refine lv_iload hx hb dM_wrong_15 (lv_at hl 0 rfl) ?_
    refine lv_if_eq (tgt := 29) hx hb dM_wrong_17 (by decide) (fun c_2 => ?_) (fun c_2 => ?_)
    · exact absurd c_2 (by decide)
    · skip
      refine lv_iload_n hx hb dM_wrong_20 rfl (lv_at hl 2 rfl) ?_
      refine lv_iconst (v := 3) hx hb dM_wrong_21 (by decide) ?_
      refine lv_iand hx hb dM_wrong_22 ?_
      refine lv_if_eq (tgt := 29) hx hb dM_wrong_23 (by decide) (fun c_3 => ?_) (fun c_3 => ?_)
      · skip
        refine lv_iload_n hx hb dM_wrong_29 rfl (lv_at hl 2 rfl) ?_
        refine lv_i2l (v := v.toInt64) hx hb dM_wrong_30 rfl ?_
        refine lv_ldc2 (v := 4294967295) hx hb hown (hts _ mbM_wrong_4) dM_wrong_31 ?_
        refine lv_land hx hb dM_wrong_34 ?_
        refine lv_lstore (lv' := [(5, .long (v.toInt64 &&& 4294967295)), (4, .int 1), (0, .ref k0), (1, .int v), (2, .int how), (3, .int wd)]) hx hb dM_wrong_35 hl (by decide) rfl (fun ls hl => ?_)
        refine lv_aload_n hx hb dM_wrong_37 rfl (lv_at hl 2 rfl) ?_
        refine lv_iload_n hx hb dM_wrong_38 rfl (lv_at hl 4 rfl) ?_
        refine lv_if_ne (tgt := 46) hx hb dM_wrong_39 (by decide) (fun c_4 => ?_) (fun c_4 => ?_)
        · skip
          refine lv_iconst (v := 4) hx hb dM_wrong_46 (by decide) ?_
          have hPc := hP.sub (ws' := [(k0, .inr (2, [.int th, .ref yb, .ref zb, .int a1, .int a2, .int a3, .int a4, .int a5, .int a6, .int fo])), (yb, .inl (cI, 65536, .inl y)), (zb, .inl (cI, 33, .inl z))]) [0, 1, 2] rfl
          have hKc := hK.sub (tys' := [(cI, .int)]) [0] rfl
          refine vp_callSi (va_Run.run (va_runV (As := [.int 4]) (rest := []) ⟨hx, hb, hml, hown, hts⟩ (c_M_mode l dC dI k0 yb zb cI y z th a1 a2 a3 a4 a5 a6 fo 4 (by decide)) (cwV 1 hts gM_wrong_M_mode rfl rfl rfl (by decide +kernel) ⟨Nat.le_of_ble_eq_true rfl, Nat.le_of_ble_eq_true rfl⟩) ⟨fun a U g mk q => by obtain ⟨q0, qP, qK⟩ := q; exact ⟨q0, qP, va_K.moved (u := U) (U := U.calling g mk a) (Vm.Alike.refl U.vm) qK⟩, va_recv hKc hPc (ci := 2) (q0 := 0) rfl rfl, fun U hU hW => ⟨rfl, by rw [hU]; exact hPc, va_K.moved hW.alike hKc⟩⟩ rfl rfl hl.1 rfl (lv_room (Nat.le_of_ble_eq_true rfl)) dM_wrong_47 ⟨Nat.le_of_ble_eq_true rfl, Nat.le_of_ble_eq_true rfl⟩)) (fun r_5 hw_6 => ?_)
          subst hw_6
          refine lv_if_eq (tgt := 232) hx hb dM_wrong_50 (by decide) (fun c_7 => ?_) (fun c_7 => ?_)
          · skip
            refine b_M_wrong hx hb hown hts dC dI k0 yb zb cI y z th a1 a2 a3 a4 a5 a6 fo how (v.toInt64 &&& 4294967295) hK _ _ ls hP hD hS (lv_sub hl [0, 4, 2] rfl) (fun H locs ls hls hP hD hS => ?_)
            exact W.iret (v := (s_b232 how (v.toInt64 &&& 4294967295)).1) hx hb hr (fun t ht hW => ⟨⟨(s_b232 how (v.toInt64 &&& 4294967295)).1, ((s_b232 how (v.toInt64 &&& 4294967295)).2), rfl, by simp only [s_M_wrong, if_neg c_1, if_pos c_3, if_neg c_4, if_pos c_7], by rw [ht]; exact hP, va_K.moved hW.alike hK, hD⟩, hS.F ht⟩) hS.2.2 dM_wrong_309
          · skip
            refine lv_lload hx hb dM_wrong_53 (lv_at hl 0 rfl) ?_
            refine lv_ldc2 (v := 1024) hx hb hown (hts _ mbM_wrong_5) dM_wrong_55 ?_
            refine lv_ldiv hx hb dM_wrong_58 (by decide) ?_
            refine lv_lstore (lv' := [(7, .long ((v.toInt64 &&& 4294967295) / 1024)), (5, .long (v.toInt64 &&& 4294967295)), (4, .int 1), (0, .ref k0), (1, .int v), (2, .int how), (3, .int wd)]) hx hb dM_wrong_59 hl (by decide) rfl (fun ls hl => ?_)
            refine lv_lload hx hb dM_wrong_61 (lv_at hl 0 rfl) ?_
            refine lv_ldc2 (v := 8) hx hb hown (hts _ mbM_wrong_6) dM_wrong_63 ?_
            refine lv_lrem hx hb dM_wrong_66 (by decide) ?_
            refine lv_l2i (v := (((v.toInt64 &&& 4294967295) / 1024) - ((v.toInt64 &&& 4294967295) / 1024) / 8 * 8).toInt32) hx hb dM_wrong_67 rfl ?_
            refine lv_iload_n hx hb dM_wrong_68 rfl (lv_at hl 5 rfl) ?_
            refine lv_if_ne (tgt := 76) hx hb dM_wrong_69 (by decide) (fun c_8 => ?_) (fun c_8 => ?_)
            · skip
              refine lv_bipush (v := 16) hx hb dM_wrong_76 (by decide) ?_
              refine lv_iadd hx hb dM_wrong_78 ?_
              refine lv_istore (lv' := [(9, .int (((((v.toInt64 &&& 4294967295) / 1024) - ((v.toInt64 &&& 4294967295) / 1024) / 8 * 8).toInt32) + 16)), (7, .long ((v.toInt64 &&& 4294967295) / 1024)), (5, .long (v.toInt64 &&& 4294967295)), (4, .int 1), (0, .ref k0), (1, .int v), (2, .int how), (3, .int wd)]) hx hb dM_wrong_79 hl (by decide) rfl (fun ls hl => ?_)
              refine lv_aload_n hx hb dM_wrong_81 rfl (lv_at hl 4 rfl) ?_
              refine va_get (D := (dC, dI)) (ci := 2) (v := .ref zb) (C := RX2) (T := TX2) (N := 10) hx hb hts miM_wrong_X2 hown hK hP 0 rfl rfl 2 (by decide) (hts _ mbM_wrong_7) (fun _ h9 => h9) rfl dM_wrong_82 ?_
              refine lv_iload hx hb dM_wrong_85 (lv_at hl 0 rfl) ?_
              refine va_iald hx hb hK hP 2 0 rfl rfl (in_w v 16 (by decide) _ rfl) dM_wrong_87 ?_
              refine lv_i2l (v := (z (((((v.toInt64 &&& 4294967295) / 1024) - ((v.toInt64 &&& 4294967295) / 1024) / 8 * 8).toInt32) + 16).toNatClampNeg).toInt64) hx hb dM_wrong_88 rfl ?_
              refine lv_ldc2 (v := 4294967295) hx hb hown (hts _ mbM_wrong_4) dM_wrong_89 ?_
              refine lv_land hx hb dM_wrong_92 ?_
              refine lv_lstore (lv' := [(10, .long (((z (((((v.toInt64 &&& 4294967295) / 1024) - ((v.toInt64 &&& 4294967295) / 1024) / 8 * 8).toInt32) + 16).toNatClampNeg).toInt64) &&& 4294967295)), (9, .int (((((v.toInt64 &&& 4294967295) / 1024) - ((v.toInt64 &&& 4294967295) / 1024) / 8 * 8).toInt32) + 16)), (7, .long ((v.toInt64 &&& 4294967295) / 1024)), (5, .long (v.toInt64 &&& 4294967295)), (4, .int 1), (0, .ref k0), (1, .int v), (2, .int how), (3, .int wd)]) hx hb dM_wrong_93 hl (by decide) rfl (fun ls hl => ?_)
              refine lv_aload_n hx hb dM_wrong_95 rfl (lv_at hl 5 rfl) ?_
              refine va_get (D := (dC, dI)) (ci := 2) (v := .ref zb) (C := RX2) (T := TX2) (N := 10) hx hb hts miM_wrong_X2 hown hK hP 0 rfl rfl 2 (by decide) (hts _ mbM_wrong_7) (fun _ h9 => h9) rfl dM_wrong_96 ?_
              refine lv_iload hx hb dM_wrong_99 (lv_at hl 1 rfl) ?_
              refine lv_bipush (v := 8) hx hb dM_wrong_101 (by decide) ?_
              refine lv_iadd hx hb dM_wrong_103 ?_
              refine va_iald hx hb hK hP 2 0 rfl rfl (in_w8 v 16 (by decide) _ rfl) dM_wrong_104 ?_
              refine lv_i2l (v := (z ((((((v.toInt64 &&& 4294967295) / 1024) - ((v.toInt64 &&& 4294967295) / 1024) / 8 * 8).toInt32) + 16) + 8).toNatClampNeg).toInt64) hx hb dM_wrong_105 rfl ?_
              refine lv_ldc2 (v := 4294967295) hx hb hown (hts _ mbM_wrong_4) dM_wrong_106 ?_
              refine lv_land hx hb dM_wrong_109 ?_
              refine lv_lstore (lv' := [(12, .long (((z ((((((v.toInt64 &&& 4294967295) / 1024) - ((v.toInt64 &&& 4294967295) / 1024) / 8 * 8).toInt32) + 16) + 8).toNatClampNeg).toInt64) &&& 4294967295)), (10, .long (((z (((((v.toInt64 &&& 4294967295) / 1024) - ((v.toInt64 &&& 4294967295) / 1024) / 8 * 8).toInt32) + 16).toNatClampNeg).toInt64) &&& 4294967295)), (9, .int (((((v.toInt64 &&& 4294967295) / 1024) - ((v.toInt64 &&& 4294967295) / 1024) / 8 * 8).toInt32) + 16)), (7, .long ((v.toInt64 &&& 4294967295) / 1024)), (5, .long (v.toInt64 &&& 4294967295)), (4, .int 1), (0, .ref k0), (1, .int v), (2, .int how), (3, .int wd)]) hx hb dM_wrong_110 hl (by decide) rfl (fun ls hl => ?_)
              refine lv_lload hx hb dM_wrong_112 (lv_at hl 1 rfl) ?_
              refine lv_ldc2 (v := 2) hx hb hown (hts _ mbM_wrong_8) dM_wrong_114 ?_
              refine lv_lrem hx hb dM_wrong_117 (by decide) ?_
              refine lv_lconst (v := 0) hx hb dM_wrong_118 (by decide) ?_
              refine W.lcmp hx hb dM_wrong_119 ?_
              refine lv_if_eq (tgt := 135) hx hb dM_wrong_120 (by decide) (fun c_9 => ?_) (fun c_9 => ?_)
              · skip
                refine lv_iload_n hx hb dM_wrong_135 rfl (lv_at hl 8 rfl) ?_
                refine lv_if_ne (tgt := 144) hx hb dM_wrong_136 (by decide) (fun c_10 => ?_) (fun c_10 => ?_)
                · skip
                  refine lv_bipush (v := 9) hx hb dM_wrong_144 (by decide) ?_
                  exact W.iret (v := 9) hx hb hr (fun t ht hW => ⟨⟨9, fo, rfl, by simp only [s_M_wrong, if_neg c_1, if_pos c_3, if_neg c_4, if_neg c_7, if_pos c_9], by rw [ht]; exact hP, va_K.moved hW.alike hK, hD⟩, hS.F ht⟩) hS.2.2 dM_wrong_146
                · exact absurd c_10 c_4
              · skip
                refine lv_lload hx hb dM_wrong_123 (lv_at hl 1 rfl) ?_
                refine lv_ldc2 (v := 1024) hx hb hown (hts _ mbM_wrong_5) dM_wrong_125 ?_
                refine lv_ldiv hx hb dM_wrong_128 (by decide) ?_
                refine lv_lload hx hb dM_wrong_129 (lv_at hl 3 rfl) ?_
                refine W.lcmp hx hb dM_wrong_131 ?_
                refine lv_if_eq (tgt := 147) hx hb dM_wrong_132 (by decide) (fun c_11 => ?_) (fun c_11 => ?_)
                · skip
                  refine lv_iload_n hx hb dM_wrong_147 rfl (lv_at hl 8 rfl) ?_
                  refine lv_iconst (v := 2) hx hb dM_wrong_148 (by decide) ?_
                  refine lv_icmp_ne (tgt := 172) hx hb dM_wrong_149 (by decide) (fun c_12 => ?_) (fun c_12 => ?_)
                  · skip
                    refine lv_aload_n hx hb dM_wrong_172 rfl (lv_at hl 6 rfl) ?_
                    refine lv_iconst (v := 1) hx hb dM_wrong_173 (by decide) ?_
                    have hPc := hP.sub (ws' := [(k0, .inr (2, [.int th, .ref yb, .ref zb, .int a1, .int a2, .int a3, .int a4, .int a5, .int a6, .int fo])), (yb, .inl (cI, 65536, .inl y)), (zb, .inl (cI, 33, .inl z))]) [0, 1, 2] rfl
                    have hKc := hK.sub (tys' := [(cI, .int)]) [0] rfl
                    refine vp_callSi (va_Run.run (va_runV (As := [.int 1]) (rest := []) ⟨hx, hb, hml, hown, hts⟩ (c_M_mode l dC dI k0 yb zb cI y z th a1 a2 a3 a4 a5 a6 fo 1 (by decide)) (cwV 1 hts gM_wrong_M_mode rfl rfl rfl (by decide +kernel) ⟨Nat.le_of_ble_eq_true rfl, Nat.le_of_ble_eq_true rfl⟩) ⟨fun a U g mk q => by obtain ⟨q0, qP, qK⟩ := q; exact ⟨q0, qP, va_K.moved (u := U) (U := U.calling g mk a) (Vm.Alike.refl U.vm) qK⟩, va_recv hKc hPc (ci := 2) (q0 := 0) rfl rfl, fun U hU hW => ⟨rfl, by rw [hU]; exact hPc, va_K.moved hW.alike hKc⟩⟩ rfl rfl hl.1 rfl (lv_room (Nat.le_of_ble_eq_true rfl)) dM_wrong_174 ⟨Nat.le_of_ble_eq_true rfl, Nat.le_of_ble_eq_true rfl⟩)) (fun r_13 hw_14 => ?_)
                    subst hw_14
                    refine lv_if_eq (tgt := 186) hx hb dM_wrong_177 (by decide) (fun c_15 => ?_) (fun c_15 => ?_)
                    · skip
                      refine lv_lconst (v := 1) hx hb dM_wrong_186 (by decide) ?_
                      refine lv_lstore (lv' := [(14, .long 1), (12, .long (((z ((((((v.toInt64 &&& 4294967295) / 1024) - ((v.toInt64 &&& 4294967295) / 1024) / 8 * 8).toInt32) + 16) + 8).toNatClampNeg).toInt64) &&& 4294967295)), (10, .long (((z (((((v.toInt64 &&& 4294967295) / 1024) - ((v.toInt64 &&& 4294967295) / 1024) / 8 * 8).toInt32) + 16).toNatClampNeg).toInt64) &&& 4294967295)), (9, .int (((((v.toInt64 &&& 4294967295) / 1024) - ((v.toInt64 &&& 4294967295) / 1024) / 8 * 8).toInt32) + 16)), (7, .long ((v.toInt64 &&& 4294967295) / 1024)), (5, .long (v.toInt64 &&& 4294967295)), (4, .int 1), (0, .ref k0), (1, .int v), (2, .int how), (3, .int wd)]) hx hb dM_wrong_187 hl (by decide) rfl (fun ls hl => ?_)
                      refine lv_lload hx hb dM_wrong_189 (lv_at hl 1 rfl) ?_
                      refine lv_lload hx hb dM_wrong_191 (lv_at hl 0 rfl) ?_
                      refine lv_ldiv hx hb dM_wrong_193 (by decide) ?_
                      refine lv_ldc2 (v := 2) hx hb hown (hts _ mbM_wrong_8) dM_wrong_194 ?_
                      refine lv_lrem hx hb dM_wrong_197 (by decide) ?_
                      refine lv_lconst (v := 0) hx hb dM_wrong_198 (by decide) ?_
                      refine W.lcmp hx hb dM_wrong_199 ?_
                      refine lv_if_ne (tgt := 213) hx hb dM_wrong_200 (by decide) (fun c_16 => ?_) (fun c_16 => ?_)
                      · skip
                        refine lv_lload hx hb dM_wrong_213 (lv_at hl 1 rfl) ?_
                        refine lv_ldc2 (v := 1024) hx hb hown (hts _ mbM_wrong_5) dM_wrong_215 ?_
                        refine lv_ldiv hx hb dM_wrong_218 (by decide) ?_
                        refine lv_ldc2 (v := 1024) hx hb hown (hts _ mbM_wrong_5) dM_wrong_219 ?_
                        refine lv_lmul hx hb dM_wrong_222 ?_
                        refine lv_lload hx hb dM_wrong_223 (lv_at hl 5 rfl) ?_
                        refine lv_ldc2 (v := 1024) hx hb hown (hts _ mbM_wrong_5) dM_wrong_225 ?_
                        refine lv_lrem hx hb dM_wrong_228 (by decide) ?_
                        refine lv_ladd hx hb dM_wrong_229 ?_
                        refine lv_lstore (lv' := [(5, .long ((((((z ((((((v.toInt64 &&& 4294967295) / 1024) - ((v.toInt64 &&& 4294967295) / 1024) / 8 * 8).toInt32) + 16) + 8).toNatClampNeg).toInt64) &&& 4294967295) / 1024) * 1024) + ((v.toInt64 &&& 4294967295) - (v.toInt64 &&& 4294967295) / 1024 * 1024))), (14, .long 1), (12, .long (((z ((((((v.toInt64 &&& 4294967295) / 1024) - ((v.toInt64 &&& 4294967295) / 1024) / 8 * 8).toInt32) + 16) + 8).toNatClampNeg).toInt64) &&& 4294967295)), (10, .long (((z (((((v.toInt64 &&& 4294967295) / 1024) - ((v.toInt64 &&& 4294967295) / 1024) / 8 * 8).toInt32) + 16).toNatClampNeg).toInt64) &&& 4294967295)), (9, .int (((((v.toInt64 &&& 4294967295) / 1024) - ((v.toInt64 &&& 4294967295) / 1024) / 8 * 8).toInt32) + 16)), (7, .long ((v.toInt64 &&& 4294967295) / 1024)), (4, .int 1), (0, .ref k0), (1, .int v), (2, .int how), (3, .int wd)]) hx hb dM_wrong_230 hl (by decide) rfl (fun ls hl => ?_)
                        refine b_M_wrong hx hb hown hts dC dI k0 yb zb cI y z th a1 a2 a3 a4 a5 a6 fo how ((((((z ((((((v.toInt64 &&& 4294967295) / 1024) - ((v.toInt64 &&& 4294967295) / 1024) / 8 * 8).toInt32) + 16) + 8).toNatClampNeg).toInt64) &&& 4294967295) / 1024) * 1024) + ((v.toInt64 &&& 4294967295) - (v.toInt64 &&& 4294967295) / 1024 * 1024)) hK _ _ ls hP hD hS (lv_sub hl [0, 9, 7] rfl) (fun H locs ls hls hP hD hS => ?_)
                        exact W.iret (v := (s_b232 how ((((((z ((((((v.toInt64 &&& 4294967295) / 1024) - ((v.toInt64 &&& 4294967295) / 1024) / 8 * 8).toInt32) + 16) + 8).toNatClampNeg).toInt64) &&& 4294967295) / 1024) * 1024) + ((v.toInt64 &&& 4294967295) - (v.toInt64 &&& 4294967295) / 1024 * 1024))).1) hx hb hr (fun t ht hW => ⟨⟨(s_b232 how ((((((z ((((((v.toInt64 &&& 4294967295) / 1024) - ((v.toInt64 &&& 4294967295) / 1024) / 8 * 8).toInt32) + 16) + 8).toNatClampNeg).toInt64) &&& 4294967295) / 1024) * 1024) + ((v.toInt64 &&& 4294967295) - (v.toInt64 &&& 4294967295) / 1024 * 1024))).1, ((s_b232 how ((((((z ((((((v.toInt64 &&& 4294967295) / 1024) - ((v.toInt64 &&& 4294967295) / 1024) / 8 * 8).toInt32) + 16) + 8).toNatClampNeg).toInt64) &&& 4294967295) / 1024) * 1024) + ((v.toInt64 &&& 4294967295) - (v.toInt64 &&& 4294967295) / 1024 * 1024))).2), rfl, by simp only [s_M_wrong, if_neg c_1, if_pos c_3, if_neg c_4, if_neg c_7, if_neg c_9, if_pos c_11, if_neg c_12, if_pos c_15, if_neg c_16], by rw [ht]; exact hP, va_K.moved hW.alike hK, hD⟩, hS.F ht⟩) hS.2.2 dM_wrong_309
                      · skip
                        refine lv_iload_n hx hb dM_wrong_203 rfl (lv_at hl 9 rfl) ?_
                        refine lv_if_ne (tgt := 211) hx hb dM_wrong_204 (by decide) (fun c_17 => ?_) (fun c_17 => ?_)
                        · skip
                          refine lv_iconst (v := 3) hx hb dM_wrong_211 (by decide) ?_
                          exact W.iret (v := 3) hx hb hr (fun t ht hW => ⟨⟨3, fo, rfl, by simp only [s_M_wrong, if_neg c_1, if_pos c_3, if_neg c_4, if_neg c_7, if_neg c_9, if_pos c_11, if_neg c_12, if_pos c_15, if_pos c_16], by rw [ht]; exact hP, va_K.moved hW.alike hK, hD⟩, hS.F ht⟩) hS.2.2 dM_wrong_212
                        · exact absurd c_17 c_4
                    · skip
                      refine lv_ldc2 (v := 4) hx hb hown (hts _ mbM_wrong_9) dM_wrong_180 ?_
                      refine lv_goto (tgt := 187) hx hb dM_wrong_183 (by decide) ?_
                      refine lv_lstore (lv' := [(14, .long 4), (12, .long (((z ((((((v.toInt64 &&& 4294967295) / 1024) - ((v.toInt64 &&& 4294967295) / 1024) / 8 * 8).toInt32) + 16) + 8).toNatClampNeg).toInt64) &&& 4294967295)), (10, .long (((z (((((v.toInt64 &&& 4294967295) / 1024) - ((v.toInt64 &&& 4294967295) / 1024) / 8 * 8).toInt32) + 16).toNatClampNeg).toInt64) &&& 4294967295)), (9, .int (((((v.toInt64 &&& 4294967295) / 1024) - ((v.toInt64 &&& 4294967295) / 1024) / 8 * 8).toInt32) + 16)), (7, .long ((v.toInt64 &&& 4294967295) / 1024)), (5, .long (v.toInt64 &&& 4294967295)), (4, .int 1), (0, .ref k0), (1, .int v), (2, .int how), (3, .int wd)]) hx hb dM_wrong_187 hl (by decide) rfl (fun ls hl => ?_)
                      refine lv_lload hx hb dM_wrong_189 (lv_at hl 1 rfl) ?_
                      refine lv_lload hx hb dM_wrong_191 (lv_at hl 0 rfl) ?_
                      refine lv_ldiv hx hb dM_wrong_193 (by decide) ?_
                      refine lv_ldc2 (v := 2) hx hb hown (hts _ mbM_wrong_8) dM_wrong_194 ?_
                      refine lv_lrem hx hb dM_wrong_197 (by decide) ?_
                      refine lv_lconst (v := 0) hx hb dM_wrong_198 (by decide) ?_
                      refine W.lcmp hx hb dM_wrong_199 ?_
                      refine lv_if_ne (tgt := 213) hx hb dM_wrong_200 (by decide) (fun c_18 => ?_) (fun c_18 => ?_)
                      · skip
                        refine lv_lload hx hb dM_wrong_213 (lv_at hl 1 rfl) ?_
                        refine lv_ldc2 (v := 1024) hx hb hown (hts _ mbM_wrong_5) dM_wrong_215 ?_
                        refine lv_ldiv hx hb dM_wrong_218 (by decide) ?_
                        refine lv_ldc2 (v := 1024) hx hb hown (hts _ mbM_wrong_5) dM_wrong_219 ?_
                        refine lv_lmul hx hb dM_wrong_222 ?_
                        refine lv_lload hx hb dM_wrong_223 (lv_at hl 5 rfl) ?_
                        refine lv_ldc2 (v := 1024) hx hb hown (hts _ mbM_wrong_5) dM_wrong_225 ?_
                        refine lv_lrem hx hb dM_wrong_228 (by decide) ?_
                        refine lv_ladd hx hb dM_wrong_229 ?_
                        refine lv_lstore (lv' := [(5, .long ((((((z ((((((v.toInt64 &&& 4294967295) / 1024) - ((v.toInt64 &&& 4294967295) / 1024) / 8 * 8).toInt32) + 16) + 8).toNatClampNeg).toInt64) &&& 4294967295) / 1024) * 1024) + ((v.toInt64 &&& 4294967295) - (v.toInt64 &&& 4294967295) / 1024 * 1024))), (14, .long 4), (12, .long (((z ((((((v.toInt64 &&& 4294967295) / 1024) - ((v.toInt64 &&& 4294967295) / 1024) / 8 * 8).toInt32) + 16) + 8).toNatClampNeg).toInt64) &&& 4294967295)), (10, .long (((z (((((v.toInt64 &&& 4294967295) / 1024) - ((v.toInt64 &&& 4294967295) / 1024) / 8 * 8).toInt32) + 16).toNatClampNeg).toInt64) &&& 4294967295)), (9, .int (((((v.toInt64 &&& 4294967295) / 1024) - ((v.toInt64 &&& 4294967295) / 1024) / 8 * 8).toInt32) + 16)), (7, .long ((v.toInt64 &&& 4294967295) / 1024)), (4, .int 1), (0, .ref k0), (1, .int v), (2, .int how), (3, .int wd)]) hx hb dM_wrong_230 hl (by decide) rfl (fun ls hl => ?_)
                        refine b_M_wrong hx hb hown hts dC dI k0 yb zb cI y z th a1 a2 a3 a4 a5 a6 fo how ((((((z ((((((v.toInt64 &&& 4294967295) / 1024) - ((v.toInt64 &&& 4294967295) / 1024) / 8 * 8).toInt32) + 16) + 8).toNatClampNeg).toInt64) &&& 4294967295) / 1024) * 1024) + ((v.toInt64 &&& 4294967295) - (v.toInt64 &&& 4294967295) / 1024 * 1024)) hK _ _ ls hP hD hS (lv_sub hl [0, 9, 7] rfl) (fun H locs ls hls hP hD hS => ?_)
                        exact W.iret (v := (s_b232 how ((((((z ((((((v.toInt64 &&& 4294967295) / 1024) - ((v.toInt64 &&& 4294967295) / 1024) / 8 * 8).toInt32) + 16) + 8).toNatClampNeg).toInt64) &&& 4294967295) / 1024) * 1024) + ((v.toInt64 &&& 4294967295) - (v.toInt64 &&& 4294967295) / 1024 * 1024))).1) hx hb hr (fun t ht hW => ⟨⟨(s_b232 how ((((((z ((((((v.toInt64 &&& 4294967295) / 1024) - ((v.toInt64 &&& 4294967295) / 1024) / 8 * 8).toInt32) + 16) + 8).toNatClampNeg).toInt64) &&& 4294967295) / 1024) * 1024) + ((v.toInt64 &&& 4294967295) - (v.toInt64 &&& 4294967295) / 1024 * 1024))).1, ((s_b232 how ((((((z ((((((v.toInt64 &&& 4294967295) / 1024) - ((v.toInt64 &&& 4294967295) / 1024) / 8 * 8).toInt32) + 16) + 8).toNatClampNeg).toInt64) &&& 4294967295) / 1024) * 1024) + ((v.toInt64 &&& 4294967295) - (v.toInt64 &&& 4294967295) / 1024 * 1024))).2), rfl, by simp only [s_M_wrong, if_neg c_1, if_pos c_3, if_neg c_4, if_neg c_7, if_neg c_9, if_pos c_11, if_neg c_12, if_neg c_15, if_neg c_18], by rw [ht]; exact hP, va_K.moved hW.alike hK, hD⟩, hS.F ht⟩) hS.2.2 dM_wrong_309
                      · skip
                        refine lv_iload_n hx hb dM_wrong_203 rfl (lv_at hl 9 rfl) ?_
                        refine lv_if_ne (tgt := 211) hx hb dM_wrong_204 (by decide) (fun c_19 => ?_) (fun c_19 => ?_)
                        · skip
                          refine lv_iconst (v := 3) hx hb dM_wrong_211 (by decide) ?_
                          exact W.iret (v := 3) hx hb hr (fun t ht hW => ⟨⟨3, fo, rfl, by simp only [s_M_wrong, if_neg c_1, if_pos c_3, if_neg c_4, if_neg c_7, if_neg c_9, if_pos c_11, if_neg c_12, if_neg c_15, if_pos c_18], by rw [ht]; exact hP, va_K.moved hW.alike hK, hD⟩, hS.F ht⟩) hS.2.2 dM_wrong_212
                        · exact absurd c_19 c_4
                  · skip
                    refine lv_aload_n hx hb dM_wrong_152 rfl (lv_at hl 6 rfl) ?_
                    refine lv_iconst (v := 1) hx hb dM_wrong_153 (by decide) ?_
                    have hPc := hP.sub (ws' := [(k0, .inr (2, [.int th, .ref yb, .ref zb, .int a1, .int a2, .int a3, .int a4, .int a5, .int a6, .int fo])), (yb, .inl (cI, 65536, .inl y)), (zb, .inl (cI, 33, .inl z))]) [0, 1, 2] rfl
                    have hKc := hK.sub (tys' := [(cI, .int)]) [0] rfl
                    refine vp_callSi (va_Run.run (va_runV (As := [.int 1]) (rest := []) ⟨hx, hb, hml, hown, hts⟩ (c_M_mode l dC dI k0 yb zb cI y z th a1 a2 a3 a4 a5 a6 fo 1 (by decide)) (cwV 1 hts gM_wrong_M_mode rfl rfl rfl (by decide +kernel) ⟨Nat.le_of_ble_eq_true rfl, Nat.le_of_ble_eq_true rfl⟩) ⟨fun a U g mk q => by obtain ⟨q0, qP, qK⟩ := q; exact ⟨q0, qP, va_K.moved (u := U) (U := U.calling g mk a) (Vm.Alike.refl U.vm) qK⟩, va_recv hKc hPc (ci := 2) (q0 := 0) rfl rfl, fun U hU hW => ⟨rfl, by rw [hU]; exact hPc, va_K.moved hW.alike hKc⟩⟩ rfl rfl hl.1 rfl (lv_room (Nat.le_of_ble_eq_true rfl)) dM_wrong_154 ⟨Nat.le_of_ble_eq_true rfl, Nat.le_of_ble_eq_true rfl⟩)) (fun r_20 hw_21 => ?_)
                    subst hw_21
                    refine lv_if_eq (tgt := 166) hx hb dM_wrong_157 (by decide) (fun c_22 => ?_) (fun c_22 => ?_)
                    · skip
                      refine lv_ldc2 (v := 2) hx hb hown (hts _ mbM_wrong_8) dM_wrong_166 ?_
                      refine lv_goto (tgt := 187) hx hb dM_wrong_169 (by decide) ?_
                      refine lv_lstore (lv' := [(14, .long 2), (12, .long (((z ((((((v.toInt64 &&& 4294967295) / 1024) - ((v.toInt64 &&& 4294967295) / 1024) / 8 * 8).toInt32) + 16) + 8).toNatClampNeg).toInt64) &&& 4294967295)), (10, .long (((z (((((v.toInt64 &&& 4294967295) / 1024) - ((v.toInt64 &&& 4294967295) / 1024) / 8 * 8).toInt32) + 16).toNatClampNeg).toInt64) &&& 4294967295)), (9, .int (((((v.toInt64 &&& 4294967295) / 1024) - ((v.toInt64 &&& 4294967295) / 1024) / 8 * 8).toInt32) + 16)), (7, .long ((v.toInt64 &&& 4294967295) / 1024)), (5, .long (v.toInt64 &&& 4294967295)), (4, .int 1), (0, .ref k0), (1, .int v), (2, .int how), (3, .int wd)]) hx hb dM_wrong_187 hl (by decide) rfl (fun ls hl => ?_)
                      refine lv_lload hx hb dM_wrong_189 (lv_at hl 1 rfl) ?_
                      refine lv_lload hx hb dM_wrong_191 (lv_at hl 0 rfl) ?_
                      refine lv_ldiv hx hb dM_wrong_193 (by decide) ?_
                      refine lv_ldc2 (v := 2) hx hb hown (hts _ mbM_wrong_8) dM_wrong_194 ?_
                      refine lv_lrem hx hb dM_wrong_197 (by decide) ?_
                      refine lv_lconst (v := 0) hx hb dM_wrong_198 (by decide) ?_
                      refine W.lcmp hx hb dM_wrong_199 ?_
                      refine lv_if_ne (tgt := 213) hx hb dM_wrong_200 (by decide) (fun c_23 => ?_) (fun c_23 => ?_)
                      · skip
                        refine lv_lload hx hb dM_wrong_213 (lv_at hl 1 rfl) ?_
                        refine lv_ldc2 (v := 1024) hx hb hown (hts _ mbM_wrong_5) dM_wrong_215 ?_
                        refine lv_ldiv hx hb dM_wrong_218 (by decide) ?_
                        refine lv_ldc2 (v := 1024) hx hb hown (hts _ mbM_wrong_5) dM_wrong_219 ?_
                        refine lv_lmul hx hb dM_wrong_222 ?_
                        refine lv_lload hx hb dM_wrong_223 (lv_at hl 5 rfl) ?_
                        refine lv_ldc2 (v := 1024) hx hb hown (hts _ mbM_wrong_5) dM_wrong_225 ?_
                        refine lv_lrem hx hb dM_wrong_228 (by decide) ?_
                        refine lv_ladd hx hb dM_wrong_229 ?_
                        refine lv_lstore (lv' := [(5, .long ((((((z ((((((v.toInt64 &&& 4294967295) / 1024) - ((v.toInt64 &&& 4294967295) / 1024) / 8 * 8).toInt32) + 16) + 8).toNatClampNeg).toInt64) &&& 4294967295) / 1024) * 1024) + ((v.toInt64 &&& 4294967295) - (v.toInt64 &&& 4294967295) / 1024 * 1024))), (14, .long 2), (12, .long (((z ((((((v.toInt64 &&& 4294967295) / 1024) - ((v.toInt64 &&& 4294967295) / 1024) / 8 * 8).toInt32) + 16) + 8).toNatClampNeg).toInt64) &&& 4294967295)), (10, .long (((z (((((v.toInt64 &&& 4294967295) / 1024) - ((v.toInt64 &&& 4294967295) / 1024) / 8 * 8).toInt32) + 16).toNatClampNeg).toInt64) &&& 4294967295)), (9, .int (((((v.toInt64 &&& 4294967295) / 1024) - ((v.toInt64 &&& 4294967295) / 1024) / 8 * 8).toInt32) + 16)), (7, .long ((v.toInt64 &&& 4294967295) / 1024)), (4, .int 1), (0, .ref k0), (1, .int v), (2, .int how), (3, .int wd)]) hx hb dM_wrong_230 hl (by decide) rfl (fun ls hl => ?_)
                        refine b_M_wrong hx hb hown hts dC dI k0 yb zb cI y z th a1 a2 a3 a4 a5 a6 fo how ((((((z ((((((v.toInt64 &&& 4294967295) / 1024) - ((v.toInt64 &&& 4294967295) / 1024) / 8 * 8).toInt32) + 16) + 8).toNatClampNeg).toInt64) &&& 4294967295) / 1024) * 1024) + ((v.toInt64 &&& 4294967295) - (v.toInt64 &&& 4294967295) / 1024 * 1024)) hK _ _ ls hP hD hS (lv_sub hl [0, 9, 7] rfl) (fun H locs ls hls hP hD hS => ?_)
                        exact W.iret (v := (s_b232 how ((((((z ((((((v.toInt64 &&& 4294967295) / 1024) - ((v.toInt64 &&& 4294967295) / 1024) / 8 * 8).toInt32) + 16) + 8).toNatClampNeg).toInt64) &&& 4294967295) / 1024) * 1024) + ((v.toInt64 &&& 4294967295) - (v.toInt64 &&& 4294967295) / 1024 * 1024))).1) hx hb hr (fun t ht hW => ⟨⟨(s_b232 how ((((((z ((((((v.toInt64 &&& 4294967295) / 1024) - ((v.toInt64 &&& 4294967295) / 1024) / 8 * 8).toInt32) + 16) + 8).toNatClampNeg).toInt64) &&& 4294967295) / 1024) * 1024) + ((v.toInt64 &&& 4294967295) - (v.toInt64 &&& 4294967295) / 1024 * 1024))).1, ((s_b232 how ((((((z ((((((v.toInt64 &&& 4294967295) / 1024) - ((v.toInt64 &&& 4294967295) / 1024) / 8 * 8).toInt32) + 16) + 8).toNatClampNeg).toInt64) &&& 4294967295) / 1024) * 1024) + ((v.toInt64 &&& 4294967295) - (v.toInt64 &&& 4294967295) / 1024 * 1024))).2), rfl, by simp only [s_M_wrong, if_neg c_1, if_pos c_3, if_neg c_4, if_neg c_7, if_neg c_9, if_pos c_11, if_pos c_12, if_pos c_22, if_neg c_23], by rw [ht]; exact hP, va_K.moved hW.alike hK, hD⟩, hS.F ht⟩) hS.2.2 dM_wrong_309
                      · skip
                        refine lv_iload_n hx hb dM_wrong_203 rfl (lv_at hl 9 rfl) ?_
                        refine lv_if_ne (tgt := 211) hx hb dM_wrong_204 (by decide) (fun c_24 => ?_) (fun c_24 => ?_)
                        · skip
                          refine lv_iconst (v := 3) hx hb dM_wrong_211 (by decide) ?_
                          exact W.iret (v := 3) hx hb hr (fun t ht hW => ⟨⟨3, fo, rfl, by simp only [s_M_wrong, if_neg c_1, if_pos c_3, if_neg c_4, if_neg c_7, if_neg c_9, if_pos c_11, if_pos c_12, if_pos c_22, if_pos c_23], by rw [ht]; exact hP, va_K.moved hW.alike hK, hD⟩, hS.F ht⟩) hS.2.2 dM_wrong_212
                        · exact absurd c_24 c_4
                    · skip
                      refine lv_ldc2 (v := 8) hx hb hown (hts _ mbM_wrong_6) dM_wrong_160 ?_
                      refine lv_goto (tgt := 187) hx hb dM_wrong_163 (by decide) ?_
                      refine lv_lstore (lv' := [(14, .long 8), (12, .long (((z ((((((v.toInt64 &&& 4294967295) / 1024) - ((v.toInt64 &&& 4294967295) / 1024) / 8 * 8).toInt32) + 16) + 8).toNatClampNeg).toInt64) &&& 4294967295)), (10, .long (((z (((((v.toInt64 &&& 4294967295) / 1024) - ((v.toInt64 &&& 4294967295) / 1024) / 8 * 8).toInt32) + 16).toNatClampNeg).toInt64) &&& 4294967295)), (9, .int (((((v.toInt64 &&& 4294967295) / 1024) - ((v.toInt64 &&& 4294967295) / 1024) / 8 * 8).toInt32) + 16)), (7, .long ((v.toInt64 &&& 4294967295) / 1024)), (5, .long (v.toInt64 &&& 4294967295)), (4, .int 1), (0, .ref k0), (1, .int v), (2, .int how), (3, .int wd)]) hx hb dM_wrong_187 hl (by decide) rfl (fun ls hl => ?_)
                      refine lv_lload hx hb dM_wrong_189 (lv_at hl 1 rfl) ?_
                      refine lv_lload hx hb dM_wrong_191 (lv_at hl 0 rfl) ?_
                      refine lv_ldiv hx hb dM_wrong_193 (by decide) ?_
                      refine lv_ldc2 (v := 2) hx hb hown (hts _ mbM_wrong_8) dM_wrong_194 ?_
                      refine lv_lrem hx hb dM_wrong_197 (by decide) ?_
                      refine lv_lconst (v := 0) hx hb dM_wrong_198 (by decide) ?_
                      refine W.lcmp hx hb dM_wrong_199 ?_
                      refine lv_if_ne (tgt := 213) hx hb dM_wrong_200 (by decide) (fun c_25 => ?_) (fun c_25 => ?_)
                      · skip
                        refine lv_lload hx hb dM_wrong_213 (lv_at hl 1 rfl) ?_
                        refine lv_ldc2 (v := 1024) hx hb hown (hts _ mbM_wrong_5) dM_wrong_215 ?_
                        refine lv_ldiv hx hb dM_wrong_218 (by decide) ?_
                        refine lv_ldc2 (v := 1024) hx hb hown (hts _ mbM_wrong_5) dM_wrong_219 ?_
                        refine lv_lmul hx hb dM_wrong_222 ?_
                        refine lv_lload hx hb dM_wrong_223 (lv_at hl 5 rfl) ?_
                        refine lv_ldc2 (v := 1024) hx hb hown (hts _ mbM_wrong_5) dM_wrong_225 ?_
                        refine lv_lrem hx hb dM_wrong_228 (by decide) ?_
                        refine lv_ladd hx hb dM_wrong_229 ?_
                        refine lv_lstore (lv' := [(5, .long ((((((z ((((((v.toInt64 &&& 4294967295) / 1024) - ((v.toInt64 &&& 4294967295) / 1024) / 8 * 8).toInt32) + 16) + 8).toNatClampNeg).toInt64) &&& 4294967295) / 1024) * 1024) + ((v.toInt64 &&& 4294967295) - (v.toInt64 &&& 4294967295) / 1024 * 1024))), (14, .long 8), (12, .long (((z ((((((v.toInt64 &&& 4294967295) / 1024) - ((v.toInt64 &&& 4294967295) / 1024) / 8 * 8).toInt32) + 16) + 8).toNatClampNeg).toInt64) &&& 4294967295)), (10, .long (((z (((((v.toInt64 &&& 4294967295) / 1024) - ((v.toInt64 &&& 4294967295) / 1024) / 8 * 8).toInt32) + 16).toNatClampNeg).toInt64) &&& 4294967295)), (9, .int (((((v.toInt64 &&& 4294967295) / 1024) - ((v.toInt64 &&& 4294967295) / 1024) / 8 * 8).toInt32) + 16)), (7, .long ((v.toInt64 &&& 4294967295) / 1024)), (4, .int 1), (0, .ref k0), (1, .int v), (2, .int how), (3, .int wd)]) hx hb dM_wrong_230 hl (by decide) rfl (fun ls hl => ?_)
                        refine b_M_wrong hx hb hown hts dC dI k0 yb zb cI y z th a1 a2 a3 a4 a5 a6 fo how ((((((z ((((((v.toInt64 &&& 4294967295) / 1024) - ((v.toInt64 &&& 4294967295) / 1024) / 8 * 8).toInt32) + 16) + 8).toNatClampNeg).toInt64) &&& 4294967295) / 1024) * 1024) + ((v.toInt64 &&& 4294967295) - (v.toInt64 &&& 4294967295) / 1024 * 1024)) hK _ _ ls hP hD hS (lv_sub hl [0, 9, 7] rfl) (fun H locs ls hls hP hD hS => ?_)
                        exact W.iret (v := (s_b232 how ((((((z ((((((v.toInt64 &&& 4294967295) / 1024) - ((v.toInt64 &&& 4294967295) / 1024) / 8 * 8).toInt32) + 16) + 8).toNatClampNeg).toInt64) &&& 4294967295) / 1024) * 1024) + ((v.toInt64 &&& 4294967295) - (v.toInt64 &&& 4294967295) / 1024 * 1024))).1) hx hb hr (fun t ht hW => ⟨⟨(s_b232 how ((((((z ((((((v.toInt64 &&& 4294967295) / 1024) - ((v.toInt64 &&& 4294967295) / 1024) / 8 * 8).toInt32) + 16) + 8).toNatClampNeg).toInt64) &&& 4294967295) / 1024) * 1024) + ((v.toInt64 &&& 4294967295) - (v.toInt64 &&& 4294967295) / 1024 * 1024))).1, ((s_b232 how ((((((z ((((((v.toInt64 &&& 4294967295) / 1024) - ((v.toInt64 &&& 4294967295) / 1024) / 8 * 8).toInt32) + 16) + 8).toNatClampNeg).toInt64) &&& 4294967295) / 1024) * 1024) + ((v.toInt64 &&& 4294967295) - (v.toInt64 &&& 4294967295) / 1024 * 1024))).2), rfl, by simp only [s_M_wrong, if_neg c_1, if_pos c_3, if_neg c_4, if_neg c_7, if_neg c_9, if_pos c_11, if_pos c_12, if_neg c_22, if_neg c_25], by rw [ht]; exact hP, va_K.moved hW.alike hK, hD⟩, hS.F ht⟩) hS.2.2 dM_wrong_309
                      · skip
                        refine lv_iload_n hx hb dM_wrong_203 rfl (lv_at hl 9 rfl) ?_
                        refine lv_if_ne (tgt := 211) hx hb dM_wrong_204 (by decide) (fun c_26 => ?_) (fun c_26 => ?_)
                        · skip
                          refine lv_iconst (v := 3) hx hb dM_wrong_211 (by decide) ?_
                          exact W.iret (v := 3) hx hb hr (fun t ht hW => ⟨⟨3, fo, rfl, by simp only [s_M_wrong, if_neg c_1, if_pos c_3, if_neg c_4, if_neg c_7, if_neg c_9, if_pos c_11, if_pos c_12, if_neg c_22, if_pos c_25], by rw [ht]; exact hP, va_K.moved hW.alike hK, hD⟩, hS.F ht⟩) hS.2.2 dM_wrong_212
                        · exact absurd c_26 c_4
                · skip
                  refine lv_iload_n hx hb dM_wrong_135 rfl (lv_at hl 8 rfl) ?_
                  refine lv_if_ne (tgt := 144) hx hb dM_wrong_136 (by decide) (fun c_27 => ?_) (fun c_27 => ?_)
                  · skip
                    refine lv_bipush (v := 9) hx hb dM_wrong_144 (by decide) ?_
                    exact W.iret (v := 9) hx hb hr (fun t ht hW => ⟨⟨9, fo, rfl, by simp only [s_M_wrong, if_neg c_1, if_pos c_3, if_neg c_4, if_neg c_7, if_neg c_9, if_neg c_11], by rw [ht]; exact hP, va_K.moved hW.alike hK, hD⟩, hS.F ht⟩) hS.2.2 dM_wrong_146
                  · exact absurd c_27 c_4
            · exact absurd c_8 c_4
        · skip
          refine lv_iconst (v := 2) hx hb dM_wrong_42 (by decide) ?_
          refine lv_goto (tgt := 47) hx hb dM_wrong_43 (by decide) ?_
          have hPc := hP.sub (ws' := [(k0, .inr (2, [.int th, .ref yb, .ref zb, .int a1, .int a2, .int a3, .int a4, .int a5, .int a6, .int fo])), (yb, .inl (cI, 65536, .inl y)), (zb, .inl (cI, 33, .inl z))]) [0, 1, 2] rfl
          have hKc := hK.sub (tys' := [(cI, .int)]) [0] rfl
          refine vp_callSi (va_Run.run (va_runV (As := [.int 2]) (rest := []) ⟨hx, hb, hml, hown, hts⟩ (c_M_mode l dC dI k0 yb zb cI y z th a1 a2 a3 a4 a5 a6 fo 2 (by decide)) (cwV 1 hts gM_wrong_M_mode rfl rfl rfl (by decide +kernel) ⟨Nat.le_of_ble_eq_true rfl, Nat.le_of_ble_eq_true rfl⟩) ⟨fun a U g mk q => by obtain ⟨q0, qP, qK⟩ := q; exact ⟨q0, qP, va_K.moved (u := U) (U := U.calling g mk a) (Vm.Alike.refl U.vm) qK⟩, va_recv hKc hPc (ci := 2) (q0 := 0) rfl rfl, fun U hU hW => ⟨rfl, by rw [hU]; exact hPc, va_K.moved hW.alike hKc⟩⟩ rfl rfl hl.1 rfl (lv_room (Nat.le_of_ble_eq_true rfl)) dM_wrong_47 ⟨Nat.le_of_ble_eq_true rfl, Nat.le_of_ble_eq_true rfl⟩)) (fun r_28 hw_29 => ?_)
          subst hw_29
          refine lv_if_eq (tgt := 232) hx hb dM_wrong_50 (by decide) (fun c_30 => ?_) (fun c_30 => ?_)
          · skip
            refine b_M_wrong hx hb hown hts dC dI k0 yb zb cI y z th a1 a2 a3 a4 a5 a6 fo how (v.toInt64 &&& 4294967295) hK _ _ ls hP hD hS (lv_sub hl [0, 4, 2] rfl) (fun H locs ls hls hP hD hS => ?_)
            exact W.iret (v := (s_b232 how (v.toInt64 &&& 4294967295)).1) hx hb hr (fun t ht hW => ⟨⟨(s_b232 how (v.toInt64 &&& 4294967295)).1, ((s_b232 how (v.toInt64 &&& 4294967295)).2), rfl, by simp only [s_M_wrong, if_neg c_1, if_pos c_3, if_pos c_4, if_pos c_30], by rw [ht]; exact hP, va_K.moved hW.alike hK, hD⟩, hS.F ht⟩) hS.2.2 dM_wrong_309
          · skip
            refine lv_lload hx hb dM_wrong_53 (lv_at hl 0 rfl) ?_
            refine lv_ldc2 (v := 1024) hx hb hown (hts _ mbM_wrong_5) dM_wrong_55 ?_
            refine lv_ldiv hx hb dM_wrong_58 (by decide) ?_
            refine lv_lstore (lv' := [(7, .long ((v.toInt64 &&& 4294967295) / 1024)), (5, .long (v.toInt64 &&& 4294967295)), (4, .int 1), (0, .ref k0), (1, .int v), (2, .int how), (3, .int wd)]) hx hb dM_wrong_59 hl (by decide) rfl (fun ls hl => ?_)
            refine lv_lload hx hb dM_wrong_61 (lv_at hl 0 rfl) ?_
            refine lv_ldc2 (v := 8) hx hb hown (hts _ mbM_wrong_6) dM_wrong_63 ?_
            refine lv_lrem hx hb dM_wrong_66 (by decide) ?_
            refine lv_l2i (v := (((v.toInt64 &&& 4294967295) / 1024) - ((v.toInt64 &&& 4294967295) / 1024) / 8 * 8).toInt32) hx hb dM_wrong_67 rfl ?_
            refine lv_iload_n hx hb dM_wrong_68 rfl (lv_at hl 5 rfl) ?_
            refine lv_if_ne (tgt := 76) hx hb dM_wrong_69 (by decide) (fun c_31 => ?_) (fun c_31 => ?_)
            · exact absurd c_4 c_31
            · skip
              refine lv_iconst (v := 0) hx hb dM_wrong_72 (by decide) ?_
              refine lv_goto (tgt := 78) hx hb dM_wrong_73 (by decide) ?_
              refine lv_iadd hx hb dM_wrong_78 ?_
              refine lv_istore (lv' := [(9, .int (((((v.toInt64 &&& 4294967295) / 1024) - ((v.toInt64 &&& 4294967295) / 1024) / 8 * 8).toInt32) + 0)), (7, .long ((v.toInt64 &&& 4294967295) / 1024)), (5, .long (v.toInt64 &&& 4294967295)), (4, .int 1), (0, .ref k0), (1, .int v), (2, .int how), (3, .int wd)]) hx hb dM_wrong_79 hl (by decide) rfl (fun ls hl => ?_)
              refine lv_aload_n hx hb dM_wrong_81 rfl (lv_at hl 4 rfl) ?_
              refine va_get (D := (dC, dI)) (ci := 2) (v := .ref zb) (C := RX2) (T := TX2) (N := 10) hx hb hts miM_wrong_X2 hown hK hP 0 rfl rfl 2 (by decide) (hts _ mbM_wrong_7) (fun _ h9 => h9) rfl dM_wrong_82 ?_
              refine lv_iload hx hb dM_wrong_85 (lv_at hl 0 rfl) ?_
              refine va_iald hx hb hK hP 2 0 rfl rfl (in_w v 0 (by decide) _ rfl) dM_wrong_87 ?_
              refine lv_i2l (v := (z (((((v.toInt64 &&& 4294967295) / 1024) - ((v.toInt64 &&& 4294967295) / 1024) / 8 * 8).toInt32) + 0).toNatClampNeg).toInt64) hx hb dM_wrong_88 rfl ?_
              refine lv_ldc2 (v := 4294967295) hx hb hown (hts _ mbM_wrong_4) dM_wrong_89 ?_
              refine lv_land hx hb dM_wrong_92 ?_
              refine lv_lstore (lv' := [(10, .long (((z (((((v.toInt64 &&& 4294967295) / 1024) - ((v.toInt64 &&& 4294967295) / 1024) / 8 * 8).toInt32) + 0).toNatClampNeg).toInt64) &&& 4294967295)), (9, .int (((((v.toInt64 &&& 4294967295) / 1024) - ((v.toInt64 &&& 4294967295) / 1024) / 8 * 8).toInt32) + 0)), (7, .long ((v.toInt64 &&& 4294967295) / 1024)), (5, .long (v.toInt64 &&& 4294967295)), (4, .int 1), (0, .ref k0), (1, .int v), (2, .int how), (3, .int wd)]) hx hb dM_wrong_93 hl (by decide) rfl (fun ls hl => ?_)
              refine lv_aload_n hx hb dM_wrong_95 rfl (lv_at hl 5 rfl) ?_
              refine va_get (D := (dC, dI)) (ci := 2) (v := .ref zb) (C := RX2) (T := TX2) (N := 10) hx hb hts miM_wrong_X2 hown hK hP 0 rfl rfl 2 (by decide) (hts _ mbM_wrong_7) (fun _ h9 => h9) rfl dM_wrong_96 ?_
              refine lv_iload hx hb dM_wrong_99 (lv_at hl 1 rfl) ?_
              refine lv_bipush (v := 8) hx hb dM_wrong_101 (by decide) ?_
              refine lv_iadd hx hb dM_wrong_103 ?_
              refine va_iald hx hb hK hP 2 0 rfl rfl (in_w8 v 0 (by decide) _ rfl) dM_wrong_104 ?_
              refine lv_i2l (v := (z ((((((v.toInt64 &&& 4294967295) / 1024) - ((v.toInt64 &&& 4294967295) / 1024) / 8 * 8).toInt32) + 0) + 8).toNatClampNeg).toInt64) hx hb dM_wrong_105 rfl ?_
              refine lv_ldc2 (v := 4294967295) hx hb hown (hts _ mbM_wrong_4) dM_wrong_106 ?_
              refine lv_land hx hb dM_wrong_109 ?_
              refine lv_lstore (lv' := [(12, .long (((z ((((((v.toInt64 &&& 4294967295) / 1024) - ((v.toInt64 &&& 4294967295) / 1024) / 8 * 8).toInt32) + 0) + 8).toNatClampNeg).toInt64) &&& 4294967295)), (10, .long (((z (((((v.toInt64 &&& 4294967295) / 1024) - ((v.toInt64 &&& 4294967295) / 1024) / 8 * 8).toInt32) + 0).toNatClampNeg).toInt64) &&& 4294967295)), (9, .int (((((v.toInt64 &&& 4294967295) / 1024) - ((v.toInt64 &&& 4294967295) / 1024) / 8 * 8).toInt32) + 0)), (7, .long ((v.toInt64 &&& 4294967295) / 1024)), (5, .long (v.toInt64 &&& 4294967295)), (4, .int 1), (0, .ref k0), (1, .int v), (2, .int how), (3, .int wd)]) hx hb dM_wrong_110 hl (by decide) rfl (fun ls hl => ?_)
              refine lv_lload hx hb dM_wrong_112 (lv_at hl 1 rfl) ?_
              refine lv_ldc2 (v := 2) hx hb hown (hts _ mbM_wrong_8) dM_wrong_114 ?_
              refine lv_lrem hx hb dM_wrong_117 (by decide) ?_
              refine lv_lconst (v := 0) hx hb dM_wrong_118 (by decide) ?_
              refine W.lcmp hx hb dM_wrong_119 ?_
              refine lv_if_eq (tgt := 135) hx hb dM_wrong_120 (by decide) (fun c_32 => ?_) (fun c_32 => ?_)
              · skip
                refine lv_iload_n hx hb dM_wrong_135 rfl (lv_at hl 8 rfl) ?_
                refine lv_if_ne (tgt := 144) hx hb dM_wrong_136 (by decide) (fun c_33 => ?_) (fun c_33 => ?_)
                · exact absurd c_4 c_33
                · skip
                  refine lv_bipush (v := 10) hx hb dM_wrong_139 (by decide) ?_
                  refine lv_goto (tgt := 146) hx hb dM_wrong_141 (by decide) ?_
                  exact W.iret (v := 10) hx hb hr (fun t ht hW => ⟨⟨10, fo, rfl, by simp only [s_M_wrong, if_neg c_1, if_pos c_3, if_pos c_4, if_neg c_30, if_pos c_32], by rw [ht]; exact hP, va_K.moved hW.alike hK, hD⟩, hS.F ht⟩) hS.2.2 dM_wrong_146
              · skip
                refine lv_lload hx hb dM_wrong_123 (lv_at hl 1 rfl) ?_
                refine lv_ldc2 (v := 1024) hx hb hown (hts _ mbM_wrong_5) dM_wrong_125 ?_
                refine lv_ldiv hx hb dM_wrong_128 (by decide) ?_
                refine lv_lload hx hb dM_wrong_129 (lv_at hl 3 rfl) ?_
                refine W.lcmp hx hb dM_wrong_131 ?_
                refine lv_if_eq (tgt := 147) hx hb dM_wrong_132 (by decide) (fun c_34 => ?_) (fun c_34 => ?_)
                · skip
                  refine lv_iload_n hx hb dM_wrong_147 rfl (lv_at hl 8 rfl) ?_
                  refine lv_iconst (v := 2) hx hb dM_wrong_148 (by decide) ?_
                  refine lv_icmp_ne (tgt := 172) hx hb dM_wrong_149 (by decide) (fun c_35 => ?_) (fun c_35 => ?_)
                  · skip
                    refine lv_aload_n hx hb dM_wrong_172 rfl (lv_at hl 6 rfl) ?_
                    refine lv_iconst (v := 1) hx hb dM_wrong_173 (by decide) ?_
                    have hPc := hP.sub (ws' := [(k0, .inr (2, [.int th, .ref yb, .ref zb, .int a1, .int a2, .int a3, .int a4, .int a5, .int a6, .int fo])), (yb, .inl (cI, 65536, .inl y)), (zb, .inl (cI, 33, .inl z))]) [0, 1, 2] rfl
                    have hKc := hK.sub (tys' := [(cI, .int)]) [0] rfl
                    refine vp_callSi (va_Run.run (va_runV (As := [.int 1]) (rest := []) ⟨hx, hb, hml, hown, hts⟩ (c_M_mode l dC dI k0 yb zb cI y z th a1 a2 a3 a4 a5 a6 fo 1 (by decide)) (cwV 1 hts gM_wrong_M_mode rfl rfl rfl (by decide +kernel) ⟨Nat.le_of_ble_eq_true rfl, Nat.le_of_ble_eq_true rfl⟩) ⟨fun a U g mk q => by obtain ⟨q0, qP, qK⟩ := q; exact ⟨q0, qP, va_K.moved (u := U) (U := U.calling g mk a) (Vm.Alike.refl U.vm) qK⟩, va_recv hKc hPc (ci := 2) (q0 := 0) rfl rfl, fun U hU hW => ⟨rfl, by rw [hU]; exact hPc, va_K.moved hW.alike hKc⟩⟩ rfl rfl hl.1 rfl (lv_room (Nat.le_of_ble_eq_true rfl)) dM_wrong_174 ⟨Nat.le_of_ble_eq_true rfl, Nat.le_of_ble_eq_true rfl⟩)) (fun r_36 hw_37 => ?_)
                    subst hw_37
                    refine lv_if_eq (tgt := 186) hx hb dM_wrong_177 (by decide) (fun c_38 => ?_) (fun c_38 => ?_)
                    · skip
                      refine lv_lconst (v := 1) hx hb dM_wrong_186 (by decide) ?_
                      refine lv_lstore (lv' := [(14, .long 1), (12, .long (((z ((((((v.toInt64 &&& 4294967295) / 1024) - ((v.toInt64 &&& 4294967295) / 1024) / 8 * 8).toInt32) + 0) + 8).toNatClampNeg).toInt64) &&& 4294967295)), (10, .long (((z (((((v.toInt64 &&& 4294967295) / 1024) - ((v.toInt64 &&& 4294967295) / 1024) / 8 * 8).toInt32) + 0).toNatClampNeg).toInt64) &&& 4294967295)), (9, .int (((((v.toInt64 &&& 4294967295) / 1024) - ((v.toInt64 &&& 4294967295) / 1024) / 8 * 8).toInt32) + 0)), (7, .long ((v.toInt64 &&& 4294967295) / 1024)), (5, .long (v.toInt64 &&& 4294967295)), (4, .int 1), (0, .ref k0), (1, .int v), (2, .int how), (3, .int wd)]) hx hb dM_wrong_187 hl (by decide) rfl (fun ls hl => ?_)
                      refine lv_lload hx hb dM_wrong_189 (lv_at hl 1 rfl) ?_
                      refine lv_lload hx hb dM_wrong_191 (lv_at hl 0 rfl) ?_
                      refine lv_ldiv hx hb dM_wrong_193 (by decide) ?_
                      refine lv_ldc2 (v := 2) hx hb hown (hts _ mbM_wrong_8) dM_wrong_194 ?_
                      refine lv_lrem hx hb dM_wrong_197 (by decide) ?_
                      refine lv_lconst (v := 0) hx hb dM_wrong_198 (by decide) ?_
                      refine W.lcmp hx hb dM_wrong_199 ?_
                      refine lv_if_ne (tgt := 213) hx hb dM_wrong_200 (by decide) (fun c_39 => ?_) (fun c_39 => ?_)
                      · skip
                        refine lv_lload hx hb dM_wrong_213 (lv_at hl 1 rfl) ?_
                        refine lv_ldc2 (v := 1024) hx hb hown (hts _ mbM_wrong_5) dM_wrong_215 ?_
                        refine lv_ldiv hx hb dM_wrong_218 (by decide) ?_
                        refine lv_ldc2 (v := 1024) hx hb hown (hts _ mbM_wrong_5) dM_wrong_219 ?_
                        refine lv_lmul hx hb dM_wrong_222 ?_
                        refine lv_lload hx hb dM_wrong_223 (lv_at hl 5 rfl) ?_
                        refine lv_ldc2 (v := 1024) hx hb hown (hts _ mbM_wrong_5) dM_wrong_225 ?_
                        refine lv_lrem hx hb dM_wrong_228 (by decide) ?_
                        refine lv_ladd hx hb dM_wrong_229 ?_
                        refine lv_lstore (lv' := [(5, .long ((((((z ((((((v.toInt64 &&& 4294967295) / 1024) - ((v.toInt64 &&& 4294967295) / 1024) / 8 * 8).toInt32) + 0) + 8).toNatClampNeg).toInt64) &&& 4294967295) / 1024) * 1024) + ((v.toInt64 &&& 4294967295) - (v.toInt64 &&& 4294967295) / 1024 * 1024))), (14, .long 1), (12, .long (((z ((((((v.toInt64 &&& 4294967295) / 1024) - ((v.toInt64 &&& 4294967295) / 1024) / 8 * 8).toInt32) + 0) + 8).toNatClampNeg).toInt64) &&& 4294967295)), (10, .long (((z (((((v.toInt64 &&& 4294967295) / 1024) - ((v.toInt64 &&& 4294967295) / 1024) / 8 * 8).toInt32) + 0).toNatClampNeg).toInt64) &&& 4294967295)), (9, .int (((((v.toInt64 &&& 4294967295) / 1024) - ((v.toInt64 &&& 4294967295) / 1024) / 8 * 8).toInt32) + 0)), (7, .long ((v.toInt64 &&& 4294967295) / 1024)), (4, .int 1), (0, .ref k0), (1, .int v), (2, .int how), (3, .int wd)]) hx hb dM_wrong_230 hl (by decide) rfl (fun ls hl => ?_)
                        refine b_M_wrong hx hb hown hts dC dI k0 yb zb cI y z th a1 a2 a3 a4 a5 a6 fo how ((((((z ((((((v.toInt64 &&& 4294967295) / 1024) - ((v.toInt64 &&& 4294967295) / 1024) / 8 * 8).toInt32) + 0) + 8).toNatClampNeg).toInt64) &&& 4294967295) / 1024) * 1024) + ((v.toInt64 &&& 4294967295) - (v.toInt64 &&& 4294967295) / 1024 * 1024)) hK _ _ ls hP hD hS (lv_sub hl [0, 9, 7] rfl) (fun H locs ls hls hP hD hS => ?_)
                        exact W.iret (v := (s_b232 how ((((((z ((((((v.toInt64 &&& 4294967295) / 1024) - ((v.toInt64 &&& 4294967295) / 1024) / 8 * 8).toInt32) + 0) + 8).toNatClampNeg).toInt64) &&& 4294967295) / 1024) * 1024) + ((v.toInt64 &&& 4294967295) - (v.toInt64 &&& 4294967295) / 1024 * 1024))).1) hx hb hr (fun t ht hW => ⟨⟨(s_b232 how ((((((z ((((((v.toInt64 &&& 4294967295) / 1024) - ((v.toInt64 &&& 4294967295) / 1024) / 8 * 8).toInt32) + 0) + 8).toNatClampNeg).toInt64) &&& 4294967295) / 1024) * 1024) + ((v.toInt64 &&& 4294967295) - (v.toInt64 &&& 4294967295) / 1024 * 1024))).1, ((s_b232 how ((((((z ((((((v.toInt64 &&& 4294967295) / 1024) - ((v.toInt64 &&& 4294967295) / 1024) / 8 * 8).toInt32) + 0) + 8).toNatClampNeg).toInt64) &&& 4294967295) / 1024) * 1024) + ((v.toInt64 &&& 4294967295) - (v.toInt64 &&& 4294967295) / 1024 * 1024))).2), rfl, by simp only [s_M_wrong, if_neg c_1, if_pos c_3, if_pos c_4, if_neg c_30, if_neg c_32, if_pos c_34, if_neg c_35, if_pos c_38, if_neg c_39], by rw [ht]; exact hP, va_K.moved hW.alike hK, hD⟩, hS.F ht⟩) hS.2.2 dM_wrong_309
                      · skip
                        refine lv_iload_n hx hb dM_wrong_203 rfl (lv_at hl 9 rfl) ?_
                        refine lv_if_ne (tgt := 211) hx hb dM_wrong_204 (by decide) (fun c_40 => ?_) (fun c_40 => ?_)
                        · exact absurd c_4 c_40
                        · skip
                          refine lv_iconst (v := 4) hx hb dM_wrong_207 (by decide) ?_
                          refine lv_goto (tgt := 212) hx hb dM_wrong_208 (by decide) ?_
                          exact W.iret (v := 4) hx hb hr (fun t ht hW => ⟨⟨4, fo, rfl, by simp only [s_M_wrong, if_neg c_1, if_pos c_3, if_pos c_4, if_neg c_30, if_neg c_32, if_pos c_34, if_neg c_35, if_pos c_38, if_pos c_39], by rw [ht]; exact hP, va_K.moved hW.alike hK, hD⟩, hS.F ht⟩) hS.2.2 dM_wrong_212
                    · skip
                      refine lv_ldc2 (v := 4) hx hb hown (hts _ mbM_wrong_9) dM_wrong_180 ?_
                      refine lv_goto (tgt := 187) hx hb dM_wrong_183 (by decide) ?_
                      refine lv_lstore (lv' := [(14, .long 4), (12, .long (((z ((((((v.toInt64 &&& 4294967295) / 1024) - ((v.toInt64 &&& 4294967295) / 1024) / 8 * 8).toInt32) + 0) + 8).toNatClampNeg).toInt64) &&& 4294967295)), (10, .long (((z (((((v.toInt64 &&& 4294967295) / 1024) - ((v.toInt64 &&& 4294967295) / 1024) / 8 * 8).toInt32) + 0).toNatClampNeg).toInt64) &&& 4294967295)), (9, .int (((((v.toInt64 &&& 4294967295) / 1024) - ((v.toInt64 &&& 4294967295) / 1024) / 8 * 8).toInt32) + 0)), (7, .long ((v.toInt64 &&& 4294967295) / 1024)), (5, .long (v.toInt64 &&& 4294967295)), (4, .int 1), (0, .ref k0), (1, .int v), (2, .int how), (3, .int wd)]) hx hb dM_wrong_187 hl (by decide) rfl (fun ls hl => ?_)
                      refine lv_lload hx hb dM_wrong_189 (lv_at hl 1 rfl) ?_
                      refine lv_lload hx hb dM_wrong_191 (lv_at hl 0 rfl) ?_
                      refine lv_ldiv hx hb dM_wrong_193 (by decide) ?_
                      refine lv_ldc2 (v := 2) hx hb hown (hts _ mbM_wrong_8) dM_wrong_194 ?_
                      refine lv_lrem hx hb dM_wrong_197 (by decide) ?_
                      refine lv_lconst (v := 0) hx hb dM_wrong_198 (by decide) ?_
                      refine W.lcmp hx hb dM_wrong_199 ?_
                      refine lv_if_ne (tgt := 213) hx hb dM_wrong_200 (by decide) (fun c_41 => ?_) (fun c_41 => ?_)
                      · skip
                        refine lv_lload hx hb dM_wrong_213 (lv_at hl 1 rfl) ?_
                        refine lv_ldc2 (v := 1024) hx hb hown (hts _ mbM_wrong_5) dM_wrong_215 ?_
                        refine lv_ldiv hx hb dM_wrong_218 (by decide) ?_
                        refine lv_ldc2 (v := 1024) hx hb hown (hts _ mbM_wrong_5) dM_wrong_219 ?_
                        refine lv_lmul hx hb dM_wrong_222 ?_
                        refine lv_lload hx hb dM_wrong_223 (lv_at hl 5 rfl) ?_
                        refine lv_ldc2 (v := 1024) hx hb hown (hts _ mbM_wrong_5) dM_wrong_225 ?_
                        refine lv_lrem hx hb dM_wrong_228 (by decide) ?_
                        refine lv_ladd hx hb dM_wrong_229 ?_
                        refine lv_lstore (lv' := [(5, .long ((((((z ((((((v.toInt64 &&& 4294967295) / 1024) - ((v.toInt64 &&& 4294967295) / 1024) / 8 * 8).toInt32) + 0) + 8).toNatClampNeg).toInt64) &&& 4294967295) / 1024) * 1024) + ((v.toInt64 &&& 4294967295) - (v.toInt64 &&& 4294967295) / 1024 * 1024))), (14, .long 4), (12, .long (((z ((((((v.toInt64 &&& 4294967295) / 1024) - ((v.toInt64 &&& 4294967295) / 1024) / 8 * 8).toInt32) + 0) + 8).toNatClampNeg).toInt64) &&& 4294967295)), (10, .long (((z (((((v.toInt64 &&& 4294967295) / 1024) - ((v.toInt64 &&& 4294967295) / 1024) / 8 * 8).toInt32) + 0).toNatClampNeg).toInt64) &&& 4294967295)), (9, .int (((((v.toInt64 &&& 4294967295) / 1024) - ((v.toInt64 &&& 4294967295) / 1024) / 8 * 8).toInt32) + 0)), (7, .long ((v.toInt64 &&& 4294967295) / 1024)), (4, .int 1), (0, .ref k0), (1, .int v), (2, .int how), (3, .int wd)]) hx hb dM_wrong_230 hl (by decide) rfl (fun ls hl => ?_)
                        refine b_M_wrong hx hb hown hts dC dI k0 yb zb cI y z th a1 a2 a3 a4 a5 a6 fo how ((((((z ((((((v.toInt64 &&& 4294967295) / 1024) - ((v.toInt64 &&& 4294967295) / 1024) / 8 * 8).toInt32) + 0) + 8).toNatClampNeg).toInt64) &&& 4294967295) / 1024) * 1024) + ((v.toInt64 &&& 4294967295) - (v.toInt64 &&& 4294967295) / 1024 * 1024)) hK _ _ ls hP hD hS (lv_sub hl [0, 9, 7] rfl) (fun H locs ls hls hP hD hS => ?_)
                        exact W.iret (v := (s_b232 how ((((((z ((((((v.toInt64 &&& 4294967295) / 1024) - ((v.toInt64 &&& 4294967295) / 1024) / 8 * 8).toInt32) + 0) + 8).toNatClampNeg).toInt64) &&& 4294967295) / 1024) * 1024) + ((v.toInt64 &&& 4294967295) - (v.toInt64 &&& 4294967295) / 1024 * 1024))).1) hx hb hr (fun t ht hW => ⟨⟨(s_b232 how ((((((z ((((((v.toInt64 &&& 4294967295) / 1024) - ((v.toInt64 &&& 4294967295) / 1024) / 8 * 8).toInt32) + 0) + 8).toNatClampNeg).toInt64) &&& 4294967295) / 1024) * 1024) + ((v.toInt64 &&& 4294967295) - (v.toInt64 &&& 4294967295) / 1024 * 1024))).1, ((s_b232 how ((((((z ((((((v.toInt64 &&& 4294967295) / 1024) - ((v.toInt64 &&& 4294967295) / 1024) / 8 * 8).toInt32) + 0) + 8).toNatClampNeg).toInt64) &&& 4294967295) / 1024) * 1024) + ((v.toInt64 &&& 4294967295) - (v.toInt64 &&& 4294967295) / 1024 * 1024))).2), rfl, by simp only [s_M_wrong, if_neg c_1, if_pos c_3, if_pos c_4, if_neg c_30, if_neg c_32, if_pos c_34, if_neg c_35, if_neg c_38, if_neg c_41], by rw [ht]; exact hP, va_K.moved hW.alike hK, hD⟩, hS.F ht⟩) hS.2.2 dM_wrong_309
                      · skip
                        refine lv_iload_n hx hb dM_wrong_203 rfl (lv_at hl 9 rfl) ?_
                        refine lv_if_ne (tgt := 211) hx hb dM_wrong_204 (by decide) (fun c_42 => ?_) (fun c_42 => ?_)
                        · exact absurd c_4 c_42
                        · skip
                          refine lv_iconst (v := 4) hx hb dM_wrong_207 (by decide) ?_
                          refine lv_goto (tgt := 212) hx hb dM_wrong_208 (by decide) ?_
                          exact W.iret (v := 4) hx hb hr (fun t ht hW => ⟨⟨4, fo, rfl, by simp only [s_M_wrong, if_neg c_1, if_pos c_3, if_pos c_4, if_neg c_30, if_neg c_32, if_pos c_34, if_neg c_35, if_neg c_38, if_pos c_41], by rw [ht]; exact hP, va_K.moved hW.alike hK, hD⟩, hS.F ht⟩) hS.2.2 dM_wrong_212
                  · skip
                    refine lv_aload_n hx hb dM_wrong_152 rfl (lv_at hl 6 rfl) ?_
                    refine lv_iconst (v := 1) hx hb dM_wrong_153 (by decide) ?_
                    have hPc := hP.sub (ws' := [(k0, .inr (2, [.int th, .ref yb, .ref zb, .int a1, .int a2, .int a3, .int a4, .int a5, .int a6, .int fo])), (yb, .inl (cI, 65536, .inl y)), (zb, .inl (cI, 33, .inl z))]) [0, 1, 2] rfl
                    have hKc := hK.sub (tys' := [(cI, .int)]) [0] rfl
                    refine vp_callSi (va_Run.run (va_runV (As := [.int 1]) (rest := []) ⟨hx, hb, hml, hown, hts⟩ (c_M_mode l dC dI k0 yb zb cI y z th a1 a2 a3 a4 a5 a6 fo 1 (by decide)) (cwV 1 hts gM_wrong_M_mode rfl rfl rfl (by decide +kernel) ⟨Nat.le_of_ble_eq_true rfl, Nat.le_of_ble_eq_true rfl⟩) ⟨fun a U g mk q => by obtain ⟨q0, qP, qK⟩ := q; exact ⟨q0, qP, va_K.moved (u := U) (U := U.calling g mk a) (Vm.Alike.refl U.vm) qK⟩, va_recv hKc hPc (ci := 2) (q0 := 0) rfl rfl, fun U hU hW => ⟨rfl, by rw [hU]; exact hPc, va_K.moved hW.alike hKc⟩⟩ rfl rfl hl.1 rfl (lv_room (Nat.le_of_ble_eq_true rfl)) dM_wrong_154 ⟨Nat.le_of_ble_eq_true rfl, Nat.le_of_ble_eq_true rfl⟩)) (fun r_43 hw_44 => ?_)
                    subst hw_44
                    refine lv_if_eq (tgt := 166) hx hb dM_wrong_157 (by decide) (fun c_45 => ?_) (fun c_45 => ?_)
                    · skip
                      refine lv_ldc2 (v := 2) hx hb hown (hts _ mbM_wrong_8) dM_wrong_166 ?_
                      refine lv_goto (tgt := 187) hx hb dM_wrong_169 (by decide) ?_
                      refine lv_lstore (lv' := [(14, .long 2), (12, .long (((z ((((((v.toInt64 &&& 4294967295) / 1024) - ((v.toInt64 &&& 4294967295) / 1024) / 8 * 8).toInt32) + 0) + 8).toNatClampNeg).toInt64) &&& 4294967295)), (10, .long (((z (((((v.toInt64 &&& 4294967295) / 1024) - ((v.toInt64 &&& 4294967295) / 1024) / 8 * 8).toInt32) + 0).toNatClampNeg).toInt64) &&& 4294967295)), (9, .int (((((v.toInt64 &&& 4294967295) / 1024) - ((v.toInt64 &&& 4294967295) / 1024) / 8 * 8).toInt32) + 0)), (7, .long ((v.toInt64 &&& 4294967295) / 1024)), (5, .long (v.toInt64 &&& 4294967295)), (4, .int 1), (0, .ref k0), (1, .int v), (2, .int how), (3, .int wd)]) hx hb dM_wrong_187 hl (by decide) rfl (fun ls hl => ?_)
                      refine lv_lload hx hb dM_wrong_189 (lv_at hl 1 rfl) ?_
                      refine lv_lload hx hb dM_wrong_191 (lv_at hl 0 rfl) ?_
                      refine lv_ldiv hx hb dM_wrong_193 (by decide) ?_
                      refine lv_ldc2 (v := 2) hx hb hown (hts _ mbM_wrong_8) dM_wrong_194 ?_
                      refine lv_lrem hx hb dM_wrong_197 (by decide) ?_
                      refine lv_lconst (v := 0) hx hb dM_wrong_198 (by decide) ?_
                      refine W.lcmp hx hb dM_wrong_199 ?_
                      refine lv_if_ne (tgt := 213) hx hb dM_wrong_200 (by decide) (fun c_46 => ?_) (fun c_46 => ?_)
                      · skip
                        refine lv_lload hx hb dM_wrong_213 (lv_at hl 1 rfl) ?_
                        refine lv_ldc2 (v := 1024) hx hb hown (hts _ mbM_wrong_5) dM_wrong_215 ?_
                        refine lv_ldiv hx hb dM_wrong_218 (by decide) ?_
                        refine lv_ldc2 (v := 1024) hx hb hown (hts _ mbM_wrong_5) dM_wrong_219 ?_
                        refine lv_lmul hx hb dM_wrong_222 ?_
                        refine lv_lload hx hb dM_wrong_223 (lv_at hl 5 rfl) ?_
                        refine lv_ldc2 (v := 1024) hx hb hown (hts _ mbM_wrong_5) dM_wrong_225 ?_
                        refine lv_lrem hx hb dM_wrong_228 (by decide) ?_
                        refine lv_ladd hx hb dM_wrong_229 ?_
                        refine lv_lstore (lv' := [(5, .long ((((((z ((((((v.toInt64 &&& 4294967295) / 1024) - ((v.toInt64 &&& 4294967295) / 1024) / 8 * 8).toInt32) + 0) + 8).toNatClampNeg).toInt64) &&& 4294967295) / 1024) * 1024) + ((v.toInt64 &&& 4294967295) - (v.toInt64 &&& 4294967295) / 1024 * 1024))), (14, .long 2), (12, .long (((z ((((((v.toInt64 &&& 4294967295) / 1024) - ((v.toInt64 &&& 4294967295) / 1024) / 8 * 8).toInt32) + 0) + 8).toNatClampNeg).toInt64) &&& 4294967295)), (10, .long (((z (((((v.toInt64 &&& 4294967295) / 1024) - ((v.toInt64 &&& 4294967295) / 1024) / 8 * 8).toInt32) + 0).toNatClampNeg).toInt64) &&& 4294967295)), (9, .int (((((v.toInt64 &&& 4294967295) / 1024) - ((v.toInt64 &&& 4294967295) / 1024) / 8 * 8).toInt32) + 0)), (7, .long ((v.toInt64 &&& 4294967295) / 1024)), (4, .int 1), (0, .ref k0), (1, .int v), (2, .int how), (3, .int wd)]) hx hb dM_wrong_230 hl (by decide) rfl (fun ls hl => ?_)
                        refine b_M_wrong hx hb hown hts dC dI k0 yb zb cI y z th a1 a2 a3 a4 a5 a6 fo how ((((((z ((((((v.toInt64 &&& 4294967295) / 1024) - ((v.toInt64 &&& 4294967295) / 1024) / 8 * 8).toInt32) + 0) + 8).toNatClampNeg).toInt64) &&& 4294967295) / 1024) * 1024) + ((v.toInt64 &&& 4294967295) - (v.toInt64 &&& 4294967295) / 1024 * 1024)) hK _ _ ls hP hD hS (lv_sub hl [0, 9, 7] rfl) (fun H locs ls hls hP hD hS => ?_)
                        exact W.iret (v := (s_b232 how ((((((z ((((((v.toInt64 &&& 4294967295) / 1024) - ((v.toInt64 &&& 4294967295) / 1024) / 8 * 8).toInt32) + 0) + 8).toNatClampNeg).toInt64) &&& 4294967295) / 1024) * 1024) + ((v.toInt64 &&& 4294967295) - (v.toInt64 &&& 4294967295) / 1024 * 1024))).1) hx hb hr (fun t ht hW => ⟨⟨(s_b232 how ((((((z ((((((v.toInt64 &&& 4294967295) / 1024) - ((v.toInt64 &&& 4294967295) / 1024) / 8 * 8).toInt32) + 0) + 8).toNatClampNeg).toInt64) &&& 4294967295) / 1024) * 1024) + ((v.toInt64 &&& 4294967295) - (v.toInt64 &&& 4294967295) / 1024 * 1024))).1, ((s_b232 how ((((((z ((((((v.toInt64 &&& 4294967295) / 1024) - ((v.toInt64 &&& 4294967295) / 1024) / 8 * 8).toInt32) + 0) + 8).toNatClampNeg).toInt64) &&& 4294967295) / 1024) * 1024) + ((v.toInt64 &&& 4294967295) - (v.toInt64 &&& 4294967295) / 1024 * 1024))).2), rfl, by simp only [s_M_wrong, if_neg c_1, if_pos c_3, if_pos c_4, if_neg c_30, if_neg c_32, if_pos c_34, if_pos c_35, if_pos c_45, if_neg c_46], by rw [ht]; exact hP, va_K.moved hW.alike hK, hD⟩, hS.F ht⟩) hS.2.2 dM_wrong_309
                      · skip
                        refine lv_iload_n hx hb dM_wrong_203 rfl (lv_at hl 9 rfl) ?_
                        refine lv_if_ne (tgt := 211) hx hb dM_wrong_204 (by decide) (fun c_47 => ?_) (fun c_47 => ?_)
                        · exact absurd c_4 c_47
                        · skip
                          refine lv_iconst (v := 4) hx hb dM_wrong_207 (by decide) ?_
                          refine lv_goto (tgt := 212) hx hb dM_wrong_208 (by decide) ?_
                          exact W.iret (v := 4) hx hb hr (fun t ht hW => ⟨⟨4, fo, rfl, by simp only [s_M_wrong, if_neg c_1, if_pos c_3, if_pos c_4, if_neg c_30, if_neg c_32, if_pos c_34, if_pos c_35, if_pos c_45, if_pos c_46], by rw [ht]; exact hP, va_K.moved hW.alike hK, hD⟩, hS.F ht⟩) hS.2.2 dM_wrong_212
                    · skip
                      refine lv_ldc2 (v := 8) hx hb hown (hts _ mbM_wrong_6) dM_wrong_160 ?_
                      refine lv_goto (tgt := 187) hx hb dM_wrong_163 (by decide) ?_
                      refine lv_lstore (lv' := [(14, .long 8), (12, .long (((z ((((((v.toInt64 &&& 4294967295) / 1024) - ((v.toInt64 &&& 4294967295) / 1024) / 8 * 8).toInt32) + 0) + 8).toNatClampNeg).toInt64) &&& 4294967295)), (10, .long (((z (((((v.toInt64 &&& 4294967295) / 1024) - ((v.toInt64 &&& 4294967295) / 1024) / 8 * 8).toInt32) + 0).toNatClampNeg).toInt64) &&& 4294967295)), (9, .int (((((v.toInt64 &&& 4294967295) / 1024) - ((v.toInt64 &&& 4294967295) / 1024) / 8 * 8).toInt32) + 0)), (7, .long ((v.toInt64 &&& 4294967295) / 1024)), (5, .long (v.toInt64 &&& 4294967295)), (4, .int 1), (0, .ref k0), (1, .int v), (2, .int how), (3, .int wd)]) hx hb dM_wrong_187 hl (by decide) rfl (fun ls hl => ?_)
                      refine lv_lload hx hb dM_wrong_189 (lv_at hl 1 rfl) ?_
                      refine lv_lload hx hb dM_wrong_191 (lv_at hl 0 rfl) ?_
                      refine lv_ldiv hx hb dM_wrong_193 (by decide) ?_
                      refine lv_ldc2 (v := 2) hx hb hown (hts _ mbM_wrong_8) dM_wrong_194 ?_
                      refine lv_lrem hx hb dM_wrong_197 (by decide) ?_
                      refine lv_lconst (v := 0) hx hb dM_wrong_198 (by decide) ?_
                      refine W.lcmp hx hb dM_wrong_199 ?_
                      refine lv_if_ne (tgt := 213) hx hb dM_wrong_200 (by decide) (fun c_48 => ?_) (fun c_48 => ?_)
                      · skip
                        refine lv_lload hx hb dM_wrong_213 (lv_at hl 1 rfl) ?_
                        refine lv_ldc2 (v := 1024) hx hb hown (hts _ mbM_wrong_5) dM_wrong_215 ?_
                        refine lv_ldiv hx hb dM_wrong_218 (by decide) ?_
                        refine lv_ldc2 (v := 1024) hx hb hown (hts _ mbM_wrong_5) dM_wrong_219 ?_
                        refine lv_lmul hx hb dM_wrong_222 ?_
                        refine lv_lload hx hb dM_wrong_223 (lv_at hl 5 rfl) ?_
                        refine lv_ldc2 (v := 1024) hx hb hown (hts _ mbM_wrong_5) dM_wrong_225 ?_
                        refine lv_lrem hx hb dM_wrong_228 (by decide) ?_
                        refine lv_ladd hx hb dM_wrong_229 ?_
                        refine lv_lstore (lv' := [(5, .long ((((((z ((((((v.toInt64 &&& 4294967295) / 1024) - ((v.toInt64 &&& 4294967295) / 1024) / 8 * 8).toInt32) + 0) + 8).toNatClampNeg).toInt64) &&& 4294967295) / 1024) * 1024) + ((v.toInt64 &&& 4294967295) - (v.toInt64 &&& 4294967295) / 1024 * 1024))), (14, .long 8), (12, .long (((z ((((((v.toInt64 &&& 4294967295) / 1024) - ((v.toInt64 &&& 4294967295) / 1024) / 8 * 8).toInt32) + 0) + 8).toNatClampNeg).toInt64) &&& 4294967295)), (10, .long (((z (((((v.toInt64 &&& 4294967295) / 1024) - ((v.toInt64 &&& 4294967295) / 1024) / 8 * 8).toInt32) + 0).toNatClampNeg).toInt64) &&& 4294967295)), (9, .int (((((v.toInt64 &&& 4294967295) / 1024) - ((v.toInt64 &&& 4294967295) / 1024) / 8 * 8).toInt32) + 0)), (7, .long ((v.toInt64 &&& 4294967295) / 1024)), (4, .int 1), (0, .ref k0), (1, .int v), (2, .int how), (3, .int wd)]) hx hb dM_wrong_230 hl (by decide) rfl (fun ls hl => ?_)
                        refine b_M_wrong hx hb hown hts dC dI k0 yb zb cI y z th a1 a2 a3 a4 a5 a6 fo how ((((((z ((((((v.toInt64 &&& 4294967295) / 1024) - ((v.toInt64 &&& 4294967295) / 1024) / 8 * 8).toInt32) + 0) + 8).toNatClampNeg).toInt64) &&& 4294967295) / 1024) * 1024) + ((v.toInt64 &&& 4294967295) - (v.toInt64 &&& 4294967295) / 1024 * 1024)) hK _ _ ls hP hD hS (lv_sub hl [0, 9, 7] rfl) (fun H locs ls hls hP hD hS => ?_)
                        exact W.iret (v := (s_b232 how ((((((z ((((((v.toInt64 &&& 4294967295) / 1024) - ((v.toInt64 &&& 4294967295) / 1024) / 8 * 8).toInt32) + 0) + 8).toNatClampNeg).toInt64) &&& 4294967295) / 1024) * 1024) + ((v.toInt64 &&& 4294967295) - (v.toInt64 &&& 4294967295) / 1024 * 1024))).1) hx hb hr (fun t ht hW => ⟨⟨(s_b232 how ((((((z ((((((v.toInt64 &&& 4294967295) / 1024) - ((v.toInt64 &&& 4294967295) / 1024) / 8 * 8).toInt32) + 0) + 8).toNatClampNeg).toInt64) &&& 4294967295) / 1024) * 1024) + ((v.toInt64 &&& 4294967295) - (v.toInt64 &&& 4294967295) / 1024 * 1024))).1, ((s_b232 how ((((((z ((((((v.toInt64 &&& 4294967295) / 1024) - ((v.toInt64 &&& 4294967295) / 1024) / 8 * 8).toInt32) + 0) + 8).toNatClampNeg).toInt64) &&& 4294967295) / 1024) * 1024) + ((v.toInt64 &&& 4294967295) - (v.toInt64 &&& 4294967295) / 1024 * 1024))).2), rfl, by simp only [s_M_wrong, if_neg c_1, if_pos c_3, if_pos c_4, if_neg c_30, if_neg c_32, if_pos c_34, if_pos c_35, if_neg c_45, if_neg c_48], by rw [ht]; exact hP, va_K.moved hW.alike hK, hD⟩, hS.F ht⟩) hS.2.2 dM_wrong_309
                      · skip
                        refine lv_iload_n hx hb dM_wrong_203 rfl (lv_at hl 9 rfl) ?_
                        refine lv_if_ne (tgt := 211) hx hb dM_wrong_204 (by decide) (fun c_49 => ?_) (fun c_49 => ?_)
                        · exact absurd c_4 c_49
                        · skip
                          refine lv_iconst (v := 4) hx hb dM_wrong_207 (by decide) ?_
                          refine lv_goto (tgt := 212) hx hb dM_wrong_208 (by decide) ?_
                          exact W.iret (v := 4) hx hb hr (fun t ht hW => ⟨⟨4, fo, rfl, by simp only [s_M_wrong, if_neg c_1, if_pos c_3, if_pos c_4, if_neg c_30, if_neg c_32, if_pos c_34, if_pos c_35, if_neg c_45, if_pos c_48], by rw [ht]; exact hP, va_K.moved hW.alike hK, hD⟩, hS.F ht⟩) hS.2.2 dM_wrong_212
                · skip
                  refine lv_iload_n hx hb dM_wrong_135 rfl (lv_at hl 8 rfl) ?_
                  refine lv_if_ne (tgt := 144) hx hb dM_wrong_136 (by decide) (fun c_50 => ?_) (fun c_50 => ?_)
                  · exact absurd c_4 c_50
                  · skip
                    refine lv_bipush (v := 10) hx hb dM_wrong_139 (by decide) ?_
                    refine lv_goto (tgt := 146) hx hb dM_wrong_141 (by decide) ?_
                    exact W.iret (v := 10) hx hb hr (fun t ht hW => ⟨⟨10, fo, rfl, by simp only [s_M_wrong, if_neg c_1, if_pos c_3, if_pos c_4, if_neg c_30, if_neg c_32, if_neg c_34], by rw [ht]; exact hP, va_K.moved hW.alike hK, hD⟩, hS.F ht⟩) hS.2.2 dM_wrong_146
      · skip
        refine lv_bipush (v := 6) hx hb dM_wrong_26 (by decide) ?_
        exact W.iret (v := 6) hx hb hr (fun t ht hW => ⟨⟨6, fo, rfl, by simp only [s_M_wrong, if_neg c_1, if_neg c_3], by rw [ht]; exact hP, va_K.moved hW.alike hK, hD⟩, hS.F ht⟩) hS.2.2 dM_wrong_28
  · skip
    refine lv_iload_n hx hb dM_wrong_4 rfl (lv_at hl 2 rfl) ?_
    refine lv_if_ne (tgt := 12) hx hb dM_wrong_5 (by decide) (fun c_51 => ?_) (fun c_51 => ?_)
    · skip
      refine lv_iconst (v := 0) hx hb dM_wrong_12 (by decide) ?_
      refine lv_istore (lv' := [(4, .int 0), (0, .ref k0), (1, .int v), (2, .int how), (3, .int wd)]) hx hb dM_wrong_13 hl (by decide) rfl (fun ls hl => ?_)
      refine lv_iload hx hb dM_wrong_15 (lv_at hl 0 rfl) ?_
      refine lv_if_eq (tgt := 29) hx hb dM_wrong_17 (by decide) (fun c_52 => ?_) (fun c_52 => ?_)
      · skip
        refine lv_iload_n hx hb dM_wrong_29 rfl (lv_at hl 2 rfl) ?_
        refine lv_i2l (v := v.toInt64) hx hb dM_wrong_30 rfl ?_
        refine lv_ldc2 (v := 4294967295) hx hb hown (hts _ mbM_wrong_4) dM_wrong_31 ?_
        refine lv_land hx hb dM_wrong_34 ?_
        refine lv_lstore (lv' := [(5, .long (v.toInt64 &&& 4294967295)), (4, .int 0), (0, .ref k0), (1, .int v), (2, .int how), (3, .int wd)]) hx hb dM_wrong_35 hl (by decide) rfl (fun ls hl => ?_)
        refine lv_aload_n hx hb dM_wrong_37 rfl (lv_at hl 2 rfl) ?_
        refine lv_iload_n hx hb dM_wrong_38 rfl (lv_at hl 4 rfl) ?_
        refine lv_if_ne (tgt := 46) hx hb dM_wrong_39 (by decide) (fun c_53 => ?_) (fun c_53 => ?_)
        · skip
          refine lv_iconst (v := 4) hx hb dM_wrong_46 (by decide) ?_
          have hPc := hP.sub (ws' := [(k0, .inr (2, [.int th, .ref yb, .ref zb, .int a1, .int a2, .int a3, .int a4, .int a5, .int a6, .int fo])), (yb, .inl (cI, 65536, .inl y)), (zb, .inl (cI, 33, .inl z))]) [0, 1, 2] rfl
          have hKc := hK.sub (tys' := [(cI, .int)]) [0] rfl
          refine vp_callSi (va_Run.run (va_runV (As := [.int 4]) (rest := []) ⟨hx, hb, hml, hown, hts⟩ (c_M_mode l dC dI k0 yb zb cI y z th a1 a2 a3 a4 a5 a6 fo 4 (by decide)) (cwV 1 hts gM_wrong_M_mode rfl rfl rfl (by decide +kernel) ⟨Nat.le_of_ble_eq_true rfl, Nat.le_of_ble_eq_true rfl⟩) ⟨fun a U g mk q => by obtain ⟨q0, qP, qK⟩ := q; exact ⟨q0, qP, va_K.moved (u := U) (U := U.calling g mk a) (Vm.Alike.refl U.vm) qK⟩, va_recv hKc hPc (ci := 2) (q0 := 0) rfl rfl, fun U hU hW => ⟨rfl, by rw [hU]; exact hPc, va_K.moved hW.alike hKc⟩⟩ rfl rfl hl.1 rfl (lv_room (Nat.le_of_ble_eq_true rfl)) dM_wrong_47 ⟨Nat.le_of_ble_eq_true rfl, Nat.le_of_ble_eq_true rfl⟩)) (fun r_54 hw_55 => ?_)
          subst hw_55
          refine lv_if_eq (tgt := 232) hx hb dM_wrong_50 (by decide) (fun c_56 => ?_) (fun c_56 => ?_)
          · skip
            refine b_M_wrong hx hb hown hts dC dI k0 yb zb cI y z th a1 a2 a3 a4 a5 a6 fo how (v.toInt64 &&& 4294967295) hK _ _ ls hP hD hS (lv_sub hl [0, 4, 2] rfl) (fun H locs ls hls hP hD hS => ?_)
            exact W.iret (v := (s_b232 how (v.toInt64 &&& 4294967295)).1) hx hb hr (fun t ht hW => ⟨⟨(s_b232 how (v.toInt64 &&& 4294967295)).1, ((s_b232 how (v.toInt64 &&& 4294967295)).2), rfl, by simp only [s_M_wrong, if_pos c_1, if_neg c_51, if_pos c_56], by rw [ht]; exact hP, va_K.moved hW.alike hK, hD⟩, hS.F ht⟩) hS.2.2 dM_wrong_309
          · skip
            refine lv_lload hx hb dM_wrong_53 (lv_at hl 0 rfl) ?_
            refine lv_ldc2 (v := 1024) hx hb hown (hts _ mbM_wrong_5) dM_wrong_55 ?_
            refine lv_ldiv hx hb dM_wrong_58 (by decide) ?_
            refine lv_lstore (lv' := [(7, .long ((v.toInt64 &&& 4294967295) / 1024)), (5, .long (v.toInt64 &&& 4294967295)), (4, .int 0), (0, .ref k0), (1, .int v), (2, .int how), (3, .int wd)]) hx hb dM_wrong_59 hl (by decide) rfl (fun ls hl => ?_)
            refine lv_lload hx hb dM_wrong_61 (lv_at hl 0 rfl) ?_
            refine lv_ldc2 (v := 8) hx hb hown (hts _ mbM_wrong_6) dM_wrong_63 ?_
            refine lv_lrem hx hb dM_wrong_66 (by decide) ?_
            refine lv_l2i (v := (((v.toInt64 &&& 4294967295) / 1024) - ((v.toInt64 &&& 4294967295) / 1024) / 8 * 8).toInt32) hx hb dM_wrong_67 rfl ?_
            refine lv_iload_n hx hb dM_wrong_68 rfl (lv_at hl 5 rfl) ?_
            refine lv_if_ne (tgt := 76) hx hb dM_wrong_69 (by decide) (fun c_57 => ?_) (fun c_57 => ?_)
            · skip
              refine lv_bipush (v := 16) hx hb dM_wrong_76 (by decide) ?_
              refine lv_iadd hx hb dM_wrong_78 ?_
              refine lv_istore (lv' := [(9, .int (((((v.toInt64 &&& 4294967295) / 1024) - ((v.toInt64 &&& 4294967295) / 1024) / 8 * 8).toInt32) + 16)), (7, .long ((v.toInt64 &&& 4294967295) / 1024)), (5, .long (v.toInt64 &&& 4294967295)), (4, .int 0), (0, .ref k0), (1, .int v), (2, .int how), (3, .int wd)]) hx hb dM_wrong_79 hl (by decide) rfl (fun ls hl => ?_)
              refine lv_aload_n hx hb dM_wrong_81 rfl (lv_at hl 4 rfl) ?_
              refine va_get (D := (dC, dI)) (ci := 2) (v := .ref zb) (C := RX2) (T := TX2) (N := 10) hx hb hts miM_wrong_X2 hown hK hP 0 rfl rfl 2 (by decide) (hts _ mbM_wrong_7) (fun _ h9 => h9) rfl dM_wrong_82 ?_
              refine lv_iload hx hb dM_wrong_85 (lv_at hl 0 rfl) ?_
              refine va_iald hx hb hK hP 2 0 rfl rfl (in_w v 16 (by decide) _ rfl) dM_wrong_87 ?_
              refine lv_i2l (v := (z (((((v.toInt64 &&& 4294967295) / 1024) - ((v.toInt64 &&& 4294967295) / 1024) / 8 * 8).toInt32) + 16).toNatClampNeg).toInt64) hx hb dM_wrong_88 rfl ?_
              refine lv_ldc2 (v := 4294967295) hx hb hown (hts _ mbM_wrong_4) dM_wrong_89 ?_
              refine lv_land hx hb dM_wrong_92 ?_
              refine lv_lstore (lv' := [(10, .long (((z (((((v.toInt64 &&& 4294967295) / 1024) - ((v.toInt64 &&& 4294967295) / 1024) / 8 * 8).toInt32) + 16).toNatClampNeg).toInt64) &&& 4294967295)), (9, .int (((((v.toInt64 &&& 4294967295) / 1024) - ((v.toInt64 &&& 4294967295) / 1024) / 8 * 8).toInt32) + 16)), (7, .long ((v.toInt64 &&& 4294967295) / 1024)), (5, .long (v.toInt64 &&& 4294967295)), (4, .int 0), (0, .ref k0), (1, .int v), (2, .int how), (3, .int wd)]) hx hb dM_wrong_93 hl (by decide) rfl (fun ls hl => ?_)
              refine lv_aload_n hx hb dM_wrong_95 rfl (lv_at hl 5 rfl) ?_
              refine va_get (D := (dC, dI)) (ci := 2) (v := .ref zb) (C := RX2) (T := TX2) (N := 10) hx hb hts miM_wrong_X2 hown hK hP 0 rfl rfl 2 (by decide) (hts _ mbM_wrong_7) (fun _ h9 => h9) rfl dM_wrong_96 ?_
              refine lv_iload hx hb dM_wrong_99 (lv_at hl 1 rfl) ?_
              refine lv_bipush (v := 8) hx hb dM_wrong_101 (by decide) ?_
              refine lv_iadd hx hb dM_wrong_103 ?_
              refine va_iald hx hb hK hP 2 0 rfl rfl (in_w8 v 16 (by decide) _ rfl) dM_wrong_104 ?_
              refine lv_i2l (v := (z ((((((v.toInt64 &&& 4294967295) / 1024) - ((v.toInt64 &&& 4294967295) / 1024) / 8 * 8).toInt32) + 16) + 8).toNatClampNeg).toInt64) hx hb dM_wrong_105 rfl ?_
              refine lv_ldc2 (v := 4294967295) hx hb hown (hts _ mbM_wrong_4) dM_wrong_106 ?_
              refine lv_land hx hb dM_wrong_109 ?_
              refine lv_lstore (lv' := [(12, .long (((z ((((((v.toInt64 &&& 4294967295) / 1024) - ((v.toInt64 &&& 4294967295) / 1024) / 8 * 8).toInt32) + 16) + 8).toNatClampNeg).toInt64) &&& 4294967295)), (10, .long (((z (((((v.toInt64 &&& 4294967295) / 1024) - ((v.toInt64 &&& 4294967295) / 1024) / 8 * 8).toInt32) + 16).toNatClampNeg).toInt64) &&& 4294967295)), (9, .int (((((v.toInt64 &&& 4294967295) / 1024) - ((v.toInt64 &&& 4294967295) / 1024) / 8 * 8).toInt32) + 16)), (7, .long ((v.toInt64 &&& 4294967295) / 1024)), (5, .long (v.toInt64 &&& 4294967295)), (4, .int 0), (0, .ref k0), (1, .int v), (2, .int how), (3, .int wd)]) hx hb dM_wrong_110 hl (by decide) rfl (fun ls hl => ?_)
              refine lv_lload hx hb dM_wrong_112 (lv_at hl 1 rfl) ?_
              refine lv_ldc2 (v := 2) hx hb hown (hts _ mbM_wrong_8) dM_wrong_114 ?_
              refine lv_lrem hx hb dM_wrong_117 (by decide) ?_
              refine lv_lconst (v := 0) hx hb dM_wrong_118 (by decide) ?_
              refine W.lcmp hx hb dM_wrong_119 ?_
              refine lv_if_eq (tgt := 135) hx hb dM_wrong_120 (by decide) (fun c_58 => ?_) (fun c_58 => ?_)
              · skip
                refine lv_iload_n hx hb dM_wrong_135 rfl (lv_at hl 8 rfl) ?_
                refine lv_if_ne (tgt := 144) hx hb dM_wrong_136 (by decide) (fun c_59 => ?_) (fun c_59 => ?_)
                · skip
                  refine lv_bipush (v := 9) hx hb dM_wrong_144 (by decide) ?_
                  exact W.iret (v := 9) hx hb hr (fun t ht hW => ⟨⟨9, fo, rfl, by simp only [s_M_wrong, if_pos c_1, if_neg c_51, if_neg c_56, if_pos c_58], by rw [ht]; exact hP, va_K.moved hW.alike hK, hD⟩, hS.F ht⟩) hS.2.2 dM_wrong_146
                · exact absurd c_59 c_51
              · skip
                refine lv_lload hx hb dM_wrong_123 (lv_at hl 1 rfl) ?_
                refine lv_ldc2 (v := 1024) hx hb hown (hts _ mbM_wrong_5) dM_wrong_125 ?_
                refine lv_ldiv hx hb dM_wrong_128 (by decide) ?_
                refine lv_lload hx hb dM_wrong_129 (lv_at hl 3 rfl) ?_
                refine W.lcmp hx hb dM_wrong_131 ?_
                refine lv_if_eq (tgt := 147) hx hb dM_wrong_132 (by decide) (fun c_60 => ?_) (fun c_60 => ?_)
                · skip
                  refine lv_iload_n hx hb dM_wrong_147 rfl (lv_at hl 8 rfl) ?_
                  refine lv_iconst (v := 2) hx hb dM_wrong_148 (by decide) ?_
                  refine lv_icmp_ne (tgt := 172) hx hb dM_wrong_149 (by decide) (fun c_61 => ?_) (fun c_61 => ?_)
                  · skip
                    refine lv_aload_n hx hb dM_wrong_172 rfl (lv_at hl 6 rfl) ?_
                    refine lv_iconst (v := 1) hx hb dM_wrong_173 (by decide) ?_
                    have hPc := hP.sub (ws' := [(k0, .inr (2, [.int th, .ref yb, .ref zb, .int a1, .int a2, .int a3, .int a4, .int a5, .int a6, .int fo])), (yb, .inl (cI, 65536, .inl y)), (zb, .inl (cI, 33, .inl z))]) [0, 1, 2] rfl
                    have hKc := hK.sub (tys' := [(cI, .int)]) [0] rfl
                    refine vp_callSi (va_Run.run (va_runV (As := [.int 1]) (rest := []) ⟨hx, hb, hml, hown, hts⟩ (c_M_mode l dC dI k0 yb zb cI y z th a1 a2 a3 a4 a5 a6 fo 1 (by decide)) (cwV 1 hts gM_wrong_M_mode rfl rfl rfl (by decide +kernel) ⟨Nat.le_of_ble_eq_true rfl, Nat.le_of_ble_eq_true rfl⟩) ⟨fun a U g mk q => by obtain ⟨q0, qP, qK⟩ := q; exact ⟨q0, qP, va_K.moved (u := U) (U := U.calling g mk a) (Vm.Alike.refl U.vm) qK⟩, va_recv hKc hPc (ci := 2) (q0 := 0) rfl rfl, fun U hU hW => ⟨rfl, by rw [hU]; exact hPc, va_K.moved hW.alike hKc⟩⟩ rfl rfl hl.1 rfl (lv_room (Nat.le_of_ble_eq_true rfl)) dM_wrong_174 ⟨Nat.le_of_ble_eq_true rfl, Nat.le_of_ble_eq_true rfl⟩)) (fun r_62 hw_63 => ?_)
                    subst hw_63
                    refine lv_if_eq (tgt := 186) hx hb dM_wrong_177 (by decide) (fun c_64 => ?_) (fun c_64 => ?_)
                    · skip
                      refine lv_lconst (v := 1) hx hb dM_wrong_186 (by decide) ?_
                      refine lv_lstore (lv' := [(14, .long 1), (12, .long (((z ((((((v.toInt64 &&& 4294967295) / 1024) - ((v.toInt64 &&& 4294967295) / 1024) / 8 * 8).toInt32) + 16) + 8).toNatClampNeg).toInt64) &&& 4294967295)), (10, .long (((z (((((v.toInt64 &&& 4294967295) / 1024) - ((v.toInt64 &&& 4294967295) / 1024) / 8 * 8).toInt32) + 16).toNatClampNeg).toInt64) &&& 4294967295)), (9, .int (((((v.toInt64 &&& 4294967295) / 1024) - ((v.toInt64 &&& 4294967295) / 1024) / 8 * 8).toInt32) + 16)), (7, .long ((v.toInt64 &&& 4294967295) / 1024)), (5, .long (v.toInt64 &&& 4294967295)), (4, .int 0), (0, .ref k0), (1, .int v), (2, .int how), (3, .int wd)]) hx hb dM_wrong_187 hl (by decide) rfl (fun ls hl => ?_)
                      refine lv_lload hx hb dM_wrong_189 (lv_at hl 1 rfl) ?_
                      refine lv_lload hx hb dM_wrong_191 (lv_at hl 0 rfl) ?_
                      refine lv_ldiv hx hb dM_wrong_193 (by decide) ?_
                      refine lv_ldc2 (v := 2) hx hb hown (hts _ mbM_wrong_8) dM_wrong_194 ?_
                      refine lv_lrem hx hb dM_wrong_197 (by decide) ?_
                      refine lv_lconst (v := 0) hx hb dM_wrong_198 (by decide) ?_
                      refine W.lcmp hx hb dM_wrong_199 ?_
                      refine lv_if_ne (tgt := 213) hx hb dM_wrong_200 (by decide) (fun c_65 => ?_) (fun c_65 => ?_)
                      · skip
                        refine lv_lload hx hb dM_wrong_213 (lv_at hl 1 rfl) ?_
                        refine lv_ldc2 (v := 1024) hx hb hown (hts _ mbM_wrong_5) dM_wrong_215 ?_
                        refine lv_ldiv hx hb dM_wrong_218 (by decide) ?_
                        refine lv_ldc2 (v := 1024) hx hb hown (hts _ mbM_wrong_5) dM_wrong_219 ?_
                        refine lv_lmul hx hb dM_wrong_222 ?_
                        refine lv_lload hx hb dM_wrong_223 (lv_at hl 5 rfl) ?_
                        refine lv_ldc2 (v := 1024) hx hb hown (hts _ mbM_wrong_5) dM_wrong_225 ?_
                        refine lv_lrem hx hb dM_wrong_228 (by decide) ?_
                        refine lv_ladd hx hb dM_wrong_229 ?_
                        refine lv_lstore (lv' := [(5, .long ((((((z ((((((v.toInt64 &&& 4294967295) / 1024) - ((v.toInt64 &&& 4294967295) / 1024) / 8 * 8).toInt32) + 16) + 8).toNatClampNeg).toInt64) &&& 4294967295) / 1024) * 1024) + ((v.toInt64 &&& 4294967295) - (v.toInt64 &&& 4294967295) / 1024 * 1024))), (14, .long 1), (12, .long (((z ((((((v.toInt64 &&& 4294967295) / 1024) - ((v.toInt64 &&& 4294967295) / 1024) / 8 * 8).toInt32) + 16) + 8).toNatClampNeg).toInt64) &&& 4294967295)), (10, .long (((z (((((v.toInt64 &&& 4294967295) / 1024) - ((v.toInt64 &&& 4294967295) / 1024) / 8 * 8).toInt32) + 16).toNatClampNeg).toInt64) &&& 4294967295)), (9, .int (((((v.toInt64 &&& 4294967295) / 1024) - ((v.toInt64 &&& 4294967295) / 1024) / 8 * 8).toInt32) + 16)), (7, .long ((v.toInt64 &&& 4294967295) / 1024)), (4, .int 0), (0, .ref k0), (1, .int v), (2, .int how), (3, .int wd)]) hx hb dM_wrong_230 hl (by decide) rfl (fun ls hl => ?_)
                        refine b_M_wrong hx hb hown hts dC dI k0 yb zb cI y z th a1 a2 a3 a4 a5 a6 fo how ((((((z ((((((v.toInt64 &&& 4294967295) / 1024) - ((v.toInt64 &&& 4294967295) / 1024) / 8 * 8).toInt32) + 16) + 8).toNatClampNeg).toInt64) &&& 4294967295) / 1024) * 1024) + ((v.toInt64 &&& 4294967295) - (v.toInt64 &&& 4294967295) / 1024 * 1024)) hK _ _ ls hP hD hS (lv_sub hl [0, 9, 7] rfl) (fun H locs ls hls hP hD hS => ?_)
                        exact W.iret (v := (s_b232 how ((((((z ((((((v.toInt64 &&& 4294967295) / 1024) - ((v.toInt64 &&& 4294967295) / 1024) / 8 * 8).toInt32) + 16) + 8).toNatClampNeg).toInt64) &&& 4294967295) / 1024) * 1024) + ((v.toInt64 &&& 4294967295) - (v.toInt64 &&& 4294967295) / 1024 * 1024))).1) hx hb hr (fun t ht hW => ⟨⟨(s_b232 how ((((((z ((((((v.toInt64 &&& 4294967295) / 1024) - ((v.toInt64 &&& 4294967295) / 1024) / 8 * 8).toInt32) + 16) + 8).toNatClampNeg).toInt64) &&& 4294967295) / 1024) * 1024) + ((v.toInt64 &&& 4294967295) - (v.toInt64 &&& 4294967295) / 1024 * 1024))).1, ((s_b232 how ((((((z ((((((v.toInt64 &&& 4294967295) / 1024) - ((v.toInt64 &&& 4294967295) / 1024) / 8 * 8).toInt32) + 16) + 8).toNatClampNeg).toInt64) &&& 4294967295) / 1024) * 1024) + ((v.toInt64 &&& 4294967295) - (v.toInt64 &&& 4294967295) / 1024 * 1024))).2), rfl, by simp only [s_M_wrong, if_pos c_1, if_neg c_51, if_neg c_56, if_neg c_58, if_pos c_60, if_neg c_61, if_pos c_64, if_neg c_65], by rw [ht]; exact hP, va_K.moved hW.alike hK, hD⟩, hS.F ht⟩) hS.2.2 dM_wrong_309
                      · skip
                        refine lv_iload_n hx hb dM_wrong_203 rfl (lv_at hl 9 rfl) ?_
                        refine lv_if_ne (tgt := 211) hx hb dM_wrong_204 (by decide) (fun c_66 => ?_) (fun c_66 => ?_)
                        · skip
                          refine lv_iconst (v := 3) hx hb dM_wrong_211 (by decide) ?_
                          exact W.iret (v := 3) hx hb hr (fun t ht hW => ⟨⟨3, fo, rfl, by simp only [s_M_wrong, if_pos c_1, if_neg c_51, if_neg c_56, if_neg c_58, if_pos c_60, if_neg c_61, if_pos c_64, if_pos c_65], by rw [ht]; exact hP, va_K.moved hW.alike hK, hD⟩, hS.F ht⟩) hS.2.2 dM_wrong_212
                        · exact absurd c_66 c_51
                    · skip
                      refine lv_ldc2 (v := 4) hx hb hown (hts _ mbM_wrong_9) dM_wrong_180 ?_
                      refine lv_goto (tgt := 187) hx hb dM_wrong_183 (by decide) ?_
                      refine lv_lstore (lv' := [(14, .long 4), (12, .long (((z ((((((v.toInt64 &&& 4294967295) / 1024) - ((v.toInt64 &&& 4294967295) / 1024) / 8 * 8).toInt32) + 16) + 8).toNatClampNeg).toInt64) &&& 4294967295)), (10, .long (((z (((((v.toInt64 &&& 4294967295) / 1024) - ((v.toInt64 &&& 4294967295) / 1024) / 8 * 8).toInt32) + 16).toNatClampNeg).toInt64) &&& 4294967295)), (9, .int (((((v.toInt64 &&& 4294967295) / 1024) - ((v.toInt64 &&& 4294967295) / 1024) / 8 * 8).toInt32) + 16)), (7, .long ((v.toInt64 &&& 4294967295) / 1024)), (5, .long (v.toInt64 &&& 4294967295)), (4, .int 0), (0, .ref k0), (1, .int v), (2, .int how), (3, .int wd)]) hx hb dM_wrong_187 hl (by decide) rfl (fun ls hl => ?_)
                      refine lv_lload hx hb dM_wrong_189 (lv_at hl 1 rfl) ?_
                      refine lv_lload hx hb dM_wrong_191 (lv_at hl 0 rfl) ?_
                      refine lv_ldiv hx hb dM_wrong_193 (by decide) ?_
                      refine lv_ldc2 (v := 2) hx hb hown (hts _ mbM_wrong_8) dM_wrong_194 ?_
                      refine lv_lrem hx hb dM_wrong_197 (by decide) ?_
                      refine lv_lconst (v := 0) hx hb dM_wrong_198 (by decide) ?_
                      refine W.lcmp hx hb dM_wrong_199 ?_
                      refine lv_if_ne (tgt := 213) hx hb dM_wrong_200 (by decide) (fun c_67 => ?_) (fun c_67 => ?_)
                      · skip
                        refine lv_lload hx hb dM_wrong_213 (lv_at hl 1 rfl) ?_
                        refine lv_ldc2 (v := 1024) hx hb hown (hts _ mbM_wrong_5) dM_wrong_215 ?_
                        refine lv_ldiv hx hb dM_wrong_218 (by decide) ?_
                        refine lv_ldc2 (v := 1024) hx hb hown (hts _ mbM_wrong_5) dM_wrong_219 ?_
                        refine lv_lmul hx hb dM_wrong_222 ?_
                        refine lv_lload hx hb dM_wrong_223 (lv_at hl 5 rfl) ?_
                        refine lv_ldc2 (v := 1024) hx hb hown (hts _ mbM_wrong_5) dM_wrong_225 ?_
                        refine lv_lrem hx hb dM_wrong_228 (by decide) ?_
                        refine lv_ladd hx hb dM_wrong_229 ?_
                        refine lv_lstore (lv' := [(5, .long ((((((z ((((((v.toInt64 &&& 4294967295) / 1024) - ((v.toInt64 &&& 4294967295) / 1024) / 8 * 8).toInt32) + 16) + 8).toNatClampNeg).toInt64) &&& 4294967295) / 1024) * 1024) + ((v.toInt64 &&& 4294967295) - (v.toInt64 &&& 4294967295) / 1024 * 1024))), (14, .long 4), (12, .long (((z ((((((v.toInt64 &&& 4294967295) / 1024) - ((v.toInt64 &&& 4294967295) / 1024) / 8 * 8).toInt32) + 16) + 8).toNatClampNeg).toInt64) &&& 4294967295)), (10, .long (((z (((((v.toInt64 &&& 4294967295) / 1024) - ((v.toInt64 &&& 4294967295) / 1024) / 8 * 8).toInt32) + 16).toNatClampNeg).toInt64) &&& 4294967295)), (9, .int (((((v.toInt64 &&& 4294967295) / 1024) - ((v.toInt64 &&& 4294967295) / 1024) / 8 * 8).toInt32) + 16)), (7, .long ((v.toInt64 &&& 4294967295) / 1024)), (4, .int 0), (0, .ref k0), (1, .int v), (2, .int how), (3, .int wd)]) hx hb dM_wrong_230 hl (by decide) rfl (fun ls hl => ?_)
                        refine b_M_wrong hx hb hown hts dC dI k0 yb zb cI y z th a1 a2 a3 a4 a5 a6 fo how ((((((z ((((((v.toInt64 &&& 4294967295) / 1024) - ((v.toInt64 &&& 4294967295) / 1024) / 8 * 8).toInt32) + 16) + 8).toNatClampNeg).toInt64) &&& 4294967295) / 1024) * 1024) + ((v.toInt64 &&& 4294967295) - (v.toInt64 &&& 4294967295) / 1024 * 1024)) hK _ _ ls hP hD hS (lv_sub hl [0, 9, 7] rfl) (fun H locs ls hls hP hD hS => ?_)
                        exact W.iret (v := (s_b232 how ((((((z ((((((v.toInt64 &&& 4294967295) / 1024) - ((v.toInt64 &&& 4294967295) / 1024) / 8 * 8).toInt32) + 16) + 8).toNatClampNeg).toInt64) &&& 4294967295) / 1024) * 1024) + ((v.toInt64 &&& 4294967295) - (v.toInt64 &&& 4294967295) / 1024 * 1024))).1) hx hb hr (fun t ht hW => ⟨⟨(s_b232 how ((((((z ((((((v.toInt64 &&& 4294967295) / 1024) - ((v.toInt64 &&& 4294967295) / 1024) / 8 * 8).toInt32) + 16) + 8).toNatClampNeg).toInt64) &&& 4294967295) / 1024) * 1024) + ((v.toInt64 &&& 4294967295) - (v.toInt64 &&& 4294967295) / 1024 * 1024))).1, ((s_b232 how ((((((z ((((((v.toInt64 &&& 4294967295) / 1024) - ((v.toInt64 &&& 4294967295) / 1024) / 8 * 8).toInt32) + 16) + 8).toNatClampNeg).toInt64) &&& 4294967295) / 1024) * 1024) + ((v.toInt64 &&& 4294967295) - (v.toInt64 &&& 4294967295) / 1024 * 1024))).2), rfl, by simp only [s_M_wrong, if_pos c_1, if_neg c_51, if_neg c_56, if_neg c_58, if_pos c_60, if_neg c_61, if_neg c_64, if_neg c_67], by rw [ht]; exact hP, va_K.moved hW.alike hK, hD⟩, hS.F ht⟩) hS.2.2 dM_wrong_309
                      · skip
                        refine lv_iload_n hx hb dM_wrong_203 rfl (lv_at hl 9 rfl) ?_
                        refine lv_if_ne (tgt := 211) hx hb dM_wrong_204 (by decide) (fun c_68 => ?_) (fun c_68 => ?_)
                        · skip
                          refine lv_iconst (v := 3) hx hb dM_wrong_211 (by decide) ?_
                          exact W.iret (v := 3) hx hb hr (fun t ht hW => ⟨⟨3, fo, rfl, by simp only [s_M_wrong, if_pos c_1, if_neg c_51, if_neg c_56, if_neg c_58, if_pos c_60, if_neg c_61, if_neg c_64, if_pos c_67], by rw [ht]; exact hP, va_K.moved hW.alike hK, hD⟩, hS.F ht⟩) hS.2.2 dM_wrong_212
                        · exact absurd c_68 c_51
                  · skip
                    refine lv_aload_n hx hb dM_wrong_152 rfl (lv_at hl 6 rfl) ?_
                    refine lv_iconst (v := 1) hx hb dM_wrong_153 (by decide) ?_
                    have hPc := hP.sub (ws' := [(k0, .inr (2, [.int th, .ref yb, .ref zb, .int a1, .int a2, .int a3, .int a4, .int a5, .int a6, .int fo])), (yb, .inl (cI, 65536, .inl y)), (zb, .inl (cI, 33, .inl z))]) [0, 1, 2] rfl
                    have hKc := hK.sub (tys' := [(cI, .int)]) [0] rfl
                    refine vp_callSi (va_Run.run (va_runV (As := [.int 1]) (rest := []) ⟨hx, hb, hml, hown, hts⟩ (c_M_mode l dC dI k0 yb zb cI y z th a1 a2 a3 a4 a5 a6 fo 1 (by decide)) (cwV 1 hts gM_wrong_M_mode rfl rfl rfl (by decide +kernel) ⟨Nat.le_of_ble_eq_true rfl, Nat.le_of_ble_eq_true rfl⟩) ⟨fun a U g mk q => by obtain ⟨q0, qP, qK⟩ := q; exact ⟨q0, qP, va_K.moved (u := U) (U := U.calling g mk a) (Vm.Alike.refl U.vm) qK⟩, va_recv hKc hPc (ci := 2) (q0 := 0) rfl rfl, fun U hU hW => ⟨rfl, by rw [hU]; exact hPc, va_K.moved hW.alike hKc⟩⟩ rfl rfl hl.1 rfl (lv_room (Nat.le_of_ble_eq_true rfl)) dM_wrong_154 ⟨Nat.le_of_ble_eq_true rfl, Nat.le_of_ble_eq_true rfl⟩)) (fun r_69 hw_70 => ?_)
                    subst hw_70
                    refine lv_if_eq (tgt := 166) hx hb dM_wrong_157 (by decide) (fun c_71 => ?_) (fun c_71 => ?_)
                    · skip
                      refine lv_ldc2 (v := 2) hx hb hown (hts _ mbM_wrong_8) dM_wrong_166 ?_
                      refine lv_goto (tgt := 187) hx hb dM_wrong_169 (by decide) ?_
                      refine lv_lstore (lv' := [(14, .long 2), (12, .long (((z ((((((v.toInt64 &&& 4294967295) / 1024) - ((v.toInt64 &&& 4294967295) / 1024) / 8 * 8).toInt32) + 16) + 8).toNatClampNeg).toInt64) &&& 4294967295)), (10, .long (((z (((((v.toInt64 &&& 4294967295) / 1024) - ((v.toInt64 &&& 4294967295) / 1024) / 8 * 8).toInt32) + 16).toNatClampNeg).toInt64) &&& 4294967295)), (9, .int (((((v.toInt64 &&& 4294967295) / 1024) - ((v.toInt64 &&& 4294967295) / 1024) / 8 * 8).toInt32) + 16)), (7, .long ((v.toInt64 &&& 4294967295) / 1024)), (5, .long (v.toInt64 &&& 4294967295)), (4, .int 0), (0, .ref k0), (1, .int v), (2, .int how), (3, .int wd)]) hx hb dM_wrong_187 hl (by decide) rfl (fun ls hl => ?_)
                      refine lv_lload hx hb dM_wrong_189 (lv_at hl 1 rfl) ?_
                      refine lv_lload hx hb dM_wrong_191 (lv_at hl 0 rfl) ?_
                      refine lv_ldiv hx hb dM_wrong_193 (by decide) ?_
                      refine lv_ldc2 (v := 2) hx hb hown (hts _ mbM_wrong_8) dM_wrong_194 ?_
                      refine lv_lrem hx hb dM_wrong_197 (by decide) ?_
                      refine lv_lconst (v := 0) hx hb dM_wrong_198 (by decide) ?_
                      refine W.lcmp hx hb dM_wrong_199 ?_
                      refine lv_if_ne (tgt := 213) hx hb dM_wrong_200 (by decide) (fun c_72 => ?_) (fun c_72 => ?_)
                      · skip
                        refine lv_lload hx hb dM_wrong_213 (lv_at hl 1 rfl) ?_
                        refine lv_ldc2 (v := 1024) hx hb hown (hts _ mbM_wrong_5) dM_wrong_215 ?_
                        refine lv_ldiv hx hb dM_wrong_218 (by decide) ?_
                        refine lv_ldc2 (v := 1024) hx hb hown (hts _ mbM_wrong_5) dM_wrong_219 ?_
                        refine lv_lmul hx hb dM_wrong_222 ?_
                        refine lv_lload hx hb dM_wrong_223 (lv_at hl 5 rfl) ?_
                        refine lv_ldc2 (v := 1024) hx hb hown (hts _ mbM_wrong_5) dM_wrong_225 ?_
                        refine lv_lrem hx hb dM_wrong_228 (by decide) ?_
                        refine lv_ladd hx hb dM_wrong_229 ?_
                        refine lv_lstore (lv' := [(5, .long ((((((z ((((((v.toInt64 &&& 4294967295) / 1024) - ((v.toInt64 &&& 4294967295) / 1024) / 8 * 8).toInt32) + 16) + 8).toNatClampNeg).toInt64) &&& 4294967295) / 1024) * 1024) + ((v.toInt64 &&& 4294967295) - (v.toInt64 &&& 4294967295) / 1024 * 1024))), (14, .long 2), (12, .long (((z ((((((v.toInt64 &&& 4294967295) / 1024) - ((v.toInt64 &&& 4294967295) / 1024) / 8 * 8).toInt32) + 16) + 8).toNatClampNeg).toInt64) &&& 4294967295)), (10, .long (((z (((((v.toInt64 &&& 4294967295) / 1024) - ((v.toInt64 &&& 4294967295) / 1024) / 8 * 8).toInt32) + 16).toNatClampNeg).toInt64) &&& 4294967295)), (9, .int (((((v.toInt64 &&& 4294967295) / 1024) - ((v.toInt64 &&& 4294967295) / 1024) / 8 * 8).toInt32) + 16)), (7, .long ((v.toInt64 &&& 4294967295) / 1024)), (4, .int 0), (0, .ref k0), (1, .int v), (2, .int how), (3, .int wd)]) hx hb dM_wrong_230 hl (by decide) rfl (fun ls hl => ?_)
                        refine b_M_wrong hx hb hown hts dC dI k0 yb zb cI y z th a1 a2 a3 a4 a5 a6 fo how ((((((z ((((((v.toInt64 &&& 4294967295) / 1024) - ((v.toInt64 &&& 4294967295) / 1024) / 8 * 8).toInt32) + 16) + 8).toNatClampNeg).toInt64) &&& 4294967295) / 1024) * 1024) + ((v.toInt64 &&& 4294967295) - (v.toInt64 &&& 4294967295) / 1024 * 1024)) hK _ _ ls hP hD hS (lv_sub hl [0, 9, 7] rfl) (fun H locs ls hls hP hD hS => ?_)
                        exact W.iret (v := (s_b232 how ((((((z ((((((v.toInt64 &&& 4294967295) / 1024) - ((v.toInt64 &&& 4294967295) / 1024) / 8 * 8).toInt32) + 16) + 8).toNatClampNeg).toInt64) &&& 4294967295) / 1024) * 1024) + ((v.toInt64 &&& 4294967295) - (v.toInt64 &&& 4294967295) / 1024 * 1024))).1) hx hb hr (fun t ht hW => ⟨⟨(s_b232 how ((((((z ((((((v.toInt64 &&& 4294967295) / 1024) - ((v.toInt64 &&& 4294967295) / 1024) / 8 * 8).toInt32) + 16) + 8).toNatClampNeg).toInt64) &&& 4294967295) / 1024) * 1024) + ((v.toInt64 &&& 4294967295) - (v.toInt64 &&& 4294967295) / 1024 * 1024))).1, ((s_b232 how ((((((z ((((((v.toInt64 &&& 4294967295) / 1024) - ((v.toInt64 &&& 4294967295) / 1024) / 8 * 8).toInt32) + 16) + 8).toNatClampNeg).toInt64) &&& 4294967295) / 1024) * 1024) + ((v.toInt64 &&& 4294967295) - (v.toInt64 &&& 4294967295) / 1024 * 1024))).2), rfl, by simp only [s_M_wrong, if_pos c_1, if_neg c_51, if_neg c_56, if_neg c_58, if_pos c_60, if_pos c_61, if_pos c_71, if_neg c_72], by rw [ht]; exact hP, va_K.moved hW.alike hK, hD⟩, hS.F ht⟩) hS.2.2 dM_wrong_309
                      · skip
                        refine lv_iload_n hx hb dM_wrong_203 rfl (lv_at hl 9 rfl) ?_
                        refine lv_if_ne (tgt := 211) hx hb dM_wrong_204 (by decide) (fun c_73 => ?_) (fun c_73 => ?_)
                        · skip
                          refine lv_iconst (v := 3) hx hb dM_wrong_211 (by decide) ?_
                          exact W.iret (v := 3) hx hb hr (fun t ht hW => ⟨⟨3, fo, rfl, by simp only [s_M_wrong, if_pos c_1, if_neg c_51, if_neg c_56, if_neg c_58, if_pos c_60, if_pos c_61, if_pos c_71, if_pos c_72], by rw [ht]; exact hP, va_K.moved hW.alike hK, hD⟩, hS.F ht⟩) hS.2.2 dM_wrong_212
                        · exact absurd c_73 c_51
                    · skip
                      refine lv_ldc2 (v := 8) hx hb hown (hts _ mbM_wrong_6) dM_wrong_160 ?_
                      refine lv_goto (tgt := 187) hx hb dM_wrong_163 (by decide) ?_
                      refine lv_lstore (lv' := [(14, .long 8), (12, .long (((z ((((((v.toInt64 &&& 4294967295) / 1024) - ((v.toInt64 &&& 4294967295) / 1024) / 8 * 8).toInt32) + 16) + 8).toNatClampNeg).toInt64) &&& 4294967295)), (10, .long (((z (((((v.toInt64 &&& 4294967295) / 1024) - ((v.toInt64 &&& 4294967295) / 1024) / 8 * 8).toInt32) + 16).toNatClampNeg).toInt64) &&& 4294967295)), (9, .int (((((v.toInt64 &&& 4294967295) / 1024) - ((v.toInt64 &&& 4294967295) / 1024) / 8 * 8).toInt32) + 16)), (7, .long ((v.toInt64 &&& 4294967295) / 1024)), (5, .long (v.toInt64 &&& 4294967295)), (4, .int 0), (0, .ref k0), (1, .int v), (2, .int how), (3, .int wd)]) hx hb dM_wrong_187 hl (by decide) rfl (fun ls hl => ?_)
                      refine lv_lload hx hb dM_wrong_189 (lv_at hl 1 rfl) ?_
                      refine lv_lload hx hb dM_wrong_191 (lv_at hl 0 rfl) ?_
                      refine lv_ldiv hx hb dM_wrong_193 (by decide) ?_
                      refine lv_ldc2 (v := 2) hx hb hown (hts _ mbM_wrong_8) dM_wrong_194 ?_
                      refine lv_lrem hx hb dM_wrong_197 (by decide) ?_
                      refine lv_lconst (v := 0) hx hb dM_wrong_198 (by decide) ?_
                      refine W.lcmp hx hb dM_wrong_199 ?_
                      refine lv_if_ne (tgt := 213) hx hb dM_wrong_200 (by decide) (fun c_74 => ?_) (fun c_74 => ?_)
                      · skip
                        refine lv_lload hx hb dM_wrong_213 (lv_at hl 1 rfl) ?_
                        refine lv_ldc2 (v := 1024) hx hb hown (hts _ mbM_wrong_5) dM_wrong_215 ?_
                        refine lv_ldiv hx hb dM_wrong_218 (by decide) ?_
                        refine lv_ldc2 (v := 1024) hx hb hown (hts _ mbM_wrong_5) dM_wrong_219 ?_
                        refine lv_lmul hx hb dM_wrong_222 ?_
                        refine lv_lload hx hb dM_wrong_223 (lv_at hl 5 rfl) ?_
                        refine lv_ldc2 (v := 1024) hx hb hown (hts _ mbM_wrong_5) dM_wrong_225 ?_
                        refine lv_lrem hx hb dM_wrong_228 (by decide) ?_
                        refine lv_ladd hx hb dM_wrong_229 ?_
                        refine lv_lstore (lv' := [(5, .long ((((((z ((((((v.toInt64 &&& 4294967295) / 1024) - ((v.toInt64 &&& 4294967295) / 1024) / 8 * 8).toInt32) + 16) + 8).toNatClampNeg).toInt64) &&& 4294967295) / 1024) * 1024) + ((v.toInt64 &&& 4294967295) - (v.toInt64 &&& 4294967295) / 1024 * 1024))), (14, .long 8), (12, .long (((z ((((((v.toInt64 &&& 4294967295) / 1024) - ((v.toInt64 &&& 4294967295) / 1024) / 8 * 8).toInt32) + 16) + 8).toNatClampNeg).toInt64) &&& 4294967295)), (10, .long (((z (((((v.toInt64 &&& 4294967295) / 1024) - ((v.toInt64 &&& 4294967295) / 1024) / 8 * 8).toInt32) + 16).toNatClampNeg).toInt64) &&& 4294967295)), (9, .int (((((v.toInt64 &&& 4294967295) / 1024) - ((v.toInt64 &&& 4294967295) / 1024) / 8 * 8).toInt32) + 16)), (7, .long ((v.toInt64 &&& 4294967295) / 1024)), (4, .int 0), (0, .ref k0), (1, .int v), (2, .int how), (3, .int wd)]) hx hb dM_wrong_230 hl (by decide) rfl (fun ls hl => ?_)
                        refine b_M_wrong hx hb hown hts dC dI k0 yb zb cI y z th a1 a2 a3 a4 a5 a6 fo how ((((((z ((((((v.toInt64 &&& 4294967295) / 1024) - ((v.toInt64 &&& 4294967295) / 1024) / 8 * 8).toInt32) + 16) + 8).toNatClampNeg).toInt64) &&& 4294967295) / 1024) * 1024) + ((v.toInt64 &&& 4294967295) - (v.toInt64 &&& 4294967295) / 1024 * 1024)) hK _ _ ls hP hD hS (lv_sub hl [0, 9, 7] rfl) (fun H locs ls hls hP hD hS => ?_)
                        exact W.iret (v := (s_b232 how ((((((z ((((((v.toInt64 &&& 4294967295) / 1024) - ((v.toInt64 &&& 4294967295) / 1024) / 8 * 8).toInt32) + 16) + 8).toNatClampNeg).toInt64) &&& 4294967295) / 1024) * 1024) + ((v.toInt64 &&& 4294967295) - (v.toInt64 &&& 4294967295) / 1024 * 1024))).1) hx hb hr (fun t ht hW => ⟨⟨(s_b232 how ((((((z ((((((v.toInt64 &&& 4294967295) / 1024) - ((v.toInt64 &&& 4294967295) / 1024) / 8 * 8).toInt32) + 16) + 8).toNatClampNeg).toInt64) &&& 4294967295) / 1024) * 1024) + ((v.toInt64 &&& 4294967295) - (v.toInt64 &&& 4294967295) / 1024 * 1024))).1, ((s_b232 how ((((((z ((((((v.toInt64 &&& 4294967295) / 1024) - ((v.toInt64 &&& 4294967295) / 1024) / 8 * 8).toInt32) + 16) + 8).toNatClampNeg).toInt64) &&& 4294967295) / 1024) * 1024) + ((v.toInt64 &&& 4294967295) - (v.toInt64 &&& 4294967295) / 1024 * 1024))).2), rfl, by simp only [s_M_wrong, if_pos c_1, if_neg c_51, if_neg c_56, if_neg c_58, if_pos c_60, if_pos c_61, if_neg c_71, if_neg c_74], by rw [ht]; exact hP, va_K.moved hW.alike hK, hD⟩, hS.F ht⟩) hS.2.2 dM_wrong_309
                      · skip
                        refine lv_iload_n hx hb dM_wrong_203 rfl (lv_at hl 9 rfl) ?_
                        refine lv_if_ne (tgt := 211) hx hb dM_wrong_204 (by decide) (fun c_75 => ?_) (fun c_75 => ?_)
                        · skip
                          refine lv_iconst (v := 3) hx hb dM_wrong_211 (by decide) ?_
                          exact W.iret (v := 3) hx hb hr (fun t ht hW => ⟨⟨3, fo, rfl, by simp only [s_M_wrong, if_pos c_1, if_neg c_51, if_neg c_56, if_neg c_58, if_pos c_60, if_pos c_61, if_neg c_71, if_pos c_74], by rw [ht]; exact hP, va_K.moved hW.alike hK, hD⟩, hS.F ht⟩) hS.2.2 dM_wrong_212
                        · exact absurd c_75 c_51
                · skip
                  refine lv_iload_n hx hb dM_wrong_135 rfl (lv_at hl 8 rfl) ?_
                  refine lv_if_ne (tgt := 144) hx hb dM_wrong_136 (by decide) (fun c_76 => ?_) (fun c_76 => ?_)
                  · skip
                    refine lv_bipush (v := 9) hx hb dM_wrong_144 (by decide) ?_
                    exact W.iret (v := 9) hx hb hr (fun t ht hW => ⟨⟨9, fo, rfl, by simp only [s_M_wrong, if_pos c_1, if_neg c_51, if_neg c_56, if_neg c_58, if_neg c_60], by rw [ht]; exact hP, va_K.moved hW.alike hK, hD⟩, hS.F ht⟩) hS.2.2 dM_wrong_146
                  · exact absurd c_76 c_51
            · exact absurd c_57 c_51
        · exact absurd c_53 c_51
      · exact absurd c_52 (by decide)
    · skip
      refine lv_iconst (v := 1) hx hb dM_wrong_8 (by decide) ?_
      refine lv_goto (tgt := 13) hx hb dM_wrong_9 (by decide) ?_
      refine lv_istore (lv' := [(4, .int 1), (0, .ref k0), (1, .int v), (2, .int how), (3, .int wd)]) hx hb dM_wrong_13 hl (by decide) rfl (fun ls hl => ?_)
      refine lv_iload hx hb dM_wrong_15 (lv_at hl 0 rfl) ?_
      refine lv_if_eq (tgt := 29) hx hb dM_wrong_17 (by decide) (fun c_77 => ?_) (fun c_77 => ?_)
      · exact absurd c_77 (by decide)
      · skip
        refine lv_iload_n hx hb dM_wrong_20 rfl (lv_at hl 2 rfl) ?_
        refine lv_iconst (v := 3) hx hb dM_wrong_21 (by decide) ?_
        refine lv_iand hx hb dM_wrong_22 ?_
        refine lv_if_eq (tgt := 29) hx hb dM_wrong_23 (by decide) (fun c_78 => ?_) (fun c_78 => ?_)
        · skip
          refine lv_iload_n hx hb dM_wrong_29 rfl (lv_at hl 2 rfl) ?_
          refine lv_i2l (v := v.toInt64) hx hb dM_wrong_30 rfl ?_
          refine lv_ldc2 (v := 4294967295) hx hb hown (hts _ mbM_wrong_4) dM_wrong_31 ?_
          refine lv_land hx hb dM_wrong_34 ?_
          refine lv_lstore (lv' := [(5, .long (v.toInt64 &&& 4294967295)), (4, .int 1), (0, .ref k0), (1, .int v), (2, .int how), (3, .int wd)]) hx hb dM_wrong_35 hl (by decide) rfl (fun ls hl => ?_)
          refine lv_aload_n hx hb dM_wrong_37 rfl (lv_at hl 2 rfl) ?_
          refine lv_iload_n hx hb dM_wrong_38 rfl (lv_at hl 4 rfl) ?_
          refine lv_if_ne (tgt := 46) hx hb dM_wrong_39 (by decide) (fun c_79 => ?_) (fun c_79 => ?_)
          · exact absurd c_51 c_79
          · skip
            refine lv_iconst (v := 2) hx hb dM_wrong_42 (by decide) ?_
            refine lv_goto (tgt := 47) hx hb dM_wrong_43 (by decide) ?_
            have hPc := hP.sub (ws' := [(k0, .inr (2, [.int th, .ref yb, .ref zb, .int a1, .int a2, .int a3, .int a4, .int a5, .int a6, .int fo])), (yb, .inl (cI, 65536, .inl y)), (zb, .inl (cI, 33, .inl z))]) [0, 1, 2] rfl
            have hKc := hK.sub (tys' := [(cI, .int)]) [0] rfl
            refine vp_callSi (va_Run.run (va_runV (As := [.int 2]) (rest := []) ⟨hx, hb, hml, hown, hts⟩ (c_M_mode l dC dI k0 yb zb cI y z th a1 a2 a3 a4 a5 a6 fo 2 (by decide)) (cwV 1 hts gM_wrong_M_mode rfl rfl rfl (by decide +kernel) ⟨Nat.le_of_ble_eq_true rfl, Nat.le_of_ble_eq_true rfl⟩) ⟨fun a U g mk q => by obtain ⟨q0, qP, qK⟩ := q; exact ⟨q0, qP, va_K.moved (u := U) (U := U.calling g mk a) (Vm.Alike.refl U.vm) qK⟩, va_recv hKc hPc (ci := 2) (q0 := 0) rfl rfl, fun U hU hW => ⟨rfl, by rw [hU]; exact hPc, va_K.moved hW.alike hKc⟩⟩ rfl rfl hl.1 rfl (lv_room (Nat.le_of_ble_eq_true rfl)) dM_wrong_47 ⟨Nat.le_of_ble_eq_true rfl, Nat.le_of_ble_eq_true rfl⟩)) (fun r_80 hw_81 => ?_)
            subst hw_81
            refine lv_if_eq (tgt := 232) hx hb dM_wrong_50 (by decide) (fun c_82 => ?_) (fun c_82 => ?_)
            · skip
              refine b_M_wrong hx hb hown hts dC dI k0 yb zb cI y z th a1 a2 a3 a4 a5 a6 fo how (v.toInt64 &&& 4294967295) hK _ _ ls hP hD hS (lv_sub hl [0, 4, 2] rfl) (fun H locs ls hls hP hD hS => ?_)
              exact W.iret (v := (s_b232 how (v.toInt64 &&& 4294967295)).1) hx hb hr (fun t ht hW => ⟨⟨(s_b232 how (v.toInt64 &&& 4294967295)).1, ((s_b232 how (v.toInt64 &&& 4294967295)).2), rfl, by simp only [s_M_wrong, if_pos c_1, if_pos c_51, if_pos c_78, if_pos c_82], by rw [ht]; exact hP, va_K.moved hW.alike hK, hD⟩, hS.F ht⟩) hS.2.2 dM_wrong_309
            · skip
              refine lv_lload hx hb dM_wrong_53 (lv_at hl 0 rfl) ?_
              refine lv_ldc2 (v := 1024) hx hb hown (hts _ mbM_wrong_5) dM_wrong_55 ?_
              refine lv_ldiv hx hb dM_wrong_58 (by decide) ?_
              refine lv_lstore (lv' := [(7, .long ((v.toInt64 &&& 4294967295) / 1024)), (5, .long (v.toInt64 &&& 4294967295)), (4, .int 1), (0, .ref k0), (1, .int v), (2, .int how), (3, .int wd)]) hx hb dM_wrong_59 hl (by decide) rfl (fun ls hl => ?_)
              refine lv_lload hx hb dM_wrong_61 (lv_at hl 0 rfl) ?_
              refine lv_ldc2 (v := 8) hx hb hown (hts _ mbM_wrong_6) dM_wrong_63 ?_
              refine lv_lrem hx hb dM_wrong_66 (by decide) ?_
              refine lv_l2i (v := (((v.toInt64 &&& 4294967295) / 1024) - ((v.toInt64 &&& 4294967295) / 1024) / 8 * 8).toInt32) hx hb dM_wrong_67 rfl ?_
              refine lv_iload_n hx hb dM_wrong_68 rfl (lv_at hl 5 rfl) ?_
              refine lv_if_ne (tgt := 76) hx hb dM_wrong_69 (by decide) (fun c_83 => ?_) (fun c_83 => ?_)
              · exact absurd c_51 c_83
              · skip
                refine lv_iconst (v := 0) hx hb dM_wrong_72 (by decide) ?_
                refine lv_goto (tgt := 78) hx hb dM_wrong_73 (by decide) ?_
                refine lv_iadd hx hb dM_wrong_78 ?_
                refine lv_istore (lv' := [(9, .int (((((v.toInt64 &&& 4294967295) / 1024) - ((v.toInt64 &&& 4294967295) / 1024) / 8 * 8).toInt32) + 0)), (7, .long ((v.toInt64 &&& 4294967295) / 1024)), (5, .long (v.toInt64 &&& 4294967295)), (4, .int 1), (0, .ref k0), (1, .int v), (2, .int how), (3, .int wd)]) hx hb dM_wrong_79 hl (by decide) rfl (fun ls hl => ?_)
                refine lv_aload_n hx hb dM_wrong_81 rfl (lv_at hl 4 rfl) ?_
                refine va_get (D := (dC, dI)) (ci := 2) (v := .ref zb) (C := RX2) (T := TX2) (N := 10) hx hb hts miM_wrong_X2 hown hK hP 0 rfl rfl 2 (by decide) (hts _ mbM_wrong_7) (fun _ h9 => h9) rfl dM_wrong_82 ?_
                refine lv_iload hx hb dM_wrong_85 (lv_at hl 0 rfl) ?_
                refine va_iald hx hb hK hP 2 0 rfl rfl (in_w v 0 (by decide) _ rfl) dM_wrong_87 ?_
                refine lv_i2l (v := (z (((((v.toInt64 &&& 4294967295) / 1024) - ((v.toInt64 &&& 4294967295) / 1024) / 8 * 8).toInt32) + 0).toNatClampNeg).toInt64) hx hb dM_wrong_88 rfl ?_
                refine lv_ldc2 (v := 4294967295) hx hb hown (hts _ mbM_wrong_4) dM_wrong_89 ?_
                refine lv_land hx hb dM_wrong_92 ?_
                refine lv_lstore (lv' := [(10, .long (((z (((((v.toInt64 &&& 4294967295) / 1024) - ((v.toInt64 &&& 4294967295) / 1024) / 8 * 8).toInt32) + 0).toNatClampNeg).toInt64) &&& 4294967295)), (9, .int (((((v.toInt64 &&& 4294967295) / 1024) - ((v.toInt64 &&& 4294967295) / 1024) / 8 * 8).toInt32) + 0)), (7, .long ((v.toInt64 &&& 4294967295) / 1024)), (5, .long (v.toInt64 &&& 4294967295)), (4, .int 1), (0, .ref k0), (1, .int v), (2, .int how), (3, .int wd)]) hx hb dM_wrong_93 hl (by decide) rfl (fun ls hl => ?_)
                refine lv_aload_n hx hb dM_wrong_95 rfl (lv_at hl 5 rfl) ?_
                refine va_get (D := (dC, dI)) (ci := 2) (v := .ref zb) (C := RX2) (T := TX2) (N := 10) hx hb hts miM_wrong_X2 hown hK hP 0 rfl rfl 2 (by decide) (hts _ mbM_wrong_7) (fun _ h9 => h9) rfl dM_wrong_96 ?_
                refine lv_iload hx hb dM_wrong_99 (lv_at hl 1 rfl) ?_
                refine lv_bipush (v := 8) hx hb dM_wrong_101 (by decide) ?_
                refine lv_iadd hx hb dM_wrong_103 ?_
                refine va_iald hx hb hK hP 2 0 rfl rfl (in_w8 v 0 (by decide) _ rfl) dM_wrong_104 ?_
                refine lv_i2l (v := (z ((((((v.toInt64 &&& 4294967295) / 1024) - ((v.toInt64 &&& 4294967295) / 1024) / 8 * 8).toInt32) + 0) + 8).toNatClampNeg).toInt64) hx hb dM_wrong_105 rfl ?_
                refine lv_ldc2 (v := 4294967295) hx hb hown (hts _ mbM_wrong_4) dM_wrong_106 ?_
                refine lv_land hx hb dM_wrong_109 ?_
                refine lv_lstore (lv' := [(12, .long (((z ((((((v.toInt64 &&& 4294967295) / 1024) - ((v.toInt64 &&& 4294967295) / 1024) / 8 * 8).toInt32) + 0) + 8).toNatClampNeg).toInt64) &&& 4294967295)), (10, .long (((z (((((v.toInt64 &&& 4294967295) / 1024) - ((v.toInt64 &&& 4294967295) / 1024) / 8 * 8).toInt32) + 0).toNatClampNeg).toInt64) &&& 4294967295)), (9, .int (((((v.toInt64 &&& 4294967295) / 1024) - ((v.toInt64 &&& 4294967295) / 1024) / 8 * 8).toInt32) + 0)), (7, .long ((v.toInt64 &&& 4294967295) / 1024)), (5, .long (v.toInt64 &&& 4294967295)), (4, .int 1), (0, .ref k0), (1, .int v), (2, .int how), (3, .int wd)]) hx hb dM_wrong_110 hl (by decide) rfl (fun ls hl => ?_)
                refine lv_lload hx hb dM_wrong_112 (lv_at hl 1 rfl) ?_
                refine lv_ldc2 (v := 2) hx hb hown (hts _ mbM_wrong_8) dM_wrong_114 ?_
                refine lv_lrem hx hb dM_wrong_117 (by decide) ?_
                refine lv_lconst (v := 0) hx hb dM_wrong_118 (by decide) ?_
                refine W.lcmp hx hb dM_wrong_119 ?_
                refine lv_if_eq (tgt := 135) hx hb dM_wrong_120 (by decide) (fun c_84 => ?_) (fun c_84 => ?_)
                · skip
                  refine lv_iload_n hx hb dM_wrong_135 rfl (lv_at hl 8 rfl) ?_
                  refine lv_if_ne (tgt := 144) hx hb dM_wrong_136 (by decide) (fun c_85 => ?_) (fun c_85 => ?_)
                  · exact absurd c_51 c_85
                  · skip
                    refine lv_bipush (v := 10) hx hb dM_wrong_139 (by decide) ?_
                    refine lv_goto (tgt := 146) hx hb dM_wrong_141 (by decide) ?_
                    exact W.iret (v := 10) hx hb hr (fun t ht hW => ⟨⟨10, fo, rfl, by simp only [s_M_wrong, if_pos c_1, if_pos c_51, if_pos c_78, if_neg c_82, if_pos c_84], by rw [ht]; exact hP, va_K.moved hW.alike hK, hD⟩, hS.F ht⟩) hS.2.2 dM_wrong_146
                · skip
                  refine lv_lload hx hb dM_wrong_123 (lv_at hl 1 rfl) ?_
                  refine lv_ldc2 (v := 1024) hx hb hown (hts _ mbM_wrong_5) dM_wrong_125 ?_
                  refine lv_ldiv hx hb dM_wrong_128 (by decide) ?_
                  refine lv_lload hx hb dM_wrong_129 (lv_at hl 3 rfl) ?_
                  refine W.lcmp hx hb dM_wrong_131 ?_
                  refine lv_if_eq (tgt := 147) hx hb dM_wrong_132 (by decide) (fun c_86 => ?_) (fun c_86 => ?_)
                  · skip
                    refine lv_iload_n hx hb dM_wrong_147 rfl (lv_at hl 8 rfl) ?_
                    refine lv_iconst (v := 2) hx hb dM_wrong_148 (by decide) ?_
                    refine lv_icmp_ne (tgt := 172) hx hb dM_wrong_149 (by decide) (fun c_87 => ?_) (fun c_87 => ?_)
                    · skip
                      refine lv_aload_n hx hb dM_wrong_172 rfl (lv_at hl 6 rfl) ?_
                      refine lv_iconst (v := 1) hx hb dM_wrong_173 (by decide) ?_
                      have hPc := hP.sub (ws' := [(k0, .inr (2, [.int th, .ref yb, .ref zb, .int a1, .int a2, .int a3, .int a4, .int a5, .int a6, .int fo])), (yb, .inl (cI, 65536, .inl y)), (zb, .inl (cI, 33, .inl z))]) [0, 1, 2] rfl
                      have hKc := hK.sub (tys' := [(cI, .int)]) [0] rfl
                      refine vp_callSi (va_Run.run (va_runV (As := [.int 1]) (rest := []) ⟨hx, hb, hml, hown, hts⟩ (c_M_mode l dC dI k0 yb zb cI y z th a1 a2 a3 a4 a5 a6 fo 1 (by decide)) (cwV 1 hts gM_wrong_M_mode rfl rfl rfl (by decide +kernel) ⟨Nat.le_of_ble_eq_true rfl, Nat.le_of_ble_eq_true rfl⟩) ⟨fun a U g mk q => by obtain ⟨q0, qP, qK⟩ := q; exact ⟨q0, qP, va_K.moved (u := U) (U := U.calling g mk a) (Vm.Alike.refl U.vm) qK⟩, va_recv hKc hPc (ci := 2) (q0 := 0) rfl rfl, fun U hU hW => ⟨rfl, by rw [hU]; exact hPc, va_K.moved hW.alike hKc⟩⟩ rfl rfl hl.1 rfl (lv_room (Nat.le_of_ble_eq_true rfl)) dM_wrong_174 ⟨Nat.le_of_ble_eq_true rfl, Nat.le_of_ble_eq_true rfl⟩)) (fun r_88 hw_89 => ?_)
                      subst hw_89
                      refine lv_if_eq (tgt := 186) hx hb dM_wrong_177 (by decide) (fun c_90 => ?_) (fun c_90 => ?_)
                      · skip
                        refine lv_lconst (v := 1) hx hb dM_wrong_186 (by decide) ?_
                        refine lv_lstore (lv' := [(14, .long 1), (12, .long (((z ((((((v.toInt64 &&& 4294967295) / 1024) - ((v.toInt64 &&& 4294967295) / 1024) / 8 * 8).toInt32) + 0) + 8).toNatClampNeg).toInt64) &&& 4294967295)), (10, .long (((z (((((v.toInt64 &&& 4294967295) / 1024) - ((v.toInt64 &&& 4294967295) / 1024) / 8 * 8).toInt32) + 0).toNatClampNeg).toInt64) &&& 4294967295)), (9, .int (((((v.toInt64 &&& 4294967295) / 1024) - ((v.toInt64 &&& 4294967295) / 1024) / 8 * 8).toInt32) + 0)), (7, .long ((v.toInt64 &&& 4294967295) / 1024)), (5, .long (v.toInt64 &&& 4294967295)), (4, .int 1), (0, .ref k0), (1, .int v), (2, .int how), (3, .int wd)]) hx hb dM_wrong_187 hl (by decide) rfl (fun ls hl => ?_)
                        refine lv_lload hx hb dM_wrong_189 (lv_at hl 1 rfl) ?_
                        refine lv_lload hx hb dM_wrong_191 (lv_at hl 0 rfl) ?_
                        refine lv_ldiv hx hb dM_wrong_193 (by decide) ?_
                        refine lv_ldc2 (v := 2) hx hb hown (hts _ mbM_wrong_8) dM_wrong_194 ?_
                        refine lv_lrem hx hb dM_wrong_197 (by decide) ?_
                        refine lv_lconst (v := 0) hx hb dM_wrong_198 (by decide) ?_
                        refine W.lcmp hx hb dM_wrong_199 ?_
                        refine lv_if_ne (tgt := 213) hx hb dM_wrong_200 (by decide) (fun c_91 => ?_) (fun c_91 => ?_)
                        · skip
                          refine lv_lload hx hb dM_wrong_213 (lv_at hl 1 rfl) ?_
                          refine lv_ldc2 (v := 1024) hx hb hown (hts _ mbM_wrong_5) dM_wrong_215 ?_
                          refine lv_ldiv hx hb dM_wrong_218 (by decide) ?_
                          refine lv_ldc2 (v := 1024) hx hb hown (hts _ mbM_wrong_5) dM_wrong_219 ?_
                          refine lv_lmul hx hb dM_wrong_222 ?_
                          refine lv_lload hx hb dM_wrong_223 (lv_at hl 5 rfl) ?_
                          refine lv_ldc2 (v := 1024) hx hb hown (hts _ mbM_wrong_5) dM_wrong_225 ?_
                          refine lv_lrem hx hb dM_wrong_228 (by decide) ?_
                          refine lv_ladd hx hb dM_wrong_229 ?_
                          refine lv_lstore (lv' := [(5, .long ((((((z ((((((v.toInt64 &&& 4294967295) / 1024) - ((v.toInt64 &&& 4294967295) / 1024) / 8 * 8).toInt32) + 0) + 8).toNatClampNeg).toInt64) &&& 4294967295) / 1024) * 1024) + ((v.toInt64 &&& 4294967295) - (v.toInt64 &&& 4294967295) / 1024 * 1024))), (14, .long 1), (12, .long (((z ((((((v.toInt64 &&& 4294967295) / 1024) - ((v.toInt64 &&& 4294967295) / 1024) / 8 * 8).toInt32) + 0) + 8).toNatClampNeg).toInt64) &&& 4294967295)), (10, .long (((z (((((v.toInt64 &&& 4294967295) / 1024) - ((v.toInt64 &&& 4294967295) / 1024) / 8 * 8).toInt32) + 0).toNatClampNeg).toInt64) &&& 4294967295)), (9, .int (((((v.toInt64 &&& 4294967295) / 1024) - ((v.toInt64 &&& 4294967295) / 1024) / 8 * 8).toInt32) + 0)), (7, .long ((v.toInt64 &&& 4294967295) / 1024)), (4, .int 1), (0, .ref k0), (1, .int v), (2, .int how), (3, .int wd)]) hx hb dM_wrong_230 hl (by decide) rfl (fun ls hl => ?_)
                          refine b_M_wrong hx hb hown hts dC dI k0 yb zb cI y z th a1 a2 a3 a4 a5 a6 fo how ((((((z ((((((v.toInt64 &&& 4294967295) / 1024) - ((v.toInt64 &&& 4294967295) / 1024) / 8 * 8).toInt32) + 0) + 8).toNatClampNeg).toInt64) &&& 4294967295) / 1024) * 1024) + ((v.toInt64 &&& 4294967295) - (v.toInt64 &&& 4294967295) / 1024 * 1024)) hK _ _ ls hP hD hS (lv_sub hl [0, 9, 7] rfl) (fun H locs ls hls hP hD hS => ?_)
                          exact W.iret (v := (s_b232 how ((((((z ((((((v.toInt64 &&& 4294967295) / 1024) - ((v.toInt64 &&& 4294967295) / 1024) / 8 * 8).toInt32) + 0) + 8).toNatClampNeg).toInt64) &&& 4294967295) / 1024) * 1024) + ((v.toInt64 &&& 4294967295) - (v.toInt64 &&& 4294967295) / 1024 * 1024))).1) hx hb hr (fun t ht hW => ⟨⟨(s_b232 how ((((((z ((((((v.toInt64 &&& 4294967295) / 1024) - ((v.toInt64 &&& 4294967295) / 1024) / 8 * 8).toInt32) + 0) + 8).toNatClampNeg).toInt64) &&& 4294967295) / 1024) * 1024) + ((v.toInt64 &&& 4294967295) - (v.toInt64 &&& 4294967295) / 1024 * 1024))).1, ((s_b232 how ((((((z ((((((v.toInt64 &&& 4294967295) / 1024) - ((v.toInt64 &&& 4294967295) / 1024) / 8 * 8).toInt32) + 0) + 8).toNatClampNeg).toInt64) &&& 4294967295) / 1024) * 1024) + ((v.toInt64 &&& 4294967295) - (v.toInt64 &&& 4294967295) / 1024 * 1024))).2), rfl, by simp only [s_M_wrong, if_pos c_1, if_pos c_51, if_pos c_78, if_neg c_82, if_neg c_84, if_pos c_86, if_neg c_87, if_pos c_90, if_neg c_91], by rw [ht]; exact hP, va_K.moved hW.alike hK, hD⟩, hS.F ht⟩) hS.2.2 dM_wrong_309
                        · skip
                          refine lv_iload_n hx hb dM_wrong_203 rfl (lv_at hl 9 rfl) ?_
                          refine lv_if_ne (tgt := 211) hx hb dM_wrong_204 (by decide) (fun c_92 => ?_) (fun c_92 => ?_)
                          · exact absurd c_51 c_92
                          · skip
                            refine lv_iconst (v := 4) hx hb dM_wrong_207 (by decide) ?_
                            refine lv_goto (tgt := 212) hx hb dM_wrong_208 (by decide) ?_
                            exact W.iret (v := 4) hx hb hr (fun t ht hW => ⟨⟨4, fo, rfl, by simp only [s_M_wrong, if_pos c_1, if_pos c_51, if_pos c_78, if_neg c_82, if_neg c_84, if_pos c_86, if_neg c_87, if_pos c_90, if_pos c_91], by rw [ht]; exact hP, va_K.moved hW.alike hK, hD⟩, hS.F ht⟩) hS.2.2 dM_wrong_212
                      · skip
                        refine lv_ldc2 (v := 4) hx hb hown (hts _ mbM_wrong_9) dM_wrong_180 ?_
                        refine lv_goto (tgt := 187) hx hb dM_wrong_183 (by decide) ?_
                        refine lv_lstore (lv' := [(14, .long 4), (12, .long (((z ((((((v.toInt64 &&& 4294967295) / 1024) - ((v.toInt64 &&& 4294967295) / 1024) / 8 * 8).toInt32) + 0) + 8).toNatClampNeg).toInt64) &&& 4294967295)), (10, .long (((z (((((v.toInt64 &&& 4294967295) / 1024) - ((v.toInt64 &&& 4294967295) / 1024) / 8 * 8).toInt32) + 0).toNatClampNeg).toInt64) &&& 4294967295)), (9, .int (((((v.toInt64 &&& 4294967295) / 1024) - ((v.toInt64 &&& 4294967295) / 1024) / 8 * 8).toInt32) + 0)), (7, .long ((v.toInt64 &&& 4294967295) / 1024)), (5, .long (v.toInt64 &&& 4294967295)), (4, .int 1), (0, .ref k0), (1, .int v), (2, .int how), (3, .int wd)]) hx hb dM_wrong_187 hl (by decide) rfl (fun ls hl => ?_)
                        refine lv_lload hx hb dM_wrong_189 (lv_at hl 1 rfl) ?_
                        refine lv_lload hx hb dM_wrong_191 (lv_at hl 0 rfl) ?_
                        refine lv_ldiv hx hb dM_wrong_193 (by decide) ?_
                        refine lv_ldc2 (v := 2) hx hb hown (hts _ mbM_wrong_8) dM_wrong_194 ?_
                        refine lv_lrem hx hb dM_wrong_197 (by decide) ?_
                        refine lv_lconst (v := 0) hx hb dM_wrong_198 (by decide) ?_
                        refine W.lcmp hx hb dM_wrong_199 ?_
                        refine lv_if_ne (tgt := 213) hx hb dM_wrong_200 (by decide) (fun c_93 => ?_) (fun c_93 => ?_)
                        · skip
                          refine lv_lload hx hb dM_wrong_213 (lv_at hl 1 rfl) ?_
                          refine lv_ldc2 (v := 1024) hx hb hown (hts _ mbM_wrong_5) dM_wrong_215 ?_
                          refine lv_ldiv hx hb dM_wrong_218 (by decide) ?_
                          refine lv_ldc2 (v := 1024) hx hb hown (hts _ mbM_wrong_5) dM_wrong_219 ?_
                          refine lv_lmul hx hb dM_wrong_222 ?_
                          refine lv_lload hx hb dM_wrong_223 (lv_at hl 5 rfl) ?_
                          refine lv_ldc2 (v := 1024) hx hb hown (hts _ mbM_wrong_5) dM_wrong_225 ?_
                          refine lv_lrem hx hb dM_wrong_228 (by decide) ?_
                          refine lv_ladd hx hb dM_wrong_229 ?_
                          refine lv_lstore (lv' := [(5, .long ((((((z ((((((v.toInt64 &&& 4294967295) / 1024) - ((v.toInt64 &&& 4294967295) / 1024) / 8 * 8).toInt32) + 0) + 8).toNatClampNeg).toInt64) &&& 4294967295) / 1024) * 1024) + ((v.toInt64 &&& 4294967295) - (v.toInt64 &&& 4294967295) / 1024 * 1024))), (14, .long 4), (12, .long (((z ((((((v.toInt64 &&& 4294967295) / 1024) - ((v.toInt64 &&& 4294967295) / 1024) / 8 * 8).toInt32) + 0) + 8).toNatClampNeg).toInt64) &&& 4294967295)), (10, .long (((z (((((v.toInt64 &&& 4294967295) / 1024) - ((v.toInt64 &&& 4294967295) / 1024) / 8 * 8).toInt32) + 0).toNatClampNeg).toInt64) &&& 4294967295)), (9, .int (((((v.toInt64 &&& 4294967295) / 1024) - ((v.toInt64 &&& 4294967295) / 1024) / 8 * 8).toInt32) + 0)), (7, .long ((v.toInt64 &&& 4294967295) / 1024)), (4, .int 1), (0, .ref k0), (1, .int v), (2, .int how), (3, .int wd)]) hx hb dM_wrong_230 hl (by decide) rfl (fun ls hl => ?_)
                          refine b_M_wrong hx hb hown hts dC dI k0 yb zb cI y z th a1 a2 a3 a4 a5 a6 fo how ((((((z ((((((v.toInt64 &&& 4294967295) / 1024) - ((v.toInt64 &&& 4294967295) / 1024) / 8 * 8).toInt32) + 0) + 8).toNatClampNeg).toInt64) &&& 4294967295) / 1024) * 1024) + ((v.toInt64 &&& 4294967295) - (v.toInt64 &&& 4294967295) / 1024 * 1024)) hK _ _ ls hP hD hS (lv_sub hl [0, 9, 7] rfl) (fun H locs ls hls hP hD hS => ?_)
                          exact W.iret (v := (s_b232 how ((((((z ((((((v.toInt64 &&& 4294967295) / 1024) - ((v.toInt64 &&& 4294967295) / 1024) / 8 * 8).toInt32) + 0) + 8).toNatClampNeg).toInt64) &&& 4294967295) / 1024) * 1024) + ((v.toInt64 &&& 4294967295) - (v.toInt64 &&& 4294967295) / 1024 * 1024))).1) hx hb hr (fun t ht hW => ⟨⟨(s_b232 how ((((((z ((((((v.toInt64 &&& 4294967295) / 1024) - ((v.toInt64 &&& 4294967295) / 1024) / 8 * 8).toInt32) + 0) + 8).toNatClampNeg).toInt64) &&& 4294967295) / 1024) * 1024) + ((v.toInt64 &&& 4294967295) - (v.toInt64 &&& 4294967295) / 1024 * 1024))).1, ((s_b232 how ((((((z ((((((v.toInt64 &&& 4294967295) / 1024) - ((v.toInt64 &&& 4294967295) / 1024) / 8 * 8).toInt32) + 0) + 8).toNatClampNeg).toInt64) &&& 4294967295) / 1024) * 1024) + ((v.toInt64 &&& 4294967295) - (v.toInt64 &&& 4294967295) / 1024 * 1024))).2), rfl, by simp only [s_M_wrong, if_pos c_1, if_pos c_51, if_pos c_78, if_neg c_82, if_neg c_84, if_pos c_86, if_neg c_87, if_neg c_90, if_neg c_93], by rw [ht]; exact hP, va_K.moved hW.alike hK, hD⟩, hS.F ht⟩) hS.2.2 dM_wrong_309
                        · skip
                          refine lv_iload_n hx hb dM_wrong_203 rfl (lv_at hl 9 rfl) ?_
                          refine lv_if_ne (tgt := 211) hx hb dM_wrong_204 (by decide) (fun c_94 => ?_) (fun c_94 => ?_)
                          · exact absurd c_51 c_94
                          · skip
                            refine lv_iconst (v := 4) hx hb dM_wrong_207 (by decide) ?_
                            refine lv_goto (tgt := 212) hx hb dM_wrong_208 (by decide) ?_
                            exact W.iret (v := 4) hx hb hr (fun t ht hW => ⟨⟨4, fo, rfl, by simp only [s_M_wrong, if_pos c_1, if_pos c_51, if_pos c_78, if_neg c_82, if_neg c_84, if_pos c_86, if_neg c_87, if_neg c_90, if_pos c_93], by rw [ht]; exact hP, va_K.moved hW.alike hK, hD⟩, hS.F ht⟩) hS.2.2 dM_wrong_212
                    · skip
                      refine lv_aload_n hx hb dM_wrong_152 rfl (lv_at hl 6 rfl) ?_
                      refine lv_iconst (v := 1) hx hb dM_wrong_153 (by decide) ?_
                      have hPc := hP.sub (ws' := [(k0, .inr (2, [.int th, .ref yb, .ref zb, .int a1, .int a2, .int a3, .int a4, .int a5, .int a6, .int fo])), (yb, .inl (cI, 65536, .inl y)), (zb, .inl (cI, 33, .inl z))]) [0, 1, 2] rfl
                      have hKc := hK.sub (tys' := [(cI, .int)]) [0] rfl
                      refine vp_callSi (va_Run.run (va_runV (As := [.int 1]) (rest := []) ⟨hx, hb, hml, hown, hts⟩ (c_M_mode l dC dI k0 yb zb cI y z th a1 a2 a3 a4 a5 a6 fo 1 (by decide)) (cwV 1 hts gM_wrong_M_mode rfl rfl rfl (by decide +kernel) ⟨Nat.le_of_ble_eq_true rfl, Nat.le_of_ble_eq_true rfl⟩) ⟨fun a U g mk q => by obtain ⟨q0, qP, qK⟩ := q; exact ⟨q0, qP, va_K.moved (u := U) (U := U.calling g mk a) (Vm.Alike.refl U.vm) qK⟩, va_recv hKc hPc (ci := 2) (q0 := 0) rfl rfl, fun U hU hW => ⟨rfl, by rw [hU]; exact hPc, va_K.moved hW.alike hKc⟩⟩ rfl rfl hl.1 rfl (lv_room (Nat.le_of_ble_eq_true rfl)) dM_wrong_154 ⟨Nat.le_of_ble_eq_true rfl, Nat.le_of_ble_eq_true rfl⟩)) (fun r_95 hw_96 => ?_)
                      subst hw_96
                      refine lv_if_eq (tgt := 166) hx hb dM_wrong_157 (by decide) (fun c_97 => ?_) (fun c_97 => ?_)
                      · skip
                        refine lv_ldc2 (v := 2) hx hb hown (hts _ mbM_wrong_8) dM_wrong_166 ?_
                        refine lv_goto (tgt := 187) hx hb dM_wrong_169 (by decide) ?_
                        refine lv_lstore (lv' := [(14, .long 2), (12, .long (((z ((((((v.toInt64 &&& 4294967295) / 1024) - ((v.toInt64 &&& 4294967295) / 1024) / 8 * 8).toInt32) + 0) + 8).toNatClampNeg).toInt64) &&& 4294967295)), (10, .long (((z (((((v.toInt64 &&& 4294967295) / 1024) - ((v.toInt64 &&& 4294967295) / 1024) / 8 * 8).toInt32) + 0).toNatClampNeg).toInt64) &&& 4294967295)), (9, .int (((((v.toInt64 &&& 4294967295) / 1024) - ((v.toInt64 &&& 4294967295) / 1024) / 8 * 8).toInt32) + 0)), (7, .long ((v.toInt64 &&& 4294967295) / 1024)), (5, .long (v.toInt64 &&& 4294967295)), (4, .int 1), (0, .ref k0), (1, .int v), (2, .int how), (3, .int wd)]) hx hb dM_wrong_187 hl (by decide) rfl (fun ls hl => ?_)
                        refine lv_lload hx hb dM_wrong_189 (lv_at hl 1 rfl) ?_
                        refine lv_lload hx hb dM_wrong_191 (lv_at hl 0 rfl) ?_
                        refine lv_ldiv hx hb dM_wrong_193 (by decide) ?_
                        refine lv_ldc2 (v := 2) hx hb hown (hts _ mbM_wrong_8) dM_wrong_194 ?_
                        refine lv_lrem hx hb dM_wrong_197 (by decide) ?_
                        refine lv_lconst (v := 0) hx hb dM_wrong_198 (by decide) ?_
                        refine W.lcmp hx hb dM_wrong_199 ?_
                        refine lv_if_ne (tgt := 213) hx hb dM_wrong_200 (by decide) (fun c_98 => ?_) (fun c_98 => ?_)
                        · skip
                          refine lv_lload hx hb dM_wrong_213 (lv_at hl 1 rfl) ?_
                          refine lv_ldc2 (v := 1024) hx hb hown (hts _ mbM_wrong_5) dM_wrong_215 ?_
                          refine lv_ldiv hx hb dM_wrong_218 (by decide) ?_
                          refine lv_ldc2 (v := 1024) hx hb hown (hts _ mbM_wrong_5) dM_wrong_219 ?_
                          refine lv_lmul hx hb dM_wrong_222 ?_
                          refine lv_lload hx hb dM_wrong_223 (lv_at hl 5 rfl) ?_
                          refine lv_ldc2 (v := 1024) hx hb hown (hts _ mbM_wrong_5) dM_wrong_225 ?_
                          refine lv_lrem hx hb dM_wrong_228 (by decide) ?_
                          refine lv_ladd hx hb dM_wrong_229 ?_
                          refine lv_lstore (lv' := [(5, .long ((((((z ((((((v.toInt64 &&& 4294967295) / 1024) - ((v.toInt64 &&& 4294967295) / 1024) / 8 * 8).toInt32) + 0) + 8).toNatClampNeg).toInt64) &&& 4294967295) / 1024) * 1024) + ((v.toInt64 &&& 4294967295) - (v.toInt64 &&& 4294967295) / 1024 * 1024))), (14, .long 2), (12, .long (((z ((((((v.toInt64 &&& 4294967295) / 1024) - ((v.toInt64 &&& 4294967295) / 1024) / 8 * 8).toInt32) + 0) + 8).toNatClampNeg).toInt64) &&& 4294967295)), (10, .long (((z (((((v.toInt64 &&& 4294967295) / 1024) - ((v.toInt64 &&& 4294967295) / 1024) / 8 * 8).toInt32) + 0).toNatClampNeg).toInt64) &&& 4294967295)), (9, .int (((((v.toInt64 &&& 4294967295) / 1024) - ((v.toInt64 &&& 4294967295) / 1024) / 8 * 8).toInt32) + 0)), (7, .long ((v.toInt64 &&& 4294967295) / 1024)), (4, .int 1), (0, .ref k0), (1, .int v), (2, .int how), (3, .int wd)]) hx hb dM_wrong_230 hl (by decide) rfl (fun ls hl => ?_)
                          refine b_M_wrong hx hb hown hts dC dI k0 yb zb cI y z th a1 a2 a3 a4 a5 a6 fo how ((((((z ((((((v.toInt64 &&& 4294967295) / 1024) - ((v.toInt64 &&& 4294967295) / 1024) / 8 * 8).toInt32) + 0) + 8).toNatClampNeg).toInt64) &&& 4294967295) / 1024) * 1024) + ((v.toInt64 &&& 4294967295) - (v.toInt64 &&& 4294967295) / 1024 * 1024)) hK _ _ ls hP hD hS (lv_sub hl [0, 9, 7] rfl) (fun H locs ls hls hP hD hS => ?_)
                          exact W.iret (v := (s_b232 how ((((((z ((((((v.toInt64 &&& 4294967295) / 1024) - ((v.toInt64 &&& 4294967295) / 1024) / 8 * 8).toInt32) + 0) + 8).toNatClampNeg).toInt64) &&& 4294967295) / 1024) * 1024) + ((v.toInt64 &&& 4294967295) - (v.toInt64 &&& 4294967295) / 1024 * 1024))).1) hx hb hr (fun t ht hW => ⟨⟨(s_b232 how ((((((z ((((((v.toInt64 &&& 4294967295) / 1024) - ((v.toInt64 &&& 4294967295) / 1024) / 8 * 8).toInt32) + 0) + 8).toNatClampNeg).toInt64) &&& 4294967295) / 1024) * 1024) + ((v.toInt64 &&& 4294967295) - (v.toInt64 &&& 4294967295) / 1024 * 1024))).1, ((s_b232 how ((((((z ((((((v.toInt64 &&& 4294967295) / 1024) - ((v.toInt64 &&& 4294967295) / 1024) / 8 * 8).toInt32) + 0) + 8).toNatClampNeg).toInt64) &&& 4294967295) / 1024) * 1024) + ((v.toInt64 &&& 4294967295) - (v.toInt64 &&& 4294967295) / 1024 * 1024))).2), rfl, by simp only [s_M_wrong, if_pos c_1, if_pos c_51, if_pos c_78, if_neg c_82, if_neg c_84, if_pos c_86, if_pos c_87, if_pos c_97, if_neg c_98], by rw [ht]; exact hP, va_K.moved hW.alike hK, hD⟩, hS.F ht⟩) hS.2.2 dM_wrong_309
                        · skip
                          refine lv_iload_n hx hb dM_wrong_203 rfl (lv_at hl 9 rfl) ?_
                          refine lv_if_ne (tgt := 211) hx hb dM_wrong_204 (by decide) (fun c_99 => ?_) (fun c_99 => ?_)
                          · exact absurd c_51 c_99
                          · skip
                            refine lv_iconst (v := 4) hx hb dM_wrong_207 (by decide) ?_
                            refine lv_goto (tgt := 212) hx hb dM_wrong_208 (by decide) ?_
                            exact W.iret (v := 4) hx hb hr (fun t ht hW => ⟨⟨4, fo, rfl, by simp only [s_M_wrong, if_pos c_1, if_pos c_51, if_pos c_78, if_neg c_82, if_neg c_84, if_pos c_86, if_pos c_87, if_pos c_97, if_pos c_98], by rw [ht]; exact hP, va_K.moved hW.alike hK, hD⟩, hS.F ht⟩) hS.2.2 dM_wrong_212
                      · skip
                        refine lv_ldc2 (v := 8) hx hb hown (hts _ mbM_wrong_6) dM_wrong_160 ?_
                        refine lv_goto (tgt := 187) hx hb dM_wrong_163 (by decide) ?_
                        refine lv_lstore (lv' := [(14, .long 8), (12, .long (((z ((((((v.toInt64 &&& 4294967295) / 1024) - ((v.toInt64 &&& 4294967295) / 1024) / 8 * 8).toInt32) + 0) + 8).toNatClampNeg).toInt64) &&& 4294967295)), (10, .long (((z (((((v.toInt64 &&& 4294967295) / 1024) - ((v.toInt64 &&& 4294967295) / 1024) / 8 * 8).toInt32) + 0).toNatClampNeg).toInt64) &&& 4294967295)), (9, .int (((((v.toInt64 &&& 4294967295) / 1024) - ((v.toInt64 &&& 4294967295) / 1024) / 8 * 8).toInt32) + 0)), (7, .long ((v.toInt64 &&& 4294967295) / 1024)), (5, .long (v.toInt64 &&& 4294967295)), (4, .int 1), (0, .ref k0), (1, .int v), (2, .int how), (3, .int wd)]) hx hb dM_wrong_187 hl (by decide) rfl (fun ls hl => ?_)
                        refine lv_lload hx hb dM_wrong_189 (lv_at hl 1 rfl) ?_
                        refine lv_lload hx hb dM_wrong_191 (lv_at hl 0 rfl) ?_
                        refine lv_ldiv hx hb dM_wrong_193 (by decide) ?_
                        refine lv_ldc2 (v := 2) hx hb hown (hts _ mbM_wrong_8) dM_wrong_194 ?_
                        refine lv_lrem hx hb dM_wrong_197 (by decide) ?_
                        refine lv_lconst (v := 0) hx hb dM_wrong_198 (by decide) ?_
                        refine W.lcmp hx hb dM_wrong_199 ?_
                        refine lv_if_ne (tgt := 213) hx hb dM_wrong_200 (by decide) (fun c_100 => ?_) (fun c_100 => ?_)
                        · skip
                          refine lv_lload hx hb dM_wrong_213 (lv_at hl 1 rfl) ?_
                          refine lv_ldc2 (v := 1024) hx hb hown (hts _ mbM_wrong_5) dM_wrong_215 ?_
                          refine lv_ldiv hx hb dM_wrong_218 (by decide) ?_
                          refine lv_ldc2 (v := 1024) hx hb hown (hts _ mbM_wrong_5) dM_wrong_219 ?_
                          refine lv_lmul hx hb dM_wrong_222 ?_
                          refine lv_lload hx hb dM_wrong_223 (lv_at hl 5 rfl) ?_
                          refine lv_ldc2 (v := 1024) hx hb hown (hts _ mbM_wrong_5) dM_wrong_225 ?_
                          refine lv_lrem hx hb dM_wrong_228 (by decide) ?_
                          refine lv_ladd hx hb dM_wrong_229 ?_
                          refine lv_lstore (lv' := [(5, .long ((((((z ((((((v.toInt64 &&& 4294967295) / 1024) - ((v.toInt64 &&& 4294967295) / 1024) / 8 * 8).toInt32) + 0) + 8).toNatClampNeg).toInt64) &&& 4294967295) / 1024) * 1024) + ((v.toInt64 &&& 4294967295) - (v.toInt64 &&& 4294967295) / 1024 * 1024))), (14, .long 8), (12, .long (((z ((((((v.toInt64 &&& 4294967295) / 1024) - ((v.toInt64 &&& 4294967295) / 1024) / 8 * 8).toInt32) + 0) + 8).toNatClampNeg).toInt64) &&& 4294967295)), (10, .long (((z (((((v.toInt64 &&& 4294967295) / 1024) - ((v.toInt64 &&& 4294967295) / 1024) / 8 * 8).toInt32) + 0).toNatClampNeg).toInt64) &&& 4294967295)), (9, .int (((((v.toInt64 &&& 4294967295) / 1024) - ((v.toInt64 &&& 4294967295) / 1024) / 8 * 8).toInt32) + 0)), (7, .long ((v.toInt64 &&& 4294967295) / 1024)), (4, .int 1), (0, .ref k0), (1, .int v), (2, .int how), (3, .int wd)]) hx hb dM_wrong_230 hl (by decide) rfl (fun ls hl => ?_)
                          refine b_M_wrong hx hb hown hts dC dI k0 yb zb cI y z th a1 a2 a3 a4 a5 a6 fo how ((((((z ((((((v.toInt64 &&& 4294967295) / 1024) - ((v.toInt64 &&& 4294967295) / 1024) / 8 * 8).toInt32) + 0) + 8).toNatClampNeg).toInt64) &&& 4294967295) / 1024) * 1024) + ((v.toInt64 &&& 4294967295) - (v.toInt64 &&& 4294967295) / 1024 * 1024)) hK _ _ ls hP hD hS (lv_sub hl [0, 9, 7] rfl) (fun H locs ls hls hP hD hS => ?_)
                          exact W.iret (v := (s_b232 how ((((((z ((((((v.toInt64 &&& 4294967295) / 1024) - ((v.toInt64 &&& 4294967295) / 1024) / 8 * 8).toInt32) + 0) + 8).toNatClampNeg).toInt64) &&& 4294967295) / 1024) * 1024) + ((v.toInt64 &&& 4294967295) - (v.toInt64 &&& 4294967295) / 1024 * 1024))).1) hx hb hr (fun t ht hW => ⟨⟨(s_b232 how ((((((z ((((((v.toInt64 &&& 4294967295) / 1024) - ((v.toInt64 &&& 4294967295) / 1024) / 8 * 8).toInt32) + 0) + 8).toNatClampNeg).toInt64) &&& 4294967295) / 1024) * 1024) + ((v.toInt64 &&& 4294967295) - (v.toInt64 &&& 4294967295) / 1024 * 1024))).1, ((s_b232 how ((((((z ((((((v.toInt64 &&& 4294967295) / 1024) - ((v.toInt64 &&& 4294967295) / 1024) / 8 * 8).toInt32) + 0) + 8).toNatClampNeg).toInt64) &&& 4294967295) / 1024) * 1024) + ((v.toInt64 &&& 4294967295) - (v.toInt64 &&& 4294967295) / 1024 * 1024))).2), rfl, by simp only [s_M_wrong, if_pos c_1, if_pos c_51, if_pos c_78, if_neg c_82, if_neg c_84, if_pos c_86, if_pos c_87, if_neg c_97, if_neg c_100], by rw [ht]; exact hP, va_K.moved hW.alike hK, hD⟩, hS.F ht⟩) hS.2.2 dM_wrong_309
                        · skip
                          refine lv_iload_n hx hb dM_wrong_203 rfl (lv_at hl 9 rfl) ?_
                          refine lv_if_ne (tgt := 211) hx hb dM_wrong_204 (by decide) (fun c_101 => ?_) (fun c_101 => ?_)
                          · exact absurd c_51 c_101
                          · skip
                            refine lv_iconst (v := 4) hx hb dM_wrong_207 (by decide) ?_
                            refine lv_goto (tgt := 212) hx hb dM_wrong_208 (by decide) ?_
                            exact W.iret (v := 4) hx hb hr (fun t ht hW => ⟨⟨4, fo, rfl, by simp only [s_M_wrong, if_pos c_1, if_pos c_51, if_pos c_78, if_neg c_82, if_neg c_84, if_pos c_86, if_pos c_87, if_neg c_97, if_pos c_100], by rw [ht]; exact hP, va_K.moved hW.alike hK, hD⟩, hS.F ht⟩) hS.2.2 dM_wrong_212
                  · skip
                    refine lv_iload_n hx hb dM_wrong_135 rfl (lv_at hl 8 rfl) ?_
                    refine lv_if_ne (tgt := 144) hx hb dM_wrong_136 (by decide) (fun c_102 => ?_) (fun c_102 => ?_)
                    · exact absurd c_51 c_102
                    · skip
                      refine lv_bipush (v := 10) hx hb dM_wrong_139 (by decide) ?_
                      refine lv_goto (tgt := 146) hx hb dM_wrong_141 (by decide) ?_
                      exact W.iret (v := 10) hx hb hr (fun t ht hW => ⟨⟨10, fo, rfl, by simp only [s_M_wrong, if_pos c_1, if_pos c_51, if_pos c_78, if_neg c_82, if_neg c_84, if_neg c_86], by rw [ht]; exact hP, va_K.moved hW.alike hK, hD⟩, hS.F ht⟩) hS.2.2 dM_wrong_146
        · skip
          refine lv_bipush (v := 6) hx hb dM_wrong_26 (by decide) ?_
          exact W.iret (v := 6) hx hb hr (fun t ht hW => ⟨⟨6, fo, rfl, by simp only [s_M_wrong, if_pos c_1, if_pos c_51, if_neg c_78], by rw [ht]; exact hP, va_K.moved hW.alike hK, hD⟩, hS.F ht⟩) hS.2.2 dM_wrong_28
set_option maxRecDepth 100000 in
theorem miM_probe_X2 : ∀ w ∈ u_ws RX2 TX2 10, w ∈ wsM_probe := by decide +kernel
set_option maxRecDepth 100000 in
theorem mbM_probe_1 : (.fieldLink RX2 53 "SoftMapsModel" "faults" "I" : Cond) ∈ wsM_probe := by decide +kernel
set_option maxRecDepth 100000 in
theorem mbM_probe_2 : (.fieldLink RX2 56 "SoftMapsModel" "fault" "I" : Cond) ∈ wsM_probe := by decide +kernel
set_option maxRecDepth 100000 in
theorem mbM_probe_3 : (.fieldLink RX2 59 "SoftMapsModel" "address" "I" : Cond) ∈ wsM_probe := by decide +kernel
def s_M_probe (z : Nat → Int32) (a1 : Int32) (a2 : Int32) (a3 : Int32) (fo : Int32) (v : Int32) (how : Int32) (wd : Int32) : Int32 × Int32 × Int32 × Int32 × Int32 :=
  if (s_M_wrong z fo v how wd).1 ≤ 0 then
    if (s_M_wrong z fo v how wd).1 = 0 then
      (1, (a1, a2, a3, (s_M_wrong z fo v how wd).2))
    else
      (0, (a1, a2, a3, (s_M_wrong z fo v how wd).2))
  else
    if (s_M_wrong z fo v how wd).1 = 0 then
      (1, (a1 + 1, (s_M_wrong z fo v how wd).1, v, (s_M_wrong z fo v how wd).2))
    else
      (0, (a1 + 1, (s_M_wrong z fo v how wd).1, v, (s_M_wrong z fo v how wd).2))
set_option maxHeartbeats 4000000 in
set_option maxRecDepth 100000 in
theorem c_M_probe (l : Launch) (dC : Nat → ClassId) (dI : Nat → Nat → Nat) (sz : Nat) (k0 yb zb : Nat) (cI : ClassId) (y z : Nat → Int32) (th a1 a2 a3 a4 a5 a6 fo : Int32) (v : Int32) (how : Int32) (wd : Int32)  : Met l yM_probe wsM_probe ({ frames := 2, cells := 0, slots := 0, locals := 56 }) (va_Pc [.ref k0, .int v, .int how, .int wd] (fun U => U.heap.size = sz ∧ va_P (dC, dI) vwCl [(k0, .inr (2, [.int th, .ref yb, .ref zb, .int a1, .int a2, .int a3, .int a4, .int a5, .int a6, .int fo])), (yb, .inl (cI, 65536, .inl y)), (zb, .inl (cI, 33, .inl z))] U.heap ∧ va_K (dC, dI) vwCl [(cI, .int)] U ∧ va_D (fun _ => True) [(k0, .inr (2, [.int th, .ref yb, .ref zb, .int a1, .int a2, .int a3, .int a4, .int a5, .int a6, .int fo])), (yb, .inl (cI, 65536, .inl y)), (zb, .inl (cI, 33, .inl z))])) (va_Qi (fun (a_ : Int32) (u : Int32 × Int32 × Int32 × Int32) => (a_, u) = s_M_probe z a1 a2 a3 fo v how wd) (fun (u : Int32 × Int32 × Int32 × Int32) (t : State) => va_P (dC, dI) vwCl [(k0, .inr (2, [.int th, .ref yb, .ref zb, .int u.1, .int u.2.1, .int u.2.2.1, .int a4, .int a5, .int a6, .int u.2.2.2])), (yb, .inl (cI, 65536, .inl y)), (zb, .inl (cI, 33, .inl z))] t.heap ∧ va_K (dC, dI) vwCl [(cI, .int)] t ∧ va_D (va_A [(k0, .inr (2, [.int th, .ref yb, .ref zb, .int a1, .int a2, .int a3, .int a4, .int a5, .int a6, .int fo])), (yb, .inl (cI, 65536, .inl y)), (zb, .inl (cI, 33, .inl z))] sz) [(k0, .inr (2, [.int th, .ref yb, .ref zb, .int u.1, .int u.2.1, .int u.2.2.1, .int a4, .int a5, .int a6, .int u.2.2.2])), (yb, .inl (cI, 65536, .inl y)), (zb, .inl (cI, 33, .inl z))]) (va_A [(k0, .inr (2, [.int th, .ref yb, .ref zb, .int a1, .int a2, .int a3, .int a4, .int a5, .int a6, .int fo])), (yb, .inl (cI, 65536, .inl y)), (zb, .inl (cI, 33, .inl z))] sz)) 0 0 (va_A [(k0, .inr (2, [.int th, .ref yb, .ref zb, .int a1, .int a2, .int a3, .int a4, .int a5, .int a6, .int fo])), (yb, .inl (cI, 65536, .inl y)), (zb, .inl (cI, 33, .inl z))] sz) := by
  refine Met.ofW (cc := cM_probe) (maxL := 5) (ret := (some .boolean)) (by decide) rfl ?_
  intro p e s m args below meth c s₁ B hml hv
  obtain ⟨rfl, hsz, hP, hK, hD0⟩ := hv
  have hx := B.exec
  have hb := B.bytes
  have hr := B.returns
  have hts := atoms_spec (ws := wsM_probe) B.pre
  have hown : s.vm.findClass RX2 = some m.cls := findClass_of_methodNamed B.named
  have hlocks := B.notSynchronized
  subst hsz
  have hD := hD0.self (sz := s.heap.size)
  generalize hAe : va_A [(k0, .inr (2, [.int th, .ref yb, .ref zb, .int a1, .int a2, .int a3, .int a4, .int a5, .int a6, .int fo])), (yb, .inl (cI, 65536, .inl y)), (zb, .inl (cI, 33, .inl z))] s.heap.size = A at hD ⊢
  have hA : ∀ q : Nat, s.heap.size ≤ q → A q := fun q h => by rw [← hAe]; exact Or.inr h
  have hS : va_S A s.heap s.heap [] := va_S.rf
  have hP : va_P (dC, dI) vwCl [(k0, .inr (2, [.int th, .ref yb, .ref zb, .int a1, .int a2, .int a3, .int a4, .int a5, .int a6, .int fo])), (yb, .inl (cI, 65536, .inl y)), (zb, .inl (cI, 33, .inl z))] s.heap := hP
  have hl := lv_entry ([.ref k0, .int v, .int how, .int wd]) (n := 5) (Nat.le_of_ble_eq_true rfl)
  rw [lg_entry_eq]
  generalize (lg_sl ([.ref k0, .int v, .int how, .int wd]) ++ List.replicate (5 - (lg_sl ([.ref k0, .int v, .int how, .int wd])).length) Slot.unset).toArray = ls at hl ⊢
  have hl : lv_has ls 5 [(0, .ref k0), (1, .int v), (2, .int how), (3, .int wd)] := hl
  refine lv_aload_n hx hb dM_probe_0 rfl (lv_at hl 0 rfl) ?_
  refine lv_iload_n hx hb dM_probe_1 rfl (lv_at hl 1 rfl) ?_
  refine lv_iload_n hx hb dM_probe_2 rfl (lv_at hl 2 rfl) ?_
  refine lv_iload_n hx hb dM_probe_3 rfl (lv_at hl 3 rfl) ?_
  have hPc := hP.sub (ws' := [(k0, .inr (2, [.int th, .ref yb, .ref zb, .int a1, .int a2, .int a3, .int a4, .int a5, .int a6, .int fo])), (yb, .inl (cI, 65536, .inl y)), (zb, .inl (cI, 33, .inl z))]) [0, 1, 2] rfl
  have hDc := hD.sub (ws' := [(k0, .inr (2, [.int th, .ref yb, .ref zb, .int a1, .int a2, .int a3, .int a4, .int a5, .int a6, .int fo])), (yb, .inl (cI, 65536, .inl y)), (zb, .inl (cI, 33, .inl z))]) [0, 1, 2] (by decide) rfl
  have hFc := va_free (wc := [(k0, .inr (2, [.int th, .ref yb, .ref zb, .int a1, .int a2, .int a3, .int a4, .int a5, .int a6, .int fo])), (yb, .inl (cI, 65536, .inl y)), (zb, .inl (cI, 33, .inl z))]) hD hS hA [0, 1, 2] rfl
  have hKc := hK.sub (tys' := [(cI, .int)]) [0] rfl
  refine va_calli (va_runV (As := [.int v, .int how, .int wd]) (rest := []) ⟨hx, hb, hml, hown, hts⟩ (c_M_wrong l dC dI (s.heap.size) k0 yb zb cI y z th a1 a2 a3 a4 a5 a6 fo v how wd) (cwV 3 hts gM_probe_M_wrong rfl rfl rfl (by decide +kernel) ⟨Nat.le_of_ble_eq_true rfl, Nat.le_of_ble_eq_true rfl⟩) ⟨fun a U g mk q => by obtain ⟨q0, q1, qP, qK, qD⟩ := q; exact ⟨q0, q1, qP, va_K.moved (u := U) (U := U.calling g mk a) (Vm.Alike.refl U.vm) qK, qD⟩, va_recv hKc hPc (ci := 2) (q0 := 0) rfl rfl, fun U hU hW => ⟨rfl, by rw [hU], by rw [hU]; exact hPc, va_K.moved hW.alike hKc, hDc.weaken (fun _ _ _ _ => trivial)⟩⟩ rfl rfl hl.1 rfl (lv_room (Nat.le_of_ble_eq_true rfl)) dM_probe_4 ⟨Nat.le_of_ble_eq_true rfl, Nat.le_of_ble_eq_true rfl⟩) hS (fun q _ h => hFc q h) hFc (fun r_1 u_3 t H1 locs ht hvm hw_2 hB hz1 hk1 hS => ?_)
  have e1_ : r_1 = (s_M_wrong z fo v how wd).1 := congrArg Prod.fst hw_2
  have e2_ : u_3 = (s_M_wrong z fo v how wd).2 := congrArg Prod.snd hw_2
  subst e1_ e2_
  obtain ⟨hP1, hK1, hD1⟩ := hB
  rw [ht] at hP1
  obtain ⟨hP, hD⟩ := va_join (wr := []) (w1 := [(k0, .inr (2, [.int th, .ref yb, .ref zb, .int a1, .int a2, .int a3, .int a4, .int a5, .int a6, .int ((s_M_wrong z fo v how wd).2)])), (yb, .inl (cI, 65536, .inl y)), (zb, .inl (cI, 33, .inl z))]) hP hD [0, 1, 2] [] rfl rfl (by decide) (by decide) hk1 hFc hP1 hD1
  generalize H1 = H at hP hS ⊢
  have hP : va_P (dC, dI) vwCl [(k0, .inr (2, [.int th, .ref yb, .ref zb, .int a1, .int a2, .int a3, .int a4, .int a5, .int a6, .int ((s_M_wrong z fo v how wd).2)])), (yb, .inl (cI, 65536, .inl y)), (zb, .inl (cI, 33, .inl z))] H := hP
  have hD : va_D A [(k0, .inr (2, [.int th, .ref yb, .ref zb, .int a1, .int a2, .int a3, .int a4, .int a5, .int a6, .int ((s_M_wrong z fo v how wd).2)])), (yb, .inl (cI, 65536, .inl y)), (zb, .inl (cI, 33, .inl z))] := hD
  refine lv_istore (lv' := [(4, .int ((s_M_wrong z fo v how wd).1)), (0, .ref k0), (1, .int v), (2, .int how), (3, .int wd)]) hx hb dM_probe_7 hl (by decide) rfl (fun ls hl => ?_)
  refine lv_iload hx hb dM_probe_9 (lv_at hl 0 rfl) ?_
  refine lv_if_le (tgt := 35) hx hb dM_probe_11 (by decide) (fun c_4 => ?_) (fun c_4 => ?_)
  · skip
    refine lv_iload hx hb dM_probe_35 (lv_at hl 0 rfl) ?_
    refine lv_if_ne (tgt := 44) hx hb dM_probe_37 (by decide) (fun c_5 => ?_) (fun c_5 => ?_)
    · skip
      refine lv_iconst (v := 0) hx hb dM_probe_44 (by decide) ?_
      exact W.zret (v := 0) hx hb hr rfl (fun t ht hW => ⟨⟨0, (a1, a2, a3, (s_M_wrong z fo v how wd).2), rfl, by simp only [s_M_probe, if_pos c_4, if_neg c_5], by rw [ht]; exact hP, va_K.moved hW.alike hK, hD⟩, hS.F ht⟩) hS.2.2 dM_probe_45
    · skip
      refine lv_iconst (v := 1) hx hb dM_probe_40 (by decide) ?_
      refine lv_goto (tgt := 45) hx hb dM_probe_41 (by decide) ?_
      exact W.zret (v := 1) hx hb hr rfl (fun t ht hW => ⟨⟨1, (a1, a2, a3, (s_M_wrong z fo v how wd).2), rfl, by simp only [s_M_probe, if_pos c_4, if_pos c_5], by rw [ht]; exact hP, va_K.moved hW.alike hK, hD⟩, hS.F ht⟩) hS.2.2 dM_probe_45
  · skip
    refine lv_aload_n hx hb dM_probe_14 rfl (lv_at hl 1 rfl) ?_
    refine lv_dup hx hb dM_probe_15 rfl ?_
    refine va_get (D := (dC, dI)) (ci := 2) (v := .int a1) (C := RX2) (T := TX2) (N := 10) hx hb hts miM_probe_X2 hown hK hP 0 rfl rfl 3 (by decide) (hts _ mbM_probe_1) (fun _ h9 => h9) rfl dM_probe_16 ?_
    refine lv_iconst (v := 1) hx hb dM_probe_19 (by decide) ?_
    refine lv_iadd hx hb dM_probe_20 ?_
    refine va_put (D := (dC, dI)) (ci := 2) (v := .int (a1 + 1)) (ty := tyX2 3) (C := RX2) (T := TX2) (N := 10) hx hb hts miM_probe_X2 tyX2 tyX2_ok nmX2 hown hK hP hD hS 0 rfl rfl 3 (by decide) (hts _ mbM_probe_1) (fun _ h9 => h9) rfl (by decide +kernel) rfl rfl (Nat.le_of_ble_eq_true rfl) dM_probe_21 (fun H locs hP hD hS => ?_)
    have hP : va_P (dC, dI) vwCl [(k0, .inr (2, [.int th, .ref yb, .ref zb, .int (a1 + 1), .int a2, .int a3, .int a4, .int a5, .int a6, .int ((s_M_wrong z fo v how wd).2)])), (yb, .inl (cI, 65536, .inl y)), (zb, .inl (cI, 33, .inl z))] H := hP
    have hD : va_D A [(k0, .inr (2, [.int th, .ref yb, .ref zb, .int (a1 + 1), .int a2, .int a3, .int a4, .int a5, .int a6, .int ((s_M_wrong z fo v how wd).2)])), (yb, .inl (cI, 65536, .inl y)), (zb, .inl (cI, 33, .inl z))] := hD
    refine lv_aload_n hx hb dM_probe_24 rfl (lv_at hl 1 rfl) ?_
    refine lv_iload hx hb dM_probe_25 (lv_at hl 0 rfl) ?_
    refine va_put (D := (dC, dI)) (ci := 2) (v := .int ((s_M_wrong z fo v how wd).1)) (ty := tyX2 4) (C := RX2) (T := TX2) (N := 10) hx hb hts miM_probe_X2 tyX2 tyX2_ok nmX2 hown hK hP hD hS 0 rfl rfl 4 (by decide) (hts _ mbM_probe_2) (fun _ h9 => h9) rfl (by decide +kernel) rfl rfl (Nat.le_of_ble_eq_true rfl) dM_probe_27 (fun H locs hP hD hS => ?_)
    have hP : va_P (dC, dI) vwCl [(k0, .inr (2, [.int th, .ref yb, .ref zb, .int (a1 + 1), .int ((s_M_wrong z fo v how wd).1), .int a3, .int a4, .int a5, .int a6, .int ((s_M_wrong z fo v how wd).2)])), (yb, .inl (cI, 65536, .inl y)), (zb, .inl (cI, 33, .inl z))] H := hP
    have hD : va_D A [(k0, .inr (2, [.int th, .ref yb, .ref zb, .int (a1 + 1), .int ((s_M_wrong z fo v how wd).1), .int a3, .int a4, .int a5, .int a6, .int ((s_M_wrong z fo v how wd).2)])), (yb, .inl (cI, 65536, .inl y)), (zb, .inl (cI, 33, .inl z))] := hD
    refine lv_aload_n hx hb dM_probe_30 rfl (lv_at hl 1 rfl) ?_
    refine lv_iload_n hx hb dM_probe_31 rfl (lv_at hl 2 rfl) ?_
    refine va_put (D := (dC, dI)) (ci := 2) (v := .int v) (ty := tyX2 5) (C := RX2) (T := TX2) (N := 10) hx hb hts miM_probe_X2 tyX2 tyX2_ok nmX2 hown hK hP hD hS 0 rfl rfl 5 (by decide) (hts _ mbM_probe_3) (fun _ h9 => h9) rfl (by decide +kernel) rfl rfl (Nat.le_of_ble_eq_true rfl) dM_probe_32 (fun H locs hP hD hS => ?_)
    have hP : va_P (dC, dI) vwCl [(k0, .inr (2, [.int th, .ref yb, .ref zb, .int (a1 + 1), .int ((s_M_wrong z fo v how wd).1), .int v, .int a4, .int a5, .int a6, .int ((s_M_wrong z fo v how wd).2)])), (yb, .inl (cI, 65536, .inl y)), (zb, .inl (cI, 33, .inl z))] H := hP
    have hD : va_D A [(k0, .inr (2, [.int th, .ref yb, .ref zb, .int (a1 + 1), .int ((s_M_wrong z fo v how wd).1), .int v, .int a4, .int a5, .int a6, .int ((s_M_wrong z fo v how wd).2)])), (yb, .inl (cI, 65536, .inl y)), (zb, .inl (cI, 33, .inl z))] := hD
    refine lv_iload hx hb dM_probe_35 (lv_at hl 0 rfl) ?_
    refine lv_if_ne (tgt := 44) hx hb dM_probe_37 (by decide) (fun c_6 => ?_) (fun c_6 => ?_)
    · skip
      refine lv_iconst (v := 0) hx hb dM_probe_44 (by decide) ?_
      exact W.zret (v := 0) hx hb hr rfl (fun t ht hW => ⟨⟨0, (a1 + 1, (s_M_wrong z fo v how wd).1, v, (s_M_wrong z fo v how wd).2), rfl, by simp only [s_M_probe, if_neg c_4, if_neg c_6], by rw [ht]; exact hP, va_K.moved hW.alike hK, hD⟩, hS.F ht⟩) hS.2.2 dM_probe_45
    · skip
      refine lv_iconst (v := 1) hx hb dM_probe_40 (by decide) ?_
      refine lv_goto (tgt := 45) hx hb dM_probe_41 (by decide) ?_
      exact W.zret (v := 1) hx hb hr rfl (fun t ht hW => ⟨⟨1, (a1 + 1, (s_M_wrong z fo v how wd).1, v, (s_M_wrong z fo v how wd).2), rfl, by simp only [s_M_probe, if_neg c_4, if_pos c_6], by rw [ht]; exact hP, va_K.moved hW.alike hK, hD⟩, hS.F ht⟩) hS.2.2 dM_probe_45
set_option maxRecDepth 100000 in
theorem miM_find_X2 : ∀ w ∈ u_ws RX2 TX2 10, w ∈ wsM_find := by decide +kernel
set_option maxRecDepth 100000 in
theorem mbM_find_1 : (.fieldLink RX2 17 "SoftMapsModel" "thrown" "I" : Cond) ∈ wsM_find := by decide +kernel
set_option maxRecDepth 100000 in
theorem mbM_find_2 : (.fieldLink RX2 46 "SoftMapsModel" "found" "I" : Cond) ∈ wsM_find := by decide +kernel
def s_M_find (z : Nat → Int32) (fo : Int32) (v : Int32) (how : Int32) (wd : Int32) : Int32 × Int32 × Int32 :=
  if how < 0 then
    (0, (0, fo))
  else
    if how ≤ 2 then
      if (s_M_wrong z fo v how wd).1 ≤ 0 then
        ((s_M_wrong z fo v how wd).2, (0, (s_M_wrong z fo v how wd).2))
      else
        (-((s_M_wrong z fo v how wd).1), (0, (s_M_wrong z fo v how wd).2))
    else
      (0, (0, fo))
set_option maxHeartbeats 4000000 in
set_option maxRecDepth 100000 in
theorem c_M_find (l : Launch) (dC : Nat → ClassId) (dI : Nat → Nat → Nat) (sz : Nat) (k0 yb zb : Nat) (cI : ClassId) (y z : Nat → Int32) (th a1 a2 a3 a4 a5 a6 fo : Int32) (v : Int32) (how : Int32) (wd : Int32)  : Met l yM_find wsM_find ({ frames := 2, cells := 0, slots := 0, locals := 56 }) (va_Pc [.ref k0, .int v, .int how, .int wd] (fun U => U.heap.size = sz ∧ va_P (dC, dI) vwCl [(k0, .inr (2, [.int th, .ref yb, .ref zb, .int a1, .int a2, .int a3, .int a4, .int a5, .int a6, .int fo])), (yb, .inl (cI, 65536, .inl y)), (zb, .inl (cI, 33, .inl z))] U.heap ∧ va_K (dC, dI) vwCl [(cI, .int)] U ∧ va_D (fun _ => True) [(k0, .inr (2, [.int th, .ref yb, .ref zb, .int a1, .int a2, .int a3, .int a4, .int a5, .int a6, .int fo])), (yb, .inl (cI, 65536, .inl y)), (zb, .inl (cI, 33, .inl z))])) (va_Qi (fun (a_ : Int32) (u : Int32 × Int32) => (a_, u) = s_M_find z fo v how wd) (fun (u : Int32 × Int32) (t : State) => va_P (dC, dI) vwCl [(k0, .inr (2, [.int u.1, .ref yb, .ref zb, .int a1, .int a2, .int a3, .int a4, .int a5, .int a6, .int u.2])), (yb, .inl (cI, 65536, .inl y)), (zb, .inl (cI, 33, .inl z))] t.heap ∧ va_K (dC, dI) vwCl [(cI, .int)] t ∧ va_D (va_A [(k0, .inr (2, [.int th, .ref yb, .ref zb, .int a1, .int a2, .int a3, .int a4, .int a5, .int a6, .int fo])), (yb, .inl (cI, 65536, .inl y)), (zb, .inl (cI, 33, .inl z))] sz) [(k0, .inr (2, [.int u.1, .ref yb, .ref zb, .int a1, .int a2, .int a3, .int a4, .int a5, .int a6, .int u.2])), (yb, .inl (cI, 65536, .inl y)), (zb, .inl (cI, 33, .inl z))]) (va_A [(k0, .inr (2, [.int th, .ref yb, .ref zb, .int a1, .int a2, .int a3, .int a4, .int a5, .int a6, .int fo])), (yb, .inl (cI, 65536, .inl y)), (zb, .inl (cI, 33, .inl z))] sz)) 0 0 (va_A [(k0, .inr (2, [.int th, .ref yb, .ref zb, .int a1, .int a2, .int a3, .int a4, .int a5, .int a6, .int fo])), (yb, .inl (cI, 65536, .inl y)), (zb, .inl (cI, 33, .inl z))] sz) := by
  refine Met.ofW (cc := cM_find) (maxL := 5) (ret := (some .int)) (by decide) rfl ?_
  intro p e s m args below meth c s₁ B hml hv
  obtain ⟨rfl, hsz, hP, hK, hD0⟩ := hv
  have hx := B.exec
  have hb := B.bytes
  have hr := B.returns
  have hts := atoms_spec (ws := wsM_find) B.pre
  have hown : s.vm.findClass RX2 = some m.cls := findClass_of_methodNamed B.named
  have hlocks := B.notSynchronized
  subst hsz
  have hD := hD0.self (sz := s.heap.size)
  generalize hAe : va_A [(k0, .inr (2, [.int th, .ref yb, .ref zb, .int a1, .int a2, .int a3, .int a4, .int a5, .int a6, .int fo])), (yb, .inl (cI, 65536, .inl y)), (zb, .inl (cI, 33, .inl z))] s.heap.size = A at hD ⊢
  have hA : ∀ q : Nat, s.heap.size ≤ q → A q := fun q h => by rw [← hAe]; exact Or.inr h
  have hS : va_S A s.heap s.heap [] := va_S.rf
  have hP : va_P (dC, dI) vwCl [(k0, .inr (2, [.int th, .ref yb, .ref zb, .int a1, .int a2, .int a3, .int a4, .int a5, .int a6, .int fo])), (yb, .inl (cI, 65536, .inl y)), (zb, .inl (cI, 33, .inl z))] s.heap := hP
  have hl := lv_entry ([.ref k0, .int v, .int how, .int wd]) (n := 5) (Nat.le_of_ble_eq_true rfl)
  rw [lg_entry_eq]
  generalize (lg_sl ([.ref k0, .int v, .int how, .int wd]) ++ List.replicate (5 - (lg_sl ([.ref k0, .int v, .int how, .int wd])).length) Slot.unset).toArray = ls at hl ⊢
  have hl : lv_has ls 5 [(0, .ref k0), (1, .int v), (2, .int how), (3, .int wd)] := hl
  refine lv_aload_n hx hb dM_find_0 rfl (lv_at hl 0 rfl) ?_
  refine lv_iconst (v := 0) hx hb dM_find_1 (by decide) ?_
  refine va_put (D := (dC, dI)) (ci := 2) (v := .int 0) (ty := tyX2 0) (C := RX2) (T := TX2) (N := 10) hx hb hts miM_find_X2 tyX2 tyX2_ok nmX2 hown hK hP hD hS 0 rfl rfl 0 (by decide) (hts _ mbM_find_1) (fun _ h9 => h9) rfl (by decide +kernel) rfl rfl (Nat.le_of_ble_eq_true rfl) dM_find_2 (fun H locs hP hD hS => ?_)
  have hP : va_P (dC, dI) vwCl [(k0, .inr (2, [.int 0, .ref yb, .ref zb, .int a1, .int a2, .int a3, .int a4, .int a5, .int a6, .int fo])), (yb, .inl (cI, 65536, .inl y)), (zb, .inl (cI, 33, .inl z))] H := hP
  have hD : va_D A [(k0, .inr (2, [.int 0, .ref yb, .ref zb, .int a1, .int a2, .int a3, .int a4, .int a5, .int a6, .int fo])), (yb, .inl (cI, 65536, .inl y)), (zb, .inl (cI, 33, .inl z))] := hD
  refine lv_iload_n hx hb dM_find_5 rfl (lv_at hl 2 rfl) ?_
  refine lv_if_lt (tgt := 14) hx hb dM_find_6 (by decide) (fun c_1 => ?_) (fun c_1 => ?_)
  · skip
    refine lv_iconst (v := 0) hx hb dM_find_14 (by decide) ?_
    exact W.iret (v := 0) hx hb hr (fun t ht hW => ⟨⟨0, (0, fo), rfl, by simp only [s_M_find, if_pos c_1], by rw [ht]; exact hP, va_K.moved hW.alike hK, hD⟩, hS.F ht⟩) hS.2.2 dM_find_15
  · skip
    refine lv_iload_n hx hb dM_find_9 rfl (lv_at hl 2 rfl) ?_
    refine lv_iconst (v := 2) hx hb dM_find_10 (by decide) ?_
    refine lv_icmp_le (tgt := 16) hx hb dM_find_11 (by decide) (fun c_2 => ?_) (fun c_2 => ?_)
    · skip
      refine lv_aload_n hx hb dM_find_16 rfl (lv_at hl 0 rfl) ?_
      refine lv_iload_n hx hb dM_find_17 rfl (lv_at hl 1 rfl) ?_
      refine lv_iload_n hx hb dM_find_18 rfl (lv_at hl 2 rfl) ?_
      refine lv_iload_n hx hb dM_find_19 rfl (lv_at hl 3 rfl) ?_
      have hPc := hP.sub (ws' := [(k0, .inr (2, [.int 0, .ref yb, .ref zb, .int a1, .int a2, .int a3, .int a4, .int a5, .int a6, .int fo])), (yb, .inl (cI, 65536, .inl y)), (zb, .inl (cI, 33, .inl z))]) [0, 1, 2] rfl
      have hDc := hD.sub (ws' := [(k0, .inr (2, [.int 0, .ref yb, .ref zb, .int a1, .int a2, .int a3, .int a4, .int a5, .int a6, .int fo])), (yb, .inl (cI, 65536, .inl y)), (zb, .inl (cI, 33, .inl z))]) [0, 1, 2] (by decide) rfl
      have hFc := va_free (wc := [(k0, .inr (2, [.int 0, .ref yb, .ref zb, .int a1, .int a2, .int a3, .int a4, .int a5, .int a6, .int fo])), (yb, .inl (cI, 65536, .inl y)), (zb, .inl (cI, 33, .inl z))]) hD hS hA [0, 1, 2] rfl
      have hKc := hK.sub (tys' := [(cI, .int)]) [0] rfl
      refine va_calli (va_runV (As := [.int v, .int how, .int wd]) (rest := []) ⟨hx, hb, hml, hown, hts⟩ (c_M_wrong l dC dI (H.size) k0 yb zb cI y z 0 a1 a2 a3 a4 a5 a6 fo v how wd) (cwV 3 hts gM_find_M_wrong rfl rfl rfl (by decide +kernel) ⟨Nat.le_of_ble_eq_true rfl, Nat.le_of_ble_eq_true rfl⟩) ⟨fun a U g mk q => by obtain ⟨q0, q1, qP, qK, qD⟩ := q; exact ⟨q0, q1, qP, va_K.moved (u := U) (U := U.calling g mk a) (Vm.Alike.refl U.vm) qK, qD⟩, va_recv hKc hPc (ci := 2) (q0 := 0) rfl rfl, fun U hU hW => ⟨rfl, by rw [hU], by rw [hU]; exact hPc, va_K.moved hW.alike hKc, hDc.weaken (fun _ _ _ _ => trivial)⟩⟩ rfl rfl hl.1 rfl (lv_room (Nat.le_of_ble_eq_true rfl)) dM_find_20 ⟨Nat.le_of_ble_eq_true rfl, Nat.le_of_ble_eq_true rfl⟩) hS (fun q _ h => hFc q h) hFc (fun r_3 u_5 t H1 locs ht hvm hw_4 hB hz1 hk1 hS => ?_)
      have e1_ : r_3 = (s_M_wrong z fo v how wd).1 := congrArg Prod.fst hw_4
      have e2_ : u_5 = (s_M_wrong z fo v how wd).2 := congrArg Prod.snd hw_4
      subst e1_ e2_
      obtain ⟨hP1, hK1, hD1⟩ := hB
      rw [ht] at hP1
      obtain ⟨hP, hD⟩ := va_join (wr := []) (w1 := [(k0, .inr (2, [.int 0, .ref yb, .ref zb, .int a1, .int a2, .int a3, .int a4, .int a5, .int a6, .int ((s_M_wrong z fo v how wd).2)])), (yb, .inl (cI, 65536, .inl y)), (zb, .inl (cI, 33, .inl z))]) hP hD [0, 1, 2] [] rfl rfl (by decide) (by decide) hk1 hFc hP1 hD1
      generalize H1 = H at hP hS ⊢
      have hP : va_P (dC, dI) vwCl [(k0, .inr (2, [.int 0, .ref yb, .ref zb, .int a1, .int a2, .int a3, .int a4, .int a5, .int a6, .int ((s_M_wrong z fo v how wd).2)])), (yb, .inl (cI, 65536, .inl y)), (zb, .inl (cI, 33, .inl z))] H := hP
      have hD : va_D A [(k0, .inr (2, [.int 0, .ref yb, .ref zb, .int a1, .int a2, .int a3, .int a4, .int a5, .int a6, .int ((s_M_wrong z fo v how wd).2)])), (yb, .inl (cI, 65536, .inl y)), (zb, .inl (cI, 33, .inl z))] := hD
      refine lv_istore (lv' := [(4, .int ((s_M_wrong z fo v how wd).1)), (0, .ref k0), (1, .int v), (2, .int how), (3, .int wd)]) hx hb dM_find_23 hl (by decide) rfl (fun ls hl => ?_)
      refine lv_iload hx hb dM_find_25 (lv_at hl 0 rfl) ?_
      refine lv_if_le (tgt := 36) hx hb dM_find_27 (by decide) (fun c_6 => ?_) (fun c_6 => ?_)
      · skip
        refine lv_aload_n hx hb dM_find_36 rfl (lv_at hl 1 rfl) ?_
        refine va_get (D := (dC, dI)) (ci := 2) (v := .int ((s_M_wrong z fo v how wd).2)) (C := RX2) (T := TX2) (N := 10) hx hb hts miM_find_X2 hown hK hP 0 rfl rfl 9 (by decide) (hts _ mbM_find_2) (fun _ h9 => h9) rfl dM_find_37 ?_
        exact W.iret (v := (s_M_wrong z fo v how wd).2) hx hb hr (fun t ht hW => ⟨⟨(s_M_wrong z fo v how wd).2, (0, (s_M_wrong z fo v how wd).2), rfl, by simp only [s_M_find, if_neg c_1, if_pos c_2, if_pos c_6], by rw [ht]; exact hP, va_K.moved hW.alike hK, hD⟩, hS.F ht⟩) hS.2.2 dM_find_40
      · skip
        refine lv_iload hx hb dM_find_30 (lv_at hl 0 rfl) ?_
        refine lv_ineg hx hb dM_find_32 ?_
        refine lv_goto (tgt := 40) hx hb dM_find_33 (by decide) ?_
        exact W.iret (v := -((s_M_wrong z fo v how wd).1)) hx hb hr (fun t ht hW => ⟨⟨-((s_M_wrong z fo v how wd).1), (0, (s_M_wrong z fo v how wd).2), rfl, by simp only [s_M_find, if_neg c_1, if_pos c_2, if_neg c_6], by rw [ht]; exact hP, va_K.moved hW.alike hK, hD⟩, hS.F ht⟩) hS.2.2 dM_find_40
    · skip
      refine lv_iconst (v := 0) hx hb dM_find_14 (by decide) ?_
      exact W.iret (v := 0) hx hb hr (fun t ht hW => ⟨⟨0, (0, fo), rfl, by simp only [s_M_find, if_neg c_1, if_neg c_2], by rw [ht]; exact hP, va_K.moved hW.alike hK, hD⟩, hS.F ht⟩) hS.2.2 dM_find_15
end
section
set_option maxRecDepth 100000 in
theorem mbX0_init_0 : (.methodLink RX0 3 objectInit : Cond) ∈ wsX0_init := by decide +kernel
set_option maxRecDepth 100000 in
theorem mbX0_init_1 : (.instanceMethod objectInit : Cond) ∈ wsX0_init := by decide +kernel
set_option maxRecDepth 100000 in
theorem mbX0_init_2 : (.code objectInit ⟨#[0xb1]⟩ 1 none : Cond) ∈ wsX0_init := List.mem_of_getElem? (i := 3) rfl
set_option maxRecDepth 100000 in
theorem mbX0_init_3 : (.classLink RX0 9 "[I" : Cond) ∈ wsX0_init := by decide +kernel
set_option maxRecDepth 100000 in
theorem miX0_init_X0 : ∀ w ∈ u_ws RX0 TX0 1, w ∈ wsX0_init := by decide +kernel
set_option maxRecDepth 100000 in
theorem mbX0_init_5 : (.fieldLink RX0 11 "SoftMaps$Memory" "pages" "[[I" : Cond) ∈ wsX0_init := by decide +kernel
set_option maxHeartbeats 4000000 in
set_option maxRecDepth 100000 in
theorem c_X0_init (l : Launch) (dC : Nat → ClassId) (dI : Nat → Nat → Nat) (sz : Nat) (me : Nat)  : Met l yX0_init wsX0_init ({ frames := 1, cells := 1, slots := 64, locals := 12 }) (va_Pc [.ref me] (fun U => U.heap.size = sz ∧ va_P (dC, dI) vwCl [(me, .inr (0, [.null]))] U.heap ∧ va_K (dC, dI) vwCl [] U ∧ va_D (fun _ => True) [(me, .inr (0, [.null]))] ∧ ag_O .int U)) (va_Qv (fun u : Nat × ClassId => True) (fun (u : Nat × ClassId) (t : State) => va_P (dC, dI) vwCl [(me, .inr (0, [.ref u.1])), (u.1, .inl (u.2, 64, .inr (.inr (.inr (.inr (fun _ => none))))))] t.heap ∧ va_K (dC, dI) vwCl [(u.2, .array .int)] t ∧ va_D (va_A [(me, .inr (0, [.null]))] sz) [(me, .inr (0, [.ref u.1])), (u.1, .inl (u.2, 64, .inr (.inr (.inr (.inr (fun _ => none))))))]) (va_A [(me, .inr (0, [.null]))] sz)) 1 64 (va_A [(me, .inr (0, [.null]))] sz) := by
  refine Met.ofW (cc := cX0_init) (maxL := 1) (ret := none) (by decide) rfl ?_
  intro p e s m args below meth c s₁ B hml hv
  obtain ⟨rfl, hsz, hP, hK, hD0, hZ⟩ := hv
  have hx := B.exec
  have hb := B.bytes
  have hr := B.returns
  have hts := atoms_spec (ws := wsX0_init) B.pre
  have hown : s.vm.findClass RX0 = some m.cls := findClass_of_methodNamed B.named
  have hlocks := B.notSynchronized
  have hin : meth.name = "<init>" := (name_of_methodNamed B.named B.method).1
  subst hsz
  have hD := hD0.self (sz := s.heap.size)
  generalize hAe : va_A [(me, .inr (0, [.null]))] s.heap.size = A at hD ⊢
  have hA : ∀ q : Nat, s.heap.size ≤ q → A q := fun q h => by rw [← hAe]; exact Or.inr h
  have hS : va_S A s.heap s.heap [] := va_S.rf
  have hP : va_P (dC, dI) vwCl [(me, .inr (0, [.null]))] s.heap := hP
  have hl := lv_entry ([.ref me]) (n := 1) (Nat.le_of_ble_eq_true rfl)
  rw [lg_entry_eq]
  generalize (lg_sl ([.ref me]) ++ List.replicate (1 - (lg_sl ([.ref me])).length) Slot.unset).toArray = ls at hl ⊢
  have hl : lv_has ls 1 [(0, .ref me)] := hl
  refine lv_aload_n hx hb dX0_init_0 rfl (lv_at hl 0 rfl) ?_
  refine W.objInit hx hb hown (hts _ mbX0_init_0) (hts _ mbX0_init_1) (hts _ mbX0_init_2) rfl (by rw [hml]; exact hl.1) rfl dX0_init_1 (Nat.le_of_ble_eq_true rfl) (Nat.le_of_ble_eq_true rfl) ?_
  refine W.eq (g2 := F0 m 4 ls []) rfl ?_
  refine lv_aload_n hx hb dX0_init_4 rfl (lv_at hl 0 rfl) ?_
  refine lv_bipush (v := 64) hx hb dX0_init_5 (by decide) ?_
  refine ag_new (t := .int) (N' := 64) (n := 64) hx hb hown (ag_cl (show (FieldType.array .int).toString = "[I" by decide +kernel) (hts _ mbX0_init_3)) hZ hK hP hD hS hA (by decide) (by decide +kernel) (by decide) (Nat.le_of_ble_eq_true rfl) (Nat.le_of_ble_eq_true rfl) dX0_init_7 (fun q_1 cP_2 H hK hP hD hS => ?_)
  have hP : va_P (dC, dI) vwCl [(me, .inr (0, [.null])), (q_1, .inl (cP_2, 64, .inr (.inr (.inr (.inr (fun _ => none))))))] H := hP
  have hD : va_D A [(me, .inr (0, [.null])), (q_1, .inl (cP_2, 64, .inr (.inr (.inr (.inr (fun _ => none))))))] := hD
  have hK : va_K (dC, dI) vwCl [(cP_2, .array .int)] s := hK
  refine W.widen (k := 1) (n := 64) (by omega) (by omega) ?_
  refine va_putF (D := (dC, dI)) (ci := 0) (v := .ref q_1) (ty := tyX0 0) (C := RX0) (T := TX0) (N := 1) hx hb hts miX0_init_X0 tyX0 tyX0_ok nmX0 hown hK hP hD hS 0 rfl rfl 0 (by decide) (hts _ mbX0_init_5) (fun _ h9 => h9) rfl hin rfl (by decide +kernel) rfl rfl (Nat.le_of_ble_eq_true rfl) dX0_init_10 (fun H locs hP hD hS => ?_)
  have hP : va_P (dC, dI) vwCl [(me, .inr (0, [.ref q_1])), (q_1, .inl (cP_2, 64, .inr (.inr (.inr (.inr (fun _ => none))))))] H := hP
  have hD : va_D A [(me, .inr (0, [.ref q_1])), (q_1, .inl (cP_2, 64, .inr (.inr (.inr (.inr (fun _ => none))))))] := hD
  exact W.vret hx hb hr (fun t ht hW => ⟨⟨(q_1, cP_2), rfl, trivial, by rw [ht]; exact hP, va_K.moved hW.alike hK, hD⟩, hS.F ht⟩) hS.2.2 dX0_init_13
set_option maxRecDepth 100000 in
theorem mbX1_init_0 : (.methodLink RX1 3 objectInit : Cond) ∈ wsX1_init := by decide +kernel
set_option maxRecDepth 100000 in
theorem mbX1_init_1 : (.instanceMethod objectInit : Cond) ∈ wsX1_init := by decide +kernel
set_option maxRecDepth 100000 in
theorem mbX1_init_2 : (.code objectInit ⟨#[0xb1]⟩ 1 none : Cond) ∈ wsX1_init := List.mem_of_getElem? (i := 3) rfl
set_option maxRecDepth 100000 in
theorem miX1_init_X0 : ∀ w ∈ u_ws RX0 TX0 1, w ∈ wsX1_init := by decide +kernel
set_option maxRecDepth 100000 in
theorem mbX1_init_4 : (.classLink RX1 9 RX0 : Cond) ∈ wsX1_init := by decide +kernel
set_option maxRecDepth 100000 in
theorem mbX1_init_5 : (.instantiable RX0 1 : Cond) ∈ wsX1_init := by decide +kernel
set_option maxRecDepth 100000 in
theorem mbX1_init_6 : (.initialized RX0 : Cond) ∈ wsX1_init := by decide +kernel
set_option maxRecDepth 100000 in
theorem mbX1_init_7 : (.instanceMethod yX0_init : Cond) ∈ wsX1_init := by decide +kernel
set_option maxRecDepth 100000 in
theorem miX1_init_X1 : ∀ w ∈ u_ws RX1 TX1 8, w ∈ wsX1_init := by decide +kernel
set_option maxRecDepth 100000 in
theorem mbX1_init_9 : (.fieldLink RX1 12 "SoftMaps" "memory" "LSoftMaps$Memory;" : Cond) ∈ wsX1_init := by decide +kernel
set_option maxRecDepth 100000 in
theorem mbX1_init_10 : (.arrayClass .int : Cond) ∈ wsX1_init := by decide +kernel
set_option maxRecDepth 100000 in
theorem mbX1_init_11 : (.fieldLink RX1 16 "SoftMaps" "specials" "[I" : Cond) ∈ wsX1_init := by decide +kernel
set_option maxHeartbeats 4000000 in
set_option maxRecDepth 100000 in
theorem c_X1_init (l : Launch) (dC : Nat → ClassId) (dI : Nat → Nat → Nat) (sz : Nat) (h0 : Nat)  : Met l yX1_init wsX1_init ({ frames := 2, cells := 3, slots := 98, locals := 32 }) (va_Pc [.ref h0] (fun U => U.heap.size = sz ∧ va_P (dC, dI) vwCl [(h0, .inr (1, [.null, .null, .int 0, .int 0, .int 0, .int 0, .int 0, .int 0]))] U.heap ∧ va_K (dC, dI) vwCl [] U ∧ va_D (fun _ => True) [(h0, .inr (1, [.null, .null, .int 0, .int 0, .int 0, .int 0, .int 0, .int 0]))] ∧ ag_O .int U ∧ va_Nw (.methodLinkNest RX1 11 yX0_init "SoftMaps") U)) (va_Qv (fun u : Nat × Nat × ClassId × Nat × ClassId => True) (fun (u : Nat × Nat × ClassId × Nat × ClassId) (t : State) => va_P (dC, dI) vwCl [(h0, .inr (1, [.ref u.1, .ref u.2.2.2.1, .int 0, .int 0, .int 0, .int 0, .int 0, .int 0])), (u.2.2.2.1, .inl (u.2.2.2.2, 33, .inl (fun _ => 0))), (u.1, .inr (0, [.ref u.2.1])), (u.2.1, .inl (u.2.2.1, 64, .inr (.inr (.inr (.inr (fun _ => none))))))] t.heap ∧ va_K (dC, dI) vwCl [(u.2.2.2.2, .int), (u.2.2.1, .array .int)] t ∧ va_D (va_A [(h0, .inr (1, [.null, .null, .int 0, .int 0, .int 0, .int 0, .int 0, .int 0]))] sz) [(h0, .inr (1, [.ref u.1, .ref u.2.2.2.1, .int 0, .int 0, .int 0, .int 0, .int 0, .int 0])), (u.2.2.2.1, .inl (u.2.2.2.2, 33, .inl (fun _ => 0))), (u.1, .inr (0, [.ref u.2.1])), (u.2.1, .inl (u.2.2.1, 64, .inr (.inr (.inr (.inr (fun _ => none))))))]) (va_A [(h0, .inr (1, [.null, .null, .int 0, .int 0, .int 0, .int 0, .int 0, .int 0]))] sz)) 3 98 (va_A [(h0, .inr (1, [.null, .null, .int 0, .int 0, .int 0, .int 0, .int 0, .int 0]))] sz) := by
  refine Met.ofW (cc := cX1_init) (maxL := 1) (ret := none) (by decide) rfl ?_
  intro p e s m args below meth c s₁ B hml hv
  obtain ⟨rfl, hsz, hP, hK, hD0, hZ, hN⟩ := hv
  have hx := B.exec
  have hb := B.bytes
  have hr := B.returns
  have hts := atoms_spec (ws := wsX1_init) B.pre
  have hown : s.vm.findClass RX1 = some m.cls := findClass_of_methodNamed B.named
  have hlocks := B.notSynchronized
  have hin : meth.name = "<init>" := (name_of_methodNamed B.named B.method).1
  subst hsz
  have hD := hD0.self (sz := s.heap.size)
  generalize hAe : va_A [(h0, .inr (1, [.null, .null, .int 0, .int 0, .int 0, .int 0, .int 0, .int 0]))] s.heap.size = A at hD ⊢
  have hA : ∀ q : Nat, s.heap.size ≤ q → A q := fun q h => by rw [← hAe]; exact Or.inr h
  have hS : va_S A s.heap s.heap [] := va_S.rf
  have hP : va_P (dC, dI) vwCl [(h0, .inr (1, [.null, .null, .int 0, .int 0, .int 0, .int 0, .int 0, .int 0]))] s.heap := hP
  have hl := lv_entry ([.ref h0]) (n := 1) (Nat.le_of_ble_eq_true rfl)
  rw [lg_entry_eq]
  generalize (lg_sl ([.ref h0]) ++ List.replicate (1 - (lg_sl ([.ref h0])).length) Slot.unset).toArray = ls at hl ⊢
  have hl : lv_has ls 1 [(0, .ref h0)] := hl
  refine lv_aload_n hx hb dX1_init_0 rfl (lv_at hl 0 rfl) ?_
  refine W.objInit hx hb hown (hts _ mbX1_init_0) (hts _ mbX1_init_1) (hts _ mbX1_init_2) rfl (by rw [hml]; exact hl.1) rfl dX1_init_1 (Nat.le_of_ble_eq_true rfl) (Nat.le_of_ble_eq_true rfl) ?_
  refine W.eq (g2 := F0 m 4 ls []) rfl ?_
  refine lv_aload_n hx hb dX1_init_4 rfl (lv_at hl 0 rfl) ?_
  refine va_new (ci := 0) (fs := [.null]) (C := RX0) (T := TX0) (N := 1) hx hb hts miX1_init_X0 tyX0 tyX0_ok hown (hts _ mbX1_init_4) (hts _ mbX1_init_5) (hts _ mbX1_init_6) hK hP hD hS hA rfl (fun j hj => by rcases (show j = 0 by omega) with rfl <;> rfl) (Nat.le_of_ble_eq_true rfl) (Nat.le_of_ble_eq_true rfl) dX1_init_5 (fun q_1 H hP hD hS => ?_)
  have hP : va_P (dC, dI) vwCl [(h0, .inr (1, [.null, .null, .int 0, .int 0, .int 0, .int 0, .int 0, .int 0])), (q_1, .inr (0, [.null]))] H := hP
  have hD : va_D A [(h0, .inr (1, [.null, .null, .int 0, .int 0, .int 0, .int 0, .int 0, .int 0])), (q_1, .inr (0, [.null]))] := hD
  refine W.widen (k := 1) (n := 1) (by omega) (by omega) ?_
  refine lv_dup hx hb dX1_init_8 rfl ?_
  have hPc := hP.sub (ws' := [(q_1, .inr (0, [.null]))]) [1] rfl
  have hDc := hD.sub (ws' := [(q_1, .inr (0, [.null]))]) [1] (by decide) rfl
  have hFc := va_free (wc := [(q_1, .inr (0, [.null]))]) hD hS hA [1] rfl
  have hKc := hK.sub (tys' := []) [] rfl
  refine va_callv (va_runIN (As := []) (rest := [.ref q_1, .ref h0]) ⟨hx, hb, hml, hown, hts⟩ (c_X0_init l dC dI (H.size) q_1) (⟨va_cnB 0 hts ggX1_init_X0_init rfl rfl rfl hN (hts _ mbX1_init_6) (by decide +kernel) ⟨Nat.le_of_ble_eq_true rfl, Nat.le_of_ble_eq_true rfl⟩, rfl, hts _ mbX1_init_7⟩) ⟨fun a U g mk q => by obtain ⟨q0, q1, qP, qK, qD, q7⟩ := q; exact ⟨q0, q1, qP, va_K.moved (u := U) (U := U.calling g mk a) (Vm.Alike.refl U.vm) qK, qD, ag_O.moved (Vm.Alike.refl U.vm) q7⟩, fun U hU hW => ⟨rfl, by rw [hU], by rw [hU]; exact hPc, va_K.moved hW.alike hKc, hDc.weaken (fun _ _ _ _ => trivial), hZ.moved hW.alike⟩⟩ rfl rfl hl.1 rfl (lv_room (Nat.le_of_ble_eq_true rfl)) dX1_init_9 ⟨Nat.le_of_ble_eq_true rfl, Nat.le_of_ble_eq_true rfl⟩) hS (fun q _ h => hFc q h) hFc (fun u_4 t H1 locs ht hvm hw_3 hB hz1 hk1 hS => ?_)
  obtain ⟨pg_, cP_⟩ := u_4
  obtain ⟨hP1, hK1, hD1⟩ := hB
  rw [ht] at hP1
  obtain ⟨hP, hD⟩ := va_join (wr := [(h0, .inr (1, [.null, .null, .int 0, .int 0, .int 0, .int 0, .int 0, .int 0]))]) (w1 := [(q_1, .inr (0, [.ref pg_])), (pg_, .inl (cP_, 64, .inr (.inr (.inr (.inr (fun _ => none))))))]) hP hD [1] [0] rfl rfl (by decide) (by decide) hk1 hFc hP1 hD1
  generalize H1 = H at hP hS ⊢
  have hK := hK.app ((va_K.moved hvm.symm hK1).sub (tys' := [(cP_, .array .int)]) [0] rfl)
  have hK : va_K (dC, dI) vwCl [(cP_, .array .int)] s := hK
  have hP : va_P (dC, dI) vwCl [(h0, .inr (1, [.null, .null, .int 0, .int 0, .int 0, .int 0, .int 0, .int 0])), (q_1, .inr (0, [.ref pg_])), (pg_, .inl (cP_, 64, .inr (.inr (.inr (.inr (fun _ => none))))))] H := hP
  have hD : va_D A [(h0, .inr (1, [.null, .null, .int 0, .int 0, .int 0, .int 0, .int 0, .int 0])), (q_1, .inr (0, [.ref pg_])), (pg_, .inl (cP_, 64, .inr (.inr (.inr (.inr (fun _ => none))))))] := hD
  refine W.widen (k := 2) (n := 65) (by omega) (by omega) ?_
  refine va_putF (D := (dC, dI)) (ci := 1) (v := .ref q_1) (ty := tyX1 0) (C := RX1) (T := TX1) (N := 8) hx hb hts miX1_init_X1 tyX1 tyX1_ok nmX1 hown hK hP hD hS 0 rfl rfl 0 (by decide) (hts _ mbX1_init_9) (fun _ h9 => h9) rfl hin rfl (by decide +kernel) rfl rfl (Nat.le_of_ble_eq_true rfl) dX1_init_12 (fun H locs hP hD hS => ?_)
  have hP : va_P (dC, dI) vwCl [(h0, .inr (1, [.ref q_1, .null, .int 0, .int 0, .int 0, .int 0, .int 0, .int 0])), (q_1, .inr (0, [.ref pg_])), (pg_, .inl (cP_, 64, .inr (.inr (.inr (.inr (fun _ => none))))))] H := hP
  have hD : va_D A [(h0, .inr (1, [.ref q_1, .null, .int 0, .int 0, .int 0, .int 0, .int 0, .int 0])), (q_1, .inr (0, [.ref pg_])), (pg_, .inl (cP_, 64, .inr (.inr (.inr (.inr (fun _ => none))))))] := hD
  refine lv_aload_n hx hb dX1_init_15 rfl (lv_at hl 0 rfl) ?_
  refine lv_bipush (v := 33) hx hb dX1_init_16 (by decide) ?_
  refine va_newa (atype := .int) (N' := 33) (a0 := (33, .inl (fun _ => 0))) (ty := .int) (n := 33) hx hb (hts _ mbX1_init_10) rfl hK hP hD hS hA (fun _ => rfl) (by decide) (by decide +kernel) (by decide) (Nat.le_of_ble_eq_true rfl) (Nat.le_of_ble_eq_true rfl) dX1_init_18 (fun q_5 cA_6 H hK hP hD hS => ?_)
  have hP : va_P (dC, dI) vwCl [(h0, .inr (1, [.ref q_1, .null, .int 0, .int 0, .int 0, .int 0, .int 0, .int 0])), (q_1, .inr (0, [.ref pg_])), (pg_, .inl (cP_, 64, .inr (.inr (.inr (.inr (fun _ => none)))))), (q_5, .inl (cA_6, 33, .inl (fun _ => 0)))] H := hP
  have hD : va_D A [(h0, .inr (1, [.ref q_1, .null, .int 0, .int 0, .int 0, .int 0, .int 0, .int 0])), (q_1, .inr (0, [.ref pg_])), (pg_, .inl (cP_, 64, .inr (.inr (.inr (.inr (fun _ => none)))))), (q_5, .inl (cA_6, 33, .inl (fun _ => 0)))] := hD
  have hK : va_K (dC, dI) vwCl [(cP_, .array .int), (cA_6, .int)] s := hK
  refine W.widen (k := 3) (n := 98) (by omega) (by omega) ?_
  refine va_putF (D := (dC, dI)) (ci := 1) (v := .ref q_5) (ty := tyX1 1) (C := RX1) (T := TX1) (N := 8) hx hb hts miX1_init_X1 tyX1 tyX1_ok nmX1 hown hK hP hD hS 0 rfl rfl 1 (by decide) (hts _ mbX1_init_11) (fun _ h9 => h9) rfl hin rfl (by decide +kernel) rfl rfl (Nat.le_of_ble_eq_true rfl) dX1_init_20 (fun H locs hP hD hS => ?_)
  have hP : va_P (dC, dI) vwCl [(h0, .inr (1, [.ref q_1, .ref q_5, .int 0, .int 0, .int 0, .int 0, .int 0, .int 0])), (q_1, .inr (0, [.ref pg_])), (pg_, .inl (cP_, 64, .inr (.inr (.inr (.inr (fun _ => none)))))), (q_5, .inl (cA_6, 33, .inl (fun _ => 0)))] H := hP
  have hD : va_D A [(h0, .inr (1, [.ref q_1, .ref q_5, .int 0, .int 0, .int 0, .int 0, .int 0, .int 0])), (q_1, .inr (0, [.ref pg_])), (pg_, .inl (cP_, 64, .inr (.inr (.inr (.inr (fun _ => none)))))), (q_5, .inl (cA_6, 33, .inl (fun _ => 0)))] := hD
  exact W.vret hx hb hr (fun t ht hW => ⟨⟨(q_1, pg_, cP_, q_5, cA_6), rfl, trivial, by rw [ht]; exact hP.sub [0, 3, 1, 2] rfl, va_K.moved hW.alike (hK.sub [1, 0] rfl), hD.sub [0, 3, 1, 2] (by decide) rfl⟩, hS.F ht⟩) hS.2.2 dX1_init_23
set_option maxRecDepth 100000 in
theorem mbM_init_0 : (.methodLink RX2 1 objectInit : Cond) ∈ wsM_init := by decide +kernel
set_option maxRecDepth 100000 in
theorem mbM_init_1 : (.instanceMethod objectInit : Cond) ∈ wsM_init := by decide +kernel
set_option maxRecDepth 100000 in
theorem mbM_init_2 : (.code objectInit ⟨#[0xb1]⟩ 1 none : Cond) ∈ wsM_init := List.mem_of_getElem? (i := 3) rfl
set_option maxRecDepth 100000 in
theorem mbM_init_3 : (.constant RX2 7 (65536) : Cond) ∈ wsM_init := by decide +kernel
set_option maxRecDepth 100000 in
theorem mbM_init_4 : (.arrayClass .int : Cond) ∈ wsM_init := by decide +kernel
set_option maxRecDepth 100000 in
theorem miM_init_X2 : ∀ w ∈ u_ws RX2 TX2 10, w ∈ wsM_init := by decide +kernel
set_option maxRecDepth 100000 in
theorem mbM_init_6 : (.fieldLink RX2 8 "SoftMapsModel" "bytes" "[I" : Cond) ∈ wsM_init := by decide +kernel
set_option maxRecDepth 100000 in
theorem mbM_init_7 : (.fieldLink RX2 14 "SoftMapsModel" "specials" "[I" : Cond) ∈ wsM_init := by decide +kernel
set_option maxHeartbeats 4000000 in
set_option maxRecDepth 100000 in
theorem c_M_init (l : Launch) (dC : Nat → ClassId) (dI : Nat → Nat → Nat) (sz : Nat) (k0 : Nat)  : Met l yM_init wsM_init ({ frames := 1, cells := 2, slots := 65569, locals := 12 }) (va_Pc [.ref k0] (fun U => U.heap.size = sz ∧ va_P (dC, dI) vwCl [(k0, .inr (2, [.int 0, .null, .null, .int 0, .int 0, .int 0, .int 0, .int 0, .int 0, .int 0]))] U.heap ∧ va_K (dC, dI) vwCl [] U ∧ va_D (fun _ => True) [(k0, .inr (2, [.int 0, .null, .null, .int 0, .int 0, .int 0, .int 0, .int 0, .int 0, .int 0]))])) (va_Qv (fun u : Nat × Nat × ClassId => True) (fun (u : Nat × Nat × ClassId) (t : State) => va_P (dC, dI) vwCl [(k0, .inr (2, [.int 0, .ref u.1, .ref u.2.1, .int 0, .int 0, .int 0, .int 0, .int 0, .int 0, .int 0])), (u.1, .inl (u.2.2, 65536, .inl (fun _ => 0))), (u.2.1, .inl (u.2.2, 33, .inl (fun _ => 0)))] t.heap ∧ va_K (dC, dI) vwCl [(u.2.2, .int)] t ∧ va_D (va_A [(k0, .inr (2, [.int 0, .null, .null, .int 0, .int 0, .int 0, .int 0, .int 0, .int 0, .int 0]))] sz) [(k0, .inr (2, [.int 0, .ref u.1, .ref u.2.1, .int 0, .int 0, .int 0, .int 0, .int 0, .int 0, .int 0])), (u.1, .inl (u.2.2, 65536, .inl (fun _ => 0))), (u.2.1, .inl (u.2.2, 33, .inl (fun _ => 0)))]) (va_A [(k0, .inr (2, [.int 0, .null, .null, .int 0, .int 0, .int 0, .int 0, .int 0, .int 0, .int 0]))] sz)) 2 65569 (va_A [(k0, .inr (2, [.int 0, .null, .null, .int 0, .int 0, .int 0, .int 0, .int 0, .int 0, .int 0]))] sz) := by
  refine Met.ofW (cc := cM_init) (maxL := 1) (ret := none) (by decide) rfl ?_
  intro p e s m args below meth c s₁ B hml hv
  obtain ⟨rfl, hsz, hP, hK, hD0⟩ := hv
  have hx := B.exec
  have hb := B.bytes
  have hr := B.returns
  have hts := atoms_spec (ws := wsM_init) B.pre
  have hown : s.vm.findClass RX2 = some m.cls := findClass_of_methodNamed B.named
  have hlocks := B.notSynchronized
  have hin : meth.name = "<init>" := (name_of_methodNamed B.named B.method).1
  subst hsz
  have hD := hD0.self (sz := s.heap.size)
  generalize hAe : va_A [(k0, .inr (2, [.int 0, .null, .null, .int 0, .int 0, .int 0, .int 0, .int 0, .int 0, .int 0]))] s.heap.size = A at hD ⊢
  have hA : ∀ q : Nat, s.heap.size ≤ q → A q := fun q h => by rw [← hAe]; exact Or.inr h
  have hS : va_S A s.heap s.heap [] := va_S.rf
  have hP : va_P (dC, dI) vwCl [(k0, .inr (2, [.int 0, .null, .null, .int 0, .int 0, .int 0, .int 0, .int 0, .int 0, .int 0]))] s.heap := hP
  have hl := lv_entry ([.ref k0]) (n := 1) (Nat.le_of_ble_eq_true rfl)
  rw [lg_entry_eq]
  generalize (lg_sl ([.ref k0]) ++ List.replicate (1 - (lg_sl ([.ref k0])).length) Slot.unset).toArray = ls at hl ⊢
  have hl : lv_has ls 1 [(0, .ref k0)] := hl
  refine lv_aload_n hx hb dM_init_0 rfl (lv_at hl 0 rfl) ?_
  refine W.objInit hx hb hown (hts _ mbM_init_0) (hts _ mbM_init_1) (hts _ mbM_init_2) rfl (by rw [hml]; exact hl.1) rfl dM_init_1 (Nat.le_of_ble_eq_true rfl) (Nat.le_of_ble_eq_true rfl) ?_
  refine W.eq (g2 := F0 m 4 ls []) rfl ?_
  refine lv_aload_n hx hb dM_init_4 rfl (lv_at hl 0 rfl) ?_
  refine lv_ldc (v := 65536) hx hb hown (hts _ mbM_init_3) dM_init_5 ?_
  refine va_newa (atype := .int) (N' := 65536) (a0 := (65536, .inl (fun _ => 0))) (ty := .int) (n := 65536) hx hb (hts _ mbM_init_4) rfl hK hP hD hS hA (fun _ => rfl) (by decide) (by decide +kernel) (by decide) (Nat.le_of_ble_eq_true rfl) (Nat.le_of_ble_eq_true rfl) dM_init_7 (fun q_1 cA_2 H hK hP hD hS => ?_)
  have hP : va_P (dC, dI) vwCl [(k0, .inr (2, [.int 0, .null, .null, .int 0, .int 0, .int 0, .int 0, .int 0, .int 0, .int 0])), (q_1, .inl (cA_2, 65536, .inl (fun _ => 0)))] H := hP
  have hD : va_D A [(k0, .inr (2, [.int 0, .null, .null, .int 0, .int 0, .int 0, .int 0, .int 0, .int 0, .int 0])), (q_1, .inl (cA_2, 65536, .inl (fun _ => 0)))] := hD
  have hK : va_K (dC, dI) vwCl [(cA_2, .int)] s := hK
  refine W.widen (k := 1) (n := 65536) (by omega) (by omega) ?_
  refine va_putF (D := (dC, dI)) (ci := 2) (v := .ref q_1) (ty := tyX2 1) (C := RX2) (T := TX2) (N := 10) hx hb hts miM_init_X2 tyX2 tyX2_ok nmX2 hown hK hP hD hS 0 rfl rfl 1 (by decide) (hts _ mbM_init_6) (fun _ h9 => h9) rfl hin rfl (by decide +kernel) rfl rfl (Nat.le_of_ble_eq_true rfl) dM_init_9 (fun H locs hP hD hS => ?_)
  have hP : va_P (dC, dI) vwCl [(k0, .inr (2, [.int 0, .ref q_1, .null, .int 0, .int 0, .int 0, .int 0, .int 0, .int 0, .int 0])), (q_1, .inl (cA_2, 65536, .inl (fun _ => 0)))] H := hP
  have hD : va_D A [(k0, .inr (2, [.int 0, .ref q_1, .null, .int 0, .int 0, .int 0, .int 0, .int 0, .int 0, .int 0])), (q_1, .inl (cA_2, 65536, .inl (fun _ => 0)))] := hD
  refine lv_aload_n hx hb dM_init_12 rfl (lv_at hl 0 rfl) ?_
  refine lv_bipush (v := 33) hx hb dM_init_13 (by decide) ?_
  refine va_newa (atype := .int) (N' := 33) (a0 := (33, .inl (fun _ => 0))) (ty := .int) (n := 33) hx hb (hts _ mbM_init_4) rfl hK hP hD hS hA (fun _ => rfl) (by decide) (by decide +kernel) (by decide) (Nat.le_of_ble_eq_true rfl) (Nat.le_of_ble_eq_true rfl) dM_init_15 (fun q_3 cA_4 H hK hP hD hS => ?_)
  have hP : va_P (dC, dI) vwCl [(k0, .inr (2, [.int 0, .ref q_1, .null, .int 0, .int 0, .int 0, .int 0, .int 0, .int 0, .int 0])), (q_1, .inl (cA_2, 65536, .inl (fun _ => 0))), (q_3, .inl (cA_4, 33, .inl (fun _ => 0)))] H := hP
  have hD : va_D A [(k0, .inr (2, [.int 0, .ref q_1, .null, .int 0, .int 0, .int 0, .int 0, .int 0, .int 0, .int 0])), (q_1, .inl (cA_2, 65536, .inl (fun _ => 0))), (q_3, .inl (cA_4, 33, .inl (fun _ => 0)))] := hD
  have hK : va_K (dC, dI) vwCl [(cA_2, .int), (cA_4, .int)] s := hK
  refine W.widen (k := 2) (n := 65569) (by omega) (by omega) ?_
  refine va_putF (D := (dC, dI)) (ci := 2) (v := .ref q_3) (ty := tyX2 2) (C := RX2) (T := TX2) (N := 10) hx hb hts miM_init_X2 tyX2 tyX2_ok nmX2 hown hK hP hD hS 0 rfl rfl 2 (by decide) (hts _ mbM_init_7) (fun _ h9 => h9) rfl hin rfl (by decide +kernel) rfl rfl (Nat.le_of_ble_eq_true rfl) dM_init_17 (fun H locs hP hD hS => ?_)
  have hP : va_P (dC, dI) vwCl [(k0, .inr (2, [.int 0, .ref q_1, .ref q_3, .int 0, .int 0, .int 0, .int 0, .int 0, .int 0, .int 0])), (q_1, .inl (cA_2, 65536, .inl (fun _ => 0))), (q_3, .inl (cA_4, 33, .inl (fun _ => 0)))] H := hP
  have hD : va_D A [(k0, .inr (2, [.int 0, .ref q_1, .ref q_3, .int 0, .int 0, .int 0, .int 0, .int 0, .int 0, .int 0])), (q_1, .inl (cA_2, 65536, .inl (fun _ => 0))), (q_3, .inl (cA_4, 33, .inl (fun _ => 0)))] := hD
  have hcc : cA_4 = cA_2 := cls_eq hK (i := 1) (j := 0) rfl rfl
  rw [hcc] at hP hD
  exact W.vret hx hb hr (fun t ht hW => ⟨⟨(q_1, q_3, cA_2), rfl, trivial, by rw [ht]; exact hP, va_K.moved hW.alike (hK.sub [0] rfl), hD⟩, hS.F ht⟩) hS.2.2 dM_init_20
end
section
/-! Own words: what the class's locate and the reference's wrong find is one thing. -/
def md_ok (z : Nat → Int32) : Prop := ∃ t : Nat, t < 8 ∧ z 32 = nI t
theorem c32 : (32 : Int32).toNatClampNeg = 32 := by decide
theorem nx_and (a b : Nat) : nI a &&& nI b = nI (a &&& b) := by
  apply Int32.toBitVec_inj.1
  show BitVec.ofNat 32 a &&& BitVec.ofNat 32 b = BitVec.ofNat 32 (a &&& b)
  apply BitVec.eq_of_getLsbD_eq
  intro i hi
  simp [hi]
theorem nx_or (a b : Nat) : nI a ||| nI b = nI (a ||| b) := by
  apply Int32.toBitVec_inj.1
  show BitVec.ofNat 32 a ||| BitVec.ofNat 32 b = BitVec.ofNat 32 (a ||| b)
  apply BitVec.eq_of_getLsbD_eq
  intro i hi
  simp [hi]
theorem nI_ti {n : Nat} (h : n < 2 ^ 32) : (nI n).toInt = if n < 2 ^ 31 then (n : Int) else (n : Int) - 2 ^ 32 := by
  have e := BitVec.toInt_eq_toNat_cond (BitVec.ofNat 32 n)
  rw [BitVec.toNat_ofNat, Nat.mod_eq_of_lt h] at e
  have e2 : (nI n).toInt = (BitVec.ofNat 32 n).toInt := rfl
  rw [e2, e]
  split <;> split <;> omega
theorem nI_e0 {n : Nat} (h : n < 2 ^ 31) : nI n = 0 ↔ n = 0 := nI_eq (b := 0) h (by omega)
theorem nat_bt (B k : Nat) : B &&& 2 ^ k = 0 ↔ B / 2 ^ k % 2 = 0 := by
  have e : B.testBit k = decide (B / 2 ^ k % 2 = 1) := Nat.testBit_eq_decide_div_mod_eq
  constructor
  · intro h
    have h1 : (B &&& 2 ^ k).testBit k = false := by rw [h]; exact Nat.zero_testBit k
    rw [Nat.testBit_and, Nat.testBit_two_pow_self, Bool.and_true, e] at h1
    have := of_decide_eq_false h1
    omega
  · intro h
    apply Nat.eq_of_testBit_eq
    intro i
    rw [Nat.testBit_and, Nat.zero_testBit, Nat.testBit_two_pow]
    by_cases hi : k = i
    · subst hi
      rw [e, decide_eq_false (by omega)]; rfl
    · simp [hi]
theorem xr (B k : Nat) (hk : k < 4) (K : Int32) (hK : K = nI (2 ^ k)) : (nI B &&& K = 0) ↔ B / 2 ^ k % 2 = 0 := by
  subst hK
  rw [nx_and, nI_e0, nat_bt]
  have h1 : B &&& 2 ^ k ≤ 2 ^ k := Nat.and_le_right
  have h2 : 2 ^ k ≤ 2 ^ 4 := Nat.pow_le_pow_right (by omega) (by omega)
  omega
theorem nat_hi {B : Nat} (hB : B < 2 ^ 32) : B &&& (2 ^ 32 - 1024) = B / 1024 * 1024 := by
  apply Nat.eq_of_testBit_eq
  intro i
  have e1 : (2 ^ 32 - 1024 : Nat) = (2 ^ 22 - 1) * 2 ^ 10 := by decide
  have e2 : B / 1024 * 1024 = B / 2 ^ 10 * 2 ^ 10 := rfl
  rw [Nat.testBit_and, e1, e2, Nat.testBit_mul_two_pow, Nat.testBit_mul_two_pow, Nat.testBit_two_pow_sub_one, Nat.testBit_div_two_pow]
  by_cases h : 10 ≤ i
  · rw [show i - 10 + 10 = i by omega]
    by_cases h2 : i - 10 < 22
    · simp [h, h2]
    · have h3 : B.testBit i = false := Nat.testBit_lt_two_pow (Nat.lt_of_lt_of_le hB (Nat.pow_le_pow_right (by omega) (by omega)))
      simp [h3]
  · simp [h]
theorem pl_join {B n : Nat} (hB : B < 2 ^ 32) (hn : n < 2 ^ 32) : (nI B &&& (-1024)) ||| (nI n &&& 1023) = nI (B / 1024 * 1024 + n % 1024) := by
  have e0 : (-1024 : Int32) = nI (2 ^ 32 - 1024) := by decide
  rw [e0, nx_and, nat_hi hB, pk_andN hn 10 (by decide), nx_or]
  have h := Nat.two_pow_add_eq_or_of_lt (i := 10) (b := n % 2 ^ 10) (Nat.mod_lt _ (by decide)) (B / 1024)
  have e1 : B / 1024 * 1024 = 2 ^ 10 * (B / 1024) := by omega
  rw [e1, ← h]
theorem tail_eq (how : Int32) {N : Nat} (hN : N < 2 ^ 32) : (N < 65536 ∧ s_b232 how (lN N) = (0, nI N) ∧ s_X1_within (nI N) how = nI N) ∨ (s_b232 how (lN N) = (2, 0) ∧ s_X1_within (nI N) how = -2) := by
  have c1 : (lg_cmp (lN N) 32768 < 0) = (N < 32768) := propext (by rw [lg_cmp_lt]; exact pk_lLT (b := 32768) (by omega) (by omega))
  have c2 : (0 ≤ lg_cmp (lN N) 65536) = (65536 ≤ N) := propext (by rw [lg_cmp_ge]; exact pk_lLE (a := 65536) (by omega) (by omega))
  have c3 : (0 ≤ lg_cmp (lN N) 32768) = (32768 ≤ N) := propext (by rw [lg_cmp_ge]; exact pk_lLE (a := 32768) (by omega) (by omega))
  have z0 : (0 : Int32).toInt = 0 := by decide
  have z1 : (32768 : Int32).toInt = 32768 := by decide
  have z2 : (65536 : Int32).toInt = 65536 := by decide
  have w0 : (nI N < 0) = (2 ^ 31 ≤ N) := propext (by rw [Int32.lt_iff_toInt_lt, nI_ti hN, z0]; split <;> omega)
  have w1 : (nI N < 32768) = (N < 32768 ∨ 2 ^ 31 ≤ N) := propext (by rw [Int32.lt_iff_toInt_lt, nI_ti hN, z1]; split <;> omega)
  have w2 : (32768 ≤ nI N) = (32768 ≤ N ∧ N < 2 ^ 31) := propext (by rw [Int32.le_iff_toInt_le, nI_ti hN, z1]; split <;> omega)
  have w3 : (65536 ≤ nI N) = (65536 ≤ N ∧ N < 2 ^ 31) := propext (by rw [Int32.le_iff_toInt_le, nI_ti hN, z2]; split <;> omega)
  unfold s_b232 s_X1_within
  simp only [c1, c2, c3, w0, w1, w2, w3, lN_i]
  by_cases h0 : how = 0
  · have h2 : ¬ how = 2 := by rw [h0]; decide
    simp only [if_pos h0, if_neg h2]
    by_cases hA : N < 32768
    · exact Or.inl ⟨by omega, by rw [if_pos hA], by rw [if_neg (by omega), if_neg (by omega)]⟩
    · refine Or.inr ⟨by rw [if_neg hA], ?_⟩
      by_cases hB : 2 ^ 31 ≤ N
      · rw [if_pos hB]
      · rw [if_neg hB, if_pos (by omega)]
  · simp only [if_neg h0]
    by_cases hA : 65536 ≤ N
    · refine Or.inr ⟨by rw [if_pos hA], ?_⟩
      by_cases h2 : how = 2
      · rw [if_pos h2]
        by_cases hB : 2 ^ 31 ≤ N
        · rw [if_pos (Or.inr hB)]
        · rw [if_neg (by omega), if_pos (by omega)]
      · rw [if_neg h2]
        by_cases hB : 2 ^ 31 ≤ N
        · rw [if_pos hB]
        · rw [if_neg hB, if_pos (by omega)]
    · by_cases h2 : how = 2
      · simp only [if_pos h2, if_neg hA]
        by_cases hB : 32768 ≤ N
        · exact Or.inl ⟨by omega, by rw [if_pos hB], by rw [if_neg (by omega), if_neg (by omega)]⟩
        · exact Or.inr ⟨by rw [if_neg hB], by rw [if_pos (by omega)]⟩
      · simp only [if_neg h2, if_neg hA]
        exact Or.inl ⟨by omega, by first | rfl | trivial, by rw [if_neg (by omega), if_neg (by omega)]⟩
theorem md_1 : ∀ t, t < 8 → ((nI t &&& 2 = 0) ↔ t / 2 % 2 = 0) ∧ ((nI t &&& 4 = 0) ↔ t / 4 % 2 = 0) ∧ ((nI t &&& 1 = 0) ↔ t % 2 = 0) := by decide +kernel
theorem md_2 : ∀ t, t < 8 → ((nI t / 2 - nI t / 2 / 2 * 2 = 1) ↔ ¬ t / 2 % 2 = 0) ∧ ((nI t / 4 - nI t / 4 / 2 * 2 = 1) ↔ ¬ t / 4 % 2 = 0) ∧ ((nI t / 1 - nI t / 1 / 2 * 2 = 1) ↔ ¬ t % 2 = 0) := by decide +kernel
theorem md_m {z : Nat → Int32} {t : Nat} (ht : t < 8) (e : z 32 = nI t) : ((s_M_mode z 2 = 0) = (t / 2 % 2 = 0)) ∧ ((s_M_mode z 4 = 0) = (t / 4 % 2 = 0)) ∧ ((s_M_mode z 1 = 0) = (t % 2 = 0)) := by
  obtain ⟨h2, h4, h1⟩ := md_2 t ht
  unfold s_M_mode
  rw [c32, e]
  simp only [h1, h2, h4]
  refine ⟨propext ?_, propext ?_, propext ?_⟩
  · by_cases h : t / 2 % 2 = 0 <;> simp [h]
  · by_cases h : t / 4 % 2 = 0 <;> simp [h]
  · by_cases h : t % 2 = 0 <;> simp [h]
theorem md_x {z : Nat → Int32} {t : Nat} (ht : t < 8) (e : z 32 = nI t) (how : Int32) : (s_X1_isMapped z how = 0) = (if how = 0 then t / 2 % 2 = 0 else t / 4 % 2 = 0) := by
  obtain ⟨h2, h4, h1⟩ := md_1 t ht
  unfold s_X1_isMapped
  rw [c32, e]
  simp only [h2, h4]
  by_cases hh : how = 0
  · rw [if_pos hh, if_pos hh]
    exact propext (by by_cases h : t / 2 % 2 = 0 <;> simp [h])
  · rw [if_neg hh, if_neg hh]
    exact propext (by by_cases h : t / 4 % 2 = 0 <;> simp [h])
theorem wi_n {n : Nat} (hn : n < 2 ^ 32) : (lN n / 1024 - lN n / 1024 / 8 * 8).toInt32 = nI (n / 1024 % 8) := by
  rw [show (1024 : Int64) = lN 1024 from rfl, show (8 : Int64) = lN 8 from rfl, pk_lDiv (by omega) (by omega) (by omega), pk_lRem (by omega) (by omega) (by omega), lN_i]
theorem wi_a {n : Nat} (hn : n < 2 ^ 32) (a : Nat) (ha : a ≤ 25) (A : Int32) (hA : A = nI a) : ((lN n / 1024 - lN n / 1024 / 8 * 8).toInt32 + A).toNatClampNeg = n / 1024 % 8 + a := by
  rw [wi_n hn, hA, nI_add, nI_clamp (by omega)]
theorem wi_b {n : Nat} (hn : n < 2 ^ 32) (a : Nat) (ha : a ≤ 17) (A : Int32) (hA : A = nI a) : ((lN n / 1024 - lN n / 1024 / 8 * 8).toInt32 + A + 8).toNatClampNeg = n / 1024 % 8 + a + 8 := by
  rw [wi_n hn, hA, nI_add, show (8 : Int32) = nI 8 from rfl, nI_add, nI_clamp (by omega)]
theorem so_e {n : Nat} (hn : n < 2 ^ 32) : s_X1_setOf (nI n) = nI (n / 1024 % 8) := by
  unfold s_X1_setOf
  rw [ush_N hn 10 10 (by decide), pk_andN (by omega) 3 (by decide)]
theorem xi_a {n : Nat} (hn : n < 2 ^ 32) (d : Int32) (a : Nat) (ha : a ≤ 16) (hd : s_X1_firstMatch d = nI a) : (s_X1_firstMatch d + s_X1_setOf (nI n)).toNatClampNeg = n / 1024 % 8 + a := by
  rw [hd, so_e hn, nI_add, nI_clamp (by omega)]
  omega
theorem xi_b {n : Nat} (hn : n < 2 ^ 32) (d : Int32) (a : Nat) (ha : a ≤ 16) (hd : s_X1_firstMatch d = nI a) : (s_X1_firstMatch d + s_X1_setOf (nI n) + 8).toNatClampNeg = n / 1024 % 8 + a + 8 := by
  rw [hd, so_e hn, nI_add, show (8 : Int32) = nI 8 from rfl, nI_add, nI_clamp (by omega)]
  omega
theorem k_odd {A : Nat} (hA : A < 2 ^ 32) : (lg_cmp (lN A - lN A / 2 * 2) 0 = 0) = (A % 2 = 0) := propext (by
  rw [lg_cmp_eq, show (2 : Int64) = lN 2 from rfl, pk_lRem (by omega) (by omega) (by omega)]
  exact pk_lEQ (b := 0) (by omega) (by omega))
theorem k_pg {A n : Nat} (hA : A < 2 ^ 32) (hn : n < 2 ^ 32) : (lg_cmp (lN A / 1024) (lN n / 1024) = 0) = (A / 1024 = n / 1024) := propext (by
  rw [lg_cmp_eq, show (1024 : Int64) = lN 1024 from rfl, pk_lDiv (by omega) (by omega) (by omega), pk_lDiv (by omega) (by omega) (by omega)]
  exact pk_lEQ (by omega) (by omega))
theorem k_rt {B : Nat} (hB : B < 2 ^ 32) (r : Nat) (h0 : 0 < r) (hr : r < 16) (R : Int64) (hR : R = lN r) : (lg_cmp (lN B / R - lN B / R / 2 * 2) 0 = 0) = (B / r % 2 = 0) := propext (by
  have hq : B / r ≤ B := Nat.div_le_self B r
  rw [hR, lg_cmp_eq, show (2 : Int64) = lN 2 from rfl, pk_lDiv (by omega) h0 (by omega), pk_lRem (by omega) (by omega) (by omega)]
  exact pk_lEQ (b := 0) (by omega) (by omega))
theorem k_pl {B n : Nat} (hB : B < 2 ^ 32) (hn : n < 2 ^ 32) : lN B / 1024 * 1024 + (lN n - lN n / 1024 * 1024) = lN (B / 1024 * 1024 + n % 1024) := by
  rw [show (1024 : Int64) = lN 1024 from rfl, pk_lDiv (by omega) (by omega) (by omega), lN_mul, pk_lRem (by omega) (by omega) (by omega), lN_add]
theorem x_pg {A n : Nat} (hA : A < 2 ^ 32) (hn : n < 2 ^ 32) : (s_X1_isOfPage (nI A) (nI n) = 0) = (A % 2 = 0 ∨ ¬ A / 1024 = n / 1024) := propext (by
  unfold s_X1_isOfPage s_X1_isOdd
  rw [pk_andN hA 1 (by decide), ush_N hA 10 10 (by decide), ush_N hn 10 10 (by decide)]
  have e1 : (nI (A % 2 ^ 1) = 0) ↔ A % 2 = 0 := nI_e0 (by omega)
  have e2 : (nI (A / 2 ^ 10) = nI (n / 2 ^ 10)) ↔ A / 1024 = n / 1024 := nI_eq (by omega) (by omega)
  simp only [e1, e2]
  by_cases h1 : A % 2 = 0 <;> by_cases h2 : A / 1024 = n / 1024 <;> simp [h1, h2])
theorem al_v {n : Nat} (hn : n < 2 ^ 32) : (nI n &&& 3 = 0) = (n % 4 = 0) := propext (by
  rw [pk_andN hn 2 (by decide)]
  exact nI_e0 (by omega))
theorem al_x {n : Nat} (hn : n < 2 ^ 32) : (s_X1_isAligned (nI n) = 0) = ¬ (n % 4 = 0) := by
  unfold s_X1_isAligned
  simp only [al_v hn]
  by_cases h : n % 4 = 0 <;> simp [h]
end
section
theorem p_eta {α β : Type} (x : α × β) : (x.1, x.2) = x := rfl
/-- both find a place, the same; or both find the same fault -/
def one_of (mw_ : Int32 × Int32) (xl wx : Int32) : Prop := (∃ N : Nat, N < 65536 ∧ mw_ = (0, nI N) ∧ xl = nI N ∧ (¬ wx = 0 → N % 4 = 0)) ∨ (∃ (w : Nat) (fo' : Int32), 0 < w ∧ w ≤ 10 ∧ mw_ = (nI w, fo') ∧ xl = -nI w)
theorem one_tail {how wx : Int32} {N : Nat} (hN : N < 2 ^ 32) (h4 : ¬ wx = 0 → N % 4 = 0) : one_of (s_b232 how (lN N)) (s_X1_within (nI N) how) wx := by
  rcases tail_eq how hN with ⟨h1, h2, h3⟩ | ⟨h2, h3⟩
  · exact Or.inl ⟨N, h1, h2, h3, h4⟩
  · exact Or.inr ⟨2, 0, by decide, by decide, h2, h3⟩
theorem core0 {z : Nat → Int32} {fo v how wd wx : Int32} (hq : md_ok z) (hh : how = 0) (hx : ¬ wx = 0) : one_of (s_M_wrong z fo v how wd) (s_X1_locate z v how wx) wx := by
  obtain ⟨n, hn, ev, el⟩ := at_n v
  obtain ⟨t, ht, et⟩ := hq
  obtain ⟨m2, m4, m1⟩ := md_m ht et
  have x2 := md_x ht et how
  rw [if_pos hh] at x2
  have h2 : ¬ how = 2 := by rw [hh]; decide
  obtain ⟨A, hA, eA, lA⟩ := at_n (z (n / 1024 % 8 + 0))
  obtain ⟨B, hB, eB, lB⟩ := at_n (z (n / 1024 % 8 + 0 + 8))
  have hM : s_M_wrong z fo v how wd = (if n % 4 = 0 then (if t / 2 % 2 = 0 then s_b232 how (lN n) else if A % 2 = 0 then (10, fo) else if A / 1024 = n / 1024 then (if t % 2 = 0 then (if B / 1 % 2 = 0 then (4, fo) else s_b232 how (lN (B / 1024 * 1024 + n % 1024))) else (if B / 4 % 2 = 0 then (4, fo) else s_b232 how (lN (B / 1024 * 1024 + n % 1024)))) else (10, fo)) else (6, fo)) := by
    unfold s_M_wrong
    have a3 : (v &&& 3 = 0) = (n % 4 = 0) := by rw [ev]; exact al_v hn
    by_cases hw : wd = 0
    · simp only [if_pos hw, if_pos hh, if_neg h2, el, wi_a hn 0 (by decide) 0 rfl, wi_b hn 0 (by decide) 0 rfl, lA, lB, m2, m1, a3, k_odd hA, k_pg hA hn, k_rt hB 1 (by decide) (by decide) 1 rfl, k_rt hB 4 (by decide) (by decide) 4 rfl, k_pl hB hn, p_eta]
    · simp only [if_neg hw, if_pos hh, if_neg h2, el, wi_a hn 0 (by decide) 0 rfl, wi_b hn 0 (by decide) 0 rfl, lA, lB, m2, m1, a3, k_odd hA, k_pg hA hn, k_rt hB 1 (by decide) (by decide) 1 rfl, k_rt hB 4 (by decide) (by decide) 4 rfl, k_pl hB hn, p_eta]
  have n0 : (nI t &&& 1 = 0) = (t % 2 = 0) := propext (md_1 t ht).2.2
  have r1 : (nI B &&& 1 = 0) = (B / 1 % 2 = 0) := propext (xr B 0 (by decide) 1 rfl)
  have r4 : (nI B &&& (1 <<< ((2 : Int32) &&& 31)) = 0) = (B / 4 % 2 = 0) := propext (xr B 2 (by decide) _ (by decide))
  have hX : s_X1_locate z v how wx = (if ¬ n % 4 = 0 then (-6) else if t / 2 % 2 = 0 then s_X1_within (nI n) how else if A % 2 = 0 ∨ ¬ A / 1024 = n / 1024 then (-10) else if t % 2 = 0 then (if B / 1 % 2 = 0 then (-4) else s_X1_within (nI (B / 1024 * 1024 + n % 1024)) how) else (if B / 4 % 2 = 0 then (-4) else s_X1_within (nI (B / 1024 * 1024 + n % 1024)) how)) := by
    unfold s_X1_locate s_X1_neededRight
    simp only [if_neg hx, if_pos hh, if_neg h2, ev, al_x hn, x2, xi_a hn 0 0 (by decide) rfl, xi_b hn 0 0 (by decide) rfl, eA, eB, x_pg hA hn, c32, et, n0, pl_join hB hn]
    by_cases hs : t % 2 = 0
    · simp only [if_pos hs, r1]
    · simp only [if_neg hs, r4]
  rw [hM, hX]
  by_cases h4 : n % 4 = 0
  · rw [if_pos h4, if_neg (not_not_intro h4)]
    by_cases hm : t / 2 % 2 = 0
    · rw [if_pos hm, if_pos hm]
      exact one_tail hn (fun _ => h4)
    · rw [if_neg hm, if_neg hm]
      by_cases ha : A % 2 = 0
      · rw [if_pos ha, if_pos (Or.inl ha)]
        exact Or.inr ⟨10, fo, by decide, by decide, rfl, by decide⟩
      · rw [if_neg ha]
        by_cases hp : A / 1024 = n / 1024
        · rw [if_pos hp, if_neg (by omega : ¬ (A % 2 = 0 ∨ ¬ A / 1024 = n / 1024))]
          by_cases hs : t % 2 = 0
          · rw [if_pos hs, if_pos hs]
            by_cases hb : B / 1 % 2 = 0
            · rw [if_pos hb, if_pos hb]
              exact Or.inr ⟨4, fo, by decide, by decide, rfl, by decide⟩
            · rw [if_neg hb, if_neg hb]
              exact one_tail (by omega) (fun _ => by omega)
          · rw [if_neg hs, if_neg hs]
            by_cases hb : B / 4 % 2 = 0
            · rw [if_pos hb, if_pos hb]
              exact Or.inr ⟨4, fo, by decide, by decide, rfl, by decide⟩
            · rw [if_neg hb, if_neg hb]
              exact one_tail (by omega) (fun _ => by omega)
        · rw [if_neg hp, if_pos (Or.inr hp)]
          exact Or.inr ⟨10, fo, by decide, by decide, rfl, by decide⟩
  · rw [if_neg h4, if_pos h4]
    exact Or.inr ⟨6, fo, by decide, by decide, rfl, by decide⟩
theorem core1 {z : Nat → Int32} {fo v how wd wx : Int32} (hq : md_ok z) (hh : ¬ how = 0) (hx : wx = 0 ↔ wd = 0) : one_of (s_M_wrong z fo v how wd) (s_X1_locate z v how wx) wx := by
  obtain ⟨n, hn, ev, el⟩ := at_n v
  obtain ⟨t, ht, et⟩ := hq
  obtain ⟨m2, m4, m1⟩ := md_m ht et
  have x2 := md_x ht et how
  rw [if_neg hh] at x2
  obtain ⟨A, hA, eA, lA⟩ := at_n (z (n / 1024 % 8 + 16))
  obtain ⟨B, hB, eB, lB⟩ := at_n (z (n / 1024 % 8 + 16 + 8))
  have a3 : (v &&& 3 = 0) = (n % 4 = 0) := by rw [ev]; exact al_v hn
  have hM : s_M_wrong z fo v how wd = (if ¬ wd = 0 ∧ ¬ n % 4 = 0 then (6, fo) else (if t / 4 % 2 = 0 then s_b232 how (lN n) else if A % 2 = 0 then (9, fo) else if A / 1024 = n / 1024 then (if how = 2 then (if t % 2 = 0 then (if B / 2 % 2 = 0 then (3, fo) else s_b232 how (lN (B / 1024 * 1024 + n % 1024))) else (if B / 8 % 2 = 0 then (3, fo) else s_b232 how (lN (B / 1024 * 1024 + n % 1024)))) else (if t % 2 = 0 then (if B / 1 % 2 = 0 then (3, fo) else s_b232 how (lN (B / 1024 * 1024 + n % 1024))) else (if B / 4 % 2 = 0 then (3, fo) else s_b232 how (lN (B / 1024 * 1024 + n % 1024))))) else (9, fo))) := by
    unfold s_M_wrong
    by_cases hw : wd = 0
    · rw [if_neg (fun q => q.1 hw : ¬ (¬ wd = 0 ∧ ¬ n % 4 = 0))]
      simp only [if_pos hw, if_neg hh, el, wi_a hn 16 (by decide) 16 rfl, wi_b hn 16 (by decide) 16 rfl, lA, lB, m4, m1, k_odd hA, k_pg hA hn, k_rt hB 1 (by decide) (by decide) 1 rfl, k_rt hB 4 (by decide) (by decide) 4 rfl, k_rt hB 2 (by decide) (by decide) 2 rfl, k_rt hB 8 (by decide) (by decide) 8 rfl, k_pl hB hn, p_eta]
    · by_cases h4 : n % 4 = 0
      · rw [if_neg (fun q => q.2 h4 : ¬ (¬ wd = 0 ∧ ¬ n % 4 = 0))]
        simp only [if_neg hw, if_neg hh, a3, if_pos h4, el, wi_a hn 16 (by decide) 16 rfl, wi_b hn 16 (by decide) 16 rfl, lA, lB, m4, m1, k_odd hA, k_pg hA hn, k_rt hB 1 (by decide) (by decide) 1 rfl, k_rt hB 4 (by decide) (by decide) 4 rfl, k_rt hB 2 (by decide) (by decide) 2 rfl, k_rt hB 8 (by decide) (by decide) 8 rfl, k_pl hB hn, p_eta]
      · rw [if_pos (⟨hw, h4⟩ : ¬ wd = 0 ∧ ¬ n % 4 = 0)]
        simp only [if_neg hw, a3, if_neg h4]
  have n0 : (nI t &&& 1 = 0) = (t % 2 = 0) := propext (md_1 t ht).2.2
  have r1 : (nI B &&& 1 = 0) = (B / 1 % 2 = 0) := propext (xr B 0 (by decide) 1 rfl)
  have r4 : (nI B &&& (1 <<< ((2 : Int32) &&& 31)) = 0) = (B / 4 % 2 = 0) := propext (xr B 2 (by decide) _ (by decide))
  have r2 : (nI B &&& 2 = 0) = (B / 2 % 2 = 0) := propext (xr B 1 (by decide) 2 rfl)
  have r8 : (nI B &&& (2 <<< ((2 : Int32) &&& 31)) = 0) = (B / 8 % 2 = 0) := propext (xr B 3 (by decide) _ (by decide))
  have hX : s_X1_locate z v how wx = (if ¬ wd = 0 ∧ ¬ n % 4 = 0 then (-6) else (if t / 4 % 2 = 0 then s_X1_within (nI n) how else if A % 2 = 0 ∨ ¬ A / 1024 = n / 1024 then (-9) else if how = 2 then (if t % 2 = 0 then (if B / 2 % 2 = 0 then (-3) else s_X1_within (nI (B / 1024 * 1024 + n % 1024)) how) else (if B / 8 % 2 = 0 then (-3) else s_X1_within (nI (B / 1024 * 1024 + n % 1024)) how)) else (if t % 2 = 0 then (if B / 1 % 2 = 0 then (-3) else s_X1_within (nI (B / 1024 * 1024 + n % 1024)) how) else (if B / 4 % 2 = 0 then (-3) else s_X1_within (nI (B / 1024 * 1024 + n % 1024)) how)))) := by
    have e : (if s_X1_isMapped z how = 0 then s_X1_within v how else if how = 0 then (if s_X1_isOfPage (z (s_X1_firstMatch 0 + s_X1_setOf v).toNatClampNeg) v = 0 then (-10) else if (z (s_X1_firstMatch 0 + s_X1_setOf v + 8).toNatClampNeg) &&& s_X1_neededRight z how = 0 then (-4) else s_X1_within (((z (s_X1_firstMatch 0 + s_X1_setOf v + 8).toNatClampNeg) &&& (-1024)) ||| (v &&& 1023)) how) else if s_X1_isOfPage (z (s_X1_firstMatch 1 + s_X1_setOf v).toNatClampNeg) v = 0 then (-9) else if (z (s_X1_firstMatch 1 + s_X1_setOf v + 8).toNatClampNeg) &&& s_X1_neededRight z how = 0 then (-3) else s_X1_within (((z (s_X1_firstMatch 1 + s_X1_setOf v + 8).toNatClampNeg) &&& (-1024)) ||| (v &&& 1023)) how) = (if t / 4 % 2 = 0 then s_X1_within (nI n) how else if A % 2 = 0 ∨ ¬ A / 1024 = n / 1024 then (-9) else if how = 2 then (if t % 2 = 0 then (if B / 2 % 2 = 0 then (-3) else s_X1_within (nI (B / 1024 * 1024 + n % 1024)) how) else (if B / 8 % 2 = 0 then (-3) else s_X1_within (nI (B / 1024 * 1024 + n % 1024)) how)) else (if t % 2 = 0 then (if B / 1 % 2 = 0 then (-3) else s_X1_within (nI (B / 1024 * 1024 + n % 1024)) how) else (if B / 4 % 2 = 0 then (-3) else s_X1_within (nI (B / 1024 * 1024 + n % 1024)) how))) := by
      unfold s_X1_neededRight
      simp only [if_neg hh, ev, x2, xi_a hn 1 16 (by decide) rfl, xi_b hn 1 16 (by decide) rfl, eA, eB, x_pg hA hn, c32, et, n0, pl_join hB hn]
      by_cases h2 : how = 2
      · by_cases hs : t % 2 = 0
        · simp only [if_pos h2, if_pos hs, r2]
        · simp only [if_pos h2, if_neg hs, r8]
      · by_cases hs : t % 2 = 0
        · simp only [if_neg h2, if_pos hs, r1]
        · simp only [if_neg h2, if_neg hs, r4]
    unfold s_X1_locate
    by_cases hw : wd = 0
    · rw [if_pos (hx.mpr hw), if_neg (fun q => q.1 hw : ¬ (¬ wd = 0 ∧ ¬ n % 4 = 0))]
      exact e
    · rw [if_neg (fun q => hw (hx.mp q) : ¬ wx = 0)]
      by_cases h4 : n % 4 = 0
      · rw [if_neg (fun q => q.2 h4 : ¬ (¬ wd = 0 ∧ ¬ n % 4 = 0)), if_neg (show ¬ s_X1_isAligned v = 0 by rw [ev, al_x hn]; exact fun q => q h4)]
        exact e
      · rw [if_pos (⟨hw, h4⟩ : ¬ wd = 0 ∧ ¬ n % 4 = 0), if_pos (show s_X1_isAligned v = 0 by rw [ev, al_x hn]; exact h4)]
  rw [hM, hX]
  by_cases h6 : ¬ wd = 0 ∧ ¬ n % 4 = 0
  · rw [if_pos h6, if_pos h6]
    exact Or.inr ⟨6, fo, by decide, by decide, rfl, by decide⟩
  · have h4 : ¬ wx = 0 → n % 4 = 0 := by
      intro q
      by_cases hz : n % 4 = 0
      · exact hz
      · exact absurd ⟨fun w => q (hx.mpr w), hz⟩ h6
    rw [if_neg h6, if_neg h6]
    by_cases hm : t / 4 % 2 = 0
    · rw [if_pos hm, if_pos hm]
      exact one_tail hn h4
    · rw [if_neg hm, if_neg hm]
      by_cases ha : A % 2 = 0
      · rw [if_pos ha, if_pos (Or.inl ha)]
        exact Or.inr ⟨9, fo, by decide, by decide, rfl, by decide⟩
      · rw [if_neg ha]
        by_cases hp : A / 1024 = n / 1024
        · rw [if_pos hp, if_neg (by omega : ¬ (A % 2 = 0 ∨ ¬ A / 1024 = n / 1024))]
          have ok : one_of (s_b232 how (lN (B / 1024 * 1024 + n % 1024))) (s_X1_within (nI (B / 1024 * 1024 + n % 1024)) how) wx := one_tail (by omega) (fun q => by have := h4 q; omega)
          have no : one_of (3, fo) (-3) wx := Or.inr ⟨3, fo, by decide, by decide, rfl, by decide⟩
          by_cases h2 : how = 2
          · rw [if_pos h2, if_pos h2]
            by_cases hs : t % 2 = 0
            · rw [if_pos hs, if_pos hs]
              by_cases hb : B / 2 % 2 = 0
              · rw [if_pos hb, if_pos hb]; exact no
              · rw [if_neg hb, if_neg hb]; exact ok
            · rw [if_neg hs, if_neg hs]
              by_cases hb : B / 8 % 2 = 0
              · rw [if_pos hb, if_pos hb]; exact no
              · rw [if_neg hb, if_neg hb]; exact ok
          · rw [if_neg h2, if_neg h2]
            by_cases hs : t % 2 = 0
            · rw [if_pos hs, if_pos hs]
              by_cases hb : B / 1 % 2 = 0
              · rw [if_pos hb, if_pos hb]; exact no
              · rw [if_neg hb, if_neg hb]; exact ok
            · rw [if_neg hs, if_neg hs]
              by_cases hb : B / 4 % 2 = 0
              · rw [if_pos hb, if_pos hb]; exact no
              · rw [if_neg hb, if_neg hb]; exact ok
        · rw [if_neg hp, if_pos (Or.inr hp)]
          exact Or.inr ⟨9, fo, by decide, by decide, rfl, by decide⟩
/-- the two side by side -/
theorem core {z : Nat → Int32} {fo v how wd wx : Int32} (hq : md_ok z) (hx : wx = 0 ↔ (wd = 0 ∧ ¬ how = 0)) : one_of (s_M_wrong z fo v how wd) (s_X1_locate z v how wx) wx := by
  by_cases hh : how = 0
  · exact core0 hq hh (fun q => (hx.mp q).2 hh)
  · exact core1 hq hh ⟨fun q => (hx.mp q).1, fun q => hx.mpr ⟨q, hh⟩⟩
/-- where the reference's probe says yes, what it found lies in the memory -/
theorem pr_ok {z : Nat → Int32} {a1 a2 a3 fo v how wd : Int32} (hq : md_ok z) (h : ¬ (s_M_probe z a1 a2 a3 fo v how wd).1 = 0) : ∃ N : Nat, N < 65536 ∧ (s_M_probe z a1 a2 a3 fo v how wd).2.2.2.2 = nI N ∧ (¬ (wd = 0 ∧ ¬ how = 0) → N % 4 = 0) := by
  have e : (s_M_wrong z fo v how wd).1 = 0 := by
    by_cases q : (s_M_wrong z fo v how wd).1 = 0
    · exact q
    · refine absurd ?_ h
      unfold s_M_probe
      simp only [if_neg q]
      split <;> rfl
  have ef : (s_M_probe z a1 a2 a3 fo v how wd).2.2.2.2 = (s_M_wrong z fo v how wd).2 := by
    unfold s_M_probe
    simp only [if_pos e]
    split <;> rfl
  by_cases hw : wd = 0 ∧ ¬ how = 0
  · rcases core (fo := fo) (v := v) (how := how) (wd := wd) (wx := 0) hq ⟨fun _ => hw, fun _ => rfl⟩ with ⟨N, h1, h2, h3, h4⟩ | ⟨w, f2, h1, h2, h3, h4⟩
    · exact ⟨N, h1, by rw [ef, h2], fun q => absurd hw q⟩
    · rw [h3] at e
      exact absurd ((nI_e0 (by omega)).mp e) (by omega)
  · rcases core (fo := fo) (v := v) (how := how) (wd := wd) (wx := 1) hq ⟨fun q => absurd q (by decide), fun q => absurd q hw⟩ with ⟨N, h1, h2, h3, h4⟩ | ⟨w, f2, h1, h2, h3, h4⟩
    · exact ⟨N, h1, by rw [ef, h2], fun _ => h4 (by decide)⟩
    · rw [h3] at e
      exact absurd ((nI_e0 (by omega)).mp e) (by omega)
theorem pr_4 {z : Nat → Int32} {a1 a2 a3 fo v how wd : Int32} (hq : md_ok z) (h : ¬ (s_M_probe z a1 a2 a3 fo v how wd).1 = 0) (hw : ¬ (wd = 0 ∧ ¬ how = 0)) : pin4 (s_M_probe z a1 a2 a3 fo v how wd).2.2.2.2 := by
  obtain ⟨N, h1, h2, h3⟩ := pr_ok hq h
  exact pin4_of h1 (h3 hw) h2
theorem pr_in {z : Nat → Int32} {a1 a2 a3 fo v how wd : Int32} (hq : md_ok z) (h : ¬ (s_M_probe z a1 a2 a3 fo v how wd).1 = 0) : vp_in (s_M_probe z a1 a2 a3 fo v how wd).2.2.2.2 65536 := by
  obtain ⟨N, h1, h2, h3⟩ := pr_ok hq h
  exact pk_in N 65536 h1 h2
end
section
set_option maxRecDepth 100000 in
theorem miM_code_X2 : ∀ w ∈ u_ws RX2 TX2 10, w ∈ wsM_code := by decide +kernel
set_option maxRecDepth 100000 in
theorem mbM_code_1 : (.fieldLink RX2 17 "SoftMapsModel" "thrown" "I" : Cond) ∈ wsM_code := by decide +kernel
set_option maxRecDepth 100000 in
theorem mbM_code_2 : (.fieldLink RX2 66 "SoftMapsModel" "codes" "I" : Cond) ∈ wsM_code := by decide +kernel
set_option maxRecDepth 100000 in
theorem mbM_code_3 : (.fieldLink RX2 46 "SoftMapsModel" "found" "I" : Cond) ∈ wsM_code := by decide +kernel
def s_M_code (y : Nat → Int32) (z : Nat → Int32) (a1 : Int32) (a2 : Int32) (a3 : Int32) (a4 : Int32) (fo : Int32) (v : Int32) : Int32 × Int32 × Int32 × Int32 × Int32 × Int32 × Int32 :=
  if (s_M_probe z a1 a2 a3 fo v 0 1).1 = 0 then
    (0, (0, (s_M_probe z a1 a2 a3 fo v 0 1).2.1, (s_M_probe z a1 a2 a3 fo v 0 1).2.2.1, (s_M_probe z a1 a2 a3 fo v 0 1).2.2.2.1, a4, (s_M_probe z a1 a2 a3 fo v 0 1).2.2.2.2))
  else
    (s_M_wordIn y ((s_M_probe z a1 a2 a3 fo v 0 1).2.2.2.2), (0, (s_M_probe z a1 a2 a3 fo v 0 1).2.1, (s_M_probe z a1 a2 a3 fo v 0 1).2.2.1, (s_M_probe z a1 a2 a3 fo v 0 1).2.2.2.1, a4 + 1, (s_M_probe z a1 a2 a3 fo v 0 1).2.2.2.2))
set_option maxHeartbeats 4000000 in
set_option maxRecDepth 100000 in
theorem c_M_code (l : Launch) (dC : Nat → ClassId) (dI : Nat → Nat → Nat) (sz : Nat) (k0 yb zb : Nat) (cI : ClassId) (y z : Nat → Int32) (th a1 a2 a3 a4 a5 a6 fo : Int32) (v : Int32) (hq : md_ok z) : Met l yM_code wsM_code ({ frames := 3, cells := 0, slots := 0, locals := 80 }) (va_Pc [.ref k0, .int v] (fun U => U.heap.size = sz ∧ va_P (dC, dI) vwCl [(k0, .inr (2, [.int th, .ref yb, .ref zb, .int a1, .int a2, .int a3, .int a4, .int a5, .int a6, .int fo])), (yb, .inl (cI, 65536, .inl y)), (zb, .inl (cI, 33, .inl z))] U.heap ∧ va_K (dC, dI) vwCl [(cI, .int)] U ∧ va_D (fun _ => True) [(k0, .inr (2, [.int th, .ref yb, .ref zb, .int a1, .int a2, .int a3, .int a4, .int a5, .int a6, .int fo])), (yb, .inl (cI, 65536, .inl y)), (zb, .inl (cI, 33, .inl z))])) (va_Qi (fun (a_ : Int32) (u : Int32 × Int32 × Int32 × Int32 × Int32 × Int32) => (a_, u) = s_M_code y z a1 a2 a3 a4 fo v) (fun (u : Int32 × Int32 × Int32 × Int32 × Int32 × Int32) (t : State) => va_P (dC, dI) vwCl [(k0, .inr (2, [.int u.1, .ref yb, .ref zb, .int u.2.1, .int u.2.2.1, .int u.2.2.2.1, .int u.2.2.2.2.1, .int a5, .int a6, .int u.2.2.2.2.2])), (yb, .inl (cI, 65536, .inl y)), (zb, .inl (cI, 33, .inl z))] t.heap ∧ va_K (dC, dI) vwCl [(cI, .int)] t ∧ va_D (va_A [(k0, .inr (2, [.int th, .ref yb, .ref zb, .int a1, .int a2, .int a3, .int a4, .int a5, .int a6, .int fo])), (yb, .inl (cI, 65536, .inl y)), (zb, .inl (cI, 33, .inl z))] sz) [(k0, .inr (2, [.int u.1, .ref yb, .ref zb, .int u.2.1, .int u.2.2.1, .int u.2.2.2.1, .int u.2.2.2.2.1, .int a5, .int a6, .int u.2.2.2.2.2])), (yb, .inl (cI, 65536, .inl y)), (zb, .inl (cI, 33, .inl z))]) (va_A [(k0, .inr (2, [.int th, .ref yb, .ref zb, .int a1, .int a2, .int a3, .int a4, .int a5, .int a6, .int fo])), (yb, .inl (cI, 65536, .inl y)), (zb, .inl (cI, 33, .inl z))] sz)) 0 0 (va_A [(k0, .inr (2, [.int th, .ref yb, .ref zb, .int a1, .int a2, .int a3, .int a4, .int a5, .int a6, .int fo])), (yb, .inl (cI, 65536, .inl y)), (zb, .inl (cI, 33, .inl z))] sz) := by
  refine Met.ofW (cc := cM_code) (maxL := 2) (ret := (some .int)) (by decide) rfl ?_
  intro p e s m args below meth c s₁ B hml hv
  obtain ⟨rfl, hsz, hP, hK, hD0⟩ := hv
  have hx := B.exec
  have hb := B.bytes
  have hr := B.returns
  have hts := atoms_spec (ws := wsM_code) B.pre
  have hown : s.vm.findClass RX2 = some m.cls := findClass_of_methodNamed B.named
  have hlocks := B.notSynchronized
  subst hsz
  have hD := hD0.self (sz := s.heap.size)
  generalize hAe : va_A [(k0, .inr (2, [.int th, .ref yb, .ref zb, .int a1, .int a2, .int a3, .int a4, .int a5, .int a6, .int fo])), (yb, .inl (cI, 65536, .inl y)), (zb, .inl (cI, 33, .inl z))] s.heap.size = A at hD ⊢
  have hA : ∀ q : Nat, s.heap.size ≤ q → A q := fun q h => by rw [← hAe]; exact Or.inr h
  have hS : va_S A s.heap s.heap [] := va_S.rf
  have hP : va_P (dC, dI) vwCl [(k0, .inr (2, [.int th, .ref yb, .ref zb, .int a1, .int a2, .int a3, .int a4, .int a5, .int a6, .int fo])), (yb, .inl (cI, 65536, .inl y)), (zb, .inl (cI, 33, .inl z))] s.heap := hP
  have hl := lv_entry ([.ref k0, .int v]) (n := 2) (Nat.le_of_ble_eq_true rfl)
  rw [lg_entry_eq]
  generalize (lg_sl ([.ref k0, .int v]) ++ List.replicate (2 - (lg_sl ([.ref k0, .int v])).length) Slot.unset).toArray = ls at hl ⊢
  have hl : lv_has ls 2 [(0, .ref k0), (1, .int v)] := hl
  refine lv_aload_n hx hb dM_code_0 rfl (lv_at hl 0 rfl) ?_
  refine lv_iconst (v := 0) hx hb dM_code_1 (by decide) ?_
  refine va_put (D := (dC, dI)) (ci := 2) (v := .int 0) (ty := tyX2 0) (C := RX2) (T := TX2) (N := 10) hx hb hts miM_code_X2 tyX2 tyX2_ok nmX2 hown hK hP hD hS 0 rfl rfl 0 (by decide) (hts _ mbM_code_1) (fun _ h9 => h9) rfl (by decide +kernel) rfl rfl (Nat.le_of_ble_eq_true rfl) dM_code_2 (fun H locs hP hD hS => ?_)
  have hP : va_P (dC, dI) vwCl [(k0, .inr (2, [.int 0, .ref yb, .ref zb, .int a1, .int a2, .int a3, .int a4, .int a5, .int a6, .int fo])), (yb, .inl (cI, 65536, .inl y)), (zb, .inl (cI, 33, .inl z))] H := hP
  have hD : va_D A [(k0, .inr (2, [.int 0, .ref yb, .ref zb, .int a1, .int a2, .int a3, .int a4, .int a5, .int a6, .int fo])), (yb, .inl (cI, 65536, .inl y)), (zb, .inl (cI, 33, .inl z))] := hD
  refine lv_aload_n hx hb dM_code_5 rfl (lv_at hl 0 rfl) ?_
  refine lv_iload_n hx hb dM_code_6 rfl (lv_at hl 1 rfl) ?_
  refine lv_iconst (v := 0) hx hb dM_code_7 (by decide) ?_
  refine lv_iconst (v := 1) hx hb dM_code_8 (by decide) ?_
  have hPc := hP.sub (ws' := [(k0, .inr (2, [.int 0, .ref yb, .ref zb, .int a1, .int a2, .int a3, .int a4, .int a5, .int a6, .int fo])), (yb, .inl (cI, 65536, .inl y)), (zb, .inl (cI, 33, .inl z))]) [0, 1, 2] rfl
  have hDc := hD.sub (ws' := [(k0, .inr (2, [.int 0, .ref yb, .ref zb, .int a1, .int a2, .int a3, .int a4, .int a5, .int a6, .int fo])), (yb, .inl (cI, 65536, .inl y)), (zb, .inl (cI, 33, .inl z))]) [0, 1, 2] (by decide) rfl
  have hFc := va_free (wc := [(k0, .inr (2, [.int 0, .ref yb, .ref zb, .int a1, .int a2, .int a3, .int a4, .int a5, .int a6, .int fo])), (yb, .inl (cI, 65536, .inl y)), (zb, .inl (cI, 33, .inl z))]) hD hS hA [0, 1, 2] rfl
  have hKc := hK.sub (tys' := [(cI, .int)]) [0] rfl
  refine va_calli (va_runV (As := [.int v, .int 0, .int 1]) (rest := []) ⟨hx, hb, hml, hown, hts⟩ (c_M_probe l dC dI (H.size) k0 yb zb cI y z 0 a1 a2 a3 a4 a5 a6 fo v 0 1) (cwV 3 hts gM_code_M_probe rfl rfl rfl (by decide +kernel) ⟨Nat.le_of_ble_eq_true rfl, Nat.le_of_ble_eq_true rfl⟩) ⟨fun a U g mk q => by obtain ⟨q0, q1, qP, qK, qD⟩ := q; exact ⟨q0, q1, qP, va_K.moved (u := U) (U := U.calling g mk a) (Vm.Alike.refl U.vm) qK, qD⟩, va_recv hKc hPc (ci := 2) (q0 := 0) rfl rfl, fun U hU hW => ⟨rfl, by rw [hU], by rw [hU]; exact hPc, va_K.moved hW.alike hKc, hDc.weaken (fun _ _ _ _ => trivial)⟩⟩ rfl rfl hl.1 rfl (lv_room (Nat.le_of_ble_eq_true rfl)) dM_code_9 ⟨Nat.le_of_ble_eq_true rfl, Nat.le_of_ble_eq_true rfl⟩) hS (fun q _ h => hFc q h) hFc (fun r_1 u_3 t H1 locs ht hvm hw_2 hB hz1 hk1 hS => ?_)
  have e1_ : r_1 = (s_M_probe z a1 a2 a3 fo v 0 1).1 := congrArg Prod.fst hw_2
  have e2_ : u_3 = (s_M_probe z a1 a2 a3 fo v 0 1).2 := congrArg Prod.snd hw_2
  subst e1_ e2_
  obtain ⟨hP1, hK1, hD1⟩ := hB
  rw [ht] at hP1
  obtain ⟨hP, hD⟩ := va_join (wr := []) (w1 := [(k0, .inr (2, [.int 0, .ref yb, .ref zb, .int ((s_M_probe z a1 a2 a3 fo v 0 1).2.1), .int ((s_M_probe z a1 a2 a3 fo v 0 1).2.2.1), .int ((s_M_probe z a1 a2 a3 fo v 0 1).2.2.2.1), .int a4, .int a5, .int a6, .int ((s_M_probe z a1 a2 a3 fo v 0 1).2.2.2.2)])), (yb, .inl (cI, 65536, .inl y)), (zb, .inl (cI, 33, .inl z))]) hP hD [0, 1, 2] [] rfl rfl (by decide) (by decide) hk1 hFc hP1 hD1
  generalize H1 = H at hP hS ⊢
  have hP : va_P (dC, dI) vwCl [(k0, .inr (2, [.int 0, .ref yb, .ref zb, .int ((s_M_probe z a1 a2 a3 fo v 0 1).2.1), .int ((s_M_probe z a1 a2 a3 fo v 0 1).2.2.1), .int ((s_M_probe z a1 a2 a3 fo v 0 1).2.2.2.1), .int a4, .int a5, .int a6, .int ((s_M_probe z a1 a2 a3 fo v 0 1).2.2.2.2)])), (yb, .inl (cI, 65536, .inl y)), (zb, .inl (cI, 33, .inl z))] H := hP
  have hD : va_D A [(k0, .inr (2, [.int 0, .ref yb, .ref zb, .int ((s_M_probe z a1 a2 a3 fo v 0 1).2.1), .int ((s_M_probe z a1 a2 a3 fo v 0 1).2.2.1), .int ((s_M_probe z a1 a2 a3 fo v 0 1).2.2.2.1), .int a4, .int a5, .int a6, .int ((s_M_probe z a1 a2 a3 fo v 0 1).2.2.2.2)])), (yb, .inl (cI, 65536, .inl y)), (zb, .inl (cI, 33, .inl z))] := hD
  refine lv_if_ne (tgt := 17) hx hb dM_code_12 (by decide) (fun c_4 => ?_) (fun c_4 => ?_)
  · skip
    refine lv_aload_n hx hb dM_code_17 rfl (lv_at hl 0 rfl) ?_
    refine lv_dup hx hb dM_code_18 rfl ?_
    refine va_get (D := (dC, dI)) (ci := 2) (v := .int a4) (C := RX2) (T := TX2) (N := 10) hx hb hts miM_code_X2 hown hK hP 0 rfl rfl 6 (by decide) (hts _ mbM_code_2) (fun _ h9 => h9) rfl dM_code_19 ?_
    refine lv_iconst (v := 1) hx hb dM_code_22 (by decide) ?_
    refine lv_iadd hx hb dM_code_23 ?_
    refine va_put (D := (dC, dI)) (ci := 2) (v := .int (a4 + 1)) (ty := tyX2 6) (C := RX2) (T := TX2) (N := 10) hx hb hts miM_code_X2 tyX2 tyX2_ok nmX2 hown hK hP hD hS 0 rfl rfl 6 (by decide) (hts _ mbM_code_2) (fun _ h9 => h9) rfl (by decide +kernel) rfl rfl (Nat.le_of_ble_eq_true rfl) dM_code_24 (fun H locs hP hD hS => ?_)
    have hP : va_P (dC, dI) vwCl [(k0, .inr (2, [.int 0, .ref yb, .ref zb, .int ((s_M_probe z a1 a2 a3 fo v 0 1).2.1), .int ((s_M_probe z a1 a2 a3 fo v 0 1).2.2.1), .int ((s_M_probe z a1 a2 a3 fo v 0 1).2.2.2.1), .int (a4 + 1), .int a5, .int a6, .int ((s_M_probe z a1 a2 a3 fo v 0 1).2.2.2.2)])), (yb, .inl (cI, 65536, .inl y)), (zb, .inl (cI, 33, .inl z))] H := hP
    have hD : va_D A [(k0, .inr (2, [.int 0, .ref yb, .ref zb, .int ((s_M_probe z a1 a2 a3 fo v 0 1).2.1), .int ((s_M_probe z a1 a2 a3 fo v 0 1).2.2.1), .int ((s_M_probe z a1 a2 a3 fo v 0 1).2.2.2.1), .int (a4 + 1), .int a5, .int a6, .int ((s_M_probe z a1 a2 a3 fo v 0 1).2.2.2.2)])), (yb, .inl (cI, 65536, .inl y)), (zb, .inl (cI, 33, .inl z))] := hD
    refine lv_aload_n hx hb dM_code_27 rfl (lv_at hl 0 rfl) ?_
    refine lv_aload_n hx hb dM_code_28 rfl (lv_at hl 0 rfl) ?_
    refine va_get (D := (dC, dI)) (ci := 2) (v := .int ((s_M_probe z a1 a2 a3 fo v 0 1).2.2.2.2)) (C := RX2) (T := TX2) (N := 10) hx hb hts miM_code_X2 hown hK hP 0 rfl rfl 9 (by decide) (hts _ mbM_code_3) (fun _ h9 => h9) rfl dM_code_29 ?_
    have hPc := hP.sub (ws' := [(k0, .inr (2, [.int 0, .ref yb, .ref zb, .int ((s_M_probe z a1 a2 a3 fo v 0 1).2.1), .int ((s_M_probe z a1 a2 a3 fo v 0 1).2.2.1), .int ((s_M_probe z a1 a2 a3 fo v 0 1).2.2.2.1), .int (a4 + 1), .int a5, .int a6, .int ((s_M_probe z a1 a2 a3 fo v 0 1).2.2.2.2)])), (yb, .inl (cI, 65536, .inl y)), (zb, .inl (cI, 33, .inl z))]) [0, 1, 2] rfl
    have hKc := hK.sub (tys' := [(cI, .int)]) [0] rfl
    refine vp_callSi (va_Run.run (va_runV (As := [.int ((s_M_probe z a1 a2 a3 fo v 0 1).2.2.2.2)]) (rest := []) ⟨hx, hb, hml, hown, hts⟩ (c_M_wordIn l dC dI k0 yb zb cI y z 0 ((s_M_probe z a1 a2 a3 fo v 0 1).2.1) ((s_M_probe z a1 a2 a3 fo v 0 1).2.2.1) ((s_M_probe z a1 a2 a3 fo v 0 1).2.2.2.1) (a4 + 1) a5 a6 ((s_M_probe z a1 a2 a3 fo v 0 1).2.2.2.2) ((s_M_probe z a1 a2 a3 fo v 0 1).2.2.2.2) (pr_4 hq c_4 (fun q => absurd q.1 (by decide)))) (cwV 1 hts gM_code_M_wordIn rfl rfl rfl (by decide +kernel) ⟨Nat.le_of_ble_eq_true rfl, Nat.le_of_ble_eq_true rfl⟩) ⟨fun a U g mk q => by obtain ⟨q0, qP, qK⟩ := q; exact ⟨q0, qP, va_K.moved (u := U) (U := U.calling g mk a) (Vm.Alike.refl U.vm) qK⟩, va_recv hKc hPc (ci := 2) (q0 := 0) rfl rfl, fun U hU hW => ⟨rfl, by rw [hU]; exact hPc, va_K.moved hW.alike hKc⟩⟩ rfl rfl hl.1 rfl (lv_room (Nat.le_of_ble_eq_true rfl)) dM_code_32 ⟨Nat.le_of_ble_eq_true rfl, Nat.le_of_ble_eq_true rfl⟩)) (fun r_5 hw_6 => ?_)
    subst hw_6
    exact W.iret (v := s_M_wordIn y ((s_M_probe z a1 a2 a3 fo v 0 1).2.2.2.2)) hx hb hr (fun t ht hW => ⟨⟨s_M_wordIn y ((s_M_probe z a1 a2 a3 fo v 0 1).2.2.2.2), (0, (s_M_probe z a1 a2 a3 fo v 0 1).2.1, (s_M_probe z a1 a2 a3 fo v 0 1).2.2.1, (s_M_probe z a1 a2 a3 fo v 0 1).2.2.2.1, a4 + 1, (s_M_probe z a1 a2 a3 fo v 0 1).2.2.2.2), rfl, by simp only [s_M_code, if_neg c_4], by rw [ht]; exact hP, va_K.moved hW.alike hK, hD⟩, hS.F ht⟩) hS.2.2 dM_code_35
  · skip
    refine lv_iconst (v := 0) hx hb dM_code_15 (by decide) ?_
    exact W.iret (v := 0) hx hb hr (fun t ht hW => ⟨⟨0, (0, (s_M_probe z a1 a2 a3 fo v 0 1).2.1, (s_M_probe z a1 a2 a3 fo v 0 1).2.2.1, (s_M_probe z a1 a2 a3 fo v 0 1).2.2.2.1, a4, (s_M_probe z a1 a2 a3 fo v 0 1).2.2.2.2), rfl, by simp only [s_M_code, if_pos c_4], by rw [ht]; exact hP, va_K.moved hW.alike hK, hD⟩, hS.F ht⟩) hS.2.2 dM_code_16
set_option maxRecDepth 100000 in
theorem miM_load_X2 : ∀ w ∈ u_ws RX2 TX2 10, w ∈ wsM_load := by decide +kernel
set_option maxRecDepth 100000 in
theorem mbM_load_1 : (.fieldLink RX2 17 "SoftMapsModel" "thrown" "I" : Cond) ∈ wsM_load := by decide +kernel
set_option maxRecDepth 100000 in
theorem mbM_load_2 : (.fieldLink RX2 73 "SoftMapsModel" "loads" "I" : Cond) ∈ wsM_load := by decide +kernel
set_option maxRecDepth 100000 in
theorem mbM_load_3 : (.fieldLink RX2 8 "SoftMapsModel" "bytes" "[I" : Cond) ∈ wsM_load := by decide +kernel
set_option maxRecDepth 100000 in
theorem mbM_load_4 : (.fieldLink RX2 46 "SoftMapsModel" "found" "I" : Cond) ∈ wsM_load := by decide +kernel
def s_M_load (y : Nat → Int32) (z : Nat → Int32) (a1 : Int32) (a2 : Int32) (a3 : Int32) (a5 : Int32) (fo : Int32) (v : Int32) (wd : Int32) : Int32 × Int32 × Int32 × Int32 × Int32 × Int32 × Int32 :=
  if (s_M_probe z a1 a2 a3 fo v 1 wd).1 = 0 then
    (0, (0, (s_M_probe z a1 a2 a3 fo v 1 wd).2.1, (s_M_probe z a1 a2 a3 fo v 1 wd).2.2.1, (s_M_probe z a1 a2 a3 fo v 1 wd).2.2.2.1, a5, (s_M_probe z a1 a2 a3 fo v 1 wd).2.2.2.2))
  else
    if wd = 0 then
      (y ((s_M_probe z a1 a2 a3 fo v 1 wd).2.2.2.2).toNatClampNeg, (0, (s_M_probe z a1 a2 a3 fo v 1 wd).2.1, (s_M_probe z a1 a2 a3 fo v 1 wd).2.2.1, (s_M_probe z a1 a2 a3 fo v 1 wd).2.2.2.1, a5 + 1, (s_M_probe z a1 a2 a3 fo v 1 wd).2.2.2.2))
    else
      (s_M_wordIn y ((s_M_probe z a1 a2 a3 fo v 1 wd).2.2.2.2), (0, (s_M_probe z a1 a2 a3 fo v 1 wd).2.1, (s_M_probe z a1 a2 a3 fo v 1 wd).2.2.1, (s_M_probe z a1 a2 a3 fo v 1 wd).2.2.2.1, a5 + 1, (s_M_probe z a1 a2 a3 fo v 1 wd).2.2.2.2))
set_option maxHeartbeats 4000000 in
set_option maxRecDepth 100000 in
theorem c_M_load (l : Launch) (dC : Nat → ClassId) (dI : Nat → Nat → Nat) (sz : Nat) (k0 yb zb : Nat) (cI : ClassId) (y z : Nat → Int32) (th a1 a2 a3 a4 a5 a6 fo : Int32) (v : Int32) (wd : Int32) (hq : md_ok z) : Met l yM_load wsM_load ({ frames := 3, cells := 0, slots := 0, locals := 80 }) (va_Pc [.ref k0, .int v, .int wd] (fun U => U.heap.size = sz ∧ va_P (dC, dI) vwCl [(k0, .inr (2, [.int th, .ref yb, .ref zb, .int a1, .int a2, .int a3, .int a4, .int a5, .int a6, .int fo])), (yb, .inl (cI, 65536, .inl y)), (zb, .inl (cI, 33, .inl z))] U.heap ∧ va_K (dC, dI) vwCl [(cI, .int)] U ∧ va_D (fun _ => True) [(k0, .inr (2, [.int th, .ref yb, .ref zb, .int a1, .int a2, .int a3, .int a4, .int a5, .int a6, .int fo])), (yb, .inl (cI, 65536, .inl y)), (zb, .inl (cI, 33, .inl z))])) (va_Qi (fun (a_ : Int32) (u : Int32 × Int32 × Int32 × Int32 × Int32 × Int32) => (a_, u) = s_M_load y z a1 a2 a3 a5 fo v wd) (fun (u : Int32 × Int32 × Int32 × Int32 × Int32 × Int32) (t : State) => va_P (dC, dI) vwCl [(k0, .inr (2, [.int u.1, .ref yb, .ref zb, .int u.2.1, .int u.2.2.1, .int u.2.2.2.1, .int a4, .int u.2.2.2.2.1, .int a6, .int u.2.2.2.2.2])), (yb, .inl (cI, 65536, .inl y)), (zb, .inl (cI, 33, .inl z))] t.heap ∧ va_K (dC, dI) vwCl [(cI, .int)] t ∧ va_D (va_A [(k0, .inr (2, [.int th, .ref yb, .ref zb, .int a1, .int a2, .int a3, .int a4, .int a5, .int a6, .int fo])), (yb, .inl (cI, 65536, .inl y)), (zb, .inl (cI, 33, .inl z))] sz) [(k0, .inr (2, [.int u.1, .ref yb, .ref zb, .int u.2.1, .int u.2.2.1, .int u.2.2.2.1, .int a4, .int u.2.2.2.2.1, .int a6, .int u.2.2.2.2.2])), (yb, .inl (cI, 65536, .inl y)), (zb, .inl (cI, 33, .inl z))]) (va_A [(k0, .inr (2, [.int th, .ref yb, .ref zb, .int a1, .int a2, .int a3, .int a4, .int a5, .int a6, .int fo])), (yb, .inl (cI, 65536, .inl y)), (zb, .inl (cI, 33, .inl z))] sz)) 0 0 (va_A [(k0, .inr (2, [.int th, .ref yb, .ref zb, .int a1, .int a2, .int a3, .int a4, .int a5, .int a6, .int fo])), (yb, .inl (cI, 65536, .inl y)), (zb, .inl (cI, 33, .inl z))] sz) := by
  refine Met.ofW (cc := cM_load) (maxL := 3) (ret := (some .int)) (by decide) rfl ?_
  intro p e s m args below meth c s₁ B hml hv
  obtain ⟨rfl, hsz, hP, hK, hD0⟩ := hv
  have hx := B.exec
  have hb := B.bytes
  have hr := B.returns
  have hts := atoms_spec (ws := wsM_load) B.pre
  have hown : s.vm.findClass RX2 = some m.cls := findClass_of_methodNamed B.named
  have hlocks := B.notSynchronized
  subst hsz
  have hD := hD0.self (sz := s.heap.size)
  generalize hAe : va_A [(k0, .inr (2, [.int th, .ref yb, .ref zb, .int a1, .int a2, .int a3, .int a4, .int a5, .int a6, .int fo])), (yb, .inl (cI, 65536, .inl y)), (zb, .inl (cI, 33, .inl z))] s.heap.size = A at hD ⊢
  have hA : ∀ q : Nat, s.heap.size ≤ q → A q := fun q h => by rw [← hAe]; exact Or.inr h
  have hS : va_S A s.heap s.heap [] := va_S.rf
  have hP : va_P (dC, dI) vwCl [(k0, .inr (2, [.int th, .ref yb, .ref zb, .int a1, .int a2, .int a3, .int a4, .int a5, .int a6, .int fo])), (yb, .inl (cI, 65536, .inl y)), (zb, .inl (cI, 33, .inl z))] s.heap := hP
  have hl := lv_entry ([.ref k0, .int v, .int wd]) (n := 3) (Nat.le_of_ble_eq_true rfl)
  rw [lg_entry_eq]
  generalize (lg_sl ([.ref k0, .int v, .int wd]) ++ List.replicate (3 - (lg_sl ([.ref k0, .int v, .int wd])).length) Slot.unset).toArray = ls at hl ⊢
  have hl : lv_has ls 3 [(0, .ref k0), (1, .int v), (2, .int wd)] := hl
  refine lv_aload_n hx hb dM_load_0 rfl (lv_at hl 0 rfl) ?_
  refine lv_iconst (v := 0) hx hb dM_load_1 (by decide) ?_
  refine va_put (D := (dC, dI)) (ci := 2) (v := .int 0) (ty := tyX2 0) (C := RX2) (T := TX2) (N := 10) hx hb hts miM_load_X2 tyX2 tyX2_ok nmX2 hown hK hP hD hS 0 rfl rfl 0 (by decide) (hts _ mbM_load_1) (fun _ h9 => h9) rfl (by decide +kernel) rfl rfl (Nat.le_of_ble_eq_true rfl) dM_load_2 (fun H locs hP hD hS => ?_)
  have hP : va_P (dC, dI) vwCl [(k0, .inr (2, [.int 0, .ref yb, .ref zb, .int a1, .int a2, .int a3, .int a4, .int a5, .int a6, .int fo])), (yb, .inl (cI, 65536, .inl y)), (zb, .inl (cI, 33, .inl z))] H := hP
  have hD : va_D A [(k0, .inr (2, [.int 0, .ref yb, .ref zb, .int a1, .int a2, .int a3, .int a4, .int a5, .int a6, .int fo])), (yb, .inl (cI, 65536, .inl y)), (zb, .inl (cI, 33, .inl z))] := hD
  refine lv_aload_n hx hb dM_load_5 rfl (lv_at hl 0 rfl) ?_
  refine lv_iload_n hx hb dM_load_6 rfl (lv_at hl 1 rfl) ?_
  refine lv_iconst (v := 1) hx hb dM_load_7 (by decide) ?_
  refine lv_iload_n hx hb dM_load_8 rfl (lv_at hl 2 rfl) ?_
  have hPc := hP.sub (ws' := [(k0, .inr (2, [.int 0, .ref yb, .ref zb, .int a1, .int a2, .int a3, .int a4, .int a5, .int a6, .int fo])), (yb, .inl (cI, 65536, .inl y)), (zb, .inl (cI, 33, .inl z))]) [0, 1, 2] rfl
  have hDc := hD.sub (ws' := [(k0, .inr (2, [.int 0, .ref yb, .ref zb, .int a1, .int a2, .int a3, .int a4, .int a5, .int a6, .int fo])), (yb, .inl (cI, 65536, .inl y)), (zb, .inl (cI, 33, .inl z))]) [0, 1, 2] (by decide) rfl
  have hFc := va_free (wc := [(k0, .inr (2, [.int 0, .ref yb, .ref zb, .int a1, .int a2, .int a3, .int a4, .int a5, .int a6, .int fo])), (yb, .inl (cI, 65536, .inl y)), (zb, .inl (cI, 33, .inl z))]) hD hS hA [0, 1, 2] rfl
  have hKc := hK.sub (tys' := [(cI, .int)]) [0] rfl
  refine va_calli (va_runV (As := [.int v, .int 1, .int wd]) (rest := []) ⟨hx, hb, hml, hown, hts⟩ (c_M_probe l dC dI (H.size) k0 yb zb cI y z 0 a1 a2 a3 a4 a5 a6 fo v 1 wd) (cwV 3 hts gM_load_M_probe rfl rfl rfl (by decide +kernel) ⟨Nat.le_of_ble_eq_true rfl, Nat.le_of_ble_eq_true rfl⟩) ⟨fun a U g mk q => by obtain ⟨q0, q1, qP, qK, qD⟩ := q; exact ⟨q0, q1, qP, va_K.moved (u := U) (U := U.calling g mk a) (Vm.Alike.refl U.vm) qK, qD⟩, va_recv hKc hPc (ci := 2) (q0 := 0) rfl rfl, fun U hU hW => ⟨rfl, by rw [hU], by rw [hU]; exact hPc, va_K.moved hW.alike hKc, hDc.weaken (fun _ _ _ _ => trivial)⟩⟩ rfl rfl hl.1 rfl (lv_room (Nat.le_of_ble_eq_true rfl)) dM_load_9 ⟨Nat.le_of_ble_eq_true rfl, Nat.le_of_ble_eq_true rfl⟩) hS (fun q _ h => hFc q h) hFc (fun r_1 u_3 t H1 locs ht hvm hw_2 hB hz1 hk1 hS => ?_)
  have e1_ : r_1 = (s_M_probe z a1 a2 a3 fo v 1 wd).1 := congrArg Prod.fst hw_2
  have e2_ : u_3 = (s_M_probe z a1 a2 a3 fo v 1 wd).2 := congrArg Prod.snd hw_2
  subst e1_ e2_
  obtain ⟨hP1, hK1, hD1⟩ := hB
  rw [ht] at hP1
  obtain ⟨hP, hD⟩ := va_join (wr := []) (w1 := [(k0, .inr (2, [.int 0, .ref yb, .ref zb, .int ((s_M_probe z a1 a2 a3 fo v 1 wd).2.1), .int ((s_M_probe z a1 a2 a3 fo v 1 wd).2.2.1), .int ((s_M_probe z a1 a2 a3 fo v 1 wd).2.2.2.1), .int a4, .int a5, .int a6, .int ((s_M_probe z a1 a2 a3 fo v 1 wd).2.2.2.2)])), (yb, .inl (cI, 65536, .inl y)), (zb, .inl (cI, 33, .inl z))]) hP hD [0, 1, 2] [] rfl rfl (by decide) (by decide) hk1 hFc hP1 hD1
  generalize H1 = H at hP hS ⊢
  have hP : va_P (dC, dI) vwCl [(k0, .inr (2, [.int 0, .ref yb, .ref zb, .int ((s_M_probe z a1 a2 a3 fo v 1 wd).2.1), .int ((s_M_probe z a1 a2 a3 fo v 1 wd).2.2.1), .int ((s_M_probe z a1 a2 a3 fo v 1 wd).2.2.2.1), .int a4, .int a5, .int a6, .int ((s_M_probe z a1 a2 a3 fo v 1 wd).2.2.2.2)])), (yb, .inl (cI, 65536, .inl y)), (zb, .inl (cI, 33, .inl z))] H := hP
  have hD : va_D A [(k0, .inr (2, [.int 0, .ref yb, .ref zb, .int ((s_M_probe z a1 a2 a3 fo v 1 wd).2.1), .int ((s_M_probe z a1 a2 a3 fo v 1 wd).2.2.1), .int ((s_M_probe z a1 a2 a3 fo v 1 wd).2.2.2.1), .int a4, .int a5, .int a6, .int ((s_M_probe z a1 a2 a3 fo v 1 wd).2.2.2.2)])), (yb, .inl (cI, 65536, .inl y)), (zb, .inl (cI, 33, .inl z))] := hD
  refine lv_if_ne (tgt := 17) hx hb dM_load_12 (by decide) (fun c_4 => ?_) (fun c_4 => ?_)
  · skip
    refine lv_aload_n hx hb dM_load_17 rfl (lv_at hl 0 rfl) ?_
    refine lv_dup hx hb dM_load_18 rfl ?_
    refine va_get (D := (dC, dI)) (ci := 2) (v := .int a5) (C := RX2) (T := TX2) (N := 10) hx hb hts miM_load_X2 hown hK hP 0 rfl rfl 7 (by decide) (hts _ mbM_load_2) (fun _ h9 => h9) rfl dM_load_19 ?_
    refine lv_iconst (v := 1) hx hb dM_load_22 (by decide) ?_
    refine lv_iadd hx hb dM_load_23 ?_
    refine va_put (D := (dC, dI)) (ci := 2) (v := .int (a5 + 1)) (ty := tyX2 7) (C := RX2) (T := TX2) (N := 10) hx hb hts miM_load_X2 tyX2 tyX2_ok nmX2 hown hK hP hD hS 0 rfl rfl 7 (by decide) (hts _ mbM_load_2) (fun _ h9 => h9) rfl (by decide +kernel) rfl rfl (Nat.le_of_ble_eq_true rfl) dM_load_24 (fun H locs hP hD hS => ?_)
    have hP : va_P (dC, dI) vwCl [(k0, .inr (2, [.int 0, .ref yb, .ref zb, .int ((s_M_probe z a1 a2 a3 fo v 1 wd).2.1), .int ((s_M_probe z a1 a2 a3 fo v 1 wd).2.2.1), .int ((s_M_probe z a1 a2 a3 fo v 1 wd).2.2.2.1), .int a4, .int (a5 + 1), .int a6, .int ((s_M_probe z a1 a2 a3 fo v 1 wd).2.2.2.2)])), (yb, .inl (cI, 65536, .inl y)), (zb, .inl (cI, 33, .inl z))] H := hP
    have hD : va_D A [(k0, .inr (2, [.int 0, .ref yb, .ref zb, .int ((s_M_probe z a1 a2 a3 fo v 1 wd).2.1), .int ((s_M_probe z a1 a2 a3 fo v 1 wd).2.2.1), .int ((s_M_probe z a1 a2 a3 fo v 1 wd).2.2.2.1), .int a4, .int (a5 + 1), .int a6, .int ((s_M_probe z a1 a2 a3 fo v 1 wd).2.2.2.2)])), (yb, .inl (cI, 65536, .inl y)), (zb, .inl (cI, 33, .inl z))] := hD
    refine lv_iload_n hx hb dM_load_27 rfl (lv_at hl 2 rfl) ?_
    refine lv_if_eq (tgt := 42) hx hb dM_load_28 (by decide) (fun c_5 => ?_) (fun c_5 => ?_)
    · skip
      refine lv_aload_n hx hb dM_load_42 rfl (lv_at hl 0 rfl) ?_
      refine va_get (D := (dC, dI)) (ci := 2) (v := .ref yb) (C := RX2) (T := TX2) (N := 10) hx hb hts miM_load_X2 hown hK hP 0 rfl rfl 1 (by decide) (hts _ mbM_load_3) (fun _ h9 => h9) rfl dM_load_43 ?_
      refine lv_aload_n hx hb dM_load_46 rfl (lv_at hl 0 rfl) ?_
      refine va_get (D := (dC, dI)) (ci := 2) (v := .int ((s_M_probe z a1 a2 a3 fo v 1 wd).2.2.2.2)) (C := RX2) (T := TX2) (N := 10) hx hb hts miM_load_X2 hown hK hP 0 rfl rfl 9 (by decide) (hts _ mbM_load_4) (fun _ h9 => h9) rfl dM_load_47 ?_
      refine va_iald hx hb hK hP 1 0 rfl rfl (pr_in hq c_4) dM_load_50 ?_
      exact W.iret (v := y ((s_M_probe z a1 a2 a3 fo v 1 wd).2.2.2.2).toNatClampNeg) hx hb hr (fun t ht hW => ⟨⟨y ((s_M_probe z a1 a2 a3 fo v 1 wd).2.2.2.2).toNatClampNeg, (0, (s_M_probe z a1 a2 a3 fo v 1 wd).2.1, (s_M_probe z a1 a2 a3 fo v 1 wd).2.2.1, (s_M_probe z a1 a2 a3 fo v 1 wd).2.2.2.1, a5 + 1, (s_M_probe z a1 a2 a3 fo v 1 wd).2.2.2.2), rfl, by simp only [s_M_load, if_neg c_4, if_pos c_5], by rw [ht]; exact hP, va_K.moved hW.alike hK, hD⟩, hS.F ht⟩) hS.2.2 dM_load_51
    · skip
      refine lv_aload_n hx hb dM_load_31 rfl (lv_at hl 0 rfl) ?_
      refine lv_aload_n hx hb dM_load_32 rfl (lv_at hl 0 rfl) ?_
      refine va_get (D := (dC, dI)) (ci := 2) (v := .int ((s_M_probe z a1 a2 a3 fo v 1 wd).2.2.2.2)) (C := RX2) (T := TX2) (N := 10) hx hb hts miM_load_X2 hown hK hP 0 rfl rfl 9 (by decide) (hts _ mbM_load_4) (fun _ h9 => h9) rfl dM_load_33 ?_
      have hPc := hP.sub (ws' := [(k0, .inr (2, [.int 0, .ref yb, .ref zb, .int ((s_M_probe z a1 a2 a3 fo v 1 wd).2.1), .int ((s_M_probe z a1 a2 a3 fo v 1 wd).2.2.1), .int ((s_M_probe z a1 a2 a3 fo v 1 wd).2.2.2.1), .int a4, .int (a5 + 1), .int a6, .int ((s_M_probe z a1 a2 a3 fo v 1 wd).2.2.2.2)])), (yb, .inl (cI, 65536, .inl y)), (zb, .inl (cI, 33, .inl z))]) [0, 1, 2] rfl
      have hKc := hK.sub (tys' := [(cI, .int)]) [0] rfl
      refine vp_callSi (va_Run.run (va_runV (As := [.int ((s_M_probe z a1 a2 a3 fo v 1 wd).2.2.2.2)]) (rest := []) ⟨hx, hb, hml, hown, hts⟩ (c_M_wordIn l dC dI k0 yb zb cI y z 0 ((s_M_probe z a1 a2 a3 fo v 1 wd).2.1) ((s_M_probe z a1 a2 a3 fo v 1 wd).2.2.1) ((s_M_probe z a1 a2 a3 fo v 1 wd).2.2.2.1) a4 (a5 + 1) a6 ((s_M_probe z a1 a2 a3 fo v 1 wd).2.2.2.2) ((s_M_probe z a1 a2 a3 fo v 1 wd).2.2.2.2) (pr_4 hq c_4 (fun q => c_5 q.1))) (cwV 1 hts gM_load_M_wordIn rfl rfl rfl (by decide +kernel) ⟨Nat.le_of_ble_eq_true rfl, Nat.le_of_ble_eq_true rfl⟩) ⟨fun a U g mk q => by obtain ⟨q0, qP, qK⟩ := q; exact ⟨q0, qP, va_K.moved (u := U) (U := U.calling g mk a) (Vm.Alike.refl U.vm) qK⟩, va_recv hKc hPc (ci := 2) (q0 := 0) rfl rfl, fun U hU hW => ⟨rfl, by rw [hU]; exact hPc, va_K.moved hW.alike hKc⟩⟩ rfl rfl hl.1 rfl (lv_room (Nat.le_of_ble_eq_true rfl)) dM_load_36 ⟨Nat.le_of_ble_eq_true rfl, Nat.le_of_ble_eq_true rfl⟩)) (fun r_6 hw_7 => ?_)
      subst hw_7
      refine lv_goto (tgt := 51) hx hb dM_load_39 (by decide) ?_
      exact W.iret (v := s_M_wordIn y ((s_M_probe z a1 a2 a3 fo v 1 wd).2.2.2.2)) hx hb hr (fun t ht hW => ⟨⟨s_M_wordIn y ((s_M_probe z a1 a2 a3 fo v 1 wd).2.2.2.2), (0, (s_M_probe z a1 a2 a3 fo v 1 wd).2.1, (s_M_probe z a1 a2 a3 fo v 1 wd).2.2.1, (s_M_probe z a1 a2 a3 fo v 1 wd).2.2.2.1, a5 + 1, (s_M_probe z a1 a2 a3 fo v 1 wd).2.2.2.2), rfl, by simp only [s_M_load, if_neg c_4, if_neg c_5], by rw [ht]; exact hP, va_K.moved hW.alike hK, hD⟩, hS.F ht⟩) hS.2.2 dM_load_51
  · skip
    refine lv_iconst (v := 0) hx hb dM_load_15 (by decide) ?_
    exact W.iret (v := 0) hx hb hr (fun t ht hW => ⟨⟨0, (0, (s_M_probe z a1 a2 a3 fo v 1 wd).2.1, (s_M_probe z a1 a2 a3 fo v 1 wd).2.2.1, (s_M_probe z a1 a2 a3 fo v 1 wd).2.2.2.1, a5, (s_M_probe z a1 a2 a3 fo v 1 wd).2.2.2.2), rfl, by simp only [s_M_load, if_pos c_4], by rw [ht]; exact hP, va_K.moved hW.alike hK, hD⟩, hS.F ht⟩) hS.2.2 dM_load_16
set_option maxRecDepth 100000 in
theorem miM_store_X2 : ∀ w ∈ u_ws RX2 TX2 10, w ∈ wsM_store := by decide +kernel
set_option maxRecDepth 100000 in
theorem mbM_store_1 : (.fieldLink RX2 17 "SoftMapsModel" "thrown" "I" : Cond) ∈ wsM_store := by decide +kernel
set_option maxRecDepth 100000 in
theorem mbM_store_2 : (.fieldLink RX2 76 "SoftMapsModel" "stores" "I" : Cond) ∈ wsM_store := by decide +kernel
set_option maxRecDepth 100000 in
theorem mbM_store_3 : (.fieldLink RX2 8 "SoftMapsModel" "bytes" "[I" : Cond) ∈ wsM_store := by decide +kernel
set_option maxRecDepth 100000 in
theorem mbM_store_4 : (.fieldLink RX2 46 "SoftMapsModel" "found" "I" : Cond) ∈ wsM_store := by decide +kernel
def s_M_store (y : Nat → Int32) (z : Nat → Int32) (a1 : Int32) (a2 : Int32) (a3 : Int32) (a6 : Int32) (fo : Int32) (v : Int32) (w : Int32) (wd : Int32) : Int32 × Int32 × (Nat → Int32) × Int32 × Int32 × Int32 × Int32 × Int32 :=
  if (s_M_probe z a1 a2 a3 fo v 2 wd).1 = 0 then
    ((-1), (0, y, (s_M_probe z a1 a2 a3 fo v 2 wd).2.1, (s_M_probe z a1 a2 a3 fo v 2 wd).2.2.1, (s_M_probe z a1 a2 a3 fo v 2 wd).2.2.2.1, a6, (s_M_probe z a1 a2 a3 fo v 2 wd).2.2.2.2))
  else
    if wd = 0 then
      ((s_M_probe z a1 a2 a3 fo v 2 wd).2.2.2.2, (0, upd y ((s_M_probe z a1 a2 a3 fo v 2 wd).2.2.2.2).toNatClampNeg (w &&& 255), (s_M_probe z a1 a2 a3 fo v 2 wd).2.1, (s_M_probe z a1 a2 a3 fo v 2 wd).2.2.1, (s_M_probe z a1 a2 a3 fo v 2 wd).2.2.2.1, a6 + 1, (s_M_probe z a1 a2 a3 fo v 2 wd).2.2.2.2))
    else
      ((s_M_probe z a1 a2 a3 fo v 2 wd).2.2.2.2, (0, (s_M_lay y ((s_M_probe z a1 a2 a3 fo v 2 wd).2.2.2.2) w), (s_M_probe z a1 a2 a3 fo v 2 wd).2.1, (s_M_probe z a1 a2 a3 fo v 2 wd).2.2.1, (s_M_probe z a1 a2 a3 fo v 2 wd).2.2.2.1, a6 + 1, (s_M_probe z a1 a2 a3 fo v 2 wd).2.2.2.2))
set_option maxHeartbeats 4000000 in
set_option maxRecDepth 100000 in
theorem c_M_store (l : Launch) (dC : Nat → ClassId) (dI : Nat → Nat → Nat) (sz : Nat) (k0 yb zb : Nat) (cI : ClassId) (y z : Nat → Int32) (th a1 a2 a3 a4 a5 a6 fo : Int32) (v : Int32) (w : Int32) (wd : Int32) (hq : md_ok z) : Met l yM_store wsM_store ({ frames := 3, cells := 0, slots := 0, locals := 80 }) (va_Pc [.ref k0, .int v, .int w, .int wd] (fun U => U.heap.size = sz ∧ va_P (dC, dI) vwCl [(k0, .inr (2, [.int th, .ref yb, .ref zb, .int a1, .int a2, .int a3, .int a4, .int a5, .int a6, .int fo])), (yb, .inl (cI, 65536, .inl y)), (zb, .inl (cI, 33, .inl z))] U.heap ∧ va_K (dC, dI) vwCl [(cI, .int)] U ∧ va_D (fun _ => True) [(k0, .inr (2, [.int th, .ref yb, .ref zb, .int a1, .int a2, .int a3, .int a4, .int a5, .int a6, .int fo])), (yb, .inl (cI, 65536, .inl y)), (zb, .inl (cI, 33, .inl z))])) (va_Qi (fun (a_ : Int32) (u : Int32 × (Nat → Int32) × Int32 × Int32 × Int32 × Int32 × Int32) => (a_, u) = s_M_store y z a1 a2 a3 a6 fo v w wd) (fun (u : Int32 × (Nat → Int32) × Int32 × Int32 × Int32 × Int32 × Int32) (t : State) => va_P (dC, dI) vwCl [(k0, .inr (2, [.int u.1, .ref yb, .ref zb, .int u.2.2.1, .int u.2.2.2.1, .int u.2.2.2.2.1, .int a4, .int a5, .int u.2.2.2.2.2.1, .int u.2.2.2.2.2.2])), (yb, .inl (cI, 65536, .inl u.2.1)), (zb, .inl (cI, 33, .inl z))] t.heap ∧ va_K (dC, dI) vwCl [(cI, .int)] t ∧ va_D (va_A [(k0, .inr (2, [.int th, .ref yb, .ref zb, .int a1, .int a2, .int a3, .int a4, .int a5, .int a6, .int fo])), (yb, .inl (cI, 65536, .inl y)), (zb, .inl (cI, 33, .inl z))] sz) [(k0, .inr (2, [.int u.1, .ref yb, .ref zb, .int u.2.2.1, .int u.2.2.2.1, .int u.2.2.2.2.1, .int a4, .int a5, .int u.2.2.2.2.2.1, .int u.2.2.2.2.2.2])), (yb, .inl (cI, 65536, .inl u.2.1)), (zb, .inl (cI, 33, .inl z))]) (va_A [(k0, .inr (2, [.int th, .ref yb, .ref zb, .int a1, .int a2, .int a3, .int a4, .int a5, .int a6, .int fo])), (yb, .inl (cI, 65536, .inl y)), (zb, .inl (cI, 33, .inl z))] sz)) 0 0 (va_A [(k0, .inr (2, [.int th, .ref yb, .ref zb, .int a1, .int a2, .int a3, .int a4, .int a5, .int a6, .int fo])), (yb, .inl (cI, 65536, .inl y)), (zb, .inl (cI, 33, .inl z))] sz) := by
  refine Met.ofW (cc := cM_store) (maxL := 4) (ret := (some .int)) (by decide) rfl ?_
  intro p e s m args below meth c s₁ B hml hv
  obtain ⟨rfl, hsz, hP, hK, hD0⟩ := hv
  have hx := B.exec
  have hb := B.bytes
  have hr := B.returns
  have hts := atoms_spec (ws := wsM_store) B.pre
  have hown : s.vm.findClass RX2 = some m.cls := findClass_of_methodNamed B.named
  have hlocks := B.notSynchronized
  subst hsz
  have hD := hD0.self (sz := s.heap.size)
  generalize hAe : va_A [(k0, .inr (2, [.int th, .ref yb, .ref zb, .int a1, .int a2, .int a3, .int a4, .int a5, .int a6, .int fo])), (yb, .inl (cI, 65536, .inl y)), (zb, .inl (cI, 33, .inl z))] s.heap.size = A at hD ⊢
  have hA : ∀ q : Nat, s.heap.size ≤ q → A q := fun q h => by rw [← hAe]; exact Or.inr h
  have hS : va_S A s.heap s.heap [] := va_S.rf
  have hP : va_P (dC, dI) vwCl [(k0, .inr (2, [.int th, .ref yb, .ref zb, .int a1, .int a2, .int a3, .int a4, .int a5, .int a6, .int fo])), (yb, .inl (cI, 65536, .inl y)), (zb, .inl (cI, 33, .inl z))] s.heap := hP
  have hl := lv_entry ([.ref k0, .int v, .int w, .int wd]) (n := 4) (Nat.le_of_ble_eq_true rfl)
  rw [lg_entry_eq]
  generalize (lg_sl ([.ref k0, .int v, .int w, .int wd]) ++ List.replicate (4 - (lg_sl ([.ref k0, .int v, .int w, .int wd])).length) Slot.unset).toArray = ls at hl ⊢
  have hl : lv_has ls 4 [(0, .ref k0), (1, .int v), (2, .int w), (3, .int wd)] := hl
  refine lv_aload_n hx hb dM_store_0 rfl (lv_at hl 0 rfl) ?_
  refine lv_iconst (v := 0) hx hb dM_store_1 (by decide) ?_
  refine va_put (D := (dC, dI)) (ci := 2) (v := .int 0) (ty := tyX2 0) (C := RX2) (T := TX2) (N := 10) hx hb hts miM_store_X2 tyX2 tyX2_ok nmX2 hown hK hP hD hS 0 rfl rfl 0 (by decide) (hts _ mbM_store_1) (fun _ h9 => h9) rfl (by decide +kernel) rfl rfl (Nat.le_of_ble_eq_true rfl) dM_store_2 (fun H locs hP hD hS => ?_)
  have hP : va_P (dC, dI) vwCl [(k0, .inr (2, [.int 0, .ref yb, .ref zb, .int a1, .int a2, .int a3, .int a4, .int a5, .int a6, .int fo])), (yb, .inl (cI, 65536, .inl y)), (zb, .inl (cI, 33, .inl z))] H := hP
  have hD : va_D A [(k0, .inr (2, [.int 0, .ref yb, .ref zb, .int a1, .int a2, .int a3, .int a4, .int a5, .int a6, .int fo])), (yb, .inl (cI, 65536, .inl y)), (zb, .inl (cI, 33, .inl z))] := hD
  refine lv_aload_n hx hb dM_store_5 rfl (lv_at hl 0 rfl) ?_
  refine lv_iload_n hx hb dM_store_6 rfl (lv_at hl 1 rfl) ?_
  refine lv_iconst (v := 2) hx hb dM_store_7 (by decide) ?_
  refine lv_iload_n hx hb dM_store_8 rfl (lv_at hl 3 rfl) ?_
  have hPc := hP.sub (ws' := [(k0, .inr (2, [.int 0, .ref yb, .ref zb, .int a1, .int a2, .int a3, .int a4, .int a5, .int a6, .int fo])), (yb, .inl (cI, 65536, .inl y)), (zb, .inl (cI, 33, .inl z))]) [0, 1, 2] rfl
  have hDc := hD.sub (ws' := [(k0, .inr (2, [.int 0, .ref yb, .ref zb, .int a1, .int a2, .int a3, .int a4, .int a5, .int a6, .int fo])), (yb, .inl (cI, 65536, .inl y)), (zb, .inl (cI, 33, .inl z))]) [0, 1, 2] (by decide) rfl
  have hFc := va_free (wc := [(k0, .inr (2, [.int 0, .ref yb, .ref zb, .int a1, .int a2, .int a3, .int a4, .int a5, .int a6, .int fo])), (yb, .inl (cI, 65536, .inl y)), (zb, .inl (cI, 33, .inl z))]) hD hS hA [0, 1, 2] rfl
  have hKc := hK.sub (tys' := [(cI, .int)]) [0] rfl
  refine va_calli (va_runV (As := [.int v, .int 2, .int wd]) (rest := []) ⟨hx, hb, hml, hown, hts⟩ (c_M_probe l dC dI (H.size) k0 yb zb cI y z 0 a1 a2 a3 a4 a5 a6 fo v 2 wd) (cwV 3 hts gM_store_M_probe rfl rfl rfl (by decide +kernel) ⟨Nat.le_of_ble_eq_true rfl, Nat.le_of_ble_eq_true rfl⟩) ⟨fun a U g mk q => by obtain ⟨q0, q1, qP, qK, qD⟩ := q; exact ⟨q0, q1, qP, va_K.moved (u := U) (U := U.calling g mk a) (Vm.Alike.refl U.vm) qK, qD⟩, va_recv hKc hPc (ci := 2) (q0 := 0) rfl rfl, fun U hU hW => ⟨rfl, by rw [hU], by rw [hU]; exact hPc, va_K.moved hW.alike hKc, hDc.weaken (fun _ _ _ _ => trivial)⟩⟩ rfl rfl hl.1 rfl (lv_room (Nat.le_of_ble_eq_true rfl)) dM_store_9 ⟨Nat.le_of_ble_eq_true rfl, Nat.le_of_ble_eq_true rfl⟩) hS (fun q _ h => hFc q h) hFc (fun r_1 u_3 t H1 locs ht hvm hw_2 hB hz1 hk1 hS => ?_)
  have e1_ : r_1 = (s_M_probe z a1 a2 a3 fo v 2 wd).1 := congrArg Prod.fst hw_2
  have e2_ : u_3 = (s_M_probe z a1 a2 a3 fo v 2 wd).2 := congrArg Prod.snd hw_2
  subst e1_ e2_
  obtain ⟨hP1, hK1, hD1⟩ := hB
  rw [ht] at hP1
  obtain ⟨hP, hD⟩ := va_join (wr := []) (w1 := [(k0, .inr (2, [.int 0, .ref yb, .ref zb, .int ((s_M_probe z a1 a2 a3 fo v 2 wd).2.1), .int ((s_M_probe z a1 a2 a3 fo v 2 wd).2.2.1), .int ((s_M_probe z a1 a2 a3 fo v 2 wd).2.2.2.1), .int a4, .int a5, .int a6, .int ((s_M_probe z a1 a2 a3 fo v 2 wd).2.2.2.2)])), (yb, .inl (cI, 65536, .inl y)), (zb, .inl (cI, 33, .inl z))]) hP hD [0, 1, 2] [] rfl rfl (by decide) (by decide) hk1 hFc hP1 hD1
  generalize H1 = H at hP hS ⊢
  have hP : va_P (dC, dI) vwCl [(k0, .inr (2, [.int 0, .ref yb, .ref zb, .int ((s_M_probe z a1 a2 a3 fo v 2 wd).2.1), .int ((s_M_probe z a1 a2 a3 fo v 2 wd).2.2.1), .int ((s_M_probe z a1 a2 a3 fo v 2 wd).2.2.2.1), .int a4, .int a5, .int a6, .int ((s_M_probe z a1 a2 a3 fo v 2 wd).2.2.2.2)])), (yb, .inl (cI, 65536, .inl y)), (zb, .inl (cI, 33, .inl z))] H := hP
  have hD : va_D A [(k0, .inr (2, [.int 0, .ref yb, .ref zb, .int ((s_M_probe z a1 a2 a3 fo v 2 wd).2.1), .int ((s_M_probe z a1 a2 a3 fo v 2 wd).2.2.1), .int ((s_M_probe z a1 a2 a3 fo v 2 wd).2.2.2.1), .int a4, .int a5, .int a6, .int ((s_M_probe z a1 a2 a3 fo v 2 wd).2.2.2.2)])), (yb, .inl (cI, 65536, .inl y)), (zb, .inl (cI, 33, .inl z))] := hD
  refine lv_if_ne (tgt := 17) hx hb dM_store_12 (by decide) (fun c_4 => ?_) (fun c_4 => ?_)
  · skip
    refine lv_aload_n hx hb dM_store_17 rfl (lv_at hl 0 rfl) ?_
    refine lv_dup hx hb dM_store_18 rfl ?_
    refine va_get (D := (dC, dI)) (ci := 2) (v := .int a6) (C := RX2) (T := TX2) (N := 10) hx hb hts miM_store_X2 hown hK hP 0 rfl rfl 8 (by decide) (hts _ mbM_store_2) (fun _ h9 => h9) rfl dM_store_19 ?_
    refine lv_iconst (v := 1) hx hb dM_store_22 (by decide) ?_
    refine lv_iadd hx hb dM_store_23 ?_
    refine va_put (D := (dC, dI)) (ci := 2) (v := .int (a6 + 1)) (ty := tyX2 8) (C := RX2) (T := TX2) (N := 10) hx hb hts miM_store_X2 tyX2 tyX2_ok nmX2 hown hK hP hD hS 0 rfl rfl 8 (by decide) (hts _ mbM_store_2) (fun _ h9 => h9) rfl (by decide +kernel) rfl rfl (Nat.le_of_ble_eq_true rfl) dM_store_24 (fun H locs hP hD hS => ?_)
    have hP : va_P (dC, dI) vwCl [(k0, .inr (2, [.int 0, .ref yb, .ref zb, .int ((s_M_probe z a1 a2 a3 fo v 2 wd).2.1), .int ((s_M_probe z a1 a2 a3 fo v 2 wd).2.2.1), .int ((s_M_probe z a1 a2 a3 fo v 2 wd).2.2.2.1), .int a4, .int a5, .int (a6 + 1), .int ((s_M_probe z a1 a2 a3 fo v 2 wd).2.2.2.2)])), (yb, .inl (cI, 65536, .inl y)), (zb, .inl (cI, 33, .inl z))] H := hP
    have hD : va_D A [(k0, .inr (2, [.int 0, .ref yb, .ref zb, .int ((s_M_probe z a1 a2 a3 fo v 2 wd).2.1), .int ((s_M_probe z a1 a2 a3 fo v 2 wd).2.2.1), .int ((s_M_probe z a1 a2 a3 fo v 2 wd).2.2.2.1), .int a4, .int a5, .int (a6 + 1), .int ((s_M_probe z a1 a2 a3 fo v 2 wd).2.2.2.2)])), (yb, .inl (cI, 65536, .inl y)), (zb, .inl (cI, 33, .inl z))] := hD
    refine lv_iload_n hx hb dM_store_27 rfl (lv_at hl 3 rfl) ?_
    refine lv_if_eq (tgt := 43) hx hb dM_store_28 (by decide) (fun c_5 => ?_) (fun c_5 => ?_)
    · skip
      refine lv_aload_n hx hb dM_store_43 rfl (lv_at hl 0 rfl) ?_
      refine va_get (D := (dC, dI)) (ci := 2) (v := .ref yb) (C := RX2) (T := TX2) (N := 10) hx hb hts miM_store_X2 hown hK hP 0 rfl rfl 1 (by decide) (hts _ mbM_store_3) (fun _ h9 => h9) rfl dM_store_44 ?_
      refine lv_aload_n hx hb dM_store_47 rfl (lv_at hl 0 rfl) ?_
      refine va_get (D := (dC, dI)) (ci := 2) (v := .int ((s_M_probe z a1 a2 a3 fo v 2 wd).2.2.2.2)) (C := RX2) (T := TX2) (N := 10) hx hb hts miM_store_X2 hown hK hP 0 rfl rfl 9 (by decide) (hts _ mbM_store_4) (fun _ h9 => h9) rfl dM_store_48 ?_
      refine lv_iload_n hx hb dM_store_51 rfl (lv_at hl 2 rfl) ?_
      refine lv_sipush (v := 255) hx hb dM_store_52 (by decide) ?_
      refine lv_iand hx hb dM_store_55 ?_
      refine va_iast hx hb hK hP hD hS 1 0 rfl rfl (pr_in hq c_4) dM_store_56 (fun H locs hP hD hS => ?_)
      have hP : va_P (dC, dI) vwCl [(k0, .inr (2, [.int 0, .ref yb, .ref zb, .int ((s_M_probe z a1 a2 a3 fo v 2 wd).2.1), .int ((s_M_probe z a1 a2 a3 fo v 2 wd).2.2.1), .int ((s_M_probe z a1 a2 a3 fo v 2 wd).2.2.2.1), .int a4, .int a5, .int (a6 + 1), .int ((s_M_probe z a1 a2 a3 fo v 2 wd).2.2.2.2)])), (yb, .inl (cI, 65536, .inl (upd y ((s_M_probe z a1 a2 a3 fo v 2 wd).2.2.2.2).toNatClampNeg (w &&& 255)))), (zb, .inl (cI, 33, .inl z))] H := hP
      have hD : va_D A [(k0, .inr (2, [.int 0, .ref yb, .ref zb, .int ((s_M_probe z a1 a2 a3 fo v 2 wd).2.1), .int ((s_M_probe z a1 a2 a3 fo v 2 wd).2.2.1), .int ((s_M_probe z a1 a2 a3 fo v 2 wd).2.2.2.1), .int a4, .int a5, .int (a6 + 1), .int ((s_M_probe z a1 a2 a3 fo v 2 wd).2.2.2.2)])), (yb, .inl (cI, 65536, .inl (upd y ((s_M_probe z a1 a2 a3 fo v 2 wd).2.2.2.2).toNatClampNeg (w &&& 255)))), (zb, .inl (cI, 33, .inl z))] := hD
      refine lv_aload_n hx hb dM_store_57 rfl (lv_at hl 0 rfl) ?_
      refine va_get (D := (dC, dI)) (ci := 2) (v := .int ((s_M_probe z a1 a2 a3 fo v 2 wd).2.2.2.2)) (C := RX2) (T := TX2) (N := 10) hx hb hts miM_store_X2 hown hK hP 0 rfl rfl 9 (by decide) (hts _ mbM_store_4) (fun _ h9 => h9) rfl dM_store_58 ?_
      exact W.iret (v := (s_M_probe z a1 a2 a3 fo v 2 wd).2.2.2.2) hx hb hr (fun t ht hW => ⟨⟨(s_M_probe z a1 a2 a3 fo v 2 wd).2.2.2.2, (0, upd y ((s_M_probe z a1 a2 a3 fo v 2 wd).2.2.2.2).toNatClampNeg (w &&& 255), (s_M_probe z a1 a2 a3 fo v 2 wd).2.1, (s_M_probe z a1 a2 a3 fo v 2 wd).2.2.1, (s_M_probe z a1 a2 a3 fo v 2 wd).2.2.2.1, a6 + 1, (s_M_probe z a1 a2 a3 fo v 2 wd).2.2.2.2), rfl, by simp only [s_M_store, if_neg c_4, if_pos c_5], by rw [ht]; exact hP, va_K.moved hW.alike hK, hD⟩, hS.F ht⟩) hS.2.2 dM_store_61
    · skip
      refine lv_aload_n hx hb dM_store_31 rfl (lv_at hl 0 rfl) ?_
      refine lv_aload_n hx hb dM_store_32 rfl (lv_at hl 0 rfl) ?_
      refine va_get (D := (dC, dI)) (ci := 2) (v := .int ((s_M_probe z a1 a2 a3 fo v 2 wd).2.2.2.2)) (C := RX2) (T := TX2) (N := 10) hx hb hts miM_store_X2 hown hK hP 0 rfl rfl 9 (by decide) (hts _ mbM_store_4) (fun _ h9 => h9) rfl dM_store_33 ?_
      refine lv_iload_n hx hb dM_store_36 rfl (lv_at hl 2 rfl) ?_
      have hPc := hP.sub (ws' := [(k0, .inr (2, [.int 0, .ref yb, .ref zb, .int ((s_M_probe z a1 a2 a3 fo v 2 wd).2.1), .int ((s_M_probe z a1 a2 a3 fo v 2 wd).2.2.1), .int ((s_M_probe z a1 a2 a3 fo v 2 wd).2.2.2.1), .int a4, .int a5, .int (a6 + 1), .int ((s_M_probe z a1 a2 a3 fo v 2 wd).2.2.2.2)])), (yb, .inl (cI, 65536, .inl y)), (zb, .inl (cI, 33, .inl z))]) [0, 1, 2] rfl
      have hDc := hD.sub (ws' := [(k0, .inr (2, [.int 0, .ref yb, .ref zb, .int ((s_M_probe z a1 a2 a3 fo v 2 wd).2.1), .int ((s_M_probe z a1 a2 a3 fo v 2 wd).2.2.1), .int ((s_M_probe z a1 a2 a3 fo v 2 wd).2.2.2.1), .int a4, .int a5, .int (a6 + 1), .int ((s_M_probe z a1 a2 a3 fo v 2 wd).2.2.2.2)])), (yb, .inl (cI, 65536, .inl y)), (zb, .inl (cI, 33, .inl z))]) [0, 1, 2] (by decide) rfl
      have hFc := va_free (wc := [(k0, .inr (2, [.int 0, .ref yb, .ref zb, .int ((s_M_probe z a1 a2 a3 fo v 2 wd).2.1), .int ((s_M_probe z a1 a2 a3 fo v 2 wd).2.2.1), .int ((s_M_probe z a1 a2 a3 fo v 2 wd).2.2.2.1), .int a4, .int a5, .int (a6 + 1), .int ((s_M_probe z a1 a2 a3 fo v 2 wd).2.2.2.2)])), (yb, .inl (cI, 65536, .inl y)), (zb, .inl (cI, 33, .inl z))]) hD hS hA [0, 1, 2] rfl
      have hKc := hK.sub (tys' := [(cI, .int)]) [0] rfl
      refine va_callv (va_runV (As := [.int ((s_M_probe z a1 a2 a3 fo v 2 wd).2.2.2.2), .int w]) (rest := []) ⟨hx, hb, hml, hown, hts⟩ (c_M_lay l dC dI (H.size) k0 yb zb cI y z 0 ((s_M_probe z a1 a2 a3 fo v 2 wd).2.1) ((s_M_probe z a1 a2 a3 fo v 2 wd).2.2.1) ((s_M_probe z a1 a2 a3 fo v 2 wd).2.2.2.1) a4 a5 (a6 + 1) ((s_M_probe z a1 a2 a3 fo v 2 wd).2.2.2.2) ((s_M_probe z a1 a2 a3 fo v 2 wd).2.2.2.2) w (pr_4 hq c_4 (fun q => c_5 q.1))) (cwV 2 hts gM_store_M_lay rfl rfl rfl (by decide +kernel) ⟨Nat.le_of_ble_eq_true rfl, Nat.le_of_ble_eq_true rfl⟩) ⟨fun a U g mk q => by obtain ⟨q0, q1, qP, qK, qD⟩ := q; exact ⟨q0, q1, qP, va_K.moved (u := U) (U := U.calling g mk a) (Vm.Alike.refl U.vm) qK, qD⟩, va_recv hKc hPc (ci := 2) (q0 := 0) rfl rfl, fun U hU hW => ⟨rfl, by rw [hU], by rw [hU]; exact hPc, va_K.moved hW.alike hKc, hDc.weaken (fun _ _ _ _ => trivial)⟩⟩ rfl rfl hl.1 rfl (lv_room (Nat.le_of_ble_eq_true rfl)) dM_store_37 ⟨Nat.le_of_ble_eq_true rfl, Nat.le_of_ble_eq_true rfl⟩) hS (fun q _ h => hFc q h) hFc (fun u_8 t H1 locs ht hvm hw_7 hB hz1 hk1 hS => ?_)
      subst hw_7
      obtain ⟨hP1, hK1, hD1⟩ := hB
      rw [ht] at hP1
      obtain ⟨hP, hD⟩ := va_join (wr := []) (w1 := [(k0, .inr (2, [.int 0, .ref yb, .ref zb, .int ((s_M_probe z a1 a2 a3 fo v 2 wd).2.1), .int ((s_M_probe z a1 a2 a3 fo v 2 wd).2.2.1), .int ((s_M_probe z a1 a2 a3 fo v 2 wd).2.2.2.1), .int a4, .int a5, .int (a6 + 1), .int ((s_M_probe z a1 a2 a3 fo v 2 wd).2.2.2.2)])), (yb, .inl (cI, 65536, .inl (s_M_lay y ((s_M_probe z a1 a2 a3 fo v 2 wd).2.2.2.2) w))), (zb, .inl (cI, 33, .inl z))]) hP hD [0, 1, 2] [] rfl rfl (by decide) (by decide) hk1 hFc hP1 hD1
      generalize H1 = H at hP hS ⊢
      have hP : va_P (dC, dI) vwCl [(k0, .inr (2, [.int 0, .ref yb, .ref zb, .int ((s_M_probe z a1 a2 a3 fo v 2 wd).2.1), .int ((s_M_probe z a1 a2 a3 fo v 2 wd).2.2.1), .int ((s_M_probe z a1 a2 a3 fo v 2 wd).2.2.2.1), .int a4, .int a5, .int (a6 + 1), .int ((s_M_probe z a1 a2 a3 fo v 2 wd).2.2.2.2)])), (yb, .inl (cI, 65536, .inl (s_M_lay y ((s_M_probe z a1 a2 a3 fo v 2 wd).2.2.2.2) w))), (zb, .inl (cI, 33, .inl z))] H := hP
      have hD : va_D A [(k0, .inr (2, [.int 0, .ref yb, .ref zb, .int ((s_M_probe z a1 a2 a3 fo v 2 wd).2.1), .int ((s_M_probe z a1 a2 a3 fo v 2 wd).2.2.1), .int ((s_M_probe z a1 a2 a3 fo v 2 wd).2.2.2.1), .int a4, .int a5, .int (a6 + 1), .int ((s_M_probe z a1 a2 a3 fo v 2 wd).2.2.2.2)])), (yb, .inl (cI, 65536, .inl (s_M_lay y ((s_M_probe z a1 a2 a3 fo v 2 wd).2.2.2.2) w))), (zb, .inl (cI, 33, .inl z))] := hD
      refine lv_goto (tgt := 57) hx hb dM_store_40 (by decide) ?_
      refine lv_aload_n hx hb dM_store_57 rfl (lv_at hl 0 rfl) ?_
      refine va_get (D := (dC, dI)) (ci := 2) (v := .int ((s_M_probe z a1 a2 a3 fo v 2 wd).2.2.2.2)) (C := RX2) (T := TX2) (N := 10) hx hb hts miM_store_X2 hown hK hP 0 rfl rfl 9 (by decide) (hts _ mbM_store_4) (fun _ h9 => h9) rfl dM_store_58 ?_
      exact W.iret (v := (s_M_probe z a1 a2 a3 fo v 2 wd).2.2.2.2) hx hb hr (fun t ht hW => ⟨⟨(s_M_probe z a1 a2 a3 fo v 2 wd).2.2.2.2, (0, (s_M_lay y ((s_M_probe z a1 a2 a3 fo v 2 wd).2.2.2.2) w), (s_M_probe z a1 a2 a3 fo v 2 wd).2.1, (s_M_probe z a1 a2 a3 fo v 2 wd).2.2.1, (s_M_probe z a1 a2 a3 fo v 2 wd).2.2.2.1, a6 + 1, (s_M_probe z a1 a2 a3 fo v 2 wd).2.2.2.2), rfl, by simp only [s_M_store, if_neg c_4, if_neg c_5], by rw [ht]; exact hP, va_K.moved hW.alike hK, hD⟩, hS.F ht⟩) hS.2.2 dM_store_61
  · skip
    refine lv_iconst (v := (-1)) hx hb dM_store_15 (by decide) ?_
    exact W.iret (v := (-1)) hx hb hr (fun t ht hW => ⟨⟨(-1), (0, y, (s_M_probe z a1 a2 a3 fo v 2 wd).2.1, (s_M_probe z a1 a2 a3 fo v 2 wd).2.2.1, (s_M_probe z a1 a2 a3 fo v 2 wd).2.2.2.1, a6, (s_M_probe z a1 a2 a3 fo v 2 wd).2.2.2.2), rfl, by simp only [s_M_store, if_pos c_4], by rw [ht]; exact hP, va_K.moved hW.alike hK, hD⟩, hS.F ht⟩) hS.2.2 dM_store_16
end
section
/-! Own words: the class's words of memory and the reference's bytes. -/
def pw : Nat → Nat
  | 0 => 16777216
  | 1 => 65536
  | 2 => 256
  | _ => 1
/-- the bytes y are those of the words M -/
def brel (M y : Nat → Int32) : Prop := ∀ j, j < 65536 → y j = nI ((M (j / 4)).toBitVec.toNat / pw (j % 4) % 256)
theorem i_n (x : Int32) : ∃ n : Nat, n < 2 ^ 32 ∧ x = nI n ∧ x.toBitVec.toNat = n := by
  obtain ⟨n, h1, h2, -⟩ := at_n x
  exact ⟨n, h1, h2, by rw [h2, pk_tn h1]⟩
theorem brel_0 : brel (fun _ => 0) (fun _ => 0) := by
  intro j hj
  have e : (0 : Int32).toBitVec.toNat = 0 := by decide
  rw [e, Nat.zero_div]
  rfl
theorem brel_c {M M' y : Nat → Int32} (h : ∀ k, k < 16384 → M' k = M k) (hb : brel M y) : brel M' y := by
  intro j hj
  rw [hb j hj, h (j / 4) (by omega)]
theorem m_get_n (M : Nat → Int32) {N : Nat} (hN : N < 65536) : m_get M (nI N) = M (N / 4) := by
  have h0 : ¬ nI N < 0 := nI_pos (by omega)
  have h1 : ¬ (65536 : Int32) ≤ nI N := nI_ge (a := N) (b := 65536) hN (by decide)
  simp only [m_get, if_neg h0, if_neg h1]
  rw [nI_clamp (by omega)]
theorem m_put_n (M : Nat → Int32) {N : Nat} (hN : N < 65536) (w : Int32) : m_put M (nI N) w = upd M (N / 4) w := by
  have h0 : ¬ nI N < 0 := nI_pos (by omega)
  have h1 : ¬ (65536 : Int32) ≤ nI N := nI_ge (a := N) (b := 65536) hN (by decide)
  simp only [m_put, if_neg h0, if_neg h1]
  rw [nI_clamp (by omega)]
theorem m_get_c {M M' : Nat → Int32} (h : ∀ k, k < 16384 → M' k = M k) (pl : Int32) : m_get M' pl = m_get M pl := by
  unfold m_get
  split
  · rfl
  · split
    · rfl
    · rename_i h0 h1
      obtain ⟨n, hn, rfl⟩ := pl_n h0 h1
      rw [nI_clamp (by omega)]
      exact h _ (by omega)
theorem pp_k {N : Nat} (hN : N + 4 ≤ 65536) (k : Nat) (hk : k < 4) (K : Int32) (hK : K = nI k) : (nI N + K).toNatClampNeg = N + k := by
  rw [hK, nI_add, nI_clamp (by omega)]
theorem wordIn_eq {M y : Nat → Int32} (hb : brel M y) {N : Nat} (hN : N < 65536) (h4 : N % 4 = 0) : s_M_wordIn y (nI N) = m_get M (nI N) := by
  rw [m_get_n M hN]
  unfold s_M_wordIn
  rw [pp_k (by omega) 0 (by decide) 0 rfl, pp_k (by omega) 1 (by decide) 1 rfl, pp_k (by omega) 2 (by decide) 2 rfl, pp_k (by omega) 3 (by decide) 3 rfl]
  rw [hb (N + 0) (by omega), hb (N + 1) (by omega), hb (N + 2) (by omega), hb (N + 3) (by omega)]
  rw [show (N + 0) / 4 = N / 4 by omega, show (N + 1) / 4 = N / 4 by omega, show (N + 2) / 4 = N / 4 by omega, show (N + 3) / 4 = N / 4 by omega]
  rw [show (N + 0) % 4 = 0 by omega, show (N + 1) % 4 = 1 by omega, show (N + 2) % 4 = 2 by omega, show (N + 3) % 4 = 3 by omega]
  obtain ⟨W, hW, e, et⟩ := i_n (M (N / 4))
  rw [et, e]
  have e0 : (0 : Int32) = nI 0 := rfl
  have e1 : (256 : Int32) = nI 256 := rfl
  rw [e0, e1]
  simp only [pk_mul, nI_add, pw]
  congr 1
  omega
theorem bsh_n {N : Nat} (hN : N < 65536) : s_X0_byteShift (nI N) = nI ((3 - N % 4) * 8) := by
  unfold s_X0_byteShift
  rw [pk_andN (by omega) 2 (by decide), show (3 : Int32) = nI 3 from rfl, show (8 : Int32) = nI 8 from rfl, pk_sub (by omega), pk_mul]
theorem byteAt_eq {M y : Nat → Int32} (hb : brel M y) {N : Nat} (hN : N < 65536) : s_X0_byteAt M (nI N) = y (nI N).toNatClampNeg := by
  unfold s_X0_byteAt
  rw [nI_clamp (by omega), hb N hN, m_get_n M hN, bsh_n hN]
  obtain ⟨W, hW, e, et⟩ := i_n (M (N / 4))
  rw [et, e]
  rcases (by omega : N % 4 = 0 ∨ N % 4 = 1 ∨ N % 4 = 2 ∨ N % 4 = 3) with h | h | h | h <;> rw [h]
  · rw [show ush (nI W) (nI ((3 - 0) * 8)) = nI (W / 2 ^ 24) from ush_N hW _ 24 (by decide), pk_andN (by omega) 8 (by decide)]
    simp only [pw]
  · rw [show ush (nI W) (nI ((3 - 1) * 8)) = nI (W / 2 ^ 16) from ush_N hW _ 16 (by decide), pk_andN (by omega) 8 (by decide)]
    simp only [pw]
  · rw [show ush (nI W) (nI ((3 - 2) * 8)) = nI (W / 2 ^ 8) from ush_N hW _ 8 (by decide), pk_andN (by omega) 8 (by decide)]
    simp only [pw]
  · rw [show ush (nI W) (nI ((3 - 3) * 8)) = nI (W / 2 ^ 0) from ush_N hW _ 0 (by decide), pk_andN (by omega) 8 (by decide)]
    simp only [pw]
/-- the byte that the reference lays -/
theorem shb (v s : Int32) (k : Nat) (hs : (s.toBitVec.smod 32).toNat = k) (hk : k = 0 ∨ k = 8 ∨ k = 16 ∨ k = 24) : (v >>> s) &&& 255 = nI (v.toBitVec.toNat / 2 ^ k % 256) := by
  rw [pk_and (v >>> s) 8 (by decide)]
  congr 1
  have h := pk_shr v s k hs
  rw [Int.shiftRight_eq_div_pow] at h
  have e1 : (v >>> s).toInt = if 2 * (v >>> s).toBitVec.toNat < 2 ^ 32 then ((v >>> s).toBitVec.toNat : Int) else ((v >>> s).toBitVec.toNat : Int) - (2 ^ 32 : Nat) := BitVec.toInt_eq_toNat_cond _
  have e2 : v.toInt = if 2 * v.toBitVec.toNat < 2 ^ 32 then (v.toBitVec.toNat : Int) else (v.toBitVec.toNat : Int) - (2 ^ 32 : Nat) := BitVec.toInt_eq_toNat_cond _
  have h1 := (v >>> s).toBitVec.isLt
  have h2 := v.toBitVec.isLt
  generalize (v >>> s).toBitVec.toNat = X at *
  generalize v.toBitVec.toNat = V at *
  rw [e1, e2] at h
  rcases hk with rfl | rfl | rfl | rfl <;> split at h <;> split at h <;> omega
theorem lay_at {y : Nat → Int32} {N : Nat} (hN : N + 4 ≤ 65536) (v : Int32) (j : Nat) : s_M_lay y (nI N) v j = if j = N + 3 then nI (v.toBitVec.toNat / 1 % 256) else if j = N + 2 then nI (v.toBitVec.toNat / 256 % 256) else if j = N + 1 then nI (v.toBitVec.toNat / 65536 % 256) else if j = N then nI (v.toBitVec.toNat / 16777216 % 256) else y j := by
  unfold s_M_lay
  rw [pp_k hN 0 (by decide) 0 rfl, pp_k hN 1 (by decide) 1 rfl, pp_k hN 2 (by decide) 2 rfl, pp_k hN 3 (by decide) 3 rfl]
  rw [shb v _ 24 (by decide) (by omega), shb v _ 16 (by decide) (by omega), shb v _ 8 (by decide) (by omega), shb v _ 0 (by decide) (by omega)]
  rfl
theorem lay_rel {M y : Nat → Int32} (hb : brel M y) {N : Nat} (hN : N < 65536) (h4 : N % 4 = 0) (v : Int32) : brel (m_put M (nI N) v) (s_M_lay y (nI N) v) := by
  intro j hj
  rw [m_put_n M hN, lay_at (by omega)]
  by_cases h3 : j = N + 3
  · rw [if_pos h3, show j / 4 = N / 4 by omega, pk_us, show j % 4 = 3 by omega]
    simp only [pw]
  · rw [if_neg h3]
    by_cases h2 : j = N + 2
    · rw [if_pos h2, show j / 4 = N / 4 by omega, pk_us, show j % 4 = 2 by omega]
      simp only [pw]
    · rw [if_neg h2]
      by_cases h1 : j = N + 1
      · rw [if_pos h1, show j / 4 = N / 4 by omega, pk_us, show j % 4 = 1 by omega]
        simp only [pw]
      · rw [if_neg h1]
        by_cases h0 : j = N
        · rw [if_pos h0, show j / 4 = N / 4 by omega, pk_us, show j % 4 = 0 by omega]
          simp only [pw]
        · rw [if_neg h0, pk_un (by omega)]
          exact hb j hj
/-- a byte laid into a word -/
theorem pb_n (W q i : Nat) (hW : W < 2 ^ 32) (hq : q < 256) (hi : i < 4) : ∃ V : Nat, V < 2 ^ 32 ∧ ((nI W &&& ((255 <<< ((nI ((3 - i) * 8) : Int32) &&& 31)) ^^^ (-1))) ||| (nI q <<< ((nI ((3 - i) * 8) : Int32) &&& 31))) = nI V ∧ ∀ k, k < 4 → V / pw k % 256 = if k = i then q else W / pw k % 256 := by
  have by_ : ∀ (m c : Nat) (k : Nat), ((W &&& m) ||| c) / 2 ^ k % 2 ^ 8 = ((W / 2 ^ k % 2 ^ 8) &&& (m / 2 ^ k % 2 ^ 8)) ||| (c / 2 ^ k % 2 ^ 8) := by
    intro m c k
    rw [Nat.or_div_two_pow, Nat.and_div_two_pow, Nat.or_mod_two_pow, Nat.and_mod_two_pow]
  have full : ∀ x : Nat, (x % 2 ^ 8) &&& 255 = x % 2 ^ 8 := fun x => Nat.and_two_pow_sub_one_of_lt_two_pow (Nat.mod_lt _ (by decide))
  have lt : ∀ m c : Nat, c < 2 ^ 32 → ((W &&& m) ||| c) < 2 ^ 32 := fun m c hc => Nat.or_lt_two_pow (Nat.lt_of_le_of_lt Nat.and_le_left hW) hc
  have P0 : pw 0 = 2 ^ 24 := rfl
  have P1 : pw 1 = 2 ^ 16 := rfl
  have P2 : pw 2 = 2 ^ 8 := rfl
  have P3 : pw 3 = 2 ^ 0 := rfl
  rcases (by omega : i = 0 ∨ i = 1 ∨ i = 2 ∨ i = 3) with rfl | rfl | rfl | rfl
  · have e1 : ((255 <<< ((nI ((3 - 0) * 8) : Int32) &&& 31)) ^^^ (-1)) = nI 16777215 := by decide
    have e2 : nI q <<< ((nI ((3 - 0) * 8) : Int32) &&& 31) = nI (q * 2 ^ 24) := pk_shlN _ 24 (by decide) (by omega)
    rw [e1, e2, nx_and, nx_or]
    refine ⟨_, lt _ _ (by omega), rfl, fun k hk => ?_⟩
    rcases (by omega : k = 0 ∨ k = 1 ∨ k = 2 ∨ k = 3) with rfl | rfl | rfl | rfl
    · rw [P0, by_ _ _ 24, show 16777215 / 2 ^ 24 % 2 ^ 8 = 0 by decide, Nat.and_zero, Nat.zero_or, if_pos rfl]; omega
    · rw [P1, by_ _ _ 16, show 16777215 / 2 ^ 16 % 2 ^ 8 = 255 by decide, full, show q * 2 ^ 24 / 2 ^ 16 % 2 ^ 8 = 0 by omega, Nat.or_zero, if_neg (by decide)]
    · rw [P2, by_ _ _ 8, show 16777215 / 2 ^ 8 % 2 ^ 8 = 255 by decide, full, show q * 2 ^ 24 / 2 ^ 8 % 2 ^ 8 = 0 by omega, Nat.or_zero, if_neg (by decide)]
    · rw [P3, by_ _ _ 0, show 16777215 / 2 ^ 0 % 2 ^ 8 = 255 by decide, full, show q * 2 ^ 24 / 2 ^ 0 % 2 ^ 8 = 0 by omega, Nat.or_zero, if_neg (by decide)]
  · have e1 : ((255 <<< ((nI ((3 - 1) * 8) : Int32) &&& 31)) ^^^ (-1)) = nI 4278255615 := by decide
    have e2 : nI q <<< ((nI ((3 - 1) * 8) : Int32) &&& 31) = nI (q * 2 ^ 16) := pk_shlN _ 16 (by decide) (by omega)
    rw [e1, e2, nx_and, nx_or]
    refine ⟨_, lt _ _ (by omega), rfl, fun k hk => ?_⟩
    rcases (by omega : k = 0 ∨ k = 1 ∨ k = 2 ∨ k = 3) with rfl | rfl | rfl | rfl
    · rw [P0, by_ _ _ 24, show 4278255615 / 2 ^ 24 % 2 ^ 8 = 255 by decide, full, show q * 2 ^ 16 / 2 ^ 24 % 2 ^ 8 = 0 by omega, Nat.or_zero, if_neg (by decide)]
    · rw [P1, by_ _ _ 16, show 4278255615 / 2 ^ 16 % 2 ^ 8 = 0 by decide, Nat.and_zero, Nat.zero_or, if_pos rfl]; omega
    · rw [P2, by_ _ _ 8, show 4278255615 / 2 ^ 8 % 2 ^ 8 = 255 by decide, full, show q * 2 ^ 16 / 2 ^ 8 % 2 ^ 8 = 0 by omega, Nat.or_zero, if_neg (by decide)]
    · rw [P3, by_ _ _ 0, show 4278255615 / 2 ^ 0 % 2 ^ 8 = 255 by decide, full, show q * 2 ^ 16 / 2 ^ 0 % 2 ^ 8 = 0 by omega, Nat.or_zero, if_neg (by decide)]
  · have e1 : ((255 <<< ((nI ((3 - 2) * 8) : Int32) &&& 31)) ^^^ (-1)) = nI 4294902015 := by decide
    have e2 : nI q <<< ((nI ((3 - 2) * 8) : Int32) &&& 31) = nI (q * 2 ^ 8) := pk_shlN _ 8 (by decide) (by omega)
    rw [e1, e2, nx_and, nx_or]
    refine ⟨_, lt _ _ (by omega), rfl, fun k hk => ?_⟩
    rcases (by omega : k = 0 ∨ k = 1 ∨ k = 2 ∨ k = 3) with rfl | rfl | rfl | rfl
    · rw [P0, by_ _ _ 24, show 4294902015 / 2 ^ 24 % 2 ^ 8 = 255 by decide, full, show q * 2 ^ 8 / 2 ^ 24 % 2 ^ 8 = 0 by omega, Nat.or_zero, if_neg (by decide)]
    · rw [P1, by_ _ _ 16, show 4294902015 / 2 ^ 16 % 2 ^ 8 = 255 by decide, full, show q * 2 ^ 8 / 2 ^ 16 % 2 ^ 8 = 0 by omega, Nat.or_zero, if_neg (by decide)]
    · rw [P2, by_ _ _ 8, show 4294902015 / 2 ^ 8 % 2 ^ 8 = 0 by decide, Nat.and_zero, Nat.zero_or, if_pos rfl]; omega
    · rw [P3, by_ _ _ 0, show 4294902015 / 2 ^ 0 % 2 ^ 8 = 255 by decide, full, show q * 2 ^ 8 / 2 ^ 0 % 2 ^ 8 = 0 by omega, Nat.or_zero, if_neg (by decide)]
  · have e1 : ((255 <<< ((nI ((3 - 3) * 8) : Int32) &&& 31)) ^^^ (-1)) = nI 4294967040 := by decide
    have e2 : nI q <<< ((nI ((3 - 3) * 8) : Int32) &&& 31) = nI (q * 2 ^ 0) := pk_shlN _ 0 (by decide) (by omega)
    rw [e1, e2, nx_and, nx_or]
    refine ⟨_, lt _ _ (by omega), rfl, fun k hk => ?_⟩
    rcases (by omega : k = 0 ∨ k = 1 ∨ k = 2 ∨ k = 3) with rfl | rfl | rfl | rfl
    · rw [P0, by_ _ _ 24, show 4294967040 / 2 ^ 24 % 2 ^ 8 = 255 by decide, full, show q * 2 ^ 0 / 2 ^ 24 % 2 ^ 8 = 0 by omega, Nat.or_zero, if_neg (by decide)]
    · rw [P1, by_ _ _ 16, show 4294967040 / 2 ^ 16 % 2 ^ 8 = 255 by decide, full, show q * 2 ^ 0 / 2 ^ 16 % 2 ^ 8 = 0 by omega, Nat.or_zero, if_neg (by decide)]
    · rw [P2, by_ _ _ 8, show 4294967040 / 2 ^ 8 % 2 ^ 8 = 255 by decide, full, show q * 2 ^ 0 / 2 ^ 8 % 2 ^ 8 = 0 by omega, Nat.or_zero, if_neg (by decide)]
    · rw [P3, by_ _ _ 0, show 4294967040 / 2 ^ 0 % 2 ^ 8 = 0 by decide, Nat.and_zero, Nat.zero_or, if_pos rfl]; omega
theorem pb_rel {M y : Nat → Int32} (hb : brel M y) {N : Nat} (hN : N < 65536) (w : Int32) : brel (s_X0_putByte M (nI N) w) (upd y (nI N).toNatClampNeg (w &&& 255)) := by
  obtain ⟨W, hW, e, et⟩ := i_n (M (N / 4))
  have hq : w &&& 255 = nI (w.toBitVec.toNat % 256) := pk_and w 8 (by decide)
  obtain ⟨V, hV, eV, hk⟩ := pb_n W (w.toBitVec.toNat % 256) (N % 4) hW (by omega) (by omega)
  have e1 : s_X0_putByte M (nI N) w = upd M (N / 4) (nI V) := by
    unfold s_X0_putByte
    rw [m_get_n M hN, bsh_n hN, m_put_n M hN, e, hq, eV]
  rw [e1, nI_clamp (by omega), hq]
  intro j hj
  by_cases h : j / 4 = N / 4
  · rw [h, pk_us, pk_tn hV, hk (j % 4) (by omega)]
    by_cases h2 : j = N
    · rw [h2, pk_us, if_pos rfl]
    · rw [pk_un h2, if_neg (by omega), hb j hj, h, et]
  · rw [pk_un (fun q => h (by rw [q])), pk_un h]
    exact hb j hj
end
section
/-! Own words: call by call, the class's answer is the reference's, and so is the state behind it. -/
theorem w_small : ∀ w, w < 11 → 0 < w → ¬ (0 : Int32) ≤ -nI w ∧ -(-nI w) = nI w ∧ ¬ nI w ≤ 0 ∧ ¬ nI w = 0 := by decide +kernel
theorem pr_both {f : Nat → Int32} (hq : md_ok f) (fa fl fd fo v how wd wx : Int32) (hx : wx = 0 ↔ (wd = 0 ∧ ¬ how = 0)) : (∃ N : Nat, N < 65536 ∧ (¬ wx = 0 → N % 4 = 0) ∧ s_X1_probe f fa fl fd v how wx = (nI N, (fa, fl, fd)) ∧ s_M_probe f fa fl fd fo v how wd = (1, (fa, fl, fd, nI N))) ∨ (∃ (w : Nat) (fo' : Int32), 0 < w ∧ w ≤ 10 ∧ s_X1_probe f fa fl fd v how wx = (-nI w, (fa + 1, nI w, v)) ∧ s_M_probe f fa fl fd fo v how wd = (0, (fa + 1, nI w, v, fo'))) := by
  rcases core (fo := fo) (v := v) hq hx with ⟨N, h1, h2, h3, h4⟩ | ⟨w, f2, h1, h2, h3, h4⟩
  · refine Or.inl ⟨N, h1, h4, ?_, ?_⟩
    · unfold s_X1_probe
      rw [h3, if_pos (nI_pos' (by omega))]
    · unfold s_M_probe
      rw [h2]
      dsimp only
      rw [if_pos (by decide), if_pos rfl]
  · obtain ⟨q1, q2, q3, q4⟩ := w_small w (by omega) h1
    refine Or.inr ⟨w, f2, h1, h2, ?_, ?_⟩
    · unfold s_X1_probe
      rw [h4, if_neg q1, q2]
    · unfold s_M_probe
      rw [h3]
      dsimp only
      rw [if_neg q3, if_neg q4]
theorem code_eq {f M y : Nat → Int32} (hq : md_ok f) (hb : brel M y) (fa fl fd cr fo v : Int32) : ∃ fo', s_M_code y f fa fl fd cr fo v = ((s_X1_code f M fa fl fd cr v).1, 0, (s_X1_code f M fa fl fd cr v).2.1, (s_X1_code f M fa fl fd cr v).2.2.1, (s_X1_code f M fa fl fd cr v).2.2.2.1, (s_X1_code f M fa fl fd cr v).2.2.2.2, fo') := by
  rcases pr_both hq fa fl fd fo v 0 1 1 ⟨fun q => absurd q (by decide), fun q => absurd q.1 (by decide)⟩ with ⟨N, h1, h2, hX, hM⟩ | ⟨w, f2, h1, h2, hX, hM⟩
  · refine ⟨nI N, ?_⟩
    unfold s_M_code s_X1_code
    rw [hX, hM]
    dsimp only
    rw [if_neg (by decide), if_pos (nI_pos' (by omega))]
    dsimp only
    rw [wordIn_eq hb h1 (h2 (by decide))]
  · refine ⟨f2, ?_⟩
    unfold s_M_code s_X1_code
    rw [hX, hM]
    dsimp only
    rw [if_pos rfl, if_neg (w_small w (by omega) h1).1]
theorem wd_ok (wd : Int32) (how : Int32) (hh : ¬ how = 0) : wd = 0 ↔ (wd = 0 ∧ ¬ how = 0) := ⟨fun q => ⟨q, hh⟩, fun q => q.1⟩
theorem load_eq {f M y : Nat → Int32} (hq : md_ok f) (hb : brel M y) (fa fl fd lo fo v wd : Int32) : ∃ fo', s_M_load y f fa fl fd lo fo v wd = ((s_X1_load f M fa fl fd lo v wd).1, 0, (s_X1_load f M fa fl fd lo v wd).2.1, (s_X1_load f M fa fl fd lo v wd).2.2.1, (s_X1_load f M fa fl fd lo v wd).2.2.2.1, (s_X1_load f M fa fl fd lo v wd).2.2.2.2, fo') := by
  rcases pr_both hq fa fl fd fo v 1 wd wd (wd_ok wd 1 (by decide)) with ⟨N, h1, h2, hX, hM⟩ | ⟨w, f2, h1, h2, hX, hM⟩
  · refine ⟨nI N, ?_⟩
    unfold s_M_load s_X1_load
    rw [hX, hM]
    dsimp only
    rw [if_neg (by decide), if_pos (nI_pos' (by omega))]
    by_cases hw : wd = 0
    · rw [if_pos hw, if_pos hw]
      dsimp only
      rw [byteAt_eq hb h1]
    · rw [if_neg hw, if_neg hw]
      dsimp only
      rw [wordIn_eq hb h1 (h2 hw)]
  · refine ⟨f2, ?_⟩
    unfold s_M_load s_X1_load
    rw [hX, hM]
    dsimp only
    rw [if_pos rfl, if_neg (w_small w (by omega) h1).1]
theorem store_eq {f M y : Nat → Int32} (hq : md_ok f) (hb : brel M y) (fa fl fd so fo v w wd : Int32) : ∃ (fo' : Int32) (y' : Nat → Int32), brel (s_X1_store f M fa fl fd so v w wd).2.2 y' ∧ s_M_store y f fa fl fd so fo v w wd = ((s_X1_store f M fa fl fd so v w wd).1, 0, y', (s_X1_store f M fa fl fd so v w wd).2.1.1, (s_X1_store f M fa fl fd so v w wd).2.1.2.1, (s_X1_store f M fa fl fd so v w wd).2.1.2.2.1, (s_X1_store f M fa fl fd so v w wd).2.1.2.2.2, fo') := by
  rcases pr_both hq fa fl fd fo v 2 wd wd (wd_ok wd 2 (by decide)) with ⟨N, h1, h2, hX, hM⟩ | ⟨k, f2, h1, h2, hX, hM⟩
  · by_cases hw : wd = 0
    · refine ⟨nI N, upd y (nI N).toNatClampNeg (w &&& 255), ?_, ?_⟩
      · unfold s_X1_store
        rw [hX]
        dsimp only
        rw [if_pos (nI_pos' (by omega)), if_pos hw]
        exact pb_rel hb h1 w
      · unfold s_M_store s_X1_store
        rw [hX, hM]
        dsimp only
        rw [if_neg (by decide), if_pos (nI_pos' (by omega)), if_pos hw, if_pos hw]
    · refine ⟨nI N, s_M_lay y (nI N) w, ?_, ?_⟩
      · unfold s_X1_store
        rw [hX]
        dsimp only
        rw [if_pos (nI_pos' (by omega)), if_neg hw]
        exact lay_rel hb h1 (h2 hw) w
      · unfold s_M_store s_X1_store
        rw [hX, hM]
        dsimp only
        rw [if_neg (by decide), if_pos (nI_pos' (by omega)), if_neg hw, if_neg hw]
  · refine ⟨f2, y, ?_, ?_⟩
    · unfold s_X1_store
      rw [hX]
      dsimp only
      rw [if_neg (w_small k (by omega) h1).1]
      exact hb
    · unfold s_M_store s_X1_store
      rw [hX, hM]
      dsimp only
      rw [if_pos rfl, if_neg (w_small k (by omega) h1).1]
theorem find_eq {f : Nat → Int32} (hq : md_ok f) (fo v how wd : Int32) : ∃ fo', s_M_find f fo v how wd = (s_X1_find f v how wd, 0, fo') := by
  unfold s_M_find s_X1_find
  by_cases h0 : how < 0
  · exact ⟨fo, by rw [if_pos h0, if_pos h0]⟩
  · rw [if_neg h0, if_neg h0]
    by_cases h2 : how ≤ 2
    · rw [if_pos h2, if_pos h2]
      have key : ∀ wx : Int32, (wx = 0 ↔ (wd = 0 ∧ ¬ how = 0)) → ∃ fo', (if (s_M_wrong f fo v how wd).1 ≤ 0 then ((s_M_wrong f fo v how wd).2, (0, (s_M_wrong f fo v how wd).2)) else (-((s_M_wrong f fo v how wd).1), (0, (s_M_wrong f fo v how wd).2))) = (s_X1_locate f v how wx, ((0 : Int32), fo')) := by
        intro wx hx
        rcases core (fo := fo) (v := v) hq hx with ⟨N, g1, g2, g3, g4⟩ | ⟨w, f2, g1, g2, g3, g4⟩
        · refine ⟨nI N, ?_⟩
          rw [g2, g3]
          dsimp only
          rw [if_pos (by decide)]
        · refine ⟨f2, ?_⟩
          rw [g3, g4]
          dsimp only
          rw [if_neg (w_small w (by omega) g1).2.2.1]
      by_cases hw : wd = 0
      · rw [if_pos hw]
        by_cases hh : how = 0
        · rw [if_pos hh]
          exact key 1 ⟨fun q => absurd q (by decide), fun q => absurd hh q.2⟩
        · rw [if_neg hh]
          exact key 0 ⟨fun _ => ⟨hw, hh⟩, fun _ => rfl⟩
      · rw [if_neg hw]
        exact key 1 ⟨fun q => absurd q (by decide), fun q => absurd q.1 hw⟩
    · exact ⟨fo, by rw [if_neg h2, if_neg h2]⟩
theorem lt_le (x : Int32) (a b : Int32) (h : b.toInt = a.toInt + 1) : (b ≤ x) ↔ ¬ x ≤ a := by
  rw [Int32.le_iff_toInt_le, Int32.le_iff_toInt_le]
  omega
theorem set_eq (f : Nat → Int32) (k w : Int32) : s_M_set f k w = ((s_X1_set f k w).1, 0, (s_X1_set f k w).2) := by
  unfold s_M_set s_X1_set s_X1_isSpecial
  by_cases h0 : k < 0
  · simp only [if_pos h0]
    rfl
  · simp only [if_neg h0]
    by_cases h2 : k ≤ 32
    · have h3 : ¬ (33 : Int32) ≤ k := fun q => (lt_le k 32 33 (by decide)).mp q h2
      simp only [if_pos h2, if_neg h3]
      rw [if_neg (by decide : ¬ (1 : Int32) = 0)]
      by_cases h4 : k = 32
      · simp only [if_pos h4]
      · simp only [if_neg h4]
    · have h3 : (33 : Int32) ≤ k := (lt_le k 32 33 (by decide)).mpr h2
      simp only [if_neg h2, if_pos h3]
      rfl
theorem md_upd {f : Nat → Int32} (h : md_ok f) {i : Nat} (hi : i ≠ 32) (x : Int32) : md_ok (upd f i x) := by
  obtain ⟨t, h1, h2⟩ := h
  exact ⟨t, h1, by rw [pk_un (Ne.symm hi)]; exact h2⟩
theorem md_set {f : Nat → Int32} (h : md_ok f) (k w : Int32) : md_ok (s_X1_set f k w).2 := by
  unfold s_X1_set
  split
  · exact h
  · rename_i hk
    split
    · rename_i h4
      rw [h4]
      obtain ⟨j, hj, e⟩ := pk_andE w (m := 7) 3 (by decide)
      exact ⟨j, hj, by dsimp only; rw [c32, pk_us]; exact e⟩
    · rename_i h4
      refine md_upd h ?_ w
      intro q
      obtain ⟨j, hj, e⟩ := vp_in_of (in_k hk) (by decide)
      rw [e, nI_clamp (by omega)] at q
      exact h4 (by rw [e, q]; rfl)
theorem nat_hi1 {B : Nat} (hB : B < 2 ^ 32) : B &&& (2 ^ 32 - 2) = B / 2 * 2 := by
  apply Nat.eq_of_testBit_eq
  intro i
  have e1 : (2 ^ 32 - 2 : Nat) = (2 ^ 31 - 1) * 2 ^ 1 := by decide
  have e2 : B / 2 * 2 = B / 2 ^ 1 * 2 ^ 1 := rfl
  rw [Nat.testBit_and, e1, e2, Nat.testBit_mul_two_pow, Nat.testBit_mul_two_pow, Nat.testBit_two_pow_sub_one, Nat.testBit_div_two_pow]
  by_cases h : 1 ≤ i
  · rw [show i - 1 + 1 = i by omega]
    by_cases h2 : i - 1 < 31
    · simp [h, h2]
    · have h3 : B.testBit i = false := Nat.testBit_lt_two_pow (Nat.lt_of_lt_of_le hB (Nat.pow_le_pow_right (by omega) (by omega)))
      simp [h3]
  · simp [h]
theorem ev_eq (x : Int32) : x &&& (-2) = x - (x &&& 1) := by
  obtain ⟨n, hn, rfl, -⟩ := i_n x
  have e0 : (-2 : Int32) = nI (2 ^ 32 - 2) := by decide
  rw [pk_andN (m := 1) hn 1 (by decide), e0, nx_and, nat_hi1 hn, pk_sub (by omega)]
  congr 1
  omega
theorem clr_eq (f : Nat → Int32) (b : Int32) : ∀ i, s_clr f b i = s_mclr f b i := by
  intro i
  induction i with
  | zero => rfl
  | succ i ih =>
    unfold s_clr s_mclr
    rw [ih, ev_eq]
theorem cnt_s (f : Nat → Int32) (b : Int32) (i : Nat) : s_cnt f b (i + 1) = s_cnt f b i + (f (b + nI i).toNatClampNeg &&& 1) := by
  have e : s_cnt f b (i + 1) = if s_X1_isOdd (f (b + nI i).toNatClampNeg) = 0 then s_cnt f b i else s_cnt f b i + 1 := rfl
  rw [e]
  unfold s_X1_isOdd
  obtain ⟨j, hj, e2⟩ := pk_andE (f (b + nI i).toNatClampNeg) (m := 1) 1 (by decide)
  rw [e2]
  rcases (by omega : j = 0 ∨ j = 1) with rfl | rfl
  · rw [if_pos (show (if nI 0 = 0 then (0 : Int32) else 1) = 0 by decide)]
    exact (Int32.add_zero _).symm
  · rw [if_neg (show ¬ (if nI 1 = 0 then (0 : Int32) else 1) = 0 by decide)]
    rfl
theorem cnt_eq (f : Nat → Int32) (b : Int32) : s_cnt f b 8 = s_M_matched f b := by
  rw [cnt_s, cnt_s, cnt_s, cnt_s, cnt_s, cnt_s, cnt_s, cnt_s]
  rfl
theorem forget_eq (f : Nat → Int32) (dd : Int32) : s_M_forget f dd = ((s_X1_forget f dd).1, 0, (s_X1_forget f dd).2) := by
  unfold s_M_forget s_X1_forget s_X1_countMatches s_X1_firstMatch
  rw [cnt_eq, clr_eq]
  by_cases h : dd = 0
  · simp only [if_pos h]
  · simp only [if_neg h]
theorem md_clr {f : Nat → Int32} (h : md_ok f) (dd : Int32) : ∀ i, i ≤ 8 → md_ok (s_clr f (s_X1_firstMatch dd) i) := by
  intro i
  induction i with
  | zero => exact fun _ => h
  | succ i ih =>
    intro hi
    unfold s_clr
    refine md_upd (ih (by omega)) ?_ _
    rcases fm_n dd with e | e
    · rw [e, nI_add, nI_clamp (by omega)]; omega
    · rw [e, nI_add, nI_clamp (by omega)]; omega
theorem md_forget {f : Nat → Int32} (h : md_ok f) (dd : Int32) : md_ok (s_X1_forget f dd).2 := md_clr h dd 8 (Nat.le_refl 8)
theorem special_eq (f : Nat → Int32) (k : Int32) : s_M_special f k = (s_X1_special f k, 0) := by
  unfold s_M_special s_X1_special s_X1_isSpecial
  by_cases h0 : k < 0
  · simp only [if_pos h0]
    rfl
  · simp only [if_neg h0]
    by_cases h2 : k ≤ 32
    · have h3 : ¬ (33 : Int32) ≤ k := fun q => (lt_le k 32 33 (by decide)).mp q h2
      simp only [if_pos h2, if_neg h3]
      rw [if_neg (by decide : ¬ (1 : Int32) = 0)]
    · have h3 : (33 : Int32) ≤ k := (lt_le k 32 33 (by decide)).mpr h2
      simp only [if_neg h2, if_pos h3]
      rfl
theorem wp_eq (p : Int32) : (s_X1_isWordPlace p = 0) ↔ (s_M_isWordPlace p = 0) := by
  unfold s_X1_isWordPlace s_M_isWordPlace
  by_cases h0 : p < 0
  · simp only [if_pos h0]
  · by_cases h1 : (65536 : Int32) ≤ p
    · simp only [if_neg h0, if_pos h1]
    · simp only [if_neg h0, if_neg h1]
      obtain ⟨n, hn, rfl⟩ := pl_n h0 h1
      have e4 : (nI n - nI n / 4 * 4 = 0) ↔ n % 4 = 0 := by
        rw [show (4 : Int32) = nI 4 from rfl, pk_rem (by omega) (by omega) (by omega)]
        exact nI_e0 (by omega)
      simp only [al_x (show n < 2 ^ 32 by omega), e4]
      by_cases h : n % 4 = 0 <;> simp [h]
theorem word_eq {M y : Nat → Int32} (hb : brel M y) (p : Int32) : s_M_word y p = (s_X1_word M p, 0) := by
  unfold s_M_word s_X1_word
  by_cases h : s_X1_isWordPlace p = 0
  · rw [if_pos h, if_pos ((wp_eq p).mp h)]
  · have h2 : ¬ s_M_isWordPlace p = 0 := fun q => h ((wp_eq p).mpr q)
    rw [if_neg h, if_neg h2]
    obtain ⟨n, h3, h4, rfl⟩ := mwp_n h2
    rw [wordIn_eq hb h3 h4]
theorem poke_eq {M y : Nat → Int32} (hb : brel M y) (p w : Int32) : ∃ y', brel (s_X1_poke M p w).2 y' ∧ s_M_poke y p w = ((s_X1_poke M p w).1, 0, y') := by
  unfold s_M_poke s_X1_poke
  by_cases h : s_X1_isWordPlace p = 0
  · rw [if_pos h, if_pos ((wp_eq p).mp h)]
    exact ⟨y, hb, rfl⟩
  · have h2 : ¬ s_M_isWordPlace p = 0 := fun q => h ((wp_eq p).mpr q)
    rw [if_neg h, if_neg h2]
    obtain ⟨n, h3, h4, rfl⟩ := mwp_n h2
    exact ⟨_, lay_rel hb h3 h4 w, rfl⟩
theorem look_eq (f : Nat → Int32) (fa fl fd cr lo so k : Int32) : s_M_look f fa fl fd cr lo so k = (s_X1_look f fa fl fd cr lo so k, 0) := by
  have c0 : s_X1_countMatches f 0 = s_M_matched f 0 := cnt_eq f 0
  have c1 : s_X1_countMatches f 1 = s_M_matched f 16 := cnt_eq f 16
  unfold s_M_look s_X1_look
  rw [c0, c1]
  (repeat' split) <;> rfl
theorem shl_eq (v : Int32) : (v >>> ((10 : Int32) &&& 31)) <<< ((10 : Int32) &&& 31) = v &&& (-1024) := by
  obtain ⟨n, hn, rfl, en⟩ := i_n v
  have e0 : (-1024 : Int32) = nI (2 ^ 32 - 1024) := by decide
  rw [e0, nx_and, nat_hi hn]
  apply Int32.toBitVec_inj.mp
  apply BitVec.eq_of_toNat_eq
  rw [pk_shl _ _ 10 (by decide), pk_tn (by omega)]
  have h := pk_shr (nI n) ((10 : Int32) &&& 31) 10 (by decide)
  rw [Int.shiftRight_eq_div_pow] at h
  have e1 : (nI n >>> ((10 : Int32) &&& 31)).toInt = if 2 * (nI n >>> ((10 : Int32) &&& 31)).toBitVec.toNat < 2 ^ 32 then ((nI n >>> ((10 : Int32) &&& 31)).toBitVec.toNat : Int) else ((nI n >>> ((10 : Int32) &&& 31)).toBitVec.toNat : Int) - (2 ^ 32 : Nat) := BitVec.toInt_eq_toNat_cond _
  have h1 := (nI n >>> ((10 : Int32) &&& 31)).toBitVec.isLt
  have e2 := nI_ti hn
  generalize (nI n >>> ((10 : Int32) &&& 31)).toBitVec.toNat = X at *
  rw [e1, e2] at h
  split at h <;> split at h <;> omega
theorem pl_eq {fr ri : Int32} (h0 : ¬ fr < 0) (h1 : ¬ 64 ≤ fr) (h2 : ¬ ri < 0) (h3 : ri < 16) : (fr <<< ((10 : Int32) &&& 31)) ||| ri = (1024 * fr) + ri := by
  obtain ⟨a, ha, rfl⟩ := lt_n (n := 64) (by decide) h0 h1
  obtain ⟨b, hb, rfl⟩ := lt_n (n := 16) (by decide) h2 (Int32.not_le.mpr h3)
  rw [pk_shlN _ 10 (by decide) (by omega), nx_or, show (1024 : Int32) = nI 1024 from rfl, pk_mul, nI_add]
  congr 1
  have h := Nat.two_pow_add_eq_or_of_lt (i := 10) (b := b) (by omega) a
  rw [show a * 2 ^ 10 = 2 ^ 10 * a by omega, ← h]
theorem so_eq (v : Int32) : ush v 10 - ush v 10 / 8 * 8 = s_X1_setOf v := by
  obtain ⟨n, hn, rfl, -⟩ := i_n v
  rw [so_e hn, ush_N hn 10 10 (by decide), show (8 : Int32) = nI 8 from rfl, pk_rem (by omega) (by omega) (by omega)]
theorem map_eq (f : Nat → Int32) (v fr ri dd : Int32) : s_M_map f v fr ri dd = ((s_X1_map f v fr ri dd).1, 0, (s_X1_map f v fr ri dd).2) := by
  unfold s_M_map s_X1_map
  by_cases h0 : fr < 0
  · simp only [if_pos h0]
  · by_cases h1 : (64 : Int32) ≤ fr
    · have h1' : (63 : Int32) < fr := by
        rw [Int32.lt_iff_toInt_lt]
        rw [Int32.le_iff_toInt_le] at h1
        have e1 : (64 : Int32).toInt = 64 := by decide
        have e2 : (63 : Int32).toInt = 63 := by decide
        omega
      simp only [if_neg h0, if_pos h1, if_pos h1']
    · have h1' : ¬ (63 : Int32) < fr := by
        rw [Int32.lt_iff_toInt_lt]
        rw [Int32.le_iff_toInt_le] at h1
        have e1 : (64 : Int32).toInt = 64 := by decide
        have e2 : (63 : Int32).toInt = 63 := by decide
        omega
      by_cases h2 : ri < 0
      · simp only [if_neg h0, if_neg h1, if_neg h1', if_pos h2]
      · by_cases h3 : ri < 16
        · have h3' : ri ≤ 15 := by
            rw [Int32.le_iff_toInt_le]
            rw [Int32.lt_iff_toInt_lt] at h3
            have e1 : (16 : Int32).toInt = 16 := by decide
            have e2 : (15 : Int32).toInt = 15 := by decide
            omega
          simp only [if_neg h0, if_neg h1, if_neg h1', if_neg h2, if_pos h3, if_pos h3', so_eq, shl_eq, pl_eq h0 h1 h2 h3]
          obtain ⟨j, hj, e⟩ := so_n v
          have g : ∀ (a : Nat) (A : Int32), a ≤ 16 → A = nI a → (A + s_X1_setOf v + 8).toNatClampNeg = (A + 8 + s_X1_setOf v).toNatClampNeg := by
            intro a A ha hA
            rw [hA, e, show (8 : Int32) = nI 8 from rfl, nI_add, nI_add, nI_add, nI_add]
            congr 2
            omega
          unfold s_X1_firstMatch
          by_cases h4 : dd = 0
          · simp only [if_pos h4]
            rw [g 0 0 (by decide) rfl]
          · simp only [if_neg h4]
            rw [g 16 16 (by decide) rfl]
        · have h3' : ¬ ri ≤ 15 := by
            rw [Int32.le_iff_toInt_le]
            rw [Int32.lt_iff_toInt_lt] at h3
            have e1 : (16 : Int32).toInt = 16 := by decide
            have e2 : (15 : Int32).toInt = 15 := by decide
            omega
          simp only [if_neg h0, if_neg h1, if_neg h1', if_neg h2, if_neg h3, if_neg h3']
theorem md_map {f : Nat → Int32} (h : md_ok f) (v fr ri dd : Int32) : md_ok (s_X1_map f v fr ri dd).2 := by
  obtain ⟨j, hj, e⟩ := ix_n dd v
  unfold s_X1_map
  (repeat' split) <;> first | exact h | skip
  dsimp only
  refine md_upd (md_upd h ?_ _) ?_ _
  · rw [e, nI_clamp (by omega)]; omega
  · rw [e, show (8 : Int32) = nI 8 from rfl, nI_add, nI_clamp (by omega)]; omega
end
section
theorem dL_law_0 : decode cL_law 0 = .ok (.new 7, 3) := by decide +kernel
theorem dL_law_3 : decode cL_law 3 = .ok (.dup, 1) := by decide +kernel
theorem dL_law_4 : decode cL_law 4 = .ok (.invokespecial 9, 3) := by decide +kernel
theorem dL_law_7 : decode cL_law 7 = .ok (.astore_n 1, 1) := by decide +kernel
theorem dL_law_8 : decode cL_law 8 = .ok (.new 10, 3) := by decide +kernel
theorem dL_law_11 : decode cL_law 11 = .ok (.dup, 1) := by decide +kernel
theorem dL_law_12 : decode cL_law 12 = .ok (.invokespecial 12, 3) := by decide +kernel
theorem dL_law_15 : decode cL_law 15 = .ok (.astore_n 2, 1) := by decide +kernel
theorem dL_law_16 : decode cL_law 16 = .ok (.iconst 0, 1) := by decide +kernel
theorem dL_law_17 : decode cL_law 17 = .ok (.istore_n 3, 1) := by decide +kernel
theorem dL_law_18 : decode cL_law 18 = .ok (.iload_n 3, 1) := by decide +kernel
theorem dL_law_19 : decode cL_law 19 = .ok (.aload_n 0, 1) := by decide +kernel
theorem dL_law_20 : decode cL_law 20 = .ok (.arraylength, 1) := by decide +kernel
theorem dL_law_21 : decode cL_law 21 = .ok (.iconst 5, 1) := by decide +kernel
theorem dL_law_22 : decode cL_law 22 = .ok (.isub, 1) := by decide +kernel
theorem dL_law_23 : decode cL_law 23 = .ok (.if_icmp .gt 508, 3) := by decide +kernel
theorem dL_law_26 : decode cL_law 26 = .ok (.aload_n 0, 1) := by decide +kernel
theorem dL_law_27 : decode cL_law 27 = .ok (.iload_n 3, 1) := by decide +kernel
theorem dL_law_28 : decode cL_law 28 = .ok (.iaload, 1) := by decide +kernel
theorem dL_law_29 : decode cL_law 29 = .ok (.bipush 15, 2) := by decide +kernel
theorem dL_law_31 : decode cL_law 31 = .ok (.iand, 1) := by decide +kernel
theorem dL_law_32 : decode cL_law 32 = .ok (.tableswitch 493 0 10 #[60, 93, 126, 149, 198, 257, 316, 385, 424, 447, 470], 60) := by decide +kernel
theorem dL_law_92 : decode cL_law 92 = .ok (.aload_n 1, 1) := by decide +kernel
theorem dL_law_93 : decode cL_law 93 = .ok (.aload_n 0, 1) := by decide +kernel
theorem dL_law_94 : decode cL_law 94 = .ok (.iload_n 3, 1) := by decide +kernel
theorem dL_law_95 : decode cL_law 95 = .ok (.iconst 1, 1) := by decide +kernel
theorem dL_law_96 : decode cL_law 96 = .ok (.iadd, 1) := by decide +kernel
theorem dL_law_97 : decode cL_law 97 = .ok (.iaload, 1) := by decide +kernel
theorem dL_law_98 : decode cL_law 98 = .ok (.aload_n 0, 1) := by decide +kernel
theorem dL_law_99 : decode cL_law 99 = .ok (.iload_n 3, 1) := by decide +kernel
theorem dL_law_100 : decode cL_law 100 = .ok (.iconst 2, 1) := by decide +kernel
theorem dL_law_101 : decode cL_law 101 = .ok (.iadd, 1) := by decide +kernel
theorem dL_law_102 : decode cL_law 102 = .ok (.iaload, 1) := by decide +kernel
theorem dL_law_103 : decode cL_law 103 = .ok (.invokevirtual 13, 3) := by decide +kernel
theorem dL_law_106 : decode cL_law 106 = .ok (.aload_n 2, 1) := by decide +kernel
theorem dL_law_107 : decode cL_law 107 = .ok (.aload_n 0, 1) := by decide +kernel
theorem dL_law_108 : decode cL_law 108 = .ok (.iload_n 3, 1) := by decide +kernel
theorem dL_law_109 : decode cL_law 109 = .ok (.iconst 1, 1) := by decide +kernel
theorem dL_law_110 : decode cL_law 110 = .ok (.iadd, 1) := by decide +kernel
theorem dL_law_111 : decode cL_law 111 = .ok (.iaload, 1) := by decide +kernel
theorem dL_law_112 : decode cL_law 112 = .ok (.aload_n 0, 1) := by decide +kernel
theorem dL_law_113 : decode cL_law 113 = .ok (.iload_n 3, 1) := by decide +kernel
theorem dL_law_114 : decode cL_law 114 = .ok (.iconst 2, 1) := by decide +kernel
theorem dL_law_115 : decode cL_law 115 = .ok (.iadd, 1) := by decide +kernel
theorem dL_law_116 : decode cL_law 116 = .ok (.iaload, 1) := by decide +kernel
theorem dL_law_117 : decode cL_law 117 = .ok (.invokevirtual 17, 3) := by decide +kernel
theorem dL_law_120 : decode cL_law 120 = .ok (.if_icmp .eq 405, 3) := by decide +kernel
theorem dL_law_123 : decode cL_law 123 = .ok (.iconst 0, 1) := by decide +kernel
theorem dL_law_124 : decode cL_law 124 = .ok (.ireturn, 1) := by decide +kernel
theorem dL_law_125 : decode cL_law 125 = .ok (.aload_n 1, 1) := by decide +kernel
theorem dL_law_126 : decode cL_law 126 = .ok (.aload_n 0, 1) := by decide +kernel
theorem dL_law_127 : decode cL_law 127 = .ok (.iload_n 3, 1) := by decide +kernel
theorem dL_law_128 : decode cL_law 128 = .ok (.iconst 1, 1) := by decide +kernel
theorem dL_law_129 : decode cL_law 129 = .ok (.iadd, 1) := by decide +kernel
theorem dL_law_130 : decode cL_law 130 = .ok (.iaload, 1) := by decide +kernel
theorem dL_law_131 : decode cL_law 131 = .ok (.aload_n 0, 1) := by decide +kernel
theorem dL_law_132 : decode cL_law 132 = .ok (.iload_n 3, 1) := by decide +kernel
theorem dL_law_133 : decode cL_law 133 = .ok (.iconst 2, 1) := by decide +kernel
theorem dL_law_134 : decode cL_law 134 = .ok (.iadd, 1) := by decide +kernel
theorem dL_law_135 : decode cL_law 135 = .ok (.iaload, 1) := by decide +kernel
theorem dL_law_136 : decode cL_law 136 = .ok (.invokevirtual 18, 3) := by decide +kernel
theorem dL_law_139 : decode cL_law 139 = .ok (.aload_n 2, 1) := by decide +kernel
theorem dL_law_140 : decode cL_law 140 = .ok (.aload_n 0, 1) := by decide +kernel
theorem dL_law_141 : decode cL_law 141 = .ok (.iload_n 3, 1) := by decide +kernel
theorem dL_law_142 : decode cL_law 142 = .ok (.iconst 1, 1) := by decide +kernel
theorem dL_law_143 : decode cL_law 143 = .ok (.iadd, 1) := by decide +kernel
theorem dL_law_144 : decode cL_law 144 = .ok (.iaload, 1) := by decide +kernel
theorem dL_law_145 : decode cL_law 145 = .ok (.aload_n 0, 1) := by decide +kernel
theorem dL_law_146 : decode cL_law 146 = .ok (.iload_n 3, 1) := by decide +kernel
theorem dL_law_147 : decode cL_law 147 = .ok (.iconst 2, 1) := by decide +kernel
theorem dL_law_148 : decode cL_law 148 = .ok (.iadd, 1) := by decide +kernel
theorem dL_law_149 : decode cL_law 149 = .ok (.iaload, 1) := by decide +kernel
theorem dL_law_150 : decode cL_law 150 = .ok (.invokevirtual 21, 3) := by decide +kernel
theorem dL_law_153 : decode cL_law 153 = .ok (.if_icmp .eq 372, 3) := by decide +kernel
theorem dL_law_156 : decode cL_law 156 = .ok (.iconst 0, 1) := by decide +kernel
theorem dL_law_157 : decode cL_law 157 = .ok (.ireturn, 1) := by decide +kernel
theorem dL_law_158 : decode cL_law 158 = .ok (.aload_n 1, 1) := by decide +kernel
theorem dL_law_159 : decode cL_law 159 = .ok (.aload_n 0, 1) := by decide +kernel
theorem dL_law_160 : decode cL_law 160 = .ok (.iload_n 3, 1) := by decide +kernel
theorem dL_law_161 : decode cL_law 161 = .ok (.iconst 1, 1) := by decide +kernel
theorem dL_law_162 : decode cL_law 162 = .ok (.iadd, 1) := by decide +kernel
theorem dL_law_163 : decode cL_law 163 = .ok (.iaload, 1) := by decide +kernel
theorem dL_law_164 : decode cL_law 164 = .ok (.invokevirtual 22, 3) := by decide +kernel
theorem dL_law_167 : decode cL_law 167 = .ok (.aload_n 2, 1) := by decide +kernel
theorem dL_law_168 : decode cL_law 168 = .ok (.aload_n 0, 1) := by decide +kernel
theorem dL_law_169 : decode cL_law 169 = .ok (.iload_n 3, 1) := by decide +kernel
theorem dL_law_170 : decode cL_law 170 = .ok (.iconst 1, 1) := by decide +kernel
theorem dL_law_171 : decode cL_law 171 = .ok (.iadd, 1) := by decide +kernel
theorem dL_law_172 : decode cL_law 172 = .ok (.iaload, 1) := by decide +kernel
theorem dL_law_173 : decode cL_law 173 = .ok (.invokevirtual 26, 3) := by decide +kernel
theorem dL_law_176 : decode cL_law 176 = .ok (.if_icmp .eq 349, 3) := by decide +kernel
theorem dL_law_179 : decode cL_law 179 = .ok (.iconst 0, 1) := by decide +kernel
theorem dL_law_180 : decode cL_law 180 = .ok (.ireturn, 1) := by decide +kernel
theorem dL_law_181 : decode cL_law 181 = .ok (.aload_n 1, 1) := by decide +kernel
theorem dL_law_182 : decode cL_law 182 = .ok (.aload_n 0, 1) := by decide +kernel
theorem dL_law_183 : decode cL_law 183 = .ok (.iload_n 3, 1) := by decide +kernel
theorem dL_law_184 : decode cL_law 184 = .ok (.iconst 1, 1) := by decide +kernel
theorem dL_law_185 : decode cL_law 185 = .ok (.iadd, 1) := by decide +kernel
theorem dL_law_186 : decode cL_law 186 = .ok (.iaload, 1) := by decide +kernel
theorem dL_law_187 : decode cL_law 187 = .ok (.aload_n 0, 1) := by decide +kernel
theorem dL_law_188 : decode cL_law 188 = .ok (.iload_n 3, 1) := by decide +kernel
theorem dL_law_189 : decode cL_law 189 = .ok (.iconst 2, 1) := by decide +kernel
theorem dL_law_190 : decode cL_law 190 = .ok (.iadd, 1) := by decide +kernel
theorem dL_law_191 : decode cL_law 191 = .ok (.iaload, 1) := by decide +kernel
theorem dL_law_192 : decode cL_law 192 = .ok (.ifCond .eq 7, 3) := by decide +kernel
theorem dL_law_195 : decode cL_law 195 = .ok (.iconst 1, 1) := by decide +kernel
theorem dL_law_196 : decode cL_law 196 = .ok (.goto 4, 3) := by decide +kernel
theorem dL_law_199 : decode cL_law 199 = .ok (.iconst 0, 1) := by decide +kernel
theorem dL_law_200 : decode cL_law 200 = .ok (.invokevirtual 27, 3) := by decide +kernel
theorem dL_law_203 : decode cL_law 203 = .ok (.aload_n 2, 1) := by decide +kernel
theorem dL_law_204 : decode cL_law 204 = .ok (.aload_n 0, 1) := by decide +kernel
theorem dL_law_205 : decode cL_law 205 = .ok (.iload_n 3, 1) := by decide +kernel
theorem dL_law_206 : decode cL_law 206 = .ok (.iconst 1, 1) := by decide +kernel
theorem dL_law_207 : decode cL_law 207 = .ok (.iadd, 1) := by decide +kernel
theorem dL_law_208 : decode cL_law 208 = .ok (.iaload, 1) := by decide +kernel
theorem dL_law_209 : decode cL_law 209 = .ok (.aload_n 0, 1) := by decide +kernel
theorem dL_law_210 : decode cL_law 210 = .ok (.iload_n 3, 1) := by decide +kernel
theorem dL_law_211 : decode cL_law 211 = .ok (.iconst 2, 1) := by decide +kernel
theorem dL_law_212 : decode cL_law 212 = .ok (.iadd, 1) := by decide +kernel
theorem dL_law_213 : decode cL_law 213 = .ok (.iaload, 1) := by decide +kernel
theorem dL_law_214 : decode cL_law 214 = .ok (.ifCond .eq 7, 3) := by decide +kernel
theorem dL_law_217 : decode cL_law 217 = .ok (.iconst 1, 1) := by decide +kernel
theorem dL_law_218 : decode cL_law 218 = .ok (.goto 4, 3) := by decide +kernel
theorem dL_law_221 : decode cL_law 221 = .ok (.iconst 0, 1) := by decide +kernel
theorem dL_law_222 : decode cL_law 222 = .ok (.invokevirtual 31, 3) := by decide +kernel
theorem dL_law_225 : decode cL_law 225 = .ok (.if_icmp .eq 300, 3) := by decide +kernel
theorem dL_law_228 : decode cL_law 228 = .ok (.iconst 0, 1) := by decide +kernel
theorem dL_law_229 : decode cL_law 229 = .ok (.ireturn, 1) := by decide +kernel
theorem dL_law_230 : decode cL_law 230 = .ok (.aload_n 1, 1) := by decide +kernel
theorem dL_law_231 : decode cL_law 231 = .ok (.aload_n 0, 1) := by decide +kernel
theorem dL_law_232 : decode cL_law 232 = .ok (.iload_n 3, 1) := by decide +kernel
theorem dL_law_233 : decode cL_law 233 = .ok (.iconst 1, 1) := by decide +kernel
theorem dL_law_234 : decode cL_law 234 = .ok (.iadd, 1) := by decide +kernel
theorem dL_law_235 : decode cL_law 235 = .ok (.iaload, 1) := by decide +kernel
theorem dL_law_236 : decode cL_law 236 = .ok (.aload_n 0, 1) := by decide +kernel
theorem dL_law_237 : decode cL_law 237 = .ok (.iload_n 3, 1) := by decide +kernel
theorem dL_law_238 : decode cL_law 238 = .ok (.iconst 2, 1) := by decide +kernel
theorem dL_law_239 : decode cL_law 239 = .ok (.iadd, 1) := by decide +kernel
theorem dL_law_240 : decode cL_law 240 = .ok (.iaload, 1) := by decide +kernel
theorem dL_law_241 : decode cL_law 241 = .ok (.aload_n 0, 1) := by decide +kernel
theorem dL_law_242 : decode cL_law 242 = .ok (.iload_n 3, 1) := by decide +kernel
theorem dL_law_243 : decode cL_law 243 = .ok (.iconst 3, 1) := by decide +kernel
theorem dL_law_244 : decode cL_law 244 = .ok (.iadd, 1) := by decide +kernel
theorem dL_law_245 : decode cL_law 245 = .ok (.iaload, 1) := by decide +kernel
theorem dL_law_246 : decode cL_law 246 = .ok (.ifCond .eq 7, 3) := by decide +kernel
theorem dL_law_249 : decode cL_law 249 = .ok (.iconst 1, 1) := by decide +kernel
theorem dL_law_250 : decode cL_law 250 = .ok (.goto 4, 3) := by decide +kernel
theorem dL_law_253 : decode cL_law 253 = .ok (.iconst 0, 1) := by decide +kernel
theorem dL_law_254 : decode cL_law 254 = .ok (.invokevirtual 32, 3) := by decide +kernel
theorem dL_law_257 : decode cL_law 257 = .ok (.aload_n 2, 1) := by decide +kernel
theorem dL_law_258 : decode cL_law 258 = .ok (.aload_n 0, 1) := by decide +kernel
theorem dL_law_259 : decode cL_law 259 = .ok (.iload_n 3, 1) := by decide +kernel
theorem dL_law_260 : decode cL_law 260 = .ok (.iconst 1, 1) := by decide +kernel
theorem dL_law_261 : decode cL_law 261 = .ok (.iadd, 1) := by decide +kernel
theorem dL_law_262 : decode cL_law 262 = .ok (.iaload, 1) := by decide +kernel
theorem dL_law_263 : decode cL_law 263 = .ok (.aload_n 0, 1) := by decide +kernel
theorem dL_law_264 : decode cL_law 264 = .ok (.iload_n 3, 1) := by decide +kernel
theorem dL_law_265 : decode cL_law 265 = .ok (.iconst 2, 1) := by decide +kernel
theorem dL_law_266 : decode cL_law 266 = .ok (.iadd, 1) := by decide +kernel
theorem dL_law_267 : decode cL_law 267 = .ok (.iaload, 1) := by decide +kernel
theorem dL_law_268 : decode cL_law 268 = .ok (.aload_n 0, 1) := by decide +kernel
theorem dL_law_269 : decode cL_law 269 = .ok (.iload_n 3, 1) := by decide +kernel
theorem dL_law_270 : decode cL_law 270 = .ok (.iconst 3, 1) := by decide +kernel
theorem dL_law_271 : decode cL_law 271 = .ok (.iadd, 1) := by decide +kernel
theorem dL_law_272 : decode cL_law 272 = .ok (.iaload, 1) := by decide +kernel
theorem dL_law_273 : decode cL_law 273 = .ok (.ifCond .eq 7, 3) := by decide +kernel
theorem dL_law_276 : decode cL_law 276 = .ok (.iconst 1, 1) := by decide +kernel
theorem dL_law_277 : decode cL_law 277 = .ok (.goto 4, 3) := by decide +kernel
theorem dL_law_280 : decode cL_law 280 = .ok (.iconst 0, 1) := by decide +kernel
theorem dL_law_281 : decode cL_law 281 = .ok (.invokevirtual 36, 3) := by decide +kernel
theorem dL_law_284 : decode cL_law 284 = .ok (.if_icmp .eq 241, 3) := by decide +kernel
theorem dL_law_287 : decode cL_law 287 = .ok (.iconst 0, 1) := by decide +kernel
theorem dL_law_288 : decode cL_law 288 = .ok (.ireturn, 1) := by decide +kernel
theorem dL_law_289 : decode cL_law 289 = .ok (.aload_n 1, 1) := by decide +kernel
theorem dL_law_290 : decode cL_law 290 = .ok (.aload_n 0, 1) := by decide +kernel
theorem dL_law_291 : decode cL_law 291 = .ok (.iload_n 3, 1) := by decide +kernel
theorem dL_law_292 : decode cL_law 292 = .ok (.iconst 1, 1) := by decide +kernel
theorem dL_law_293 : decode cL_law 293 = .ok (.iadd, 1) := by decide +kernel
theorem dL_law_294 : decode cL_law 294 = .ok (.iaload, 1) := by decide +kernel
theorem dL_law_295 : decode cL_law 295 = .ok (.aload_n 0, 1) := by decide +kernel
theorem dL_law_296 : decode cL_law 296 = .ok (.iload_n 3, 1) := by decide +kernel
theorem dL_law_297 : decode cL_law 297 = .ok (.iconst 2, 1) := by decide +kernel
theorem dL_law_298 : decode cL_law 298 = .ok (.iadd, 1) := by decide +kernel
theorem dL_law_299 : decode cL_law 299 = .ok (.iaload, 1) := by decide +kernel
theorem dL_law_300 : decode cL_law 300 = .ok (.aload_n 0, 1) := by decide +kernel
theorem dL_law_301 : decode cL_law 301 = .ok (.iload_n 3, 1) := by decide +kernel
theorem dL_law_302 : decode cL_law 302 = .ok (.iconst 3, 1) := by decide +kernel
theorem dL_law_303 : decode cL_law 303 = .ok (.iadd, 1) := by decide +kernel
theorem dL_law_304 : decode cL_law 304 = .ok (.iaload, 1) := by decide +kernel
theorem dL_law_305 : decode cL_law 305 = .ok (.ifCond .eq 7, 3) := by decide +kernel
theorem dL_law_308 : decode cL_law 308 = .ok (.iconst 1, 1) := by decide +kernel
theorem dL_law_309 : decode cL_law 309 = .ok (.goto 4, 3) := by decide +kernel
theorem dL_law_312 : decode cL_law 312 = .ok (.iconst 0, 1) := by decide +kernel
theorem dL_law_313 : decode cL_law 313 = .ok (.invokevirtual 37, 3) := by decide +kernel
theorem dL_law_316 : decode cL_law 316 = .ok (.aload_n 2, 1) := by decide +kernel
theorem dL_law_317 : decode cL_law 317 = .ok (.aload_n 0, 1) := by decide +kernel
theorem dL_law_318 : decode cL_law 318 = .ok (.iload_n 3, 1) := by decide +kernel
theorem dL_law_319 : decode cL_law 319 = .ok (.iconst 1, 1) := by decide +kernel
theorem dL_law_320 : decode cL_law 320 = .ok (.iadd, 1) := by decide +kernel
theorem dL_law_321 : decode cL_law 321 = .ok (.iaload, 1) := by decide +kernel
theorem dL_law_322 : decode cL_law 322 = .ok (.aload_n 0, 1) := by decide +kernel
theorem dL_law_323 : decode cL_law 323 = .ok (.iload_n 3, 1) := by decide +kernel
theorem dL_law_324 : decode cL_law 324 = .ok (.iconst 2, 1) := by decide +kernel
theorem dL_law_325 : decode cL_law 325 = .ok (.iadd, 1) := by decide +kernel
theorem dL_law_326 : decode cL_law 326 = .ok (.iaload, 1) := by decide +kernel
theorem dL_law_327 : decode cL_law 327 = .ok (.aload_n 0, 1) := by decide +kernel
theorem dL_law_328 : decode cL_law 328 = .ok (.iload_n 3, 1) := by decide +kernel
theorem dL_law_329 : decode cL_law 329 = .ok (.iconst 3, 1) := by decide +kernel
theorem dL_law_330 : decode cL_law 330 = .ok (.iadd, 1) := by decide +kernel
theorem dL_law_331 : decode cL_law 331 = .ok (.iaload, 1) := by decide +kernel
theorem dL_law_332 : decode cL_law 332 = .ok (.ifCond .eq 7, 3) := by decide +kernel
theorem dL_law_335 : decode cL_law 335 = .ok (.iconst 1, 1) := by decide +kernel
theorem dL_law_336 : decode cL_law 336 = .ok (.goto 4, 3) := by decide +kernel
theorem dL_law_339 : decode cL_law 339 = .ok (.iconst 0, 1) := by decide +kernel
theorem dL_law_340 : decode cL_law 340 = .ok (.invokevirtual 40, 3) := by decide +kernel
theorem dL_law_343 : decode cL_law 343 = .ok (.if_icmp .eq 182, 3) := by decide +kernel
theorem dL_law_346 : decode cL_law 346 = .ok (.iconst 0, 1) := by decide +kernel
theorem dL_law_347 : decode cL_law 347 = .ok (.ireturn, 1) := by decide +kernel
theorem dL_law_348 : decode cL_law 348 = .ok (.aload_n 1, 1) := by decide +kernel
theorem dL_law_349 : decode cL_law 349 = .ok (.aload_n 0, 1) := by decide +kernel
theorem dL_law_350 : decode cL_law 350 = .ok (.iload_n 3, 1) := by decide +kernel
theorem dL_law_351 : decode cL_law 351 = .ok (.iconst 1, 1) := by decide +kernel
theorem dL_law_352 : decode cL_law 352 = .ok (.iadd, 1) := by decide +kernel
theorem dL_law_353 : decode cL_law 353 = .ok (.iaload, 1) := by decide +kernel
theorem dL_law_354 : decode cL_law 354 = .ok (.aload_n 0, 1) := by decide +kernel
theorem dL_law_355 : decode cL_law 355 = .ok (.iload_n 3, 1) := by decide +kernel
theorem dL_law_356 : decode cL_law 356 = .ok (.iconst 2, 1) := by decide +kernel
theorem dL_law_357 : decode cL_law 357 = .ok (.iadd, 1) := by decide +kernel
theorem dL_law_358 : decode cL_law 358 = .ok (.iaload, 1) := by decide +kernel
theorem dL_law_359 : decode cL_law 359 = .ok (.aload_n 0, 1) := by decide +kernel
theorem dL_law_360 : decode cL_law 360 = .ok (.iload_n 3, 1) := by decide +kernel
theorem dL_law_361 : decode cL_law 361 = .ok (.iconst 3, 1) := by decide +kernel
theorem dL_law_362 : decode cL_law 362 = .ok (.iadd, 1) := by decide +kernel
theorem dL_law_363 : decode cL_law 363 = .ok (.iaload, 1) := by decide +kernel
theorem dL_law_364 : decode cL_law 364 = .ok (.aload_n 0, 1) := by decide +kernel
theorem dL_law_365 : decode cL_law 365 = .ok (.iload_n 3, 1) := by decide +kernel
theorem dL_law_366 : decode cL_law 366 = .ok (.iconst 4, 1) := by decide +kernel
theorem dL_law_367 : decode cL_law 367 = .ok (.iadd, 1) := by decide +kernel
theorem dL_law_368 : decode cL_law 368 = .ok (.iaload, 1) := by decide +kernel
theorem dL_law_369 : decode cL_law 369 = .ok (.ifCond .eq 7, 3) := by decide +kernel
theorem dL_law_372 : decode cL_law 372 = .ok (.iconst 1, 1) := by decide +kernel
theorem dL_law_373 : decode cL_law 373 = .ok (.goto 4, 3) := by decide +kernel
theorem dL_law_376 : decode cL_law 376 = .ok (.iconst 0, 1) := by decide +kernel
theorem dL_law_377 : decode cL_law 377 = .ok (.invokevirtual 41, 3) := by decide +kernel
theorem dL_law_380 : decode cL_law 380 = .ok (.aload_n 2, 1) := by decide +kernel
theorem dL_law_381 : decode cL_law 381 = .ok (.aload_n 0, 1) := by decide +kernel
theorem dL_law_382 : decode cL_law 382 = .ok (.iload_n 3, 1) := by decide +kernel
theorem dL_law_383 : decode cL_law 383 = .ok (.iconst 1, 1) := by decide +kernel
theorem dL_law_384 : decode cL_law 384 = .ok (.iadd, 1) := by decide +kernel
theorem dL_law_385 : decode cL_law 385 = .ok (.iaload, 1) := by decide +kernel
theorem dL_law_386 : decode cL_law 386 = .ok (.aload_n 0, 1) := by decide +kernel
theorem dL_law_387 : decode cL_law 387 = .ok (.iload_n 3, 1) := by decide +kernel
theorem dL_law_388 : decode cL_law 388 = .ok (.iconst 2, 1) := by decide +kernel
theorem dL_law_389 : decode cL_law 389 = .ok (.iadd, 1) := by decide +kernel
theorem dL_law_390 : decode cL_law 390 = .ok (.iaload, 1) := by decide +kernel
theorem dL_law_391 : decode cL_law 391 = .ok (.aload_n 0, 1) := by decide +kernel
theorem dL_law_392 : decode cL_law 392 = .ok (.iload_n 3, 1) := by decide +kernel
theorem dL_law_393 : decode cL_law 393 = .ok (.iconst 3, 1) := by decide +kernel
theorem dL_law_394 : decode cL_law 394 = .ok (.iadd, 1) := by decide +kernel
theorem dL_law_395 : decode cL_law 395 = .ok (.iaload, 1) := by decide +kernel
theorem dL_law_396 : decode cL_law 396 = .ok (.aload_n 0, 1) := by decide +kernel
theorem dL_law_397 : decode cL_law 397 = .ok (.iload_n 3, 1) := by decide +kernel
theorem dL_law_398 : decode cL_law 398 = .ok (.iconst 4, 1) := by decide +kernel
theorem dL_law_399 : decode cL_law 399 = .ok (.iadd, 1) := by decide +kernel
theorem dL_law_400 : decode cL_law 400 = .ok (.iaload, 1) := by decide +kernel
theorem dL_law_401 : decode cL_law 401 = .ok (.ifCond .eq 7, 3) := by decide +kernel
theorem dL_law_404 : decode cL_law 404 = .ok (.iconst 1, 1) := by decide +kernel
theorem dL_law_405 : decode cL_law 405 = .ok (.goto 4, 3) := by decide +kernel
theorem dL_law_408 : decode cL_law 408 = .ok (.iconst 0, 1) := by decide +kernel
theorem dL_law_409 : decode cL_law 409 = .ok (.invokevirtual 45, 3) := by decide +kernel
theorem dL_law_412 : decode cL_law 412 = .ok (.if_icmp .eq 113, 3) := by decide +kernel
theorem dL_law_415 : decode cL_law 415 = .ok (.iconst 0, 1) := by decide +kernel
theorem dL_law_416 : decode cL_law 416 = .ok (.ireturn, 1) := by decide +kernel
theorem dL_law_417 : decode cL_law 417 = .ok (.aload_n 1, 1) := by decide +kernel
theorem dL_law_418 : decode cL_law 418 = .ok (.aload_n 0, 1) := by decide +kernel
theorem dL_law_419 : decode cL_law 419 = .ok (.iload_n 3, 1) := by decide +kernel
theorem dL_law_420 : decode cL_law 420 = .ok (.iconst 1, 1) := by decide +kernel
theorem dL_law_421 : decode cL_law 421 = .ok (.iadd, 1) := by decide +kernel
theorem dL_law_422 : decode cL_law 422 = .ok (.iaload, 1) := by decide +kernel
theorem dL_law_423 : decode cL_law 423 = .ok (.ifCond .eq 7, 3) := by decide +kernel
theorem dL_law_426 : decode cL_law 426 = .ok (.iconst 1, 1) := by decide +kernel
theorem dL_law_427 : decode cL_law 427 = .ok (.goto 4, 3) := by decide +kernel
theorem dL_law_430 : decode cL_law 430 = .ok (.iconst 0, 1) := by decide +kernel
theorem dL_law_431 : decode cL_law 431 = .ok (.invokevirtual 46, 3) := by decide +kernel
theorem dL_law_434 : decode cL_law 434 = .ok (.aload_n 2, 1) := by decide +kernel
theorem dL_law_435 : decode cL_law 435 = .ok (.aload_n 0, 1) := by decide +kernel
theorem dL_law_436 : decode cL_law 436 = .ok (.iload_n 3, 1) := by decide +kernel
theorem dL_law_437 : decode cL_law 437 = .ok (.iconst 1, 1) := by decide +kernel
theorem dL_law_438 : decode cL_law 438 = .ok (.iadd, 1) := by decide +kernel
theorem dL_law_439 : decode cL_law 439 = .ok (.iaload, 1) := by decide +kernel
theorem dL_law_440 : decode cL_law 440 = .ok (.ifCond .eq 7, 3) := by decide +kernel
theorem dL_law_443 : decode cL_law 443 = .ok (.iconst 1, 1) := by decide +kernel
theorem dL_law_444 : decode cL_law 444 = .ok (.goto 4, 3) := by decide +kernel
theorem dL_law_447 : decode cL_law 447 = .ok (.iconst 0, 1) := by decide +kernel
theorem dL_law_448 : decode cL_law 448 = .ok (.invokevirtual 50, 3) := by decide +kernel
theorem dL_law_451 : decode cL_law 451 = .ok (.if_icmp .eq 74, 3) := by decide +kernel
theorem dL_law_454 : decode cL_law 454 = .ok (.iconst 0, 1) := by decide +kernel
theorem dL_law_455 : decode cL_law 455 = .ok (.ireturn, 1) := by decide +kernel
theorem dL_law_456 : decode cL_law 456 = .ok (.aload_n 1, 1) := by decide +kernel
theorem dL_law_457 : decode cL_law 457 = .ok (.aload_n 0, 1) := by decide +kernel
theorem dL_law_458 : decode cL_law 458 = .ok (.iload_n 3, 1) := by decide +kernel
theorem dL_law_459 : decode cL_law 459 = .ok (.iconst 1, 1) := by decide +kernel
theorem dL_law_460 : decode cL_law 460 = .ok (.iadd, 1) := by decide +kernel
theorem dL_law_461 : decode cL_law 461 = .ok (.iaload, 1) := by decide +kernel
theorem dL_law_462 : decode cL_law 462 = .ok (.invokevirtual 51, 3) := by decide +kernel
theorem dL_law_465 : decode cL_law 465 = .ok (.aload_n 2, 1) := by decide +kernel
theorem dL_law_466 : decode cL_law 466 = .ok (.aload_n 0, 1) := by decide +kernel
theorem dL_law_467 : decode cL_law 467 = .ok (.iload_n 3, 1) := by decide +kernel
theorem dL_law_468 : decode cL_law 468 = .ok (.iconst 1, 1) := by decide +kernel
theorem dL_law_469 : decode cL_law 469 = .ok (.iadd, 1) := by decide +kernel
theorem dL_law_470 : decode cL_law 470 = .ok (.iaload, 1) := by decide +kernel
theorem dL_law_471 : decode cL_law 471 = .ok (.invokevirtual 54, 3) := by decide +kernel
theorem dL_law_474 : decode cL_law 474 = .ok (.if_icmp .eq 51, 3) := by decide +kernel
theorem dL_law_477 : decode cL_law 477 = .ok (.iconst 0, 1) := by decide +kernel
theorem dL_law_478 : decode cL_law 478 = .ok (.ireturn, 1) := by decide +kernel
theorem dL_law_479 : decode cL_law 479 = .ok (.aload_n 1, 1) := by decide +kernel
theorem dL_law_480 : decode cL_law 480 = .ok (.aload_n 0, 1) := by decide +kernel
theorem dL_law_481 : decode cL_law 481 = .ok (.iload_n 3, 1) := by decide +kernel
theorem dL_law_482 : decode cL_law 482 = .ok (.iconst 1, 1) := by decide +kernel
theorem dL_law_483 : decode cL_law 483 = .ok (.iadd, 1) := by decide +kernel
theorem dL_law_484 : decode cL_law 484 = .ok (.iaload, 1) := by decide +kernel
theorem dL_law_485 : decode cL_law 485 = .ok (.invokevirtual 55, 3) := by decide +kernel
theorem dL_law_488 : decode cL_law 488 = .ok (.aload_n 2, 1) := by decide +kernel
theorem dL_law_489 : decode cL_law 489 = .ok (.aload_n 0, 1) := by decide +kernel
theorem dL_law_490 : decode cL_law 490 = .ok (.iload_n 3, 1) := by decide +kernel
theorem dL_law_491 : decode cL_law 491 = .ok (.iconst 1, 1) := by decide +kernel
theorem dL_law_492 : decode cL_law 492 = .ok (.iadd, 1) := by decide +kernel
theorem dL_law_493 : decode cL_law 493 = .ok (.iaload, 1) := by decide +kernel
theorem dL_law_494 : decode cL_law 494 = .ok (.invokevirtual 58, 3) := by decide +kernel
theorem dL_law_497 : decode cL_law 497 = .ok (.if_icmp .eq 28, 3) := by decide +kernel
theorem dL_law_500 : decode cL_law 500 = .ok (.iconst 0, 1) := by decide +kernel
theorem dL_law_501 : decode cL_law 501 = .ok (.ireturn, 1) := by decide +kernel
theorem dL_law_502 : decode cL_law 502 = .ok (.aload_n 1, 1) := by decide +kernel
theorem dL_law_503 : decode cL_law 503 = .ok (.aload_n 0, 1) := by decide +kernel
theorem dL_law_504 : decode cL_law 504 = .ok (.iload_n 3, 1) := by decide +kernel
theorem dL_law_505 : decode cL_law 505 = .ok (.iconst 1, 1) := by decide +kernel
theorem dL_law_506 : decode cL_law 506 = .ok (.iadd, 1) := by decide +kernel
theorem dL_law_507 : decode cL_law 507 = .ok (.iaload, 1) := by decide +kernel
theorem dL_law_508 : decode cL_law 508 = .ok (.invokevirtual 59, 3) := by decide +kernel
theorem dL_law_511 : decode cL_law 511 = .ok (.aload_n 2, 1) := by decide +kernel
theorem dL_law_512 : decode cL_law 512 = .ok (.aload_n 0, 1) := by decide +kernel
theorem dL_law_513 : decode cL_law 513 = .ok (.iload_n 3, 1) := by decide +kernel
theorem dL_law_514 : decode cL_law 514 = .ok (.iconst 1, 1) := by decide +kernel
theorem dL_law_515 : decode cL_law 515 = .ok (.iadd, 1) := by decide +kernel
theorem dL_law_516 : decode cL_law 516 = .ok (.iaload, 1) := by decide +kernel
theorem dL_law_517 : decode cL_law 517 = .ok (.invokevirtual 62, 3) := by decide +kernel
theorem dL_law_520 : decode cL_law 520 = .ok (.if_icmp .eq 5, 3) := by decide +kernel
theorem dL_law_523 : decode cL_law 523 = .ok (.iconst 0, 1) := by decide +kernel
theorem dL_law_524 : decode cL_law 524 = .ok (.ireturn, 1) := by decide +kernel
theorem dL_law_525 : decode cL_law 525 = .ok (.iinc 3 5, 3) := by decide +kernel
theorem dL_law_528 : decode cL_law 528 = .ok (.goto (-510), 3) := by decide +kernel
theorem dL_law_531 : decode cL_law 531 = .ok (.iconst 1, 1) := by decide +kernel
theorem dL_law_532 : decode cL_law 532 = .ok (.ireturn, 1) := by decide +kernel
end
section
set_option maxRecDepth 100000 in
theorem gL_X1_init : GoodIn lw_tbl (wsX1_init) := goodIn_p _ [19, 22, 27] (by decide +kernel) (by decide +kernel)
set_option maxRecDepth 100000 in
theorem gL_M_init : GoodIn lw_tbl (wsM_init) := goodIn_p _ [180, 22] (by decide +kernel) (by decide +kernel)
set_option maxRecDepth 100000 in
theorem gL_X1_poke : GoodIn lw_tbl (wsV RL 13 RX1 yX1_poke wsX1_poke) := goodIn_p _ [64, 67, 71, 75, 79] (by decide +kernel) (by decide +kernel)
set_option maxRecDepth 100000 in
theorem gL_M_poke : GoodIn lw_tbl (wsV RL 17 RX2 yM_poke wsM_poke) := goodIn_p _ [217, 220, 224] (by decide +kernel) (by decide +kernel)
set_option maxRecDepth 100000 in
theorem gL_X1_set : GoodIn lw_tbl (wsV RL 18 RX1 yX1_set wsX1_set) := goodIn_p _ [83, 86] (by decide +kernel) (by decide +kernel)
set_option maxRecDepth 100000 in
theorem gL_M_set : GoodIn lw_tbl (wsV RL 21 RX2 yM_set wsM_set) := goodIn_p _ [228] (by decide +kernel) (by decide +kernel)
set_option maxRecDepth 100000 in
theorem gL_X1_code : GoodIn lw_tbl (wsV RL 22 RX1 yX1_code wsX1_code) := goodIn_p _ [90, 94, 98, 71, 102, 105, 109, 112, 115, 118, 122, 126, 79] (by decide +kernel) (by decide +kernel)
set_option maxRecDepth 100000 in
theorem gL_M_code : GoodIn lw_tbl (wsV RL 26 RX2 yM_code wsM_code) := goodIn_p _ [232, 236, 240, 245, 255] (by decide +kernel) (by decide +kernel)
set_option maxRecDepth 100000 in
theorem gL_X1_load : GoodIn lw_tbl (wsV RL 27 RX1 yX1_load wsX1_load) := goodIn_p _ [130, 94, 98, 71, 102, 105, 109, 112, 115, 118, 122, 126, 79, 134, 138] (by decide +kernel) (by decide +kernel)
set_option maxRecDepth 100000 in
theorem gL_M_load : GoodIn lw_tbl (wsV RL 31 RX2 yM_load wsM_load) := goodIn_p _ [259, 236, 240, 245, 255] (by decide +kernel) (by decide +kernel)
set_option maxRecDepth 100000 in
theorem gL_X1_store : GoodIn lw_tbl (wsV RL 32 RX1 yX1_store wsX1_store) := goodIn_p _ [142, 94, 98, 71, 102, 105, 109, 112, 115, 118, 122, 75, 79, 146, 138, 126] (by decide +kernel) (by decide +kernel)
set_option maxRecDepth 100000 in
theorem gL_M_store : GoodIn lw_tbl (wsV RL 36 RX2 yM_store wsM_store) := goodIn_p _ [263, 236, 240, 245, 224] (by decide +kernel) (by decide +kernel)
set_option maxRecDepth 100000 in
theorem gL_X1_find : GoodIn lw_tbl (wsV RL 37 RX1 yX1_find wsX1_find) := goodIn_p _ [151, 98, 71, 102, 105, 109, 112, 115, 118, 122] (by decide +kernel) (by decide +kernel)
set_option maxRecDepth 100000 in
theorem gL_M_find : GoodIn lw_tbl (wsV RL 40 RX2 yM_find wsM_find) := goodIn_p _ [267, 240, 245] (by decide +kernel) (by decide +kernel)
set_option maxRecDepth 100000 in
theorem gL_X1_map : GoodIn lw_tbl (wsV RL 41 RX1 yX1_map wsX1_map) := goodIn_p _ [155, 112, 109] (by decide +kernel) (by decide +kernel)
set_option maxRecDepth 100000 in
theorem gL_M_map : GoodIn lw_tbl (wsV RL 45 RX2 yM_map wsM_map) := goodIn_p _ [271] (by decide +kernel) (by decide +kernel)
set_option maxRecDepth 100000 in
theorem gL_X1_forget : GoodIn lw_tbl (wsV RL 46 RX1 yX1_forget wsX1_forget) := goodIn_p _ [159, 163, 109, 118] (by decide +kernel) (by decide +kernel)
set_option maxRecDepth 100000 in
theorem gL_M_forget : GoodIn lw_tbl (wsV RL 50 RX2 yM_forget wsM_forget) := goodIn_p _ [275, 279] (by decide +kernel) (by decide +kernel)
set_option maxRecDepth 100000 in
theorem gL_X1_special : GoodIn lw_tbl (wsV RL 51 RX1 yX1_special wsX1_special) := goodIn_p _ [167, 86] (by decide +kernel) (by decide +kernel)
set_option maxRecDepth 100000 in
theorem gL_M_special : GoodIn lw_tbl (wsV RL 54 RX2 yM_special wsM_special) := goodIn_p _ [283] (by decide +kernel) (by decide +kernel)
set_option maxRecDepth 100000 in
theorem gL_X1_word : GoodIn lw_tbl (wsV RL 55 RX1 yX1_word wsX1_word) := goodIn_p _ [171, 67, 71, 126, 79] (by decide +kernel) (by decide +kernel)
set_option maxRecDepth 100000 in
theorem gL_M_word : GoodIn lw_tbl (wsV RL 58 RX2 yM_word wsM_word) := goodIn_p _ [287, 220, 255] (by decide +kernel) (by decide +kernel)
set_option maxRecDepth 100000 in
theorem gL_X1_look : GoodIn lw_tbl (wsV RL 59 RX1 yX1_look wsX1_look) := goodIn_p _ [175, 163, 109, 118] (by decide +kernel) (by decide +kernel)
set_option maxRecDepth 100000 in
theorem gL_M_look : GoodIn lw_tbl (wsV RL 62 RX2 yM_look wsM_look) := goodIn_p _ [291, 279] (by decide +kernel) (by decide +kernel)
end
section
-- ===== end of PART A; then your names; then what follows =====
/-! THE CLAIM OUT OF ONE WALK OF THE LAW'S BODY. Your part is whole_start (and what it stands on); all else here is the same for every law, but numbers. -/
def R_law : String := "SoftMapsLaw"
def lw_P (b : Addr) (xs : List Int32) (args : Array Value) (s : State) : Prop := args = #[.ref b] ∧ s.IntsAt b xs ∧ xs.length ≤ 2560 ∧ (Jvm.Cond.and given_1 narrow_1).before args s = true
def lw_Q (_ : Array Value) (s : State) (o : Outcome) (t : State) : Prop := o = .returned (some (.int 1)) ∧ Framed s o t [] 600000 7302250
def lw_Z (below : List Frame) (a : Array Value) (s : State) : State → Prop := fun t => ∃ o, t.status = .running ∧ Ended t below o ∧ lw_Q a s o t
/-- the law's own end, with 1 on the stack, nothing written that was there before, its room as the claim has it -/
theorem lw_ret {p : Program} {l : Launch} {e : Env} {s : State} {m : MethodId} {below : List Frame} {meth : Method} {c : Code} {b : Nat} (hx : p.tables.exec = Jvm.exec) (hb : c.code = code) (hr : meth.sig.returnType = ret) (hlocks : meth.locks = false) {pc : Nat} {H : Heap} {ls : Array Slot} (hdg : decode code pc = .ok (.ireturn, 1)) : W p l e room_1 s m #[Value.ref b] below meth c H [] 600000 7302250 (lw_Z below #[Value.ref b] s) (F0 m pc ls [.int 1]) := by
  intro T hT X
  obtain ⟨fs, hret, hrun, hended, hW, hframe⟩ := X.leave (v := some (.int 1)) (hlocks := hlocks) (fun h => by rw [hr] at h; cases h)
  have hmeth' : T.vm.method? m = some meth := X.method'
  refine ⟨T.setFrames fs, ?_, .returned (some (.int 1)), hrun, hended, rfl, ⟨_, rfl⟩, hW, hframe⟩
  jvm_step X.here [X.here.top, hx, hb, hdg, hmeth', hr, ret, narrow_b1]
  (try refine ⟨rfl, ?_⟩); (try refine ⟨rfl, ?_⟩)
  first | (intro acts; rw [hret _ acts rfl rfl rfl]) | rw [hret _ _ rfl rfl rfl]
  exact Steps.refl _
/-- what holds at the law's entry: the machine, the code, the tables' words (any of lw_tbl by 'hts w (by decide +kernel)'), the script of L ints xs at the cell b, what the Statement gives of the start (any of its parts by flat_of_before) -/
def lw_At (p : Program) (s : State) (m : MethodId) (meth : Method) (c : Code) (b L : Nat) (xs : Nat → Int32) : Prop :=
  p.tables.exec = Jvm.exec ∧ c.code = code ∧ meth.sig.returnType = ret ∧ c.maxLocals = 4 ∧ s.vm.findClass R_law = some m.cls ∧ (∀ w ∈ lw_tbl, w.before #[Value.ref b] s = true) ∧ va_X b L xs s s.heap ∧ b < s.heap.size ∧ meth.locks = false ∧ (Jvm.Cond.and given_1 narrow_1).before #[Value.ref b] s = true
end
section
set_option maxHeartbeats 4000000 in
set_option maxRecDepth 100000 in
theorem op_0 {p : Program} {l : Launch} {e : Env} {s : State} {m : MethodId} {below : List Frame} {meth : Method} {c : Code} {dC : Nat → ClassId} {dI : Nat → Nat → Nat} {b L : Nat} {xs : Nat → Int32} (hL : L ≤ 2560) (C0 : lw_At p s m meth c b L xs) (h0 me sp pg k0 yb zb : Nat) (cI cP cJ : ClassId) (hK : va_K (dC, dI) vwCl [(cI, .int), (cP, .array .int), (cJ, .int)] s) (hZ : ag_O .int s) (i : Nat) (hi : i + 5 ≤ L) (kc ks : Nat) (hkc : kc + 1 ≤ 600000) (hks : ks + 256 ≤ 7302250) (f : Nat → Int32) (fa fl fd cr lo so : Int32) (g : Nat → Option Nat) (LP : List Nat) (r : Nat → Nat → Int32) (y : Nat → Int32) (th fo : Int32) : ∀ (H : Heap) (locs : List Loc) (ls : Array Slot), mok g LP → md_ok f → brel (mw g r) y → va_P (dC, dI) vwCl ([(h0, .inr (1, [.ref me, .ref sp, .int fa, .int fl, .int fd, .int cr, .int lo, .int so])), (sp, .inl (cI, 33, .inl f)), (me, .inr (0, [.ref pg])), (pg, .inl (cP, 64, .inr (.inr (.inr (.inr g))))), (k0, .inr (2, [.int th, .ref yb, .ref zb, .int fa, .int fl, .int fd, .int cr, .int lo, .int so, .int fo])), (yb, .inl (cJ, 65536, .inl y)), (zb, .inl (cJ, 33, .inl f))] ++ va_pl LP (prow cI r)) H → va_D (fun q : Nat => s.heap.size ≤ q) ([(h0, .inr (1, [.ref me, .ref sp, .int fa, .int fl, .int fd, .int cr, .int lo, .int so])), (sp, .inl (cI, 33, .inl f)), (me, .inr (0, [.ref pg])), (pg, .inl (cP, 64, .inr (.inr (.inr (.inr g))))), (k0, .inr (2, [.int th, .ref yb, .ref zb, .int fa, .int fl, .int fd, .int cr, .int lo, .int so, .int fo])), (yb, .inl (cJ, 65536, .inl y)), (zb, .inl (cJ, 33, .inl f))] ++ va_pl LP (prow cI r)) → va_S (fun q : Nat => s.heap.size ≤ q) s.heap H locs → lv_has ls 4 [(3, .int (nI i)), (2, .ref k0), (1, .ref h0), (0, .ref b)] → (∀ (H : Heap) (locs : List Loc) (ls : Array Slot) (f : Nat → Int32) (fa fl fd cr lo so : Int32) (g : Nat → Option Nat) (LP : List Nat) (r : Nat → Nat → Int32) (y : Nat → Int32) (th fo : Int32), mok g LP → md_ok f → brel (mw g r) y → va_P (dC, dI) vwCl ([(h0, .inr (1, [.ref me, .ref sp, .int fa, .int fl, .int fd, .int cr, .int lo, .int so])), (sp, .inl (cI, 33, .inl f)), (me, .inr (0, [.ref pg])), (pg, .inl (cP, 64, .inr (.inr (.inr (.inr g))))), (k0, .inr (2, [.int th, .ref yb, .ref zb, .int fa, .int fl, .int fd, .int cr, .int lo, .int so, .int fo])), (yb, .inl (cJ, 65536, .inl y)), (zb, .inl (cJ, 33, .inl f))] ++ va_pl LP (prow cI r)) H → va_D (fun q : Nat => s.heap.size ≤ q) ([(h0, .inr (1, [.ref me, .ref sp, .int fa, .int fl, .int fd, .int cr, .int lo, .int so])), (sp, .inl (cI, 33, .inl f)), (me, .inr (0, [.ref pg])), (pg, .inl (cP, 64, .inr (.inr (.inr (.inr g))))), (k0, .inr (2, [.int th, .ref yb, .ref zb, .int fa, .int fl, .int fd, .int cr, .int lo, .int so, .int fo])), (yb, .inl (cJ, 65536, .inl y)), (zb, .inl (cJ, 33, .inl f))] ++ va_pl LP (prow cI r)) → va_S (fun q : Nat => s.heap.size ≤ q) s.heap H locs → lv_has ls 4 [(3, .int (nI i)), (2, .ref k0), (1, .ref h0), (0, .ref b)] → W p l e room_1 s m #[Value.ref b] below meth c H locs (kc + 1) (ks + 256) (lw_Z below #[Value.ref b] s) (F0 m 525 ls [])) → W p l e room_1 s m #[Value.ref b] below meth c H locs (kc) (ks) (lw_Z below #[Value.ref b] s) (F0 m 92 ls []) := by
  obtain ⟨hx, hb, hr, hml, hown, hts, hX, hbl, hlocks, hgv⟩ := id C0
  have hown : s.vm.findClass RL = some m.cls := hown
  have hA : ∀ q : Nat, s.heap.size ≤ q → (fun q : Nat => s.heap.size ≤ q) q := fun _ h => h
  have hbA : ¬ (fun q : Nat => s.heap.size ≤ q) b := Nat.not_le.mpr hbl
  have hRc : room_1.cells = 600000 := rfl
  have hRs : room_1.slots = 7302250 := rfl
  intro H locs ls hm hq hbr hP hD hS hl kk
  refine lv_aload_n hx hb dL_law_92 rfl (lv_at hl 2 rfl) ?_
  refine lv_aload_n hx hb dL_law_93 rfl (lv_at hl 3 rfl) ?_
  refine lv_iload_n hx hb dL_law_94 rfl (lv_at hl 0 rfl) ?_
  refine lv_iconst (v := 1) hx hb dL_law_95 (by decide) ?_
  refine lv_iadd hx hb dL_law_96 ?_
  refine va_sld hx hb hX hbl hbA hS (pk_in (i + 1) L (by omega) (show nI i + 1 = nI (i + 1) from nI_add i 1) (by omega)) dL_law_97 ?_
  refine lv_aload_n hx hb dL_law_98 rfl (lv_at hl 3 rfl) ?_
  refine lv_iload_n hx hb dL_law_99 rfl (lv_at hl 0 rfl) ?_
  refine lv_iconst (v := 2) hx hb dL_law_100 (by decide) ?_
  refine lv_iadd hx hb dL_law_101 ?_
  refine va_sld hx hb hX hbl hbA hS (pk_in (i + 2) L (by omega) (show nI i + 2 = nI (i + 2) from nI_add i 2) (by omega)) dL_law_102 ?_
  have hPc := va_P.part (X := [(h0, .inr (1, [.ref me, .ref sp, .int fa, .int fl, .int fd, .int cr, .int lo, .int so])), (sp, .inl (cI, 33, .inl f)), (me, .inr (0, [.ref pg])), (pg, .inl (cP, 64, .inr (.inr (.inr (.inr g))))), (k0, .inr (2, [.int th, .ref yb, .ref zb, .int fa, .int fl, .int fd, .int cr, .int lo, .int so, .int fo])), (yb, .inl (cJ, 65536, .inl y)), (zb, .inl (cJ, 33, .inl f))]) (cx := [(h0, .inr (1, [.ref me, .ref sp, .int fa, .int fl, .int fd, .int cr, .int lo, .int so])), (sp, .inl (cI, 33, .inl f)), (me, .inr (0, [.ref pg])), (pg, .inl (cP, 64, .inr (.inr (.inr (.inr g)))))]) hP [0, 1, 2, 3] rfl
  have hDc := va_D.part (X := [(h0, .inr (1, [.ref me, .ref sp, .int fa, .int fl, .int fd, .int cr, .int lo, .int so])), (sp, .inl (cI, 33, .inl f)), (me, .inr (0, [.ref pg])), (pg, .inl (cP, 64, .inr (.inr (.inr (.inr g))))), (k0, .inr (2, [.int th, .ref yb, .ref zb, .int fa, .int fl, .int fd, .int cr, .int lo, .int so, .int fo])), (yb, .inl (cJ, 65536, .inl y)), (zb, .inl (cJ, 33, .inl f))]) (cx := [(h0, .inr (1, [.ref me, .ref sp, .int fa, .int fl, .int fd, .int cr, .int lo, .int so])), (sp, .inl (cI, 33, .inl f)), (me, .inr (0, [.ref pg])), (pg, .inl (cP, 64, .inr (.inr (.inr (.inr g)))))]) hD [0, 1, 2, 3] (by decide) rfl
  have hFc := va_freeP (X := [(h0, .inr (1, [.ref me, .ref sp, .int fa, .int fl, .int fd, .int cr, .int lo, .int so])), (sp, .inl (cI, 33, .inl f)), (me, .inr (0, [.ref pg])), (pg, .inl (cP, 64, .inr (.inr (.inr (.inr g))))), (k0, .inr (2, [.int th, .ref yb, .ref zb, .int fa, .int fl, .int fd, .int cr, .int lo, .int so, .int fo])), (yb, .inl (cJ, 65536, .inl y)), (zb, .inl (cJ, 33, .inl f))]) (cx := [(h0, .inr (1, [.ref me, .ref sp, .int fa, .int fl, .int fd, .int cr, .int lo, .int so])), (sp, .inl (cI, 33, .inl f)), (me, .inr (0, [.ref pg])), (pg, .inl (cP, 64, .inr (.inr (.inr (.inr g)))))]) hD hS hA [0, 1, 2, 3] rfl
  have hKc := hK.sub (tys' := [(cI, .int), (cP, .array .int)]) [0, 1] rfl
  refine va_calli (va_runV (As := [.int (xs ((nI i) + 1).toNatClampNeg), .int (xs ((nI i) + 2).toNatClampNeg)]) (rest := []) ⟨hx, hb, hml, hown, hts⟩ (c_X1_poke l dC dI (H.size) h0 me sp cI f fa fl fd cr lo so pg cP g LP r (xs ((nI i) + 1).toNatClampNeg) (xs ((nI i) + 2).toNatClampNeg) hm) (cwV 2 hts gL_X1_poke rfl rfl rfl (by decide +kernel) ⟨Nat.le_of_ble_eq_true rfl, Nat.le_of_ble_eq_true rfl⟩) ⟨fun a U g mk q => by obtain ⟨q0, q1, qP, qK, qD, q7⟩ := q; exact ⟨q0, q1, qP, va_K.moved (u := U) (U := U.calling g mk a) (Vm.Alike.refl U.vm) qK, qD, ag_O.moved (Vm.Alike.refl U.vm) q7⟩, va_recv hKc hPc (ci := 1) (q0 := 0) rfl rfl, fun U hU hW => ⟨rfl, by rw [hU], by rw [hU]; exact hPc, va_K.moved hW.alike hKc, hDc.weaken (fun _ _ _ _ => trivial), hZ.moved hW.alike⟩⟩ rfl rfl hl.1 rfl (lv_room (Nat.le_of_ble_eq_true rfl)) dL_law_103 ⟨by rw [hRc]; omega, by rw [hRs]; omega⟩) hS (fun q _ h => hFc q h) hFc (fun r_1 u_3 t H1 locs ht hvm hw_2 hB hz1 hk1 hS => ?_)
  obtain ⟨g_4, LP_5, r_6⟩ := u_3
  obtain ⟨e1_, hm_7, hM_8⟩ := hw_2
  dsimp only at hm_7 hM_8
  subst e1_
  obtain ⟨hP1, hK1, hD1⟩ := hB
  rw [ht] at hP1
  obtain ⟨hP, hD⟩ := va_joinP (X := [(h0, .inr (1, [.ref me, .ref sp, .int fa, .int fl, .int fd, .int cr, .int lo, .int so])), (sp, .inl (cI, 33, .inl f)), (me, .inr (0, [.ref pg])), (pg, .inl (cP, 64, .inr (.inr (.inr (.inr g))))), (k0, .inr (2, [.int th, .ref yb, .ref zb, .int fa, .int fl, .int fd, .int cr, .int lo, .int so, .int fo])), (yb, .inl (cJ, 65536, .inl y)), (zb, .inl (cJ, 33, .inl f))]) (cx := [(h0, .inr (1, [.ref me, .ref sp, .int fa, .int fl, .int fd, .int cr, .int lo, .int so])), (sp, .inl (cI, 33, .inl f)), (me, .inr (0, [.ref pg])), (pg, .inl (cP, 64, .inr (.inr (.inr (.inr g)))))]) (wr := [(k0, .inr (2, [.int th, .ref yb, .ref zb, .int fa, .int fl, .int fd, .int cr, .int lo, .int so, .int fo])), (yb, .inl (cJ, 65536, .inl y)), (zb, .inl (cJ, 33, .inl f))]) (rx := [(h0, .inr (1, [.ref me, .ref sp, .int fa, .int fl, .int fd, .int cr, .int lo, .int so])), (sp, .inl (cI, 33, .inl f)), (me, .inr (0, [.ref pg])), (pg, .inl (cP, 64, .inr (.inr (.inr (.inr g_4)))))]) hP hD [0, 1, 2, 3] [4, 5, 6] rfl rfl (by decide) (by decide) hk1 hFc hP1 hD1
  generalize H1 = H at hP hS ⊢
  have hP := va_P.part (X := [(k0, .inr (2, [.int th, .ref yb, .ref zb, .int fa, .int fl, .int fd, .int cr, .int lo, .int so, .int fo])), (yb, .inl (cJ, 65536, .inl y)), (zb, .inl (cJ, 33, .inl f)), (h0, .inr (1, [.ref me, .ref sp, .int fa, .int fl, .int fd, .int cr, .int lo, .int so])), (sp, .inl (cI, 33, .inl f)), (me, .inr (0, [.ref pg])), (pg, .inl (cP, 64, .inr (.inr (.inr (.inr g_4)))))]) (cx := [(h0, .inr (1, [.ref me, .ref sp, .int fa, .int fl, .int fd, .int cr, .int lo, .int so])), (sp, .inl (cI, 33, .inl f)), (me, .inr (0, [.ref pg])), (pg, .inl (cP, 64, .inr (.inr (.inr (.inr g_4))))), (k0, .inr (2, [.int th, .ref yb, .ref zb, .int fa, .int fl, .int fd, .int cr, .int lo, .int so, .int fo])), (yb, .inl (cJ, 65536, .inl y)), (zb, .inl (cJ, 33, .inl f))]) hP [3, 4, 5, 6, 0, 1, 2] rfl
  have hD := va_D.part (X := [(k0, .inr (2, [.int th, .ref yb, .ref zb, .int fa, .int fl, .int fd, .int cr, .int lo, .int so, .int fo])), (yb, .inl (cJ, 65536, .inl y)), (zb, .inl (cJ, 33, .inl f)), (h0, .inr (1, [.ref me, .ref sp, .int fa, .int fl, .int fd, .int cr, .int lo, .int so])), (sp, .inl (cI, 33, .inl f)), (me, .inr (0, [.ref pg])), (pg, .inl (cP, 64, .inr (.inr (.inr (.inr g_4)))))]) (cx := [(h0, .inr (1, [.ref me, .ref sp, .int fa, .int fl, .int fd, .int cr, .int lo, .int so])), (sp, .inl (cI, 33, .inl f)), (me, .inr (0, [.ref pg])), (pg, .inl (cP, 64, .inr (.inr (.inr (.inr g_4))))), (k0, .inr (2, [.int th, .ref yb, .ref zb, .int fa, .int fl, .int fd, .int cr, .int lo, .int so, .int fo])), (yb, .inl (cJ, 65536, .inl y)), (zb, .inl (cJ, 33, .inl f))]) hD [3, 4, 5, 6, 0, 1, 2] (by decide) rfl
  have hP : va_P (dC, dI) vwCl ([(h0, .inr (1, [.ref me, .ref sp, .int fa, .int fl, .int fd, .int cr, .int lo, .int so])), (sp, .inl (cI, 33, .inl f)), (me, .inr (0, [.ref pg])), (pg, .inl (cP, 64, .inr (.inr (.inr (.inr g_4))))), (k0, .inr (2, [.int th, .ref yb, .ref zb, .int fa, .int fl, .int fd, .int cr, .int lo, .int so, .int fo])), (yb, .inl (cJ, 65536, .inl y)), (zb, .inl (cJ, 33, .inl f))] ++ va_pl LP_5 (prow cI r_6)) H := hP
  have hD : va_D (fun q : Nat => s.heap.size ≤ q) ([(h0, .inr (1, [.ref me, .ref sp, .int fa, .int fl, .int fd, .int cr, .int lo, .int so])), (sp, .inl (cI, 33, .inl f)), (me, .inr (0, [.ref pg])), (pg, .inl (cP, 64, .inr (.inr (.inr (.inr g_4))))), (k0, .inr (2, [.int th, .ref yb, .ref zb, .int fa, .int fl, .int fd, .int cr, .int lo, .int so, .int fo])), (yb, .inl (cJ, 65536, .inl y)), (zb, .inl (cJ, 33, .inl f))] ++ va_pl LP_5 (prow cI r_6)) := hD
  refine lv_aload_n hx hb dL_law_106 rfl (lv_at hl 1 rfl) ?_
  refine lv_aload_n hx hb dL_law_107 rfl (lv_at hl 3 rfl) ?_
  refine lv_iload_n hx hb dL_law_108 rfl (lv_at hl 0 rfl) ?_
  refine lv_iconst (v := 1) hx hb dL_law_109 (by decide) ?_
  refine lv_iadd hx hb dL_law_110 ?_
  refine va_sld hx hb hX hbl hbA hS (pk_in (i + 1) L (by omega) (show nI i + 1 = nI (i + 1) from nI_add i 1) (by omega)) dL_law_111 ?_
  refine lv_aload_n hx hb dL_law_112 rfl (lv_at hl 3 rfl) ?_
  refine lv_iload_n hx hb dL_law_113 rfl (lv_at hl 0 rfl) ?_
  refine lv_iconst (v := 2) hx hb dL_law_114 (by decide) ?_
  refine lv_iadd hx hb dL_law_115 ?_
  refine va_sld hx hb hX hbl hbA hS (pk_in (i + 2) L (by omega) (show nI i + 2 = nI (i + 2) from nI_add i 2) (by omega)) dL_law_116 ?_
  have hPc := hP.sub (ws' := [(k0, .inr (2, [.int th, .ref yb, .ref zb, .int fa, .int fl, .int fd, .int cr, .int lo, .int so, .int fo])), (yb, .inl (cJ, 65536, .inl y)), (zb, .inl (cJ, 33, .inl f))]) [4, 5, 6] rfl
  have hDc := hD.sub (ws' := [(k0, .inr (2, [.int th, .ref yb, .ref zb, .int fa, .int fl, .int fd, .int cr, .int lo, .int so, .int fo])), (yb, .inl (cJ, 65536, .inl y)), (zb, .inl (cJ, 33, .inl f))]) [4, 5, 6] (by decide) rfl
  have hFc := va_free (wc := [(k0, .inr (2, [.int th, .ref yb, .ref zb, .int fa, .int fl, .int fd, .int cr, .int lo, .int so, .int fo])), (yb, .inl (cJ, 65536, .inl y)), (zb, .inl (cJ, 33, .inl f))]) hD hS hA [4, 5, 6] rfl
  have hKc := hK.sub (tys' := [(cJ, .int)]) [2] rfl
  refine va_calli (va_runV (As := [.int (xs ((nI i) + 1).toNatClampNeg), .int (xs ((nI i) + 2).toNatClampNeg)]) (rest := [.int ((s_X1_poke (mw g r) (xs ((nI i) + 1).toNatClampNeg) (xs ((nI i) + 2).toNatClampNeg)).1)]) ⟨hx, hb, hml, hown, hts⟩ (c_M_poke l dC dI (H.size) k0 yb zb cJ y f th fa fl fd cr lo so fo (xs ((nI i) + 1).toNatClampNeg) (xs ((nI i) + 2).toNatClampNeg)) (cwV 2 hts gL_M_poke rfl rfl rfl (by decide +kernel) ⟨Nat.le_of_ble_eq_true rfl, Nat.le_of_ble_eq_true rfl⟩) ⟨fun a U g mk q => by obtain ⟨q0, q1, qP, qK, qD⟩ := q; exact ⟨q0, q1, qP, va_K.moved (u := U) (U := U.calling g mk a) (Vm.Alike.refl U.vm) qK, qD⟩, va_recv hKc hPc (ci := 2) (q0 := 0) rfl rfl, fun U hU hW => ⟨rfl, by rw [hU], by rw [hU]; exact hPc, va_K.moved hW.alike hKc, hDc.weaken (fun _ _ _ _ => trivial)⟩⟩ rfl rfl hl.1 rfl (lv_room (Nat.le_of_ble_eq_true rfl)) dL_law_117 ⟨by rw [hRc]; omega, by rw [hRs]; omega⟩) hS (fun q _ h => hFc q h) hFc (fun r_9 u_11 t H1 locs ht hvm hw_10 hB hz1 hk1 hS => ?_)
  have e1_ : r_9 = (s_M_poke y (xs ((nI i) + 1).toNatClampNeg) (xs ((nI i) + 2).toNatClampNeg)).1 := congrArg Prod.fst hw_10
  have e2_ : u_11 = (s_M_poke y (xs ((nI i) + 1).toNatClampNeg) (xs ((nI i) + 2).toNatClampNeg)).2 := congrArg Prod.snd hw_10
  subst e1_ e2_
  obtain ⟨hP1, hK1, hD1⟩ := hB
  rw [ht] at hP1
  obtain ⟨hP, hD⟩ := va_joinQ (X := [(h0, .inr (1, [.ref me, .ref sp, .int fa, .int fl, .int fd, .int cr, .int lo, .int so])), (sp, .inl (cI, 33, .inl f)), (me, .inr (0, [.ref pg])), (pg, .inl (cP, 64, .inr (.inr (.inr (.inr g_4))))), (k0, .inr (2, [.int th, .ref yb, .ref zb, .int fa, .int fl, .int fd, .int cr, .int lo, .int so, .int fo])), (yb, .inl (cJ, 65536, .inl y)), (zb, .inl (cJ, 33, .inl f))]) (cx := [(k0, .inr (2, [.int th, .ref yb, .ref zb, .int fa, .int fl, .int fd, .int cr, .int lo, .int so, .int fo])), (yb, .inl (cJ, 65536, .inl y)), (zb, .inl (cJ, 33, .inl f))]) (wr := [(h0, .inr (1, [.ref me, .ref sp, .int fa, .int fl, .int fd, .int cr, .int lo, .int so])), (sp, .inl (cI, 33, .inl f)), (me, .inr (0, [.ref pg])), (pg, .inl (cP, 64, .inr (.inr (.inr (.inr g_4)))))]) (w1 := [(k0, .inr (2, [.int ((s_M_poke y (xs ((nI i) + 1).toNatClampNeg) (xs ((nI i) + 2).toNatClampNeg)).2.1), .ref yb, .ref zb, .int fa, .int fl, .int fd, .int cr, .int lo, .int so, .int fo])), (yb, .inl (cJ, 65536, .inl ((s_M_poke y (xs ((nI i) + 1).toNatClampNeg) (xs ((nI i) + 2).toNatClampNeg)).2.2))), (zb, .inl (cJ, 33, .inl f))]) hP hD [4, 5, 6] [0, 1, 2, 3] rfl rfl (by decide) (by decide) hk1 hFc hP1 hD1
  generalize H1 = H at hP hS ⊢
  have hP : va_P (dC, dI) vwCl ([(h0, .inr (1, [.ref me, .ref sp, .int fa, .int fl, .int fd, .int cr, .int lo, .int so])), (sp, .inl (cI, 33, .inl f)), (me, .inr (0, [.ref pg])), (pg, .inl (cP, 64, .inr (.inr (.inr (.inr g_4))))), (k0, .inr (2, [.int ((s_M_poke y (xs ((nI i) + 1).toNatClampNeg) (xs ((nI i) + 2).toNatClampNeg)).2.1), .ref yb, .ref zb, .int fa, .int fl, .int fd, .int cr, .int lo, .int so, .int fo])), (yb, .inl (cJ, 65536, .inl ((s_M_poke y (xs ((nI i) + 1).toNatClampNeg) (xs ((nI i) + 2).toNatClampNeg)).2.2))), (zb, .inl (cJ, 33, .inl f))] ++ va_pl LP_5 (prow cI r_6)) H := hP
  have hD : va_D (fun q : Nat => s.heap.size ≤ q) ([(h0, .inr (1, [.ref me, .ref sp, .int fa, .int fl, .int fd, .int cr, .int lo, .int so])), (sp, .inl (cI, 33, .inl f)), (me, .inr (0, [.ref pg])), (pg, .inl (cP, 64, .inr (.inr (.inr (.inr g_4))))), (k0, .inr (2, [.int ((s_M_poke y (xs ((nI i) + 1).toNatClampNeg) (xs ((nI i) + 2).toNatClampNeg)).2.1), .ref yb, .ref zb, .int fa, .int fl, .int fd, .int cr, .int lo, .int so, .int fo])), (yb, .inl (cJ, 65536, .inl ((s_M_poke y (xs ((nI i) + 1).toNatClampNeg) (xs ((nI i) + 2).toNatClampNeg)).2.2))), (zb, .inl (cJ, 33, .inl f))] ++ va_pl LP_5 (prow cI r_6)) := hD
  obtain ⟨y1, hb1, hE⟩ := poke_eq hbr (xs ((nI i) + 1).toNatClampNeg) (xs ((nI i) + 2).toNatClampNeg)
  rw [hE] at hP hD ⊢
  have hP : va_P (dC, dI) vwCl ([(h0, .inr (1, [.ref me, .ref sp, .int fa, .int fl, .int fd, .int cr, .int lo, .int so])), (sp, .inl (cI, 33, .inl f)), (me, .inr (0, [.ref pg])), (pg, .inl (cP, 64, .inr (.inr (.inr (.inr g_4))))), (k0, .inr (2, [.int 0, .ref yb, .ref zb, .int fa, .int fl, .int fd, .int cr, .int lo, .int so, .int fo])), (yb, .inl (cJ, 65536, .inl y1)), (zb, .inl (cJ, 33, .inl f))] ++ va_pl LP_5 (prow cI r_6)) H := hP
  have hD : va_D (fun q : Nat => s.heap.size ≤ q) ([(h0, .inr (1, [.ref me, .ref sp, .int fa, .int fl, .int fd, .int cr, .int lo, .int so])), (sp, .inl (cI, 33, .inl f)), (me, .inr (0, [.ref pg])), (pg, .inl (cP, 64, .inr (.inr (.inr (.inr g_4))))), (k0, .inr (2, [.int 0, .ref yb, .ref zb, .int fa, .int fl, .int fd, .int cr, .int lo, .int so, .int fo])), (yb, .inl (cJ, 65536, .inl y1)), (zb, .inl (cJ, 33, .inl f))] ++ va_pl LP_5 (prow cI r_6)) := hD
  refine W.eq (g2 := F0 m 120 ls [.int ((s_X1_poke (mw g r) (xs ((nI i) + 1).toNatClampNeg) (xs ((nI i) + 2).toNatClampNeg)).1), .int ((s_X1_poke (mw g r) (xs ((nI i) + 1).toNatClampNeg) (xs ((nI i) + 2).toNatClampNeg)).1)]) rfl ?_
  have heq : (s_X1_poke (mw g r) (xs ((nI i) + 1).toNatClampNeg) (xs ((nI i) + 2).toNatClampNeg)).1 = (s_X1_poke (mw g r) (xs ((nI i) + 1).toNatClampNeg) (xs ((nI i) + 2).toNatClampNeg)).1 := rfl
  refine lv_icmp_eq (tgt := 525) hx hb dL_law_120 (by decide) (fun c_12 => ?_) (fun c_12 => ?_)
  · skip
    refine W.widen (k := kc + 1) (n := ks + 256) (by omega) (by omega) ?_
    exact kk _ _ ls f fa fl fd cr lo so g_4 LP_5 r_6 y1 0 fo hm_7 hq (brel_c hM_8 hb1) hP hD hS (lv_sub hl [0, 1, 2, 3] rfl)
  · exact absurd heq c_12
end
