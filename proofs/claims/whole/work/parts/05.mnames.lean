abbrev cM_init : ByteArray := prog_4_method_1_code
def yM_init : MethodName := ⟨RX2, "<init>", "()V"⟩
abbrev cM_isWordPlace : ByteArray := prog_4_method_3_code
def yM_isWordPlace : MethodName := ⟨RX2, "isWordPlace", "(I)Z"⟩
abbrev cM_wordIn : ByteArray := prog_4_method_4_code
def yM_wordIn : MethodName := ⟨RX2, "wordIn", "(I)I"⟩
abbrev cM_lay : ByteArray := prog_4_method_5_code
def yM_lay : MethodName := ⟨RX2, "lay", "(II)V"⟩
abbrev cM_poke : ByteArray := prog_4_method_6_code
def yM_poke : MethodName := ⟨RX2, "poke", "(II)Z"⟩
abbrev cM_set : ByteArray := prog_4_method_7_code
def yM_set : MethodName := ⟨RX2, "set", "(II)Z"⟩
abbrev cM_mode : ByteArray := prog_4_method_8_code
def yM_mode : MethodName := ⟨RX2, "mode", "(I)Z"⟩
abbrev cM_wrong : ByteArray := prog_4_method_9_code
def yM_wrong : MethodName := ⟨RX2, "wrong", "(IIZ)I"⟩
abbrev cM_probe : ByteArray := prog_4_method_10_code
def yM_probe : MethodName := ⟨RX2, "probe", "(IIZ)Z"⟩
abbrev cM_code : ByteArray := prog_4_method_11_code
def yM_code : MethodName := ⟨RX2, "code", "(I)I"⟩
abbrev cM_load : ByteArray := prog_4_method_12_code
def yM_load : MethodName := ⟨RX2, "load", "(IZ)I"⟩
abbrev cM_store : ByteArray := prog_4_method_13_code
def yM_store : MethodName := ⟨RX2, "store", "(IIZ)I"⟩
abbrev cM_find : ByteArray := prog_4_method_14_code
def yM_find : MethodName := ⟨RX2, "find", "(IIZ)I"⟩
abbrev cM_map : ByteArray := prog_4_method_15_code
def yM_map : MethodName := ⟨RX2, "map", "(IIIZ)I"⟩
abbrev cM_matched : ByteArray := prog_4_method_16_code
def yM_matched : MethodName := ⟨RX2, "matched", "(I)I"⟩
abbrev cM_forget : ByteArray := prog_4_method_17_code
def yM_forget : MethodName := ⟨RX2, "forget", "(Z)I"⟩
abbrev cM_special : ByteArray := prog_4_method_18_code
def yM_special : MethodName := ⟨RX2, "special", "(I)I"⟩
abbrev cM_word : ByteArray := prog_4_method_19_code
def yM_word : MethodName := ⟨RX2, "word", "(I)I"⟩
abbrev cM_look : ByteArray := prog_4_method_20_code
def yM_look : MethodName := ⟨RX2, "look", "(I)I"⟩
def wsM_init : List Cond := .code yM_init cM_init 1 none :: ([.methodLink RX2 1 objectInit, .instanceMethod objectInit, .code objectInit ⟨#[0xb1]⟩ 1 none, .constant RX2 7 (65536), .arrayClass .int, .fieldLink RX2 8 "SoftMapsModel" "bytes" "[I", .fieldLink RX2 14 "SoftMapsModel" "specials" "[I"] ++ wsX20)
def wsM_isWordPlace : List Cond := .code yM_isWordPlace cM_isWordPlace 1 (some .boolean) :: ([.constant RX2 7 (65536)])
def wsM_wordIn : List Cond := .code yM_wordIn cM_wordIn 4 (some .int) :: ([.fieldLink RX2 8 "SoftMapsModel" "bytes" "[I"] ++ wsX20)
def wsM_lay : List Cond := .code yM_lay cM_lay 4 none :: ([.fieldLink RX2 8 "SoftMapsModel" "bytes" "[I"] ++ wsX20)
def wsM_poke : List Cond := .code yM_poke cM_poke 3 (some .boolean) :: ([.fieldLink RX2 17 "SoftMapsModel" "thrown" "I", .methodLink RX2 21 yM_isWordPlace, .static yM_isWordPlace, .initialized RX2, .code yM_isWordPlace cM_isWordPlace 1 (some .boolean), .constant RX2 7 (65536), .methodLink RX2 25 yM_lay, .instanceMethod yM_lay, .selects RX2 yM_lay yM_lay, .code yM_lay cM_lay 4 none, .fieldLink RX2 8 "SoftMapsModel" "bytes" "[I"] ++ wsX20)
def wsM_set : List Cond := .code yM_set cM_set 3 (some .boolean) :: ([.fieldLink RX2 17 "SoftMapsModel" "thrown" "I", .fieldLink RX2 14 "SoftMapsModel" "specials" "[I"] ++ wsX20)
def wsM_mode : List Cond := .code yM_mode cM_mode 2 (some .boolean) :: ([.fieldLink RX2 14 "SoftMapsModel" "specials" "[I"] ++ wsX20)
def wsM_wrong : List Cond := .code yM_wrong cM_wrong 16 (some .int) :: ([.constantLong RX2 29 (4294967295), .constantLong RX2 34 (1024), .constantLong RX2 36 (8), .fieldLink RX2 14 "SoftMapsModel" "specials" "[I", .constantLong RX2 38 (2), .constantLong RX2 40 (4), .constantLong RX2 42 (32768), .constantLong RX2 44 (65536), .fieldLink RX2 46 "SoftMapsModel" "found" "I", .methodLink RX2 31 yM_mode, .instanceMethod yM_mode, .selects RX2 yM_mode yM_mode, .initialized RX2, .code yM_mode cM_mode 2 (some .boolean)] ++ wsX20)
def wsM_probe : List Cond := .code yM_probe cM_probe 5 (some .boolean) :: ([.fieldLink RX2 53 "SoftMapsModel" "faults" "I", .fieldLink RX2 56 "SoftMapsModel" "fault" "I", .fieldLink RX2 59 "SoftMapsModel" "address" "I", .methodLink RX2 49 yM_wrong, .instanceMethod yM_wrong, .selects RX2 yM_wrong yM_wrong, .initialized RX2, .code yM_wrong cM_wrong 16 (some .int), .constantLong RX2 29 (4294967295), .constantLong RX2 34 (1024), .constantLong RX2 36 (8), .fieldLink RX2 14 "SoftMapsModel" "specials" "[I", .constantLong RX2 38 (2), .constantLong RX2 40 (4), .constantLong RX2 42 (32768), .constantLong RX2 44 (65536), .fieldLink RX2 46 "SoftMapsModel" "found" "I", .methodLink RX2 31 yM_mode, .instanceMethod yM_mode, .selects RX2 yM_mode yM_mode, .code yM_mode cM_mode 2 (some .boolean)] ++ wsX20)
def wsM_code_r1 : List Cond := [Cond.fieldLink RX2 17 "SoftMapsModel" "thrown" "I", Cond.fieldLink RX2 66 "SoftMapsModel" "codes" "I", Cond.fieldLink RX2 46 "SoftMapsModel" "found" "I", Cond.methodLink RX2 62 yM_probe, Cond.instanceMethod yM_probe, Cond.selects RX2 yM_probe yM_probe, Cond.initialized RX2, Cond.code yM_probe cM_probe 5 (some .boolean), Cond.fieldLink RX2 53 "SoftMapsModel" "faults" "I", Cond.fieldLink RX2 56 "SoftMapsModel" "fault" "I", Cond.fieldLink RX2 59 "SoftMapsModel" "address" "I", Cond.methodLink RX2 49 yM_wrong, Cond.instanceMethod yM_wrong, Cond.selects RX2 yM_wrong yM_wrong, Cond.code yM_wrong cM_wrong 16 (some .int), Cond.constantLong RX2 29 (4294967295), Cond.constantLong RX2 34 (1024), Cond.constantLong RX2 36 (8), Cond.fieldLink RX2 14 "SoftMapsModel" "specials" "[I", Cond.constantLong RX2 38 (2), Cond.constantLong RX2 40 (4), Cond.constantLong RX2 42 (32768), Cond.constantLong RX2 44 (65536), Cond.methodLink RX2 31 yM_mode]
def wsM_code_r2 : List Cond := [Cond.instanceMethod yM_mode, Cond.selects RX2 yM_mode yM_mode, Cond.code yM_mode cM_mode 2 (some .boolean), Cond.methodLink RX2 69 yM_wordIn, Cond.instanceMethod yM_wordIn, Cond.selects RX2 yM_wordIn yM_wordIn, Cond.code yM_wordIn cM_wordIn 4 (some .int), Cond.fieldLink RX2 8 "SoftMapsModel" "bytes" "[I"]
def wsM_code : List Cond := .code yM_code cM_code 2 (some .int) :: ((wsM_code_r1 ++ wsM_code_r2) ++ wsX20)
def wsM_load_r1 : List Cond := [Cond.fieldLink RX2 17 "SoftMapsModel" "thrown" "I", Cond.fieldLink RX2 73 "SoftMapsModel" "loads" "I", Cond.fieldLink RX2 46 "SoftMapsModel" "found" "I", Cond.fieldLink RX2 8 "SoftMapsModel" "bytes" "[I", Cond.methodLink RX2 62 yM_probe, Cond.instanceMethod yM_probe, Cond.selects RX2 yM_probe yM_probe, Cond.initialized RX2, Cond.code yM_probe cM_probe 5 (some .boolean), Cond.fieldLink RX2 53 "SoftMapsModel" "faults" "I", Cond.fieldLink RX2 56 "SoftMapsModel" "fault" "I", Cond.fieldLink RX2 59 "SoftMapsModel" "address" "I", Cond.methodLink RX2 49 yM_wrong, Cond.instanceMethod yM_wrong, Cond.selects RX2 yM_wrong yM_wrong, Cond.code yM_wrong cM_wrong 16 (some .int), Cond.constantLong RX2 29 (4294967295), Cond.constantLong RX2 34 (1024), Cond.constantLong RX2 36 (8), Cond.fieldLink RX2 14 "SoftMapsModel" "specials" "[I", Cond.constantLong RX2 38 (2), Cond.constantLong RX2 40 (4), Cond.constantLong RX2 42 (32768), Cond.constantLong RX2 44 (65536)]
def wsM_load_r2 : List Cond := [Cond.methodLink RX2 31 yM_mode, Cond.instanceMethod yM_mode, Cond.selects RX2 yM_mode yM_mode, Cond.code yM_mode cM_mode 2 (some .boolean), Cond.methodLink RX2 69 yM_wordIn, Cond.instanceMethod yM_wordIn, Cond.selects RX2 yM_wordIn yM_wordIn, Cond.code yM_wordIn cM_wordIn 4 (some .int)]
def wsM_load : List Cond := .code yM_load cM_load 3 (some .int) :: ((wsM_load_r1 ++ wsM_load_r2) ++ wsX20)
def wsM_store_r1 : List Cond := [Cond.fieldLink RX2 17 "SoftMapsModel" "thrown" "I", Cond.fieldLink RX2 76 "SoftMapsModel" "stores" "I", Cond.fieldLink RX2 46 "SoftMapsModel" "found" "I", Cond.fieldLink RX2 8 "SoftMapsModel" "bytes" "[I", Cond.methodLink RX2 62 yM_probe, Cond.instanceMethod yM_probe, Cond.selects RX2 yM_probe yM_probe, Cond.initialized RX2, Cond.code yM_probe cM_probe 5 (some .boolean), Cond.fieldLink RX2 53 "SoftMapsModel" "faults" "I", Cond.fieldLink RX2 56 "SoftMapsModel" "fault" "I", Cond.fieldLink RX2 59 "SoftMapsModel" "address" "I", Cond.methodLink RX2 49 yM_wrong, Cond.instanceMethod yM_wrong, Cond.selects RX2 yM_wrong yM_wrong, Cond.code yM_wrong cM_wrong 16 (some .int), Cond.constantLong RX2 29 (4294967295), Cond.constantLong RX2 34 (1024), Cond.constantLong RX2 36 (8), Cond.fieldLink RX2 14 "SoftMapsModel" "specials" "[I", Cond.constantLong RX2 38 (2), Cond.constantLong RX2 40 (4), Cond.constantLong RX2 42 (32768), Cond.constantLong RX2 44 (65536)]
def wsM_store_r2 : List Cond := [Cond.methodLink RX2 31 yM_mode, Cond.instanceMethod yM_mode, Cond.selects RX2 yM_mode yM_mode, Cond.code yM_mode cM_mode 2 (some .boolean), Cond.methodLink RX2 25 yM_lay, Cond.instanceMethod yM_lay, Cond.selects RX2 yM_lay yM_lay, Cond.code yM_lay cM_lay 4 none]
def wsM_store : List Cond := .code yM_store cM_store 4 (some .int) :: ((wsM_store_r1 ++ wsM_store_r2) ++ wsX20)
def wsM_find : List Cond := .code yM_find cM_find 5 (some .int) :: ([.fieldLink RX2 17 "SoftMapsModel" "thrown" "I", .fieldLink RX2 46 "SoftMapsModel" "found" "I", .methodLink RX2 49 yM_wrong, .instanceMethod yM_wrong, .selects RX2 yM_wrong yM_wrong, .initialized RX2, .code yM_wrong cM_wrong 16 (some .int), .constantLong RX2 29 (4294967295), .constantLong RX2 34 (1024), .constantLong RX2 36 (8), .fieldLink RX2 14 "SoftMapsModel" "specials" "[I", .constantLong RX2 38 (2), .constantLong RX2 40 (4), .constantLong RX2 42 (32768), .constantLong RX2 44 (65536), .methodLink RX2 31 yM_mode, .instanceMethod yM_mode, .selects RX2 yM_mode yM_mode, .code yM_mode cM_mode 2 (some .boolean)] ++ wsX20)
def wsM_map : List Cond := .code yM_map cM_map 7 (some .int) :: ([.fieldLink RX2 17 "SoftMapsModel" "thrown" "I", .fieldLink RX2 14 "SoftMapsModel" "specials" "[I"] ++ wsX20)
def wsM_matched : List Cond := .code yM_matched cM_matched 4 (some .int) :: ([.fieldLink RX2 14 "SoftMapsModel" "specials" "[I"] ++ wsX20)
def wsM_forget : List Cond := .code yM_forget cM_forget 5 (some .int) :: ([.fieldLink RX2 17 "SoftMapsModel" "thrown" "I", .fieldLink RX2 14 "SoftMapsModel" "specials" "[I", .methodLink RX2 79 yM_matched, .instanceMethod yM_matched, .selects RX2 yM_matched yM_matched, .initialized RX2, .code yM_matched cM_matched 4 (some .int)] ++ wsX20)
def wsM_special : List Cond := .code yM_special cM_special 2 (some .int) :: ([.fieldLink RX2 17 "SoftMapsModel" "thrown" "I", .fieldLink RX2 14 "SoftMapsModel" "specials" "[I"] ++ wsX20)
def wsM_word : List Cond := .code yM_word cM_word 2 (some .int) :: ([.fieldLink RX2 17 "SoftMapsModel" "thrown" "I", .methodLink RX2 21 yM_isWordPlace, .static yM_isWordPlace, .initialized RX2, .code yM_isWordPlace cM_isWordPlace 1 (some .boolean), .constant RX2 7 (65536), .methodLink RX2 69 yM_wordIn, .instanceMethod yM_wordIn, .selects RX2 yM_wordIn yM_wordIn, .code yM_wordIn cM_wordIn 4 (some .int), .fieldLink RX2 8 "SoftMapsModel" "bytes" "[I"] ++ wsX20)
def wsM_look : List Cond := .code yM_look cM_look 2 (some .int) :: ([.fieldLink RX2 17 "SoftMapsModel" "thrown" "I", .fieldLink RX2 53 "SoftMapsModel" "faults" "I", .fieldLink RX2 56 "SoftMapsModel" "fault" "I", .fieldLink RX2 59 "SoftMapsModel" "address" "I", .fieldLink RX2 66 "SoftMapsModel" "codes" "I", .fieldLink RX2 73 "SoftMapsModel" "loads" "I", .fieldLink RX2 76 "SoftMapsModel" "stores" "I", .methodLink RX2 79 yM_matched, .instanceMethod yM_matched, .selects RX2 yM_matched yM_matched, .initialized RX2, .code yM_matched cM_matched 4 (some .int), .fieldLink RX2 14 "SoftMapsModel" "specials" "[I"] ++ wsX20)
theorem dM_init_0 : decode cM_init 0 = .ok (.aload_n 0, 1) := by decide +kernel
theorem dM_init_1 : decode cM_init 1 = .ok (.invokespecial 1, 3) := by decide +kernel
theorem dM_init_4 : decode cM_init 4 = .ok (.aload_n 0, 1) := by decide +kernel
theorem dM_init_5 : decode cM_init 5 = .ok (.ldc 7, 2) := by decide +kernel
theorem dM_init_7 : decode cM_init 7 = .ok (.newarray .int, 2) := by decide +kernel
theorem dM_init_9 : decode cM_init 9 = .ok (.putfield 8, 3) := by decide +kernel
theorem dM_init_12 : decode cM_init 12 = .ok (.aload_n 0, 1) := by decide +kernel
theorem dM_init_13 : decode cM_init 13 = .ok (.bipush 33, 2) := by decide +kernel
theorem dM_init_15 : decode cM_init 15 = .ok (.newarray .int, 2) := by decide +kernel
theorem dM_init_17 : decode cM_init 17 = .ok (.putfield 14, 3) := by decide +kernel
theorem dM_init_20 : decode cM_init 20 = .ok (.return_, 1) := by decide +kernel
theorem dM_isWordPlace_0 : decode cM_isWordPlace 0 = .ok (.iload_n 0, 1) := by decide +kernel
theorem dM_isWordPlace_1 : decode cM_isWordPlace 1 = .ok (.ifCond .lt 19, 3) := by decide +kernel
theorem dM_isWordPlace_4 : decode cM_isWordPlace 4 = .ok (.iload_n 0, 1) := by decide +kernel
theorem dM_isWordPlace_5 : decode cM_isWordPlace 5 = .ok (.ldc 7, 2) := by decide +kernel
theorem dM_isWordPlace_7 : decode cM_isWordPlace 7 = .ok (.if_icmp .ge 13, 3) := by decide +kernel
theorem dM_isWordPlace_10 : decode cM_isWordPlace 10 = .ok (.iload_n 0, 1) := by decide +kernel
theorem dM_isWordPlace_11 : decode cM_isWordPlace 11 = .ok (.iconst 4, 1) := by decide +kernel
theorem dM_isWordPlace_12 : decode cM_isWordPlace 12 = .ok (.irem, 1) := by decide +kernel
theorem dM_isWordPlace_13 : decode cM_isWordPlace 13 = .ok (.ifCond .ne 7, 3) := by decide +kernel
theorem dM_isWordPlace_16 : decode cM_isWordPlace 16 = .ok (.iconst 1, 1) := by decide +kernel
theorem dM_isWordPlace_17 : decode cM_isWordPlace 17 = .ok (.goto 4, 3) := by decide +kernel
theorem dM_isWordPlace_20 : decode cM_isWordPlace 20 = .ok (.iconst 0, 1) := by decide +kernel
theorem dM_isWordPlace_21 : decode cM_isWordPlace 21 = .ok (.ireturn, 1) := by decide +kernel
theorem dM_wordIn_0 : decode cM_wordIn 0 = .ok (.iconst 0, 1) := by decide +kernel
theorem dM_wordIn_1 : decode cM_wordIn 1 = .ok (.istore_n 2, 1) := by decide +kernel
theorem dM_wordIn_2 : decode cM_wordIn 2 = .ok (.iconst 0, 1) := by decide +kernel
theorem dM_wordIn_3 : decode cM_wordIn 3 = .ok (.istore_n 3, 1) := by decide +kernel
theorem dM_wordIn_4 : decode cM_wordIn 4 = .ok (.iload_n 3, 1) := by decide +kernel
theorem dM_wordIn_5 : decode cM_wordIn 5 = .ok (.iconst 4, 1) := by decide +kernel
theorem dM_wordIn_6 : decode cM_wordIn 6 = .ok (.if_icmp .ge 24, 3) := by decide +kernel
theorem dM_wordIn_9 : decode cM_wordIn 9 = .ok (.iload_n 2, 1) := by decide +kernel
theorem dM_wordIn_10 : decode cM_wordIn 10 = .ok (.sipush 256, 3) := by decide +kernel
theorem dM_wordIn_13 : decode cM_wordIn 13 = .ok (.imul, 1) := by decide +kernel
theorem dM_wordIn_14 : decode cM_wordIn 14 = .ok (.aload_n 0, 1) := by decide +kernel
theorem dM_wordIn_15 : decode cM_wordIn 15 = .ok (.getfield 8, 3) := by decide +kernel
theorem dM_wordIn_18 : decode cM_wordIn 18 = .ok (.iload_n 1, 1) := by decide +kernel
theorem dM_wordIn_19 : decode cM_wordIn 19 = .ok (.iload_n 3, 1) := by decide +kernel
theorem dM_wordIn_20 : decode cM_wordIn 20 = .ok (.iadd, 1) := by decide +kernel
theorem dM_wordIn_21 : decode cM_wordIn 21 = .ok (.iaload, 1) := by decide +kernel
theorem dM_wordIn_22 : decode cM_wordIn 22 = .ok (.iadd, 1) := by decide +kernel
theorem dM_wordIn_23 : decode cM_wordIn 23 = .ok (.istore_n 2, 1) := by decide +kernel
theorem dM_wordIn_24 : decode cM_wordIn 24 = .ok (.iinc 3 1, 3) := by decide +kernel
theorem dM_wordIn_27 : decode cM_wordIn 27 = .ok (.goto (-23), 3) := by decide +kernel
theorem dM_wordIn_30 : decode cM_wordIn 30 = .ok (.iload_n 2, 1) := by decide +kernel
theorem dM_wordIn_31 : decode cM_wordIn 31 = .ok (.ireturn, 1) := by decide +kernel
theorem dM_lay_0 : decode cM_lay 0 = .ok (.iconst 0, 1) := by decide +kernel
theorem dM_lay_1 : decode cM_lay 1 = .ok (.istore_n 3, 1) := by decide +kernel
theorem dM_lay_2 : decode cM_lay 2 = .ok (.iload_n 3, 1) := by decide +kernel
theorem dM_lay_3 : decode cM_lay 3 = .ok (.iconst 4, 1) := by decide +kernel
theorem dM_lay_4 : decode cM_lay 4 = .ok (.if_icmp .ge 30, 3) := by decide +kernel
theorem dM_lay_7 : decode cM_lay 7 = .ok (.aload_n 0, 1) := by decide +kernel
theorem dM_lay_8 : decode cM_lay 8 = .ok (.getfield 8, 3) := by decide +kernel
theorem dM_lay_11 : decode cM_lay 11 = .ok (.iload_n 1, 1) := by decide +kernel
theorem dM_lay_12 : decode cM_lay 12 = .ok (.iload_n 3, 1) := by decide +kernel
theorem dM_lay_13 : decode cM_lay 13 = .ok (.iadd, 1) := by decide +kernel
theorem dM_lay_14 : decode cM_lay 14 = .ok (.iload_n 2, 1) := by decide +kernel
theorem dM_lay_15 : decode cM_lay 15 = .ok (.bipush 24, 2) := by decide +kernel
theorem dM_lay_17 : decode cM_lay 17 = .ok (.bipush 8, 2) := by decide +kernel
theorem dM_lay_19 : decode cM_lay 19 = .ok (.iload_n 3, 1) := by decide +kernel
theorem dM_lay_20 : decode cM_lay 20 = .ok (.imul, 1) := by decide +kernel
theorem dM_lay_21 : decode cM_lay 21 = .ok (.isub, 1) := by decide +kernel
theorem dM_lay_22 : decode cM_lay 22 = .ok (.ishr, 1) := by decide +kernel
theorem dM_lay_23 : decode cM_lay 23 = .ok (.sipush 255, 3) := by decide +kernel
theorem dM_lay_26 : decode cM_lay 26 = .ok (.iand, 1) := by decide +kernel
theorem dM_lay_27 : decode cM_lay 27 = .ok (.iastore, 1) := by decide +kernel
theorem dM_lay_28 : decode cM_lay 28 = .ok (.iinc 3 1, 3) := by decide +kernel
theorem dM_lay_31 : decode cM_lay 31 = .ok (.goto (-29), 3) := by decide +kernel
theorem dM_lay_34 : decode cM_lay 34 = .ok (.return_, 1) := by decide +kernel
set_option maxRecDepth 20000 in
theorem gM_poke_M_isWordPlace : GoodIn wsM_poke (va_wsS RX2 21 yM_isWordPlace wsM_isWordPlace) := goodIn_app (goodIn_of _ (by decide +kernel)) (goodIn_r _ [5, 6] (by decide +kernel) (by decide +kernel))
set_option maxRecDepth 20000 in
theorem gM_poke_M_lay : GoodIn wsM_poke (wsV RX2 25 RX2 yM_lay wsM_lay) := goodIn_app (goodIn_of _ (by decide +kernel)) (goodIn_r _ [10, 11, 12, 13, 14, 15, 16, 17, 18, 19, 20, 21] (by decide +kernel) (by decide +kernel))
theorem dM_poke_0 : decode cM_poke 0 = .ok (.aload_n 0, 1) := by decide +kernel
theorem dM_poke_1 : decode cM_poke 1 = .ok (.iconst 0, 1) := by decide +kernel
theorem dM_poke_2 : decode cM_poke 2 = .ok (.putfield 17, 3) := by decide +kernel
theorem dM_poke_5 : decode cM_poke 5 = .ok (.iload_n 1, 1) := by decide +kernel
theorem dM_poke_6 : decode cM_poke 6 = .ok (.invokestatic 21, 3) := by decide +kernel
theorem dM_poke_9 : decode cM_poke 9 = .ok (.ifCond .ne 5, 3) := by decide +kernel
theorem dM_poke_12 : decode cM_poke 12 = .ok (.iconst 0, 1) := by decide +kernel
theorem dM_poke_13 : decode cM_poke 13 = .ok (.ireturn, 1) := by decide +kernel
theorem dM_poke_14 : decode cM_poke 14 = .ok (.aload_n 0, 1) := by decide +kernel
theorem dM_poke_15 : decode cM_poke 15 = .ok (.iload_n 1, 1) := by decide +kernel
theorem dM_poke_16 : decode cM_poke 16 = .ok (.iload_n 2, 1) := by decide +kernel
theorem dM_poke_17 : decode cM_poke 17 = .ok (.invokevirtual 25, 3) := by decide +kernel
theorem dM_poke_20 : decode cM_poke 20 = .ok (.iconst 1, 1) := by decide +kernel
theorem dM_poke_21 : decode cM_poke 21 = .ok (.ireturn, 1) := by decide +kernel
theorem dM_set_0 : decode cM_set 0 = .ok (.aload_n 0, 1) := by decide +kernel
theorem dM_set_1 : decode cM_set 1 = .ok (.iconst 0, 1) := by decide +kernel
theorem dM_set_2 : decode cM_set 2 = .ok (.putfield 17, 3) := by decide +kernel
theorem dM_set_5 : decode cM_set 5 = .ok (.iload_n 1, 1) := by decide +kernel
theorem dM_set_6 : decode cM_set 6 = .ok (.ifCond .lt 9, 3) := by decide +kernel
theorem dM_set_9 : decode cM_set 9 = .ok (.iload_n 1, 1) := by decide +kernel
theorem dM_set_10 : decode cM_set 10 = .ok (.bipush 32, 2) := by decide +kernel
theorem dM_set_12 : decode cM_set 12 = .ok (.if_icmp .le 5, 3) := by decide +kernel
theorem dM_set_15 : decode cM_set 15 = .ok (.iconst 0, 1) := by decide +kernel
theorem dM_set_16 : decode cM_set 16 = .ok (.ireturn, 1) := by decide +kernel
theorem dM_set_17 : decode cM_set 17 = .ok (.aload_n 0, 1) := by decide +kernel
theorem dM_set_18 : decode cM_set 18 = .ok (.getfield 14, 3) := by decide +kernel
theorem dM_set_21 : decode cM_set 21 = .ok (.iload_n 1, 1) := by decide +kernel
theorem dM_set_22 : decode cM_set 22 = .ok (.iload_n 1, 1) := by decide +kernel
theorem dM_set_23 : decode cM_set 23 = .ok (.bipush 32, 2) := by decide +kernel
theorem dM_set_25 : decode cM_set 25 = .ok (.if_icmp .ne 10, 3) := by decide +kernel
theorem dM_set_28 : decode cM_set 28 = .ok (.iload_n 2, 1) := by decide +kernel
theorem dM_set_29 : decode cM_set 29 = .ok (.bipush 7, 2) := by decide +kernel
theorem dM_set_31 : decode cM_set 31 = .ok (.iand, 1) := by decide +kernel
theorem dM_set_32 : decode cM_set 32 = .ok (.goto 4, 3) := by decide +kernel
theorem dM_set_35 : decode cM_set 35 = .ok (.iload_n 2, 1) := by decide +kernel
theorem dM_set_36 : decode cM_set 36 = .ok (.iastore, 1) := by decide +kernel
theorem dM_set_37 : decode cM_set 37 = .ok (.iconst 1, 1) := by decide +kernel
theorem dM_set_38 : decode cM_set 38 = .ok (.ireturn, 1) := by decide +kernel
theorem dM_mode_0 : decode cM_mode 0 = .ok (.aload_n 0, 1) := by decide +kernel
theorem dM_mode_1 : decode cM_mode 1 = .ok (.getfield 14, 3) := by decide +kernel
theorem dM_mode_4 : decode cM_mode 4 = .ok (.bipush 32, 2) := by decide +kernel
theorem dM_mode_6 : decode cM_mode 6 = .ok (.iaload, 1) := by decide +kernel
theorem dM_mode_7 : decode cM_mode 7 = .ok (.iload_n 1, 1) := by decide +kernel
theorem dM_mode_8 : decode cM_mode 8 = .ok (.idiv, 1) := by decide +kernel
theorem dM_mode_9 : decode cM_mode 9 = .ok (.iconst 2, 1) := by decide +kernel
theorem dM_mode_10 : decode cM_mode 10 = .ok (.irem, 1) := by decide +kernel
theorem dM_mode_11 : decode cM_mode 11 = .ok (.iconst 1, 1) := by decide +kernel
theorem dM_mode_12 : decode cM_mode 12 = .ok (.if_icmp .ne 7, 3) := by decide +kernel
theorem dM_mode_15 : decode cM_mode 15 = .ok (.iconst 1, 1) := by decide +kernel
theorem dM_mode_16 : decode cM_mode 16 = .ok (.goto 4, 3) := by decide +kernel
theorem dM_mode_19 : decode cM_mode 19 = .ok (.iconst 0, 1) := by decide +kernel
theorem dM_mode_20 : decode cM_mode 20 = .ok (.ireturn, 1) := by decide +kernel
set_option maxRecDepth 20000 in
theorem gM_wrong_M_mode : GoodIn wsM_wrong (wsV RX2 31 RX2 yM_mode wsM_mode) := goodIn_app (goodIn_of _ (by decide +kernel)) (goodIn_r _ [14, 4, 15, 16, 17, 18, 19, 20, 21, 22, 23, 24] (by decide +kernel) (by decide +kernel))
theorem dM_wrong_0 : decode cM_wrong 0 = .ok (.iload_n 3, 1) := by decide +kernel
theorem dM_wrong_1 : decode cM_wrong 1 = .ok (.ifCond .ne 7, 3) := by decide +kernel
theorem dM_wrong_4 : decode cM_wrong 4 = .ok (.iload_n 2, 1) := by decide +kernel
theorem dM_wrong_5 : decode cM_wrong 5 = .ok (.ifCond .ne 7, 3) := by decide +kernel
theorem dM_wrong_8 : decode cM_wrong 8 = .ok (.iconst 1, 1) := by decide +kernel
theorem dM_wrong_9 : decode cM_wrong 9 = .ok (.goto 4, 3) := by decide +kernel
theorem dM_wrong_12 : decode cM_wrong 12 = .ok (.iconst 0, 1) := by decide +kernel
theorem dM_wrong_13 : decode cM_wrong 13 = .ok (.istore 4, 2) := by decide +kernel
theorem dM_wrong_15 : decode cM_wrong 15 = .ok (.iload 4, 2) := by decide +kernel
theorem dM_wrong_17 : decode cM_wrong 17 = .ok (.ifCond .eq 12, 3) := by decide +kernel
theorem dM_wrong_20 : decode cM_wrong 20 = .ok (.iload_n 1, 1) := by decide +kernel
theorem dM_wrong_21 : decode cM_wrong 21 = .ok (.iconst 3, 1) := by decide +kernel
theorem dM_wrong_22 : decode cM_wrong 22 = .ok (.iand, 1) := by decide +kernel
theorem dM_wrong_23 : decode cM_wrong 23 = .ok (.ifCond .eq 6, 3) := by decide +kernel
theorem dM_wrong_26 : decode cM_wrong 26 = .ok (.bipush 6, 2) := by decide +kernel
theorem dM_wrong_28 : decode cM_wrong 28 = .ok (.ireturn, 1) := by decide +kernel
theorem dM_wrong_29 : decode cM_wrong 29 = .ok (.iload_n 1, 1) := by decide +kernel
theorem dM_wrong_30 : decode cM_wrong 30 = .ok (.i2l, 1) := by decide +kernel
theorem dM_wrong_31 : decode cM_wrong 31 = .ok (.ldc2_w 29, 3) := by decide +kernel
theorem dM_wrong_34 : decode cM_wrong 34 = .ok (.land, 1) := by decide +kernel
theorem dM_wrong_35 : decode cM_wrong 35 = .ok (.lstore 5, 2) := by decide +kernel
theorem dM_wrong_37 : decode cM_wrong 37 = .ok (.aload_n 0, 1) := by decide +kernel
theorem dM_wrong_38 : decode cM_wrong 38 = .ok (.iload_n 2, 1) := by decide +kernel
theorem dM_wrong_39 : decode cM_wrong 39 = .ok (.ifCond .ne 7, 3) := by decide +kernel
theorem dM_wrong_42 : decode cM_wrong 42 = .ok (.iconst 2, 1) := by decide +kernel
theorem dM_wrong_43 : decode cM_wrong 43 = .ok (.goto 4, 3) := by decide +kernel
theorem dM_wrong_46 : decode cM_wrong 46 = .ok (.iconst 4, 1) := by decide +kernel
theorem dM_wrong_47 : decode cM_wrong 47 = .ok (.invokevirtual 31, 3) := by decide +kernel
theorem dM_wrong_50 : decode cM_wrong 50 = .ok (.ifCond .eq 182, 3) := by decide +kernel
theorem dM_wrong_53 : decode cM_wrong 53 = .ok (.lload 5, 2) := by decide +kernel
theorem dM_wrong_55 : decode cM_wrong 55 = .ok (.ldc2_w 34, 3) := by decide +kernel
theorem dM_wrong_58 : decode cM_wrong 58 = .ok (.ldiv, 1) := by decide +kernel
theorem dM_wrong_59 : decode cM_wrong 59 = .ok (.lstore 7, 2) := by decide +kernel
theorem dM_wrong_61 : decode cM_wrong 61 = .ok (.lload 7, 2) := by decide +kernel
theorem dM_wrong_63 : decode cM_wrong 63 = .ok (.ldc2_w 36, 3) := by decide +kernel
theorem dM_wrong_66 : decode cM_wrong 66 = .ok (.lrem, 1) := by decide +kernel
theorem dM_wrong_67 : decode cM_wrong 67 = .ok (.l2i, 1) := by decide +kernel
theorem dM_wrong_68 : decode cM_wrong 68 = .ok (.iload_n 2, 1) := by decide +kernel
theorem dM_wrong_69 : decode cM_wrong 69 = .ok (.ifCond .ne 7, 3) := by decide +kernel
theorem dM_wrong_72 : decode cM_wrong 72 = .ok (.iconst 0, 1) := by decide +kernel
theorem dM_wrong_73 : decode cM_wrong 73 = .ok (.goto 5, 3) := by decide +kernel
theorem dM_wrong_76 : decode cM_wrong 76 = .ok (.bipush 16, 2) := by decide +kernel
theorem dM_wrong_78 : decode cM_wrong 78 = .ok (.iadd, 1) := by decide +kernel
theorem dM_wrong_79 : decode cM_wrong 79 = .ok (.istore 9, 2) := by decide +kernel
theorem dM_wrong_81 : decode cM_wrong 81 = .ok (.aload_n 0, 1) := by decide +kernel
theorem dM_wrong_82 : decode cM_wrong 82 = .ok (.getfield 14, 3) := by decide +kernel
theorem dM_wrong_85 : decode cM_wrong 85 = .ok (.iload 9, 2) := by decide +kernel
theorem dM_wrong_87 : decode cM_wrong 87 = .ok (.iaload, 1) := by decide +kernel
theorem dM_wrong_88 : decode cM_wrong 88 = .ok (.i2l, 1) := by decide +kernel
theorem dM_wrong_89 : decode cM_wrong 89 = .ok (.ldc2_w 29, 3) := by decide +kernel
theorem dM_wrong_92 : decode cM_wrong 92 = .ok (.land, 1) := by decide +kernel
theorem dM_wrong_93 : decode cM_wrong 93 = .ok (.lstore 10, 2) := by decide +kernel
theorem dM_wrong_95 : decode cM_wrong 95 = .ok (.aload_n 0, 1) := by decide +kernel
theorem dM_wrong_96 : decode cM_wrong 96 = .ok (.getfield 14, 3) := by decide +kernel
theorem dM_wrong_99 : decode cM_wrong 99 = .ok (.iload 9, 2) := by decide +kernel
theorem dM_wrong_101 : decode cM_wrong 101 = .ok (.bipush 8, 2) := by decide +kernel
theorem dM_wrong_103 : decode cM_wrong 103 = .ok (.iadd, 1) := by decide +kernel
theorem dM_wrong_104 : decode cM_wrong 104 = .ok (.iaload, 1) := by decide +kernel
theorem dM_wrong_105 : decode cM_wrong 105 = .ok (.i2l, 1) := by decide +kernel
theorem dM_wrong_106 : decode cM_wrong 106 = .ok (.ldc2_w 29, 3) := by decide +kernel
theorem dM_wrong_109 : decode cM_wrong 109 = .ok (.land, 1) := by decide +kernel
theorem dM_wrong_110 : decode cM_wrong 110 = .ok (.lstore 12, 2) := by decide +kernel
theorem dM_wrong_112 : decode cM_wrong 112 = .ok (.lload 10, 2) := by decide +kernel
theorem dM_wrong_114 : decode cM_wrong 114 = .ok (.ldc2_w 38, 3) := by decide +kernel
theorem dM_wrong_117 : decode cM_wrong 117 = .ok (.lrem, 1) := by decide +kernel
theorem dM_wrong_118 : decode cM_wrong 118 = .ok (.lconst 0, 1) := by decide +kernel
theorem dM_wrong_119 : decode cM_wrong 119 = .ok (.lcmp, 1) := by decide +kernel
theorem dM_wrong_120 : decode cM_wrong 120 = .ok (.ifCond .eq 15, 3) := by decide +kernel
theorem dM_wrong_123 : decode cM_wrong 123 = .ok (.lload 10, 2) := by decide +kernel
theorem dM_wrong_125 : decode cM_wrong 125 = .ok (.ldc2_w 34, 3) := by decide +kernel
theorem dM_wrong_128 : decode cM_wrong 128 = .ok (.ldiv, 1) := by decide +kernel
theorem dM_wrong_129 : decode cM_wrong 129 = .ok (.lload 7, 2) := by decide +kernel
theorem dM_wrong_131 : decode cM_wrong 131 = .ok (.lcmp, 1) := by decide +kernel
theorem dM_wrong_132 : decode cM_wrong 132 = .ok (.ifCond .eq 15, 3) := by decide +kernel
theorem dM_wrong_135 : decode cM_wrong 135 = .ok (.iload_n 2, 1) := by decide +kernel
theorem dM_wrong_136 : decode cM_wrong 136 = .ok (.ifCond .ne 8, 3) := by decide +kernel
theorem dM_wrong_139 : decode cM_wrong 139 = .ok (.bipush 10, 2) := by decide +kernel
theorem dM_wrong_141 : decode cM_wrong 141 = .ok (.goto 5, 3) := by decide +kernel
theorem dM_wrong_144 : decode cM_wrong 144 = .ok (.bipush 9, 2) := by decide +kernel
theorem dM_wrong_146 : decode cM_wrong 146 = .ok (.ireturn, 1) := by decide +kernel
theorem dM_wrong_147 : decode cM_wrong 147 = .ok (.iload_n 2, 1) := by decide +kernel
theorem dM_wrong_148 : decode cM_wrong 148 = .ok (.iconst 2, 1) := by decide +kernel
theorem dM_wrong_149 : decode cM_wrong 149 = .ok (.if_icmp .ne 23, 3) := by decide +kernel
theorem dM_wrong_152 : decode cM_wrong 152 = .ok (.aload_n 0, 1) := by decide +kernel
theorem dM_wrong_153 : decode cM_wrong 153 = .ok (.iconst 1, 1) := by decide +kernel
theorem dM_wrong_154 : decode cM_wrong 154 = .ok (.invokevirtual 31, 3) := by decide +kernel
theorem dM_wrong_157 : decode cM_wrong 157 = .ok (.ifCond .eq 9, 3) := by decide +kernel
theorem dM_wrong_160 : decode cM_wrong 160 = .ok (.ldc2_w 36, 3) := by decide +kernel
theorem dM_wrong_163 : decode cM_wrong 163 = .ok (.goto 24, 3) := by decide +kernel
theorem dM_wrong_166 : decode cM_wrong 166 = .ok (.ldc2_w 38, 3) := by decide +kernel
theorem dM_wrong_169 : decode cM_wrong 169 = .ok (.goto 18, 3) := by decide +kernel
theorem dM_wrong_172 : decode cM_wrong 172 = .ok (.aload_n 0, 1) := by decide +kernel
theorem dM_wrong_173 : decode cM_wrong 173 = .ok (.iconst 1, 1) := by decide +kernel
theorem dM_wrong_174 : decode cM_wrong 174 = .ok (.invokevirtual 31, 3) := by decide +kernel
theorem dM_wrong_177 : decode cM_wrong 177 = .ok (.ifCond .eq 9, 3) := by decide +kernel
theorem dM_wrong_180 : decode cM_wrong 180 = .ok (.ldc2_w 40, 3) := by decide +kernel
theorem dM_wrong_183 : decode cM_wrong 183 = .ok (.goto 4, 3) := by decide +kernel
theorem dM_wrong_186 : decode cM_wrong 186 = .ok (.lconst 1, 1) := by decide +kernel
theorem dM_wrong_187 : decode cM_wrong 187 = .ok (.lstore 14, 2) := by decide +kernel
theorem dM_wrong_189 : decode cM_wrong 189 = .ok (.lload 12, 2) := by decide +kernel
theorem dM_wrong_191 : decode cM_wrong 191 = .ok (.lload 14, 2) := by decide +kernel
theorem dM_wrong_193 : decode cM_wrong 193 = .ok (.ldiv, 1) := by decide +kernel
theorem dM_wrong_194 : decode cM_wrong 194 = .ok (.ldc2_w 38, 3) := by decide +kernel
theorem dM_wrong_197 : decode cM_wrong 197 = .ok (.lrem, 1) := by decide +kernel
theorem dM_wrong_198 : decode cM_wrong 198 = .ok (.lconst 0, 1) := by decide +kernel
theorem dM_wrong_199 : decode cM_wrong 199 = .ok (.lcmp, 1) := by decide +kernel
theorem dM_wrong_200 : decode cM_wrong 200 = .ok (.ifCond .ne 13, 3) := by decide +kernel
theorem dM_wrong_203 : decode cM_wrong 203 = .ok (.iload_n 2, 1) := by decide +kernel
theorem dM_wrong_204 : decode cM_wrong 204 = .ok (.ifCond .ne 7, 3) := by decide +kernel
theorem dM_wrong_207 : decode cM_wrong 207 = .ok (.iconst 4, 1) := by decide +kernel
theorem dM_wrong_208 : decode cM_wrong 208 = .ok (.goto 4, 3) := by decide +kernel
theorem dM_wrong_211 : decode cM_wrong 211 = .ok (.iconst 3, 1) := by decide +kernel
theorem dM_wrong_212 : decode cM_wrong 212 = .ok (.ireturn, 1) := by decide +kernel
theorem dM_wrong_213 : decode cM_wrong 213 = .ok (.lload 12, 2) := by decide +kernel
theorem dM_wrong_215 : decode cM_wrong 215 = .ok (.ldc2_w 34, 3) := by decide +kernel
theorem dM_wrong_218 : decode cM_wrong 218 = .ok (.ldiv, 1) := by decide +kernel
theorem dM_wrong_219 : decode cM_wrong 219 = .ok (.ldc2_w 34, 3) := by decide +kernel
theorem dM_wrong_222 : decode cM_wrong 222 = .ok (.lmul, 1) := by decide +kernel
theorem dM_wrong_223 : decode cM_wrong 223 = .ok (.lload 5, 2) := by decide +kernel
theorem dM_wrong_225 : decode cM_wrong 225 = .ok (.ldc2_w 34, 3) := by decide +kernel
theorem dM_wrong_228 : decode cM_wrong 228 = .ok (.lrem, 1) := by decide +kernel
theorem dM_wrong_229 : decode cM_wrong 229 = .ok (.ladd, 1) := by decide +kernel
theorem dM_wrong_230 : decode cM_wrong 230 = .ok (.lstore 5, 2) := by decide +kernel
theorem dM_wrong_232 : decode cM_wrong 232 = .ok (.iload_n 2, 1) := by decide +kernel
theorem dM_wrong_233 : decode cM_wrong 233 = .ok (.ifCond .ne 20, 3) := by decide +kernel
theorem dM_wrong_236 : decode cM_wrong 236 = .ok (.lload 5, 2) := by decide +kernel
theorem dM_wrong_238 : decode cM_wrong 238 = .ok (.ldc2_w 42, 3) := by decide +kernel
theorem dM_wrong_241 : decode cM_wrong 241 = .ok (.lcmp, 1) := by decide +kernel
theorem dM_wrong_242 : decode cM_wrong 242 = .ok (.ifCond .lt 7, 3) := by decide +kernel
theorem dM_wrong_245 : decode cM_wrong 245 = .ok (.iconst 1, 1) := by decide +kernel
theorem dM_wrong_246 : decode cM_wrong 246 = .ok (.goto 35, 3) := by decide +kernel
theorem dM_wrong_249 : decode cM_wrong 249 = .ok (.iconst 0, 1) := by decide +kernel
theorem dM_wrong_250 : decode cM_wrong 250 = .ok (.goto 31, 3) := by decide +kernel
theorem dM_wrong_253 : decode cM_wrong 253 = .ok (.lload 5, 2) := by decide +kernel
theorem dM_wrong_255 : decode cM_wrong 255 = .ok (.ldc2_w 44, 3) := by decide +kernel
theorem dM_wrong_258 : decode cM_wrong 258 = .ok (.lcmp, 1) := by decide +kernel
theorem dM_wrong_259 : decode cM_wrong 259 = .ok (.ifCond .ge 17, 3) := by decide +kernel
theorem dM_wrong_262 : decode cM_wrong 262 = .ok (.iload_n 2, 1) := by decide +kernel
theorem dM_wrong_263 : decode cM_wrong 263 = .ok (.iconst 2, 1) := by decide +kernel
theorem dM_wrong_264 : decode cM_wrong 264 = .ok (.if_icmp .ne 16, 3) := by decide +kernel
theorem dM_wrong_267 : decode cM_wrong 267 = .ok (.lload 5, 2) := by decide +kernel
theorem dM_wrong_269 : decode cM_wrong 269 = .ok (.ldc2_w 42, 3) := by decide +kernel
theorem dM_wrong_272 : decode cM_wrong 272 = .ok (.lcmp, 1) := by decide +kernel
theorem dM_wrong_273 : decode cM_wrong 273 = .ok (.ifCond .ge 7, 3) := by decide +kernel
theorem dM_wrong_276 : decode cM_wrong 276 = .ok (.iconst 1, 1) := by decide +kernel
theorem dM_wrong_277 : decode cM_wrong 277 = .ok (.goto 4, 3) := by decide +kernel
theorem dM_wrong_280 : decode cM_wrong 280 = .ok (.iconst 0, 1) := by decide +kernel
theorem dM_wrong_281 : decode cM_wrong 281 = .ok (.istore 7, 2) := by decide +kernel
theorem dM_wrong_283 : decode cM_wrong 283 = .ok (.aload_n 0, 1) := by decide +kernel
theorem dM_wrong_284 : decode cM_wrong 284 = .ok (.iload 7, 2) := by decide +kernel
theorem dM_wrong_286 : decode cM_wrong 286 = .ok (.ifCond .eq 7, 3) := by decide +kernel
theorem dM_wrong_289 : decode cM_wrong 289 = .ok (.iconst 0, 1) := by decide +kernel
theorem dM_wrong_290 : decode cM_wrong 290 = .ok (.goto 6, 3) := by decide +kernel
theorem dM_wrong_293 : decode cM_wrong 293 = .ok (.lload 5, 2) := by decide +kernel
theorem dM_wrong_295 : decode cM_wrong 295 = .ok (.l2i, 1) := by decide +kernel
theorem dM_wrong_296 : decode cM_wrong 296 = .ok (.putfield 46, 3) := by decide +kernel
theorem dM_wrong_299 : decode cM_wrong 299 = .ok (.iload 7, 2) := by decide +kernel
theorem dM_wrong_301 : decode cM_wrong 301 = .ok (.ifCond .eq 7, 3) := by decide +kernel
theorem dM_wrong_304 : decode cM_wrong 304 = .ok (.iconst 2, 1) := by decide +kernel
theorem dM_wrong_305 : decode cM_wrong 305 = .ok (.goto 4, 3) := by decide +kernel
theorem dM_wrong_308 : decode cM_wrong 308 = .ok (.iconst 0, 1) := by decide +kernel
theorem dM_wrong_309 : decode cM_wrong 309 = .ok (.ireturn, 1) := by decide +kernel
set_option maxRecDepth 20000 in
theorem gM_probe_M_wrong : GoodIn wsM_probe (wsV RX2 49 RX2 yM_wrong wsM_wrong) := goodIn_app (goodIn_of _ (by decide +kernel)) (goodIn_r _ [8, 9, 10, 11, 12, 13, 14, 15, 16, 17, 18, 19, 20, 7, 21, 22, 23, 24, 25, 26, 27, 28, 29, 30, 31] (by decide +kernel) (by decide +kernel))
theorem dM_probe_0 : decode cM_probe 0 = .ok (.aload_n 0, 1) := by decide +kernel
theorem dM_probe_1 : decode cM_probe 1 = .ok (.iload_n 1, 1) := by decide +kernel
theorem dM_probe_2 : decode cM_probe 2 = .ok (.iload_n 2, 1) := by decide +kernel
theorem dM_probe_3 : decode cM_probe 3 = .ok (.iload_n 3, 1) := by decide +kernel
theorem dM_probe_4 : decode cM_probe 4 = .ok (.invokevirtual 49, 3) := by decide +kernel
theorem dM_probe_7 : decode cM_probe 7 = .ok (.istore 4, 2) := by decide +kernel
theorem dM_probe_9 : decode cM_probe 9 = .ok (.iload 4, 2) := by decide +kernel
theorem dM_probe_11 : decode cM_probe 11 = .ok (.ifCond .le 24, 3) := by decide +kernel
theorem dM_probe_14 : decode cM_probe 14 = .ok (.aload_n 0, 1) := by decide +kernel
theorem dM_probe_15 : decode cM_probe 15 = .ok (.dup, 1) := by decide +kernel
theorem dM_probe_16 : decode cM_probe 16 = .ok (.getfield 53, 3) := by decide +kernel
theorem dM_probe_19 : decode cM_probe 19 = .ok (.iconst 1, 1) := by decide +kernel
theorem dM_probe_20 : decode cM_probe 20 = .ok (.iadd, 1) := by decide +kernel
theorem dM_probe_21 : decode cM_probe 21 = .ok (.putfield 53, 3) := by decide +kernel
theorem dM_probe_24 : decode cM_probe 24 = .ok (.aload_n 0, 1) := by decide +kernel
theorem dM_probe_25 : decode cM_probe 25 = .ok (.iload 4, 2) := by decide +kernel
theorem dM_probe_27 : decode cM_probe 27 = .ok (.putfield 56, 3) := by decide +kernel
theorem dM_probe_30 : decode cM_probe 30 = .ok (.aload_n 0, 1) := by decide +kernel
theorem dM_probe_31 : decode cM_probe 31 = .ok (.iload_n 1, 1) := by decide +kernel
theorem dM_probe_32 : decode cM_probe 32 = .ok (.putfield 59, 3) := by decide +kernel
theorem dM_probe_35 : decode cM_probe 35 = .ok (.iload 4, 2) := by decide +kernel
theorem dM_probe_37 : decode cM_probe 37 = .ok (.ifCond .ne 7, 3) := by decide +kernel
theorem dM_probe_40 : decode cM_probe 40 = .ok (.iconst 1, 1) := by decide +kernel
theorem dM_probe_41 : decode cM_probe 41 = .ok (.goto 4, 3) := by decide +kernel
theorem dM_probe_44 : decode cM_probe 44 = .ok (.iconst 0, 1) := by decide +kernel
theorem dM_probe_45 : decode cM_probe 45 = .ok (.ireturn, 1) := by decide +kernel
set_option maxRecDepth 20000 in
theorem gM_code_M_probe : GoodIn wsM_code (wsV RX2 62 RX2 yM_probe wsM_probe) := goodIn_app (goodIn_of _ (by decide +kernel)) (goodIn_r _ [8, 9, 10, 11, 12, 13, 14, 7, 15, 16, 17, 18, 19, 20, 21, 22, 23, 3, 24, 25, 26, 27, 33, 34, 35, 36, 37, 38, 39, 40, 41, 42] (by decide +kernel) (by decide +kernel))
set_option maxRecDepth 20000 in
theorem gM_code_M_wordIn : GoodIn wsM_code (wsV RX2 69 RX2 yM_wordIn wsM_wordIn) := goodIn_app (goodIn_of _ (by decide +kernel)) (goodIn_r _ [31, 32, 33, 34, 35, 36, 37, 38, 39, 40, 41, 42] (by decide +kernel) (by decide +kernel))
theorem dM_code_0 : decode cM_code 0 = .ok (.aload_n 0, 1) := by decide +kernel
theorem dM_code_1 : decode cM_code 1 = .ok (.iconst 0, 1) := by decide +kernel
theorem dM_code_2 : decode cM_code 2 = .ok (.putfield 17, 3) := by decide +kernel
theorem dM_code_5 : decode cM_code 5 = .ok (.aload_n 0, 1) := by decide +kernel
theorem dM_code_6 : decode cM_code 6 = .ok (.iload_n 1, 1) := by decide +kernel
theorem dM_code_7 : decode cM_code 7 = .ok (.iconst 0, 1) := by decide +kernel
theorem dM_code_8 : decode cM_code 8 = .ok (.iconst 1, 1) := by decide +kernel
theorem dM_code_9 : decode cM_code 9 = .ok (.invokevirtual 62, 3) := by decide +kernel
theorem dM_code_12 : decode cM_code 12 = .ok (.ifCond .ne 5, 3) := by decide +kernel
theorem dM_code_15 : decode cM_code 15 = .ok (.iconst 0, 1) := by decide +kernel
theorem dM_code_16 : decode cM_code 16 = .ok (.ireturn, 1) := by decide +kernel
theorem dM_code_17 : decode cM_code 17 = .ok (.aload_n 0, 1) := by decide +kernel
theorem dM_code_18 : decode cM_code 18 = .ok (.dup, 1) := by decide +kernel
theorem dM_code_19 : decode cM_code 19 = .ok (.getfield 66, 3) := by decide +kernel
theorem dM_code_22 : decode cM_code 22 = .ok (.iconst 1, 1) := by decide +kernel
theorem dM_code_23 : decode cM_code 23 = .ok (.iadd, 1) := by decide +kernel
theorem dM_code_24 : decode cM_code 24 = .ok (.putfield 66, 3) := by decide +kernel
theorem dM_code_27 : decode cM_code 27 = .ok (.aload_n 0, 1) := by decide +kernel
theorem dM_code_28 : decode cM_code 28 = .ok (.aload_n 0, 1) := by decide +kernel
theorem dM_code_29 : decode cM_code 29 = .ok (.getfield 46, 3) := by decide +kernel
theorem dM_code_32 : decode cM_code 32 = .ok (.invokevirtual 69, 3) := by decide +kernel
theorem dM_code_35 : decode cM_code 35 = .ok (.ireturn, 1) := by decide +kernel
set_option maxRecDepth 20000 in
theorem gM_load_M_probe : GoodIn wsM_load (wsV RX2 62 RX2 yM_probe wsM_probe) := goodIn_app (goodIn_of _ (by decide +kernel)) (goodIn_r _ [9, 10, 11, 12, 13, 14, 15, 8, 16, 17, 18, 19, 20, 21, 22, 23, 24, 3, 25, 26, 27, 28, 33, 34, 35, 36, 37, 38, 39, 40, 41, 42] (by decide +kernel) (by decide +kernel))
set_option maxRecDepth 20000 in
theorem gM_load_M_wordIn : GoodIn wsM_load (wsV RX2 69 RX2 yM_wordIn wsM_wordIn) := goodIn_app (goodIn_of _ (by decide +kernel)) (goodIn_r _ [32, 4, 33, 34, 35, 36, 37, 38, 39, 40, 41, 42] (by decide +kernel) (by decide +kernel))
theorem dM_load_0 : decode cM_load 0 = .ok (.aload_n 0, 1) := by decide +kernel
theorem dM_load_1 : decode cM_load 1 = .ok (.iconst 0, 1) := by decide +kernel
theorem dM_load_2 : decode cM_load 2 = .ok (.putfield 17, 3) := by decide +kernel
theorem dM_load_5 : decode cM_load 5 = .ok (.aload_n 0, 1) := by decide +kernel
theorem dM_load_6 : decode cM_load 6 = .ok (.iload_n 1, 1) := by decide +kernel
theorem dM_load_7 : decode cM_load 7 = .ok (.iconst 1, 1) := by decide +kernel
theorem dM_load_8 : decode cM_load 8 = .ok (.iload_n 2, 1) := by decide +kernel
theorem dM_load_9 : decode cM_load 9 = .ok (.invokevirtual 62, 3) := by decide +kernel
theorem dM_load_12 : decode cM_load 12 = .ok (.ifCond .ne 5, 3) := by decide +kernel
theorem dM_load_15 : decode cM_load 15 = .ok (.iconst 0, 1) := by decide +kernel
theorem dM_load_16 : decode cM_load 16 = .ok (.ireturn, 1) := by decide +kernel
theorem dM_load_17 : decode cM_load 17 = .ok (.aload_n 0, 1) := by decide +kernel
theorem dM_load_18 : decode cM_load 18 = .ok (.dup, 1) := by decide +kernel
theorem dM_load_19 : decode cM_load 19 = .ok (.getfield 73, 3) := by decide +kernel
theorem dM_load_22 : decode cM_load 22 = .ok (.iconst 1, 1) := by decide +kernel
theorem dM_load_23 : decode cM_load 23 = .ok (.iadd, 1) := by decide +kernel
theorem dM_load_24 : decode cM_load 24 = .ok (.putfield 73, 3) := by decide +kernel
theorem dM_load_27 : decode cM_load 27 = .ok (.iload_n 2, 1) := by decide +kernel
theorem dM_load_28 : decode cM_load 28 = .ok (.ifCond .eq 14, 3) := by decide +kernel
theorem dM_load_31 : decode cM_load 31 = .ok (.aload_n 0, 1) := by decide +kernel
theorem dM_load_32 : decode cM_load 32 = .ok (.aload_n 0, 1) := by decide +kernel
theorem dM_load_33 : decode cM_load 33 = .ok (.getfield 46, 3) := by decide +kernel
theorem dM_load_36 : decode cM_load 36 = .ok (.invokevirtual 69, 3) := by decide +kernel
theorem dM_load_39 : decode cM_load 39 = .ok (.goto 12, 3) := by decide +kernel
theorem dM_load_42 : decode cM_load 42 = .ok (.aload_n 0, 1) := by decide +kernel
theorem dM_load_43 : decode cM_load 43 = .ok (.getfield 8, 3) := by decide +kernel
theorem dM_load_46 : decode cM_load 46 = .ok (.aload_n 0, 1) := by decide +kernel
theorem dM_load_47 : decode cM_load 47 = .ok (.getfield 46, 3) := by decide +kernel
theorem dM_load_50 : decode cM_load 50 = .ok (.iaload, 1) := by decide +kernel
theorem dM_load_51 : decode cM_load 51 = .ok (.ireturn, 1) := by decide +kernel
set_option maxRecDepth 20000 in
theorem gM_store_M_probe : GoodIn wsM_store (wsV RX2 62 RX2 yM_probe wsM_probe) := goodIn_app (goodIn_of _ (by decide +kernel)) (goodIn_r _ [9, 10, 11, 12, 13, 14, 15, 8, 16, 17, 18, 19, 20, 21, 22, 23, 24, 3, 25, 26, 27, 28, 33, 34, 35, 36, 37, 38, 39, 40, 41, 42] (by decide +kernel) (by decide +kernel))
set_option maxRecDepth 20000 in
theorem gM_store_M_lay : GoodIn wsM_store (wsV RX2 25 RX2 yM_lay wsM_lay) := goodIn_app (goodIn_of _ (by decide +kernel)) (goodIn_r _ [32, 4, 33, 34, 35, 36, 37, 38, 39, 40, 41, 42] (by decide +kernel) (by decide +kernel))
theorem dM_store_0 : decode cM_store 0 = .ok (.aload_n 0, 1) := by decide +kernel
theorem dM_store_1 : decode cM_store 1 = .ok (.iconst 0, 1) := by decide +kernel
theorem dM_store_2 : decode cM_store 2 = .ok (.putfield 17, 3) := by decide +kernel
theorem dM_store_5 : decode cM_store 5 = .ok (.aload_n 0, 1) := by decide +kernel
theorem dM_store_6 : decode cM_store 6 = .ok (.iload_n 1, 1) := by decide +kernel
theorem dM_store_7 : decode cM_store 7 = .ok (.iconst 2, 1) := by decide +kernel
theorem dM_store_8 : decode cM_store 8 = .ok (.iload_n 3, 1) := by decide +kernel
theorem dM_store_9 : decode cM_store 9 = .ok (.invokevirtual 62, 3) := by decide +kernel
theorem dM_store_12 : decode cM_store 12 = .ok (.ifCond .ne 5, 3) := by decide +kernel
theorem dM_store_15 : decode cM_store 15 = .ok (.iconst (-1), 1) := by decide +kernel
theorem dM_store_16 : decode cM_store 16 = .ok (.ireturn, 1) := by decide +kernel
theorem dM_store_17 : decode cM_store 17 = .ok (.aload_n 0, 1) := by decide +kernel
theorem dM_store_18 : decode cM_store 18 = .ok (.dup, 1) := by decide +kernel
theorem dM_store_19 : decode cM_store 19 = .ok (.getfield 76, 3) := by decide +kernel
theorem dM_store_22 : decode cM_store 22 = .ok (.iconst 1, 1) := by decide +kernel
theorem dM_store_23 : decode cM_store 23 = .ok (.iadd, 1) := by decide +kernel
theorem dM_store_24 : decode cM_store 24 = .ok (.putfield 76, 3) := by decide +kernel
theorem dM_store_27 : decode cM_store 27 = .ok (.iload_n 3, 1) := by decide +kernel
theorem dM_store_28 : decode cM_store 28 = .ok (.ifCond .eq 15, 3) := by decide +kernel
theorem dM_store_31 : decode cM_store 31 = .ok (.aload_n 0, 1) := by decide +kernel
theorem dM_store_32 : decode cM_store 32 = .ok (.aload_n 0, 1) := by decide +kernel
theorem dM_store_33 : decode cM_store 33 = .ok (.getfield 46, 3) := by decide +kernel
theorem dM_store_36 : decode cM_store 36 = .ok (.iload_n 2, 1) := by decide +kernel
theorem dM_store_37 : decode cM_store 37 = .ok (.invokevirtual 25, 3) := by decide +kernel
theorem dM_store_40 : decode cM_store 40 = .ok (.goto 17, 3) := by decide +kernel
theorem dM_store_43 : decode cM_store 43 = .ok (.aload_n 0, 1) := by decide +kernel
theorem dM_store_44 : decode cM_store 44 = .ok (.getfield 8, 3) := by decide +kernel
theorem dM_store_47 : decode cM_store 47 = .ok (.aload_n 0, 1) := by decide +kernel
theorem dM_store_48 : decode cM_store 48 = .ok (.getfield 46, 3) := by decide +kernel
theorem dM_store_51 : decode cM_store 51 = .ok (.iload_n 2, 1) := by decide +kernel
theorem dM_store_52 : decode cM_store 52 = .ok (.sipush 255, 3) := by decide +kernel
theorem dM_store_55 : decode cM_store 55 = .ok (.iand, 1) := by decide +kernel
theorem dM_store_56 : decode cM_store 56 = .ok (.iastore, 1) := by decide +kernel
theorem dM_store_57 : decode cM_store 57 = .ok (.aload_n 0, 1) := by decide +kernel
theorem dM_store_58 : decode cM_store 58 = .ok (.getfield 46, 3) := by decide +kernel
theorem dM_store_61 : decode cM_store 61 = .ok (.ireturn, 1) := by decide +kernel
set_option maxRecDepth 20000 in
theorem gM_find_M_wrong : GoodIn wsM_find (wsV RX2 49 RX2 yM_wrong wsM_wrong) := goodIn_app (goodIn_of _ (by decide +kernel)) (goodIn_r _ [7, 8, 9, 10, 11, 12, 13, 14, 15, 2, 16, 17, 18, 6, 19, 20, 21, 22, 23, 24, 25, 26, 27, 28, 29] (by decide +kernel) (by decide +kernel))
theorem dM_find_0 : decode cM_find 0 = .ok (.aload_n 0, 1) := by decide +kernel
theorem dM_find_1 : decode cM_find 1 = .ok (.iconst 0, 1) := by decide +kernel
theorem dM_find_2 : decode cM_find 2 = .ok (.putfield 17, 3) := by decide +kernel
theorem dM_find_5 : decode cM_find 5 = .ok (.iload_n 2, 1) := by decide +kernel
theorem dM_find_6 : decode cM_find 6 = .ok (.ifCond .lt 8, 3) := by decide +kernel
theorem dM_find_9 : decode cM_find 9 = .ok (.iload_n 2, 1) := by decide +kernel
theorem dM_find_10 : decode cM_find 10 = .ok (.iconst 2, 1) := by decide +kernel
theorem dM_find_11 : decode cM_find 11 = .ok (.if_icmp .le 5, 3) := by decide +kernel
theorem dM_find_14 : decode cM_find 14 = .ok (.iconst 0, 1) := by decide +kernel
theorem dM_find_15 : decode cM_find 15 = .ok (.ireturn, 1) := by decide +kernel
theorem dM_find_16 : decode cM_find 16 = .ok (.aload_n 0, 1) := by decide +kernel
theorem dM_find_17 : decode cM_find 17 = .ok (.iload_n 1, 1) := by decide +kernel
theorem dM_find_18 : decode cM_find 18 = .ok (.iload_n 2, 1) := by decide +kernel
theorem dM_find_19 : decode cM_find 19 = .ok (.iload_n 3, 1) := by decide +kernel
theorem dM_find_20 : decode cM_find 20 = .ok (.invokevirtual 49, 3) := by decide +kernel
theorem dM_find_23 : decode cM_find 23 = .ok (.istore 4, 2) := by decide +kernel
theorem dM_find_25 : decode cM_find 25 = .ok (.iload 4, 2) := by decide +kernel
theorem dM_find_27 : decode cM_find 27 = .ok (.ifCond .le 9, 3) := by decide +kernel
theorem dM_find_30 : decode cM_find 30 = .ok (.iload 4, 2) := by decide +kernel
theorem dM_find_32 : decode cM_find 32 = .ok (.ineg, 1) := by decide +kernel
theorem dM_find_33 : decode cM_find 33 = .ok (.goto 7, 3) := by decide +kernel
theorem dM_find_36 : decode cM_find 36 = .ok (.aload_n 0, 1) := by decide +kernel
theorem dM_find_37 : decode cM_find 37 = .ok (.getfield 46, 3) := by decide +kernel
theorem dM_find_40 : decode cM_find 40 = .ok (.ireturn, 1) := by decide +kernel
theorem dM_map_0 : decode cM_map 0 = .ok (.aload_n 0, 1) := by decide +kernel
theorem dM_map_1 : decode cM_map 1 = .ok (.iconst 0, 1) := by decide +kernel
theorem dM_map_2 : decode cM_map 2 = .ok (.putfield 17, 3) := by decide +kernel
theorem dM_map_5 : decode cM_map 5 = .ok (.iload_n 2, 1) := by decide +kernel
theorem dM_map_6 : decode cM_map 6 = .ok (.ifCond .lt 19, 3) := by decide +kernel
theorem dM_map_9 : decode cM_map 9 = .ok (.iload_n 2, 1) := by decide +kernel
theorem dM_map_10 : decode cM_map 10 = .ok (.bipush 63, 2) := by decide +kernel
theorem dM_map_12 : decode cM_map 12 = .ok (.if_icmp .gt 13, 3) := by decide +kernel
theorem dM_map_15 : decode cM_map 15 = .ok (.iload_n 3, 1) := by decide +kernel
theorem dM_map_16 : decode cM_map 16 = .ok (.ifCond .lt 9, 3) := by decide +kernel
theorem dM_map_19 : decode cM_map 19 = .ok (.iload_n 3, 1) := by decide +kernel
theorem dM_map_20 : decode cM_map 20 = .ok (.bipush 15, 2) := by decide +kernel
theorem dM_map_22 : decode cM_map 22 = .ok (.if_icmp .le 5, 3) := by decide +kernel
theorem dM_map_25 : decode cM_map 25 = .ok (.iconst (-1), 1) := by decide +kernel
theorem dM_map_26 : decode cM_map 26 = .ok (.ireturn, 1) := by decide +kernel
theorem dM_map_27 : decode cM_map 27 = .ok (.iload_n 1, 1) := by decide +kernel
theorem dM_map_28 : decode cM_map 28 = .ok (.bipush 10, 2) := by decide +kernel
theorem dM_map_30 : decode cM_map 30 = .ok (.iushr, 1) := by decide +kernel
theorem dM_map_31 : decode cM_map 31 = .ok (.bipush 8, 2) := by decide +kernel
theorem dM_map_33 : decode cM_map 33 = .ok (.irem, 1) := by decide +kernel
theorem dM_map_34 : decode cM_map 34 = .ok (.istore 5, 2) := by decide +kernel
theorem dM_map_36 : decode cM_map 36 = .ok (.iload 4, 2) := by decide +kernel
theorem dM_map_38 : decode cM_map 38 = .ok (.ifCond .eq 8, 3) := by decide +kernel
theorem dM_map_41 : decode cM_map 41 = .ok (.bipush 16, 2) := by decide +kernel
theorem dM_map_43 : decode cM_map 43 = .ok (.goto 4, 3) := by decide +kernel
theorem dM_map_46 : decode cM_map 46 = .ok (.iconst 0, 1) := by decide +kernel
theorem dM_map_47 : decode cM_map 47 = .ok (.istore 6, 2) := by decide +kernel
theorem dM_map_49 : decode cM_map 49 = .ok (.aload_n 0, 1) := by decide +kernel
theorem dM_map_50 : decode cM_map 50 = .ok (.getfield 14, 3) := by decide +kernel
theorem dM_map_53 : decode cM_map 53 = .ok (.iload 6, 2) := by decide +kernel
theorem dM_map_55 : decode cM_map 55 = .ok (.iload 5, 2) := by decide +kernel
theorem dM_map_57 : decode cM_map 57 = .ok (.iadd, 1) := by decide +kernel
theorem dM_map_58 : decode cM_map 58 = .ok (.iload_n 1, 1) := by decide +kernel
theorem dM_map_59 : decode cM_map 59 = .ok (.bipush 10, 2) := by decide +kernel
theorem dM_map_61 : decode cM_map 61 = .ok (.ishr, 1) := by decide +kernel
theorem dM_map_62 : decode cM_map 62 = .ok (.bipush 10, 2) := by decide +kernel
theorem dM_map_64 : decode cM_map 64 = .ok (.ishl, 1) := by decide +kernel
theorem dM_map_65 : decode cM_map 65 = .ok (.iconst 1, 1) := by decide +kernel
theorem dM_map_66 : decode cM_map 66 = .ok (.ior, 1) := by decide +kernel
theorem dM_map_67 : decode cM_map 67 = .ok (.iastore, 1) := by decide +kernel
theorem dM_map_68 : decode cM_map 68 = .ok (.aload_n 0, 1) := by decide +kernel
theorem dM_map_69 : decode cM_map 69 = .ok (.getfield 14, 3) := by decide +kernel
theorem dM_map_72 : decode cM_map 72 = .ok (.iload 6, 2) := by decide +kernel
theorem dM_map_74 : decode cM_map 74 = .ok (.bipush 8, 2) := by decide +kernel
theorem dM_map_76 : decode cM_map 76 = .ok (.iadd, 1) := by decide +kernel
theorem dM_map_77 : decode cM_map 77 = .ok (.iload 5, 2) := by decide +kernel
theorem dM_map_79 : decode cM_map 79 = .ok (.iadd, 1) := by decide +kernel
theorem dM_map_80 : decode cM_map 80 = .ok (.sipush 1024, 3) := by decide +kernel
theorem dM_map_83 : decode cM_map 83 = .ok (.iload_n 2, 1) := by decide +kernel
theorem dM_map_84 : decode cM_map 84 = .ok (.imul, 1) := by decide +kernel
theorem dM_map_85 : decode cM_map 85 = .ok (.iload_n 3, 1) := by decide +kernel
theorem dM_map_86 : decode cM_map 86 = .ok (.iadd, 1) := by decide +kernel
theorem dM_map_87 : decode cM_map 87 = .ok (.iastore, 1) := by decide +kernel
theorem dM_map_88 : decode cM_map 88 = .ok (.iload 5, 2) := by decide +kernel
theorem dM_map_90 : decode cM_map 90 = .ok (.ireturn, 1) := by decide +kernel
theorem dM_matched_0 : decode cM_matched 0 = .ok (.iconst 0, 1) := by decide +kernel
theorem dM_matched_1 : decode cM_matched 1 = .ok (.istore_n 2, 1) := by decide +kernel
theorem dM_matched_2 : decode cM_matched 2 = .ok (.iconst 0, 1) := by decide +kernel
theorem dM_matched_3 : decode cM_matched 3 = .ok (.istore_n 3, 1) := by decide +kernel
theorem dM_matched_4 : decode cM_matched 4 = .ok (.iload_n 3, 1) := by decide +kernel
theorem dM_matched_5 : decode cM_matched 5 = .ok (.bipush 8, 2) := by decide +kernel
theorem dM_matched_7 : decode cM_matched 7 = .ok (.if_icmp .ge 22, 3) := by decide +kernel
theorem dM_matched_10 : decode cM_matched 10 = .ok (.iload_n 2, 1) := by decide +kernel
theorem dM_matched_11 : decode cM_matched 11 = .ok (.aload_n 0, 1) := by decide +kernel
theorem dM_matched_12 : decode cM_matched 12 = .ok (.getfield 14, 3) := by decide +kernel
theorem dM_matched_15 : decode cM_matched 15 = .ok (.iload_n 1, 1) := by decide +kernel
theorem dM_matched_16 : decode cM_matched 16 = .ok (.iload_n 3, 1) := by decide +kernel
theorem dM_matched_17 : decode cM_matched 17 = .ok (.iadd, 1) := by decide +kernel
theorem dM_matched_18 : decode cM_matched 18 = .ok (.iaload, 1) := by decide +kernel
theorem dM_matched_19 : decode cM_matched 19 = .ok (.iconst 1, 1) := by decide +kernel
theorem dM_matched_20 : decode cM_matched 20 = .ok (.iand, 1) := by decide +kernel
theorem dM_matched_21 : decode cM_matched 21 = .ok (.iadd, 1) := by decide +kernel
theorem dM_matched_22 : decode cM_matched 22 = .ok (.istore_n 2, 1) := by decide +kernel
theorem dM_matched_23 : decode cM_matched 23 = .ok (.iinc 3 1, 3) := by decide +kernel
theorem dM_matched_26 : decode cM_matched 26 = .ok (.goto (-22), 3) := by decide +kernel
theorem dM_matched_29 : decode cM_matched 29 = .ok (.iload_n 2, 1) := by decide +kernel
theorem dM_matched_30 : decode cM_matched 30 = .ok (.ireturn, 1) := by decide +kernel
set_option maxRecDepth 20000 in
theorem gM_forget_M_matched : GoodIn wsM_forget (wsV RX2 79 RX2 yM_matched wsM_matched) := goodIn_app (goodIn_of _ (by decide +kernel)) (goodIn_r _ [7, 2, 8, 9, 10, 11, 12, 13, 14, 15, 16, 17] (by decide +kernel) (by decide +kernel))
theorem dM_forget_0 : decode cM_forget 0 = .ok (.aload_n 0, 1) := by decide +kernel
theorem dM_forget_1 : decode cM_forget 1 = .ok (.iconst 0, 1) := by decide +kernel
theorem dM_forget_2 : decode cM_forget 2 = .ok (.putfield 17, 3) := by decide +kernel
theorem dM_forget_5 : decode cM_forget 5 = .ok (.iload_n 1, 1) := by decide +kernel
theorem dM_forget_6 : decode cM_forget 6 = .ok (.ifCond .eq 8, 3) := by decide +kernel
theorem dM_forget_9 : decode cM_forget 9 = .ok (.bipush 16, 2) := by decide +kernel
theorem dM_forget_11 : decode cM_forget 11 = .ok (.goto 4, 3) := by decide +kernel
theorem dM_forget_14 : decode cM_forget 14 = .ok (.iconst 0, 1) := by decide +kernel
theorem dM_forget_15 : decode cM_forget 15 = .ok (.istore_n 2, 1) := by decide +kernel
theorem dM_forget_16 : decode cM_forget 16 = .ok (.aload_n 0, 1) := by decide +kernel
theorem dM_forget_17 : decode cM_forget 17 = .ok (.iload_n 2, 1) := by decide +kernel
theorem dM_forget_18 : decode cM_forget 18 = .ok (.invokevirtual 79, 3) := by decide +kernel
theorem dM_forget_21 : decode cM_forget 21 = .ok (.istore_n 3, 1) := by decide +kernel
theorem dM_forget_22 : decode cM_forget 22 = .ok (.iconst 0, 1) := by decide +kernel
theorem dM_forget_23 : decode cM_forget 23 = .ok (.istore 4, 2) := by decide +kernel
theorem dM_forget_25 : decode cM_forget 25 = .ok (.iload 4, 2) := by decide +kernel
theorem dM_forget_27 : decode cM_forget 27 = .ok (.bipush 8, 2) := by decide +kernel
theorem dM_forget_29 : decode cM_forget 29 = .ok (.if_icmp .ge 32, 3) := by decide +kernel
theorem dM_forget_32 : decode cM_forget 32 = .ok (.aload_n 0, 1) := by decide +kernel
theorem dM_forget_33 : decode cM_forget 33 = .ok (.getfield 14, 3) := by decide +kernel
theorem dM_forget_36 : decode cM_forget 36 = .ok (.iload_n 2, 1) := by decide +kernel
theorem dM_forget_37 : decode cM_forget 37 = .ok (.iload 4, 2) := by decide +kernel
theorem dM_forget_39 : decode cM_forget 39 = .ok (.iadd, 1) := by decide +kernel
theorem dM_forget_40 : decode cM_forget 40 = .ok (.dup2, 1) := by decide +kernel
theorem dM_forget_41 : decode cM_forget 41 = .ok (.iaload, 1) := by decide +kernel
theorem dM_forget_42 : decode cM_forget 42 = .ok (.aload_n 0, 1) := by decide +kernel
theorem dM_forget_43 : decode cM_forget 43 = .ok (.getfield 14, 3) := by decide +kernel
theorem dM_forget_46 : decode cM_forget 46 = .ok (.iload_n 2, 1) := by decide +kernel
theorem dM_forget_47 : decode cM_forget 47 = .ok (.iload 4, 2) := by decide +kernel
theorem dM_forget_49 : decode cM_forget 49 = .ok (.iadd, 1) := by decide +kernel
theorem dM_forget_50 : decode cM_forget 50 = .ok (.iaload, 1) := by decide +kernel
theorem dM_forget_51 : decode cM_forget 51 = .ok (.iconst 1, 1) := by decide +kernel
theorem dM_forget_52 : decode cM_forget 52 = .ok (.iand, 1) := by decide +kernel
theorem dM_forget_53 : decode cM_forget 53 = .ok (.isub, 1) := by decide +kernel
theorem dM_forget_54 : decode cM_forget 54 = .ok (.iastore, 1) := by decide +kernel
theorem dM_forget_55 : decode cM_forget 55 = .ok (.iinc 4 1, 3) := by decide +kernel
theorem dM_forget_58 : decode cM_forget 58 = .ok (.goto (-33), 3) := by decide +kernel
theorem dM_forget_61 : decode cM_forget 61 = .ok (.iload_n 3, 1) := by decide +kernel
theorem dM_forget_62 : decode cM_forget 62 = .ok (.ireturn, 1) := by decide +kernel
theorem dM_special_0 : decode cM_special 0 = .ok (.aload_n 0, 1) := by decide +kernel
theorem dM_special_1 : decode cM_special 1 = .ok (.iconst 0, 1) := by decide +kernel
theorem dM_special_2 : decode cM_special 2 = .ok (.putfield 17, 3) := by decide +kernel
theorem dM_special_5 : decode cM_special 5 = .ok (.iload_n 1, 1) := by decide +kernel
theorem dM_special_6 : decode cM_special 6 = .ok (.ifCond .lt 9, 3) := by decide +kernel
theorem dM_special_9 : decode cM_special 9 = .ok (.iload_n 1, 1) := by decide +kernel
theorem dM_special_10 : decode cM_special 10 = .ok (.bipush 32, 2) := by decide +kernel
theorem dM_special_12 : decode cM_special 12 = .ok (.if_icmp .le 7, 3) := by decide +kernel
theorem dM_special_15 : decode cM_special 15 = .ok (.iconst 0, 1) := by decide +kernel
theorem dM_special_16 : decode cM_special 16 = .ok (.goto 9, 3) := by decide +kernel
theorem dM_special_19 : decode cM_special 19 = .ok (.aload_n 0, 1) := by decide +kernel
theorem dM_special_20 : decode cM_special 20 = .ok (.getfield 14, 3) := by decide +kernel
theorem dM_special_23 : decode cM_special 23 = .ok (.iload_n 1, 1) := by decide +kernel
theorem dM_special_24 : decode cM_special 24 = .ok (.iaload, 1) := by decide +kernel
theorem dM_special_25 : decode cM_special 25 = .ok (.ireturn, 1) := by decide +kernel
set_option maxRecDepth 20000 in
theorem gM_word_M_isWordPlace : GoodIn wsM_word (va_wsS RX2 21 yM_isWordPlace wsM_isWordPlace) := goodIn_app (goodIn_of _ (by decide +kernel)) (goodIn_r _ [5, 6] (by decide +kernel) (by decide +kernel))
set_option maxRecDepth 20000 in
theorem gM_word_M_wordIn : GoodIn wsM_word (wsV RX2 69 RX2 yM_wordIn wsM_wordIn) := goodIn_app (goodIn_of _ (by decide +kernel)) (goodIn_r _ [10, 11, 12, 13, 14, 15, 16, 17, 18, 19, 20, 21] (by decide +kernel) (by decide +kernel))
theorem dM_word_0 : decode cM_word 0 = .ok (.aload_n 0, 1) := by decide +kernel
theorem dM_word_1 : decode cM_word 1 = .ok (.iconst 0, 1) := by decide +kernel
theorem dM_word_2 : decode cM_word 2 = .ok (.putfield 17, 3) := by decide +kernel
theorem dM_word_5 : decode cM_word 5 = .ok (.iload_n 1, 1) := by decide +kernel
theorem dM_word_6 : decode cM_word 6 = .ok (.invokestatic 21, 3) := by decide +kernel
theorem dM_word_9 : decode cM_word 9 = .ok (.ifCond .eq 11, 3) := by decide +kernel
theorem dM_word_12 : decode cM_word 12 = .ok (.aload_n 0, 1) := by decide +kernel
theorem dM_word_13 : decode cM_word 13 = .ok (.iload_n 1, 1) := by decide +kernel
theorem dM_word_14 : decode cM_word 14 = .ok (.invokevirtual 69, 3) := by decide +kernel
theorem dM_word_17 : decode cM_word 17 = .ok (.goto 4, 3) := by decide +kernel
theorem dM_word_20 : decode cM_word 20 = .ok (.iconst 0, 1) := by decide +kernel
theorem dM_word_21 : decode cM_word 21 = .ok (.ireturn, 1) := by decide +kernel
set_option maxRecDepth 20000 in
theorem gM_look_M_matched : GoodIn wsM_look (wsV RX2 79 RX2 yM_matched wsM_matched) := goodIn_app (goodIn_of _ (by decide +kernel)) (goodIn_r _ [12, 13, 14, 15, 16, 17, 18, 19, 20, 21, 22, 23] (by decide +kernel) (by decide +kernel))
theorem dM_look_0 : decode cM_look 0 = .ok (.aload_n 0, 1) := by decide +kernel
theorem dM_look_1 : decode cM_look 1 = .ok (.iconst 0, 1) := by decide +kernel
theorem dM_look_2 : decode cM_look 2 = .ok (.putfield 17, 3) := by decide +kernel
theorem dM_look_5 : decode cM_look 5 = .ok (.iload_n 1, 1) := by decide +kernel
theorem dM_look_6 : decode cM_look 6 = .ok (.tableswitch 89 0 7 #[46, 51, 56, 61, 66, 71, 76, 82], 46) := by decide +kernel
theorem dM_look_52 : decode cM_look 52 = .ok (.aload_n 0, 1) := by decide +kernel
theorem dM_look_53 : decode cM_look 53 = .ok (.getfield 53, 3) := by decide +kernel
theorem dM_look_56 : decode cM_look 56 = .ok (.ireturn, 1) := by decide +kernel
theorem dM_look_57 : decode cM_look 57 = .ok (.aload_n 0, 1) := by decide +kernel
theorem dM_look_58 : decode cM_look 58 = .ok (.getfield 56, 3) := by decide +kernel
theorem dM_look_61 : decode cM_look 61 = .ok (.ireturn, 1) := by decide +kernel
theorem dM_look_62 : decode cM_look 62 = .ok (.aload_n 0, 1) := by decide +kernel
theorem dM_look_63 : decode cM_look 63 = .ok (.getfield 59, 3) := by decide +kernel
theorem dM_look_66 : decode cM_look 66 = .ok (.ireturn, 1) := by decide +kernel
theorem dM_look_67 : decode cM_look 67 = .ok (.aload_n 0, 1) := by decide +kernel
theorem dM_look_68 : decode cM_look 68 = .ok (.getfield 66, 3) := by decide +kernel
theorem dM_look_71 : decode cM_look 71 = .ok (.ireturn, 1) := by decide +kernel
theorem dM_look_72 : decode cM_look 72 = .ok (.aload_n 0, 1) := by decide +kernel
theorem dM_look_73 : decode cM_look 73 = .ok (.getfield 73, 3) := by decide +kernel
theorem dM_look_76 : decode cM_look 76 = .ok (.ireturn, 1) := by decide +kernel
theorem dM_look_77 : decode cM_look 77 = .ok (.aload_n 0, 1) := by decide +kernel
theorem dM_look_78 : decode cM_look 78 = .ok (.getfield 76, 3) := by decide +kernel
theorem dM_look_81 : decode cM_look 81 = .ok (.ireturn, 1) := by decide +kernel
theorem dM_look_82 : decode cM_look 82 = .ok (.aload_n 0, 1) := by decide +kernel
theorem dM_look_83 : decode cM_look 83 = .ok (.iconst 0, 1) := by decide +kernel
theorem dM_look_84 : decode cM_look 84 = .ok (.invokevirtual 79, 3) := by decide +kernel
theorem dM_look_87 : decode cM_look 87 = .ok (.ireturn, 1) := by decide +kernel
theorem dM_look_88 : decode cM_look 88 = .ok (.aload_n 0, 1) := by decide +kernel
theorem dM_look_89 : decode cM_look 89 = .ok (.bipush 16, 2) := by decide +kernel
theorem dM_look_91 : decode cM_look 91 = .ok (.invokevirtual 79, 3) := by decide +kernel
theorem dM_look_94 : decode cM_look 94 = .ok (.ireturn, 1) := by decide +kernel
theorem dM_look_95 : decode cM_look 95 = .ok (.iconst (-1), 1) := by decide +kernel
theorem dM_look_96 : decode cM_look 96 = .ok (.ireturn, 1) := by decide +kernel
