abbrev cM_push : ByteArray := prog_8_method_67_code
def yM_push : MethodName := ⟨"BitNumbersModel", "push", "(IJ)I"⟩
def wsM_push : List Cond := .code yM_push cM_push 4 (some .int) :: aw
abbrev cM_pop : ByteArray := prog_8_method_68_code
def yM_pop : MethodName := ⟨"BitNumbersModel", "pop", "()J"⟩
def wsM_pop : List Cond := .code yM_pop cM_pop 1 (some .long) :: aw
abbrev cM_apply : ByteArray := prog_8_method_69_code
def yM_apply : MethodName := ⟨"BitNumbersModel", "apply", "(I)I"⟩
def wsM_apply : List Cond := .code yM_apply cM_apply 12 (some .int) :: aw
abbrev cM_operator : ByteArray := prog_8_method_71_code
def yM_operator : MethodName := ⟨"BitNumbersModel", "operator", "(II)I"⟩
def wsM_operator : List Cond := .code yM_operator cM_operator 4 (some .int) :: aw
abbrev cM_isThere : ByteArray := prog_8_method_72_code
def yM_isThere : MethodName := ⟨"BitNumbersModel", "isThere", "(I)Z"⟩
def wsM_isThere : List Cond := .code yM_isThere cM_isThere 2 (some .boolean) :: aw
abbrev cM_type : ByteArray := prog_8_method_73_code
def yM_type : MethodName := ⟨"BitNumbersModel", "type", "(I)I"⟩
def wsM_type : List Cond := .code yM_type cM_type 2 (some .int) :: aw
abbrev cM_bits : ByteArray := prog_8_method_74_code
def yM_bits : MethodName := ⟨"BitNumbersModel", "bits", "(I)J"⟩
def wsM_bits : List Cond := .code yM_bits cM_bits 2 (some .long) :: aw
abbrev cM_parts : ByteArray := prog_8_method_75_code
def yM_parts : MethodName := ⟨"BitNumbersModel", "parts", "(II)I"⟩
def wsM_parts : List Cond := .code yM_parts cM_parts 6 (some .int) :: aw
abbrev cM_copy : ByteArray := prog_8_method_76_code
def yM_copy : MethodName := ⟨"BitNumbersModel", "copy", "(I)I"⟩
def wsM_copy : List Cond := .code yM_copy cM_copy 2 (some .int) :: aw
abbrev cM_clear : ByteArray := prog_8_method_77_code
def yM_clear : MethodName := ⟨"BitNumbersModel", "clear", "()I"⟩
def wsM_clear : List Cond := .code yM_clear cM_clear 2 (some .int) :: aw
abbrev rmM_push : Room := { frames := 1, cells := 0, slots := 0, locals := 22 }
abbrev rmM_pop : Room := { frames := 0, cells := 0, slots := 0, locals := 0 }
abbrev rmM_apply : Room := { frames := 9, cells := 0, slots := 0, locals := 248 }
abbrev rmM_operator : Room := { frames := 2, cells := 0, slots := 0, locals := 42 }
abbrev rmM_isThere : Room := { frames := 0, cells := 0, slots := 0, locals := 0 }
abbrev rmM_type : Room := { frames := 1, cells := 0, slots := 0, locals := 21 }
abbrev rmM_bits : Room := { frames := 1, cells := 0, slots := 0, locals := 21 }
abbrev rmM_parts : Room := { frames := 5, cells := 0, slots := 0, locals := 106 }
abbrev rmM_copy : Room := { frames := 1, cells := 0, slots := 0, locals := 21 }
abbrev rmM_clear : Room := { frames := 0, cells := 0, slots := 0, locals := 0 }
theorem w_4 : (Cond.selects "BitNumbersModel" yM_worked yM_worked) ∈ aw := aw_in 4 (by decide +kernel) (by decide +kernel)
theorem w_31 : (Cond.selects "BitNumbersModel" yM_isThere yM_isThere) ∈ aw := aw_in 31 (by decide +kernel) (by decide +kernel)
theorem w_489 : (Cond.fieldLink "BitNumbersModel" 280 "BitNumbersModel" "count" "I") ∈ aw := aw_in 489 (by decide +kernel) (by decide +kernel)
theorem w_490 : (Cond.fieldLink "BitNumbersModel" 7 "BitNumbersModel" "types" "[I") ∈ aw := aw_in 490 (by decide +kernel) (by decide +kernel)
theorem w_491 : (Cond.fieldLink "BitNumbersModel" 13 "BitNumbersModel" "values" "[J") ∈ aw := aw_in 491 (by decide +kernel) (by decide +kernel)
theorem w_538 : (Cond.methodLink "BitNumbersModel" 283 yM_cut) ∈ aw := aw_in 538 (by decide +kernel) (by decide +kernel)
theorem w_539 : (Cond.static yM_cut) ∈ aw := aw_in 539 (by decide +kernel) (by decide +kernel)
theorem w_540 : (Cond.code yM_cut cM_cut 3 (some .long)) ∈ aw := aw_in 540 (by decide +kernel) (by decide +kernel)
theorem w_550 : (Cond.methodLink "BitNumbersModel" 286 yM_operatorShape) ∈ aw := aw_in 550 (by decide +kernel) (by decide +kernel)
theorem w_551 : (Cond.static yM_operatorShape) ∈ aw := aw_in 551 (by decide +kernel) (by decide +kernel)
theorem w_552 : (Cond.code yM_operatorShape cM_operatorShape 1 (some .int)) ∈ aw := aw_in 552 (by decide +kernel) (by decide +kernel)
theorem w_562 : (Cond.methodLink "BitNumbersModel" 289 yM_worked) ∈ aw := aw_in 562 (by decide +kernel) (by decide +kernel)
theorem w_564 : (Cond.instanceMethod yM_worked) ∈ aw := aw_in 564 (by decide +kernel) (by decide +kernel)
theorem w_565 : (Cond.code yM_worked cM_worked 7 (some .long)) ∈ aw := aw_in 565 (by decide +kernel) (by decide +kernel)
theorem w_786 : (Cond.methodLink "BitNumbersModel" 292 yM_isThere) ∈ aw := aw_in 786 (by decide +kernel) (by decide +kernel)
theorem w_788 : (Cond.instanceMethod yM_isThere) ∈ aw := aw_in 788 (by decide +kernel) (by decide +kernel)
theorem w_789 : (Cond.code yM_isThere cM_isThere 2 (some .boolean)) ∈ aw := aw_in 789 (by decide +kernel) (by decide +kernel)
theorem dM_push_0 : decode cM_push 0 = .ok (.aload_n 0, 1) := by decide +kernel
theorem dM_push_1 : decode cM_push 1 = .ok (.iconst 0, 1) := by decide +kernel
theorem dM_push_2 : decode cM_push 2 = .ok (.putfield 26, 3) := by decide +kernel
theorem dM_push_5 : decode cM_push 5 = .ok (.iload_n 1, 1) := by decide +kernel
theorem dM_push_6 : decode cM_push 6 = .ok (.ifCond .lt 17, 3) := by decide +kernel
theorem dM_push_9 : decode cM_push 9 = .ok (.iload_n 1, 1) := by decide +kernel
theorem dM_push_10 : decode cM_push 10 = .ok (.iconst 3, 1) := by decide +kernel
theorem dM_push_11 : decode cM_push 11 = .ok (.if_icmp .gt 12, 3) := by decide +kernel
theorem dM_push_14 : decode cM_push 14 = .ok (.aload_n 0, 1) := by decide +kernel
theorem dM_push_15 : decode cM_push 15 = .ok (.getfield 280, 3) := by decide +kernel
theorem dM_push_18 : decode cM_push 18 = .ok (.bipush 64, 2) := by decide +kernel
theorem dM_push_20 : decode cM_push 20 = .ok (.if_icmp .ne 5, 3) := by decide +kernel
theorem dM_push_23 : decode cM_push 23 = .ok (.iconst (-1), 1) := by decide +kernel
theorem dM_push_24 : decode cM_push 24 = .ok (.ireturn, 1) := by decide +kernel
theorem dM_push_25 : decode cM_push 25 = .ok (.aload_n 0, 1) := by decide +kernel
theorem dM_push_26 : decode cM_push 26 = .ok (.getfield 7, 3) := by decide +kernel
theorem dM_push_29 : decode cM_push 29 = .ok (.aload_n 0, 1) := by decide +kernel
theorem dM_push_30 : decode cM_push 30 = .ok (.getfield 280, 3) := by decide +kernel
theorem dM_push_33 : decode cM_push 33 = .ok (.iload_n 1, 1) := by decide +kernel
theorem dM_push_34 : decode cM_push 34 = .ok (.iastore, 1) := by decide +kernel
theorem dM_push_35 : decode cM_push 35 = .ok (.aload_n 0, 1) := by decide +kernel
theorem dM_push_36 : decode cM_push 36 = .ok (.getfield 13, 3) := by decide +kernel
theorem dM_push_39 : decode cM_push 39 = .ok (.aload_n 0, 1) := by decide +kernel
theorem dM_push_40 : decode cM_push 40 = .ok (.getfield 280, 3) := by decide +kernel
theorem dM_push_43 : decode cM_push 43 = .ok (.iload_n 1, 1) := by decide +kernel
theorem dM_push_44 : decode cM_push 44 = .ok (.lload_n 2, 1) := by decide +kernel
theorem dM_push_45 : decode cM_push 45 = .ok (.invokestatic 283, 3) := by decide +kernel
theorem dM_push_48 : decode cM_push 48 = .ok (.lastore, 1) := by decide +kernel
theorem dM_push_49 : decode cM_push 49 = .ok (.aload_n 0, 1) := by decide +kernel
theorem dM_push_50 : decode cM_push 50 = .ok (.dup, 1) := by decide +kernel
theorem dM_push_51 : decode cM_push 51 = .ok (.getfield 280, 3) := by decide +kernel
theorem dM_push_54 : decode cM_push 54 = .ok (.iconst 1, 1) := by decide +kernel
theorem dM_push_55 : decode cM_push 55 = .ok (.iadd, 1) := by decide +kernel
theorem dM_push_56 : decode cM_push 56 = .ok (.putfield 280, 3) := by decide +kernel
theorem dM_push_59 : decode cM_push 59 = .ok (.aload_n 0, 1) := by decide +kernel
theorem dM_push_60 : decode cM_push 60 = .ok (.getfield 280, 3) := by decide +kernel
theorem dM_push_63 : decode cM_push 63 = .ok (.ireturn, 1) := by decide +kernel
theorem dM_pop_0 : decode cM_pop 0 = .ok (.aload_n 0, 1) := by decide +kernel
theorem dM_pop_1 : decode cM_pop 1 = .ok (.aload_n 0, 1) := by decide +kernel
theorem dM_pop_2 : decode cM_pop 2 = .ok (.getfield 280, 3) := by decide +kernel
theorem dM_pop_5 : decode cM_pop 5 = .ok (.ifCond .ne 7, 3) := by decide +kernel
theorem dM_pop_8 : decode cM_pop 8 = .ok (.iconst 1, 1) := by decide +kernel
theorem dM_pop_9 : decode cM_pop 9 = .ok (.goto 4, 3) := by decide +kernel
theorem dM_pop_12 : decode cM_pop 12 = .ok (.iconst 0, 1) := by decide +kernel
theorem dM_pop_13 : decode cM_pop 13 = .ok (.putfield 26, 3) := by decide +kernel
theorem dM_pop_16 : decode cM_pop 16 = .ok (.aload_n 0, 1) := by decide +kernel
theorem dM_pop_17 : decode cM_pop 17 = .ok (.getfield 280, 3) := by decide +kernel
theorem dM_pop_20 : decode cM_pop 20 = .ok (.ifCond .ne 5, 3) := by decide +kernel
theorem dM_pop_23 : decode cM_pop 23 = .ok (.lconst 0, 1) := by decide +kernel
theorem dM_pop_24 : decode cM_pop 24 = .ok (.lreturn, 1) := by decide +kernel
theorem dM_pop_25 : decode cM_pop 25 = .ok (.aload_n 0, 1) := by decide +kernel
theorem dM_pop_26 : decode cM_pop 26 = .ok (.dup, 1) := by decide +kernel
theorem dM_pop_27 : decode cM_pop 27 = .ok (.getfield 280, 3) := by decide +kernel
theorem dM_pop_30 : decode cM_pop 30 = .ok (.iconst 1, 1) := by decide +kernel
theorem dM_pop_31 : decode cM_pop 31 = .ok (.isub, 1) := by decide +kernel
theorem dM_pop_32 : decode cM_pop 32 = .ok (.putfield 280, 3) := by decide +kernel
theorem dM_pop_35 : decode cM_pop 35 = .ok (.aload_n 0, 1) := by decide +kernel
theorem dM_pop_36 : decode cM_pop 36 = .ok (.getfield 13, 3) := by decide +kernel
theorem dM_pop_39 : decode cM_pop 39 = .ok (.aload_n 0, 1) := by decide +kernel
theorem dM_pop_40 : decode cM_pop 40 = .ok (.getfield 280, 3) := by decide +kernel
theorem dM_pop_43 : decode cM_pop 43 = .ok (.laload, 1) := by decide +kernel
theorem dM_pop_44 : decode cM_pop 44 = .ok (.lreturn, 1) := by decide +kernel
theorem dM_apply_0 : decode cM_apply 0 = .ok (.aload_n 0, 1) := by decide +kernel
theorem dM_apply_1 : decode cM_apply 1 = .ok (.iconst 0, 1) := by decide +kernel
theorem dM_apply_2 : decode cM_apply 2 = .ok (.putfield 59, 3) := by decide +kernel
theorem dM_apply_5 : decode cM_apply 5 = .ok (.iload_n 1, 1) := by decide +kernel
theorem dM_apply_6 : decode cM_apply 6 = .ok (.invokestatic 286, 3) := by decide +kernel
theorem dM_apply_9 : decode cM_apply 9 = .ok (.istore_n 2, 1) := by decide +kernel
theorem dM_apply_10 : decode cM_apply 10 = .ok (.aload_n 0, 1) := by decide +kernel
theorem dM_apply_11 : decode cM_apply 11 = .ok (.iload_n 2, 1) := by decide +kernel
theorem dM_apply_12 : decode cM_apply 12 = .ok (.ifCond .ge 7, 3) := by decide +kernel
theorem dM_apply_15 : decode cM_apply 15 = .ok (.iconst 1, 1) := by decide +kernel
theorem dM_apply_16 : decode cM_apply 16 = .ok (.goto 4, 3) := by decide +kernel
theorem dM_apply_19 : decode cM_apply 19 = .ok (.iconst 0, 1) := by decide +kernel
theorem dM_apply_20 : decode cM_apply 20 = .ok (.putfield 26, 3) := by decide +kernel
theorem dM_apply_23 : decode cM_apply 23 = .ok (.iload_n 2, 1) := by decide +kernel
theorem dM_apply_24 : decode cM_apply 24 = .ok (.ifCond .ge 5, 3) := by decide +kernel
theorem dM_apply_27 : decode cM_apply 27 = .ok (.iconst 0, 1) := by decide +kernel
theorem dM_apply_28 : decode cM_apply 28 = .ok (.ireturn, 1) := by decide +kernel
theorem dM_apply_29 : decode cM_apply 29 = .ok (.iload_n 2, 1) := by decide +kernel
theorem dM_apply_30 : decode cM_apply 30 = .ok (.bipush 16, 2) := by decide +kernel
theorem dM_apply_32 : decode cM_apply 32 = .ok (.idiv, 1) := by decide +kernel
theorem dM_apply_33 : decode cM_apply 33 = .ok (.istore_n 3, 1) := by decide +kernel
theorem dM_apply_34 : decode cM_apply 34 = .ok (.iload_n 2, 1) := by decide +kernel
theorem dM_apply_35 : decode cM_apply 35 = .ok (.iconst 4, 1) := by decide +kernel
theorem dM_apply_36 : decode cM_apply 36 = .ok (.idiv, 1) := by decide +kernel
theorem dM_apply_37 : decode cM_apply 37 = .ok (.iconst 4, 1) := by decide +kernel
theorem dM_apply_38 : decode cM_apply 38 = .ok (.irem, 1) := by decide +kernel
theorem dM_apply_39 : decode cM_apply 39 = .ok (.istore 4, 2) := by decide +kernel
theorem dM_apply_41 : decode cM_apply 41 = .ok (.aload_n 0, 1) := by decide +kernel
theorem dM_apply_42 : decode cM_apply 42 = .ok (.getfield 280, 3) := by decide +kernel
theorem dM_apply_45 : decode cM_apply 45 = .ok (.iload_n 3, 1) := by decide +kernel
theorem dM_apply_46 : decode cM_apply 46 = .ok (.if_icmp .lt 44, 3) := by decide +kernel
theorem dM_apply_49 : decode cM_apply 49 = .ok (.aload_n 0, 1) := by decide +kernel
theorem dM_apply_50 : decode cM_apply 50 = .ok (.getfield 7, 3) := by decide +kernel
theorem dM_apply_53 : decode cM_apply 53 = .ok (.aload_n 0, 1) := by decide +kernel
theorem dM_apply_54 : decode cM_apply 54 = .ok (.getfield 280, 3) := by decide +kernel
theorem dM_apply_57 : decode cM_apply 57 = .ok (.iconst 1, 1) := by decide +kernel
theorem dM_apply_58 : decode cM_apply 58 = .ok (.isub, 1) := by decide +kernel
theorem dM_apply_59 : decode cM_apply 59 = .ok (.iaload, 1) := by decide +kernel
theorem dM_apply_60 : decode cM_apply 60 = .ok (.iload 4, 2) := by decide +kernel
theorem dM_apply_62 : decode cM_apply 62 = .ok (.if_icmp .ne 28, 3) := by decide +kernel
theorem dM_apply_65 : decode cM_apply 65 = .ok (.iload_n 3, 1) := by decide +kernel
theorem dM_apply_66 : decode cM_apply 66 = .ok (.iconst 1, 1) := by decide +kernel
theorem dM_apply_67 : decode cM_apply 67 = .ok (.if_icmp .eq 19, 3) := by decide +kernel
theorem dM_apply_70 : decode cM_apply 70 = .ok (.aload_n 0, 1) := by decide +kernel
theorem dM_apply_71 : decode cM_apply 71 = .ok (.getfield 7, 3) := by decide +kernel
theorem dM_apply_74 : decode cM_apply 74 = .ok (.aload_n 0, 1) := by decide +kernel
theorem dM_apply_75 : decode cM_apply 75 = .ok (.getfield 280, 3) := by decide +kernel
theorem dM_apply_78 : decode cM_apply 78 = .ok (.iconst 2, 1) := by decide +kernel
theorem dM_apply_79 : decode cM_apply 79 = .ok (.isub, 1) := by decide +kernel
theorem dM_apply_80 : decode cM_apply 80 = .ok (.iaload, 1) := by decide +kernel
theorem dM_apply_81 : decode cM_apply 81 = .ok (.iload 4, 2) := by decide +kernel
theorem dM_apply_83 : decode cM_apply 83 = .ok (.if_icmp .ne 7, 3) := by decide +kernel
theorem dM_apply_86 : decode cM_apply 86 = .ok (.iconst 1, 1) := by decide +kernel
theorem dM_apply_87 : decode cM_apply 87 = .ok (.goto 4, 3) := by decide +kernel
theorem dM_apply_90 : decode cM_apply 90 = .ok (.iconst 0, 1) := by decide +kernel
theorem dM_apply_91 : decode cM_apply 91 = .ok (.istore 5, 2) := by decide +kernel
theorem dM_apply_93 : decode cM_apply 93 = .ok (.aload_n 0, 1) := by decide +kernel
theorem dM_apply_94 : decode cM_apply 94 = .ok (.iload 5, 2) := by decide +kernel
theorem dM_apply_96 : decode cM_apply 96 = .ok (.ifCond .eq 7, 3) := by decide +kernel
theorem dM_apply_99 : decode cM_apply 99 = .ok (.iconst 0, 1) := by decide +kernel
theorem dM_apply_100 : decode cM_apply 100 = .ok (.goto 4, 3) := by decide +kernel
theorem dM_apply_103 : decode cM_apply 103 = .ok (.iconst 2, 1) := by decide +kernel
theorem dM_apply_104 : decode cM_apply 104 = .ok (.putfield 26, 3) := by decide +kernel
theorem dM_apply_107 : decode cM_apply 107 = .ok (.iload 5, 2) := by decide +kernel
theorem dM_apply_109 : decode cM_apply 109 = .ok (.ifCond .ne 5, 3) := by decide +kernel
theorem dM_apply_112 : decode cM_apply 112 = .ok (.iconst 0, 1) := by decide +kernel
theorem dM_apply_113 : decode cM_apply 113 = .ok (.ireturn, 1) := by decide +kernel
theorem dM_apply_114 : decode cM_apply 114 = .ok (.aload_n 0, 1) := by decide +kernel
theorem dM_apply_115 : decode cM_apply 115 = .ok (.getfield 13, 3) := by decide +kernel
theorem dM_apply_118 : decode cM_apply 118 = .ok (.aload_n 0, 1) := by decide +kernel
theorem dM_apply_119 : decode cM_apply 119 = .ok (.getfield 280, 3) := by decide +kernel
theorem dM_apply_122 : decode cM_apply 122 = .ok (.iload_n 3, 1) := by decide +kernel
theorem dM_apply_123 : decode cM_apply 123 = .ok (.isub, 1) := by decide +kernel
theorem dM_apply_124 : decode cM_apply 124 = .ok (.laload, 1) := by decide +kernel
theorem dM_apply_125 : decode cM_apply 125 = .ok (.lstore 6, 2) := by decide +kernel
theorem dM_apply_127 : decode cM_apply 127 = .ok (.aload_n 0, 1) := by decide +kernel
theorem dM_apply_128 : decode cM_apply 128 = .ok (.getfield 13, 3) := by decide +kernel
theorem dM_apply_131 : decode cM_apply 131 = .ok (.aload_n 0, 1) := by decide +kernel
theorem dM_apply_132 : decode cM_apply 132 = .ok (.getfield 280, 3) := by decide +kernel
theorem dM_apply_135 : decode cM_apply 135 = .ok (.iconst 1, 1) := by decide +kernel
theorem dM_apply_136 : decode cM_apply 136 = .ok (.isub, 1) := by decide +kernel
theorem dM_apply_137 : decode cM_apply 137 = .ok (.laload, 1) := by decide +kernel
theorem dM_apply_138 : decode cM_apply 138 = .ok (.lstore 8, 2) := by decide +kernel
theorem dM_apply_140 : decode cM_apply 140 = .ok (.aload_n 0, 1) := by decide +kernel
theorem dM_apply_141 : decode cM_apply 141 = .ok (.iload_n 1, 1) := by decide +kernel
theorem dM_apply_142 : decode cM_apply 142 = .ok (.iload 4, 2) := by decide +kernel
theorem dM_apply_144 : decode cM_apply 144 = .ok (.lload 6, 2) := by decide +kernel
theorem dM_apply_146 : decode cM_apply 146 = .ok (.lload 8, 2) := by decide +kernel
theorem dM_apply_148 : decode cM_apply 148 = .ok (.invokevirtual 289, 3) := by decide +kernel
theorem dM_apply_151 : decode cM_apply 151 = .ok (.lstore 10, 2) := by decide +kernel
theorem dM_apply_153 : decode cM_apply 153 = .ok (.aload_n 0, 1) := by decide +kernel
theorem dM_apply_154 : decode cM_apply 154 = .ok (.aload_n 0, 1) := by decide +kernel
theorem dM_apply_155 : decode cM_apply 155 = .ok (.getfield 59, 3) := by decide +kernel
theorem dM_apply_158 : decode cM_apply 158 = .ok (.ifCond .le 7, 3) := by decide +kernel
theorem dM_apply_161 : decode cM_apply 161 = .ok (.iconst 3, 1) := by decide +kernel
theorem dM_apply_162 : decode cM_apply 162 = .ok (.goto 4, 3) := by decide +kernel
theorem dM_apply_165 : decode cM_apply 165 = .ok (.iconst 0, 1) := by decide +kernel
theorem dM_apply_166 : decode cM_apply 166 = .ok (.putfield 26, 3) := by decide +kernel
theorem dM_apply_169 : decode cM_apply 169 = .ok (.aload_n 0, 1) := by decide +kernel
theorem dM_apply_170 : decode cM_apply 170 = .ok (.getfield 59, 3) := by decide +kernel
theorem dM_apply_173 : decode cM_apply 173 = .ok (.ifCond .le 5, 3) := by decide +kernel
theorem dM_apply_176 : decode cM_apply 176 = .ok (.iconst 0, 1) := by decide +kernel
theorem dM_apply_177 : decode cM_apply 177 = .ok (.ireturn, 1) := by decide +kernel
theorem dM_apply_178 : decode cM_apply 178 = .ok (.aload_n 0, 1) := by decide +kernel
theorem dM_apply_179 : decode cM_apply 179 = .ok (.aload_n 0, 1) := by decide +kernel
theorem dM_apply_180 : decode cM_apply 180 = .ok (.getfield 280, 3) := by decide +kernel
theorem dM_apply_183 : decode cM_apply 183 = .ok (.iload_n 3, 1) := by decide +kernel
theorem dM_apply_184 : decode cM_apply 184 = .ok (.isub, 1) := by decide +kernel
theorem dM_apply_185 : decode cM_apply 185 = .ok (.iconst 1, 1) := by decide +kernel
theorem dM_apply_186 : decode cM_apply 186 = .ok (.iadd, 1) := by decide +kernel
theorem dM_apply_187 : decode cM_apply 187 = .ok (.putfield 280, 3) := by decide +kernel
theorem dM_apply_190 : decode cM_apply 190 = .ok (.aload_n 0, 1) := by decide +kernel
theorem dM_apply_191 : decode cM_apply 191 = .ok (.getfield 7, 3) := by decide +kernel
theorem dM_apply_194 : decode cM_apply 194 = .ok (.aload_n 0, 1) := by decide +kernel
theorem dM_apply_195 : decode cM_apply 195 = .ok (.getfield 280, 3) := by decide +kernel
theorem dM_apply_198 : decode cM_apply 198 = .ok (.iconst 1, 1) := by decide +kernel
theorem dM_apply_199 : decode cM_apply 199 = .ok (.isub, 1) := by decide +kernel
theorem dM_apply_200 : decode cM_apply 200 = .ok (.iload_n 2, 1) := by decide +kernel
theorem dM_apply_201 : decode cM_apply 201 = .ok (.iconst 4, 1) := by decide +kernel
theorem dM_apply_202 : decode cM_apply 202 = .ok (.irem, 1) := by decide +kernel
theorem dM_apply_203 : decode cM_apply 203 = .ok (.iastore, 1) := by decide +kernel
theorem dM_apply_204 : decode cM_apply 204 = .ok (.aload_n 0, 1) := by decide +kernel
theorem dM_apply_205 : decode cM_apply 205 = .ok (.getfield 13, 3) := by decide +kernel
theorem dM_apply_208 : decode cM_apply 208 = .ok (.aload_n 0, 1) := by decide +kernel
theorem dM_apply_209 : decode cM_apply 209 = .ok (.getfield 280, 3) := by decide +kernel
theorem dM_apply_212 : decode cM_apply 212 = .ok (.iconst 1, 1) := by decide +kernel
theorem dM_apply_213 : decode cM_apply 213 = .ok (.isub, 1) := by decide +kernel
theorem dM_apply_214 : decode cM_apply 214 = .ok (.iload_n 2, 1) := by decide +kernel
theorem dM_apply_215 : decode cM_apply 215 = .ok (.iconst 4, 1) := by decide +kernel
theorem dM_apply_216 : decode cM_apply 216 = .ok (.irem, 1) := by decide +kernel
theorem dM_apply_217 : decode cM_apply 217 = .ok (.lload 10, 2) := by decide +kernel
theorem dM_apply_219 : decode cM_apply 219 = .ok (.invokestatic 283, 3) := by decide +kernel
theorem dM_apply_222 : decode cM_apply 222 = .ok (.lastore, 1) := by decide +kernel
theorem dM_apply_223 : decode cM_apply 223 = .ok (.iload_n 2, 1) := by decide +kernel
theorem dM_apply_224 : decode cM_apply 224 = .ok (.iconst 4, 1) := by decide +kernel
theorem dM_apply_225 : decode cM_apply 225 = .ok (.irem, 1) := by decide +kernel
theorem dM_apply_226 : decode cM_apply 226 = .ok (.ireturn, 1) := by decide +kernel
theorem dM_operator_0 : decode cM_operator 0 = .ok (.aload_n 0, 1) := by decide +kernel
theorem dM_operator_1 : decode cM_operator 1 = .ok (.iconst 0, 1) := by decide +kernel
theorem dM_operator_2 : decode cM_operator 2 = .ok (.putfield 26, 3) := by decide +kernel
theorem dM_operator_5 : decode cM_operator 5 = .ok (.iload_n 1, 1) := by decide +kernel
theorem dM_operator_6 : decode cM_operator 6 = .ok (.invokestatic 286, 3) := by decide +kernel
theorem dM_operator_9 : decode cM_operator 9 = .ok (.istore_n 3, 1) := by decide +kernel
theorem dM_operator_10 : decode cM_operator 10 = .ok (.iload_n 3, 1) := by decide +kernel
theorem dM_operator_11 : decode cM_operator 11 = .ok (.ifCond .ge 5, 3) := by decide +kernel
theorem dM_operator_14 : decode cM_operator 14 = .ok (.iconst (-1), 1) := by decide +kernel
theorem dM_operator_15 : decode cM_operator 15 = .ok (.ireturn, 1) := by decide +kernel
theorem dM_operator_16 : decode cM_operator 16 = .ok (.iload_n 2, 1) := by decide +kernel
theorem dM_operator_17 : decode cM_operator 17 = .ok (.ifCond .ne 10, 3) := by decide +kernel
theorem dM_operator_20 : decode cM_operator 20 = .ok (.iload_n 3, 1) := by decide +kernel
theorem dM_operator_21 : decode cM_operator 21 = .ok (.bipush 16, 2) := by decide +kernel
theorem dM_operator_23 : decode cM_operator 23 = .ok (.idiv, 1) := by decide +kernel
theorem dM_operator_24 : decode cM_operator 24 = .ok (.goto 28, 3) := by decide +kernel
theorem dM_operator_27 : decode cM_operator 27 = .ok (.iload_n 2, 1) := by decide +kernel
theorem dM_operator_28 : decode cM_operator 28 = .ok (.iconst 1, 1) := by decide +kernel
theorem dM_operator_29 : decode cM_operator 29 = .ok (.if_icmp .ne 11, 3) := by decide +kernel
theorem dM_operator_32 : decode cM_operator 32 = .ok (.iload_n 3, 1) := by decide +kernel
theorem dM_operator_33 : decode cM_operator 33 = .ok (.iconst 4, 1) := by decide +kernel
theorem dM_operator_34 : decode cM_operator 34 = .ok (.idiv, 1) := by decide +kernel
theorem dM_operator_35 : decode cM_operator 35 = .ok (.iconst 4, 1) := by decide +kernel
theorem dM_operator_36 : decode cM_operator 36 = .ok (.irem, 1) := by decide +kernel
theorem dM_operator_37 : decode cM_operator 37 = .ok (.goto 15, 3) := by decide +kernel
theorem dM_operator_40 : decode cM_operator 40 = .ok (.iload_n 2, 1) := by decide +kernel
theorem dM_operator_41 : decode cM_operator 41 = .ok (.iconst 2, 1) := by decide +kernel
theorem dM_operator_42 : decode cM_operator 42 = .ok (.if_icmp .ne 9, 3) := by decide +kernel
theorem dM_operator_45 : decode cM_operator 45 = .ok (.iload_n 3, 1) := by decide +kernel
theorem dM_operator_46 : decode cM_operator 46 = .ok (.iconst 4, 1) := by decide +kernel
theorem dM_operator_47 : decode cM_operator 47 = .ok (.irem, 1) := by decide +kernel
theorem dM_operator_48 : decode cM_operator 48 = .ok (.goto 4, 3) := by decide +kernel
theorem dM_operator_51 : decode cM_operator 51 = .ok (.iconst (-1), 1) := by decide +kernel
theorem dM_operator_52 : decode cM_operator 52 = .ok (.ireturn, 1) := by decide +kernel
theorem dM_isThere_0 : decode cM_isThere 0 = .ok (.iload_n 1, 1) := by decide +kernel
theorem dM_isThere_1 : decode cM_isThere 1 = .ok (.ifCond .lt 15, 3) := by decide +kernel
theorem dM_isThere_4 : decode cM_isThere 4 = .ok (.iload_n 1, 1) := by decide +kernel
theorem dM_isThere_5 : decode cM_isThere 5 = .ok (.aload_n 0, 1) := by decide +kernel
theorem dM_isThere_6 : decode cM_isThere 6 = .ok (.getfield 280, 3) := by decide +kernel
theorem dM_isThere_9 : decode cM_isThere 9 = .ok (.if_icmp .ge 7, 3) := by decide +kernel
theorem dM_isThere_12 : decode cM_isThere 12 = .ok (.iconst 1, 1) := by decide +kernel
theorem dM_isThere_13 : decode cM_isThere 13 = .ok (.goto 4, 3) := by decide +kernel
theorem dM_isThere_16 : decode cM_isThere 16 = .ok (.iconst 0, 1) := by decide +kernel
theorem dM_isThere_17 : decode cM_isThere 17 = .ok (.ireturn, 1) := by decide +kernel
theorem dM_type_0 : decode cM_type 0 = .ok (.aload_n 0, 1) := by decide +kernel
theorem dM_type_1 : decode cM_type 1 = .ok (.iconst 0, 1) := by decide +kernel
theorem dM_type_2 : decode cM_type 2 = .ok (.putfield 26, 3) := by decide +kernel
theorem dM_type_5 : decode cM_type 5 = .ok (.aload_n 0, 1) := by decide +kernel
theorem dM_type_6 : decode cM_type 6 = .ok (.iload_n 1, 1) := by decide +kernel
theorem dM_type_7 : decode cM_type 7 = .ok (.invokevirtual 292, 3) := by decide +kernel
theorem dM_type_10 : decode cM_type 10 = .ok (.ifCond .eq 19, 3) := by decide +kernel
theorem dM_type_13 : decode cM_type 13 = .ok (.aload_n 0, 1) := by decide +kernel
theorem dM_type_14 : decode cM_type 14 = .ok (.getfield 7, 3) := by decide +kernel
theorem dM_type_17 : decode cM_type 17 = .ok (.aload_n 0, 1) := by decide +kernel
theorem dM_type_18 : decode cM_type 18 = .ok (.getfield 280, 3) := by decide +kernel
theorem dM_type_21 : decode cM_type 21 = .ok (.iconst 1, 1) := by decide +kernel
theorem dM_type_22 : decode cM_type 22 = .ok (.isub, 1) := by decide +kernel
theorem dM_type_23 : decode cM_type 23 = .ok (.iload_n 1, 1) := by decide +kernel
theorem dM_type_24 : decode cM_type 24 = .ok (.isub, 1) := by decide +kernel
theorem dM_type_25 : decode cM_type 25 = .ok (.iaload, 1) := by decide +kernel
theorem dM_type_26 : decode cM_type 26 = .ok (.goto 4, 3) := by decide +kernel
theorem dM_type_29 : decode cM_type 29 = .ok (.iconst (-1), 1) := by decide +kernel
theorem dM_type_30 : decode cM_type 30 = .ok (.ireturn, 1) := by decide +kernel
theorem dM_bits_0 : decode cM_bits 0 = .ok (.aload_n 0, 1) := by decide +kernel
theorem dM_bits_1 : decode cM_bits 1 = .ok (.iconst 0, 1) := by decide +kernel
theorem dM_bits_2 : decode cM_bits 2 = .ok (.putfield 26, 3) := by decide +kernel
theorem dM_bits_5 : decode cM_bits 5 = .ok (.aload_n 0, 1) := by decide +kernel
theorem dM_bits_6 : decode cM_bits 6 = .ok (.iload_n 1, 1) := by decide +kernel
theorem dM_bits_7 : decode cM_bits 7 = .ok (.invokevirtual 292, 3) := by decide +kernel
theorem dM_bits_10 : decode cM_bits 10 = .ok (.ifCond .eq 19, 3) := by decide +kernel
theorem dM_bits_13 : decode cM_bits 13 = .ok (.aload_n 0, 1) := by decide +kernel
theorem dM_bits_14 : decode cM_bits 14 = .ok (.getfield 13, 3) := by decide +kernel
theorem dM_bits_17 : decode cM_bits 17 = .ok (.aload_n 0, 1) := by decide +kernel
theorem dM_bits_18 : decode cM_bits 18 = .ok (.getfield 280, 3) := by decide +kernel
theorem dM_bits_21 : decode cM_bits 21 = .ok (.iconst 1, 1) := by decide +kernel
theorem dM_bits_22 : decode cM_bits 22 = .ok (.isub, 1) := by decide +kernel
theorem dM_bits_23 : decode cM_bits 23 = .ok (.iload_n 1, 1) := by decide +kernel
theorem dM_bits_24 : decode cM_bits 24 = .ok (.isub, 1) := by decide +kernel
theorem dM_bits_25 : decode cM_bits 25 = .ok (.laload, 1) := by decide +kernel
theorem dM_bits_26 : decode cM_bits 26 = .ok (.goto 4, 3) := by decide +kernel
theorem dM_bits_29 : decode cM_bits 29 = .ok (.lconst 0, 1) := by decide +kernel
theorem dM_bits_30 : decode cM_bits 30 = .ok (.lreturn, 1) := by decide +kernel
theorem dM_parts_0 : decode cM_parts 0 = .ok (.aload_n 0, 1) := by decide +kernel
theorem dM_parts_1 : decode cM_parts 1 = .ok (.iconst 0, 1) := by decide +kernel
theorem dM_parts_2 : decode cM_parts 2 = .ok (.putfield 26, 3) := by decide +kernel
theorem dM_parts_5 : decode cM_parts 5 = .ok (.aload_n 0, 1) := by decide +kernel
theorem dM_parts_6 : decode cM_parts 6 = .ok (.iload_n 1, 1) := by decide +kernel
theorem dM_parts_7 : decode cM_parts 7 = .ok (.invokevirtual 292, 3) := by decide +kernel
theorem dM_parts_10 : decode cM_parts 10 = .ok (.ifCond .eq 29, 3) := by decide +kernel
theorem dM_parts_13 : decode cM_parts 13 = .ok (.aload_n 0, 1) := by decide +kernel
theorem dM_parts_14 : decode cM_parts 14 = .ok (.getfield 7, 3) := by decide +kernel
theorem dM_parts_17 : decode cM_parts 17 = .ok (.aload_n 0, 1) := by decide +kernel
theorem dM_parts_18 : decode cM_parts 18 = .ok (.getfield 280, 3) := by decide +kernel
theorem dM_parts_21 : decode cM_parts 21 = .ok (.iconst 1, 1) := by decide +kernel
theorem dM_parts_22 : decode cM_parts 22 = .ok (.isub, 1) := by decide +kernel
theorem dM_parts_23 : decode cM_parts 23 = .ok (.iload_n 1, 1) := by decide +kernel
theorem dM_parts_24 : decode cM_parts 24 = .ok (.isub, 1) := by decide +kernel
theorem dM_parts_25 : decode cM_parts 25 = .ok (.iaload, 1) := by decide +kernel
theorem dM_parts_26 : decode cM_parts 26 = .ok (.iconst 2, 1) := by decide +kernel
theorem dM_parts_27 : decode cM_parts 27 = .ok (.if_icmp .lt 12, 3) := by decide +kernel
theorem dM_parts_30 : decode cM_parts 30 = .ok (.iload_n 2, 1) := by decide +kernel
theorem dM_parts_31 : decode cM_parts 31 = .ok (.ifCond .lt 8, 3) := by decide +kernel
theorem dM_parts_34 : decode cM_parts 34 = .ok (.iload_n 2, 1) := by decide +kernel
theorem dM_parts_35 : decode cM_parts 35 = .ok (.iconst 2, 1) := by decide +kernel
theorem dM_parts_36 : decode cM_parts 36 = .ok (.if_icmp .le 5, 3) := by decide +kernel
theorem dM_parts_39 : decode cM_parts 39 = .ok (.iconst (-1), 1) := by decide +kernel
theorem dM_parts_40 : decode cM_parts 40 = .ok (.ireturn, 1) := by decide +kernel
theorem dM_parts_41 : decode cM_parts 41 = .ok (.aload_n 0, 1) := by decide +kernel
theorem dM_parts_42 : decode cM_parts 42 = .ok (.getfield 7, 3) := by decide +kernel
theorem dM_parts_45 : decode cM_parts 45 = .ok (.aload_n 0, 1) := by decide +kernel
theorem dM_parts_46 : decode cM_parts 46 = .ok (.getfield 280, 3) := by decide +kernel
theorem dM_parts_49 : decode cM_parts 49 = .ok (.iconst 1, 1) := by decide +kernel
theorem dM_parts_50 : decode cM_parts 50 = .ok (.isub, 1) := by decide +kernel
theorem dM_parts_51 : decode cM_parts 51 = .ok (.iload_n 1, 1) := by decide +kernel
theorem dM_parts_52 : decode cM_parts 52 = .ok (.isub, 1) := by decide +kernel
theorem dM_parts_53 : decode cM_parts 53 = .ok (.iaload, 1) := by decide +kernel
theorem dM_parts_54 : decode cM_parts 54 = .ok (.istore_n 3, 1) := by decide +kernel
theorem dM_parts_55 : decode cM_parts 55 = .ok (.aload_n 0, 1) := by decide +kernel
theorem dM_parts_56 : decode cM_parts 56 = .ok (.getfield 13, 3) := by decide +kernel
theorem dM_parts_59 : decode cM_parts 59 = .ok (.aload_n 0, 1) := by decide +kernel
theorem dM_parts_60 : decode cM_parts 60 = .ok (.getfield 280, 3) := by decide +kernel
theorem dM_parts_63 : decode cM_parts 63 = .ok (.iconst 1, 1) := by decide +kernel
theorem dM_parts_64 : decode cM_parts 64 = .ok (.isub, 1) := by decide +kernel
theorem dM_parts_65 : decode cM_parts 65 = .ok (.iload_n 1, 1) := by decide +kernel
theorem dM_parts_66 : decode cM_parts 66 = .ok (.isub, 1) := by decide +kernel
theorem dM_parts_67 : decode cM_parts 67 = .ok (.laload, 1) := by decide +kernel
theorem dM_parts_68 : decode cM_parts 68 = .ok (.lstore 4, 2) := by decide +kernel
theorem dM_parts_70 : decode cM_parts 70 = .ok (.iload_n 2, 1) := by decide +kernel
theorem dM_parts_71 : decode cM_parts 71 = .ok (.ifCond .ne 18, 3) := by decide +kernel
theorem dM_parts_74 : decode cM_parts 74 = .ok (.iload_n 3, 1) := by decide +kernel
theorem dM_parts_75 : decode cM_parts 75 = .ok (.lload 4, 2) := by decide +kernel
theorem dM_parts_77 : decode cM_parts 77 = .ok (.invokestatic 191, 3) := by decide +kernel
theorem dM_parts_80 : decode cM_parts 80 = .ok (.ifCond .eq 7, 3) := by decide +kernel
theorem dM_parts_83 : decode cM_parts 83 = .ok (.iconst 1, 1) := by decide +kernel
theorem dM_parts_84 : decode cM_parts 84 = .ok (.goto 4, 3) := by decide +kernel
theorem dM_parts_87 : decode cM_parts 87 = .ok (.iconst 0, 1) := by decide +kernel
theorem dM_parts_88 : decode cM_parts 88 = .ok (.ireturn, 1) := by decide +kernel
theorem dM_parts_89 : decode cM_parts 89 = .ok (.iload_n 2, 1) := by decide +kernel
theorem dM_parts_90 : decode cM_parts 90 = .ok (.iconst 1, 1) := by decide +kernel
theorem dM_parts_91 : decode cM_parts 91 = .ok (.if_icmp .ne 10, 3) := by decide +kernel
theorem dM_parts_94 : decode cM_parts 94 = .ok (.iload_n 3, 1) := by decide +kernel
theorem dM_parts_95 : decode cM_parts 95 = .ok (.lload 4, 2) := by decide +kernel
theorem dM_parts_97 : decode cM_parts 97 = .ok (.invokestatic 103, 3) := by decide +kernel
theorem dM_parts_100 : decode cM_parts 100 = .ok (.ireturn, 1) := by decide +kernel
theorem dM_parts_101 : decode cM_parts 101 = .ok (.iload_n 3, 1) := by decide +kernel
theorem dM_parts_102 : decode cM_parts 102 = .ok (.lload 4, 2) := by decide +kernel
theorem dM_parts_104 : decode cM_parts 104 = .ok (.invokestatic 227, 3) := by decide +kernel
theorem dM_parts_107 : decode cM_parts 107 = .ok (.ifCond .eq 7, 3) := by decide +kernel
theorem dM_parts_110 : decode cM_parts 110 = .ok (.iconst 4, 1) := by decide +kernel
theorem dM_parts_111 : decode cM_parts 111 = .ok (.goto 43, 3) := by decide +kernel
theorem dM_parts_114 : decode cM_parts 114 = .ok (.iload_n 3, 1) := by decide +kernel
theorem dM_parts_115 : decode cM_parts 115 = .ok (.lload 4, 2) := by decide +kernel
theorem dM_parts_117 : decode cM_parts 117 = .ok (.invokestatic 195, 3) := by decide +kernel
theorem dM_parts_120 : decode cM_parts 120 = .ok (.ifCond .eq 7, 3) := by decide +kernel
theorem dM_parts_123 : decode cM_parts 123 = .ok (.iconst 3, 1) := by decide +kernel
theorem dM_parts_124 : decode cM_parts 124 = .ok (.goto 30, 3) := by decide +kernel
theorem dM_parts_127 : decode cM_parts 127 = .ok (.iload_n 3, 1) := by decide +kernel
theorem dM_parts_128 : decode cM_parts 128 = .ok (.lload 4, 2) := by decide +kernel
theorem dM_parts_130 : decode cM_parts 130 = .ok (.invokestatic 201, 3) := by decide +kernel
theorem dM_parts_133 : decode cM_parts 133 = .ok (.ifCond .eq 7, 3) := by decide +kernel
theorem dM_parts_136 : decode cM_parts 136 = .ok (.iconst 0, 1) := by decide +kernel
theorem dM_parts_137 : decode cM_parts 137 = .ok (.goto 17, 3) := by decide +kernel
theorem dM_parts_140 : decode cM_parts 140 = .ok (.iload_n 3, 1) := by decide +kernel
theorem dM_parts_141 : decode cM_parts 141 = .ok (.lload 4, 2) := by decide +kernel
theorem dM_parts_143 : decode cM_parts 143 = .ok (.invokestatic 103, 3) := by decide +kernel
theorem dM_parts_146 : decode cM_parts 146 = .ok (.ifCond .ne 7, 3) := by decide +kernel
theorem dM_parts_149 : decode cM_parts 149 = .ok (.iconst 1, 1) := by decide +kernel
theorem dM_parts_150 : decode cM_parts 150 = .ok (.goto 4, 3) := by decide +kernel
theorem dM_parts_153 : decode cM_parts 153 = .ok (.iconst 2, 1) := by decide +kernel
theorem dM_parts_154 : decode cM_parts 154 = .ok (.ireturn, 1) := by decide +kernel
theorem dM_copy_0 : decode cM_copy 0 = .ok (.aload_n 0, 1) := by decide +kernel
theorem dM_copy_1 : decode cM_copy 1 = .ok (.iconst 0, 1) := by decide +kernel
theorem dM_copy_2 : decode cM_copy 2 = .ok (.putfield 26, 3) := by decide +kernel
theorem dM_copy_5 : decode cM_copy 5 = .ok (.aload_n 0, 1) := by decide +kernel
theorem dM_copy_6 : decode cM_copy 6 = .ok (.iload_n 1, 1) := by decide +kernel
theorem dM_copy_7 : decode cM_copy 7 = .ok (.invokevirtual 292, 3) := by decide +kernel
theorem dM_copy_10 : decode cM_copy 10 = .ok (.ifCond .eq 12, 3) := by decide +kernel
theorem dM_copy_13 : decode cM_copy 13 = .ok (.aload_n 0, 1) := by decide +kernel
theorem dM_copy_14 : decode cM_copy 14 = .ok (.getfield 280, 3) := by decide +kernel
theorem dM_copy_17 : decode cM_copy 17 = .ok (.bipush 64, 2) := by decide +kernel
theorem dM_copy_19 : decode cM_copy 19 = .ok (.if_icmp .ne 5, 3) := by decide +kernel
theorem dM_copy_22 : decode cM_copy 22 = .ok (.iconst (-1), 1) := by decide +kernel
theorem dM_copy_23 : decode cM_copy 23 = .ok (.ireturn, 1) := by decide +kernel
theorem dM_copy_24 : decode cM_copy 24 = .ok (.aload_n 0, 1) := by decide +kernel
theorem dM_copy_25 : decode cM_copy 25 = .ok (.getfield 7, 3) := by decide +kernel
theorem dM_copy_28 : decode cM_copy 28 = .ok (.aload_n 0, 1) := by decide +kernel
theorem dM_copy_29 : decode cM_copy 29 = .ok (.getfield 280, 3) := by decide +kernel
theorem dM_copy_32 : decode cM_copy 32 = .ok (.aload_n 0, 1) := by decide +kernel
theorem dM_copy_33 : decode cM_copy 33 = .ok (.getfield 7, 3) := by decide +kernel
theorem dM_copy_36 : decode cM_copy 36 = .ok (.aload_n 0, 1) := by decide +kernel
theorem dM_copy_37 : decode cM_copy 37 = .ok (.getfield 280, 3) := by decide +kernel
theorem dM_copy_40 : decode cM_copy 40 = .ok (.iconst 1, 1) := by decide +kernel
theorem dM_copy_41 : decode cM_copy 41 = .ok (.isub, 1) := by decide +kernel
theorem dM_copy_42 : decode cM_copy 42 = .ok (.iload_n 1, 1) := by decide +kernel
theorem dM_copy_43 : decode cM_copy 43 = .ok (.isub, 1) := by decide +kernel
theorem dM_copy_44 : decode cM_copy 44 = .ok (.iaload, 1) := by decide +kernel
theorem dM_copy_45 : decode cM_copy 45 = .ok (.iastore, 1) := by decide +kernel
theorem dM_copy_46 : decode cM_copy 46 = .ok (.aload_n 0, 1) := by decide +kernel
theorem dM_copy_47 : decode cM_copy 47 = .ok (.getfield 13, 3) := by decide +kernel
theorem dM_copy_50 : decode cM_copy 50 = .ok (.aload_n 0, 1) := by decide +kernel
theorem dM_copy_51 : decode cM_copy 51 = .ok (.getfield 280, 3) := by decide +kernel
theorem dM_copy_54 : decode cM_copy 54 = .ok (.aload_n 0, 1) := by decide +kernel
theorem dM_copy_55 : decode cM_copy 55 = .ok (.getfield 13, 3) := by decide +kernel
theorem dM_copy_58 : decode cM_copy 58 = .ok (.aload_n 0, 1) := by decide +kernel
theorem dM_copy_59 : decode cM_copy 59 = .ok (.getfield 280, 3) := by decide +kernel
theorem dM_copy_62 : decode cM_copy 62 = .ok (.iconst 1, 1) := by decide +kernel
theorem dM_copy_63 : decode cM_copy 63 = .ok (.isub, 1) := by decide +kernel
theorem dM_copy_64 : decode cM_copy 64 = .ok (.iload_n 1, 1) := by decide +kernel
theorem dM_copy_65 : decode cM_copy 65 = .ok (.isub, 1) := by decide +kernel
theorem dM_copy_66 : decode cM_copy 66 = .ok (.laload, 1) := by decide +kernel
theorem dM_copy_67 : decode cM_copy 67 = .ok (.lastore, 1) := by decide +kernel
theorem dM_copy_68 : decode cM_copy 68 = .ok (.aload_n 0, 1) := by decide +kernel
theorem dM_copy_69 : decode cM_copy 69 = .ok (.dup, 1) := by decide +kernel
theorem dM_copy_70 : decode cM_copy 70 = .ok (.getfield 280, 3) := by decide +kernel
theorem dM_copy_73 : decode cM_copy 73 = .ok (.iconst 1, 1) := by decide +kernel
theorem dM_copy_74 : decode cM_copy 74 = .ok (.iadd, 1) := by decide +kernel
theorem dM_copy_75 : decode cM_copy 75 = .ok (.putfield 280, 3) := by decide +kernel
theorem dM_copy_78 : decode cM_copy 78 = .ok (.aload_n 0, 1) := by decide +kernel
theorem dM_copy_79 : decode cM_copy 79 = .ok (.getfield 280, 3) := by decide +kernel
theorem dM_copy_82 : decode cM_copy 82 = .ok (.ireturn, 1) := by decide +kernel
theorem dM_clear_0 : decode cM_clear 0 = .ok (.aload_n 0, 1) := by decide +kernel
theorem dM_clear_1 : decode cM_clear 1 = .ok (.iconst 0, 1) := by decide +kernel
theorem dM_clear_2 : decode cM_clear 2 = .ok (.putfield 26, 3) := by decide +kernel
theorem dM_clear_5 : decode cM_clear 5 = .ok (.aload_n 0, 1) := by decide +kernel
theorem dM_clear_6 : decode cM_clear 6 = .ok (.getfield 280, 3) := by decide +kernel
theorem dM_clear_9 : decode cM_clear 9 = .ok (.istore_n 1, 1) := by decide +kernel
theorem dM_clear_10 : decode cM_clear 10 = .ok (.aload_n 0, 1) := by decide +kernel
theorem dM_clear_11 : decode cM_clear 11 = .ok (.iconst 0, 1) := by decide +kernel
theorem dM_clear_12 : decode cM_clear 12 = .ok (.putfield 280, 3) := by decide +kernel
theorem dM_clear_15 : decode cM_clear 15 = .ok (.iload_n 1, 1) := by decide +kernel
theorem dM_clear_16 : decode cM_clear 16 = .ok (.ireturn, 1) := by decide +kernel
