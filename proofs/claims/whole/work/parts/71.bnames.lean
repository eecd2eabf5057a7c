abbrev cB_put : ByteArray := prog_1_method_14_code
def yB_put : MethodName := ⟨"BitNumbers", "put", "(IJ)I"⟩
def wsB_put : List Cond := .code yB_put cB_put 5 (some .int) :: aw
abbrev cB_push : ByteArray := prog_1_method_2_code
def yB_push : MethodName := ⟨"BitNumbers", "push", "(IJ)I"⟩
def wsB_push : List Cond := .code yB_push cB_push 4 (some .int) :: aw
abbrev cB_trap : ByteArray := prog_1_method_5_code
def yB_trap : MethodName := ⟨"BitNumbers", "trap", "()I"⟩
def wsB_trap : List Cond := .code yB_trap cB_trap 1 (some .int) :: aw
abbrev cB_operator : ByteArray := prog_1_method_6_code
def yB_operator : MethodName := ⟨"BitNumbers", "operator", "(II)I"⟩
def wsB_operator : List Cond := .code yB_operator cB_operator 3 (some .int) :: aw
abbrev cB_isThere : ByteArray := prog_1_method_12_code
def yB_isThere : MethodName := ⟨"BitNumbers", "isThere", "(I)Z"⟩
def wsB_isThere : List Cond := .code yB_isThere cB_isThere 2 (some .boolean) :: aw
abbrev cB_type : ByteArray := prog_1_method_7_code
def yB_type : MethodName := ⟨"BitNumbers", "type", "(I)I"⟩
def wsB_type : List Cond := .code yB_type cB_type 2 (some .int) :: aw
abbrev cB_bits : ByteArray := prog_1_method_8_code
def yB_bits : MethodName := ⟨"BitNumbers", "bits", "(I)J"⟩
def wsB_bits : List Cond := .code yB_bits cB_bits 2 (some .long) :: aw
abbrev cB_parts : ByteArray := prog_1_method_9_code
def yB_parts : MethodName := ⟨"BitNumbers", "parts", "(II)I"⟩
def wsB_parts : List Cond := .code yB_parts cB_parts 6 (some .int) :: aw
abbrev cB_copy : ByteArray := prog_1_method_10_code
def yB_copy : MethodName := ⟨"BitNumbers", "copy", "(I)I"⟩
def wsB_copy : List Cond := .code yB_copy cB_copy 2 (some .int) :: aw
abbrev cB_clear : ByteArray := prog_1_method_11_code
def yB_clear : MethodName := ⟨"BitNumbers", "clear", "()I"⟩
def wsB_clear : List Cond := .code yB_clear cB_clear 2 (some .int) :: aw
abbrev cB_areOnTop : ByteArray := prog_1_method_13_code
def yB_areOnTop : MethodName := ⟨"BitNumbers", "areOnTop", "(II)Z"⟩
def wsB_areOnTop : List Cond := .code yB_areOnTop cB_areOnTop 4 (some .boolean) :: aw
abbrev rmB_put : Room := { frames := 1, cells := 0, slots := 0, locals := 22 }
abbrev rmB_push : Room := { frames := 2, cells := 0, slots := 0, locals := 46 }
abbrev rmB_trap : Room := { frames := 0, cells := 0, slots := 0, locals := 0 }
abbrev rmB_operator : Room := { frames := 2, cells := 0, slots := 0, locals := 43 }
abbrev rmB_isThere : Room := { frames := 0, cells := 0, slots := 0, locals := 0 }
abbrev rmB_type : Room := { frames := 1, cells := 0, slots := 0, locals := 21 }
abbrev rmB_bits : Room := { frames := 1, cells := 0, slots := 0, locals := 21 }
abbrev rmB_parts : Room := { frames := 2, cells := 0, slots := 0, locals := 44 }
abbrev rmB_copy : Room := { frames := 2, cells := 0, slots := 0, locals := 46 }
abbrev rmB_clear : Room := { frames := 0, cells := 0, slots := 0, locals := 0 }
abbrev rmB_areOnTop : Room := { frames := 0, cells := 0, slots := 0, locals := 0 }
theorem w_0 : (Cond.selects "BitNumbers" yB_put yB_put) ∈ aw := aw_in 0 (by decide +kernel) (by decide +kernel)
theorem w_1 : (Cond.selects "BitNumbers" yB_isThere yB_isThere) ∈ aw := aw_in 1 (by decide +kernel) (by decide +kernel)
theorem w_33 : (Cond.initialized "BitNumbers") ∈ aw := aw_in 33 (by decide +kernel) (by decide +kernel)
theorem w_57 : (Cond.fieldLink "BitNumbers" 9 "BitNumbers" "types" "[I") ∈ aw := aw_in 57 (by decide +kernel) (by decide +kernel)
theorem w_58 : (Cond.fieldLink "BitNumbers" 13 "BitNumbers" "rows" "[J") ∈ aw := aw_in 58 (by decide +kernel) (by decide +kernel)
theorem w_59 : (Cond.fieldLink "BitNumbers" 17 "BitNumbers" "count" "I") ∈ aw := aw_in 59 (by decide +kernel) (by decide +kernel)
theorem w_60 : (Cond.fieldLink "BitNumbers" 21 "BitNumbers" "latestTrap" "I") ∈ aw := aw_in 60 (by decide +kernel) (by decide +kernel)
theorem w_76 : (Cond.methodLink "BitNumbers" 24 yB_put) ∈ aw := aw_in 76 (by decide +kernel) (by decide +kernel)
theorem w_78 : (Cond.instanceMethod yB_put) ∈ aw := aw_in 78 (by decide +kernel) (by decide +kernel)
theorem w_79 : (Cond.code yB_put cB_put 5 (some .int)) ∈ aw := aw_in 79 (by decide +kernel) (by decide +kernel)
theorem w_80 : (Cond.methodLink "BitNumbers" 95 yWhole_withoutSign) ∈ aw := aw_in 80 (by decide +kernel) (by decide +kernel)
theorem w_92 : (Cond.methodLink "BitNumbers" 39 yOperators_exists) ∈ aw := aw_in 92 (by decide +kernel) (by decide +kernel)
theorem w_93 : (Cond.static yOperators_exists) ∈ aw := aw_in 93 (by decide +kernel) (by decide +kernel)
theorem w_94 : (Cond.code yOperators_exists cOperators_exists 1 (some .boolean)) ∈ aw := aw_in 94 (by decide +kernel) (by decide +kernel)
theorem w_97 : (Cond.methodLink "BitNumbers" 49 yOperators_operands) ∈ aw := aw_in 97 (by decide +kernel) (by decide +kernel)
theorem w_98 : (Cond.static yOperators_operands) ∈ aw := aw_in 98 (by decide +kernel) (by decide +kernel)
theorem w_99 : (Cond.code yOperators_operands cOperators_operands 2 (some .int)) ∈ aw := aw_in 99 (by decide +kernel) (by decide +kernel)
theorem w_105 : (Cond.methodLink "BitNumbers" 53 yOperators_operandType) ∈ aw := aw_in 105 (by decide +kernel) (by decide +kernel)
theorem w_113 : (Cond.methodLink "BitNumbers" 71 yOperators_resultType) ∈ aw := aw_in 113 (by decide +kernel) (by decide +kernel)
theorem w_122 : (Cond.methodLink "BitNumbers" 28 yB_isThere) ∈ aw := aw_in 122 (by decide +kernel) (by decide +kernel)
theorem w_124 : (Cond.instanceMethod yB_isThere) ∈ aw := aw_in 124 (by decide +kernel) (by decide +kernel)
theorem w_125 : (Cond.code yB_isThere cB_isThere 2 (some .boolean)) ∈ aw := aw_in 125 (by decide +kernel) (by decide +kernel)
theorem w_134 : (Cond.methodLink "BitNumbers" 78 yFormat_of) ∈ aw := aw_in 134 (by decide +kernel) (by decide +kernel)
theorem w_141 : (Cond.methodLink "BitNumbers" 84 yFormat_isNegative) ∈ aw := aw_in 141 (by decide +kernel) (by decide +kernel)
theorem w_145 : (Cond.methodLink "BitNumbers" 88 yFormat_exponent) ∈ aw := aw_in 145 (by decide +kernel) (by decide +kernel)
theorem w_149 : (Cond.methodLink "BitNumbers" 92 yFormat_kind) ∈ aw := aw_in 149 (by decide +kernel) (by decide +kernel)
theorem w_150 : (Cond.instanceMethod yFormat_kind) ∈ aw := aw_in 150 (by decide +kernel) (by decide +kernel)
theorem w_151 : (Cond.selects "BitNumbers$Format" yFormat_kind yFormat_kind) ∈ aw := aw_in 151 (by decide +kernel) (by decide +kernel)
theorem w_152 : (Cond.code yFormat_kind cFormat_kind 3 (some .int)) ∈ aw := aw_in 152 (by decide +kernel) (by decide +kernel)
theorem dB_put_0 : decode cB_put 0 = .ok (.aload_n 0, 1) := by decide +kernel
theorem dB_put_1 : decode cB_put 1 = .ok (.getfield 17, 3) := by decide +kernel
theorem dB_put_4 : decode cB_put 4 = .ok (.bipush 64, 2) := by decide +kernel
theorem dB_put_6 : decode cB_put 6 = .ok (.if_icmp .lt 5, 3) := by decide +kernel
theorem dB_put_9 : decode cB_put 9 = .ok (.iconst (-1), 1) := by decide +kernel
theorem dB_put_10 : decode cB_put 10 = .ok (.ireturn, 1) := by decide +kernel
theorem dB_put_11 : decode cB_put 11 = .ok (.iload_n 1, 1) := by decide +kernel
theorem dB_put_12 : decode cB_put 12 = .ok (.ifCond .eq 8, 3) := by decide +kernel
theorem dB_put_15 : decode cB_put 15 = .ok (.iload_n 1, 1) := by decide +kernel
theorem dB_put_16 : decode cB_put 16 = .ok (.iconst 2, 1) := by decide +kernel
theorem dB_put_17 : decode cB_put 17 = .ok (.if_icmp .ne 7, 3) := by decide +kernel
theorem dB_put_20 : decode cB_put 20 = .ok (.iconst 1, 1) := by decide +kernel
theorem dB_put_21 : decode cB_put 21 = .ok (.goto 4, 3) := by decide +kernel
theorem dB_put_24 : decode cB_put 24 = .ok (.iconst 0, 1) := by decide +kernel
theorem dB_put_25 : decode cB_put 25 = .ok (.istore 4, 2) := by decide +kernel
theorem dB_put_27 : decode cB_put 27 = .ok (.aload_n 0, 1) := by decide +kernel
theorem dB_put_28 : decode cB_put 28 = .ok (.getfield 9, 3) := by decide +kernel
theorem dB_put_31 : decode cB_put 31 = .ok (.aload_n 0, 1) := by decide +kernel
theorem dB_put_32 : decode cB_put 32 = .ok (.getfield 17, 3) := by decide +kernel
theorem dB_put_35 : decode cB_put 35 = .ok (.iload_n 1, 1) := by decide +kernel
theorem dB_put_36 : decode cB_put 36 = .ok (.iastore, 1) := by decide +kernel
theorem dB_put_37 : decode cB_put 37 = .ok (.aload_n 0, 1) := by decide +kernel
theorem dB_put_38 : decode cB_put 38 = .ok (.getfield 13, 3) := by decide +kernel
theorem dB_put_41 : decode cB_put 41 = .ok (.aload_n 0, 1) := by decide +kernel
theorem dB_put_42 : decode cB_put 42 = .ok (.getfield 17, 3) := by decide +kernel
theorem dB_put_45 : decode cB_put 45 = .ok (.iload 4, 2) := by decide +kernel
theorem dB_put_47 : decode cB_put 47 = .ok (.ifCond .eq 11, 3) := by decide +kernel
theorem dB_put_50 : decode cB_put 50 = .ok (.iconst 0, 1) := by decide +kernel
theorem dB_put_51 : decode cB_put 51 = .ok (.lload_n 2, 1) := by decide +kernel
theorem dB_put_52 : decode cB_put 52 = .ok (.invokestatic 95, 3) := by decide +kernel
theorem dB_put_55 : decode cB_put 55 = .ok (.goto 4, 3) := by decide +kernel
theorem dB_put_58 : decode cB_put 58 = .ok (.lload_n 2, 1) := by decide +kernel
theorem dB_put_59 : decode cB_put 59 = .ok (.lastore, 1) := by decide +kernel
theorem dB_put_60 : decode cB_put 60 = .ok (.aload_n 0, 1) := by decide +kernel
theorem dB_put_61 : decode cB_put 61 = .ok (.dup, 1) := by decide +kernel
theorem dB_put_62 : decode cB_put 62 = .ok (.getfield 17, 3) := by decide +kernel
theorem dB_put_65 : decode cB_put 65 = .ok (.iconst 1, 1) := by decide +kernel
theorem dB_put_66 : decode cB_put 66 = .ok (.iadd, 1) := by decide +kernel
theorem dB_put_67 : decode cB_put 67 = .ok (.putfield 17, 3) := by decide +kernel
theorem dB_put_70 : decode cB_put 70 = .ok (.aload_n 0, 1) := by decide +kernel
theorem dB_put_71 : decode cB_put 71 = .ok (.getfield 17, 3) := by decide +kernel
theorem dB_put_74 : decode cB_put 74 = .ok (.ireturn, 1) := by decide +kernel
theorem dB_push_0 : decode cB_push 0 = .ok (.iload_n 1, 1) := by decide +kernel
theorem dB_push_1 : decode cB_push 1 = .ok (.ifCond .lt 8, 3) := by decide +kernel
theorem dB_push_4 : decode cB_push 4 = .ok (.iload_n 1, 1) := by decide +kernel
theorem dB_push_5 : decode cB_push 5 = .ok (.iconst 3, 1) := by decide +kernel
theorem dB_push_6 : decode cB_push 6 = .ok (.if_icmp .le 5, 3) := by decide +kernel
theorem dB_push_9 : decode cB_push 9 = .ok (.iconst (-1), 1) := by decide +kernel
theorem dB_push_10 : decode cB_push 10 = .ok (.ireturn, 1) := by decide +kernel
theorem dB_push_11 : decode cB_push 11 = .ok (.aload_n 0, 1) := by decide +kernel
theorem dB_push_12 : decode cB_push 12 = .ok (.iload_n 1, 1) := by decide +kernel
theorem dB_push_13 : decode cB_push 13 = .ok (.lload_n 2, 1) := by decide +kernel
theorem dB_push_14 : decode cB_push 14 = .ok (.invokevirtual 24, 3) := by decide +kernel
theorem dB_push_17 : decode cB_push 17 = .ok (.ireturn, 1) := by decide +kernel
theorem dB_trap_0 : decode cB_trap 0 = .ok (.aload_n 0, 1) := by decide +kernel
theorem dB_trap_1 : decode cB_trap 1 = .ok (.getfield 21, 3) := by decide +kernel
theorem dB_trap_4 : decode cB_trap 4 = .ok (.ireturn, 1) := by decide +kernel
theorem dB_operator_0 : decode cB_operator 0 = .ok (.iload_n 1, 1) := by decide +kernel
theorem dB_operator_1 : decode cB_operator 1 = .ok (.invokestatic 39, 3) := by decide +kernel
theorem dB_operator_4 : decode cB_operator 4 = .ok (.ifCond .ne 5, 3) := by decide +kernel
theorem dB_operator_7 : decode cB_operator 7 = .ok (.iconst (-1), 1) := by decide +kernel
theorem dB_operator_8 : decode cB_operator 8 = .ok (.ireturn, 1) := by decide +kernel
theorem dB_operator_9 : decode cB_operator 9 = .ok (.iload_n 2, 1) := by decide +kernel
theorem dB_operator_10 : decode cB_operator 10 = .ok (.tableswitch 41 0 2 #[26, 31, 36], 26) := by decide +kernel
theorem dB_operator_36 : decode cB_operator 36 = .ok (.iload_n 1, 1) := by decide +kernel
theorem dB_operator_37 : decode cB_operator 37 = .ok (.invokestatic 49, 3) := by decide +kernel
theorem dB_operator_40 : decode cB_operator 40 = .ok (.ireturn, 1) := by decide +kernel
theorem dB_operator_41 : decode cB_operator 41 = .ok (.iload_n 1, 1) := by decide +kernel
theorem dB_operator_42 : decode cB_operator 42 = .ok (.invokestatic 53, 3) := by decide +kernel
theorem dB_operator_45 : decode cB_operator 45 = .ok (.ireturn, 1) := by decide +kernel
theorem dB_operator_46 : decode cB_operator 46 = .ok (.iload_n 1, 1) := by decide +kernel
theorem dB_operator_47 : decode cB_operator 47 = .ok (.invokestatic 71, 3) := by decide +kernel
theorem dB_operator_50 : decode cB_operator 50 = .ok (.ireturn, 1) := by decide +kernel
theorem dB_operator_51 : decode cB_operator 51 = .ok (.iconst (-1), 1) := by decide +kernel
theorem dB_operator_52 : decode cB_operator 52 = .ok (.ireturn, 1) := by decide +kernel
theorem dB_isThere_0 : decode cB_isThere 0 = .ok (.iload_n 1, 1) := by decide +kernel
theorem dB_isThere_1 : decode cB_isThere 1 = .ok (.ifCond .lt 15, 3) := by decide +kernel
theorem dB_isThere_4 : decode cB_isThere 4 = .ok (.iload_n 1, 1) := by decide +kernel
theorem dB_isThere_5 : decode cB_isThere 5 = .ok (.aload_n 0, 1) := by decide +kernel
theorem dB_isThere_6 : decode cB_isThere 6 = .ok (.getfield 17, 3) := by decide +kernel
theorem dB_isThere_9 : decode cB_isThere 9 = .ok (.if_icmp .ge 7, 3) := by decide +kernel
theorem dB_isThere_12 : decode cB_isThere 12 = .ok (.iconst 1, 1) := by decide +kernel
theorem dB_isThere_13 : decode cB_isThere 13 = .ok (.goto 4, 3) := by decide +kernel
theorem dB_isThere_16 : decode cB_isThere 16 = .ok (.iconst 0, 1) := by decide +kernel
theorem dB_isThere_17 : decode cB_isThere 17 = .ok (.ireturn, 1) := by decide +kernel
theorem dB_type_0 : decode cB_type 0 = .ok (.aload_n 0, 1) := by decide +kernel
theorem dB_type_1 : decode cB_type 1 = .ok (.iload_n 1, 1) := by decide +kernel
theorem dB_type_2 : decode cB_type 2 = .ok (.invokevirtual 28, 3) := by decide +kernel
theorem dB_type_5 : decode cB_type 5 = .ok (.ifCond .eq 19, 3) := by decide +kernel
theorem dB_type_8 : decode cB_type 8 = .ok (.aload_n 0, 1) := by decide +kernel
theorem dB_type_9 : decode cB_type 9 = .ok (.getfield 9, 3) := by decide +kernel
theorem dB_type_12 : decode cB_type 12 = .ok (.aload_n 0, 1) := by decide +kernel
theorem dB_type_13 : decode cB_type 13 = .ok (.getfield 17, 3) := by decide +kernel
theorem dB_type_16 : decode cB_type 16 = .ok (.iconst 1, 1) := by decide +kernel
theorem dB_type_17 : decode cB_type 17 = .ok (.isub, 1) := by decide +kernel
theorem dB_type_18 : decode cB_type 18 = .ok (.iload_n 1, 1) := by decide +kernel
theorem dB_type_19 : decode cB_type 19 = .ok (.isub, 1) := by decide +kernel
theorem dB_type_20 : decode cB_type 20 = .ok (.iaload, 1) := by decide +kernel
theorem dB_type_21 : decode cB_type 21 = .ok (.goto 4, 3) := by decide +kernel
theorem dB_type_24 : decode cB_type 24 = .ok (.iconst (-1), 1) := by decide +kernel
theorem dB_type_25 : decode cB_type 25 = .ok (.ireturn, 1) := by decide +kernel
theorem dB_bits_0 : decode cB_bits 0 = .ok (.aload_n 0, 1) := by decide +kernel
theorem dB_bits_1 : decode cB_bits 1 = .ok (.iload_n 1, 1) := by decide +kernel
theorem dB_bits_2 : decode cB_bits 2 = .ok (.invokevirtual 28, 3) := by decide +kernel
theorem dB_bits_5 : decode cB_bits 5 = .ok (.ifCond .eq 19, 3) := by decide +kernel
theorem dB_bits_8 : decode cB_bits 8 = .ok (.aload_n 0, 1) := by decide +kernel
theorem dB_bits_9 : decode cB_bits 9 = .ok (.getfield 13, 3) := by decide +kernel
theorem dB_bits_12 : decode cB_bits 12 = .ok (.aload_n 0, 1) := by decide +kernel
theorem dB_bits_13 : decode cB_bits 13 = .ok (.getfield 17, 3) := by decide +kernel
theorem dB_bits_16 : decode cB_bits 16 = .ok (.iconst 1, 1) := by decide +kernel
theorem dB_bits_17 : decode cB_bits 17 = .ok (.isub, 1) := by decide +kernel
theorem dB_bits_18 : decode cB_bits 18 = .ok (.iload_n 1, 1) := by decide +kernel
theorem dB_bits_19 : decode cB_bits 19 = .ok (.isub, 1) := by decide +kernel
theorem dB_bits_20 : decode cB_bits 20 = .ok (.laload, 1) := by decide +kernel
theorem dB_bits_21 : decode cB_bits 21 = .ok (.goto 4, 3) := by decide +kernel
theorem dB_bits_24 : decode cB_bits 24 = .ok (.lconst 0, 1) := by decide +kernel
theorem dB_bits_25 : decode cB_bits 25 = .ok (.lreturn, 1) := by decide +kernel
theorem dB_parts_0 : decode cB_parts 0 = .ok (.aload_n 0, 1) := by decide +kernel
theorem dB_parts_1 : decode cB_parts 1 = .ok (.iload_n 1, 1) := by decide +kernel
theorem dB_parts_2 : decode cB_parts 2 = .ok (.invokevirtual 28, 3) := by decide +kernel
theorem dB_parts_5 : decode cB_parts 5 = .ok (.ifCond .eq 20, 3) := by decide +kernel
theorem dB_parts_8 : decode cB_parts 8 = .ok (.aload_n 0, 1) := by decide +kernel
theorem dB_parts_9 : decode cB_parts 9 = .ok (.getfield 9, 3) := by decide +kernel
theorem dB_parts_12 : decode cB_parts 12 = .ok (.aload_n 0, 1) := by decide +kernel
theorem dB_parts_13 : decode cB_parts 13 = .ok (.getfield 17, 3) := by decide +kernel
theorem dB_parts_16 : decode cB_parts 16 = .ok (.iconst 1, 1) := by decide +kernel
theorem dB_parts_17 : decode cB_parts 17 = .ok (.isub, 1) := by decide +kernel
theorem dB_parts_18 : decode cB_parts 18 = .ok (.iload_n 1, 1) := by decide +kernel
theorem dB_parts_19 : decode cB_parts 19 = .ok (.isub, 1) := by decide +kernel
theorem dB_parts_20 : decode cB_parts 20 = .ok (.iaload, 1) := by decide +kernel
theorem dB_parts_21 : decode cB_parts 21 = .ok (.iconst 2, 1) := by decide +kernel
theorem dB_parts_22 : decode cB_parts 22 = .ok (.if_icmp .ge 5, 3) := by decide +kernel
theorem dB_parts_25 : decode cB_parts 25 = .ok (.iconst (-1), 1) := by decide +kernel
theorem dB_parts_26 : decode cB_parts 26 = .ok (.ireturn, 1) := by decide +kernel
theorem dB_parts_27 : decode cB_parts 27 = .ok (.aload_n 0, 1) := by decide +kernel
theorem dB_parts_28 : decode cB_parts 28 = .ok (.getfield 9, 3) := by decide +kernel
theorem dB_parts_31 : decode cB_parts 31 = .ok (.aload_n 0, 1) := by decide +kernel
theorem dB_parts_32 : decode cB_parts 32 = .ok (.getfield 17, 3) := by decide +kernel
theorem dB_parts_35 : decode cB_parts 35 = .ok (.iconst 1, 1) := by decide +kernel
theorem dB_parts_36 : decode cB_parts 36 = .ok (.isub, 1) := by decide +kernel
theorem dB_parts_37 : decode cB_parts 37 = .ok (.iload_n 1, 1) := by decide +kernel
theorem dB_parts_38 : decode cB_parts 38 = .ok (.isub, 1) := by decide +kernel
theorem dB_parts_39 : decode cB_parts 39 = .ok (.iaload, 1) := by decide +kernel
theorem dB_parts_40 : decode cB_parts 40 = .ok (.invokestatic 78, 3) := by decide +kernel
theorem dB_parts_43 : decode cB_parts 43 = .ok (.astore_n 3, 1) := by decide +kernel
theorem dB_parts_44 : decode cB_parts 44 = .ok (.aload_n 0, 1) := by decide +kernel
theorem dB_parts_45 : decode cB_parts 45 = .ok (.getfield 13, 3) := by decide +kernel
theorem dB_parts_48 : decode cB_parts 48 = .ok (.aload_n 0, 1) := by decide +kernel
theorem dB_parts_49 : decode cB_parts 49 = .ok (.getfield 17, 3) := by decide +kernel
theorem dB_parts_52 : decode cB_parts 52 = .ok (.iconst 1, 1) := by decide +kernel
theorem dB_parts_53 : decode cB_parts 53 = .ok (.isub, 1) := by decide +kernel
theorem dB_parts_54 : decode cB_parts 54 = .ok (.iload_n 1, 1) := by decide +kernel
theorem dB_parts_55 : decode cB_parts 55 = .ok (.isub, 1) := by decide +kernel
theorem dB_parts_56 : decode cB_parts 56 = .ok (.laload, 1) := by decide +kernel
theorem dB_parts_57 : decode cB_parts 57 = .ok (.lstore 4, 2) := by decide +kernel
theorem dB_parts_59 : decode cB_parts 59 = .ok (.iload_n 2, 1) := by decide +kernel
theorem dB_parts_60 : decode cB_parts 60 = .ok (.tableswitch 57 0 2 #[28, 43, 50], 28) := by decide +kernel
theorem dB_parts_88 : decode cB_parts 88 = .ok (.aload_n 3, 1) := by decide +kernel
theorem dB_parts_89 : decode cB_parts 89 = .ok (.lload 4, 2) := by decide +kernel
theorem dB_parts_91 : decode cB_parts 91 = .ok (.invokevirtual 84, 3) := by decide +kernel
theorem dB_parts_94 : decode cB_parts 94 = .ok (.ifCond .eq 7, 3) := by decide +kernel
theorem dB_parts_97 : decode cB_parts 97 = .ok (.iconst 1, 1) := by decide +kernel
theorem dB_parts_98 : decode cB_parts 98 = .ok (.goto 4, 3) := by decide +kernel
theorem dB_parts_101 : decode cB_parts 101 = .ok (.iconst 0, 1) := by decide +kernel
theorem dB_parts_102 : decode cB_parts 102 = .ok (.ireturn, 1) := by decide +kernel
theorem dB_parts_103 : decode cB_parts 103 = .ok (.aload_n 3, 1) := by decide +kernel
theorem dB_parts_104 : decode cB_parts 104 = .ok (.lload 4, 2) := by decide +kernel
theorem dB_parts_106 : decode cB_parts 106 = .ok (.invokevirtual 88, 3) := by decide +kernel
theorem dB_parts_109 : decode cB_parts 109 = .ok (.ireturn, 1) := by decide +kernel
theorem dB_parts_110 : decode cB_parts 110 = .ok (.aload_n 3, 1) := by decide +kernel
theorem dB_parts_111 : decode cB_parts 111 = .ok (.lload 4, 2) := by decide +kernel
theorem dB_parts_113 : decode cB_parts 113 = .ok (.invokevirtual 92, 3) := by decide +kernel
theorem dB_parts_116 : decode cB_parts 116 = .ok (.ireturn, 1) := by decide +kernel
theorem dB_parts_117 : decode cB_parts 117 = .ok (.iconst (-1), 1) := by decide +kernel
theorem dB_parts_118 : decode cB_parts 118 = .ok (.ireturn, 1) := by decide +kernel
theorem dB_copy_0 : decode cB_copy 0 = .ok (.aload_n 0, 1) := by decide +kernel
theorem dB_copy_1 : decode cB_copy 1 = .ok (.iload_n 1, 1) := by decide +kernel
theorem dB_copy_2 : decode cB_copy 2 = .ok (.invokevirtual 28, 3) := by decide +kernel
theorem dB_copy_5 : decode cB_copy 5 = .ok (.ifCond .ne 5, 3) := by decide +kernel
theorem dB_copy_8 : decode cB_copy 8 = .ok (.iconst (-1), 1) := by decide +kernel
theorem dB_copy_9 : decode cB_copy 9 = .ok (.ireturn, 1) := by decide +kernel
theorem dB_copy_10 : decode cB_copy 10 = .ok (.aload_n 0, 1) := by decide +kernel
theorem dB_copy_11 : decode cB_copy 11 = .ok (.aload_n 0, 1) := by decide +kernel
theorem dB_copy_12 : decode cB_copy 12 = .ok (.getfield 9, 3) := by decide +kernel
theorem dB_copy_15 : decode cB_copy 15 = .ok (.aload_n 0, 1) := by decide +kernel
theorem dB_copy_16 : decode cB_copy 16 = .ok (.getfield 17, 3) := by decide +kernel
theorem dB_copy_19 : decode cB_copy 19 = .ok (.iconst 1, 1) := by decide +kernel
theorem dB_copy_20 : decode cB_copy 20 = .ok (.isub, 1) := by decide +kernel
theorem dB_copy_21 : decode cB_copy 21 = .ok (.iload_n 1, 1) := by decide +kernel
theorem dB_copy_22 : decode cB_copy 22 = .ok (.isub, 1) := by decide +kernel
theorem dB_copy_23 : decode cB_copy 23 = .ok (.iaload, 1) := by decide +kernel
theorem dB_copy_24 : decode cB_copy 24 = .ok (.aload_n 0, 1) := by decide +kernel
theorem dB_copy_25 : decode cB_copy 25 = .ok (.getfield 13, 3) := by decide +kernel
theorem dB_copy_28 : decode cB_copy 28 = .ok (.aload_n 0, 1) := by decide +kernel
theorem dB_copy_29 : decode cB_copy 29 = .ok (.getfield 17, 3) := by decide +kernel
theorem dB_copy_32 : decode cB_copy 32 = .ok (.iconst 1, 1) := by decide +kernel
theorem dB_copy_33 : decode cB_copy 33 = .ok (.isub, 1) := by decide +kernel
theorem dB_copy_34 : decode cB_copy 34 = .ok (.iload_n 1, 1) := by decide +kernel
theorem dB_copy_35 : decode cB_copy 35 = .ok (.isub, 1) := by decide +kernel
theorem dB_copy_36 : decode cB_copy 36 = .ok (.laload, 1) := by decide +kernel
theorem dB_copy_37 : decode cB_copy 37 = .ok (.invokevirtual 24, 3) := by decide +kernel
theorem dB_copy_40 : decode cB_copy 40 = .ok (.ireturn, 1) := by decide +kernel
theorem dB_clear_0 : decode cB_clear 0 = .ok (.aload_n 0, 1) := by decide +kernel
theorem dB_clear_1 : decode cB_clear 1 = .ok (.getfield 17, 3) := by decide +kernel
theorem dB_clear_4 : decode cB_clear 4 = .ok (.istore_n 1, 1) := by decide +kernel
theorem dB_clear_5 : decode cB_clear 5 = .ok (.aload_n 0, 1) := by decide +kernel
theorem dB_clear_6 : decode cB_clear 6 = .ok (.iconst 0, 1) := by decide +kernel
theorem dB_clear_7 : decode cB_clear 7 = .ok (.putfield 17, 3) := by decide +kernel
theorem dB_clear_10 : decode cB_clear 10 = .ok (.iload_n 1, 1) := by decide +kernel
theorem dB_clear_11 : decode cB_clear 11 = .ok (.ireturn, 1) := by decide +kernel
theorem dB_areOnTop_0 : decode cB_areOnTop 0 = .ok (.iload_n 1, 1) := by decide +kernel
theorem dB_areOnTop_1 : decode cB_areOnTop 1 = .ok (.iconst 1, 1) := by decide +kernel
theorem dB_areOnTop_2 : decode cB_areOnTop 2 = .ok (.if_icmp .lt 11, 3) := by decide +kernel
theorem dB_areOnTop_5 : decode cB_areOnTop 5 = .ok (.iload_n 1, 1) := by decide +kernel
theorem dB_areOnTop_6 : decode cB_areOnTop 6 = .ok (.aload_n 0, 1) := by decide +kernel
theorem dB_areOnTop_7 : decode cB_areOnTop 7 = .ok (.getfield 17, 3) := by decide +kernel
theorem dB_areOnTop_10 : decode cB_areOnTop 10 = .ok (.if_icmp .le 5, 3) := by decide +kernel
theorem dB_areOnTop_13 : decode cB_areOnTop 13 = .ok (.iconst 0, 1) := by decide +kernel
theorem dB_areOnTop_14 : decode cB_areOnTop 14 = .ok (.ireturn, 1) := by decide +kernel
theorem dB_areOnTop_15 : decode cB_areOnTop 15 = .ok (.aload_n 0, 1) := by decide +kernel
theorem dB_areOnTop_16 : decode cB_areOnTop 16 = .ok (.getfield 17, 3) := by decide +kernel
theorem dB_areOnTop_19 : decode cB_areOnTop 19 = .ok (.iload_n 1, 1) := by decide +kernel
theorem dB_areOnTop_20 : decode cB_areOnTop 20 = .ok (.isub, 1) := by decide +kernel
theorem dB_areOnTop_21 : decode cB_areOnTop 21 = .ok (.istore_n 3, 1) := by decide +kernel
theorem dB_areOnTop_22 : decode cB_areOnTop 22 = .ok (.iload_n 3, 1) := by decide +kernel
theorem dB_areOnTop_23 : decode cB_areOnTop 23 = .ok (.aload_n 0, 1) := by decide +kernel
theorem dB_areOnTop_24 : decode cB_areOnTop 24 = .ok (.getfield 17, 3) := by decide +kernel
theorem dB_areOnTop_27 : decode cB_areOnTop 27 = .ok (.if_icmp .ge 21, 3) := by decide +kernel
theorem dB_areOnTop_30 : decode cB_areOnTop 30 = .ok (.aload_n 0, 1) := by decide +kernel
theorem dB_areOnTop_31 : decode cB_areOnTop 31 = .ok (.getfield 9, 3) := by decide +kernel
theorem dB_areOnTop_34 : decode cB_areOnTop 34 = .ok (.iload_n 3, 1) := by decide +kernel
theorem dB_areOnTop_35 : decode cB_areOnTop 35 = .ok (.iaload, 1) := by decide +kernel
theorem dB_areOnTop_36 : decode cB_areOnTop 36 = .ok (.iload_n 2, 1) := by decide +kernel
theorem dB_areOnTop_37 : decode cB_areOnTop 37 = .ok (.if_icmp .eq 5, 3) := by decide +kernel
theorem dB_areOnTop_40 : decode cB_areOnTop 40 = .ok (.iconst 0, 1) := by decide +kernel
theorem dB_areOnTop_41 : decode cB_areOnTop 41 = .ok (.ireturn, 1) := by decide +kernel
theorem dB_areOnTop_42 : decode cB_areOnTop 42 = .ok (.iinc 3 1, 3) := by decide +kernel
theorem dB_areOnTop_45 : decode cB_areOnTop 45 = .ok (.goto (-23), 3) := by decide +kernel
theorem dB_areOnTop_48 : decode cB_areOnTop 48 = .ok (.iconst 1, 1) := by decide +kernel
theorem dB_areOnTop_49 : decode cB_areOnTop 49 = .ok (.ireturn, 1) := by decide +kernel
