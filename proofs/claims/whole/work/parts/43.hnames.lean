abbrev cM_thrown : ByteArray := prog_8_method_2_code
def yM_thrown : MethodName := ⟨"BitNumbersModel", "thrown", "()I"⟩
def wsM_thrown : List Cond := .code yM_thrown cM_thrown 1 (some .int) :: aw
abbrev cM_quotient : ByteArray := prog_8_method_17_code
def yM_quotient : MethodName := ⟨"BitNumbersModel", "quotient", "(IIJJ)J"⟩
def wsM_quotient : List Cond := .code yM_quotient cM_quotient 15 (some .long) :: aw
abbrev cM_whole : ByteArray := prog_8_method_19_code
def yM_whole : MethodName := ⟨"BitNumbersModel", "whole", "(IIJJ)J"⟩
def wsM_whole : List Cond := .code yM_whole cM_whole 10 (some .long) :: aw
abbrev cM_order : ByteArray := prog_8_method_49_code
def yM_order : MethodName := ⟨"BitNumbersModel", "order", "(JI)I"⟩
def wsM_order : List Cond := .code yM_order cM_order 9 (some .int) :: aw
abbrev cM_rounded : ByteArray := prog_8_method_50_code
def yM_rounded : MethodName := ⟨"BitNumbersModel", "rounded", "(IZI)J"⟩
def wsM_rounded : List Cond := .code yM_rounded cM_rounded 13 (some .long) :: aw
abbrev cM_bound : ByteArray := prog_8_method_61_code
def yM_bound : MethodName := ⟨"BitNumbersModel", "bound", "(ZIJ)J"⟩
def wsM_bound : List Cond := .code yM_bound cM_bound 5 (some .long) :: aw
abbrev cM_trap : ByteArray := prog_8_method_70_code
def yM_trap : MethodName := ⟨"BitNumbersModel", "trap", "()I"⟩
def wsM_trap : List Cond := .code yM_trap cM_trap 1 (some .int) :: aw
abbrev rmM_thrown : Room := { frames := 0, cells := 0, slots := 0, locals := 0 }
abbrev rmM_quotient : Room := { frames := 2, cells := 0, slots := 0, locals := 54 }
abbrev rmM_whole : Room := { frames := 3, cells := 0, slots := 0, locals := 88 }
abbrev rmM_order : Room := { frames := 2, cells := 0, slots := 0, locals := 54 }
abbrev rmM_rounded : Room := { frames := 3, cells := 0, slots := 0, locals := 82 }
abbrev rmM_bound : Room := { frames := 0, cells := 0, slots := 0, locals := 0 }
abbrev rmM_trap : Room := { frames := 0, cells := 0, slots := 0, locals := 0 }
theorem w_6 : (Cond.selects "BitNumbersModel" yM_quotient yM_quotient) ∈ aw := aw_in 6 (by decide +kernel) (by decide +kernel)
theorem w_10 : (Cond.selects "BitNumbersModel" yM_order yM_order) ∈ aw := aw_in 10 (by decide +kernel) (by decide +kernel)
theorem w_11 : (Cond.selects "BitNumbersModel" yM_multiply yM_multiply) ∈ aw := aw_in 11 (by decide +kernel) (by decide +kernel)
theorem w_12 : (Cond.selects "BitNumbersModel" yM_compareFactor yM_compareFactor) ∈ aw := aw_in 12 (by decide +kernel) (by decide +kernel)
theorem w_487 : (Cond.fieldLink "BitNumbersModel" 26 "BitNumbersModel" "thrown" "I") ∈ aw := aw_in 487 (by decide +kernel) (by decide +kernel)
theorem w_488 : (Cond.fieldLink "BitNumbersModel" 59 "BitNumbersModel" "trap" "I") ∈ aw := aw_in 488 (by decide +kernel) (by decide +kernel)
theorem w_498 : (Cond.fieldLink "BitNumbersModel" 152 "BitNumbersModel" "dividend" "J") ∈ aw := aw_in 498 (by decide +kernel) (by decide +kernel)
theorem w_499 : (Cond.fieldLink "BitNumbersModel" 144 "BitNumbersModel" "divisor" "J") ∈ aw := aw_in 499 (by decide +kernel) (by decide +kernel)
theorem w_500 : (Cond.fieldLink "BitNumbersModel" 155 "BitNumbersModel" "scale" "I") ∈ aw := aw_in 500 (by decide +kernel) (by decide +kernel)
theorem w_622 : (Cond.methodLink "BitNumbersModel" 73 yM_zerosAhead) ∈ aw := aw_in 622 (by decide +kernel) (by decide +kernel)
theorem w_623 : (Cond.static yM_zerosAhead) ∈ aw := aw_in 623 (by decide +kernel) (by decide +kernel)
theorem w_624 : (Cond.code yM_zerosAhead cM_zerosAhead 5 (some .long)) ∈ aw := aw_in 624 (by decide +kernel) (by decide +kernel)
theorem w_625 : (Cond.methodLink "BitNumbersModel" 76 yM_zerosBehind) ∈ aw := aw_in 625 (by decide +kernel) (by decide +kernel)
theorem w_626 : (Cond.static yM_zerosBehind) ∈ aw := aw_in 626 (by decide +kernel) (by decide +kernel)
theorem w_627 : (Cond.code yM_zerosBehind cM_zerosBehind 5 (some .long)) ∈ aw := aw_in 627 (by decide +kernel) (by decide +kernel)
theorem w_628 : (Cond.methodLink "BitNumbersModel" 79 yM_ones) ∈ aw := aw_in 628 (by decide +kernel) (by decide +kernel)
theorem w_629 : (Cond.static yM_ones) ∈ aw := aw_in 629 (by decide +kernel) (by decide +kernel)
theorem w_630 : (Cond.code yM_ones cM_ones 6 (some .long)) ∈ aw := aw_in 630 (by decide +kernel) (by decide +kernel)
theorem w_631 : (Cond.methodLink "BitNumbersModel" 82 yM_turned) ∈ aw := aw_in 631 (by decide +kernel) (by decide +kernel)
theorem w_632 : (Cond.static yM_turned) ∈ aw := aw_in 632 (by decide +kernel) (by decide +kernel)
theorem w_633 : (Cond.code yM_turned cM_turned 9 (some .long)) ∈ aw := aw_in 633 (by decide +kernel) (by decide +kernel)
theorem w_634 : (Cond.methodLink "BitNumbersModel" 86 yM_quotient) ∈ aw := aw_in 634 (by decide +kernel) (by decide +kernel)
theorem w_636 : (Cond.instanceMethod yM_quotient) ∈ aw := aw_in 636 (by decide +kernel) (by decide +kernel)
theorem w_637 : (Cond.code yM_quotient cM_quotient 15 (some .long)) ∈ aw := aw_in 637 (by decide +kernel) (by decide +kernel)
theorem w_638 : (Cond.methodLink "BitNumbersModel" 62 yM_divide) ∈ aw := aw_in 638 (by decide +kernel) (by decide +kernel)
theorem w_639 : (Cond.static yM_divide) ∈ aw := aw_in 639 (by decide +kernel) (by decide +kernel)
theorem w_640 : (Cond.code yM_divide cM_divide 12 (some .long)) ∈ aw := aw_in 640 (by decide +kernel) (by decide +kernel)
theorem w_642 : (Cond.constantLong "BitNumbersModel" 66 (-2147483648)) ∈ aw := aw_in 642 (by decide +kernel) (by decide +kernel)
theorem w_643 : (Cond.constantLong "BitNumbersModel" 68 (-1)) ∈ aw := aw_in 643 (by decide +kernel) (by decide +kernel)
theorem w_648 : (Cond.methodLink "BitNumbersModel" 165 yM_signed) ∈ aw := aw_in 648 (by decide +kernel) (by decide +kernel)
theorem w_649 : (Cond.static yM_signed) ∈ aw := aw_in 649 (by decide +kernel) (by decide +kernel)
theorem w_650 : (Cond.code yM_signed cM_signed 4 (some .long)) ∈ aw := aw_in 650 (by decide +kernel) (by decide +kernel)
theorem w_679 : (Cond.methodLink "BitNumbersModel" 162 yM_order) ∈ aw := aw_in 679 (by decide +kernel) (by decide +kernel)
theorem w_681 : (Cond.instanceMethod yM_order) ∈ aw := aw_in 681 (by decide +kernel) (by decide +kernel)
theorem w_682 : (Cond.code yM_order cM_order 9 (some .int)) ∈ aw := aw_in 682 (by decide +kernel) (by decide +kernel)
theorem w_687 : (Cond.methodLink "BitNumbersModel" 148 yM_multiply) ∈ aw := aw_in 687 (by decide +kernel) (by decide +kernel)
theorem w_689 : (Cond.instanceMethod yM_multiply) ∈ aw := aw_in 689 (by decide +kernel) (by decide +kernel)
theorem w_690 : (Cond.code yM_multiply cM_multiply 11 none) ∈ aw := aw_in 690 (by decide +kernel) (by decide +kernel)
theorem w_692 : (Cond.methodLink "BitNumbersModel" 158 yM_compareFactor) ∈ aw := aw_in 692 (by decide +kernel) (by decide +kernel)
theorem w_694 : (Cond.instanceMethod yM_compareFactor) ∈ aw := aw_in 694 (by decide +kernel) (by decide +kernel)
theorem w_695 : (Cond.code yM_compareFactor cM_compareFactor 9 (some .int)) ∈ aw := aw_in 695 (by decide +kernel) (by decide +kernel)
theorem w_700 : (Cond.methodLink "BitNumbersModel" 169 yM_infinite) ∈ aw := aw_in 700 (by decide +kernel) (by decide +kernel)
theorem w_701 : (Cond.static yM_infinite) ∈ aw := aw_in 701 (by decide +kernel) (by decide +kernel)
theorem w_702 : (Cond.code yM_infinite cM_infinite 1 (some .long)) ∈ aw := aw_in 702 (by decide +kernel) (by decide +kernel)
theorem dM_thrown_0 : decode cM_thrown 0 = .ok (.aload_n 0, 1) := by decide +kernel
theorem dM_thrown_1 : decode cM_thrown 1 = .ok (.getfield 26, 3) := by decide +kernel
theorem dM_thrown_4 : decode cM_thrown 4 = .ok (.ireturn, 1) := by decide +kernel
theorem dM_quotient_0 : decode cM_quotient 0 = .ok (.iload_n 1, 1) := by decide +kernel
theorem dM_quotient_1 : decode cM_quotient 1 = .ok (.bipush 6, 2) := by decide +kernel
theorem dM_quotient_3 : decode cM_quotient 3 = .ok (.if_icmp .eq 9, 3) := by decide +kernel
theorem dM_quotient_6 : decode cM_quotient 6 = .ok (.iload_n 1, 1) := by decide +kernel
theorem dM_quotient_7 : decode cM_quotient 7 = .ok (.bipush 8, 2) := by decide +kernel
theorem dM_quotient_9 : decode cM_quotient 9 = .ok (.if_icmp .ne 7, 3) := by decide +kernel
theorem dM_quotient_12 : decode cM_quotient 12 = .ok (.iconst 1, 1) := by decide +kernel
theorem dM_quotient_13 : decode cM_quotient 13 = .ok (.goto 4, 3) := by decide +kernel
theorem dM_quotient_16 : decode cM_quotient 16 = .ok (.iconst 0, 1) := by decide +kernel
theorem dM_quotient_17 : decode cM_quotient 17 = .ok (.istore 7, 2) := by decide +kernel
theorem dM_quotient_19 : decode cM_quotient 19 = .ok (.iload_n 1, 1) := by decide +kernel
theorem dM_quotient_20 : decode cM_quotient 20 = .ok (.bipush 7, 2) := by decide +kernel
theorem dM_quotient_22 : decode cM_quotient 22 = .ok (.if_icmp .le 7, 3) := by decide +kernel
theorem dM_quotient_25 : decode cM_quotient 25 = .ok (.iconst 1, 1) := by decide +kernel
theorem dM_quotient_26 : decode cM_quotient 26 = .ok (.goto 4, 3) := by decide +kernel
theorem dM_quotient_29 : decode cM_quotient 29 = .ok (.iconst 0, 1) := by decide +kernel
theorem dM_quotient_30 : decode cM_quotient 30 = .ok (.istore 8, 2) := by decide +kernel
theorem dM_quotient_32 : decode cM_quotient 32 = .ok (.lload 5, 2) := by decide +kernel
theorem dM_quotient_34 : decode cM_quotient 34 = .ok (.lconst 0, 1) := by decide +kernel
theorem dM_quotient_35 : decode cM_quotient 35 = .ok (.lcmp, 1) := by decide +kernel
theorem dM_quotient_36 : decode cM_quotient 36 = .ok (.ifCond .ne 10, 3) := by decide +kernel
theorem dM_quotient_39 : decode cM_quotient 39 = .ok (.aload_n 0, 1) := by decide +kernel
theorem dM_quotient_40 : decode cM_quotient 40 = .ok (.iconst 1, 1) := by decide +kernel
theorem dM_quotient_41 : decode cM_quotient 41 = .ok (.putfield 59, 3) := by decide +kernel
theorem dM_quotient_44 : decode cM_quotient 44 = .ok (.lconst 0, 1) := by decide +kernel
theorem dM_quotient_45 : decode cM_quotient 45 = .ok (.lreturn, 1) := by decide +kernel
theorem dM_quotient_46 : decode cM_quotient 46 = .ok (.iload 7, 2) := by decide +kernel
theorem dM_quotient_48 : decode cM_quotient 48 = .ok (.ifCond .ne 12, 3) := by decide +kernel
theorem dM_quotient_51 : decode cM_quotient 51 = .ok (.lload_n 3, 1) := by decide +kernel
theorem dM_quotient_52 : decode cM_quotient 52 = .ok (.lload 5, 2) := by decide +kernel
theorem dM_quotient_54 : decode cM_quotient 54 = .ok (.iload 8, 2) := by decide +kernel
theorem dM_quotient_56 : decode cM_quotient 56 = .ok (.invokestatic 62, 3) := by decide +kernel
theorem dM_quotient_59 : decode cM_quotient 59 = .ok (.lreturn, 1) := by decide +kernel
theorem dM_quotient_60 : decode cM_quotient 60 = .ok (.iload_n 2, 1) := by decide +kernel
theorem dM_quotient_61 : decode cM_quotient 61 = .ok (.lload_n 3, 1) := by decide +kernel
theorem dM_quotient_62 : decode cM_quotient 62 = .ok (.invokestatic 45, 3) := by decide +kernel
theorem dM_quotient_65 : decode cM_quotient 65 = .ok (.lstore 9, 2) := by decide +kernel
theorem dM_quotient_67 : decode cM_quotient 67 = .ok (.iload_n 2, 1) := by decide +kernel
theorem dM_quotient_68 : decode cM_quotient 68 = .ok (.lload 5, 2) := by decide +kernel
theorem dM_quotient_70 : decode cM_quotient 70 = .ok (.invokestatic 45, 3) := by decide +kernel
theorem dM_quotient_73 : decode cM_quotient 73 = .ok (.lstore 11, 2) := by decide +kernel
theorem dM_quotient_75 : decode cM_quotient 75 = .ok (.iload_n 2, 1) := by decide +kernel
theorem dM_quotient_76 : decode cM_quotient 76 = .ok (.ifCond .ne 9, 3) := by decide +kernel
theorem dM_quotient_79 : decode cM_quotient 79 = .ok (.ldc2_w 66, 3) := by decide +kernel
theorem dM_quotient_82 : decode cM_quotient 82 = .ok (.goto 6, 3) := by decide +kernel
theorem dM_quotient_85 : decode cM_quotient 85 = .ok (.ldc2_w 43, 3) := by decide +kernel
theorem dM_quotient_88 : decode cM_quotient 88 = .ok (.lstore 13, 2) := by decide +kernel
theorem dM_quotient_90 : decode cM_quotient 90 = .ok (.lload 11, 2) := by decide +kernel
theorem dM_quotient_92 : decode cM_quotient 92 = .ok (.ldc2_w 68, 3) := by decide +kernel
theorem dM_quotient_95 : decode cM_quotient 95 = .ok (.lcmp, 1) := by decide +kernel
theorem dM_quotient_96 : decode cM_quotient 96 = .ok (.ifCond .ne 38, 3) := by decide +kernel
theorem dM_quotient_99 : decode cM_quotient 99 = .ok (.aload_n 0, 1) := by decide +kernel
theorem dM_quotient_100 : decode cM_quotient 100 = .ok (.lload 9, 2) := by decide +kernel
theorem dM_quotient_102 : decode cM_quotient 102 = .ok (.lload 13, 2) := by decide +kernel
theorem dM_quotient_104 : decode cM_quotient 104 = .ok (.lcmp, 1) := by decide +kernel
theorem dM_quotient_105 : decode cM_quotient 105 = .ok (.ifCond .ne 12, 3) := by decide +kernel
theorem dM_quotient_108 : decode cM_quotient 108 = .ok (.iload 8, 2) := by decide +kernel
theorem dM_quotient_110 : decode cM_quotient 110 = .ok (.ifCond .ne 7, 3) := by decide +kernel
theorem dM_quotient_113 : decode cM_quotient 113 = .ok (.iconst 2, 1) := by decide +kernel
theorem dM_quotient_114 : decode cM_quotient 114 = .ok (.goto 4, 3) := by decide +kernel
theorem dM_quotient_117 : decode cM_quotient 117 = .ok (.iconst 0, 1) := by decide +kernel
theorem dM_quotient_118 : decode cM_quotient 118 = .ok (.putfield 59, 3) := by decide +kernel
theorem dM_quotient_121 : decode cM_quotient 121 = .ok (.iload 8, 2) := by decide +kernel
theorem dM_quotient_123 : decode cM_quotient 123 = .ok (.ifCond .eq 7, 3) := by decide +kernel
theorem dM_quotient_126 : decode cM_quotient 126 = .ok (.lconst 0, 1) := by decide +kernel
theorem dM_quotient_127 : decode cM_quotient 127 = .ok (.goto 6, 3) := by decide +kernel
theorem dM_quotient_130 : decode cM_quotient 130 = .ok (.lload 9, 2) := by decide +kernel
theorem dM_quotient_132 : decode cM_quotient 132 = .ok (.lneg, 1) := by decide +kernel
theorem dM_quotient_133 : decode cM_quotient 133 = .ok (.lreturn, 1) := by decide +kernel
theorem dM_quotient_134 : decode cM_quotient 134 = .ok (.iload 8, 2) := by decide +kernel
theorem dM_quotient_136 : decode cM_quotient 136 = .ok (.ifCond .eq 11, 3) := by decide +kernel
theorem dM_quotient_139 : decode cM_quotient 139 = .ok (.lload 9, 2) := by decide +kernel
theorem dM_quotient_141 : decode cM_quotient 141 = .ok (.lload 11, 2) := by decide +kernel
theorem dM_quotient_143 : decode cM_quotient 143 = .ok (.lrem, 1) := by decide +kernel
theorem dM_quotient_144 : decode cM_quotient 144 = .ok (.goto 8, 3) := by decide +kernel
theorem dM_quotient_147 : decode cM_quotient 147 = .ok (.lload 9, 2) := by decide +kernel
theorem dM_quotient_149 : decode cM_quotient 149 = .ok (.lload 11, 2) := by decide +kernel
theorem dM_quotient_151 : decode cM_quotient 151 = .ok (.ldiv, 1) := by decide +kernel
theorem dM_quotient_152 : decode cM_quotient 152 = .ok (.lreturn, 1) := by decide +kernel
theorem dM_whole_0 : decode cM_whole 0 = .ok (.iload_n 2, 1) := by decide +kernel
theorem dM_whole_1 : decode cM_whole 1 = .ok (.invokestatic 70, 3) := by decide +kernel
theorem dM_whole_4 : decode cM_whole 4 = .ok (.istore 7, 2) := by decide +kernel
theorem dM_whole_6 : decode cM_whole 6 = .ok (.lload 5, 2) := by decide +kernel
theorem dM_whole_8 : decode cM_whole 8 = .ok (.iload 7, 2) := by decide +kernel
theorem dM_whole_10 : decode cM_whole 10 = .ok (.iconst 1, 1) := by decide +kernel
theorem dM_whole_11 : decode cM_whole 11 = .ok (.isub, 1) := by decide +kernel
theorem dM_whole_12 : decode cM_whole 12 = .ok (.i2l, 1) := by decide +kernel
theorem dM_whole_13 : decode cM_whole 13 = .ok (.land, 1) := by decide +kernel
theorem dM_whole_14 : decode cM_whole 14 = .ok (.lstore 8, 2) := by decide +kernel
theorem dM_whole_16 : decode cM_whole 16 = .ok (.iload_n 1, 1) := by decide +kernel
theorem dM_whole_17 : decode cM_whole 17 = .ok (.tableswitch 188 0 17 #[87, 94, 101, 108, 113, 118, 188, 188, 188, 188, 123, 128, 133, 138, 144, 154, 160, 169], 87) := by decide +kernel
theorem dM_whole_104 : decode cM_whole 104 = .ok (.iload 7, 2) := by decide +kernel
theorem dM_whole_106 : decode cM_whole 106 = .ok (.lload_n 3, 1) := by decide +kernel
theorem dM_whole_107 : decode cM_whole 107 = .ok (.invokestatic 73, 3) := by decide +kernel
theorem dM_whole_110 : decode cM_whole 110 = .ok (.lreturn, 1) := by decide +kernel
theorem dM_whole_111 : decode cM_whole 111 = .ok (.iload 7, 2) := by decide +kernel
theorem dM_whole_113 : decode cM_whole 113 = .ok (.lload_n 3, 1) := by decide +kernel
theorem dM_whole_114 : decode cM_whole 114 = .ok (.invokestatic 76, 3) := by decide +kernel
theorem dM_whole_117 : decode cM_whole 117 = .ok (.lreturn, 1) := by decide +kernel
theorem dM_whole_118 : decode cM_whole 118 = .ok (.iload 7, 2) := by decide +kernel
theorem dM_whole_120 : decode cM_whole 120 = .ok (.lload_n 3, 1) := by decide +kernel
theorem dM_whole_121 : decode cM_whole 121 = .ok (.invokestatic 79, 3) := by decide +kernel
theorem dM_whole_124 : decode cM_whole 124 = .ok (.lreturn, 1) := by decide +kernel
theorem dM_whole_125 : decode cM_whole 125 = .ok (.lload_n 3, 1) := by decide +kernel
theorem dM_whole_126 : decode cM_whole 126 = .ok (.lload 5, 2) := by decide +kernel
theorem dM_whole_128 : decode cM_whole 128 = .ok (.ladd, 1) := by decide +kernel
theorem dM_whole_129 : decode cM_whole 129 = .ok (.lreturn, 1) := by decide +kernel
theorem dM_whole_130 : decode cM_whole 130 = .ok (.lload_n 3, 1) := by decide +kernel
theorem dM_whole_131 : decode cM_whole 131 = .ok (.lload 5, 2) := by decide +kernel
theorem dM_whole_133 : decode cM_whole 133 = .ok (.lsub, 1) := by decide +kernel
theorem dM_whole_134 : decode cM_whole 134 = .ok (.lreturn, 1) := by decide +kernel
theorem dM_whole_135 : decode cM_whole 135 = .ok (.lload_n 3, 1) := by decide +kernel
theorem dM_whole_136 : decode cM_whole 136 = .ok (.lload 5, 2) := by decide +kernel
theorem dM_whole_138 : decode cM_whole 138 = .ok (.lmul, 1) := by decide +kernel
theorem dM_whole_139 : decode cM_whole 139 = .ok (.lreturn, 1) := by decide +kernel
theorem dM_whole_140 : decode cM_whole 140 = .ok (.lload_n 3, 1) := by decide +kernel
theorem dM_whole_141 : decode cM_whole 141 = .ok (.lload 5, 2) := by decide +kernel
theorem dM_whole_143 : decode cM_whole 143 = .ok (.land, 1) := by decide +kernel
theorem dM_whole_144 : decode cM_whole 144 = .ok (.lreturn, 1) := by decide +kernel
theorem dM_whole_145 : decode cM_whole 145 = .ok (.lload_n 3, 1) := by decide +kernel
theorem dM_whole_146 : decode cM_whole 146 = .ok (.lload 5, 2) := by decide +kernel
theorem dM_whole_148 : decode cM_whole 148 = .ok (.lor, 1) := by decide +kernel
theorem dM_whole_149 : decode cM_whole 149 = .ok (.lreturn, 1) := by decide +kernel
theorem dM_whole_150 : decode cM_whole 150 = .ok (.lload_n 3, 1) := by decide +kernel
theorem dM_whole_151 : decode cM_whole 151 = .ok (.lload 5, 2) := by decide +kernel
theorem dM_whole_153 : decode cM_whole 153 = .ok (.lxor, 1) := by decide +kernel
theorem dM_whole_154 : decode cM_whole 154 = .ok (.lreturn, 1) := by decide +kernel
theorem dM_whole_155 : decode cM_whole 155 = .ok (.lload_n 3, 1) := by decide +kernel
theorem dM_whole_156 : decode cM_whole 156 = .ok (.lload 8, 2) := by decide +kernel
theorem dM_whole_158 : decode cM_whole 158 = .ok (.l2i, 1) := by decide +kernel
theorem dM_whole_159 : decode cM_whole 159 = .ok (.lshl, 1) := by decide +kernel
theorem dM_whole_160 : decode cM_whole 160 = .ok (.lreturn, 1) := by decide +kernel
theorem dM_whole_161 : decode cM_whole 161 = .ok (.iload_n 2, 1) := by decide +kernel
theorem dM_whole_162 : decode cM_whole 162 = .ok (.lload_n 3, 1) := by decide +kernel
theorem dM_whole_163 : decode cM_whole 163 = .ok (.invokestatic 45, 3) := by decide +kernel
theorem dM_whole_166 : decode cM_whole 166 = .ok (.lload 8, 2) := by decide +kernel
theorem dM_whole_168 : decode cM_whole 168 = .ok (.l2i, 1) := by decide +kernel
theorem dM_whole_169 : decode cM_whole 169 = .ok (.lshr, 1) := by decide +kernel
theorem dM_whole_170 : decode cM_whole 170 = .ok (.lreturn, 1) := by decide +kernel
theorem dM_whole_171 : decode cM_whole 171 = .ok (.lload_n 3, 1) := by decide +kernel
theorem dM_whole_172 : decode cM_whole 172 = .ok (.lload 8, 2) := by decide +kernel
theorem dM_whole_174 : decode cM_whole 174 = .ok (.l2i, 1) := by decide +kernel
theorem dM_whole_175 : decode cM_whole 175 = .ok (.lushr, 1) := by decide +kernel
theorem dM_whole_176 : decode cM_whole 176 = .ok (.lreturn, 1) := by decide +kernel
theorem dM_whole_177 : decode cM_whole 177 = .ok (.iload 7, 2) := by decide +kernel
theorem dM_whole_179 : decode cM_whole 179 = .ok (.lload_n 3, 1) := by decide +kernel
theorem dM_whole_180 : decode cM_whole 180 = .ok (.lload 8, 2) := by decide +kernel
theorem dM_whole_182 : decode cM_whole 182 = .ok (.invokestatic 82, 3) := by decide +kernel
theorem dM_whole_185 : decode cM_whole 185 = .ok (.lreturn, 1) := by decide +kernel
theorem dM_whole_186 : decode cM_whole 186 = .ok (.iload 7, 2) := by decide +kernel
theorem dM_whole_188 : decode cM_whole 188 = .ok (.lload_n 3, 1) := by decide +kernel
theorem dM_whole_189 : decode cM_whole 189 = .ok (.iload 7, 2) := by decide +kernel
theorem dM_whole_191 : decode cM_whole 191 = .ok (.i2l, 1) := by decide +kernel
theorem dM_whole_192 : decode cM_whole 192 = .ok (.lload 8, 2) := by decide +kernel
theorem dM_whole_194 : decode cM_whole 194 = .ok (.lsub, 1) := by decide +kernel
theorem dM_whole_195 : decode cM_whole 195 = .ok (.iload 7, 2) := by decide +kernel
theorem dM_whole_197 : decode cM_whole 197 = .ok (.iconst 1, 1) := by decide +kernel
theorem dM_whole_198 : decode cM_whole 198 = .ok (.isub, 1) := by decide +kernel
theorem dM_whole_199 : decode cM_whole 199 = .ok (.i2l, 1) := by decide +kernel
theorem dM_whole_200 : decode cM_whole 200 = .ok (.land, 1) := by decide +kernel
theorem dM_whole_201 : decode cM_whole 201 = .ok (.invokestatic 82, 3) := by decide +kernel
theorem dM_whole_204 : decode cM_whole 204 = .ok (.lreturn, 1) := by decide +kernel
theorem dM_whole_205 : decode cM_whole 205 = .ok (.aload_n 0, 1) := by decide +kernel
theorem dM_whole_206 : decode cM_whole 206 = .ok (.iload_n 1, 1) := by decide +kernel
theorem dM_whole_207 : decode cM_whole 207 = .ok (.iload_n 2, 1) := by decide +kernel
theorem dM_whole_208 : decode cM_whole 208 = .ok (.lload_n 3, 1) := by decide +kernel
theorem dM_whole_209 : decode cM_whole 209 = .ok (.lload 5, 2) := by decide +kernel
theorem dM_whole_211 : decode cM_whole 211 = .ok (.invokevirtual 86, 3) := by decide +kernel
theorem dM_whole_214 : decode cM_whole 214 = .ok (.lreturn, 1) := by decide +kernel
theorem dM_order_0 : decode cM_order 0 = .ok (.aload_n 0, 1) := by decide +kernel
theorem dM_order_1 : decode cM_order 1 = .ok (.getfield 125, 3) := by decide +kernel
theorem dM_order_4 : decode cM_order 4 = .ok (.ifCond .ne 117, 3) := by decide +kernel
theorem dM_order_7 : decode cM_order 7 = .ok (.iload_n 3, 1) := by decide +kernel
theorem dM_order_8 : decode cM_order 8 = .ok (.aload_n 0, 1) := by decide +kernel
theorem dM_order_9 : decode cM_order 9 = .ok (.getfield 135, 3) := by decide +kernel
theorem dM_order_12 : decode cM_order 12 = .ok (.isub, 1) := by decide +kernel
theorem dM_order_13 : decode cM_order 13 = .ok (.istore 4, 2) := by decide +kernel
theorem dM_order_15 : decode cM_order 15 = .ok (.aload_n 0, 1) := by decide +kernel
theorem dM_order_16 : decode cM_order 16 = .ok (.getfield 128, 3) := by decide +kernel
theorem dM_order_19 : decode cM_order 19 = .ok (.iload 4, 2) := by decide +kernel
theorem dM_order_21 : decode cM_order 21 = .ok (.bipush 64, 2) := by decide +kernel
theorem dM_order_23 : decode cM_order 23 = .ok (.iadd, 1) := by decide +kernel
theorem dM_order_24 : decode cM_order 24 = .ok (.bipush 16, 2) := by decide +kernel
theorem dM_order_26 : decode cM_order 26 = .ok (.idiv, 1) := by decide +kernel
theorem dM_order_27 : decode cM_order 27 = .ok (.iconst 1, 1) := by decide +kernel
theorem dM_order_28 : decode cM_order 28 = .ok (.iadd, 1) := by decide +kernel
theorem dM_order_29 : decode cM_order 29 = .ok (.if_icmp .le 10, 3) := by decide +kernel
theorem dM_order_32 : decode cM_order 32 = .ok (.aload_n 0, 1) := by decide +kernel
theorem dM_order_33 : decode cM_order 33 = .ok (.getfield 128, 3) := by decide +kernel
theorem dM_order_36 : decode cM_order 36 = .ok (.goto 13, 3) := by decide +kernel
theorem dM_order_39 : decode cM_order 39 = .ok (.iload 4, 2) := by decide +kernel
theorem dM_order_41 : decode cM_order 41 = .ok (.bipush 64, 2) := by decide +kernel
theorem dM_order_43 : decode cM_order 43 = .ok (.iadd, 1) := by decide +kernel
theorem dM_order_44 : decode cM_order 44 = .ok (.bipush 16, 2) := by decide +kernel
theorem dM_order_46 : decode cM_order 46 = .ok (.idiv, 1) := by decide +kernel
theorem dM_order_47 : decode cM_order 47 = .ok (.iconst 1, 1) := by decide +kernel
theorem dM_order_48 : decode cM_order 48 = .ok (.iadd, 1) := by decide +kernel
theorem dM_order_49 : decode cM_order 49 = .ok (.istore 5, 2) := by decide +kernel
theorem dM_order_51 : decode cM_order 51 = .ok (.iload 5, 2) := by decide +kernel
theorem dM_order_53 : decode cM_order 53 = .ok (.iconst 1, 1) := by decide +kernel
theorem dM_order_54 : decode cM_order 54 = .ok (.isub, 1) := by decide +kernel
theorem dM_order_55 : decode cM_order 55 = .ok (.istore 6, 2) := by decide +kernel
theorem dM_order_57 : decode cM_order 57 = .ok (.iload 6, 2) := by decide +kernel
theorem dM_order_59 : decode cM_order 59 = .ok (.ifCond .lt 60, 3) := by decide +kernel
theorem dM_order_62 : decode cM_order 62 = .ok (.iload 6, 2) := by decide +kernel
theorem dM_order_64 : decode cM_order 64 = .ok (.sipush 320, 3) := by decide +kernel
theorem dM_order_67 : decode cM_order 67 = .ok (.if_icmp .ge 13, 3) := by decide +kernel
theorem dM_order_70 : decode cM_order 70 = .ok (.aload_n 0, 1) := by decide +kernel
theorem dM_order_71 : decode cM_order 71 = .ok (.getfield 17, 3) := by decide +kernel
theorem dM_order_74 : decode cM_order 74 = .ok (.iload 6, 2) := by decide +kernel
theorem dM_order_76 : decode cM_order 76 = .ok (.iaload, 1) := by decide +kernel
theorem dM_order_77 : decode cM_order 77 = .ok (.goto 4, 3) := by decide +kernel
theorem dM_order_80 : decode cM_order 80 = .ok (.iconst 0, 1) := by decide +kernel
theorem dM_order_81 : decode cM_order 81 = .ok (.istore 7, 2) := by decide +kernel
theorem dM_order_83 : decode cM_order 83 = .ok (.lload_n 1, 1) := by decide +kernel
theorem dM_order_84 : decode cM_order 84 = .ok (.iload 4, 2) := by decide +kernel
theorem dM_order_86 : decode cM_order 86 = .ok (.iload 6, 2) := by decide +kernel
theorem dM_order_88 : decode cM_order 88 = .ok (.invokestatic 121, 3) := by decide +kernel
theorem dM_order_91 : decode cM_order 91 = .ok (.istore 8, 2) := by decide +kernel
theorem dM_order_93 : decode cM_order 93 = .ok (.iload 7, 2) := by decide +kernel
theorem dM_order_95 : decode cM_order 95 = .ok (.iload 8, 2) := by decide +kernel
theorem dM_order_97 : decode cM_order 97 = .ok (.if_icmp .eq 16, 3) := by decide +kernel
theorem dM_order_100 : decode cM_order 100 = .ok (.iload 7, 2) := by decide +kernel
theorem dM_order_102 : decode cM_order 102 = .ok (.iload 8, 2) := by decide +kernel
theorem dM_order_104 : decode cM_order 104 = .ok (.if_icmp .ge 7, 3) := by decide +kernel
theorem dM_order_107 : decode cM_order 107 = .ok (.iconst (-1), 1) := by decide +kernel
theorem dM_order_108 : decode cM_order 108 = .ok (.goto 4, 3) := by decide +kernel
theorem dM_order_111 : decode cM_order 111 = .ok (.iconst 1, 1) := by decide +kernel
theorem dM_order_112 : decode cM_order 112 = .ok (.ireturn, 1) := by decide +kernel
theorem dM_order_113 : decode cM_order 113 = .ok (.iinc 6 (-1), 3) := by decide +kernel
theorem dM_order_116 : decode cM_order 116 = .ok (.goto (-59), 3) := by decide +kernel
theorem dM_order_119 : decode cM_order 119 = .ok (.iconst 0, 1) := by decide +kernel
theorem dM_order_120 : decode cM_order 120 = .ok (.ireturn, 1) := by decide +kernel
theorem dM_order_121 : decode cM_order 121 = .ok (.aload_n 0, 1) := by decide +kernel
theorem dM_order_122 : decode cM_order 122 = .ok (.lload_n 1, 1) := by decide +kernel
theorem dM_order_123 : decode cM_order 123 = .ok (.aload_n 0, 1) := by decide +kernel
theorem dM_order_124 : decode cM_order 124 = .ok (.getfield 125, 3) := by decide +kernel
theorem dM_order_127 : decode cM_order 127 = .ok (.iconst 1, 1) := by decide +kernel
theorem dM_order_128 : decode cM_order 128 = .ok (.if_icmp .ne 10, 3) := by decide +kernel
theorem dM_order_131 : decode cM_order 131 = .ok (.aload_n 0, 1) := by decide +kernel
theorem dM_order_132 : decode cM_order 132 = .ok (.getfield 144, 3) := by decide +kernel
theorem dM_order_135 : decode cM_order 135 = .ok (.goto 4, 3) := by decide +kernel
theorem dM_order_138 : decode cM_order 138 = .ok (.lload_n 1, 1) := by decide +kernel
theorem dM_order_139 : decode cM_order 139 = .ok (.invokevirtual 148, 3) := by decide +kernel
theorem dM_order_142 : decode cM_order 142 = .ok (.aload_n 0, 1) := by decide +kernel
theorem dM_order_143 : decode cM_order 143 = .ok (.aload_n 0, 1) := by decide +kernel
theorem dM_order_144 : decode cM_order 144 = .ok (.getfield 152, 3) := by decide +kernel
theorem dM_order_147 : decode cM_order 147 = .ok (.aload_n 0, 1) := by decide +kernel
theorem dM_order_148 : decode cM_order 148 = .ok (.getfield 155, 3) := by decide +kernel
theorem dM_order_151 : decode cM_order 151 = .ok (.aload_n 0, 1) := by decide +kernel
theorem dM_order_152 : decode cM_order 152 = .ok (.getfield 125, 3) := by decide +kernel
theorem dM_order_155 : decode cM_order 155 = .ok (.iconst 1, 1) := by decide +kernel
theorem dM_order_156 : decode cM_order 156 = .ok (.if_icmp .ne 7, 3) := by decide +kernel
theorem dM_order_159 : decode cM_order 159 = .ok (.iload_n 3, 1) := by decide +kernel
theorem dM_order_160 : decode cM_order 160 = .ok (.goto 6, 3) := by decide +kernel
theorem dM_order_163 : decode cM_order 163 = .ok (.iconst 2, 1) := by decide +kernel
theorem dM_order_164 : decode cM_order 164 = .ok (.iload_n 3, 1) := by decide +kernel
theorem dM_order_165 : decode cM_order 165 = .ok (.imul, 1) := by decide +kernel
theorem dM_order_166 : decode cM_order 166 = .ok (.isub, 1) := by decide +kernel
theorem dM_order_167 : decode cM_order 167 = .ok (.invokevirtual 158, 3) := by decide +kernel
theorem dM_order_170 : decode cM_order 170 = .ok (.ineg, 1) := by decide +kernel
theorem dM_order_171 : decode cM_order 171 = .ok (.ireturn, 1) := by decide +kernel
theorem dM_rounded_0 : decode cM_rounded 0 = .ok (.iload_n 1, 1) := by decide +kernel
theorem dM_rounded_1 : decode cM_rounded 1 = .ok (.invokestatic 97, 3) := by decide +kernel
theorem dM_rounded_4 : decode cM_rounded 4 = .ok (.istore 4, 2) := by decide +kernel
theorem dM_rounded_6 : decode cM_rounded 6 = .ok (.iload_n 3, 1) := by decide +kernel
theorem dM_rounded_7 : decode cM_rounded 7 = .ok (.iload 4, 2) := by decide +kernel
theorem dM_rounded_9 : decode cM_rounded 9 = .ok (.isub, 1) := by decide +kernel
theorem dM_rounded_10 : decode cM_rounded 10 = .ok (.iconst 1, 1) := by decide +kernel
theorem dM_rounded_11 : decode cM_rounded 11 = .ok (.iadd, 1) := by decide +kernel
theorem dM_rounded_12 : decode cM_rounded 12 = .ok (.istore 5, 2) := by decide +kernel
theorem dM_rounded_14 : decode cM_rounded 14 = .ok (.aload_n 0, 1) := by decide +kernel
theorem dM_rounded_15 : decode cM_rounded 15 = .ok (.lconst 1, 1) := by decide +kernel
theorem dM_rounded_16 : decode cM_rounded 16 = .ok (.iload 4, 2) := by decide +kernel
theorem dM_rounded_18 : decode cM_rounded 18 = .ok (.iconst 1, 1) := by decide +kernel
theorem dM_rounded_19 : decode cM_rounded 19 = .ok (.isub, 1) := by decide +kernel
theorem dM_rounded_20 : decode cM_rounded 20 = .ok (.lshl, 1) := by decide +kernel
theorem dM_rounded_21 : decode cM_rounded 21 = .ok (.iload 5, 2) := by decide +kernel
theorem dM_rounded_23 : decode cM_rounded 23 = .ok (.invokevirtual 162, 3) := by decide +kernel
theorem dM_rounded_26 : decode cM_rounded 26 = .ok (.ifCond .ge 6, 3) := by decide +kernel
theorem dM_rounded_29 : decode cM_rounded 29 = .ok (.iinc 5 (-1), 3) := by decide +kernel
theorem dM_rounded_32 : decode cM_rounded 32 = .ok (.iload 5, 2) := by decide +kernel
theorem dM_rounded_34 : decode cM_rounded 34 = .ok (.iload_n 1, 1) := by decide +kernel
theorem dM_rounded_35 : decode cM_rounded 35 = .ok (.invokestatic 113, 3) := by decide +kernel
theorem dM_rounded_38 : decode cM_rounded 38 = .ok (.if_icmp .ge 10, 3) := by decide +kernel
theorem dM_rounded_41 : decode cM_rounded 41 = .ok (.iload_n 1, 1) := by decide +kernel
theorem dM_rounded_42 : decode cM_rounded 42 = .ok (.invokestatic 113, 3) := by decide +kernel
theorem dM_rounded_45 : decode cM_rounded 45 = .ok (.goto 5, 3) := by decide +kernel
theorem dM_rounded_48 : decode cM_rounded 48 = .ok (.iload 5, 2) := by decide +kernel
theorem dM_rounded_50 : decode cM_rounded 50 = .ok (.istore 5, 2) := by decide +kernel
theorem dM_rounded_52 : decode cM_rounded 52 = .ok (.lconst 0, 1) := by decide +kernel
theorem dM_rounded_53 : decode cM_rounded 53 = .ok (.lstore 6, 2) := by decide +kernel
theorem dM_rounded_55 : decode cM_rounded 55 = .ok (.iload 4, 2) := by decide +kernel
theorem dM_rounded_57 : decode cM_rounded 57 = .ok (.iconst 1, 1) := by decide +kernel
theorem dM_rounded_58 : decode cM_rounded 58 = .ok (.isub, 1) := by decide +kernel
theorem dM_rounded_59 : decode cM_rounded 59 = .ok (.istore 8, 2) := by decide +kernel
theorem dM_rounded_61 : decode cM_rounded 61 = .ok (.iload 8, 2) := by decide +kernel
theorem dM_rounded_63 : decode cM_rounded 63 = .ok (.ifCond .lt 39, 3) := by decide +kernel
theorem dM_rounded_66 : decode cM_rounded 66 = .ok (.aload_n 0, 1) := by decide +kernel
theorem dM_rounded_67 : decode cM_rounded 67 = .ok (.lload 6, 2) := by decide +kernel
theorem dM_rounded_69 : decode cM_rounded 69 = .ok (.lconst 1, 1) := by decide +kernel
theorem dM_rounded_70 : decode cM_rounded 70 = .ok (.iload 8, 2) := by decide +kernel
theorem dM_rounded_72 : decode cM_rounded 72 = .ok (.lshl, 1) := by decide +kernel
theorem dM_rounded_73 : decode cM_rounded 73 = .ok (.ladd, 1) := by decide +kernel
theorem dM_rounded_74 : decode cM_rounded 74 = .ok (.iload 5, 2) := by decide +kernel
theorem dM_rounded_76 : decode cM_rounded 76 = .ok (.invokevirtual 162, 3) := by decide +kernel
theorem dM_rounded_79 : decode cM_rounded 79 = .ok (.ifCond .lt 13, 3) := by decide +kernel
theorem dM_rounded_82 : decode cM_rounded 82 = .ok (.lload 6, 2) := by decide +kernel
theorem dM_rounded_84 : decode cM_rounded 84 = .ok (.lconst 1, 1) := by decide +kernel
theorem dM_rounded_85 : decode cM_rounded 85 = .ok (.iload 8, 2) := by decide +kernel
theorem dM_rounded_87 : decode cM_rounded 87 = .ok (.lshl, 1) := by decide +kernel
theorem dM_rounded_88 : decode cM_rounded 88 = .ok (.ladd, 1) := by decide +kernel
theorem dM_rounded_89 : decode cM_rounded 89 = .ok (.goto 5, 3) := by decide +kernel
theorem dM_rounded_92 : decode cM_rounded 92 = .ok (.lload 6, 2) := by decide +kernel
theorem dM_rounded_94 : decode cM_rounded 94 = .ok (.lstore 6, 2) := by decide +kernel
theorem dM_rounded_96 : decode cM_rounded 96 = .ok (.iinc 8 (-1), 3) := by decide +kernel
theorem dM_rounded_99 : decode cM_rounded 99 = .ok (.goto (-38), 3) := by decide +kernel
theorem dM_rounded_102 : decode cM_rounded 102 = .ok (.aload_n 0, 1) := by decide +kernel
theorem dM_rounded_103 : decode cM_rounded 103 = .ok (.ldc2_w 57, 3) := by decide +kernel
theorem dM_rounded_106 : decode cM_rounded 106 = .ok (.lload 6, 2) := by decide +kernel
theorem dM_rounded_108 : decode cM_rounded 108 = .ok (.lmul, 1) := by decide +kernel
theorem dM_rounded_109 : decode cM_rounded 109 = .ok (.lconst 1, 1) := by decide +kernel
theorem dM_rounded_110 : decode cM_rounded 110 = .ok (.ladd, 1) := by decide +kernel
theorem dM_rounded_111 : decode cM_rounded 111 = .ok (.iload 5, 2) := by decide +kernel
theorem dM_rounded_113 : decode cM_rounded 113 = .ok (.iconst 1, 1) := by decide +kernel
theorem dM_rounded_114 : decode cM_rounded 114 = .ok (.isub, 1) := by decide +kernel
theorem dM_rounded_115 : decode cM_rounded 115 = .ok (.invokevirtual 162, 3) := by decide +kernel
theorem dM_rounded_118 : decode cM_rounded 118 = .ok (.istore 8, 2) := by decide +kernel
theorem dM_rounded_120 : decode cM_rounded 120 = .ok (.iload 8, 2) := by decide +kernel
theorem dM_rounded_122 : decode cM_rounded 122 = .ok (.ifCond .gt 17, 3) := by decide +kernel
theorem dM_rounded_125 : decode cM_rounded 125 = .ok (.iload 8, 2) := by decide +kernel
theorem dM_rounded_127 : decode cM_rounded 127 = .ok (.ifCond .ne 18, 3) := by decide +kernel
theorem dM_rounded_130 : decode cM_rounded 130 = .ok (.lload 6, 2) := by decide +kernel
theorem dM_rounded_132 : decode cM_rounded 132 = .ok (.lconst 1, 1) := by decide +kernel
theorem dM_rounded_133 : decode cM_rounded 133 = .ok (.land, 1) := by decide +kernel
theorem dM_rounded_134 : decode cM_rounded 134 = .ok (.lconst 1, 1) := by decide +kernel
theorem dM_rounded_135 : decode cM_rounded 135 = .ok (.lcmp, 1) := by decide +kernel
theorem dM_rounded_136 : decode cM_rounded 136 = .ok (.ifCond .ne 9, 3) := by decide +kernel
theorem dM_rounded_139 : decode cM_rounded 139 = .ok (.lload 6, 2) := by decide +kernel
theorem dM_rounded_141 : decode cM_rounded 141 = .ok (.lconst 1, 1) := by decide +kernel
theorem dM_rounded_142 : decode cM_rounded 142 = .ok (.ladd, 1) := by decide +kernel
theorem dM_rounded_143 : decode cM_rounded 143 = .ok (.lstore 6, 2) := by decide +kernel
theorem dM_rounded_145 : decode cM_rounded 145 = .ok (.lload 6, 2) := by decide +kernel
theorem dM_rounded_147 : decode cM_rounded 147 = .ok (.lconst 1, 1) := by decide +kernel
theorem dM_rounded_148 : decode cM_rounded 148 = .ok (.iload 4, 2) := by decide +kernel
theorem dM_rounded_150 : decode cM_rounded 150 = .ok (.lshl, 1) := by decide +kernel
theorem dM_rounded_151 : decode cM_rounded 151 = .ok (.lcmp, 1) := by decide +kernel
theorem dM_rounded_152 : decode cM_rounded 152 = .ok (.ifCond .ne 14, 3) := by decide +kernel
theorem dM_rounded_155 : decode cM_rounded 155 = .ok (.lload 6, 2) := by decide +kernel
theorem dM_rounded_157 : decode cM_rounded 157 = .ok (.ldc2_w 57, 3) := by decide +kernel
theorem dM_rounded_160 : decode cM_rounded 160 = .ok (.ldiv, 1) := by decide +kernel
theorem dM_rounded_161 : decode cM_rounded 161 = .ok (.lstore 6, 2) := by decide +kernel
theorem dM_rounded_163 : decode cM_rounded 163 = .ok (.iinc 5 1, 3) := by decide +kernel
theorem dM_rounded_166 : decode cM_rounded 166 = .ok (.lload 6, 2) := by decide +kernel
theorem dM_rounded_168 : decode cM_rounded 168 = .ok (.lconst 1, 1) := by decide +kernel
theorem dM_rounded_169 : decode cM_rounded 169 = .ok (.iload 4, 2) := by decide +kernel
theorem dM_rounded_171 : decode cM_rounded 171 = .ok (.iconst 1, 1) := by decide +kernel
theorem dM_rounded_172 : decode cM_rounded 172 = .ok (.isub, 1) := by decide +kernel
theorem dM_rounded_173 : decode cM_rounded 173 = .ok (.lshl, 1) := by decide +kernel
theorem dM_rounded_174 : decode cM_rounded 174 = .ok (.lcmp, 1) := by decide +kernel
theorem dM_rounded_175 : decode cM_rounded 175 = .ok (.ifCond .ge 11, 3) := by decide +kernel
theorem dM_rounded_178 : decode cM_rounded 178 = .ok (.iload_n 1, 1) := by decide +kernel
theorem dM_rounded_179 : decode cM_rounded 179 = .ok (.iload_n 2, 1) := by decide +kernel
theorem dM_rounded_180 : decode cM_rounded 180 = .ok (.lload 6, 2) := by decide +kernel
theorem dM_rounded_182 : decode cM_rounded 182 = .ok (.invokestatic 165, 3) := by decide +kernel
theorem dM_rounded_185 : decode cM_rounded 185 = .ok (.lreturn, 1) := by decide +kernel
theorem dM_rounded_186 : decode cM_rounded 186 = .ok (.iload 5, 2) := by decide +kernel
theorem dM_rounded_188 : decode cM_rounded 188 = .ok (.iload_n 1, 1) := by decide +kernel
theorem dM_rounded_189 : decode cM_rounded 189 = .ok (.invokestatic 113, 3) := by decide +kernel
theorem dM_rounded_192 : decode cM_rounded 192 = .ok (.isub, 1) := by decide +kernel
theorem dM_rounded_193 : decode cM_rounded 193 = .ok (.i2l, 1) := by decide +kernel
theorem dM_rounded_194 : decode cM_rounded 194 = .ok (.lconst 1, 1) := by decide +kernel
theorem dM_rounded_195 : decode cM_rounded 195 = .ok (.ladd, 1) := by decide +kernel
theorem dM_rounded_196 : decode cM_rounded 196 = .ok (.lstore 9, 2) := by decide +kernel
theorem dM_rounded_198 : decode cM_rounded 198 = .ok (.lload 9, 2) := by decide +kernel
theorem dM_rounded_200 : decode cM_rounded 200 = .ok (.iload_n 1, 1) := by decide +kernel
theorem dM_rounded_201 : decode cM_rounded 201 = .ok (.invokestatic 107, 3) := by decide +kernel
theorem dM_rounded_204 : decode cM_rounded 204 = .ok (.i2l, 1) := by decide +kernel
theorem dM_rounded_205 : decode cM_rounded 205 = .ok (.lcmp, 1) := by decide +kernel
theorem dM_rounded_206 : decode cM_rounded 206 = .ok (.ifCond .lt 10, 3) := by decide +kernel
theorem dM_rounded_209 : decode cM_rounded 209 = .ok (.iload_n 1, 1) := by decide +kernel
theorem dM_rounded_210 : decode cM_rounded 210 = .ok (.invokestatic 169, 3) := by decide +kernel
theorem dM_rounded_213 : decode cM_rounded 213 = .ok (.goto 20, 3) := by decide +kernel
theorem dM_rounded_216 : decode cM_rounded 216 = .ok (.lload 9, 2) := by decide +kernel
theorem dM_rounded_218 : decode cM_rounded 218 = .ok (.iload 4, 2) := by decide +kernel
theorem dM_rounded_220 : decode cM_rounded 220 = .ok (.iconst 1, 1) := by decide +kernel
theorem dM_rounded_221 : decode cM_rounded 221 = .ok (.isub, 1) := by decide +kernel
theorem dM_rounded_222 : decode cM_rounded 222 = .ok (.lshl, 1) := by decide +kernel
theorem dM_rounded_223 : decode cM_rounded 223 = .ok (.lload 6, 2) := by decide +kernel
theorem dM_rounded_225 : decode cM_rounded 225 = .ok (.ladd, 1) := by decide +kernel
theorem dM_rounded_226 : decode cM_rounded 226 = .ok (.lconst 1, 1) := by decide +kernel
theorem dM_rounded_227 : decode cM_rounded 227 = .ok (.iload 4, 2) := by decide +kernel
theorem dM_rounded_229 : decode cM_rounded 229 = .ok (.iconst 1, 1) := by decide +kernel
theorem dM_rounded_230 : decode cM_rounded 230 = .ok (.isub, 1) := by decide +kernel
theorem dM_rounded_231 : decode cM_rounded 231 = .ok (.lshl, 1) := by decide +kernel
theorem dM_rounded_232 : decode cM_rounded 232 = .ok (.lsub, 1) := by decide +kernel
theorem dM_rounded_233 : decode cM_rounded 233 = .ok (.lstore 11, 2) := by decide +kernel
theorem dM_rounded_235 : decode cM_rounded 235 = .ok (.iload_n 1, 1) := by decide +kernel
theorem dM_rounded_236 : decode cM_rounded 236 = .ok (.iload_n 2, 1) := by decide +kernel
theorem dM_rounded_237 : decode cM_rounded 237 = .ok (.lload 11, 2) := by decide +kernel
theorem dM_rounded_239 : decode cM_rounded 239 = .ok (.invokestatic 165, 3) := by decide +kernel
theorem dM_rounded_242 : decode cM_rounded 242 = .ok (.lreturn, 1) := by decide +kernel
theorem dM_bound_0 : decode cM_bound 0 = .ok (.iload_n 1, 1) := by decide +kernel
theorem dM_bound_1 : decode cM_bound 1 = .ok (.ifCond .ne 8, 3) := by decide +kernel
theorem dM_bound_4 : decode cM_bound 4 = .ok (.aload_n 0, 1) := by decide +kernel
theorem dM_bound_5 : decode cM_bound 5 = .ok (.iload_n 2, 1) := by decide +kernel
theorem dM_bound_6 : decode cM_bound 6 = .ok (.putfield 59, 3) := by decide +kernel
theorem dM_bound_9 : decode cM_bound 9 = .ok (.lload_n 3, 1) := by decide +kernel
theorem dM_bound_10 : decode cM_bound 10 = .ok (.lreturn, 1) := by decide +kernel
theorem dM_trap_0 : decode cM_trap 0 = .ok (.aload_n 0, 1) := by decide +kernel
theorem dM_trap_1 : decode cM_trap 1 = .ok (.iconst 0, 1) := by decide +kernel
theorem dM_trap_2 : decode cM_trap 2 = .ok (.putfield 26, 3) := by decide +kernel
theorem dM_trap_5 : decode cM_trap 5 = .ok (.aload_n 0, 1) := by decide +kernel
theorem dM_trap_6 : decode cM_trap 6 = .ok (.getfield 59, 3) := by decide +kernel
theorem dM_trap_9 : decode cM_trap 9 = .ok (.ireturn, 1) := by decide +kernel
theorem mwidth_le (a : Int32) : fM_width a ≤ 64 := by
  unfold fM_width
  repeat' split
  all_goals decide
