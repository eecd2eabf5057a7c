abbrev cM_clearRows : ByteArray := prog_8_method_37_code
def yM_clearRows : MethodName := ⟨"BitNumbersModel", "clearRows", "()V"⟩
def wsM_clearRows : List Cond := .code yM_clearRows cM_clearRows 2 none :: aw
abbrev cM_compareRows : ByteArray := prog_8_method_40_code
def yM_compareRows : MethodName := ⟨"BitNumbersModel", "compareRows", "()I"⟩
def wsM_compareRows : List Cond := .code yM_compareRows cM_compareRows 2 (some .int) :: aw
abbrev cM_addRows : ByteArray := prog_8_method_41_code
def yM_addRows : MethodName := ⟨"BitNumbersModel", "addRows", "()V"⟩
def wsM_addRows : List Cond := .code yM_addRows cM_addRows 4 none :: aw
abbrev cM_subtractRows : ByteArray := prog_8_method_42_code
def yM_subtractRows : MethodName := ⟨"BitNumbersModel", "subtractRows", "(Z)V"⟩
def wsM_subtractRows : List Cond := .code yM_subtractRows cM_subtractRows 5 none :: aw
abbrev cM_measure : ByteArray := prog_8_method_43_code
def yM_measure : MethodName := ⟨"BitNumbersModel", "measure", "()V"⟩
def wsM_measure : List Cond := .code yM_measure cM_measure 1 none :: aw
abbrev cM_highestOfRow : ByteArray := prog_8_method_45_code
def yM_highestOfRow : MethodName := ⟨"BitNumbersModel", "highestOfRow", "()I"⟩
def wsM_highestOfRow : List Cond := .code yM_highestOfRow cM_highestOfRow 1 (some .int) :: aw
abbrev cM_multiply : ByteArray := prog_8_method_46_code
def yM_multiply : MethodName := ⟨"BitNumbersModel", "multiply", "(JJ)V"⟩
def wsM_multiply : List Cond := .code yM_multiply cM_multiply 11 none :: aw
abbrev cM_shifted : ByteArray := prog_8_method_48_code
def yM_shifted : MethodName := ⟨"BitNumbersModel", "shifted", "(II)I"⟩
def wsM_shifted : List Cond := .code yM_shifted cM_shifted 7 (some .int) :: aw
abbrev cM_compareFactor : ByteArray := prog_8_method_47_code
def yM_compareFactor : MethodName := ⟨"BitNumbersModel", "compareFactor", "(JI)I"⟩
def wsM_compareFactor : List Cond := .code yM_compareFactor cM_compareFactor 9 (some .int) :: aw
abbrev cM_set_row : ByteArray := prog_8_method_39_code
def yM_set_row : MethodName := ⟨"BitNumbersModel", "set", "([IJI)V"⟩
def wsM_set_row : List Cond := .code yM_set_row cM_set_row 5 none :: aw
abbrev cM_set_other : ByteArray := prog_8_method_39_code
def yM_set_other : MethodName := ⟨"BitNumbersModel", "set", "([IJI)V"⟩
def wsM_set_other : List Cond := .code yM_set_other cM_set_other 5 none :: aw
abbrev rmM_clearRows : Room := { frames := 0, cells := 0, slots := 0, locals := 0 }
abbrev rmM_compareRows : Room := { frames := 0, cells := 0, slots := 0, locals := 0 }
abbrev rmM_addRows : Room := { frames := 0, cells := 0, slots := 0, locals := 0 }
abbrev rmM_subtractRows : Room := { frames := 0, cells := 0, slots := 0, locals := 0 }
abbrev rmM_measure : Room := { frames := 0, cells := 0, slots := 0, locals := 0 }
abbrev rmM_highestOfRow : Room := { frames := 1, cells := 0, slots := 0, locals := 22 }
abbrev rmM_multiply : Room := { frames := 0, cells := 0, slots := 0, locals := 0 }
abbrev rmM_shifted : Room := { frames := 0, cells := 0, slots := 0, locals := 0 }
abbrev rmM_compareFactor : Room := { frames := 1, cells := 0, slots := 0, locals := 26 }
abbrev rmM_set_row : Room := { frames := 1, cells := 0, slots := 0, locals := 24 }
abbrev rmM_set_other : Room := { frames := 1, cells := 0, slots := 0, locals := 24 }
theorem w_13 : (Cond.selects "BitNumbersModel" yM_shifted yM_shifted) ∈ aw := aw_in 13 (by decide +kernel) (by decide +kernel)
theorem w_492 : (Cond.fieldLink "BitNumbersModel" 17 "BitNumbersModel" "row" "[I") ∈ aw := aw_in 492 (by decide +kernel) (by decide +kernel)
theorem w_493 : (Cond.fieldLink "BitNumbersModel" 20 "BitNumbersModel" "other" "[I") ∈ aw := aw_in 493 (by decide +kernel) (by decide +kernel)
theorem w_494 : (Cond.fieldLink "BitNumbersModel" 23 "BitNumbersModel" "factor" "[I") ∈ aw := aw_in 494 (by decide +kernel) (by decide +kernel)
theorem w_495 : (Cond.fieldLink "BitNumbersModel" 135 "BitNumbersModel" "base" "I") ∈ aw := aw_in 495 (by decide +kernel) (by decide +kernel)
theorem w_496 : (Cond.fieldLink "BitNumbersModel" 128 "BitNumbersModel" "held" "I") ∈ aw := aw_in 496 (by decide +kernel) (by decide +kernel)
theorem w_497 : (Cond.fieldLink "BitNumbersModel" 125 "BitNumbersModel" "mode" "I") ∈ aw := aw_in 497 (by decide +kernel) (by decide +kernel)
theorem w_672 : (Cond.methodLink "BitNumbersModel" 131 yM_highest) ∈ aw := aw_in 672 (by decide +kernel) (by decide +kernel)
theorem w_673 : (Cond.static yM_highest) ∈ aw := aw_in 673 (by decide +kernel) (by decide +kernel)
theorem w_674 : (Cond.code yM_highest cM_highest 3 (some .int)) ∈ aw := aw_in 674 (by decide +kernel) (by decide +kernel)
theorem w_683 : (Cond.methodLink "BitNumbersModel" 121 yM_digit) ∈ aw := aw_in 683 (by decide +kernel) (by decide +kernel)
theorem w_684 : (Cond.static yM_digit) ∈ aw := aw_in 684 (by decide +kernel) (by decide +kernel)
theorem w_685 : (Cond.code yM_digit cM_digit 5 (some .int)) ∈ aw := aw_in 685 (by decide +kernel) (by decide +kernel)
theorem w_691 : (Cond.constantLong "BitNumbersModel" 138 65535) ∈ aw := aw_in 691 (by decide +kernel) (by decide +kernel)
theorem w_696 : (Cond.methodLink "BitNumbersModel" 140 yM_shifted) ∈ aw := aw_in 696 (by decide +kernel) (by decide +kernel)
theorem w_698 : (Cond.instanceMethod yM_shifted) ∈ aw := aw_in 698 (by decide +kernel) (by decide +kernel)
theorem w_699 : (Cond.code yM_shifted cM_shifted 7 (some .int)) ∈ aw := aw_in 699 (by decide +kernel) (by decide +kernel)
theorem dM_clearRows_0 : decode cM_clearRows 0 = .ok (.iconst 0, 1) := by decide +kernel
theorem dM_clearRows_1 : decode cM_clearRows 1 = .ok (.istore_n 1, 1) := by decide +kernel
theorem dM_clearRows_2 : decode cM_clearRows 2 = .ok (.iload_n 1, 1) := by decide +kernel
theorem dM_clearRows_3 : decode cM_clearRows 3 = .ok (.sipush 320, 3) := by decide +kernel
theorem dM_clearRows_6 : decode cM_clearRows 6 = .ok (.if_icmp .ge 23, 3) := by decide +kernel
theorem dM_clearRows_9 : decode cM_clearRows 9 = .ok (.aload_n 0, 1) := by decide +kernel
theorem dM_clearRows_10 : decode cM_clearRows 10 = .ok (.getfield 17, 3) := by decide +kernel
theorem dM_clearRows_13 : decode cM_clearRows 13 = .ok (.iload_n 1, 1) := by decide +kernel
theorem dM_clearRows_14 : decode cM_clearRows 14 = .ok (.iconst 0, 1) := by decide +kernel
theorem dM_clearRows_15 : decode cM_clearRows 15 = .ok (.iastore, 1) := by decide +kernel
theorem dM_clearRows_16 : decode cM_clearRows 16 = .ok (.aload_n 0, 1) := by decide +kernel
theorem dM_clearRows_17 : decode cM_clearRows 17 = .ok (.getfield 20, 3) := by decide +kernel
theorem dM_clearRows_20 : decode cM_clearRows 20 = .ok (.iload_n 1, 1) := by decide +kernel
theorem dM_clearRows_21 : decode cM_clearRows 21 = .ok (.iconst 0, 1) := by decide +kernel
theorem dM_clearRows_22 : decode cM_clearRows 22 = .ok (.iastore, 1) := by decide +kernel
theorem dM_clearRows_23 : decode cM_clearRows 23 = .ok (.iinc 1 1, 3) := by decide +kernel
theorem dM_clearRows_26 : decode cM_clearRows 26 = .ok (.goto (-24), 3) := by decide +kernel
theorem dM_clearRows_29 : decode cM_clearRows 29 = .ok (.return_, 1) := by decide +kernel
theorem dM_compareRows_0 : decode cM_compareRows 0 = .ok (.sipush 319, 3) := by decide +kernel
theorem dM_compareRows_3 : decode cM_compareRows 3 = .ok (.istore_n 1, 1) := by decide +kernel
theorem dM_compareRows_4 : decode cM_compareRows 4 = .ok (.iload_n 1, 1) := by decide +kernel
theorem dM_compareRows_5 : decode cM_compareRows 5 = .ok (.ifCond .lt 45, 3) := by decide +kernel
theorem dM_compareRows_8 : decode cM_compareRows 8 = .ok (.aload_n 0, 1) := by decide +kernel
theorem dM_compareRows_9 : decode cM_compareRows 9 = .ok (.getfield 17, 3) := by decide +kernel
theorem dM_compareRows_12 : decode cM_compareRows 12 = .ok (.iload_n 1, 1) := by decide +kernel
theorem dM_compareRows_13 : decode cM_compareRows 13 = .ok (.iaload, 1) := by decide +kernel
theorem dM_compareRows_14 : decode cM_compareRows 14 = .ok (.aload_n 0, 1) := by decide +kernel
theorem dM_compareRows_15 : decode cM_compareRows 15 = .ok (.getfield 20, 3) := by decide +kernel
theorem dM_compareRows_18 : decode cM_compareRows 18 = .ok (.iload_n 1, 1) := by decide +kernel
theorem dM_compareRows_19 : decode cM_compareRows 19 = .ok (.iaload, 1) := by decide +kernel
theorem dM_compareRows_20 : decode cM_compareRows 20 = .ok (.if_icmp .eq 24, 3) := by decide +kernel
theorem dM_compareRows_23 : decode cM_compareRows 23 = .ok (.aload_n 0, 1) := by decide +kernel
theorem dM_compareRows_24 : decode cM_compareRows 24 = .ok (.getfield 17, 3) := by decide +kernel
theorem dM_compareRows_27 : decode cM_compareRows 27 = .ok (.iload_n 1, 1) := by decide +kernel
theorem dM_compareRows_28 : decode cM_compareRows 28 = .ok (.iaload, 1) := by decide +kernel
theorem dM_compareRows_29 : decode cM_compareRows 29 = .ok (.aload_n 0, 1) := by decide +kernel
theorem dM_compareRows_30 : decode cM_compareRows 30 = .ok (.getfield 20, 3) := by decide +kernel
theorem dM_compareRows_33 : decode cM_compareRows 33 = .ok (.iload_n 1, 1) := by decide +kernel
theorem dM_compareRows_34 : decode cM_compareRows 34 = .ok (.iaload, 1) := by decide +kernel
theorem dM_compareRows_35 : decode cM_compareRows 35 = .ok (.if_icmp .ge 7, 3) := by decide +kernel
theorem dM_compareRows_38 : decode cM_compareRows 38 = .ok (.iconst (-1), 1) := by decide +kernel
theorem dM_compareRows_39 : decode cM_compareRows 39 = .ok (.goto 4, 3) := by decide +kernel
theorem dM_compareRows_42 : decode cM_compareRows 42 = .ok (.iconst 1, 1) := by decide +kernel
theorem dM_compareRows_43 : decode cM_compareRows 43 = .ok (.ireturn, 1) := by decide +kernel
theorem dM_compareRows_44 : decode cM_compareRows 44 = .ok (.iinc 1 (-1), 3) := by decide +kernel
theorem dM_compareRows_47 : decode cM_compareRows 47 = .ok (.goto (-43), 3) := by decide +kernel
theorem dM_compareRows_50 : decode cM_compareRows 50 = .ok (.iconst 0, 1) := by decide +kernel
theorem dM_compareRows_51 : decode cM_compareRows 51 = .ok (.ireturn, 1) := by decide +kernel
theorem dM_addRows_0 : decode cM_addRows 0 = .ok (.iconst 0, 1) := by decide +kernel
theorem dM_addRows_1 : decode cM_addRows 1 = .ok (.istore_n 1, 1) := by decide +kernel
theorem dM_addRows_2 : decode cM_addRows 2 = .ok (.iconst 0, 1) := by decide +kernel
theorem dM_addRows_3 : decode cM_addRows 3 = .ok (.istore_n 2, 1) := by decide +kernel
theorem dM_addRows_4 : decode cM_addRows 4 = .ok (.iload_n 2, 1) := by decide +kernel
theorem dM_addRows_5 : decode cM_addRows 5 = .ok (.sipush 320, 3) := by decide +kernel
theorem dM_addRows_8 : decode cM_addRows 8 = .ok (.if_icmp .ge 40, 3) := by decide +kernel
theorem dM_addRows_11 : decode cM_addRows 11 = .ok (.aload_n 0, 1) := by decide +kernel
theorem dM_addRows_12 : decode cM_addRows 12 = .ok (.getfield 17, 3) := by decide +kernel
theorem dM_addRows_15 : decode cM_addRows 15 = .ok (.iload_n 2, 1) := by decide +kernel
theorem dM_addRows_16 : decode cM_addRows 16 = .ok (.iaload, 1) := by decide +kernel
theorem dM_addRows_17 : decode cM_addRows 17 = .ok (.aload_n 0, 1) := by decide +kernel
theorem dM_addRows_18 : decode cM_addRows 18 = .ok (.getfield 20, 3) := by decide +kernel
theorem dM_addRows_21 : decode cM_addRows 21 = .ok (.iload_n 2, 1) := by decide +kernel
theorem dM_addRows_22 : decode cM_addRows 22 = .ok (.iaload, 1) := by decide +kernel
theorem dM_addRows_23 : decode cM_addRows 23 = .ok (.iadd, 1) := by decide +kernel
theorem dM_addRows_24 : decode cM_addRows 24 = .ok (.iload_n 1, 1) := by decide +kernel
theorem dM_addRows_25 : decode cM_addRows 25 = .ok (.iadd, 1) := by decide +kernel
theorem dM_addRows_26 : decode cM_addRows 26 = .ok (.istore_n 3, 1) := by decide +kernel
theorem dM_addRows_27 : decode cM_addRows 27 = .ok (.aload_n 0, 1) := by decide +kernel
theorem dM_addRows_28 : decode cM_addRows 28 = .ok (.getfield 17, 3) := by decide +kernel
theorem dM_addRows_31 : decode cM_addRows 31 = .ok (.iload_n 2, 1) := by decide +kernel
theorem dM_addRows_32 : decode cM_addRows 32 = .ok (.iload_n 3, 1) := by decide +kernel
theorem dM_addRows_33 : decode cM_addRows 33 = .ok (.ldc 120, 2) := by decide +kernel
theorem dM_addRows_35 : decode cM_addRows 35 = .ok (.iand, 1) := by decide +kernel
theorem dM_addRows_36 : decode cM_addRows 36 = .ok (.iastore, 1) := by decide +kernel
theorem dM_addRows_37 : decode cM_addRows 37 = .ok (.iload_n 3, 1) := by decide +kernel
theorem dM_addRows_38 : decode cM_addRows 38 = .ok (.bipush 16, 2) := by decide +kernel
theorem dM_addRows_40 : decode cM_addRows 40 = .ok (.ishr, 1) := by decide +kernel
theorem dM_addRows_41 : decode cM_addRows 41 = .ok (.istore_n 1, 1) := by decide +kernel
theorem dM_addRows_42 : decode cM_addRows 42 = .ok (.iinc 2 1, 3) := by decide +kernel
theorem dM_addRows_45 : decode cM_addRows 45 = .ok (.goto (-41), 3) := by decide +kernel
theorem dM_addRows_48 : decode cM_addRows 48 = .ok (.return_, 1) := by decide +kernel
theorem dM_subtractRows_0 : decode cM_subtractRows 0 = .ok (.iconst 0, 1) := by decide +kernel
theorem dM_subtractRows_1 : decode cM_subtractRows 1 = .ok (.istore_n 2, 1) := by decide +kernel
theorem dM_subtractRows_2 : decode cM_subtractRows 2 = .ok (.iconst 0, 1) := by decide +kernel
theorem dM_subtractRows_3 : decode cM_subtractRows 3 = .ok (.istore_n 3, 1) := by decide +kernel
theorem dM_subtractRows_4 : decode cM_subtractRows 4 = .ok (.iload_n 3, 1) := by decide +kernel
theorem dM_subtractRows_5 : decode cM_subtractRows 5 = .ok (.sipush 320, 3) := by decide +kernel
theorem dM_subtractRows_8 : decode cM_subtractRows 8 = .ok (.if_icmp .ge 68, 3) := by decide +kernel
theorem dM_subtractRows_11 : decode cM_subtractRows 11 = .ok (.iload_n 1, 1) := by decide +kernel
theorem dM_subtractRows_12 : decode cM_subtractRows 12 = .ok (.ifCond .eq 19, 3) := by decide +kernel
theorem dM_subtractRows_15 : decode cM_subtractRows 15 = .ok (.aload_n 0, 1) := by decide +kernel
theorem dM_subtractRows_16 : decode cM_subtractRows 16 = .ok (.getfield 20, 3) := by decide +kernel
theorem dM_subtractRows_19 : decode cM_subtractRows 19 = .ok (.iload_n 3, 1) := by decide +kernel
theorem dM_subtractRows_20 : decode cM_subtractRows 20 = .ok (.iaload, 1) := by decide +kernel
theorem dM_subtractRows_21 : decode cM_subtractRows 21 = .ok (.aload_n 0, 1) := by decide +kernel
theorem dM_subtractRows_22 : decode cM_subtractRows 22 = .ok (.getfield 17, 3) := by decide +kernel
theorem dM_subtractRows_25 : decode cM_subtractRows 25 = .ok (.iload_n 3, 1) := by decide +kernel
theorem dM_subtractRows_26 : decode cM_subtractRows 26 = .ok (.iaload, 1) := by decide +kernel
theorem dM_subtractRows_27 : decode cM_subtractRows 27 = .ok (.isub, 1) := by decide +kernel
theorem dM_subtractRows_28 : decode cM_subtractRows 28 = .ok (.goto 16, 3) := by decide +kernel
theorem dM_subtractRows_31 : decode cM_subtractRows 31 = .ok (.aload_n 0, 1) := by decide +kernel
theorem dM_subtractRows_32 : decode cM_subtractRows 32 = .ok (.getfield 17, 3) := by decide +kernel
theorem dM_subtractRows_35 : decode cM_subtractRows 35 = .ok (.iload_n 3, 1) := by decide +kernel
theorem dM_subtractRows_36 : decode cM_subtractRows 36 = .ok (.iaload, 1) := by decide +kernel
theorem dM_subtractRows_37 : decode cM_subtractRows 37 = .ok (.aload_n 0, 1) := by decide +kernel
theorem dM_subtractRows_38 : decode cM_subtractRows 38 = .ok (.getfield 20, 3) := by decide +kernel
theorem dM_subtractRows_41 : decode cM_subtractRows 41 = .ok (.iload_n 3, 1) := by decide +kernel
theorem dM_subtractRows_42 : decode cM_subtractRows 42 = .ok (.iaload, 1) := by decide +kernel
theorem dM_subtractRows_43 : decode cM_subtractRows 43 = .ok (.isub, 1) := by decide +kernel
theorem dM_subtractRows_44 : decode cM_subtractRows 44 = .ok (.iload_n 2, 1) := by decide +kernel
theorem dM_subtractRows_45 : decode cM_subtractRows 45 = .ok (.isub, 1) := by decide +kernel
theorem dM_subtractRows_46 : decode cM_subtractRows 46 = .ok (.istore 4, 2) := by decide +kernel
theorem dM_subtractRows_48 : decode cM_subtractRows 48 = .ok (.aload_n 0, 1) := by decide +kernel
theorem dM_subtractRows_49 : decode cM_subtractRows 49 = .ok (.getfield 17, 3) := by decide +kernel
theorem dM_subtractRows_52 : decode cM_subtractRows 52 = .ok (.iload_n 3, 1) := by decide +kernel
theorem dM_subtractRows_53 : decode cM_subtractRows 53 = .ok (.iload 4, 2) := by decide +kernel
theorem dM_subtractRows_55 : decode cM_subtractRows 55 = .ok (.ldc 120, 2) := by decide +kernel
theorem dM_subtractRows_57 : decode cM_subtractRows 57 = .ok (.iand, 1) := by decide +kernel
theorem dM_subtractRows_58 : decode cM_subtractRows 58 = .ok (.iastore, 1) := by decide +kernel
theorem dM_subtractRows_59 : decode cM_subtractRows 59 = .ok (.iload 4, 2) := by decide +kernel
theorem dM_subtractRows_61 : decode cM_subtractRows 61 = .ok (.ifCond .ge 7, 3) := by decide +kernel
theorem dM_subtractRows_64 : decode cM_subtractRows 64 = .ok (.iconst 1, 1) := by decide +kernel
theorem dM_subtractRows_65 : decode cM_subtractRows 65 = .ok (.goto 4, 3) := by decide +kernel
theorem dM_subtractRows_68 : decode cM_subtractRows 68 = .ok (.iconst 0, 1) := by decide +kernel
theorem dM_subtractRows_69 : decode cM_subtractRows 69 = .ok (.istore_n 2, 1) := by decide +kernel
theorem dM_subtractRows_70 : decode cM_subtractRows 70 = .ok (.iinc 3 1, 3) := by decide +kernel
theorem dM_subtractRows_73 : decode cM_subtractRows 73 = .ok (.goto (-69), 3) := by decide +kernel
theorem dM_subtractRows_76 : decode cM_subtractRows 76 = .ok (.return_, 1) := by decide +kernel
theorem dM_measure_0 : decode cM_measure 0 = .ok (.aload_n 0, 1) := by decide +kernel
theorem dM_measure_1 : decode cM_measure 1 = .ok (.iconst 0, 1) := by decide +kernel
theorem dM_measure_2 : decode cM_measure 2 = .ok (.putfield 125, 3) := by decide +kernel
theorem dM_measure_5 : decode cM_measure 5 = .ok (.aload_n 0, 1) := by decide +kernel
theorem dM_measure_6 : decode cM_measure 6 = .ok (.sipush 320, 3) := by decide +kernel
theorem dM_measure_9 : decode cM_measure 9 = .ok (.putfield 128, 3) := by decide +kernel
theorem dM_measure_12 : decode cM_measure 12 = .ok (.aload_n 0, 1) := by decide +kernel
theorem dM_measure_13 : decode cM_measure 13 = .ok (.getfield 128, 3) := by decide +kernel
theorem dM_measure_16 : decode cM_measure 16 = .ok (.ifCond .le 30, 3) := by decide +kernel
theorem dM_measure_19 : decode cM_measure 19 = .ok (.aload_n 0, 1) := by decide +kernel
theorem dM_measure_20 : decode cM_measure 20 = .ok (.getfield 17, 3) := by decide +kernel
theorem dM_measure_23 : decode cM_measure 23 = .ok (.aload_n 0, 1) := by decide +kernel
theorem dM_measure_24 : decode cM_measure 24 = .ok (.getfield 128, 3) := by decide +kernel
theorem dM_measure_27 : decode cM_measure 27 = .ok (.iconst 1, 1) := by decide +kernel
theorem dM_measure_28 : decode cM_measure 28 = .ok (.isub, 1) := by decide +kernel
theorem dM_measure_29 : decode cM_measure 29 = .ok (.iaload, 1) := by decide +kernel
theorem dM_measure_30 : decode cM_measure 30 = .ok (.ifCond .ne 16, 3) := by decide +kernel
theorem dM_measure_33 : decode cM_measure 33 = .ok (.aload_n 0, 1) := by decide +kernel
theorem dM_measure_34 : decode cM_measure 34 = .ok (.dup, 1) := by decide +kernel
theorem dM_measure_35 : decode cM_measure 35 = .ok (.getfield 128, 3) := by decide +kernel
theorem dM_measure_38 : decode cM_measure 38 = .ok (.iconst 1, 1) := by decide +kernel
theorem dM_measure_39 : decode cM_measure 39 = .ok (.isub, 1) := by decide +kernel
theorem dM_measure_40 : decode cM_measure 40 = .ok (.putfield 128, 3) := by decide +kernel
theorem dM_measure_43 : decode cM_measure 43 = .ok (.goto (-31), 3) := by decide +kernel
theorem dM_measure_46 : decode cM_measure 46 = .ok (.return_, 1) := by decide +kernel
theorem dM_highestOfRow_0 : decode cM_highestOfRow 0 = .ok (.bipush 16, 2) := by decide +kernel
theorem dM_highestOfRow_2 : decode cM_highestOfRow 2 = .ok (.aload_n 0, 1) := by decide +kernel
theorem dM_highestOfRow_3 : decode cM_highestOfRow 3 = .ok (.getfield 128, 3) := by decide +kernel
theorem dM_highestOfRow_6 : decode cM_highestOfRow 6 = .ok (.iconst 1, 1) := by decide +kernel
theorem dM_highestOfRow_7 : decode cM_highestOfRow 7 = .ok (.isub, 1) := by decide +kernel
theorem dM_highestOfRow_8 : decode cM_highestOfRow 8 = .ok (.imul, 1) := by decide +kernel
theorem dM_highestOfRow_9 : decode cM_highestOfRow 9 = .ok (.aload_n 0, 1) := by decide +kernel
theorem dM_highestOfRow_10 : decode cM_highestOfRow 10 = .ok (.getfield 17, 3) := by decide +kernel
theorem dM_highestOfRow_13 : decode cM_highestOfRow 13 = .ok (.aload_n 0, 1) := by decide +kernel
theorem dM_highestOfRow_14 : decode cM_highestOfRow 14 = .ok (.getfield 128, 3) := by decide +kernel
theorem dM_highestOfRow_17 : decode cM_highestOfRow 17 = .ok (.iconst 1, 1) := by decide +kernel
theorem dM_highestOfRow_18 : decode cM_highestOfRow 18 = .ok (.isub, 1) := by decide +kernel
theorem dM_highestOfRow_19 : decode cM_highestOfRow 19 = .ok (.iaload, 1) := by decide +kernel
theorem dM_highestOfRow_20 : decode cM_highestOfRow 20 = .ok (.i2l, 1) := by decide +kernel
theorem dM_highestOfRow_21 : decode cM_highestOfRow 21 = .ok (.invokestatic 131, 3) := by decide +kernel
theorem dM_highestOfRow_24 : decode cM_highestOfRow 24 = .ok (.iadd, 1) := by decide +kernel
theorem dM_highestOfRow_25 : decode cM_highestOfRow 25 = .ok (.aload_n 0, 1) := by decide +kernel
theorem dM_highestOfRow_26 : decode cM_highestOfRow 26 = .ok (.getfield 135, 3) := by decide +kernel
theorem dM_highestOfRow_29 : decode cM_highestOfRow 29 = .ok (.iadd, 1) := by decide +kernel
theorem dM_highestOfRow_30 : decode cM_highestOfRow 30 = .ok (.ireturn, 1) := by decide +kernel
theorem dM_multiply_0 : decode cM_multiply 0 = .ok (.iconst 0, 1) := by decide +kernel
theorem dM_multiply_1 : decode cM_multiply 1 = .ok (.istore 5, 2) := by decide +kernel
theorem dM_multiply_3 : decode cM_multiply 3 = .ok (.iload 5, 2) := by decide +kernel
theorem dM_multiply_5 : decode cM_multiply 5 = .ok (.bipush 16, 2) := by decide +kernel
theorem dM_multiply_7 : decode cM_multiply 7 = .ok (.if_icmp .ge 17, 3) := by decide +kernel
theorem dM_multiply_10 : decode cM_multiply 10 = .ok (.aload_n 0, 1) := by decide +kernel
theorem dM_multiply_11 : decode cM_multiply 11 = .ok (.getfield 23, 3) := by decide +kernel
theorem dM_multiply_14 : decode cM_multiply 14 = .ok (.iload 5, 2) := by decide +kernel
theorem dM_multiply_16 : decode cM_multiply 16 = .ok (.iconst 0, 1) := by decide +kernel
theorem dM_multiply_17 : decode cM_multiply 17 = .ok (.iastore, 1) := by decide +kernel
theorem dM_multiply_18 : decode cM_multiply 18 = .ok (.iinc 5 1, 3) := by decide +kernel
theorem dM_multiply_21 : decode cM_multiply 21 = .ok (.goto (-18), 3) := by decide +kernel
theorem dM_multiply_24 : decode cM_multiply 24 = .ok (.iconst 0, 1) := by decide +kernel
theorem dM_multiply_25 : decode cM_multiply 25 = .ok (.istore 5, 2) := by decide +kernel
theorem dM_multiply_27 : decode cM_multiply 27 = .ok (.iload 5, 2) := by decide +kernel
theorem dM_multiply_29 : decode cM_multiply 29 = .ok (.iconst 4, 1) := by decide +kernel
theorem dM_multiply_30 : decode cM_multiply 30 = .ok (.if_icmp .ge 103, 3) := by decide +kernel
theorem dM_multiply_33 : decode cM_multiply 33 = .ok (.lconst 0, 1) := by decide +kernel
theorem dM_multiply_34 : decode cM_multiply 34 = .ok (.lstore 6, 2) := by decide +kernel
theorem dM_multiply_36 : decode cM_multiply 36 = .ok (.iconst 0, 1) := by decide +kernel
theorem dM_multiply_37 : decode cM_multiply 37 = .ok (.istore 8, 2) := by decide +kernel
theorem dM_multiply_39 : decode cM_multiply 39 = .ok (.iload 8, 2) := by decide +kernel
theorem dM_multiply_41 : decode cM_multiply 41 = .ok (.iconst 4, 1) := by decide +kernel
theorem dM_multiply_42 : decode cM_multiply 42 = .ok (.if_icmp .ge 73, 3) := by decide +kernel
theorem dM_multiply_45 : decode cM_multiply 45 = .ok (.lload_n 1, 1) := by decide +kernel
theorem dM_multiply_46 : decode cM_multiply 46 = .ok (.bipush 16, 2) := by decide +kernel
theorem dM_multiply_48 : decode cM_multiply 48 = .ok (.iload 5, 2) := by decide +kernel
theorem dM_multiply_50 : decode cM_multiply 50 = .ok (.imul, 1) := by decide +kernel
theorem dM_multiply_51 : decode cM_multiply 51 = .ok (.lushr, 1) := by decide +kernel
theorem dM_multiply_52 : decode cM_multiply 52 = .ok (.ldc2_w 138, 3) := by decide +kernel
theorem dM_multiply_55 : decode cM_multiply 55 = .ok (.land, 1) := by decide +kernel
theorem dM_multiply_56 : decode cM_multiply 56 = .ok (.lload_n 3, 1) := by decide +kernel
theorem dM_multiply_57 : decode cM_multiply 57 = .ok (.bipush 16, 2) := by decide +kernel
theorem dM_multiply_59 : decode cM_multiply 59 = .ok (.iload 8, 2) := by decide +kernel
theorem dM_multiply_61 : decode cM_multiply 61 = .ok (.imul, 1) := by decide +kernel
theorem dM_multiply_62 : decode cM_multiply 62 = .ok (.lushr, 1) := by decide +kernel
theorem dM_multiply_63 : decode cM_multiply 63 = .ok (.ldc2_w 138, 3) := by decide +kernel
theorem dM_multiply_66 : decode cM_multiply 66 = .ok (.land, 1) := by decide +kernel
theorem dM_multiply_67 : decode cM_multiply 67 = .ok (.lmul, 1) := by decide +kernel
theorem dM_multiply_68 : decode cM_multiply 68 = .ok (.aload_n 0, 1) := by decide +kernel
theorem dM_multiply_69 : decode cM_multiply 69 = .ok (.getfield 23, 3) := by decide +kernel
theorem dM_multiply_72 : decode cM_multiply 72 = .ok (.iload 5, 2) := by decide +kernel
theorem dM_multiply_74 : decode cM_multiply 74 = .ok (.iload 8, 2) := by decide +kernel
theorem dM_multiply_76 : decode cM_multiply 76 = .ok (.iadd, 1) := by decide +kernel
theorem dM_multiply_77 : decode cM_multiply 77 = .ok (.iaload, 1) := by decide +kernel
theorem dM_multiply_78 : decode cM_multiply 78 = .ok (.i2l, 1) := by decide +kernel
theorem dM_multiply_79 : decode cM_multiply 79 = .ok (.ladd, 1) := by decide +kernel
theorem dM_multiply_80 : decode cM_multiply 80 = .ok (.lload 6, 2) := by decide +kernel
theorem dM_multiply_82 : decode cM_multiply 82 = .ok (.ladd, 1) := by decide +kernel
theorem dM_multiply_83 : decode cM_multiply 83 = .ok (.lstore 9, 2) := by decide +kernel
theorem dM_multiply_85 : decode cM_multiply 85 = .ok (.aload_n 0, 1) := by decide +kernel
theorem dM_multiply_86 : decode cM_multiply 86 = .ok (.getfield 23, 3) := by decide +kernel
theorem dM_multiply_89 : decode cM_multiply 89 = .ok (.iload 5, 2) := by decide +kernel
theorem dM_multiply_91 : decode cM_multiply 91 = .ok (.iload 8, 2) := by decide +kernel
theorem dM_multiply_93 : decode cM_multiply 93 = .ok (.iadd, 1) := by decide +kernel
theorem dM_multiply_94 : decode cM_multiply 94 = .ok (.lload 9, 2) := by decide +kernel
theorem dM_multiply_96 : decode cM_multiply 96 = .ok (.ldc2_w 138, 3) := by decide +kernel
theorem dM_multiply_99 : decode cM_multiply 99 = .ok (.land, 1) := by decide +kernel
theorem dM_multiply_100 : decode cM_multiply 100 = .ok (.l2i, 1) := by decide +kernel
theorem dM_multiply_101 : decode cM_multiply 101 = .ok (.iastore, 1) := by decide +kernel
theorem dM_multiply_102 : decode cM_multiply 102 = .ok (.lload 9, 2) := by decide +kernel
theorem dM_multiply_104 : decode cM_multiply 104 = .ok (.bipush 16, 2) := by decide +kernel
theorem dM_multiply_106 : decode cM_multiply 106 = .ok (.lshr, 1) := by decide +kernel
theorem dM_multiply_107 : decode cM_multiply 107 = .ok (.lstore 6, 2) := by decide +kernel
theorem dM_multiply_109 : decode cM_multiply 109 = .ok (.iinc 8 1, 3) := by decide +kernel
theorem dM_multiply_112 : decode cM_multiply 112 = .ok (.goto (-73), 3) := by decide +kernel
theorem dM_multiply_115 : decode cM_multiply 115 = .ok (.aload_n 0, 1) := by decide +kernel
theorem dM_multiply_116 : decode cM_multiply 116 = .ok (.getfield 23, 3) := by decide +kernel
theorem dM_multiply_119 : decode cM_multiply 119 = .ok (.iload 5, 2) := by decide +kernel
theorem dM_multiply_121 : decode cM_multiply 121 = .ok (.iconst 4, 1) := by decide +kernel
theorem dM_multiply_122 : decode cM_multiply 122 = .ok (.iadd, 1) := by decide +kernel
theorem dM_multiply_123 : decode cM_multiply 123 = .ok (.lload 6, 2) := by decide +kernel
theorem dM_multiply_125 : decode cM_multiply 125 = .ok (.l2i, 1) := by decide +kernel
theorem dM_multiply_126 : decode cM_multiply 126 = .ok (.iastore, 1) := by decide +kernel
theorem dM_multiply_127 : decode cM_multiply 127 = .ok (.iinc 5 1, 3) := by decide +kernel
theorem dM_multiply_130 : decode cM_multiply 130 = .ok (.goto (-103), 3) := by decide +kernel
theorem dM_multiply_133 : decode cM_multiply 133 = .ok (.return_, 1) := by decide +kernel
theorem dM_shifted_0 : decode cM_shifted 0 = .ok (.iload_n 2, 1) := by decide +kernel
theorem dM_shifted_1 : decode cM_shifted 1 = .ok (.iload_n 1, 1) := by decide +kernel
theorem dM_shifted_2 : decode cM_shifted 2 = .ok (.bipush 16, 2) := by decide +kernel
theorem dM_shifted_4 : decode cM_shifted 4 = .ok (.idiv, 1) := by decide +kernel
theorem dM_shifted_5 : decode cM_shifted 5 = .ok (.isub, 1) := by decide +kernel
theorem dM_shifted_6 : decode cM_shifted 6 = .ok (.istore_n 3, 1) := by decide +kernel
theorem dM_shifted_7 : decode cM_shifted 7 = .ok (.iload_n 1, 1) := by decide +kernel
theorem dM_shifted_8 : decode cM_shifted 8 = .ok (.bipush 16, 2) := by decide +kernel
theorem dM_shifted_10 : decode cM_shifted 10 = .ok (.irem, 1) := by decide +kernel
theorem dM_shifted_11 : decode cM_shifted 11 = .ok (.istore 4, 2) := by decide +kernel
theorem dM_shifted_13 : decode cM_shifted 13 = .ok (.iload_n 3, 1) := by decide +kernel
theorem dM_shifted_14 : decode cM_shifted 14 = .ok (.ifCond .lt 18, 3) := by decide +kernel
theorem dM_shifted_17 : decode cM_shifted 17 = .ok (.iload_n 3, 1) := by decide +kernel
theorem dM_shifted_18 : decode cM_shifted 18 = .ok (.bipush 16, 2) := by decide +kernel
theorem dM_shifted_20 : decode cM_shifted 20 = .ok (.if_icmp .ge 12, 3) := by decide +kernel
theorem dM_shifted_23 : decode cM_shifted 23 = .ok (.aload_n 0, 1) := by decide +kernel
theorem dM_shifted_24 : decode cM_shifted 24 = .ok (.getfield 23, 3) := by decide +kernel
theorem dM_shifted_27 : decode cM_shifted 27 = .ok (.iload_n 3, 1) := by decide +kernel
theorem dM_shifted_28 : decode cM_shifted 28 = .ok (.iaload, 1) := by decide +kernel
theorem dM_shifted_29 : decode cM_shifted 29 = .ok (.goto 4, 3) := by decide +kernel
theorem dM_shifted_32 : decode cM_shifted 32 = .ok (.iconst 0, 1) := by decide +kernel
theorem dM_shifted_33 : decode cM_shifted 33 = .ok (.istore 5, 2) := by decide +kernel
theorem dM_shifted_35 : decode cM_shifted 35 = .ok (.iload_n 3, 1) := by decide +kernel
theorem dM_shifted_36 : decode cM_shifted 36 = .ok (.iconst 1, 1) := by decide +kernel
theorem dM_shifted_37 : decode cM_shifted 37 = .ok (.if_icmp .lt 20, 3) := by decide +kernel
theorem dM_shifted_40 : decode cM_shifted 40 = .ok (.iload_n 3, 1) := by decide +kernel
theorem dM_shifted_41 : decode cM_shifted 41 = .ok (.bipush 17, 2) := by decide +kernel
theorem dM_shifted_43 : decode cM_shifted 43 = .ok (.if_icmp .ge 14, 3) := by decide +kernel
theorem dM_shifted_46 : decode cM_shifted 46 = .ok (.aload_n 0, 1) := by decide +kernel
theorem dM_shifted_47 : decode cM_shifted 47 = .ok (.getfield 23, 3) := by decide +kernel
theorem dM_shifted_50 : decode cM_shifted 50 = .ok (.iload_n 3, 1) := by decide +kernel
theorem dM_shifted_51 : decode cM_shifted 51 = .ok (.iconst 1, 1) := by decide +kernel
theorem dM_shifted_52 : decode cM_shifted 52 = .ok (.isub, 1) := by decide +kernel
theorem dM_shifted_53 : decode cM_shifted 53 = .ok (.iaload, 1) := by decide +kernel
theorem dM_shifted_54 : decode cM_shifted 54 = .ok (.goto 4, 3) := by decide +kernel
theorem dM_shifted_57 : decode cM_shifted 57 = .ok (.iconst 0, 1) := by decide +kernel
theorem dM_shifted_58 : decode cM_shifted 58 = .ok (.istore 6, 2) := by decide +kernel
theorem dM_shifted_60 : decode cM_shifted 60 = .ok (.iload 5, 2) := by decide +kernel
theorem dM_shifted_62 : decode cM_shifted 62 = .ok (.iload 4, 2) := by decide +kernel
theorem dM_shifted_64 : decode cM_shifted 64 = .ok (.ishl, 1) := by decide +kernel
theorem dM_shifted_65 : decode cM_shifted 65 = .ok (.iload 6, 2) := by decide +kernel
theorem dM_shifted_67 : decode cM_shifted 67 = .ok (.bipush 16, 2) := by decide +kernel
theorem dM_shifted_69 : decode cM_shifted 69 = .ok (.iload 4, 2) := by decide +kernel
theorem dM_shifted_71 : decode cM_shifted 71 = .ok (.isub, 1) := by decide +kernel
theorem dM_shifted_72 : decode cM_shifted 72 = .ok (.ishr, 1) := by decide +kernel
theorem dM_shifted_73 : decode cM_shifted 73 = .ok (.ior, 1) := by decide +kernel
theorem dM_shifted_74 : decode cM_shifted 74 = .ok (.ldc 120, 2) := by decide +kernel
theorem dM_shifted_76 : decode cM_shifted 76 = .ok (.iand, 1) := by decide +kernel
theorem dM_shifted_77 : decode cM_shifted 77 = .ok (.ireturn, 1) := by decide +kernel
theorem dM_compareFactor_0 : decode cM_compareFactor 0 = .ok (.iload_n 3, 1) := by decide +kernel
theorem dM_compareFactor_1 : decode cM_compareFactor 1 = .ok (.ifCond .ge 8, 3) := by decide +kernel
theorem dM_compareFactor_4 : decode cM_compareFactor 4 = .ok (.iload_n 3, 1) := by decide +kernel
theorem dM_compareFactor_5 : decode cM_compareFactor 5 = .ok (.ineg, 1) := by decide +kernel
theorem dM_compareFactor_6 : decode cM_compareFactor 6 = .ok (.goto 4, 3) := by decide +kernel
theorem dM_compareFactor_9 : decode cM_compareFactor 9 = .ok (.iconst 0, 1) := by decide +kernel
theorem dM_compareFactor_10 : decode cM_compareFactor 10 = .ok (.istore 4, 2) := by decide +kernel
theorem dM_compareFactor_12 : decode cM_compareFactor 12 = .ok (.iload 4, 2) := by decide +kernel
theorem dM_compareFactor_14 : decode cM_compareFactor 14 = .ok (.sipush 144, 3) := by decide +kernel
theorem dM_compareFactor_17 : decode cM_compareFactor 17 = .ok (.iadd, 1) := by decide +kernel
theorem dM_compareFactor_18 : decode cM_compareFactor 18 = .ok (.bipush 16, 2) := by decide +kernel
theorem dM_compareFactor_20 : decode cM_compareFactor 20 = .ok (.idiv, 1) := by decide +kernel
theorem dM_compareFactor_21 : decode cM_compareFactor 21 = .ok (.iload_n 3, 1) := by decide +kernel
theorem dM_compareFactor_22 : decode cM_compareFactor 22 = .ok (.ifCond .le 12, 3) := by decide +kernel
theorem dM_compareFactor_25 : decode cM_compareFactor 25 = .ok (.iload_n 3, 1) := by decide +kernel
theorem dM_compareFactor_26 : decode cM_compareFactor 26 = .ok (.bipush 16, 2) := by decide +kernel
theorem dM_compareFactor_28 : decode cM_compareFactor 28 = .ok (.idiv, 1) := by decide +kernel
theorem dM_compareFactor_29 : decode cM_compareFactor 29 = .ok (.iconst 5, 1) := by decide +kernel
theorem dM_compareFactor_30 : decode cM_compareFactor 30 = .ok (.iadd, 1) := by decide +kernel
theorem dM_compareFactor_31 : decode cM_compareFactor 31 = .ok (.goto 4, 3) := by decide +kernel
theorem dM_compareFactor_34 : decode cM_compareFactor 34 = .ok (.iconst 0, 1) := by decide +kernel
theorem dM_compareFactor_35 : decode cM_compareFactor 35 = .ok (.iadd, 1) := by decide +kernel
theorem dM_compareFactor_36 : decode cM_compareFactor 36 = .ok (.istore 5, 2) := by decide +kernel
theorem dM_compareFactor_38 : decode cM_compareFactor 38 = .ok (.iload 5, 2) := by decide +kernel
theorem dM_compareFactor_40 : decode cM_compareFactor 40 = .ok (.istore 6, 2) := by decide +kernel
theorem dM_compareFactor_42 : decode cM_compareFactor 42 = .ok (.iload 6, 2) := by decide +kernel
theorem dM_compareFactor_44 : decode cM_compareFactor 44 = .ok (.ifCond .lt 56, 3) := by decide +kernel
theorem dM_compareFactor_47 : decode cM_compareFactor 47 = .ok (.aload_n 0, 1) := by decide +kernel
theorem dM_compareFactor_48 : decode cM_compareFactor 48 = .ok (.iload 4, 2) := by decide +kernel
theorem dM_compareFactor_50 : decode cM_compareFactor 50 = .ok (.iload 6, 2) := by decide +kernel
theorem dM_compareFactor_52 : decode cM_compareFactor 52 = .ok (.invokevirtual 140, 3) := by decide +kernel
theorem dM_compareFactor_55 : decode cM_compareFactor 55 = .ok (.istore 7, 2) := by decide +kernel
theorem dM_compareFactor_57 : decode cM_compareFactor 57 = .ok (.lload_n 1, 1) := by decide +kernel
theorem dM_compareFactor_58 : decode cM_compareFactor 58 = .ok (.iload_n 3, 1) := by decide +kernel
theorem dM_compareFactor_59 : decode cM_compareFactor 59 = .ok (.ifCond .le 7, 3) := by decide +kernel
theorem dM_compareFactor_62 : decode cM_compareFactor 62 = .ok (.iload_n 3, 1) := by decide +kernel
theorem dM_compareFactor_63 : decode cM_compareFactor 63 = .ok (.goto 4, 3) := by decide +kernel
theorem dM_compareFactor_66 : decode cM_compareFactor 66 = .ok (.iconst 0, 1) := by decide +kernel
theorem dM_compareFactor_67 : decode cM_compareFactor 67 = .ok (.iload 6, 2) := by decide +kernel
theorem dM_compareFactor_69 : decode cM_compareFactor 69 = .ok (.invokestatic 121, 3) := by decide +kernel
theorem dM_compareFactor_72 : decode cM_compareFactor 72 = .ok (.istore 8, 2) := by decide +kernel
theorem dM_compareFactor_74 : decode cM_compareFactor 74 = .ok (.iload 7, 2) := by decide +kernel
theorem dM_compareFactor_76 : decode cM_compareFactor 76 = .ok (.iload 8, 2) := by decide +kernel
theorem dM_compareFactor_78 : decode cM_compareFactor 78 = .ok (.if_icmp .eq 16, 3) := by decide +kernel
theorem dM_compareFactor_81 : decode cM_compareFactor 81 = .ok (.iload 7, 2) := by decide +kernel
theorem dM_compareFactor_83 : decode cM_compareFactor 83 = .ok (.iload 8, 2) := by decide +kernel
theorem dM_compareFactor_85 : decode cM_compareFactor 85 = .ok (.if_icmp .ge 7, 3) := by decide +kernel
theorem dM_compareFactor_88 : decode cM_compareFactor 88 = .ok (.iconst (-1), 1) := by decide +kernel
theorem dM_compareFactor_89 : decode cM_compareFactor 89 = .ok (.goto 4, 3) := by decide +kernel
theorem dM_compareFactor_92 : decode cM_compareFactor 92 = .ok (.iconst 1, 1) := by decide +kernel
theorem dM_compareFactor_93 : decode cM_compareFactor 93 = .ok (.ireturn, 1) := by decide +kernel
theorem dM_compareFactor_94 : decode cM_compareFactor 94 = .ok (.iinc 6 (-1), 3) := by decide +kernel
theorem dM_compareFactor_97 : decode cM_compareFactor 97 = .ok (.goto (-55), 3) := by decide +kernel
theorem dM_compareFactor_100 : decode cM_compareFactor 100 = .ok (.iconst 0, 1) := by decide +kernel
theorem dM_compareFactor_101 : decode cM_compareFactor 101 = .ok (.ireturn, 1) := by decide +kernel
theorem dM_set_row_0 : decode cM_set_row 0 = .ok (.iconst 0, 1) := by decide +kernel
theorem dM_set_row_1 : decode cM_set_row 1 = .ok (.istore 4, 2) := by decide +kernel
theorem dM_set_row_3 : decode cM_set_row 3 = .ok (.iload 4, 2) := by decide +kernel
theorem dM_set_row_5 : decode cM_set_row 5 = .ok (.sipush 320, 3) := by decide +kernel
theorem dM_set_row_8 : decode cM_set_row 8 = .ok (.if_icmp .ge 20, 3) := by decide +kernel
theorem dM_set_row_11 : decode cM_set_row 11 = .ok (.aload_n 0, 1) := by decide +kernel
theorem dM_set_row_12 : decode cM_set_row 12 = .ok (.iload 4, 2) := by decide +kernel
theorem dM_set_row_14 : decode cM_set_row 14 = .ok (.lload_n 1, 1) := by decide +kernel
theorem dM_set_row_15 : decode cM_set_row 15 = .ok (.iload_n 3, 1) := by decide +kernel
theorem dM_set_row_16 : decode cM_set_row 16 = .ok (.iload 4, 2) := by decide +kernel
theorem dM_set_row_18 : decode cM_set_row 18 = .ok (.invokestatic 121, 3) := by decide +kernel
theorem dM_set_row_21 : decode cM_set_row 21 = .ok (.iastore, 1) := by decide +kernel
theorem dM_set_row_22 : decode cM_set_row 22 = .ok (.iinc 4 1, 3) := by decide +kernel
theorem dM_set_row_25 : decode cM_set_row 25 = .ok (.goto (-22), 3) := by decide +kernel
theorem dM_set_row_28 : decode cM_set_row 28 = .ok (.return_, 1) := by decide +kernel
theorem dM_set_other_0 : decode cM_set_other 0 = .ok (.iconst 0, 1) := by decide +kernel
theorem dM_set_other_1 : decode cM_set_other 1 = .ok (.istore 4, 2) := by decide +kernel
theorem dM_set_other_3 : decode cM_set_other 3 = .ok (.iload 4, 2) := by decide +kernel
theorem dM_set_other_5 : decode cM_set_other 5 = .ok (.sipush 320, 3) := by decide +kernel
theorem dM_set_other_8 : decode cM_set_other 8 = .ok (.if_icmp .ge 20, 3) := by decide +kernel
theorem dM_set_other_11 : decode cM_set_other 11 = .ok (.aload_n 0, 1) := by decide +kernel
theorem dM_set_other_12 : decode cM_set_other 12 = .ok (.iload 4, 2) := by decide +kernel
theorem dM_set_other_14 : decode cM_set_other 14 = .ok (.lload_n 1, 1) := by decide +kernel
theorem dM_set_other_15 : decode cM_set_other 15 = .ok (.iload_n 3, 1) := by decide +kernel
theorem dM_set_other_16 : decode cM_set_other 16 = .ok (.iload 4, 2) := by decide +kernel
theorem dM_set_other_18 : decode cM_set_other 18 = .ok (.invokestatic 121, 3) := by decide +kernel
theorem dM_set_other_21 : decode cM_set_other 21 = .ok (.iastore, 1) := by decide +kernel
theorem dM_set_other_22 : decode cM_set_other 22 = .ok (.iinc 4 1, 3) := by decide +kernel
theorem dM_set_other_25 : decode cM_set_other 25 = .ok (.goto (-22), 3) := by decide +kernel
theorem dM_set_other_28 : decode cM_set_other 28 = .ok (.return_, 1) := by decide +kernel
