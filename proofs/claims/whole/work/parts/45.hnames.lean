abbrev cM_roundedRow : ByteArray := prog_8_method_51_code
def yM_roundedRow : MethodName := ⟨"BitNumbersModel", "roundedRow", "(IZ)J"⟩
def wsM_roundedRow : List Cond := .code yM_roundedRow cM_roundedRow 3 (some .long) :: aw
abbrev cM_valueOf : ByteArray := prog_8_method_52_code
def yM_valueOf : MethodName := ⟨"BitNumbersModel", "valueOf", "(IZJI)J"⟩
def wsM_valueOf : List Cond := .code yM_valueOf cM_valueOf 6 (some .long) :: aw
abbrev cM_sum : ByteArray := prog_8_method_53_code
def yM_sum : MethodName := ⟨"BitNumbersModel", "sum", "(IJJ)J"⟩
def wsM_sum : List Cond := .code yM_sum cM_sum 12 (some .long) :: aw
abbrev cM_product : ByteArray := prog_8_method_54_code
def yM_product : MethodName := ⟨"BitNumbersModel", "product", "(IJJ)J"⟩
def wsM_product : List Cond := .code yM_product cM_product 9 (some .long) :: aw
abbrev cM_byQuotient : ByteArray := prog_8_method_55_code
def yM_byQuotient : MethodName := ⟨"BitNumbersModel", "byQuotient", "(IJJ)J"⟩
def wsM_byQuotient : List Cond := .code yM_byQuotient cM_byQuotient 8 (some .long) :: aw
abbrev cM_root : ByteArray := prog_8_method_56_code
def yM_root : MethodName := ⟨"BitNumbersModel", "root", "(IJ)J"⟩
def wsM_root : List Cond := .code yM_root cM_root 5 (some .long) :: aw
abbrev cM_towards : ByteArray := prog_8_method_57_code
def yM_towards : MethodName := ⟨"BitNumbersModel", "towards", "(IIJ)J"⟩
def wsM_towards : List Cond := .code yM_towards cM_towards 16 (some .long) :: aw
abbrev cM_floating : ByteArray := prog_8_method_59_code
def yM_floating : MethodName := ⟨"BitNumbersModel", "floating", "(IIJJ)J"⟩
def wsM_floating : List Cond := .code yM_floating cM_floating 7 (some .long) :: aw
abbrev cM_toWhole : ByteArray := prog_8_method_62_code
def yM_toWhole : MethodName := ⟨"BitNumbersModel", "toWhole", "(IIZZJ)J"⟩
def wsM_toWhole : List Cond := .code yM_toWhole cM_toWhole 22 (some .long) :: aw
abbrev cM_fromWhole : ByteArray := prog_8_method_63_code
def yM_fromWhole : MethodName := ⟨"BitNumbersModel", "fromWhole", "(IIZJ)J"⟩
def wsM_fromWhole : List Cond := .code yM_fromWhole cM_fromWhole 9 (some .long) :: aw
abbrev cM_between : ByteArray := prog_8_method_64_code
def yM_between : MethodName := ⟨"BitNumbersModel", "between", "(IIJ)J"⟩
def wsM_between : List Cond := .code yM_between cM_between 6 (some .long) :: aw
abbrev cM_convert : ByteArray := prog_8_method_65_code
def yM_convert : MethodName := ⟨"BitNumbersModel", "convert", "(IJ)J"⟩
def wsM_convert : List Cond := .code yM_convert cM_convert 8 (some .long) :: aw
abbrev cM_worked : ByteArray := prog_8_method_66_code
def yM_worked : MethodName := ⟨"BitNumbersModel", "worked", "(IIJJ)J"⟩
def wsM_worked : List Cond := .code yM_worked cM_worked 7 (some .long) :: aw
abbrev rmM_roundedRow : Room := { frames := 4, cells := 0, slots := 0, locals := 114 }
abbrev rmM_valueOf : Room := { frames := 5, cells := 0, slots := 0, locals := 136 }
abbrev rmM_sum : Room := { frames := 5, cells := 0, slots := 0, locals := 136 }
abbrev rmM_product : Room := { frames := 5, cells := 0, slots := 0, locals := 136 }
abbrev rmM_byQuotient : Room := { frames := 5, cells := 0, slots := 0, locals := 114 }
abbrev rmM_root : Room := { frames := 5, cells := 0, slots := 0, locals := 114 }
abbrev rmM_towards : Room := { frames := 6, cells := 0, slots := 0, locals := 161 }
abbrev rmM_floating : Room := { frames := 7, cells := 0, slots := 0, locals := 196 }
abbrev rmM_toWhole : Room := { frames := 5, cells := 0, slots := 0, locals := 106 }
abbrev rmM_fromWhole : Room := { frames := 6, cells := 0, slots := 0, locals := 161 }
abbrev rmM_between : Room := { frames := 6, cells := 0, slots := 0, locals := 161 }
abbrev rmM_convert : Room := { frames := 7, cells := 0, slots := 0, locals := 189 }
abbrev rmM_worked : Room := { frames := 8, cells := 0, slots := 0, locals := 222 }
theorem w_5 : (Cond.selects "BitNumbersModel" yM_whole yM_whole) ∈ aw := aw_in 5 (by decide +kernel) (by decide +kernel)
theorem w_7 : (Cond.selects "BitNumbersModel" yM_floating yM_floating) ∈ aw := aw_in 7 (by decide +kernel) (by decide +kernel)
theorem w_8 : (Cond.selects "BitNumbersModel" yM_root yM_root) ∈ aw := aw_in 8 (by decide +kernel) (by decide +kernel)
theorem w_9 : (Cond.selects "BitNumbersModel" yM_rounded yM_rounded) ∈ aw := aw_in 9 (by decide +kernel) (by decide +kernel)
theorem w_14 : (Cond.selects "BitNumbersModel" yM_sum yM_sum) ∈ aw := aw_in 14 (by decide +kernel) (by decide +kernel)
theorem w_15 : (Cond.selects "BitNumbersModel" yM_compareRows yM_compareRows) ∈ aw := aw_in 15 (by decide +kernel) (by decide +kernel)
theorem w_16 : (Cond.selects "BitNumbersModel" yM_addRows yM_addRows) ∈ aw := aw_in 16 (by decide +kernel) (by decide +kernel)
theorem w_17 : (Cond.selects "BitNumbersModel" yM_subtractRows yM_subtractRows) ∈ aw := aw_in 17 (by decide +kernel) (by decide +kernel)
theorem w_18 : (Cond.selects "BitNumbersModel" yM_roundedRow yM_roundedRow) ∈ aw := aw_in 18 (by decide +kernel) (by decide +kernel)
theorem w_19 : (Cond.selects "BitNumbersModel" yM_measure yM_measure) ∈ aw := aw_in 19 (by decide +kernel) (by decide +kernel)
theorem w_20 : (Cond.selects "BitNumbersModel" yM_highestOfRow yM_highestOfRow) ∈ aw := aw_in 20 (by decide +kernel) (by decide +kernel)
theorem w_21 : (Cond.selects "BitNumbersModel" yM_product yM_product) ∈ aw := aw_in 21 (by decide +kernel) (by decide +kernel)
theorem w_22 : (Cond.selects "BitNumbersModel" yM_clearRows yM_clearRows) ∈ aw := aw_in 22 (by decide +kernel) (by decide +kernel)
theorem w_23 : (Cond.selects "BitNumbersModel" yM_byQuotient yM_byQuotient) ∈ aw := aw_in 23 (by decide +kernel) (by decide +kernel)
theorem w_24 : (Cond.selects "BitNumbersModel" yM_towards yM_towards) ∈ aw := aw_in 24 (by decide +kernel) (by decide +kernel)
theorem w_25 : (Cond.selects "BitNumbersModel" yM_valueOf yM_valueOf) ∈ aw := aw_in 25 (by decide +kernel) (by decide +kernel)
theorem w_26 : (Cond.selects "BitNumbersModel" yM_convert yM_convert) ∈ aw := aw_in 26 (by decide +kernel) (by decide +kernel)
theorem w_27 : (Cond.selects "BitNumbersModel" yM_toWhole yM_toWhole) ∈ aw := aw_in 27 (by decide +kernel) (by decide +kernel)
theorem w_28 : (Cond.selects "BitNumbersModel" yM_bound yM_bound) ∈ aw := aw_in 28 (by decide +kernel) (by decide +kernel)
theorem w_29 : (Cond.selects "BitNumbersModel" yM_between yM_between) ∈ aw := aw_in 29 (by decide +kernel) (by decide +kernel)
theorem w_30 : (Cond.selects "BitNumbersModel" yM_fromWhole yM_fromWhole) ∈ aw := aw_in 30 (by decide +kernel) (by decide +kernel)
theorem w_569 : (Cond.methodLink "BitNumbersModel" 265 yM_compareWhole) ∈ aw := aw_in 569 (by decide +kernel) (by decide +kernel)
theorem w_570 : (Cond.static yM_compareWhole) ∈ aw := aw_in 570 (by decide +kernel) (by decide +kernel)
theorem w_571 : (Cond.code yM_compareWhole cM_compareWhole 10 (some .long)) ∈ aw := aw_in 571 (by decide +kernel) (by decide +kernel)
theorem w_579 : (Cond.methodLink "BitNumbersModel" 268 yM_compareFloating) ∈ aw := aw_in 579 (by decide +kernel) (by decide +kernel)
theorem w_580 : (Cond.static yM_compareFloating) ∈ aw := aw_in 580 (by decide +kernel) (by decide +kernel)
theorem w_581 : (Cond.code yM_compareFloating cM_compareFloating 8 (some .long)) ∈ aw := aw_in 581 (by decide +kernel) (by decide +kernel)
theorem w_618 : (Cond.methodLink "BitNumbersModel" 271 yM_whole) ∈ aw := aw_in 618 (by decide +kernel) (by decide +kernel)
theorem w_620 : (Cond.instanceMethod yM_whole) ∈ aw := aw_in 620 (by decide +kernel) (by decide +kernel)
theorem w_621 : (Cond.code yM_whole cM_whole 10 (some .long)) ∈ aw := aw_in 621 (by decide +kernel) (by decide +kernel)
theorem w_644 : (Cond.methodLink "BitNumbersModel" 274 yM_floating) ∈ aw := aw_in 644 (by decide +kernel) (by decide +kernel)
theorem w_646 : (Cond.instanceMethod yM_floating) ∈ aw := aw_in 646 (by decide +kernel) (by decide +kernel)
theorem w_647 : (Cond.code yM_floating cM_floating 7 (some .long)) ∈ aw := aw_in 647 (by decide +kernel) (by decide +kernel)
theorem w_651 : (Cond.methodLink "BitNumbersModel" 198 yM_theNone) ∈ aw := aw_in 651 (by decide +kernel) (by decide +kernel)
theorem w_652 : (Cond.static yM_theNone) ∈ aw := aw_in 652 (by decide +kernel) (by decide +kernel)
theorem w_653 : (Cond.code yM_theNone cM_theNone 1 (some .long)) ∈ aw := aw_in 653 (by decide +kernel) (by decide +kernel)
theorem w_656 : (Cond.methodLink "BitNumbersModel" 230 yM_root) ∈ aw := aw_in 656 (by decide +kernel) (by decide +kernel)
theorem w_658 : (Cond.instanceMethod yM_root) ∈ aw := aw_in 658 (by decide +kernel) (by decide +kernel)
theorem w_659 : (Cond.code yM_root cM_root 5 (some .long)) ∈ aw := aw_in 659 (by decide +kernel) (by decide +kernel)
theorem w_660 : (Cond.methodLink "BitNumbersModel" 195 yM_isInfinite) ∈ aw := aw_in 660 (by decide +kernel) (by decide +kernel)
theorem w_661 : (Cond.static yM_isInfinite) ∈ aw := aw_in 661 (by decide +kernel) (by decide +kernel)
theorem w_662 : (Cond.code yM_isInfinite cM_isInfinite 3 (some .boolean)) ∈ aw := aw_in 662 (by decide +kernel) (by decide +kernel)
theorem w_663 : (Cond.methodLink "BitNumbersModel" 207 yM_significand) ∈ aw := aw_in 663 (by decide +kernel) (by decide +kernel)
theorem w_664 : (Cond.static yM_significand) ∈ aw := aw_in 664 (by decide +kernel) (by decide +kernel)
theorem w_665 : (Cond.code yM_significand cM_significand 3 (some .long)) ∈ aw := aw_in 665 (by decide +kernel) (by decide +kernel)
theorem w_666 : (Cond.methodLink "BitNumbersModel" 204 yM_scaleOf) ∈ aw := aw_in 666 (by decide +kernel) (by decide +kernel)
theorem w_667 : (Cond.static yM_scaleOf) ∈ aw := aw_in 667 (by decide +kernel) (by decide +kernel)
theorem w_668 : (Cond.code yM_scaleOf cM_scaleOf 3 (some .int)) ∈ aw := aw_in 668 (by decide +kernel) (by decide +kernel)
theorem w_675 : (Cond.methodLink "BitNumbersModel" 179 yM_rounded) ∈ aw := aw_in 675 (by decide +kernel) (by decide +kernel)
theorem w_677 : (Cond.instanceMethod yM_rounded) ∈ aw := aw_in 677 (by decide +kernel) (by decide +kernel)
theorem w_678 : (Cond.code yM_rounded cM_rounded 13 (some .long)) ∈ aw := aw_in 678 (by decide +kernel) (by decide +kernel)
theorem w_703 : (Cond.methodLink "BitNumbersModel" 233 yM_sum) ∈ aw := aw_in 703 (by decide +kernel) (by decide +kernel)
theorem w_705 : (Cond.instanceMethod yM_sum) ∈ aw := aw_in 705 (by decide +kernel) (by decide +kernel)
theorem w_706 : (Cond.code yM_sum cM_sum 12 (some .long)) ∈ aw := aw_in 706 (by decide +kernel) (by decide +kernel)
theorem w_707 : (Cond.methodLink "BitNumbersModel" 183 yM_set_row) ∈ aw := aw_in 707 (by decide +kernel) (by decide +kernel)
theorem w_708 : (Cond.static yM_set_row) ∈ aw := aw_in 708 (by decide +kernel) (by decide +kernel)
theorem w_709 : (Cond.code yM_set_row cM_set_row 5 none) ∈ aw := aw_in 709 (by decide +kernel) (by decide +kernel)
theorem w_710 : (Cond.methodLink "BitNumbersModel" 210 yM_compareRows) ∈ aw := aw_in 710 (by decide +kernel) (by decide +kernel)
theorem w_712 : (Cond.instanceMethod yM_compareRows) ∈ aw := aw_in 712 (by decide +kernel) (by decide +kernel)
theorem w_713 : (Cond.code yM_compareRows cM_compareRows 2 (some .int)) ∈ aw := aw_in 713 (by decide +kernel) (by decide +kernel)
theorem w_714 : (Cond.methodLink "BitNumbersModel" 213 yM_addRows) ∈ aw := aw_in 714 (by decide +kernel) (by decide +kernel)
theorem w_716 : (Cond.instanceMethod yM_addRows) ∈ aw := aw_in 716 (by decide +kernel) (by decide +kernel)
theorem w_717 : (Cond.code yM_addRows cM_addRows 4 none) ∈ aw := aw_in 717 (by decide +kernel) (by decide +kernel)
theorem w_718 : (Cond.methodLink "BitNumbersModel" 216 yM_subtractRows) ∈ aw := aw_in 718 (by decide +kernel) (by decide +kernel)
theorem w_720 : (Cond.instanceMethod yM_subtractRows) ∈ aw := aw_in 720 (by decide +kernel) (by decide +kernel)
theorem w_721 : (Cond.code yM_subtractRows cM_subtractRows 5 none) ∈ aw := aw_in 721 (by decide +kernel) (by decide +kernel)
theorem w_722 : (Cond.methodLink "BitNumbersModel" 187 yM_roundedRow) ∈ aw := aw_in 722 (by decide +kernel) (by decide +kernel)
theorem w_724 : (Cond.instanceMethod yM_roundedRow) ∈ aw := aw_in 724 (by decide +kernel) (by decide +kernel)
theorem w_725 : (Cond.code yM_roundedRow cM_roundedRow 3 (some .long)) ∈ aw := aw_in 725 (by decide +kernel) (by decide +kernel)
theorem w_726 : (Cond.methodLink "BitNumbersModel" 172 yM_measure) ∈ aw := aw_in 726 (by decide +kernel) (by decide +kernel)
theorem w_728 : (Cond.instanceMethod yM_measure) ∈ aw := aw_in 728 (by decide +kernel) (by decide +kernel)
theorem w_729 : (Cond.code yM_measure cM_measure 1 none) ∈ aw := aw_in 729 (by decide +kernel) (by decide +kernel)
theorem w_730 : (Cond.methodLink "BitNumbersModel" 175 yM_highestOfRow) ∈ aw := aw_in 730 (by decide +kernel) (by decide +kernel)
theorem w_732 : (Cond.instanceMethod yM_highestOfRow) ∈ aw := aw_in 732 (by decide +kernel) (by decide +kernel)
theorem w_733 : (Cond.code yM_highestOfRow cM_highestOfRow 1 (some .int)) ∈ aw := aw_in 733 (by decide +kernel) (by decide +kernel)
theorem w_734 : (Cond.methodLink "BitNumbersModel" 236 yM_product) ∈ aw := aw_in 734 (by decide +kernel) (by decide +kernel)
theorem w_736 : (Cond.instanceMethod yM_product) ∈ aw := aw_in 736 (by decide +kernel) (by decide +kernel)
theorem w_737 : (Cond.code yM_product cM_product 9 (some .long)) ∈ aw := aw_in 737 (by decide +kernel) (by decide +kernel)
theorem w_738 : (Cond.methodLink "BitNumbersModel" 220 yM_clearRows) ∈ aw := aw_in 738 (by decide +kernel) (by decide +kernel)
theorem w_740 : (Cond.instanceMethod yM_clearRows) ∈ aw := aw_in 740 (by decide +kernel) (by decide +kernel)
theorem w_741 : (Cond.code yM_clearRows cM_clearRows 2 none) ∈ aw := aw_in 741 (by decide +kernel) (by decide +kernel)
theorem w_742 : (Cond.methodLink "BitNumbersModel" 239 yM_byQuotient) ∈ aw := aw_in 742 (by decide +kernel) (by decide +kernel)
theorem w_744 : (Cond.instanceMethod yM_byQuotient) ∈ aw := aw_in 744 (by decide +kernel) (by decide +kernel)
theorem w_745 : (Cond.code yM_byQuotient cM_byQuotient 8 (some .long)) ∈ aw := aw_in 745 (by decide +kernel) (by decide +kernel)
theorem w_746 : (Cond.methodLink "BitNumbersModel" 246 yM_towards) ∈ aw := aw_in 746 (by decide +kernel) (by decide +kernel)
theorem w_748 : (Cond.instanceMethod yM_towards) ∈ aw := aw_in 748 (by decide +kernel) (by decide +kernel)
theorem w_749 : (Cond.code yM_towards cM_towards 16 (some .long)) ∈ aw := aw_in 749 (by decide +kernel) (by decide +kernel)
theorem w_750 : (Cond.methodLink "BitNumbersModel" 223 yM_valueOf) ∈ aw := aw_in 750 (by decide +kernel) (by decide +kernel)
theorem w_752 : (Cond.instanceMethod yM_valueOf) ∈ aw := aw_in 752 (by decide +kernel) (by decide +kernel)
theorem w_753 : (Cond.code yM_valueOf cM_valueOf 6 (some .long)) ∈ aw := aw_in 753 (by decide +kernel) (by decide +kernel)
theorem w_754 : (Cond.methodLink "BitNumbersModel" 277 yM_convert) ∈ aw := aw_in 754 (by decide +kernel) (by decide +kernel)
theorem w_756 : (Cond.instanceMethod yM_convert) ∈ aw := aw_in 756 (by decide +kernel) (by decide +kernel)
theorem w_757 : (Cond.code yM_convert cM_convert 8 (some .long)) ∈ aw := aw_in 757 (by decide +kernel) (by decide +kernel)
theorem w_758 : (Cond.methodLink "BitNumbersModel" 254 yM_toWhole) ∈ aw := aw_in 758 (by decide +kernel) (by decide +kernel)
theorem w_760 : (Cond.instanceMethod yM_toWhole) ∈ aw := aw_in 760 (by decide +kernel) (by decide +kernel)
theorem w_761 : (Cond.code yM_toWhole cM_toWhole 22 (some .long)) ∈ aw := aw_in 761 (by decide +kernel) (by decide +kernel)
theorem w_762 : (Cond.methodLink "BitNumbersModel" 250 yM_bound) ∈ aw := aw_in 762 (by decide +kernel) (by decide +kernel)
theorem w_764 : (Cond.instanceMethod yM_bound) ∈ aw := aw_in 764 (by decide +kernel) (by decide +kernel)
theorem w_765 : (Cond.code yM_bound cM_bound 5 (some .long)) ∈ aw := aw_in 765 (by decide +kernel) (by decide +kernel)
theorem w_766 : (Cond.methodLink "BitNumbersModel" 258 yM_between) ∈ aw := aw_in 766 (by decide +kernel) (by decide +kernel)
theorem w_768 : (Cond.instanceMethod yM_between) ∈ aw := aw_in 768 (by decide +kernel) (by decide +kernel)
theorem w_769 : (Cond.code yM_between cM_between 6 (some .long)) ∈ aw := aw_in 769 (by decide +kernel) (by decide +kernel)
theorem w_770 : (Cond.methodLink "BitNumbersModel" 261 yM_fromWhole) ∈ aw := aw_in 770 (by decide +kernel) (by decide +kernel)
theorem w_772 : (Cond.instanceMethod yM_fromWhole) ∈ aw := aw_in 772 (by decide +kernel) (by decide +kernel)
theorem w_773 : (Cond.code yM_fromWhole cM_fromWhole 9 (some .long)) ∈ aw := aw_in 773 (by decide +kernel) (by decide +kernel)
theorem dM_roundedRow_0 : decode cM_roundedRow 0 = .ok (.aload_n 0, 1) := by decide +kernel
theorem dM_roundedRow_1 : decode cM_roundedRow 1 = .ok (.invokevirtual 172, 3) := by decide +kernel
theorem dM_roundedRow_4 : decode cM_roundedRow 4 = .ok (.aload_n 0, 1) := by decide +kernel
theorem dM_roundedRow_5 : decode cM_roundedRow 5 = .ok (.iload_n 1, 1) := by decide +kernel
theorem dM_roundedRow_6 : decode cM_roundedRow 6 = .ok (.iload_n 2, 1) := by decide +kernel
theorem dM_roundedRow_7 : decode cM_roundedRow 7 = .ok (.aload_n 0, 1) := by decide +kernel
theorem dM_roundedRow_8 : decode cM_roundedRow 8 = .ok (.invokevirtual 175, 3) := by decide +kernel
theorem dM_roundedRow_11 : decode cM_roundedRow 11 = .ok (.invokevirtual 179, 3) := by decide +kernel
theorem dM_roundedRow_14 : decode cM_roundedRow 14 = .ok (.lreturn, 1) := by decide +kernel
theorem dM_valueOf_0 : decode cM_valueOf 0 = .ok (.lload_n 3, 1) := by decide +kernel
theorem dM_valueOf_1 : decode cM_valueOf 1 = .ok (.lconst 0, 1) := by decide +kernel
theorem dM_valueOf_2 : decode cM_valueOf 2 = .ok (.lcmp, 1) := by decide +kernel
theorem dM_valueOf_3 : decode cM_valueOf 3 = .ok (.ifCond .ne 10, 3) := by decide +kernel
theorem dM_valueOf_6 : decode cM_valueOf 6 = .ok (.iload_n 1, 1) := by decide +kernel
theorem dM_valueOf_7 : decode cM_valueOf 7 = .ok (.iload_n 2, 1) := by decide +kernel
theorem dM_valueOf_8 : decode cM_valueOf 8 = .ok (.lconst 0, 1) := by decide +kernel
theorem dM_valueOf_9 : decode cM_valueOf 9 = .ok (.invokestatic 165, 3) := by decide +kernel
theorem dM_valueOf_12 : decode cM_valueOf 12 = .ok (.lreturn, 1) := by decide +kernel
theorem dM_valueOf_13 : decode cM_valueOf 13 = .ok (.aload_n 0, 1) := by decide +kernel
theorem dM_valueOf_14 : decode cM_valueOf 14 = .ok (.getfield 17, 3) := by decide +kernel
theorem dM_valueOf_17 : decode cM_valueOf 17 = .ok (.lload_n 3, 1) := by decide +kernel
theorem dM_valueOf_18 : decode cM_valueOf 18 = .ok (.bipush 64, 2) := by decide +kernel
theorem dM_valueOf_20 : decode cM_valueOf 20 = .ok (.invokestatic 183, 3) := by decide +kernel
theorem dM_valueOf_23 : decode cM_valueOf 23 = .ok (.aload_n 0, 1) := by decide +kernel
theorem dM_valueOf_24 : decode cM_valueOf 24 = .ok (.iload 5, 2) := by decide +kernel
theorem dM_valueOf_26 : decode cM_valueOf 26 = .ok (.bipush 64, 2) := by decide +kernel
theorem dM_valueOf_28 : decode cM_valueOf 28 = .ok (.isub, 1) := by decide +kernel
theorem dM_valueOf_29 : decode cM_valueOf 29 = .ok (.putfield 135, 3) := by decide +kernel
theorem dM_valueOf_32 : decode cM_valueOf 32 = .ok (.aload_n 0, 1) := by decide +kernel
theorem dM_valueOf_33 : decode cM_valueOf 33 = .ok (.iload_n 1, 1) := by decide +kernel
theorem dM_valueOf_34 : decode cM_valueOf 34 = .ok (.iload_n 2, 1) := by decide +kernel
theorem dM_valueOf_35 : decode cM_valueOf 35 = .ok (.invokevirtual 187, 3) := by decide +kernel
theorem dM_valueOf_38 : decode cM_valueOf 38 = .ok (.lreturn, 1) := by decide +kernel
theorem dM_sum_0 : decode cM_sum 0 = .ok (.iload_n 1, 1) := by decide +kernel
theorem dM_sum_1 : decode cM_sum 1 = .ok (.lload_n 2, 1) := by decide +kernel
theorem dM_sum_2 : decode cM_sum 2 = .ok (.invokestatic 191, 3) := by decide +kernel
theorem dM_sum_5 : decode cM_sum 5 = .ok (.istore 6, 2) := by decide +kernel
theorem dM_sum_7 : decode cM_sum 7 = .ok (.iload_n 1, 1) := by decide +kernel
theorem dM_sum_8 : decode cM_sum 8 = .ok (.lload 4, 2) := by decide +kernel
theorem dM_sum_10 : decode cM_sum 10 = .ok (.invokestatic 191, 3) := by decide +kernel
theorem dM_sum_13 : decode cM_sum 13 = .ok (.istore 7, 2) := by decide +kernel
theorem dM_sum_15 : decode cM_sum 15 = .ok (.iload_n 1, 1) := by decide +kernel
theorem dM_sum_16 : decode cM_sum 16 = .ok (.lload_n 2, 1) := by decide +kernel
theorem dM_sum_17 : decode cM_sum 17 = .ok (.invokestatic 195, 3) := by decide +kernel
theorem dM_sum_20 : decode cM_sum 20 = .ok (.ifCond .eq 28, 3) := by decide +kernel
theorem dM_sum_23 : decode cM_sum 23 = .ok (.iload_n 1, 1) := by decide +kernel
theorem dM_sum_24 : decode cM_sum 24 = .ok (.lload 4, 2) := by decide +kernel
theorem dM_sum_26 : decode cM_sum 26 = .ok (.invokestatic 195, 3) := by decide +kernel
theorem dM_sum_29 : decode cM_sum 29 = .ok (.ifCond .eq 17, 3) := by decide +kernel
theorem dM_sum_32 : decode cM_sum 32 = .ok (.iload 6, 2) := by decide +kernel
theorem dM_sum_34 : decode cM_sum 34 = .ok (.iload 7, 2) := by decide +kernel
theorem dM_sum_36 : decode cM_sum 36 = .ok (.if_icmp .eq 10, 3) := by decide +kernel
theorem dM_sum_39 : decode cM_sum 39 = .ok (.iload_n 1, 1) := by decide +kernel
theorem dM_sum_40 : decode cM_sum 40 = .ok (.invokestatic 198, 3) := by decide +kernel
theorem dM_sum_43 : decode cM_sum 43 = .ok (.goto 4, 3) := by decide +kernel
theorem dM_sum_46 : decode cM_sum 46 = .ok (.lload_n 2, 1) := by decide +kernel
theorem dM_sum_47 : decode cM_sum 47 = .ok (.lreturn, 1) := by decide +kernel
theorem dM_sum_48 : decode cM_sum 48 = .ok (.iload_n 1, 1) := by decide +kernel
theorem dM_sum_49 : decode cM_sum 49 = .ok (.lload 4, 2) := by decide +kernel
theorem dM_sum_51 : decode cM_sum 51 = .ok (.invokestatic 195, 3) := by decide +kernel
theorem dM_sum_54 : decode cM_sum 54 = .ok (.ifCond .eq 6, 3) := by decide +kernel
theorem dM_sum_57 : decode cM_sum 57 = .ok (.lload 4, 2) := by decide +kernel
theorem dM_sum_59 : decode cM_sum 59 = .ok (.lreturn, 1) := by decide +kernel
theorem dM_sum_60 : decode cM_sum 60 = .ok (.iload_n 1, 1) := by decide +kernel
theorem dM_sum_61 : decode cM_sum 61 = .ok (.lload_n 2, 1) := by decide +kernel
theorem dM_sum_62 : decode cM_sum 62 = .ok (.invokestatic 201, 3) := by decide +kernel
theorem dM_sum_65 : decode cM_sum 65 = .ok (.ifCond .eq 33, 3) := by decide +kernel
theorem dM_sum_68 : decode cM_sum 68 = .ok (.iload_n 1, 1) := by decide +kernel
theorem dM_sum_69 : decode cM_sum 69 = .ok (.lload 4, 2) := by decide +kernel
theorem dM_sum_71 : decode cM_sum 71 = .ok (.invokestatic 201, 3) := by decide +kernel
theorem dM_sum_74 : decode cM_sum 74 = .ok (.ifCond .eq 24, 3) := by decide +kernel
theorem dM_sum_77 : decode cM_sum 77 = .ok (.iload_n 1, 1) := by decide +kernel
theorem dM_sum_78 : decode cM_sum 78 = .ok (.iload 6, 2) := by decide +kernel
theorem dM_sum_80 : decode cM_sum 80 = .ok (.ifCond .eq 12, 3) := by decide +kernel
theorem dM_sum_83 : decode cM_sum 83 = .ok (.iload 7, 2) := by decide +kernel
theorem dM_sum_85 : decode cM_sum 85 = .ok (.ifCond .eq 7, 3) := by decide +kernel
theorem dM_sum_88 : decode cM_sum 88 = .ok (.iconst 1, 1) := by decide +kernel
theorem dM_sum_89 : decode cM_sum 89 = .ok (.goto 4, 3) := by decide +kernel
theorem dM_sum_92 : decode cM_sum 92 = .ok (.iconst 0, 1) := by decide +kernel
theorem dM_sum_93 : decode cM_sum 93 = .ok (.lconst 0, 1) := by decide +kernel
theorem dM_sum_94 : decode cM_sum 94 = .ok (.invokestatic 165, 3) := by decide +kernel
theorem dM_sum_97 : decode cM_sum 97 = .ok (.lreturn, 1) := by decide +kernel
theorem dM_sum_98 : decode cM_sum 98 = .ok (.iload_n 1, 1) := by decide +kernel
theorem dM_sum_99 : decode cM_sum 99 = .ok (.lload_n 2, 1) := by decide +kernel
theorem dM_sum_100 : decode cM_sum 100 = .ok (.invokestatic 204, 3) := by decide +kernel
theorem dM_sum_103 : decode cM_sum 103 = .ok (.istore 8, 2) := by decide +kernel
theorem dM_sum_105 : decode cM_sum 105 = .ok (.iload_n 1, 1) := by decide +kernel
theorem dM_sum_106 : decode cM_sum 106 = .ok (.lload 4, 2) := by decide +kernel
theorem dM_sum_108 : decode cM_sum 108 = .ok (.invokestatic 204, 3) := by decide +kernel
theorem dM_sum_111 : decode cM_sum 111 = .ok (.istore 9, 2) := by decide +kernel
theorem dM_sum_113 : decode cM_sum 113 = .ok (.iload 8, 2) := by decide +kernel
theorem dM_sum_115 : decode cM_sum 115 = .ok (.iload 9, 2) := by decide +kernel
theorem dM_sum_117 : decode cM_sum 117 = .ok (.if_icmp .ge 8, 3) := by decide +kernel
theorem dM_sum_120 : decode cM_sum 120 = .ok (.iload 8, 2) := by decide +kernel
theorem dM_sum_122 : decode cM_sum 122 = .ok (.goto 5, 3) := by decide +kernel
theorem dM_sum_125 : decode cM_sum 125 = .ok (.iload 9, 2) := by decide +kernel
theorem dM_sum_127 : decode cM_sum 127 = .ok (.istore 10, 2) := by decide +kernel
theorem dM_sum_129 : decode cM_sum 129 = .ok (.aload_n 0, 1) := by decide +kernel
theorem dM_sum_130 : decode cM_sum 130 = .ok (.iload 10, 2) := by decide +kernel
theorem dM_sum_132 : decode cM_sum 132 = .ok (.bipush 64, 2) := by decide +kernel
theorem dM_sum_134 : decode cM_sum 134 = .ok (.isub, 1) := by decide +kernel
theorem dM_sum_135 : decode cM_sum 135 = .ok (.putfield 135, 3) := by decide +kernel
theorem dM_sum_138 : decode cM_sum 138 = .ok (.aload_n 0, 1) := by decide +kernel
theorem dM_sum_139 : decode cM_sum 139 = .ok (.getfield 17, 3) := by decide +kernel
theorem dM_sum_142 : decode cM_sum 142 = .ok (.iload_n 1, 1) := by decide +kernel
theorem dM_sum_143 : decode cM_sum 143 = .ok (.lload_n 2, 1) := by decide +kernel
theorem dM_sum_144 : decode cM_sum 144 = .ok (.invokestatic 207, 3) := by decide +kernel
theorem dM_sum_147 : decode cM_sum 147 = .ok (.iload 8, 2) := by decide +kernel
theorem dM_sum_149 : decode cM_sum 149 = .ok (.aload_n 0, 1) := by decide +kernel
theorem dM_sum_150 : decode cM_sum 150 = .ok (.getfield 135, 3) := by decide +kernel
theorem dM_sum_153 : decode cM_sum 153 = .ok (.isub, 1) := by decide +kernel
theorem dM_sum_154 : decode cM_sum 154 = .ok (.invokestatic 183, 3) := by decide +kernel
theorem dM_sum_157 : decode cM_sum 157 = .ok (.aload_n 0, 1) := by decide +kernel
theorem dM_sum_158 : decode cM_sum 158 = .ok (.getfield 20, 3) := by decide +kernel
theorem dM_sum_161 : decode cM_sum 161 = .ok (.iload_n 1, 1) := by decide +kernel
theorem dM_sum_162 : decode cM_sum 162 = .ok (.lload 4, 2) := by decide +kernel
theorem dM_sum_164 : decode cM_sum 164 = .ok (.invokestatic 207, 3) := by decide +kernel
theorem dM_sum_167 : decode cM_sum 167 = .ok (.iload 9, 2) := by decide +kernel
theorem dM_sum_169 : decode cM_sum 169 = .ok (.aload_n 0, 1) := by decide +kernel
theorem dM_sum_170 : decode cM_sum 170 = .ok (.getfield 135, 3) := by decide +kernel
theorem dM_sum_173 : decode cM_sum 173 = .ok (.isub, 1) := by decide +kernel
theorem dM_sum_174 : decode cM_sum 174 = .ok (.invokestatic 183, 3) := by decide +kernel
theorem dM_sum_177 : decode cM_sum 177 = .ok (.aload_n 0, 1) := by decide +kernel
theorem dM_sum_178 : decode cM_sum 178 = .ok (.invokevirtual 210, 3) := by decide +kernel
theorem dM_sum_181 : decode cM_sum 181 = .ok (.istore 11, 2) := by decide +kernel
theorem dM_sum_183 : decode cM_sum 183 = .ok (.iload 6, 2) := by decide +kernel
theorem dM_sum_185 : decode cM_sum 185 = .ok (.iload 7, 2) := by decide +kernel
theorem dM_sum_187 : decode cM_sum 187 = .ok (.if_icmp .ne 10, 3) := by decide +kernel
theorem dM_sum_190 : decode cM_sum 190 = .ok (.aload_n 0, 1) := by decide +kernel
theorem dM_sum_191 : decode cM_sum 191 = .ok (.invokevirtual 213, 3) := by decide +kernel
theorem dM_sum_194 : decode cM_sum 194 = .ok (.goto 24, 3) := by decide +kernel
theorem dM_sum_197 : decode cM_sum 197 = .ok (.iload 11, 2) := by decide +kernel
theorem dM_sum_199 : decode cM_sum 199 = .ok (.ifCond .ne 5, 3) := by decide +kernel
theorem dM_sum_202 : decode cM_sum 202 = .ok (.lconst 0, 1) := by decide +kernel
theorem dM_sum_203 : decode cM_sum 203 = .ok (.lreturn, 1) := by decide +kernel
theorem dM_sum_204 : decode cM_sum 204 = .ok (.aload_n 0, 1) := by decide +kernel
theorem dM_sum_205 : decode cM_sum 205 = .ok (.iload 11, 2) := by decide +kernel
theorem dM_sum_207 : decode cM_sum 207 = .ok (.ifCond .ge 7, 3) := by decide +kernel
theorem dM_sum_210 : decode cM_sum 210 = .ok (.iconst 1, 1) := by decide +kernel
theorem dM_sum_211 : decode cM_sum 211 = .ok (.goto 4, 3) := by decide +kernel
theorem dM_sum_214 : decode cM_sum 214 = .ok (.iconst 0, 1) := by decide +kernel
theorem dM_sum_215 : decode cM_sum 215 = .ok (.invokevirtual 216, 3) := by decide +kernel
theorem dM_sum_218 : decode cM_sum 218 = .ok (.aload_n 0, 1) := by decide +kernel
theorem dM_sum_219 : decode cM_sum 219 = .ok (.iload_n 1, 1) := by decide +kernel
theorem dM_sum_220 : decode cM_sum 220 = .ok (.iload 6, 2) := by decide +kernel
theorem dM_sum_222 : decode cM_sum 222 = .ok (.iload 7, 2) := by decide +kernel
theorem dM_sum_224 : decode cM_sum 224 = .ok (.if_icmp .eq 8, 3) := by decide +kernel
theorem dM_sum_227 : decode cM_sum 227 = .ok (.iload 11, 2) := by decide +kernel
theorem dM_sum_229 : decode cM_sum 229 = .ok (.ifCond .le 8, 3) := by decide +kernel
theorem dM_sum_232 : decode cM_sum 232 = .ok (.iload 6, 2) := by decide +kernel
theorem dM_sum_234 : decode cM_sum 234 = .ok (.goto 5, 3) := by decide +kernel
theorem dM_sum_237 : decode cM_sum 237 = .ok (.iload 7, 2) := by decide +kernel
theorem dM_sum_239 : decode cM_sum 239 = .ok (.invokevirtual 187, 3) := by decide +kernel
theorem dM_sum_242 : decode cM_sum 242 = .ok (.lreturn, 1) := by decide +kernel
theorem dM_product_0 : decode cM_product 0 = .ok (.iload_n 1, 1) := by decide +kernel
theorem dM_product_1 : decode cM_product 1 = .ok (.lload_n 2, 1) := by decide +kernel
theorem dM_product_2 : decode cM_product 2 = .ok (.invokestatic 191, 3) := by decide +kernel
theorem dM_product_5 : decode cM_product 5 = .ok (.iload_n 1, 1) := by decide +kernel
theorem dM_product_6 : decode cM_product 6 = .ok (.lload 4, 2) := by decide +kernel
theorem dM_product_8 : decode cM_product 8 = .ok (.invokestatic 191, 3) := by decide +kernel
theorem dM_product_11 : decode cM_product 11 = .ok (.if_icmp .eq 7, 3) := by decide +kernel
theorem dM_product_14 : decode cM_product 14 = .ok (.iconst 1, 1) := by decide +kernel
theorem dM_product_15 : decode cM_product 15 = .ok (.goto 4, 3) := by decide +kernel
theorem dM_product_18 : decode cM_product 18 = .ok (.iconst 0, 1) := by decide +kernel
theorem dM_product_19 : decode cM_product 19 = .ok (.istore 6, 2) := by decide +kernel
theorem dM_product_21 : decode cM_product 21 = .ok (.iload_n 1, 1) := by decide +kernel
theorem dM_product_22 : decode cM_product 22 = .ok (.lload_n 2, 1) := by decide +kernel
theorem dM_product_23 : decode cM_product 23 = .ok (.invokestatic 201, 3) := by decide +kernel
theorem dM_product_26 : decode cM_product 26 = .ok (.ifCond .ne 12, 3) := by decide +kernel
theorem dM_product_29 : decode cM_product 29 = .ok (.iload_n 1, 1) := by decide +kernel
theorem dM_product_30 : decode cM_product 30 = .ok (.lload 4, 2) := by decide +kernel
theorem dM_product_32 : decode cM_product 32 = .ok (.invokestatic 201, 3) := by decide +kernel
theorem dM_product_35 : decode cM_product 35 = .ok (.ifCond .eq 7, 3) := by decide +kernel
theorem dM_product_38 : decode cM_product 38 = .ok (.iconst 1, 1) := by decide +kernel
theorem dM_product_39 : decode cM_product 39 = .ok (.goto 4, 3) := by decide +kernel
theorem dM_product_42 : decode cM_product 42 = .ok (.iconst 0, 1) := by decide +kernel
theorem dM_product_43 : decode cM_product 43 = .ok (.istore 7, 2) := by decide +kernel
theorem dM_product_45 : decode cM_product 45 = .ok (.iload_n 1, 1) := by decide +kernel
theorem dM_product_46 : decode cM_product 46 = .ok (.lload_n 2, 1) := by decide +kernel
theorem dM_product_47 : decode cM_product 47 = .ok (.invokestatic 195, 3) := by decide +kernel
theorem dM_product_50 : decode cM_product 50 = .ok (.ifCond .ne 12, 3) := by decide +kernel
theorem dM_product_53 : decode cM_product 53 = .ok (.iload_n 1, 1) := by decide +kernel
theorem dM_product_54 : decode cM_product 54 = .ok (.lload 4, 2) := by decide +kernel
theorem dM_product_56 : decode cM_product 56 = .ok (.invokestatic 195, 3) := by decide +kernel
theorem dM_product_59 : decode cM_product 59 = .ok (.ifCond .eq 26, 3) := by decide +kernel
theorem dM_product_62 : decode cM_product 62 = .ok (.iload 7, 2) := by decide +kernel
theorem dM_product_64 : decode cM_product 64 = .ok (.ifCond .eq 10, 3) := by decide +kernel
theorem dM_product_67 : decode cM_product 67 = .ok (.iload_n 1, 1) := by decide +kernel
theorem dM_product_68 : decode cM_product 68 = .ok (.invokestatic 198, 3) := by decide +kernel
theorem dM_product_71 : decode cM_product 71 = .ok (.goto 13, 3) := by decide +kernel
theorem dM_product_74 : decode cM_product 74 = .ok (.iload_n 1, 1) := by decide +kernel
theorem dM_product_75 : decode cM_product 75 = .ok (.iload 6, 2) := by decide +kernel
theorem dM_product_77 : decode cM_product 77 = .ok (.iload_n 1, 1) := by decide +kernel
theorem dM_product_78 : decode cM_product 78 = .ok (.invokestatic 169, 3) := by decide +kernel
theorem dM_product_81 : decode cM_product 81 = .ok (.invokestatic 165, 3) := by decide +kernel
theorem dM_product_84 : decode cM_product 84 = .ok (.lreturn, 1) := by decide +kernel
theorem dM_product_85 : decode cM_product 85 = .ok (.iload 7, 2) := by decide +kernel
theorem dM_product_87 : decode cM_product 87 = .ok (.ifCond .eq 11, 3) := by decide +kernel
theorem dM_product_90 : decode cM_product 90 = .ok (.iload_n 1, 1) := by decide +kernel
theorem dM_product_91 : decode cM_product 91 = .ok (.iload 6, 2) := by decide +kernel
theorem dM_product_93 : decode cM_product 93 = .ok (.lconst 0, 1) := by decide +kernel
theorem dM_product_94 : decode cM_product 94 = .ok (.invokestatic 165, 3) := by decide +kernel
theorem dM_product_97 : decode cM_product 97 = .ok (.lreturn, 1) := by decide +kernel
theorem dM_product_98 : decode cM_product 98 = .ok (.aload_n 0, 1) := by decide +kernel
theorem dM_product_99 : decode cM_product 99 = .ok (.iload_n 1, 1) := by decide +kernel
theorem dM_product_100 : decode cM_product 100 = .ok (.lload_n 2, 1) := by decide +kernel
theorem dM_product_101 : decode cM_product 101 = .ok (.invokestatic 207, 3) := by decide +kernel
theorem dM_product_104 : decode cM_product 104 = .ok (.iload_n 1, 1) := by decide +kernel
theorem dM_product_105 : decode cM_product 105 = .ok (.lload 4, 2) := by decide +kernel
theorem dM_product_107 : decode cM_product 107 = .ok (.invokestatic 207, 3) := by decide +kernel
theorem dM_product_110 : decode cM_product 110 = .ok (.invokevirtual 148, 3) := by decide +kernel
theorem dM_product_113 : decode cM_product 113 = .ok (.aload_n 0, 1) := by decide +kernel
theorem dM_product_114 : decode cM_product 114 = .ok (.invokevirtual 220, 3) := by decide +kernel
theorem dM_product_117 : decode cM_product 117 = .ok (.iconst 0, 1) := by decide +kernel
theorem dM_product_118 : decode cM_product 118 = .ok (.istore 8, 2) := by decide +kernel
theorem dM_product_120 : decode cM_product 120 = .ok (.iload 8, 2) := by decide +kernel
theorem dM_product_122 : decode cM_product 122 = .ok (.bipush 16, 2) := by decide +kernel
theorem dM_product_124 : decode cM_product 124 = .ok (.if_icmp .ge 25, 3) := by decide +kernel
theorem dM_product_127 : decode cM_product 127 = .ok (.aload_n 0, 1) := by decide +kernel
theorem dM_product_128 : decode cM_product 128 = .ok (.getfield 17, 3) := by decide +kernel
theorem dM_product_131 : decode cM_product 131 = .ok (.iload 8, 2) := by decide +kernel
theorem dM_product_133 : decode cM_product 133 = .ok (.iconst 4, 1) := by decide +kernel
theorem dM_product_134 : decode cM_product 134 = .ok (.iadd, 1) := by decide +kernel
theorem dM_product_135 : decode cM_product 135 = .ok (.aload_n 0, 1) := by decide +kernel
theorem dM_product_136 : decode cM_product 136 = .ok (.getfield 23, 3) := by decide +kernel
theorem dM_product_139 : decode cM_product 139 = .ok (.iload 8, 2) := by decide +kernel
theorem dM_product_141 : decode cM_product 141 = .ok (.iaload, 1) := by decide +kernel
theorem dM_product_142 : decode cM_product 142 = .ok (.iastore, 1) := by decide +kernel
theorem dM_product_143 : decode cM_product 143 = .ok (.iinc 8 1, 3) := by decide +kernel
theorem dM_product_146 : decode cM_product 146 = .ok (.goto (-26), 3) := by decide +kernel
theorem dM_product_149 : decode cM_product 149 = .ok (.aload_n 0, 1) := by decide +kernel
theorem dM_product_150 : decode cM_product 150 = .ok (.iload_n 1, 1) := by decide +kernel
theorem dM_product_151 : decode cM_product 151 = .ok (.lload_n 2, 1) := by decide +kernel
theorem dM_product_152 : decode cM_product 152 = .ok (.invokestatic 204, 3) := by decide +kernel
theorem dM_product_155 : decode cM_product 155 = .ok (.iload_n 1, 1) := by decide +kernel
theorem dM_product_156 : decode cM_product 156 = .ok (.lload 4, 2) := by decide +kernel
theorem dM_product_158 : decode cM_product 158 = .ok (.invokestatic 204, 3) := by decide +kernel
theorem dM_product_161 : decode cM_product 161 = .ok (.iadd, 1) := by decide +kernel
theorem dM_product_162 : decode cM_product 162 = .ok (.bipush 64, 2) := by decide +kernel
theorem dM_product_164 : decode cM_product 164 = .ok (.isub, 1) := by decide +kernel
theorem dM_product_165 : decode cM_product 165 = .ok (.putfield 135, 3) := by decide +kernel
theorem dM_product_168 : decode cM_product 168 = .ok (.aload_n 0, 1) := by decide +kernel
theorem dM_product_169 : decode cM_product 169 = .ok (.iload_n 1, 1) := by decide +kernel
theorem dM_product_170 : decode cM_product 170 = .ok (.iload 6, 2) := by decide +kernel
theorem dM_product_172 : decode cM_product 172 = .ok (.invokevirtual 187, 3) := by decide +kernel
theorem dM_product_175 : decode cM_product 175 = .ok (.lreturn, 1) := by decide +kernel
theorem dM_byQuotient_0 : decode cM_byQuotient 0 = .ok (.iload_n 1, 1) := by decide +kernel
theorem dM_byQuotient_1 : decode cM_byQuotient 1 = .ok (.lload_n 2, 1) := by decide +kernel
theorem dM_byQuotient_2 : decode cM_byQuotient 2 = .ok (.invokestatic 191, 3) := by decide +kernel
theorem dM_byQuotient_5 : decode cM_byQuotient 5 = .ok (.iload_n 1, 1) := by decide +kernel
theorem dM_byQuotient_6 : decode cM_byQuotient 6 = .ok (.lload 4, 2) := by decide +kernel
theorem dM_byQuotient_8 : decode cM_byQuotient 8 = .ok (.invokestatic 191, 3) := by decide +kernel
theorem dM_byQuotient_11 : decode cM_byQuotient 11 = .ok (.if_icmp .eq 7, 3) := by decide +kernel
theorem dM_byQuotient_14 : decode cM_byQuotient 14 = .ok (.iconst 1, 1) := by decide +kernel
theorem dM_byQuotient_15 : decode cM_byQuotient 15 = .ok (.goto 4, 3) := by decide +kernel
theorem dM_byQuotient_18 : decode cM_byQuotient 18 = .ok (.iconst 0, 1) := by decide +kernel
theorem dM_byQuotient_19 : decode cM_byQuotient 19 = .ok (.istore 6, 2) := by decide +kernel
theorem dM_byQuotient_21 : decode cM_byQuotient 21 = .ok (.iload_n 1, 1) := by decide +kernel
theorem dM_byQuotient_22 : decode cM_byQuotient 22 = .ok (.lload_n 2, 1) := by decide +kernel
theorem dM_byQuotient_23 : decode cM_byQuotient 23 = .ok (.invokestatic 195, 3) := by decide +kernel
theorem dM_byQuotient_26 : decode cM_byQuotient 26 = .ok (.ifCond .eq 12, 3) := by decide +kernel
theorem dM_byQuotient_29 : decode cM_byQuotient 29 = .ok (.iload_n 1, 1) := by decide +kernel
theorem dM_byQuotient_30 : decode cM_byQuotient 30 = .ok (.lload 4, 2) := by decide +kernel
theorem dM_byQuotient_32 : decode cM_byQuotient 32 = .ok (.invokestatic 195, 3) := by decide +kernel
theorem dM_byQuotient_35 : decode cM_byQuotient 35 = .ok (.ifCond .ne 20, 3) := by decide +kernel
theorem dM_byQuotient_38 : decode cM_byQuotient 38 = .ok (.iload_n 1, 1) := by decide +kernel
theorem dM_byQuotient_39 : decode cM_byQuotient 39 = .ok (.lload_n 2, 1) := by decide +kernel
theorem dM_byQuotient_40 : decode cM_byQuotient 40 = .ok (.invokestatic 201, 3) := by decide +kernel
theorem dM_byQuotient_43 : decode cM_byQuotient 43 = .ok (.ifCond .eq 16, 3) := by decide +kernel
theorem dM_byQuotient_46 : decode cM_byQuotient 46 = .ok (.iload_n 1, 1) := by decide +kernel
theorem dM_byQuotient_47 : decode cM_byQuotient 47 = .ok (.lload 4, 2) := by decide +kernel
theorem dM_byQuotient_49 : decode cM_byQuotient 49 = .ok (.invokestatic 201, 3) := by decide +kernel
theorem dM_byQuotient_52 : decode cM_byQuotient 52 = .ok (.ifCond .eq 7, 3) := by decide +kernel
theorem dM_byQuotient_55 : decode cM_byQuotient 55 = .ok (.iconst 1, 1) := by decide +kernel
theorem dM_byQuotient_56 : decode cM_byQuotient 56 = .ok (.goto 4, 3) := by decide +kernel
theorem dM_byQuotient_59 : decode cM_byQuotient 59 = .ok (.iconst 0, 1) := by decide +kernel
theorem dM_byQuotient_60 : decode cM_byQuotient 60 = .ok (.istore 7, 2) := by decide +kernel
theorem dM_byQuotient_62 : decode cM_byQuotient 62 = .ok (.iload 7, 2) := by decide +kernel
theorem dM_byQuotient_64 : decode cM_byQuotient 64 = .ok (.ifCond .eq 8, 3) := by decide +kernel
theorem dM_byQuotient_67 : decode cM_byQuotient 67 = .ok (.iload_n 1, 1) := by decide +kernel
theorem dM_byQuotient_68 : decode cM_byQuotient 68 = .ok (.invokestatic 198, 3) := by decide +kernel
theorem dM_byQuotient_71 : decode cM_byQuotient 71 = .ok (.lreturn, 1) := by decide +kernel
theorem dM_byQuotient_72 : decode cM_byQuotient 72 = .ok (.iload_n 1, 1) := by decide +kernel
theorem dM_byQuotient_73 : decode cM_byQuotient 73 = .ok (.lload_n 2, 1) := by decide +kernel
theorem dM_byQuotient_74 : decode cM_byQuotient 74 = .ok (.invokestatic 195, 3) := by decide +kernel
theorem dM_byQuotient_77 : decode cM_byQuotient 77 = .ok (.ifCond .ne 12, 3) := by decide +kernel
theorem dM_byQuotient_80 : decode cM_byQuotient 80 = .ok (.iload_n 1, 1) := by decide +kernel
theorem dM_byQuotient_81 : decode cM_byQuotient 81 = .ok (.lload 4, 2) := by decide +kernel
theorem dM_byQuotient_83 : decode cM_byQuotient 83 = .ok (.invokestatic 201, 3) := by decide +kernel
theorem dM_byQuotient_86 : decode cM_byQuotient 86 = .ok (.ifCond .eq 14, 3) := by decide +kernel
theorem dM_byQuotient_89 : decode cM_byQuotient 89 = .ok (.iload_n 1, 1) := by decide +kernel
theorem dM_byQuotient_90 : decode cM_byQuotient 90 = .ok (.iload 6, 2) := by decide +kernel
theorem dM_byQuotient_92 : decode cM_byQuotient 92 = .ok (.iload_n 1, 1) := by decide +kernel
theorem dM_byQuotient_93 : decode cM_byQuotient 93 = .ok (.invokestatic 169, 3) := by decide +kernel
theorem dM_byQuotient_96 : decode cM_byQuotient 96 = .ok (.invokestatic 165, 3) := by decide +kernel
theorem dM_byQuotient_99 : decode cM_byQuotient 99 = .ok (.lreturn, 1) := by decide +kernel
theorem dM_byQuotient_100 : decode cM_byQuotient 100 = .ok (.iload_n 1, 1) := by decide +kernel
theorem dM_byQuotient_101 : decode cM_byQuotient 101 = .ok (.lload_n 2, 1) := by decide +kernel
theorem dM_byQuotient_102 : decode cM_byQuotient 102 = .ok (.invokestatic 201, 3) := by decide +kernel
theorem dM_byQuotient_105 : decode cM_byQuotient 105 = .ok (.ifCond .ne 12, 3) := by decide +kernel
theorem dM_byQuotient_108 : decode cM_byQuotient 108 = .ok (.iload_n 1, 1) := by decide +kernel
theorem dM_byQuotient_109 : decode cM_byQuotient 109 = .ok (.lload 4, 2) := by decide +kernel
theorem dM_byQuotient_111 : decode cM_byQuotient 111 = .ok (.invokestatic 195, 3) := by decide +kernel
theorem dM_byQuotient_114 : decode cM_byQuotient 114 = .ok (.ifCond .eq 11, 3) := by decide +kernel
theorem dM_byQuotient_117 : decode cM_byQuotient 117 = .ok (.iload_n 1, 1) := by decide +kernel
theorem dM_byQuotient_118 : decode cM_byQuotient 118 = .ok (.iload 6, 2) := by decide +kernel
theorem dM_byQuotient_120 : decode cM_byQuotient 120 = .ok (.lconst 0, 1) := by decide +kernel
theorem dM_byQuotient_121 : decode cM_byQuotient 121 = .ok (.invokestatic 165, 3) := by decide +kernel
theorem dM_byQuotient_124 : decode cM_byQuotient 124 = .ok (.lreturn, 1) := by decide +kernel
theorem dM_byQuotient_125 : decode cM_byQuotient 125 = .ok (.aload_n 0, 1) := by decide +kernel
theorem dM_byQuotient_126 : decode cM_byQuotient 126 = .ok (.iconst 1, 1) := by decide +kernel
theorem dM_byQuotient_127 : decode cM_byQuotient 127 = .ok (.putfield 125, 3) := by decide +kernel
theorem dM_byQuotient_130 : decode cM_byQuotient 130 = .ok (.aload_n 0, 1) := by decide +kernel
theorem dM_byQuotient_131 : decode cM_byQuotient 131 = .ok (.iload_n 1, 1) := by decide +kernel
theorem dM_byQuotient_132 : decode cM_byQuotient 132 = .ok (.lload_n 2, 1) := by decide +kernel
theorem dM_byQuotient_133 : decode cM_byQuotient 133 = .ok (.invokestatic 207, 3) := by decide +kernel
theorem dM_byQuotient_136 : decode cM_byQuotient 136 = .ok (.putfield 152, 3) := by decide +kernel
theorem dM_byQuotient_139 : decode cM_byQuotient 139 = .ok (.aload_n 0, 1) := by decide +kernel
theorem dM_byQuotient_140 : decode cM_byQuotient 140 = .ok (.iload_n 1, 1) := by decide +kernel
theorem dM_byQuotient_141 : decode cM_byQuotient 141 = .ok (.lload 4, 2) := by decide +kernel
theorem dM_byQuotient_143 : decode cM_byQuotient 143 = .ok (.invokestatic 207, 3) := by decide +kernel
theorem dM_byQuotient_146 : decode cM_byQuotient 146 = .ok (.putfield 144, 3) := by decide +kernel
theorem dM_byQuotient_149 : decode cM_byQuotient 149 = .ok (.aload_n 0, 1) := by decide +kernel
theorem dM_byQuotient_150 : decode cM_byQuotient 150 = .ok (.iload_n 1, 1) := by decide +kernel
theorem dM_byQuotient_151 : decode cM_byQuotient 151 = .ok (.lload_n 2, 1) := by decide +kernel
theorem dM_byQuotient_152 : decode cM_byQuotient 152 = .ok (.invokestatic 204, 3) := by decide +kernel
theorem dM_byQuotient_155 : decode cM_byQuotient 155 = .ok (.iload_n 1, 1) := by decide +kernel
theorem dM_byQuotient_156 : decode cM_byQuotient 156 = .ok (.lload 4, 2) := by decide +kernel
theorem dM_byQuotient_158 : decode cM_byQuotient 158 = .ok (.invokestatic 204, 3) := by decide +kernel
theorem dM_byQuotient_161 : decode cM_byQuotient 161 = .ok (.isub, 1) := by decide +kernel
theorem dM_byQuotient_162 : decode cM_byQuotient 162 = .ok (.putfield 155, 3) := by decide +kernel
theorem dM_byQuotient_165 : decode cM_byQuotient 165 = .ok (.aload_n 0, 1) := by decide +kernel
theorem dM_byQuotient_166 : decode cM_byQuotient 166 = .ok (.iload_n 1, 1) := by decide +kernel
theorem dM_byQuotient_167 : decode cM_byQuotient 167 = .ok (.iload 6, 2) := by decide +kernel
theorem dM_byQuotient_169 : decode cM_byQuotient 169 = .ok (.aload_n 0, 1) := by decide +kernel
theorem dM_byQuotient_170 : decode cM_byQuotient 170 = .ok (.getfield 152, 3) := by decide +kernel
theorem dM_byQuotient_173 : decode cM_byQuotient 173 = .ok (.invokestatic 131, 3) := by decide +kernel
theorem dM_byQuotient_176 : decode cM_byQuotient 176 = .ok (.aload_n 0, 1) := by decide +kernel
theorem dM_byQuotient_177 : decode cM_byQuotient 177 = .ok (.getfield 144, 3) := by decide +kernel
theorem dM_byQuotient_180 : decode cM_byQuotient 180 = .ok (.invokestatic 131, 3) := by decide +kernel
theorem dM_byQuotient_183 : decode cM_byQuotient 183 = .ok (.isub, 1) := by decide +kernel
theorem dM_byQuotient_184 : decode cM_byQuotient 184 = .ok (.aload_n 0, 1) := by decide +kernel
theorem dM_byQuotient_185 : decode cM_byQuotient 185 = .ok (.getfield 155, 3) := by decide +kernel
theorem dM_byQuotient_188 : decode cM_byQuotient 188 = .ok (.iadd, 1) := by decide +kernel
theorem dM_byQuotient_189 : decode cM_byQuotient 189 = .ok (.invokevirtual 179, 3) := by decide +kernel
theorem dM_byQuotient_192 : decode cM_byQuotient 192 = .ok (.lreturn, 1) := by decide +kernel
theorem dM_root_0 : decode cM_root 0 = .ok (.iload_n 1, 1) := by decide +kernel
theorem dM_root_1 : decode cM_root 1 = .ok (.lload_n 2, 1) := by decide +kernel
theorem dM_root_2 : decode cM_root 2 = .ok (.invokestatic 201, 3) := by decide +kernel
theorem dM_root_5 : decode cM_root 5 = .ok (.ifCond .eq 5, 3) := by decide +kernel
theorem dM_root_8 : decode cM_root 8 = .ok (.lload_n 2, 1) := by decide +kernel
theorem dM_root_9 : decode cM_root 9 = .ok (.lreturn, 1) := by decide +kernel
theorem dM_root_10 : decode cM_root 10 = .ok (.iload_n 1, 1) := by decide +kernel
theorem dM_root_11 : decode cM_root 11 = .ok (.lload_n 2, 1) := by decide +kernel
theorem dM_root_12 : decode cM_root 12 = .ok (.invokestatic 191, 3) := by decide +kernel
theorem dM_root_15 : decode cM_root 15 = .ok (.ifCond .eq 8, 3) := by decide +kernel
theorem dM_root_18 : decode cM_root 18 = .ok (.iload_n 1, 1) := by decide +kernel
theorem dM_root_19 : decode cM_root 19 = .ok (.invokestatic 198, 3) := by decide +kernel
theorem dM_root_22 : decode cM_root 22 = .ok (.lreturn, 1) := by decide +kernel
theorem dM_root_23 : decode cM_root 23 = .ok (.iload_n 1, 1) := by decide +kernel
theorem dM_root_24 : decode cM_root 24 = .ok (.lload_n 2, 1) := by decide +kernel
theorem dM_root_25 : decode cM_root 25 = .ok (.invokestatic 195, 3) := by decide +kernel
theorem dM_root_28 : decode cM_root 28 = .ok (.ifCond .eq 5, 3) := by decide +kernel
theorem dM_root_31 : decode cM_root 31 = .ok (.lload_n 2, 1) := by decide +kernel
theorem dM_root_32 : decode cM_root 32 = .ok (.lreturn, 1) := by decide +kernel
theorem dM_root_33 : decode cM_root 33 = .ok (.aload_n 0, 1) := by decide +kernel
theorem dM_root_34 : decode cM_root 34 = .ok (.iconst 2, 1) := by decide +kernel
theorem dM_root_35 : decode cM_root 35 = .ok (.putfield 125, 3) := by decide +kernel
theorem dM_root_38 : decode cM_root 38 = .ok (.aload_n 0, 1) := by decide +kernel
theorem dM_root_39 : decode cM_root 39 = .ok (.iload_n 1, 1) := by decide +kernel
theorem dM_root_40 : decode cM_root 40 = .ok (.lload_n 2, 1) := by decide +kernel
theorem dM_root_41 : decode cM_root 41 = .ok (.invokestatic 207, 3) := by decide +kernel
theorem dM_root_44 : decode cM_root 44 = .ok (.putfield 152, 3) := by decide +kernel
theorem dM_root_47 : decode cM_root 47 = .ok (.aload_n 0, 1) := by decide +kernel
theorem dM_root_48 : decode cM_root 48 = .ok (.iload_n 1, 1) := by decide +kernel
theorem dM_root_49 : decode cM_root 49 = .ok (.lload_n 2, 1) := by decide +kernel
theorem dM_root_50 : decode cM_root 50 = .ok (.invokestatic 204, 3) := by decide +kernel
theorem dM_root_53 : decode cM_root 53 = .ok (.putfield 155, 3) := by decide +kernel
theorem dM_root_56 : decode cM_root 56 = .ok (.aload_n 0, 1) := by decide +kernel
theorem dM_root_57 : decode cM_root 57 = .ok (.getfield 152, 3) := by decide +kernel
theorem dM_root_60 : decode cM_root 60 = .ok (.invokestatic 131, 3) := by decide +kernel
theorem dM_root_63 : decode cM_root 63 = .ok (.aload_n 0, 1) := by decide +kernel
theorem dM_root_64 : decode cM_root 64 = .ok (.getfield 155, 3) := by decide +kernel
theorem dM_root_67 : decode cM_root 67 = .ok (.iadd, 1) := by decide +kernel
theorem dM_root_68 : decode cM_root 68 = .ok (.istore 4, 2) := by decide +kernel
theorem dM_root_70 : decode cM_root 70 = .ok (.aload_n 0, 1) := by decide +kernel
theorem dM_root_71 : decode cM_root 71 = .ok (.iload_n 1, 1) := by decide +kernel
theorem dM_root_72 : decode cM_root 72 = .ok (.iconst 0, 1) := by decide +kernel
theorem dM_root_73 : decode cM_root 73 = .ok (.iload 4, 2) := by decide +kernel
theorem dM_root_75 : decode cM_root 75 = .ok (.ifCond .lt 10, 3) := by decide +kernel
theorem dM_root_78 : decode cM_root 78 = .ok (.iload 4, 2) := by decide +kernel
theorem dM_root_80 : decode cM_root 80 = .ok (.iconst 2, 1) := by decide +kernel
theorem dM_root_81 : decode cM_root 81 = .ok (.idiv, 1) := by decide +kernel
theorem dM_root_82 : decode cM_root 82 = .ok (.goto 10, 3) := by decide +kernel
theorem dM_root_85 : decode cM_root 85 = .ok (.iconst 1, 1) := by decide +kernel
theorem dM_root_86 : decode cM_root 86 = .ok (.iload 4, 2) := by decide +kernel
theorem dM_root_88 : decode cM_root 88 = .ok (.isub, 1) := by decide +kernel
theorem dM_root_89 : decode cM_root 89 = .ok (.iconst 2, 1) := by decide +kernel
theorem dM_root_90 : decode cM_root 90 = .ok (.idiv, 1) := by decide +kernel
theorem dM_root_91 : decode cM_root 91 = .ok (.ineg, 1) := by decide +kernel
theorem dM_root_92 : decode cM_root 92 = .ok (.invokevirtual 179, 3) := by decide +kernel
theorem dM_root_95 : decode cM_root 95 = .ok (.lreturn, 1) := by decide +kernel
theorem dM_towards_0 : decode cM_towards 0 = .ok (.iload_n 2, 1) := by decide +kernel
theorem dM_towards_1 : decode cM_towards 1 = .ok (.lload_n 3, 1) := by decide +kernel
theorem dM_towards_2 : decode cM_towards 2 = .ok (.invokestatic 195, 3) := by decide +kernel
theorem dM_towards_5 : decode cM_towards 5 = .ok (.ifCond .ne 19, 3) := by decide +kernel
theorem dM_towards_8 : decode cM_towards 8 = .ok (.iload_n 2, 1) := by decide +kernel
theorem dM_towards_9 : decode cM_towards 9 = .ok (.lload_n 3, 1) := by decide +kernel
theorem dM_towards_10 : decode cM_towards 10 = .ok (.invokestatic 201, 3) := by decide +kernel
theorem dM_towards_13 : decode cM_towards 13 = .ok (.ifCond .ne 11, 3) := by decide +kernel
theorem dM_towards_16 : decode cM_towards 16 = .ok (.iload_n 2, 1) := by decide +kernel
theorem dM_towards_17 : decode cM_towards 17 = .ok (.lload_n 3, 1) := by decide +kernel
theorem dM_towards_18 : decode cM_towards 18 = .ok (.invokestatic 204, 3) := by decide +kernel
theorem dM_towards_21 : decode cM_towards 21 = .ok (.ifCond .lt 5, 3) := by decide +kernel
theorem dM_towards_24 : decode cM_towards 24 = .ok (.lload_n 3, 1) := by decide +kernel
theorem dM_towards_25 : decode cM_towards 25 = .ok (.lreturn, 1) := by decide +kernel
theorem dM_towards_26 : decode cM_towards 26 = .ok (.iload_n 2, 1) := by decide +kernel
theorem dM_towards_27 : decode cM_towards 27 = .ok (.lload_n 3, 1) := by decide +kernel
theorem dM_towards_28 : decode cM_towards 28 = .ok (.invokestatic 191, 3) := by decide +kernel
theorem dM_towards_31 : decode cM_towards 31 = .ok (.istore 5, 2) := by decide +kernel
theorem dM_towards_33 : decode cM_towards 33 = .ok (.iload_n 2, 1) := by decide +kernel
theorem dM_towards_34 : decode cM_towards 34 = .ok (.lload_n 3, 1) := by decide +kernel
theorem dM_towards_35 : decode cM_towards 35 = .ok (.invokestatic 207, 3) := by decide +kernel
theorem dM_towards_38 : decode cM_towards 38 = .ok (.lstore 6, 2) := by decide +kernel
theorem dM_towards_40 : decode cM_towards 40 = .ok (.iload_n 2, 1) := by decide +kernel
theorem dM_towards_41 : decode cM_towards 41 = .ok (.lload_n 3, 1) := by decide +kernel
theorem dM_towards_42 : decode cM_towards 42 = .ok (.invokestatic 204, 3) := by decide +kernel
theorem dM_towards_45 : decode cM_towards 45 = .ok (.ineg, 1) := by decide +kernel
theorem dM_towards_46 : decode cM_towards 46 = .ok (.istore 8, 2) := by decide +kernel
theorem dM_towards_48 : decode cM_towards 48 = .ok (.iload 8, 2) := by decide +kernel
theorem dM_towards_50 : decode cM_towards 50 = .ok (.bipush 60, 2) := by decide +kernel
theorem dM_towards_52 : decode cM_towards 52 = .ok (.if_icmp .le 7, 3) := by decide +kernel
theorem dM_towards_55 : decode cM_towards 55 = .ok (.lconst 0, 1) := by decide +kernel
theorem dM_towards_56 : decode cM_towards 56 = .ok (.goto 8, 3) := by decide +kernel
theorem dM_towards_59 : decode cM_towards 59 = .ok (.lload 6, 2) := by decide +kernel
theorem dM_towards_61 : decode cM_towards 61 = .ok (.iload 8, 2) := by decide +kernel
theorem dM_towards_63 : decode cM_towards 63 = .ok (.lshr, 1) := by decide +kernel
theorem dM_towards_64 : decode cM_towards 64 = .ok (.lstore 9, 2) := by decide +kernel
theorem dM_towards_66 : decode cM_towards 66 = .ok (.iload 8, 2) := by decide +kernel
theorem dM_towards_68 : decode cM_towards 68 = .ok (.bipush 60, 2) := by decide +kernel
theorem dM_towards_70 : decode cM_towards 70 = .ok (.if_icmp .le 7, 3) := by decide +kernel
theorem dM_towards_73 : decode cM_towards 73 = .ok (.lconst 1, 1) := by decide +kernel
theorem dM_towards_74 : decode cM_towards 74 = .ok (.goto 11, 3) := by decide +kernel
theorem dM_towards_77 : decode cM_towards 77 = .ok (.lload 6, 2) := by decide +kernel
theorem dM_towards_79 : decode cM_towards 79 = .ok (.lload 9, 2) := by decide +kernel
theorem dM_towards_81 : decode cM_towards 81 = .ok (.iload 8, 2) := by decide +kernel
theorem dM_towards_83 : decode cM_towards 83 = .ok (.lshl, 1) := by decide +kernel
theorem dM_towards_84 : decode cM_towards 84 = .ok (.lsub, 1) := by decide +kernel
theorem dM_towards_85 : decode cM_towards 85 = .ok (.lstore 11, 2) := by decide +kernel
theorem dM_towards_87 : decode cM_towards 87 = .ok (.iload 8, 2) := by decide +kernel
theorem dM_towards_89 : decode cM_towards 89 = .ok (.bipush 60, 2) := by decide +kernel
theorem dM_towards_91 : decode cM_towards 91 = .ok (.if_icmp .le 9, 3) := by decide +kernel
theorem dM_towards_94 : decode cM_towards 94 = .ok (.ldc2_w 57, 3) := by decide +kernel
theorem dM_towards_97 : decode cM_towards 97 = .ok (.goto 9, 3) := by decide +kernel
theorem dM_towards_100 : decode cM_towards 100 = .ok (.lconst 1, 1) := by decide +kernel
theorem dM_towards_101 : decode cM_towards 101 = .ok (.iload 8, 2) := by decide +kernel
theorem dM_towards_103 : decode cM_towards 103 = .ok (.iconst 1, 1) := by decide +kernel
theorem dM_towards_104 : decode cM_towards 104 = .ok (.isub, 1) := by decide +kernel
theorem dM_towards_105 : decode cM_towards 105 = .ok (.lshl, 1) := by decide +kernel
theorem dM_towards_106 : decode cM_towards 106 = .ok (.lstore 13, 2) := by decide +kernel
theorem dM_towards_108 : decode cM_towards 108 = .ok (.iload_n 1, 1) := by decide +kernel
theorem dM_towards_109 : decode cM_towards 109 = .ok (.iconst 2, 1) := by decide +kernel
theorem dM_towards_110 : decode cM_towards 110 = .ok (.if_icmp .ne 23, 3) := by decide +kernel
theorem dM_towards_113 : decode cM_towards 113 = .ok (.iload 5, 2) := by decide +kernel
theorem dM_towards_115 : decode cM_towards 115 = .ok (.ifCond .ne 14, 3) := by decide +kernel
theorem dM_towards_118 : decode cM_towards 118 = .ok (.lload 11, 2) := by decide +kernel
theorem dM_towards_120 : decode cM_towards 120 = .ok (.lconst 0, 1) := by decide +kernel
theorem dM_towards_121 : decode cM_towards 121 = .ok (.lcmp, 1) := by decide +kernel
theorem dM_towards_122 : decode cM_towards 122 = .ok (.ifCond .le 7, 3) := by decide +kernel
theorem dM_towards_125 : decode cM_towards 125 = .ok (.iconst 1, 1) := by decide +kernel
theorem dM_towards_126 : decode cM_towards 126 = .ok (.goto 67, 3) := by decide +kernel
theorem dM_towards_129 : decode cM_towards 129 = .ok (.iconst 0, 1) := by decide +kernel
theorem dM_towards_130 : decode cM_towards 130 = .ok (.goto 63, 3) := by decide +kernel
theorem dM_towards_133 : decode cM_towards 133 = .ok (.iload_n 1, 1) := by decide +kernel
theorem dM_towards_134 : decode cM_towards 134 = .ok (.iconst 3, 1) := by decide +kernel
theorem dM_towards_135 : decode cM_towards 135 = .ok (.if_icmp .ne 23, 3) := by decide +kernel
theorem dM_towards_138 : decode cM_towards 138 = .ok (.iload 5, 2) := by decide +kernel
theorem dM_towards_140 : decode cM_towards 140 = .ok (.ifCond .eq 14, 3) := by decide +kernel
theorem dM_towards_143 : decode cM_towards 143 = .ok (.lload 11, 2) := by decide +kernel
theorem dM_towards_145 : decode cM_towards 145 = .ok (.lconst 0, 1) := by decide +kernel
theorem dM_towards_146 : decode cM_towards 146 = .ok (.lcmp, 1) := by decide +kernel
theorem dM_towards_147 : decode cM_towards 147 = .ok (.ifCond .le 7, 3) := by decide +kernel
theorem dM_towards_150 : decode cM_towards 150 = .ok (.iconst 1, 1) := by decide +kernel
theorem dM_towards_151 : decode cM_towards 151 = .ok (.goto 42, 3) := by decide +kernel
theorem dM_towards_154 : decode cM_towards 154 = .ok (.iconst 0, 1) := by decide +kernel
theorem dM_towards_155 : decode cM_towards 155 = .ok (.goto 38, 3) := by decide +kernel
theorem dM_towards_158 : decode cM_towards 158 = .ok (.iload_n 1, 1) := by decide +kernel
theorem dM_towards_159 : decode cM_towards 159 = .ok (.iconst 5, 1) := by decide +kernel
theorem dM_towards_160 : decode cM_towards 160 = .ok (.if_icmp .ne 32, 3) := by decide +kernel
theorem dM_towards_163 : decode cM_towards 163 = .ok (.lload 11, 2) := by decide +kernel
theorem dM_towards_165 : decode cM_towards 165 = .ok (.lload 13, 2) := by decide +kernel
theorem dM_towards_167 : decode cM_towards 167 = .ok (.lcmp, 1) := by decide +kernel
theorem dM_towards_168 : decode cM_towards 168 = .ok (.ifCond .gt 20, 3) := by decide +kernel
theorem dM_towards_171 : decode cM_towards 171 = .ok (.lload 11, 2) := by decide +kernel
theorem dM_towards_173 : decode cM_towards 173 = .ok (.lload 13, 2) := by decide +kernel
theorem dM_towards_175 : decode cM_towards 175 = .ok (.lcmp, 1) := by decide +kernel
theorem dM_towards_176 : decode cM_towards 176 = .ok (.ifCond .ne 16, 3) := by decide +kernel
theorem dM_towards_179 : decode cM_towards 179 = .ok (.lload 9, 2) := by decide +kernel
theorem dM_towards_181 : decode cM_towards 181 = .ok (.lconst 1, 1) := by decide +kernel
theorem dM_towards_182 : decode cM_towards 182 = .ok (.land, 1) := by decide +kernel
theorem dM_towards_183 : decode cM_towards 183 = .ok (.lconst 1, 1) := by decide +kernel
theorem dM_towards_184 : decode cM_towards 184 = .ok (.lcmp, 1) := by decide +kernel
theorem dM_towards_185 : decode cM_towards 185 = .ok (.ifCond .ne 7, 3) := by decide +kernel
theorem dM_towards_188 : decode cM_towards 188 = .ok (.iconst 1, 1) := by decide +kernel
theorem dM_towards_189 : decode cM_towards 189 = .ok (.goto 4, 3) := by decide +kernel
theorem dM_towards_192 : decode cM_towards 192 = .ok (.iconst 0, 1) := by decide +kernel
theorem dM_towards_193 : decode cM_towards 193 = .ok (.istore 15, 2) := by decide +kernel
theorem dM_towards_195 : decode cM_towards 195 = .ok (.aload_n 0, 1) := by decide +kernel
theorem dM_towards_196 : decode cM_towards 196 = .ok (.iload_n 2, 1) := by decide +kernel
theorem dM_towards_197 : decode cM_towards 197 = .ok (.iload 5, 2) := by decide +kernel
theorem dM_towards_199 : decode cM_towards 199 = .ok (.iload 15, 2) := by decide +kernel
theorem dM_towards_201 : decode cM_towards 201 = .ok (.ifCond .eq 10, 3) := by decide +kernel
theorem dM_towards_204 : decode cM_towards 204 = .ok (.lload 9, 2) := by decide +kernel
theorem dM_towards_206 : decode cM_towards 206 = .ok (.lconst 1, 1) := by decide +kernel
theorem dM_towards_207 : decode cM_towards 207 = .ok (.ladd, 1) := by decide +kernel
theorem dM_towards_208 : decode cM_towards 208 = .ok (.goto 5, 3) := by decide +kernel
theorem dM_towards_211 : decode cM_towards 211 = .ok (.lload 9, 2) := by decide +kernel
theorem dM_towards_213 : decode cM_towards 213 = .ok (.iconst 0, 1) := by decide +kernel
theorem dM_towards_214 : decode cM_towards 214 = .ok (.invokevirtual 223, 3) := by decide +kernel
theorem dM_towards_217 : decode cM_towards 217 = .ok (.lreturn, 1) := by decide +kernel
theorem dM_floating_0 : decode cM_floating 0 = .ok (.iload_n 1, 1) := by decide +kernel
theorem dM_floating_1 : decode cM_floating 1 = .ok (.ifCond .ne 9, 3) := by decide +kernel
theorem dM_floating_4 : decode cM_floating 4 = .ok (.iload_n 2, 1) := by decide +kernel
theorem dM_floating_5 : decode cM_floating 5 = .ok (.lload_n 3, 1) := by decide +kernel
theorem dM_floating_6 : decode cM_floating 6 = .ok (.invokestatic 94, 3) := by decide +kernel
theorem dM_floating_9 : decode cM_floating 9 = .ok (.lreturn, 1) := by decide +kernel
theorem dM_floating_10 : decode cM_floating 10 = .ok (.iload_n 1, 1) := by decide +kernel
theorem dM_floating_11 : decode cM_floating 11 = .ok (.iconst 1, 1) := by decide +kernel
theorem dM_floating_12 : decode cM_floating 12 = .ok (.if_icmp .ne 10, 3) := by decide +kernel
theorem dM_floating_15 : decode cM_floating 15 = .ok (.lload_n 3, 1) := by decide +kernel
theorem dM_floating_16 : decode cM_floating 16 = .ok (.iload_n 2, 1) := by decide +kernel
theorem dM_floating_17 : decode cM_floating 17 = .ok (.invokestatic 90, 3) := by decide +kernel
theorem dM_floating_20 : decode cM_floating 20 = .ok (.lxor, 1) := by decide +kernel
theorem dM_floating_21 : decode cM_floating 21 = .ok (.lreturn, 1) := by decide +kernel
theorem dM_floating_22 : decode cM_floating 22 = .ok (.iload_n 1, 1) := by decide +kernel
theorem dM_floating_23 : decode cM_floating 23 = .ok (.bipush 13, 2) := by decide +kernel
theorem dM_floating_25 : decode cM_floating 25 = .ok (.if_icmp .ne 19, 3) := by decide +kernel
theorem dM_floating_28 : decode cM_floating 28 = .ok (.iload_n 2, 1) := by decide +kernel
theorem dM_floating_29 : decode cM_floating 29 = .ok (.iload_n 2, 1) := by decide +kernel
theorem dM_floating_30 : decode cM_floating 30 = .ok (.lload 5, 2) := by decide +kernel
theorem dM_floating_32 : decode cM_floating 32 = .ok (.invokestatic 191, 3) := by decide +kernel
theorem dM_floating_35 : decode cM_floating 35 = .ok (.iload_n 2, 1) := by decide +kernel
theorem dM_floating_36 : decode cM_floating 36 = .ok (.lload_n 3, 1) := by decide +kernel
theorem dM_floating_37 : decode cM_floating 37 = .ok (.invokestatic 94, 3) := by decide +kernel
theorem dM_floating_40 : decode cM_floating 40 = .ok (.invokestatic 165, 3) := by decide +kernel
theorem dM_floating_43 : decode cM_floating 43 = .ok (.lreturn, 1) := by decide +kernel
theorem dM_floating_44 : decode cM_floating 44 = .ok (.iload_n 2, 1) := by decide +kernel
theorem dM_floating_45 : decode cM_floating 45 = .ok (.lload_n 3, 1) := by decide +kernel
theorem dM_floating_46 : decode cM_floating 46 = .ok (.invokestatic 227, 3) := by decide +kernel
theorem dM_floating_49 : decode cM_floating 49 = .ok (.ifCond .ne 18, 3) := by decide +kernel
theorem dM_floating_52 : decode cM_floating 52 = .ok (.iload_n 1, 1) := by decide +kernel
theorem dM_floating_53 : decode cM_floating 53 = .ok (.bipush 6, 2) := by decide +kernel
theorem dM_floating_55 : decode cM_floating 55 = .ok (.if_icmp .le 17, 3) := by decide +kernel
theorem dM_floating_58 : decode cM_floating 58 = .ok (.iload_n 2, 1) := by decide +kernel
theorem dM_floating_59 : decode cM_floating 59 = .ok (.lload 5, 2) := by decide +kernel
theorem dM_floating_61 : decode cM_floating 61 = .ok (.invokestatic 227, 3) := by decide +kernel
theorem dM_floating_64 : decode cM_floating 64 = .ok (.ifCond .eq 8, 3) := by decide +kernel
theorem dM_floating_67 : decode cM_floating 67 = .ok (.iload_n 2, 1) := by decide +kernel
theorem dM_floating_68 : decode cM_floating 68 = .ok (.invokestatic 198, 3) := by decide +kernel
theorem dM_floating_71 : decode cM_floating 71 = .ok (.lreturn, 1) := by decide +kernel
theorem dM_floating_72 : decode cM_floating 72 = .ok (.iload_n 1, 1) := by decide +kernel
theorem dM_floating_73 : decode cM_floating 73 = .ok (.tableswitch 125 6 12 #[43, 50, 59, 73, 82, 91, 108], 43) := by decide +kernel
theorem dM_floating_116 : decode cM_floating 116 = .ok (.aload_n 0, 1) := by decide +kernel
theorem dM_floating_117 : decode cM_floating 117 = .ok (.iload_n 2, 1) := by decide +kernel
theorem dM_floating_118 : decode cM_floating 118 = .ok (.lload_n 3, 1) := by decide +kernel
theorem dM_floating_119 : decode cM_floating 119 = .ok (.invokevirtual 230, 3) := by decide +kernel
theorem dM_floating_122 : decode cM_floating 122 = .ok (.lreturn, 1) := by decide +kernel
theorem dM_floating_123 : decode cM_floating 123 = .ok (.aload_n 0, 1) := by decide +kernel
theorem dM_floating_124 : decode cM_floating 124 = .ok (.iload_n 2, 1) := by decide +kernel
theorem dM_floating_125 : decode cM_floating 125 = .ok (.lload_n 3, 1) := by decide +kernel
theorem dM_floating_126 : decode cM_floating 126 = .ok (.lload 5, 2) := by decide +kernel
theorem dM_floating_128 : decode cM_floating 128 = .ok (.invokevirtual 233, 3) := by decide +kernel
theorem dM_floating_131 : decode cM_floating 131 = .ok (.lreturn, 1) := by decide +kernel
theorem dM_floating_132 : decode cM_floating 132 = .ok (.aload_n 0, 1) := by decide +kernel
theorem dM_floating_133 : decode cM_floating 133 = .ok (.iload_n 2, 1) := by decide +kernel
theorem dM_floating_134 : decode cM_floating 134 = .ok (.lload_n 3, 1) := by decide +kernel
theorem dM_floating_135 : decode cM_floating 135 = .ok (.lload 5, 2) := by decide +kernel
theorem dM_floating_137 : decode cM_floating 137 = .ok (.iload_n 2, 1) := by decide +kernel
theorem dM_floating_138 : decode cM_floating 138 = .ok (.invokestatic 90, 3) := by decide +kernel
theorem dM_floating_141 : decode cM_floating 141 = .ok (.lxor, 1) := by decide +kernel
theorem dM_floating_142 : decode cM_floating 142 = .ok (.invokevirtual 233, 3) := by decide +kernel
theorem dM_floating_145 : decode cM_floating 145 = .ok (.lreturn, 1) := by decide +kernel
theorem dM_floating_146 : decode cM_floating 146 = .ok (.aload_n 0, 1) := by decide +kernel
theorem dM_floating_147 : decode cM_floating 147 = .ok (.iload_n 2, 1) := by decide +kernel
theorem dM_floating_148 : decode cM_floating 148 = .ok (.lload_n 3, 1) := by decide +kernel
theorem dM_floating_149 : decode cM_floating 149 = .ok (.lload 5, 2) := by decide +kernel
theorem dM_floating_151 : decode cM_floating 151 = .ok (.invokevirtual 236, 3) := by decide +kernel
theorem dM_floating_154 : decode cM_floating 154 = .ok (.lreturn, 1) := by decide +kernel
theorem dM_floating_155 : decode cM_floating 155 = .ok (.aload_n 0, 1) := by decide +kernel
theorem dM_floating_156 : decode cM_floating 156 = .ok (.iload_n 2, 1) := by decide +kernel
theorem dM_floating_157 : decode cM_floating 157 = .ok (.lload_n 3, 1) := by decide +kernel
theorem dM_floating_158 : decode cM_floating 158 = .ok (.lload 5, 2) := by decide +kernel
theorem dM_floating_160 : decode cM_floating 160 = .ok (.invokevirtual 239, 3) := by decide +kernel
theorem dM_floating_163 : decode cM_floating 163 = .ok (.lreturn, 1) := by decide +kernel
theorem dM_floating_164 : decode cM_floating 164 = .ok (.iload_n 2, 1) := by decide +kernel
theorem dM_floating_165 : decode cM_floating 165 = .ok (.lload 5, 2) := by decide +kernel
theorem dM_floating_167 : decode cM_floating 167 = .ok (.lload_n 3, 1) := by decide +kernel
theorem dM_floating_168 : decode cM_floating 168 = .ok (.invokestatic 242, 3) := by decide +kernel
theorem dM_floating_171 : decode cM_floating 171 = .ok (.ifCond .eq 8, 3) := by decide +kernel
theorem dM_floating_174 : decode cM_floating 174 = .ok (.lload 5, 2) := by decide +kernel
theorem dM_floating_176 : decode cM_floating 176 = .ok (.goto 4, 3) := by decide +kernel
theorem dM_floating_179 : decode cM_floating 179 = .ok (.lload_n 3, 1) := by decide +kernel
theorem dM_floating_180 : decode cM_floating 180 = .ok (.lreturn, 1) := by decide +kernel
theorem dM_floating_181 : decode cM_floating 181 = .ok (.iload_n 2, 1) := by decide +kernel
theorem dM_floating_182 : decode cM_floating 182 = .ok (.lload_n 3, 1) := by decide +kernel
theorem dM_floating_183 : decode cM_floating 183 = .ok (.lload 5, 2) := by decide +kernel
theorem dM_floating_185 : decode cM_floating 185 = .ok (.invokestatic 242, 3) := by decide +kernel
theorem dM_floating_188 : decode cM_floating 188 = .ok (.ifCond .eq 8, 3) := by decide +kernel
theorem dM_floating_191 : decode cM_floating 191 = .ok (.lload 5, 2) := by decide +kernel
theorem dM_floating_193 : decode cM_floating 193 = .ok (.goto 4, 3) := by decide +kernel
theorem dM_floating_196 : decode cM_floating 196 = .ok (.lload_n 3, 1) := by decide +kernel
theorem dM_floating_197 : decode cM_floating 197 = .ok (.lreturn, 1) := by decide +kernel
theorem dM_floating_198 : decode cM_floating 198 = .ok (.aload_n 0, 1) := by decide +kernel
theorem dM_floating_199 : decode cM_floating 199 = .ok (.iload_n 1, 1) := by decide +kernel
theorem dM_floating_200 : decode cM_floating 200 = .ok (.iload_n 2, 1) := by decide +kernel
theorem dM_floating_201 : decode cM_floating 201 = .ok (.lload_n 3, 1) := by decide +kernel
theorem dM_floating_202 : decode cM_floating 202 = .ok (.invokevirtual 246, 3) := by decide +kernel
theorem dM_floating_205 : decode cM_floating 205 = .ok (.lreturn, 1) := by decide +kernel
theorem dM_toWhole_0 : decode cM_toWhole 0 = .ok (.iload_n 1, 1) := by decide +kernel
theorem dM_toWhole_1 : decode cM_toWhole 1 = .ok (.lload 5, 2) := by decide +kernel
theorem dM_toWhole_3 : decode cM_toWhole 3 = .ok (.invokestatic 191, 3) := by decide +kernel
theorem dM_toWhole_6 : decode cM_toWhole 6 = .ok (.istore 7, 2) := by decide +kernel
theorem dM_toWhole_8 : decode cM_toWhole 8 = .ok (.iload_n 2, 1) := by decide +kernel
theorem dM_toWhole_9 : decode cM_toWhole 9 = .ok (.invokestatic 70, 3) := by decide +kernel
theorem dM_toWhole_12 : decode cM_toWhole 12 = .ok (.istore 8, 2) := by decide +kernel
theorem dM_toWhole_14 : decode cM_toWhole 14 = .ok (.iload_n 1, 1) := by decide +kernel
theorem dM_toWhole_15 : decode cM_toWhole 15 = .ok (.lload 5, 2) := by decide +kernel
theorem dM_toWhole_17 : decode cM_toWhole 17 = .ok (.invokestatic 227, 3) := by decide +kernel
theorem dM_toWhole_20 : decode cM_toWhole 20 = .ok (.ifCond .eq 12, 3) := by decide +kernel
theorem dM_toWhole_23 : decode cM_toWhole 23 = .ok (.aload_n 0, 1) := by decide +kernel
theorem dM_toWhole_24 : decode cM_toWhole 24 = .ok (.iload 4, 2) := by decide +kernel
theorem dM_toWhole_26 : decode cM_toWhole 26 = .ok (.iconst 3, 1) := by decide +kernel
theorem dM_toWhole_27 : decode cM_toWhole 27 = .ok (.lconst 0, 1) := by decide +kernel
theorem dM_toWhole_28 : decode cM_toWhole 28 = .ok (.invokevirtual 250, 3) := by decide +kernel
theorem dM_toWhole_31 : decode cM_toWhole 31 = .ok (.lreturn, 1) := by decide +kernel
theorem dM_toWhole_32 : decode cM_toWhole 32 = .ok (.iload_n 3, 1) := by decide +kernel
theorem dM_toWhole_33 : decode cM_toWhole 33 = .ok (.ifCond .eq 14, 3) := by decide +kernel
theorem dM_toWhole_36 : decode cM_toWhole 36 = .ok (.lconst 1, 1) := by decide +kernel
theorem dM_toWhole_37 : decode cM_toWhole 37 = .ok (.iload 8, 2) := by decide +kernel
theorem dM_toWhole_39 : decode cM_toWhole 39 = .ok (.iconst 1, 1) := by decide +kernel
theorem dM_toWhole_40 : decode cM_toWhole 40 = .ok (.isub, 1) := by decide +kernel
theorem dM_toWhole_41 : decode cM_toWhole 41 = .ok (.lshl, 1) := by decide +kernel
theorem dM_toWhole_42 : decode cM_toWhole 42 = .ok (.lconst 1, 1) := by decide +kernel
theorem dM_toWhole_43 : decode cM_toWhole 43 = .ok (.lsub, 1) := by decide +kernel
theorem dM_toWhole_44 : decode cM_toWhole 44 = .ok (.goto 19, 3) := by decide +kernel
theorem dM_toWhole_47 : decode cM_toWhole 47 = .ok (.iload 8, 2) := by decide +kernel
theorem dM_toWhole_49 : decode cM_toWhole 49 = .ok (.bipush 32, 2) := by decide +kernel
theorem dM_toWhole_51 : decode cM_toWhole 51 = .ok (.if_icmp .ne 9, 3) := by decide +kernel
theorem dM_toWhole_54 : decode cM_toWhole 54 = .ok (.ldc2_w 41, 3) := by decide +kernel
theorem dM_toWhole_57 : decode cM_toWhole 57 = .ok (.goto 6, 3) := by decide +kernel
theorem dM_toWhole_60 : decode cM_toWhole 60 = .ok (.ldc2_w 68, 3) := by decide +kernel
theorem dM_toWhole_63 : decode cM_toWhole 63 = .ok (.lstore 9, 2) := by decide +kernel
theorem dM_toWhole_65 : decode cM_toWhole 65 = .ok (.iload_n 3, 1) := by decide +kernel
theorem dM_toWhole_66 : decode cM_toWhole 66 = .ok (.ifCond .eq 14, 3) := by decide +kernel
theorem dM_toWhole_69 : decode cM_toWhole 69 = .ok (.ldc2_w 68, 3) := by decide +kernel
theorem dM_toWhole_72 : decode cM_toWhole 72 = .ok (.iload 8, 2) := by decide +kernel
theorem dM_toWhole_74 : decode cM_toWhole 74 = .ok (.iconst 1, 1) := by decide +kernel
theorem dM_toWhole_75 : decode cM_toWhole 75 = .ok (.isub, 1) := by decide +kernel
theorem dM_toWhole_76 : decode cM_toWhole 76 = .ok (.lshl, 1) := by decide +kernel
theorem dM_toWhole_77 : decode cM_toWhole 77 = .ok (.goto 4, 3) := by decide +kernel
theorem dM_toWhole_80 : decode cM_toWhole 80 = .ok (.lconst 0, 1) := by decide +kernel
theorem dM_toWhole_81 : decode cM_toWhole 81 = .ok (.lstore 11, 2) := by decide +kernel
theorem dM_toWhole_83 : decode cM_toWhole 83 = .ok (.iload 7, 2) := by decide +kernel
theorem dM_toWhole_85 : decode cM_toWhole 85 = .ok (.ifCond .eq 8, 3) := by decide +kernel
theorem dM_toWhole_88 : decode cM_toWhole 88 = .ok (.lload 11, 2) := by decide +kernel
theorem dM_toWhole_90 : decode cM_toWhole 90 = .ok (.goto 5, 3) := by decide +kernel
theorem dM_toWhole_93 : decode cM_toWhole 93 = .ok (.lload 9, 2) := by decide +kernel
theorem dM_toWhole_95 : decode cM_toWhole 95 = .ok (.lstore 13, 2) := by decide +kernel
theorem dM_toWhole_97 : decode cM_toWhole 97 = .ok (.iload_n 1, 1) := by decide +kernel
theorem dM_toWhole_98 : decode cM_toWhole 98 = .ok (.lload 5, 2) := by decide +kernel
theorem dM_toWhole_100 : decode cM_toWhole 100 = .ok (.invokestatic 195, 3) := by decide +kernel
theorem dM_toWhole_103 : decode cM_toWhole 103 = .ok (.ifCond .eq 13, 3) := by decide +kernel
theorem dM_toWhole_106 : decode cM_toWhole 106 = .ok (.aload_n 0, 1) := by decide +kernel
theorem dM_toWhole_107 : decode cM_toWhole 107 = .ok (.iload 4, 2) := by decide +kernel
theorem dM_toWhole_109 : decode cM_toWhole 109 = .ok (.iconst 2, 1) := by decide +kernel
theorem dM_toWhole_110 : decode cM_toWhole 110 = .ok (.lload 13, 2) := by decide +kernel
theorem dM_toWhole_112 : decode cM_toWhole 112 = .ok (.invokevirtual 250, 3) := by decide +kernel
theorem dM_toWhole_115 : decode cM_toWhole 115 = .ok (.lreturn, 1) := by decide +kernel
theorem dM_toWhole_116 : decode cM_toWhole 116 = .ok (.iload_n 1, 1) := by decide +kernel
theorem dM_toWhole_117 : decode cM_toWhole 117 = .ok (.lload 5, 2) := by decide +kernel
theorem dM_toWhole_119 : decode cM_toWhole 119 = .ok (.invokestatic 207, 3) := by decide +kernel
theorem dM_toWhole_122 : decode cM_toWhole 122 = .ok (.lstore 15, 2) := by decide +kernel
theorem dM_toWhole_124 : decode cM_toWhole 124 = .ok (.iload_n 1, 1) := by decide +kernel
theorem dM_toWhole_125 : decode cM_toWhole 125 = .ok (.lload 5, 2) := by decide +kernel
theorem dM_toWhole_127 : decode cM_toWhole 127 = .ok (.invokestatic 204, 3) := by decide +kernel
theorem dM_toWhole_130 : decode cM_toWhole 130 = .ok (.istore 17, 2) := by decide +kernel
theorem dM_toWhole_132 : decode cM_toWhole 132 = .ok (.lload 15, 2) := by decide +kernel
theorem dM_toWhole_134 : decode cM_toWhole 134 = .ok (.lconst 0, 1) := by decide +kernel
theorem dM_toWhole_135 : decode cM_toWhole 135 = .ok (.lcmp, 1) := by decide +kernel
theorem dM_toWhole_136 : decode cM_toWhole 136 = .ok (.ifCond .ne 5, 3) := by decide +kernel
theorem dM_toWhole_139 : decode cM_toWhole 139 = .ok (.lconst 0, 1) := by decide +kernel
theorem dM_toWhole_140 : decode cM_toWhole 140 = .ok (.lreturn, 1) := by decide +kernel
theorem dM_toWhole_141 : decode cM_toWhole 141 = .ok (.lload 15, 2) := by decide +kernel
theorem dM_toWhole_143 : decode cM_toWhole 143 = .ok (.invokestatic 131, 3) := by decide +kernel
theorem dM_toWhole_146 : decode cM_toWhole 146 = .ok (.iload 17, 2) := by decide +kernel
theorem dM_toWhole_148 : decode cM_toWhole 148 = .ok (.iadd, 1) := by decide +kernel
theorem dM_toWhole_149 : decode cM_toWhole 149 = .ok (.bipush 63, 2) := by decide +kernel
theorem dM_toWhole_151 : decode cM_toWhole 151 = .ok (.if_icmp .le 13, 3) := by decide +kernel
theorem dM_toWhole_154 : decode cM_toWhole 154 = .ok (.aload_n 0, 1) := by decide +kernel
theorem dM_toWhole_155 : decode cM_toWhole 155 = .ok (.iload 4, 2) := by decide +kernel
theorem dM_toWhole_157 : decode cM_toWhole 157 = .ok (.iconst 2, 1) := by decide +kernel
theorem dM_toWhole_158 : decode cM_toWhole 158 = .ok (.lload 13, 2) := by decide +kernel
theorem dM_toWhole_160 : decode cM_toWhole 160 = .ok (.invokevirtual 250, 3) := by decide +kernel
theorem dM_toWhole_163 : decode cM_toWhole 163 = .ok (.lreturn, 1) := by decide +kernel
theorem dM_toWhole_164 : decode cM_toWhole 164 = .ok (.iload 17, 2) := by decide +kernel
theorem dM_toWhole_166 : decode cM_toWhole 166 = .ok (.ifCond .lt 11, 3) := by decide +kernel
theorem dM_toWhole_169 : decode cM_toWhole 169 = .ok (.lload 15, 2) := by decide +kernel
theorem dM_toWhole_171 : decode cM_toWhole 171 = .ok (.iload 17, 2) := by decide +kernel
theorem dM_toWhole_173 : decode cM_toWhole 173 = .ok (.lshl, 1) := by decide +kernel
theorem dM_toWhole_174 : decode cM_toWhole 174 = .ok (.goto 20, 3) := by decide +kernel
theorem dM_toWhole_177 : decode cM_toWhole 177 = .ok (.iload 17, 2) := by decide +kernel
theorem dM_toWhole_179 : decode cM_toWhole 179 = .ok (.bipush (-63), 2) := by decide +kernel
theorem dM_toWhole_181 : decode cM_toWhole 181 = .ok (.if_icmp .ge 7, 3) := by decide +kernel
theorem dM_toWhole_184 : decode cM_toWhole 184 = .ok (.lconst 0, 1) := by decide +kernel
theorem dM_toWhole_185 : decode cM_toWhole 185 = .ok (.goto 9, 3) := by decide +kernel
theorem dM_toWhole_188 : decode cM_toWhole 188 = .ok (.lload 15, 2) := by decide +kernel
theorem dM_toWhole_190 : decode cM_toWhole 190 = .ok (.iload 17, 2) := by decide +kernel
theorem dM_toWhole_192 : decode cM_toWhole 192 = .ok (.ineg, 1) := by decide +kernel
theorem dM_toWhole_193 : decode cM_toWhole 193 = .ok (.lushr, 1) := by decide +kernel
theorem dM_toWhole_194 : decode cM_toWhole 194 = .ok (.lstore 18, 2) := by decide +kernel
theorem dM_toWhole_196 : decode cM_toWhole 196 = .ok (.iload 7, 2) := by decide +kernel
theorem dM_toWhole_198 : decode cM_toWhole 198 = .ok (.ifCond .ne 8, 3) := by decide +kernel
theorem dM_toWhole_201 : decode cM_toWhole 201 = .ok (.lload 9, 2) := by decide +kernel
theorem dM_toWhole_203 : decode cM_toWhole 203 = .ok (.goto 17, 3) := by decide +kernel
theorem dM_toWhole_206 : decode cM_toWhole 206 = .ok (.iload_n 3, 1) := by decide +kernel
theorem dM_toWhole_207 : decode cM_toWhole 207 = .ok (.ifCond .eq 12, 3) := by decide +kernel
theorem dM_toWhole_210 : decode cM_toWhole 210 = .ok (.lconst 1, 1) := by decide +kernel
theorem dM_toWhole_211 : decode cM_toWhole 211 = .ok (.iload 8, 2) := by decide +kernel
theorem dM_toWhole_213 : decode cM_toWhole 213 = .ok (.iconst 1, 1) := by decide +kernel
theorem dM_toWhole_214 : decode cM_toWhole 214 = .ok (.isub, 1) := by decide +kernel
theorem dM_toWhole_215 : decode cM_toWhole 215 = .ok (.lshl, 1) := by decide +kernel
theorem dM_toWhole_216 : decode cM_toWhole 216 = .ok (.goto 4, 3) := by decide +kernel
theorem dM_toWhole_219 : decode cM_toWhole 219 = .ok (.lconst 0, 1) := by decide +kernel
theorem dM_toWhole_220 : decode cM_toWhole 220 = .ok (.lstore 20, 2) := by decide +kernel
theorem dM_toWhole_222 : decode cM_toWhole 222 = .ok (.lload 20, 2) := by decide +kernel
theorem dM_toWhole_224 : decode cM_toWhole 224 = .ok (.lload 18, 2) := by decide +kernel
theorem dM_toWhole_226 : decode cM_toWhole 226 = .ok (.invokestatic 53, 3) := by decide +kernel
theorem dM_toWhole_229 : decode cM_toWhole 229 = .ok (.ifCond .eq 13, 3) := by decide +kernel
theorem dM_toWhole_232 : decode cM_toWhole 232 = .ok (.aload_n 0, 1) := by decide +kernel
theorem dM_toWhole_233 : decode cM_toWhole 233 = .ok (.iload 4, 2) := by decide +kernel
theorem dM_toWhole_235 : decode cM_toWhole 235 = .ok (.iconst 2, 1) := by decide +kernel
theorem dM_toWhole_236 : decode cM_toWhole 236 = .ok (.lload 13, 2) := by decide +kernel
theorem dM_toWhole_238 : decode cM_toWhole 238 = .ok (.invokevirtual 250, 3) := by decide +kernel
theorem dM_toWhole_241 : decode cM_toWhole 241 = .ok (.lreturn, 1) := by decide +kernel
theorem dM_toWhole_242 : decode cM_toWhole 242 = .ok (.iload 7, 2) := by decide +kernel
theorem dM_toWhole_244 : decode cM_toWhole 244 = .ok (.ifCond .eq 9, 3) := by decide +kernel
theorem dM_toWhole_247 : decode cM_toWhole 247 = .ok (.lload 18, 2) := by decide +kernel
theorem dM_toWhole_249 : decode cM_toWhole 249 = .ok (.lneg, 1) := by decide +kernel
theorem dM_toWhole_250 : decode cM_toWhole 250 = .ok (.goto 5, 3) := by decide +kernel
theorem dM_toWhole_253 : decode cM_toWhole 253 = .ok (.lload 18, 2) := by decide +kernel
theorem dM_toWhole_255 : decode cM_toWhole 255 = .ok (.lreturn, 1) := by decide +kernel
theorem dM_fromWhole_0 : decode cM_fromWhole 0 = .ok (.iload_n 1, 1) := by decide +kernel
theorem dM_fromWhole_1 : decode cM_fromWhole 1 = .ok (.lload 4, 2) := by decide +kernel
theorem dM_fromWhole_3 : decode cM_fromWhole 3 = .ok (.invokestatic 45, 3) := by decide +kernel
theorem dM_fromWhole_6 : decode cM_fromWhole 6 = .ok (.lstore 6, 2) := by decide +kernel
theorem dM_fromWhole_8 : decode cM_fromWhole 8 = .ok (.iload_n 3, 1) := by decide +kernel
theorem dM_fromWhole_9 : decode cM_fromWhole 9 = .ok (.ifCond .eq 14, 3) := by decide +kernel
theorem dM_fromWhole_12 : decode cM_fromWhole 12 = .ok (.lload 6, 2) := by decide +kernel
theorem dM_fromWhole_14 : decode cM_fromWhole 14 = .ok (.lconst 0, 1) := by decide +kernel
theorem dM_fromWhole_15 : decode cM_fromWhole 15 = .ok (.lcmp, 1) := by decide +kernel
theorem dM_fromWhole_16 : decode cM_fromWhole 16 = .ok (.ifCond .ge 7, 3) := by decide +kernel
theorem dM_fromWhole_19 : decode cM_fromWhole 19 = .ok (.iconst 1, 1) := by decide +kernel
theorem dM_fromWhole_20 : decode cM_fromWhole 20 = .ok (.goto 4, 3) := by decide +kernel
theorem dM_fromWhole_23 : decode cM_fromWhole 23 = .ok (.iconst 0, 1) := by decide +kernel
theorem dM_fromWhole_24 : decode cM_fromWhole 24 = .ok (.istore 8, 2) := by decide +kernel
theorem dM_fromWhole_26 : decode cM_fromWhole 26 = .ok (.aload_n 0, 1) := by decide +kernel
theorem dM_fromWhole_27 : decode cM_fromWhole 27 = .ok (.iload_n 2, 1) := by decide +kernel
theorem dM_fromWhole_28 : decode cM_fromWhole 28 = .ok (.iload 8, 2) := by decide +kernel
theorem dM_fromWhole_30 : decode cM_fromWhole 30 = .ok (.iload 8, 2) := by decide +kernel
theorem dM_fromWhole_32 : decode cM_fromWhole 32 = .ok (.ifCond .eq 9, 3) := by decide +kernel
theorem dM_fromWhole_35 : decode cM_fromWhole 35 = .ok (.lload 6, 2) := by decide +kernel
theorem dM_fromWhole_37 : decode cM_fromWhole 37 = .ok (.lneg, 1) := by decide +kernel
theorem dM_fromWhole_38 : decode cM_fromWhole 38 = .ok (.goto 14, 3) := by decide +kernel
theorem dM_fromWhole_41 : decode cM_fromWhole 41 = .ok (.iload_n 3, 1) := by decide +kernel
theorem dM_fromWhole_42 : decode cM_fromWhole 42 = .ok (.ifCond .eq 8, 3) := by decide +kernel
theorem dM_fromWhole_45 : decode cM_fromWhole 45 = .ok (.lload 6, 2) := by decide +kernel
theorem dM_fromWhole_47 : decode cM_fromWhole 47 = .ok (.goto 5, 3) := by decide +kernel
theorem dM_fromWhole_50 : decode cM_fromWhole 50 = .ok (.lload 4, 2) := by decide +kernel
theorem dM_fromWhole_52 : decode cM_fromWhole 52 = .ok (.iconst 0, 1) := by decide +kernel
theorem dM_fromWhole_53 : decode cM_fromWhole 53 = .ok (.invokevirtual 223, 3) := by decide +kernel
theorem dM_fromWhole_56 : decode cM_fromWhole 56 = .ok (.lreturn, 1) := by decide +kernel
theorem dM_between_0 : decode cM_between 0 = .ok (.iload_n 1, 1) := by decide +kernel
theorem dM_between_1 : decode cM_between 1 = .ok (.lload_n 3, 1) := by decide +kernel
theorem dM_between_2 : decode cM_between 2 = .ok (.invokestatic 227, 3) := by decide +kernel
theorem dM_between_5 : decode cM_between 5 = .ok (.ifCond .eq 8, 3) := by decide +kernel
theorem dM_between_8 : decode cM_between 8 = .ok (.iload_n 2, 1) := by decide +kernel
theorem dM_between_9 : decode cM_between 9 = .ok (.invokestatic 198, 3) := by decide +kernel
theorem dM_between_12 : decode cM_between 12 = .ok (.lreturn, 1) := by decide +kernel
theorem dM_between_13 : decode cM_between 13 = .ok (.iload_n 1, 1) := by decide +kernel
theorem dM_between_14 : decode cM_between 14 = .ok (.lload_n 3, 1) := by decide +kernel
theorem dM_between_15 : decode cM_between 15 = .ok (.invokestatic 191, 3) := by decide +kernel
theorem dM_between_18 : decode cM_between 18 = .ok (.istore 5, 2) := by decide +kernel
theorem dM_between_20 : decode cM_between 20 = .ok (.iload_n 1, 1) := by decide +kernel
theorem dM_between_21 : decode cM_between 21 = .ok (.lload_n 3, 1) := by decide +kernel
theorem dM_between_22 : decode cM_between 22 = .ok (.invokestatic 195, 3) := by decide +kernel
theorem dM_between_25 : decode cM_between 25 = .ok (.ifCond .eq 14, 3) := by decide +kernel
theorem dM_between_28 : decode cM_between 28 = .ok (.iload_n 2, 1) := by decide +kernel
theorem dM_between_29 : decode cM_between 29 = .ok (.iload 5, 2) := by decide +kernel
theorem dM_between_31 : decode cM_between 31 = .ok (.iload_n 2, 1) := by decide +kernel
theorem dM_between_32 : decode cM_between 32 = .ok (.invokestatic 169, 3) := by decide +kernel
theorem dM_between_35 : decode cM_between 35 = .ok (.invokestatic 165, 3) := by decide +kernel
theorem dM_between_38 : decode cM_between 38 = .ok (.lreturn, 1) := by decide +kernel
theorem dM_between_39 : decode cM_between 39 = .ok (.aload_n 0, 1) := by decide +kernel
theorem dM_between_40 : decode cM_between 40 = .ok (.iload_n 2, 1) := by decide +kernel
theorem dM_between_41 : decode cM_between 41 = .ok (.iload 5, 2) := by decide +kernel
theorem dM_between_43 : decode cM_between 43 = .ok (.iload_n 1, 1) := by decide +kernel
theorem dM_between_44 : decode cM_between 44 = .ok (.lload_n 3, 1) := by decide +kernel
theorem dM_between_45 : decode cM_between 45 = .ok (.invokestatic 207, 3) := by decide +kernel
theorem dM_between_48 : decode cM_between 48 = .ok (.iload_n 1, 1) := by decide +kernel
theorem dM_between_49 : decode cM_between 49 = .ok (.lload_n 3, 1) := by decide +kernel
theorem dM_between_50 : decode cM_between 50 = .ok (.invokestatic 204, 3) := by decide +kernel
theorem dM_between_53 : decode cM_between 53 = .ok (.invokevirtual 223, 3) := by decide +kernel
theorem dM_between_56 : decode cM_between 56 = .ok (.lreturn, 1) := by decide +kernel
theorem dM_convert_0 : decode cM_convert 0 = .ok (.iload_n 1, 1) := by decide +kernel
theorem dM_convert_1 : decode cM_convert 1 = .ok (.invokestatic 34, 3) := by decide +kernel
theorem dM_convert_4 : decode cM_convert 4 = .ok (.istore 4, 2) := by decide +kernel
theorem dM_convert_6 : decode cM_convert 6 = .ok (.iload_n 1, 1) := by decide +kernel
theorem dM_convert_7 : decode cM_convert 7 = .ok (.invokestatic 38, 3) := by decide +kernel
theorem dM_convert_10 : decode cM_convert 10 = .ok (.istore 5, 2) := by decide +kernel
theorem dM_convert_12 : decode cM_convert 12 = .ok (.iload_n 1, 1) := by decide +kernel
theorem dM_convert_13 : decode cM_convert 13 = .ok (.iconst 1, 1) := by decide +kernel
theorem dM_convert_14 : decode cM_convert 14 = .ok (.iand, 1) := by decide +kernel
theorem dM_convert_15 : decode cM_convert 15 = .ok (.ifCond .ne 7, 3) := by decide +kernel
theorem dM_convert_18 : decode cM_convert 18 = .ok (.iconst 1, 1) := by decide +kernel
theorem dM_convert_19 : decode cM_convert 19 = .ok (.goto 4, 3) := by decide +kernel
theorem dM_convert_22 : decode cM_convert 22 = .ok (.iconst 0, 1) := by decide +kernel
theorem dM_convert_23 : decode cM_convert 23 = .ok (.istore 6, 2) := by decide +kernel
theorem dM_convert_25 : decode cM_convert 25 = .ok (.iload_n 1, 1) := by decide +kernel
theorem dM_convert_26 : decode cM_convert 26 = .ok (.sipush 167, 3) := by decide +kernel
theorem dM_convert_29 : decode cM_convert 29 = .ok (.if_icmp .eq 17, 3) := by decide +kernel
theorem dM_convert_32 : decode cM_convert 32 = .ok (.iload_n 1, 1) := by decide +kernel
theorem dM_convert_33 : decode cM_convert 33 = .ok (.sipush 187, 3) := by decide +kernel
theorem dM_convert_36 : decode cM_convert 36 = .ok (.if_icmp .le 12, 3) := by decide +kernel
theorem dM_convert_39 : decode cM_convert 39 = .ok (.iload_n 1, 1) := by decide +kernel
theorem dM_convert_40 : decode cM_convert 40 = .ok (.sipush 192, 3) := by decide +kernel
theorem dM_convert_43 : decode cM_convert 43 = .ok (.if_icmp .ge 5, 3) := by decide +kernel
theorem dM_convert_46 : decode cM_convert 46 = .ok (.lload_n 2, 1) := by decide +kernel
theorem dM_convert_47 : decode cM_convert 47 = .ok (.lreturn, 1) := by decide +kernel
theorem dM_convert_48 : decode cM_convert 48 = .ok (.iload_n 1, 1) := by decide +kernel
theorem dM_convert_49 : decode cM_convert 49 = .ok (.sipush 199, 3) := by decide +kernel
theorem dM_convert_52 : decode cM_convert 52 = .ok (.if_icmp .gt 31, 3) := by decide +kernel
theorem dM_convert_55 : decode cM_convert 55 = .ok (.iload_n 1, 1) := by decide +kernel
theorem dM_convert_56 : decode cM_convert 56 = .ok (.sipush 167, 3) := by decide +kernel
theorem dM_convert_59 : decode cM_convert 59 = .ok (.if_icmp .le 10, 3) := by decide +kernel
theorem dM_convert_62 : decode cM_convert 62 = .ok (.iload_n 1, 1) := by decide +kernel
theorem dM_convert_63 : decode cM_convert 63 = .ok (.sipush 172, 3) := by decide +kernel
theorem dM_convert_66 : decode cM_convert 66 = .ok (.if_icmp .lt 17, 3) := by decide +kernel
theorem dM_convert_69 : decode cM_convert 69 = .ok (.iload_n 1, 1) := by decide +kernel
theorem dM_convert_70 : decode cM_convert 70 = .ok (.sipush 173, 3) := by decide +kernel
theorem dM_convert_73 : decode cM_convert 73 = .ok (.if_icmp .le 34, 3) := by decide +kernel
theorem dM_convert_76 : decode cM_convert 76 = .ok (.iload_n 1, 1) := by decide +kernel
theorem dM_convert_77 : decode cM_convert 77 = .ok (.sipush 178, 3) := by decide +kernel
theorem dM_convert_80 : decode cM_convert 80 = .ok (.if_icmp .ge 27, 3) := by decide +kernel
theorem dM_convert_83 : decode cM_convert 83 = .ok (.aload_n 0, 1) := by decide +kernel
theorem dM_convert_84 : decode cM_convert 84 = .ok (.iload 4, 2) := by decide +kernel
theorem dM_convert_86 : decode cM_convert 86 = .ok (.iload 5, 2) := by decide +kernel
theorem dM_convert_88 : decode cM_convert 88 = .ok (.iload 6, 2) := by decide +kernel
theorem dM_convert_90 : decode cM_convert 90 = .ok (.iload_n 1, 1) := by decide +kernel
theorem dM_convert_91 : decode cM_convert 91 = .ok (.sipush 199, 3) := by decide +kernel
theorem dM_convert_94 : decode cM_convert 94 = .ok (.if_icmp .le 7, 3) := by decide +kernel
theorem dM_convert_97 : decode cM_convert 97 = .ok (.iconst 1, 1) := by decide +kernel
theorem dM_convert_98 : decode cM_convert 98 = .ok (.goto 4, 3) := by decide +kernel
theorem dM_convert_101 : decode cM_convert 101 = .ok (.iconst 0, 1) := by decide +kernel
theorem dM_convert_102 : decode cM_convert 102 = .ok (.lload_n 2, 1) := by decide +kernel
theorem dM_convert_103 : decode cM_convert 103 = .ok (.invokevirtual 254, 3) := by decide +kernel
theorem dM_convert_106 : decode cM_convert 106 = .ok (.lreturn, 1) := by decide +kernel
theorem dM_convert_107 : decode cM_convert 107 = .ok (.iload_n 1, 1) := by decide +kernel
theorem dM_convert_108 : decode cM_convert 108 = .ok (.sipush 172, 3) := by decide +kernel
theorem dM_convert_111 : decode cM_convert 111 = .ok (.if_icmp .eq 10, 3) := by decide +kernel
theorem dM_convert_114 : decode cM_convert 114 = .ok (.iload_n 1, 1) := by decide +kernel
theorem dM_convert_115 : decode cM_convert 115 = .ok (.sipush 173, 3) := by decide +kernel
theorem dM_convert_118 : decode cM_convert 118 = .ok (.if_icmp .ne 18, 3) := by decide +kernel
theorem dM_convert_121 : decode cM_convert 121 = .ok (.iload 6, 2) := by decide +kernel
theorem dM_convert_123 : decode cM_convert 123 = .ok (.ifCond .eq 11, 3) := by decide +kernel
theorem dM_convert_126 : decode cM_convert 126 = .ok (.iconst 0, 1) := by decide +kernel
theorem dM_convert_127 : decode cM_convert 127 = .ok (.lload_n 2, 1) := by decide +kernel
theorem dM_convert_128 : decode cM_convert 128 = .ok (.invokestatic 45, 3) := by decide +kernel
theorem dM_convert_131 : decode cM_convert 131 = .ok (.goto 4, 3) := by decide +kernel
theorem dM_convert_134 : decode cM_convert 134 = .ok (.lload_n 2, 1) := by decide +kernel
theorem dM_convert_135 : decode cM_convert 135 = .ok (.lreturn, 1) := by decide +kernel
theorem dM_convert_136 : decode cM_convert 136 = .ok (.iload_n 1, 1) := by decide +kernel
theorem dM_convert_137 : decode cM_convert 137 = .ok (.sipush 182, 3) := by decide +kernel
theorem dM_convert_140 : decode cM_convert 140 = .ok (.if_icmp .eq 10, 3) := by decide +kernel
theorem dM_convert_143 : decode cM_convert 143 = .ok (.iload_n 1, 1) := by decide +kernel
theorem dM_convert_144 : decode cM_convert 144 = .ok (.sipush 187, 3) := by decide +kernel
theorem dM_convert_147 : decode cM_convert 147 = .ok (.if_icmp .ne 13, 3) := by decide +kernel
theorem dM_convert_150 : decode cM_convert 150 = .ok (.aload_n 0, 1) := by decide +kernel
theorem dM_convert_151 : decode cM_convert 151 = .ok (.iload 4, 2) := by decide +kernel
theorem dM_convert_153 : decode cM_convert 153 = .ok (.iload 5, 2) := by decide +kernel
theorem dM_convert_155 : decode cM_convert 155 = .ok (.lload_n 2, 1) := by decide +kernel
theorem dM_convert_156 : decode cM_convert 156 = .ok (.invokevirtual 258, 3) := by decide +kernel
theorem dM_convert_159 : decode cM_convert 159 = .ok (.lreturn, 1) := by decide +kernel
theorem dM_convert_160 : decode cM_convert 160 = .ok (.iload_n 1, 1) := by decide +kernel
theorem dM_convert_161 : decode cM_convert 161 = .ok (.sipush 177, 3) := by decide +kernel
theorem dM_convert_164 : decode cM_convert 164 = .ok (.if_icmp .le 42, 3) := by decide +kernel
theorem dM_convert_167 : decode cM_convert 167 = .ok (.iload_n 1, 1) := by decide +kernel
theorem dM_convert_168 : decode cM_convert 168 = .ok (.sipush 187, 3) := by decide +kernel
theorem dM_convert_171 : decode cM_convert 171 = .ok (.if_icmp .ge 35, 3) := by decide +kernel
theorem dM_convert_174 : decode cM_convert 174 = .ok (.aload_n 0, 1) := by decide +kernel
theorem dM_convert_175 : decode cM_convert 175 = .ok (.iload 4, 2) := by decide +kernel
theorem dM_convert_177 : decode cM_convert 177 = .ok (.iload 5, 2) := by decide +kernel
theorem dM_convert_179 : decode cM_convert 179 = .ok (.iload_n 1, 1) := by decide +kernel
theorem dM_convert_180 : decode cM_convert 180 = .ok (.sipush 182, 3) := by decide +kernel
theorem dM_convert_183 : decode cM_convert 183 = .ok (.if_icmp .ge 8, 3) := by decide +kernel
theorem dM_convert_186 : decode cM_convert 186 = .ok (.iload 6, 2) := by decide +kernel
theorem dM_convert_188 : decode cM_convert 188 = .ok (.goto 13, 3) := by decide +kernel
theorem dM_convert_191 : decode cM_convert 191 = .ok (.iload 6, 2) := by decide +kernel
theorem dM_convert_193 : decode cM_convert 193 = .ok (.ifCond .ne 7, 3) := by decide +kernel
theorem dM_convert_196 : decode cM_convert 196 = .ok (.iconst 1, 1) := by decide +kernel
theorem dM_convert_197 : decode cM_convert 197 = .ok (.goto 4, 3) := by decide +kernel
theorem dM_convert_200 : decode cM_convert 200 = .ok (.iconst 0, 1) := by decide +kernel
theorem dM_convert_201 : decode cM_convert 201 = .ok (.lload_n 2, 1) := by decide +kernel
theorem dM_convert_202 : decode cM_convert 202 = .ok (.invokevirtual 261, 3) := by decide +kernel
theorem dM_convert_205 : decode cM_convert 205 = .ok (.lreturn, 1) := by decide +kernel
theorem dM_convert_206 : decode cM_convert 206 = .ok (.iload_n 1, 1) := by decide +kernel
theorem dM_convert_207 : decode cM_convert 207 = .ok (.sipush 192, 3) := by decide +kernel
theorem dM_convert_210 : decode cM_convert 210 = .ok (.if_icmp .eq 10, 3) := by decide +kernel
theorem dM_convert_213 : decode cM_convert 213 = .ok (.iload_n 1, 1) := by decide +kernel
theorem dM_convert_214 : decode cM_convert 214 = .ok (.sipush 194, 3) := by decide +kernel
theorem dM_convert_217 : decode cM_convert 217 = .ok (.if_icmp .ne 8, 3) := by decide +kernel
theorem dM_convert_220 : decode cM_convert 220 = .ok (.bipush 56, 2) := by decide +kernel
theorem dM_convert_222 : decode cM_convert 222 = .ok (.goto 24, 3) := by decide +kernel
theorem dM_convert_225 : decode cM_convert 225 = .ok (.iload_n 1, 1) := by decide +kernel
theorem dM_convert_226 : decode cM_convert 226 = .ok (.sipush 193, 3) := by decide +kernel
theorem dM_convert_229 : decode cM_convert 229 = .ok (.if_icmp .eq 10, 3) := by decide +kernel
theorem dM_convert_232 : decode cM_convert 232 = .ok (.iload_n 1, 1) := by decide +kernel
theorem dM_convert_233 : decode cM_convert 233 = .ok (.sipush 195, 3) := by decide +kernel
theorem dM_convert_236 : decode cM_convert 236 = .ok (.if_icmp .ne 8, 3) := by decide +kernel
theorem dM_convert_239 : decode cM_convert 239 = .ok (.bipush 48, 2) := by decide +kernel
theorem dM_convert_241 : decode cM_convert 241 = .ok (.goto 5, 3) := by decide +kernel
theorem dM_convert_244 : decode cM_convert 244 = .ok (.bipush 32, 2) := by decide +kernel
theorem dM_convert_246 : decode cM_convert 246 = .ok (.istore 7, 2) := by decide +kernel
theorem dM_convert_248 : decode cM_convert 248 = .ok (.lload_n 2, 1) := by decide +kernel
theorem dM_convert_249 : decode cM_convert 249 = .ok (.iload 7, 2) := by decide +kernel
theorem dM_convert_251 : decode cM_convert 251 = .ok (.lshl, 1) := by decide +kernel
theorem dM_convert_252 : decode cM_convert 252 = .ok (.iload 7, 2) := by decide +kernel
theorem dM_convert_254 : decode cM_convert 254 = .ok (.lshr, 1) := by decide +kernel
theorem dM_convert_255 : decode cM_convert 255 = .ok (.lreturn, 1) := by decide +kernel
theorem dM_worked_0 : decode cM_worked 0 = .ok (.iload_n 1, 1) := by decide +kernel
theorem dM_worked_1 : decode cM_worked 1 = .ok (.bipush 69, 2) := by decide +kernel
theorem dM_worked_3 : decode cM_worked 3 = .ok (.if_icmp .eq 9, 3) := by decide +kernel
theorem dM_worked_6 : decode cM_worked 6 = .ok (.iload_n 1, 1) := by decide +kernel
theorem dM_worked_7 : decode cM_worked 7 = .ok (.bipush 80, 2) := by decide +kernel
theorem dM_worked_9 : decode cM_worked 9 = .ok (.if_icmp .ne 18, 3) := by decide +kernel
theorem dM_worked_12 : decode cM_worked 12 = .ok (.lload_n 3, 1) := by decide +kernel
theorem dM_worked_13 : decode cM_worked 13 = .ok (.lconst 0, 1) := by decide +kernel
theorem dM_worked_14 : decode cM_worked 14 = .ok (.lcmp, 1) := by decide +kernel
theorem dM_worked_15 : decode cM_worked 15 = .ok (.ifCond .ne 7, 3) := by decide +kernel
theorem dM_worked_18 : decode cM_worked 18 = .ok (.iconst 1, 1) := by decide +kernel
theorem dM_worked_19 : decode cM_worked 19 = .ok (.goto 4, 3) := by decide +kernel
theorem dM_worked_22 : decode cM_worked 22 = .ok (.iconst 0, 1) := by decide +kernel
theorem dM_worked_23 : decode cM_worked 23 = .ok (.invokestatic 49, 3) := by decide +kernel
theorem dM_worked_26 : decode cM_worked 26 = .ok (.lreturn, 1) := by decide +kernel
theorem dM_worked_27 : decode cM_worked 27 = .ok (.iload_n 1, 1) := by decide +kernel
theorem dM_worked_28 : decode cM_worked 28 = .ok (.bipush 91, 2) := by decide +kernel
theorem dM_worked_30 : decode cM_worked 30 = .ok (.if_icmp .ge 28, 3) := by decide +kernel
theorem dM_worked_33 : decode cM_worked 33 = .ok (.iload_n 1, 1) := by decide +kernel
theorem dM_worked_34 : decode cM_worked 34 = .ok (.bipush 80, 2) := by decide +kernel
theorem dM_worked_36 : decode cM_worked 36 = .ok (.if_icmp .ge 10, 3) := by decide +kernel
theorem dM_worked_39 : decode cM_worked 39 = .ok (.iload_n 1, 1) := by decide +kernel
theorem dM_worked_40 : decode cM_worked 40 = .ok (.bipush 70, 2) := by decide +kernel
theorem dM_worked_42 : decode cM_worked 42 = .ok (.isub, 1) := by decide +kernel
theorem dM_worked_43 : decode cM_worked 43 = .ok (.goto 7, 3) := by decide +kernel
theorem dM_worked_46 : decode cM_worked 46 = .ok (.iload_n 1, 1) := by decide +kernel
theorem dM_worked_47 : decode cM_worked 47 = .ok (.bipush 81, 2) := by decide +kernel
theorem dM_worked_49 : decode cM_worked 49 = .ok (.isub, 1) := by decide +kernel
theorem dM_worked_50 : decode cM_worked 50 = .ok (.iload_n 2, 1) := by decide +kernel
theorem dM_worked_51 : decode cM_worked 51 = .ok (.lload_n 3, 1) := by decide +kernel
theorem dM_worked_52 : decode cM_worked 52 = .ok (.lload 5, 2) := by decide +kernel
theorem dM_worked_54 : decode cM_worked 54 = .ok (.invokestatic 265, 3) := by decide +kernel
theorem dM_worked_57 : decode cM_worked 57 = .ok (.lreturn, 1) := by decide +kernel
theorem dM_worked_58 : decode cM_worked 58 = .ok (.iload_n 1, 1) := by decide +kernel
theorem dM_worked_59 : decode cM_worked 59 = .ok (.bipush 103, 2) := by decide +kernel
theorem dM_worked_61 : decode cM_worked 61 = .ok (.if_icmp .ge 28, 3) := by decide +kernel
theorem dM_worked_64 : decode cM_worked 64 = .ok (.iload_n 1, 1) := by decide +kernel
theorem dM_worked_65 : decode cM_worked 65 = .ok (.bipush 97, 2) := by decide +kernel
theorem dM_worked_67 : decode cM_worked 67 = .ok (.if_icmp .ge 10, 3) := by decide +kernel
theorem dM_worked_70 : decode cM_worked 70 = .ok (.iload_n 1, 1) := by decide +kernel
theorem dM_worked_71 : decode cM_worked 71 = .ok (.bipush 91, 2) := by decide +kernel
theorem dM_worked_73 : decode cM_worked 73 = .ok (.isub, 1) := by decide +kernel
theorem dM_worked_74 : decode cM_worked 74 = .ok (.goto 7, 3) := by decide +kernel
theorem dM_worked_77 : decode cM_worked 77 = .ok (.iload_n 1, 1) := by decide +kernel
theorem dM_worked_78 : decode cM_worked 78 = .ok (.bipush 97, 2) := by decide +kernel
theorem dM_worked_80 : decode cM_worked 80 = .ok (.isub, 1) := by decide +kernel
theorem dM_worked_81 : decode cM_worked 81 = .ok (.iload_n 2, 1) := by decide +kernel
theorem dM_worked_82 : decode cM_worked 82 = .ok (.lload_n 3, 1) := by decide +kernel
theorem dM_worked_83 : decode cM_worked 83 = .ok (.lload 5, 2) := by decide +kernel
theorem dM_worked_85 : decode cM_worked 85 = .ok (.invokestatic 268, 3) := by decide +kernel
theorem dM_worked_88 : decode cM_worked 88 = .ok (.lreturn, 1) := by decide +kernel
theorem dM_worked_89 : decode cM_worked 89 = .ok (.iload_n 1, 1) := by decide +kernel
theorem dM_worked_90 : decode cM_worked 90 = .ok (.sipush 139, 3) := by decide +kernel
theorem dM_worked_93 : decode cM_worked 93 = .ok (.if_icmp .ge 19, 3) := by decide +kernel
theorem dM_worked_96 : decode cM_worked 96 = .ok (.aload_n 0, 1) := by decide +kernel
theorem dM_worked_97 : decode cM_worked 97 = .ok (.iload_n 1, 1) := by decide +kernel
theorem dM_worked_98 : decode cM_worked 98 = .ok (.bipush 103, 2) := by decide +kernel
theorem dM_worked_100 : decode cM_worked 100 = .ok (.isub, 1) := by decide +kernel
theorem dM_worked_101 : decode cM_worked 101 = .ok (.bipush 18, 2) := by decide +kernel
theorem dM_worked_103 : decode cM_worked 103 = .ok (.irem, 1) := by decide +kernel
theorem dM_worked_104 : decode cM_worked 104 = .ok (.iload_n 2, 1) := by decide +kernel
theorem dM_worked_105 : decode cM_worked 105 = .ok (.lload_n 3, 1) := by decide +kernel
theorem dM_worked_106 : decode cM_worked 106 = .ok (.lload 5, 2) := by decide +kernel
theorem dM_worked_108 : decode cM_worked 108 = .ok (.invokevirtual 271, 3) := by decide +kernel
theorem dM_worked_111 : decode cM_worked 111 = .ok (.lreturn, 1) := by decide +kernel
theorem dM_worked_112 : decode cM_worked 112 = .ok (.iload_n 1, 1) := by decide +kernel
theorem dM_worked_113 : decode cM_worked 113 = .ok (.sipush 167, 3) := by decide +kernel
theorem dM_worked_116 : decode cM_worked 116 = .ok (.if_icmp .ge 20, 3) := by decide +kernel
theorem dM_worked_119 : decode cM_worked 119 = .ok (.aload_n 0, 1) := by decide +kernel
theorem dM_worked_120 : decode cM_worked 120 = .ok (.iload_n 1, 1) := by decide +kernel
theorem dM_worked_121 : decode cM_worked 121 = .ok (.sipush 139, 3) := by decide +kernel
theorem dM_worked_124 : decode cM_worked 124 = .ok (.isub, 1) := by decide +kernel
theorem dM_worked_125 : decode cM_worked 125 = .ok (.bipush 14, 2) := by decide +kernel
theorem dM_worked_127 : decode cM_worked 127 = .ok (.irem, 1) := by decide +kernel
theorem dM_worked_128 : decode cM_worked 128 = .ok (.iload_n 2, 1) := by decide +kernel
theorem dM_worked_129 : decode cM_worked 129 = .ok (.lload_n 3, 1) := by decide +kernel
theorem dM_worked_130 : decode cM_worked 130 = .ok (.lload 5, 2) := by decide +kernel
theorem dM_worked_132 : decode cM_worked 132 = .ok (.invokevirtual 274, 3) := by decide +kernel
theorem dM_worked_135 : decode cM_worked 135 = .ok (.lreturn, 1) := by decide +kernel
theorem dM_worked_136 : decode cM_worked 136 = .ok (.aload_n 0, 1) := by decide +kernel
theorem dM_worked_137 : decode cM_worked 137 = .ok (.iload_n 1, 1) := by decide +kernel
theorem dM_worked_138 : decode cM_worked 138 = .ok (.lload_n 3, 1) := by decide +kernel
theorem dM_worked_139 : decode cM_worked 139 = .ok (.invokevirtual 277, 3) := by decide +kernel
theorem dM_worked_142 : decode cM_worked 142 = .ok (.lreturn, 1) := by decide +kernel
theorem pw_k4 {i : Int32} {n : Nat} (h : pw_B i n 16) : vp_in (i + 4) 320 := by
  obtain ⟨x, a1, a2, a3⟩ := h
  have e : (i + 4).toInt = x + 4 := by rw [bn_i_add] <;> rw [a1, nI_toInt (by omega), show (4 : Int32).toInt = 4 from rfl]; omega
  exact pw_vi (by omega) (by show _ < ((320 : Nat) : Int); omega)
