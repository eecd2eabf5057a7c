def aw : List Cond := lw_tbl.filter goodWord
theorem aw_in (i : Nat) {w : Cond} (h : lw_tbl[i]? = some w) (hg : goodWord w = true) : w ∈ aw := List.mem_filter.mpr ⟨List.mem_of_getElem? h, hg⟩
theorem aw_good {w : Cond} (h : w ∈ aw) : w ∈ aw ∧ ((w.onTables && w.keeps) = true ∨ ∃ ty, w = .arrayClass ty) := ⟨h, good_of_word (List.mem_filter.mp h).2⟩
theorem aw_tbl {w : Cond} (h : w ∈ aw) : w ∈ lw_tbl := (List.mem_filter.mp h).1
theorem gS {own : String} {idx : Nat} {y : MethodName} {c : ByteArray} {n : Nat} {r : Option FieldType} (h1 : Cond.methodLink own idx y ∈ aw) (h2 : Cond.static y ∈ aw) (h3 : Cond.initialized y.cls ∈ aw) (h4 : Cond.code y c n r ∈ aw) : GoodIn aw (va_wsS own idx y (Cond.code y c n r :: aw)) := by
  intro w hw
  rcases List.mem_append.mp hw with q | q
  · rcases List.mem_cons.mp q with e | q
    · rw [e]; exact aw_good h1
    rcases List.mem_cons.mp q with e | q
    · rw [e]; exact aw_good h2
    rcases List.mem_cons.mp q with e | q
    · rw [e]; exact aw_good h3
    · cases q
  · rcases List.mem_cons.mp q with e | q
    · rw [e]; exact aw_good h4
    · exact aw_good q
theorem gV {own C : String} {idx : Nat} {y : MethodName} {c : ByteArray} {n : Nat} {r : Option FieldType} (h1 : Cond.methodLink own idx y ∈ aw) (h2 : Cond.instanceMethod y ∈ aw) (h3 : Cond.selects C y y ∈ aw) (h5 : Cond.initialized C ∈ aw) (h4 : Cond.code y c n r ∈ aw) : GoodIn aw (wsV own idx C y (Cond.code y c n r :: aw)) := by
  intro w hw
  rcases List.mem_append.mp hw with q | q
  · rcases List.mem_cons.mp q with e | q
    · rw [e]; exact aw_good h1
    rcases List.mem_cons.mp q with e | q
    · rw [e]; exact aw_good h2
    rcases List.mem_cons.mp q with e | q
    · rw [e]; exact aw_good h3
    rcases List.mem_cons.mp q with e | q
    · rw [e]; exact aw_good h5
    · cases q
  · rcases List.mem_cons.mp q with e | q
    · rw [e]; exact aw_good h4
    · exact aw_good q
abbrev cConversions_isTowardsZero : ByteArray := prog_2_method_2_code
def yConversions_isTowardsZero : MethodName := ⟨"BitNumbers$Conversions", "isTowardsZero", "(I)Z"⟩
def wsConversions_isTowardsZero : List Cond := .code yConversions_isTowardsZero cConversions_isTowardsZero 1 (some .boolean) :: aw
abbrev cFormat_isNone : ByteArray := prog_4_method_9_code
def yFormat_isNone : MethodName := ⟨"BitNumbers$Format", "isNone", "(J)Z"⟩
def wsFormat_isNone : List Cond := .code yFormat_isNone cFormat_isNone 3 (some .boolean) :: aw
abbrev cConversions_isSigned : ByteArray := prog_2_method_5_code
def yConversions_isSigned : MethodName := ⟨"BitNumbers$Conversions", "isSigned", "(I)Z"⟩
def wsConversions_isSigned : List Cond := .code yConversions_isSigned cConversions_isSigned 2 (some .boolean) :: aw
abbrev cFormat_isNegative : ByteArray := prog_4_method_5_code
def yFormat_isNegative : MethodName := ⟨"BitNumbers$Format", "isNegative", "(J)Z"⟩
def wsFormat_isNegative : List Cond := .code yFormat_isNegative cFormat_isNegative 3 (some .boolean) :: aw
abbrev cWhole_width : ByteArray := prog_6_method_2_code
def yWhole_width : MethodName := ⟨"BitNumbers$Whole", "width", "(I)I"⟩
def wsWhole_width : List Cond := .code yWhole_width cWhole_width 1 (some .int) :: aw
abbrev cWhole_greatest : ByteArray := prog_6_method_5_code
def yWhole_greatest : MethodName := ⟨"BitNumbers$Whole", "greatest", "(IZ)J"⟩
def wsWhole_greatest : List Cond := .code yWhole_greatest cWhole_greatest 2 (some .long) :: aw
abbrev cConversions_limit : ByteArray := prog_2_method_10_code
def yConversions_limit : MethodName := ⟨"BitNumbers$Conversions", "limit", "(LBitNumbers$Format;JIZ)J"⟩
def wsConversions_limit : List Cond := .code yConversions_limit cConversions_limit 5 (some .long) :: aw
abbrev cFormat_exponent : ByteArray := prog_4_method_10_code
def yFormat_exponent : MethodName := ⟨"BitNumbers$Format", "exponent", "(J)I"⟩
def wsFormat_exponent : List Cond := .code yFormat_exponent cFormat_exponent 3 (some .int) :: aw
abbrev cFormat_significand : ByteArray := prog_4_method_12_code
def yFormat_significand : MethodName := ⟨"BitNumbers$Format", "significand", "(J)J"⟩
def wsFormat_significand : List Cond := .code yFormat_significand cFormat_significand 5 (some .long) :: aw
abbrev cMath_max : ByteArray := prog_14_method_65_code
def yMath_max : MethodName := ⟨"java/lang/Math", "max", "(II)I"⟩
def wsMath_max : List Cond := .code yMath_max cMath_max 2 (some .int) :: aw
abbrev cFormat_scale : ByteArray := prog_4_method_13_code
def yFormat_scale : MethodName := ⟨"BitNumbers$Format", "scale", "(J)I"⟩
def wsFormat_scale : List Cond := .code yFormat_scale cFormat_scale 3 (some .int) :: aw
abbrev cLong_bitCount : ByteArray := prog_13_method_50_code
def yLong_bitCount : MethodName := ⟨"java/lang/Long", "bitCount", "(J)I"⟩
def wsLong_bitCount : List Cond := .code yLong_bitCount cLong_bitCount 2 (some .int) :: aw
abbrev cWhole_length : ByteArray := prog_6_method_7_code
def yWhole_length : MethodName := ⟨"BitNumbers$Whole", "length", "(J)I"⟩
def wsWhole_length : List Cond := .code yWhole_length cWhole_length 5 (some .int) :: aw
abbrev cConversions_wholePart : ByteArray := prog_2_method_12_code
def yConversions_wholePart : MethodName := ⟨"BitNumbers$Conversions", "wholePart", "(JI)J"⟩
def wsConversions_wholePart : List Cond := .code yConversions_wholePart cConversions_wholePart 3 (some .long) :: aw
abbrev cLong_compare : ByteArray := prog_13_method_42_code
def yLong_compare : MethodName := ⟨"java/lang/Long", "compare", "(JJ)I"⟩
def wsLong_compare : List Cond := .code yLong_compare cLong_compare 4 (some .int) :: aw
abbrev cWhole_orderWithoutSign : ByteArray := prog_6_method_6_code
def yWhole_orderWithoutSign : MethodName := ⟨"BitNumbers$Whole", "orderWithoutSign", "(JJ)I"⟩
def wsWhole_orderWithoutSign : List Cond := .code yWhole_orderWithoutSign cWhole_orderWithoutSign 4 (some .int) :: aw
abbrev cConversions_fits : ByteArray := prog_2_method_11_code
def yConversions_fits : MethodName := ⟨"BitNumbers$Conversions", "fits", "(LBitNumbers$Format;JJ)Z"⟩
def wsConversions_fits : List Cond := .code yConversions_fits cConversions_fits 8 (some .boolean) :: aw
abbrev cConversions_trapOf : ByteArray := prog_2_method_3_code
def yConversions_trapOf : MethodName := ⟨"BitNumbers$Conversions", "trapOf", "(ILBitNumbers$Format;IJ)I"⟩
def wsConversions_trapOf : List Cond := .code yConversions_trapOf cConversions_trapOf 5 (some .int) :: aw
abbrev cFormat_of : ByteArray := prog_4_method_4_code
def yFormat_of : MethodName := ⟨"BitNumbers$Format", "of", "(I)LBitNumbers$Format;"⟩
def wsFormat_of : List Cond := .code yFormat_of cFormat_of 1 (some (.object "BitNumbers$Format")) :: aw
abbrev cConversions_towardsZero : ByteArray := prog_2_method_9_code
def yConversions_towardsZero : MethodName := ⟨"BitNumbers$Conversions", "towardsZero", "(ILBitNumbers$Format;IJ)J"⟩
def wsConversions_towardsZero : List Cond := .code yConversions_towardsZero cConversions_towardsZero 9 (some .long) :: aw
abbrev cWhole_withSign : ByteArray := prog_6_method_3_code
def yWhole_withSign : MethodName := ⟨"BitNumbers$Whole", "withSign", "(IJ)J"⟩
def wsWhole_withSign : List Cond := .code yWhole_withSign cWhole_withSign 3 (some .long) :: aw
abbrev cFormat_isInfinite : ByteArray := prog_4_method_8_code
def yFormat_isInfinite : MethodName := ⟨"BitNumbers$Format", "isInfinite", "(J)Z"⟩
def wsFormat_isInfinite : List Cond := .code yFormat_isInfinite cFormat_isInfinite 3 (some .boolean) :: aw
abbrev cFormat_signed : ByteArray := prog_4_method_14_code
def yFormat_signed : MethodName := ⟨"BitNumbers$Format", "signed", "(ZJ)J"⟩
def wsFormat_signed : List Cond := .code yFormat_signed cFormat_signed 4 (some .long) :: aw
abbrev cFormat_nearest : ByteArray := prog_4_method_16_code
def yFormat_nearest : MethodName := ⟨"BitNumbers$Format", "nearest", "(JI)J"⟩
def wsFormat_nearest : List Cond := .code yFormat_nearest cFormat_nearest 10 (some .long) :: aw
abbrev cFormat_rounded : ByteArray := prog_4_method_15_code
def yFormat_rounded : MethodName := ⟨"BitNumbers$Format", "rounded", "(ZJI)J"⟩
def wsFormat_rounded : List Cond := .code yFormat_rounded cFormat_rounded 11 (some .long) :: aw
abbrev cConversions_otherFormat : ByteArray := prog_2_method_8_code
def yConversions_otherFormat : MethodName := ⟨"BitNumbers$Conversions", "otherFormat", "(LBitNumbers$Format;LBitNumbers$Format;J)J"⟩
def wsConversions_otherFormat : List Cond := .code yConversions_otherFormat cConversions_otherFormat 4 (some .long) :: aw
abbrev cConversions_fromWhole : ByteArray := prog_2_method_7_code
def yConversions_fromWhole : MethodName := ⟨"BitNumbers$Conversions", "fromWhole", "(ZILBitNumbers$Format;J)J"⟩
def wsConversions_fromWhole : List Cond := .code yConversions_fromWhole cConversions_fromWhole 8 (some .long) :: aw
abbrev cConversions_lowestWithSign : ByteArray := prog_2_method_6_code
def yConversions_lowestWithSign : MethodName := ⟨"BitNumbers$Conversions", "lowestWithSign", "(IJ)J"⟩
def wsConversions_lowestWithSign : List Cond := .code yConversions_lowestWithSign cConversions_lowestWithSign 3 (some .long) :: aw
abbrev cConversions_result : ByteArray := prog_2_method_4_code
def yConversions_result : MethodName := ⟨"BitNumbers$Conversions", "result", "(IIIJ)J"⟩
def wsConversions_result : List Cond := .code yConversions_result cConversions_result 5 (some .long) :: aw
abbrev cFormat_magnitude : ByteArray := prog_4_method_6_code
def yFormat_magnitude : MethodName := ⟨"BitNumbers$Format", "magnitude", "(J)J"⟩
def wsFormat_magnitude : List Cond := .code yFormat_magnitude cFormat_magnitude 3 (some .long) :: aw
abbrev cFloating_number : ByteArray := prog_3_method_5_code
def yFloating_number : MethodName := ⟨"BitNumbers$Floating", "number", "(LBitNumbers$Format;J)J"⟩
def wsFloating_number : List Cond := .code yFloating_number cFloating_number 5 (some .long) :: aw
abbrev cFloating_test : ByteArray := prog_3_method_2_code
def yFloating_test : MethodName := ⟨"BitNumbers$Floating", "test", "(ILBitNumbers$Format;JJ)Z"⟩
def wsFloating_test : List Cond := .code yFloating_test cFloating_test 7 (some .boolean) :: aw
abbrev cMath_min : ByteArray := prog_14_method_69_code
def yMath_min : MethodName := ⟨"java/lang/Math", "min", "(II)I"⟩
def wsMath_min : List Cond := .code yMath_min cMath_min 2 (some .int) :: aw
abbrev cFloating_wholeNumber : ByteArray := prog_3_method_7_code
def yFloating_wholeNumber : MethodName := ⟨"BitNumbers$Floating", "wholeNumber", "(ILBitNumbers$Format;J)J"⟩
def wsFloating_wholeNumber : List Cond := .code yFloating_wholeNumber cFloating_wholeNumber 13 (some .long) :: aw
abbrev cFormat_isZero : ByteArray := prog_4_method_7_code
def yFormat_isZero : MethodName := ⟨"BitNumbers$Format", "isZero", "(J)Z"⟩
def wsFormat_isZero : List Cond := .code yFormat_isZero cFormat_isZero 3 (some .boolean) :: aw
abbrev cFloating_lift : ByteArray := prog_3_method_14_code
def yFloating_lift : MethodName := ⟨"BitNumbers$Floating", "lift", "(J)I"⟩
def wsFloating_lift : List Cond := .code yFloating_lift cFloating_lift 2 (some .int) :: aw
abbrev cFloating_root : ByteArray := prog_3_method_8_code
def yFloating_root : MethodName := ⟨"BitNumbers$Floating", "root", "(LBitNumbers$Format;J)J"⟩
def wsFloating_root : List Cond := .code yFloating_root cFloating_root 13 (some .long) :: aw
abbrev cFloating_sumWithInfinite : ByteArray := prog_3_method_10_code
def yFloating_sumWithInfinite : MethodName := ⟨"BitNumbers$Floating", "sumWithInfinite", "(LBitNumbers$Format;JJ)J"⟩
def wsFloating_sumWithInfinite : List Cond := .code yFloating_sumWithInfinite cFloating_sumWithInfinite 6 (some .long) :: aw
abbrev cFloating_shiftedWithTrace : ByteArray := prog_3_method_15_code
def yFloating_shiftedWithTrace : MethodName := ⟨"BitNumbers$Floating", "shiftedWithTrace", "(JI)J"⟩
def wsFloating_shiftedWithTrace : List Cond := .code yFloating_shiftedWithTrace cFloating_shiftedWithTrace 5 (some .long) :: aw
abbrev cFloating_sum : ByteArray := prog_3_method_9_code
def yFloating_sum : MethodName := ⟨"BitNumbers$Floating", "sum", "(LBitNumbers$Format;JJ)J"⟩
def wsFloating_sum : List Cond := .code yFloating_sum cFloating_sum 19 (some .long) :: aw
abbrev cFloating_highProduct : ByteArray := prog_3_method_13_code
def yFloating_highProduct : MethodName := ⟨"BitNumbers$Floating", "highProduct", "(JJ)J"⟩
def wsFloating_highProduct : List Cond := .code yFloating_highProduct cFloating_highProduct 16 (some .long) :: aw
abbrev cFloating_product : ByteArray := prog_3_method_11_code
def yFloating_product : MethodName := ⟨"BitNumbers$Floating", "product", "(LBitNumbers$Format;JJ)J"⟩
def wsFloating_product : List Cond := .code yFloating_product cFloating_product 16 (some .long) :: aw
abbrev cFloating_quotient : ByteArray := prog_3_method_12_code
def yFloating_quotient : MethodName := ⟨"BitNumbers$Floating", "quotient", "(LBitNumbers$Format;JJ)J"⟩
def wsFloating_quotient : List Cond := .code yFloating_quotient cFloating_quotient 16 (some .long) :: aw
abbrev cFloating_orderWithZeros : ByteArray := prog_3_method_6_code
def yFloating_orderWithZeros : MethodName := ⟨"BitNumbers$Floating", "orderWithZeros", "(LBitNumbers$Format;J)J"⟩
def wsFloating_orderWithZeros : List Cond := .code yFloating_orderWithZeros cFloating_orderWithZeros 5 (some .long) :: aw
abbrev cFloating_calculated : ByteArray := prog_3_method_4_code
def yFloating_calculated : MethodName := ⟨"BitNumbers$Floating", "calculated", "(ILBitNumbers$Format;JJ)J"⟩
def wsFloating_calculated : List Cond := .code yFloating_calculated cFloating_calculated 6 (some .long) :: aw
abbrev cFloating_result : ByteArray := prog_3_method_3_code
def yFloating_result : MethodName := ⟨"BitNumbers$Floating", "result", "(ILBitNumbers$Format;JJ)J"⟩
def wsFloating_result : List Cond := .code yFloating_result cFloating_result 6 (some .long) :: aw
abbrev cFormat_kind : ByteArray := prog_4_method_11_code
def yFormat_kind : MethodName := ⟨"BitNumbers$Format", "kind", "(J)I"⟩
def wsFormat_kind : List Cond := .code yFormat_kind cFormat_kind 3 (some .int) :: aw
abbrev cOperators_exists : ByteArray := prog_5_method_2_code
def yOperators_exists : MethodName := ⟨"BitNumbers$Operators", "exists", "(I)Z"⟩
def wsOperators_exists : List Cond := .code yOperators_exists cOperators_exists 1 (some .boolean) :: aw
abbrev cOperators_family : ByteArray := prog_5_method_8_code
def yOperators_family : MethodName := ⟨"BitNumbers$Operators", "family", "(I)I"⟩
def wsOperators_family : List Cond := .code yOperators_family cOperators_family 3 (some .int) :: aw
abbrev cOperators_operands : ByteArray := prog_5_method_3_code
def yOperators_operands : MethodName := ⟨"BitNumbers$Operators", "operands", "(I)I"⟩
def wsOperators_operands : List Cond := .code yOperators_operands cOperators_operands 2 (some .int) :: aw
abbrev cOperators_typeIn : ByteArray := prog_5_method_9_code
def yOperators_typeIn : MethodName := ⟨"BitNumbers$Operators", "typeIn", "([II)I"⟩
def wsOperators_typeIn : List Cond := .code yOperators_typeIn cOperators_typeIn 3 (some .int) :: aw
abbrev cOperators_operandType : ByteArray := prog_5_method_4_code
def yOperators_operandType : MethodName := ⟨"BitNumbers$Operators", "operandType", "(I)I"⟩
def wsOperators_operandType : List Cond := .code yOperators_operandType cOperators_operandType 2 (some .int) :: aw
abbrev cOperators_resultType : ByteArray := prog_5_method_5_code
def yOperators_resultType : MethodName := ⟨"BitNumbers$Operators", "resultType", "(I)I"⟩
def wsOperators_resultType : List Cond := .code yOperators_resultType cOperators_resultType 2 (some .int) :: aw
abbrev cWhole_withoutSign : ByteArray := prog_6_method_4_code
def yWhole_withoutSign : MethodName := ⟨"BitNumbers$Whole", "withoutSign", "(IJ)J"⟩
def wsWhole_withoutSign : List Cond := .code yWhole_withoutSign cWhole_withoutSign 3 (some .long) :: aw
abbrev cWhole_trapOf : ByteArray := prog_6_method_9_code
def yWhole_trapOf : MethodName := ⟨"BitNumbers$Whole", "trapOf", "(IIJJ)I"⟩
def wsWhole_trapOf : List Cond := .code yWhole_trapOf cWhole_trapOf 9 (some .int) :: aw
abbrev cOperators_trapOf : ByteArray := prog_5_method_6_code
def yOperators_trapOf : MethodName := ⟨"BitNumbers$Operators", "trapOf", "(IJJ)I"⟩
def wsOperators_trapOf : List Cond := .code yOperators_trapOf cOperators_trapOf 7 (some .int) :: aw
abbrev cWhole_test : ByteArray := prog_6_method_8_code
def yWhole_test : MethodName := ⟨"BitNumbers$Whole", "test", "(IIJJ)Z"⟩
def wsWhole_test : List Cond := .code yWhole_test cWhole_test 8 (some .boolean) :: aw
abbrev cWhole_quotientWithoutSign : ByteArray := prog_6_method_12_code
def yWhole_quotientWithoutSign : MethodName := ⟨"BitNumbers$Whole", "quotientWithoutSign", "(JJ)J"⟩
def wsWhole_quotientWithoutSign : List Cond := .code yWhole_quotientWithoutSign cWhole_quotientWithoutSign 6 (some .long) :: aw
abbrev cWhole_divided : ByteArray := prog_6_method_11_code
def yWhole_divided : MethodName := ⟨"BitNumbers$Whole", "divided", "(IIJJ)J"⟩
def wsWhole_divided : List Cond := .code yWhole_divided cWhole_divided 8 (some .long) :: aw
abbrev cWhole_shifted : ByteArray := prog_6_method_13_code
def yWhole_shifted : MethodName := ⟨"BitNumbers$Whole", "shifted", "(IIJI)J"⟩
def wsWhole_shifted : List Cond := .code yWhole_shifted cWhole_shifted 5 (some .long) :: aw
abbrev cWhole_result : ByteArray := prog_6_method_10_code
def yWhole_result : MethodName := ⟨"BitNumbers$Whole", "result", "(IIJJ)J"⟩
def wsWhole_result : List Cond := .code yWhole_result cWhole_result 6 (some .long) :: aw
abbrev cOperators_result : ByteArray := prog_5_method_7_code
def yOperators_result : MethodName := ⟨"BitNumbers$Operators", "result", "(IJJ)J"⟩
def wsOperators_result : List Cond := .code yOperators_result cOperators_result 8 (some .long) :: aw
abbrev rmConversions_isTowardsZero : Room := { frames := 0, cells := 0, slots := 0, locals := 0 }
abbrev rmFormat_isNone : Room := { frames := 0, cells := 0, slots := 0, locals := 0 }
abbrev rmConversions_isSigned : Room := { frames := 0, cells := 0, slots := 0, locals := 0 }
abbrev rmFormat_isNegative : Room := { frames := 0, cells := 0, slots := 0, locals := 0 }
abbrev rmWhole_width : Room := { frames := 0, cells := 0, slots := 0, locals := 0 }
abbrev rmWhole_greatest : Room := { frames := 1, cells := 0, slots := 0, locals := 20 }
abbrev rmConversions_limit : Room := { frames := 2, cells := 0, slots := 0, locals := 41 }
abbrev rmFormat_exponent : Room := { frames := 0, cells := 0, slots := 0, locals := 0 }
abbrev rmFormat_significand : Room := { frames := 1, cells := 0, slots := 0, locals := 22 }
abbrev rmMath_max : Room := { frames := 0, cells := 0, slots := 0, locals := 0 }
abbrev rmFormat_scale : Room := { frames := 1, cells := 0, slots := 0, locals := 22 }
abbrev rmLong_bitCount : Room := { frames := 0, cells := 0, slots := 0, locals := 0 }
abbrev rmWhole_length : Room := { frames := 1, cells := 0, slots := 0, locals := 21 }
abbrev rmConversions_wholePart : Room := { frames := 0, cells := 0, slots := 0, locals := 0 }
abbrev rmLong_compare : Room := { frames := 0, cells := 0, slots := 0, locals := 0 }
abbrev rmWhole_orderWithoutSign : Room := { frames := 1, cells := 0, slots := 0, locals := 23 }
abbrev rmConversions_fits : Room := { frames := 2, cells := 0, slots := 0, locals := 46 }
abbrev rmConversions_trapOf : Room := { frames := 3, cells := 0, slots := 0, locals := 73 }
abbrev rmFormat_of : Room := { frames := 0, cells := 0, slots := 0, locals := 0 }
abbrev rmConversions_towardsZero : Room := { frames := 3, cells := 0, slots := 0, locals := 73 }
abbrev rmWhole_withSign : Room := { frames := 0, cells := 0, slots := 0, locals := 0 }
abbrev rmFormat_isInfinite : Room := { frames := 0, cells := 0, slots := 0, locals := 0 }
abbrev rmFormat_signed : Room := { frames := 0, cells := 0, slots := 0, locals := 0 }
abbrev rmFormat_nearest : Room := { frames := 0, cells := 0, slots := 0, locals := 0 }
abbrev rmFormat_rounded : Room := { frames := 2, cells := 0, slots := 0, locals := 45 }
abbrev rmConversions_otherFormat : Room := { frames := 3, cells := 0, slots := 0, locals := 75 }
abbrev rmConversions_fromWhole : Room := { frames := 3, cells := 0, slots := 0, locals := 75 }
abbrev rmConversions_lowestWithSign : Room := { frames := 0, cells := 0, slots := 0, locals := 0 }
abbrev rmConversions_result : Room := { frames := 4, cells := 0, slots := 0, locals := 102 }
abbrev rmFormat_magnitude : Room := { frames := 0, cells := 0, slots := 0, locals := 0 }
abbrev rmFloating_number : Room := { frames := 1, cells := 0, slots := 0, locals := 22 }
abbrev rmFloating_test : Room := { frames := 2, cells := 0, slots := 0, locals := 46 }
abbrev rmMath_min : Room := { frames := 0, cells := 0, slots := 0, locals := 0 }
abbrev rmFloating_wholeNumber : Room := { frames := 3, cells := 0, slots := 0, locals := 75 }
abbrev rmFormat_isZero : Room := { frames := 0, cells := 0, slots := 0, locals := 0 }
abbrev rmFloating_lift : Room := { frames := 2, cells := 0, slots := 0, locals := 45 }
abbrev rmFloating_root : Room := { frames := 3, cells := 0, slots := 0, locals := 75 }
abbrev rmFloating_sumWithInfinite : Room := { frames := 1, cells := 0, slots := 0, locals := 22 }
abbrev rmFloating_shiftedWithTrace : Room := { frames := 0, cells := 0, slots := 0, locals := 0 }
abbrev rmFloating_sum : Room := { frames := 3, cells := 0, slots := 0, locals := 75 }
abbrev rmFloating_highProduct : Room := { frames := 0, cells := 0, slots := 0, locals := 0 }
abbrev rmFloating_product : Room := { frames := 3, cells := 0, slots := 0, locals := 75 }
abbrev rmFloating_quotient : Room := { frames := 3, cells := 0, slots := 0, locals := 75 }
abbrev rmFloating_orderWithZeros : Room := { frames := 1, cells := 0, slots := 0, locals := 22 }
abbrev rmFloating_calculated : Room := { frames := 4, cells := 0, slots := 0, locals := 113 }
abbrev rmFloating_result : Room := { frames := 5, cells := 0, slots := 0, locals := 138 }
abbrev rmFormat_kind : Room := { frames := 1, cells := 0, slots := 0, locals := 22 }
abbrev rmOperators_exists : Room := { frames := 0, cells := 0, slots := 0, locals := 0 }
abbrev rmOperators_family : Room := { frames := 0, cells := 0, slots := 0, locals := 0 }
abbrev rmOperators_operands : Room := { frames := 1, cells := 0, slots := 0, locals := 22 }
abbrev rmOperators_typeIn : Room := { frames := 0, cells := 0, slots := 0, locals := 0 }
abbrev rmOperators_operandType : Room := { frames := 1, cells := 0, slots := 0, locals := 22 }
abbrev rmOperators_resultType : Room := { frames := 1, cells := 0, slots := 0, locals := 22 }
abbrev rmWhole_withoutSign : Room := { frames := 0, cells := 0, slots := 0, locals := 0 }
abbrev rmWhole_trapOf : Room := { frames := 2, cells := 0, slots := 0, locals := 41 }
abbrev rmOperators_trapOf : Room := { frames := 4, cells := 0, slots := 0, locals := 97 }
abbrev rmWhole_test : Room := { frames := 2, cells := 0, slots := 0, locals := 46 }
abbrev rmWhole_quotientWithoutSign : Room := { frames := 2, cells := 0, slots := 0, locals := 46 }
abbrev rmWhole_divided : Room := { frames := 3, cells := 0, slots := 0, locals := 71 }
abbrev rmWhole_shifted : Room := { frames := 1, cells := 0, slots := 0, locals := 22 }
abbrev rmWhole_result : Room := { frames := 4, cells := 0, slots := 0, locals := 98 }
abbrev rmOperators_result : Room := { frames := 6, cells := 0, slots := 0, locals := 163 }
def pw_C (p : Program) (s : State) (m : MethodId) (args : Array Value) (meth : Method) (c : Code) (cc : ByteArray) (nL : Nat) (ret : Option FieldType) (own : String) : Prop :=
  p.tables.exec = Jvm.exec ∧ c.code = cc ∧ meth.sig.returnType = ret ∧ c.maxLocals = nL ∧ s.vm.findClass own = some m.cls ∧ (∀ w ∈ aw, w.before args s = true) ∧ meth.locks = false
theorem pw_nz {v : Int32} (h : v = 0 ∨ v = 1) : narrow .boolean (.int v) = .int v := by
  rcases h with rfl | rfl <;> rfl
theorem pw_zi0 {c : Prop} [Decidable c] {a b : Int32} (h1 : a = 0 ∨ a = 1) (h2 : b = 0 ∨ b = 1) : (if c then a else b) = 0 ∨ (if c then a else b) = 1 := by
  split <;> assumption
theorem pw_bT {av : List Value} : FrameBlind (va_Pc av (fun _ => True)) := fun _ _ _ _ q => ⟨q.1, trivial⟩
section PW
variable {p : Program} {l : Launch} {e : Env} {R : Room} {s : State} {m : MethodId} {args : Array Value} {below : List Frame} {meth : Method} {c : Code} {H : Heap} {locs : List Loc} {cells slots : Nat} {Q : State → Prop}
variable {cc : ByteArray} {pc : Nat} {ls : Array Slot} {rest st0 : List Value} {a : Array Value}
theorem pw_call {r : Value} (hr : va_Run p l e R s m args below meth c H locs cells slots 0 0 (F0 m pc ls st0) rest (k2_QcV r a) (fun _ => False))
    (kk : W p l e R s m args below meth c H locs cells slots Q (F0 m (pc + 3) ls (r :: rest))) : W p l e R s m args below meth c H locs cells slots Q (F0 m pc ls st0) := by
  intro T hT X
  obtain ⟨v, st₀, t, T', L, h0, X', hL, e1, -, ⟨hv, hh⟩, st⟩ := hr T hT X
  cases hv
  obtain ⟨t2, a1, b1⟩ := kk T' (by rw [e1, hh, h0]) (Stand.forget X' (fun q h => (hL q h).elim))
  exact ⟨t2, st t2 a1, b1⟩
theorem pw_tableD (hexec : p.tables.exec = Jvm.exec) (hb : c.code = cc) {dflt lo hi : Int} {offs : Array Int} {len : Nat} {x : Int32} {tgt : Nat} (hdg : decode cc pc = .ok (.tableswitch dflt lo hi offs, len)) (h : x.toInt < lo ∨ hi < x.toInt ∨ offs[(x.toInt - lo).toNat]? = some dflt) (ht : (pc : Int) + dflt = (tgt : Int))
    (k : W p l e R s m args below meth c H locs cells slots Q (F0 m tgt ls rest)) : W p l e R s m args below meth c H locs cells slots Q (F0 m pc ls (.int x :: rest)) := by
  by_cases h1 : x.toInt < lo
  · exact lv_tableOut hexec hb hdg (Or.inl h1) ht k
  · by_cases h2 : hi < x.toInt
    · exact lv_tableOut hexec hb hdg (Or.inr h2) ht k
    · exact lv_tableIn hexec hb hdg h1 h2 (h.elim (fun q => absurd q h1) (fun q => q.elim (fun q => absurd q h2) id)) ht k
end PW
def pw_I (i : Int32) (n N : Nat) : Prop := ∃ k : Nat, i = nI k ∧ k ≤ N ∧ k + n = N + 1
def pw_B (i : Int32) (n N : Nat) : Prop := ∃ k : Nat, i = nI k ∧ k < N ∧ k + n = N
theorem pw_I_zero {i : Int32} {N : Nat} : ¬ pw_I i 0 N := fun ⟨k, _, h1, h2⟩ => by omega
theorem pw_B_next {i : Int32} {n N : Nat} (h : pw_B i n N) : pw_I (i + 1) n N := by
  obtain ⟨k, h1, h2, h3⟩ := h
  exact ⟨k + 1, by rw [h1]; exact (nI_succ k).symm, by omega, by omega⟩
theorem pw_I_body {i : Int32} {n N : Nat} (h : pw_I i (n + 1) N) (hi : ¬ nI N ≤ i) : pw_B i n N := by
  obtain ⟨k, h1, h2, h3⟩ := h
  refine ⟨k, h1, ?_, by omega⟩
  rcases Nat.lt_or_ge k N with q | q
  · exact q
  · have e : k = N := by omega
    rw [h1, e] at hi
    exact absurd (Int32.le_refl (nI N)) hi
theorem pw_B_in {i : Int32} {n N : Nat} (h : pw_B i n N) (hN : N < 1000) : vp_in i N := by
  obtain ⟨k, h1, h2, h3⟩ := h
  rw [h1]; exact fun q => q.elim (nI_pos (by omega)) (fun q => by rw [nI_clamp (by omega)] at q; omega)
def pw_D (i : Int32) (n : Nat) : Prop := (n = 7 ∧ i = 1) ∨ (n = 6 ∧ i = 2) ∨ (n = 5 ∧ i = 4) ∨ (n = 4 ∧ i = 8) ∨ (n = 3 ∧ i = 16) ∨ (n = 2 ∧ i = 32) ∨ (n = 1 ∧ i = 64)
def pw_DB (i : Int32) (n : Nat) : Prop := (n = 6 ∧ i = 1) ∨ (n = 5 ∧ i = 2) ∨ (n = 4 ∧ i = 4) ∨ (n = 3 ∧ i = 8) ∨ (n = 2 ∧ i = 16) ∨ (n = 1 ∧ i = 32)
theorem pw_D_init : pw_D 1 7 := Or.inl ⟨rfl, rfl⟩
theorem pw_D_zero {i : Int32} : ¬ pw_D i 0 := by
  unfold pw_D; omega
theorem pw_D_body {i : Int32} {n : Nat} (h : pw_D i (n + 1)) (hi : ¬ 64 ≤ i) : pw_DB i n := by
  unfold pw_D at h; unfold pw_DB
  rcases h with ⟨h1, h2⟩ | ⟨h1, h2⟩ | ⟨h1, h2⟩ | ⟨h1, h2⟩ | ⟨h1, h2⟩ | ⟨h1, h2⟩ | ⟨h1, h2⟩
  · exact Or.inl ⟨by omega, h2⟩
  · exact Or.inr (Or.inl ⟨by omega, h2⟩)
  · exact Or.inr (Or.inr (Or.inl ⟨by omega, h2⟩))
  · exact Or.inr (Or.inr (Or.inr (Or.inl ⟨by omega, h2⟩)))
  · exact Or.inr (Or.inr (Or.inr (Or.inr (Or.inl ⟨by omega, h2⟩))))
  · exact Or.inr (Or.inr (Or.inr (Or.inr (Or.inr ⟨by omega, h2⟩))))
  · rw [h2] at hi; exact absurd (by decide) hi
theorem pw_DB_next {i : Int32} {n : Nat} (h : pw_DB i n) : pw_D (i * 2) n := by
  unfold pw_DB at h; unfold pw_D
  rcases h with ⟨h1, h2⟩ | ⟨h1, h2⟩ | ⟨h1, h2⟩ | ⟨h1, h2⟩ | ⟨h1, h2⟩ | ⟨h1, h2⟩ <;> subst h1 h2
  · exact Or.inr (Or.inl ⟨rfl, by decide⟩)
  · exact Or.inr (Or.inr (Or.inl ⟨rfl, by decide⟩))
  · exact Or.inr (Or.inr (Or.inr (Or.inl ⟨rfl, by decide⟩)))
  · exact Or.inr (Or.inr (Or.inr (Or.inr (Or.inl ⟨rfl, by decide⟩))))
  · exact Or.inr (Or.inr (Or.inr (Or.inr (Or.inr (Or.inl ⟨rfl, by decide⟩)))))
  · exact Or.inr (Or.inr (Or.inr (Or.inr (Or.inr (Or.inr ⟨rfl, by decide⟩)))))
theorem pw_vi {i : Int32} {N : Nat} (h0 : 0 ≤ i.toInt) (h : i.toInt < N) : vp_in i N := by
  rintro (q | q)
  · rw [Int32.lt_iff_toInt_lt] at q
    have : (0 : Int32).toInt = 0 := rfl
    omega
  · have : i.toNatClampNeg = i.toInt.toNat := rfl
    omega
theorem pw_ne {y : Int64} (h : 0 < y) : ¬ y = 0 := fun e => by rw [e] at h; exact absurd h (by decide)
theorem fam_lem : ∀ (n : Nat) (a0 a1 a2 : Int32), (0 ≤ a1.toInt ∧ a1.toInt ≤ 8) → 0 ≤ a2.toInt → 0 ≤ (fOperators_family_4 n a0 a1 a2).toInt ∧ (fOperators_family_4 n a0 a1 a2).toInt ≤ 8 := by
  intro n
  induction n with
  | zero => intro a0 a1 a2 _ _; rw [fOperators_family_4]; decide
  | succ n ih =>
    intro a0 a1 a2 h1 h2
    rw [fOperators_family_4]
    by_cases q : (9 : Int32) ≤ a2
    · rw [if_pos q]; exact h1
    · rw [if_neg q]
      rw [Int32.le_iff_toInt_le] at q
      have z9 : (9 : Int32).toInt = 9 := rfl
      have z1 : (1 : Int32).toInt = 1 := rfl
      have e : (a2 + 1).toInt = a2.toInt + 1 := by rw [bn_i_add] <;> omega
      unfold fOperators_family_23
      split
      · exact ih _ _ _ h1 (by omega)
      · exact ih _ _ _ (by omega) (by omega)
theorem fam_in (a : Int32) : vp_in (fOperators_family a) 9 := by
  have := fam_lem 9 a 0 1 (by decide) (by decide)
  exact pw_vi this.1 (by show _ < (9 : Int); unfold fOperators_family; omega)
theorem tb_in {k : Nat} {i : Int32} (hk : k < 4) (h1 : ¬ i < 0) (h2 : ¬ tb_len32 k ≤ i) : vp_in i (tb_len k) := by
  have hl : tb_len k < 100 := by
    have : ∀ k, k < 4 → tb_len k < 100 := by decide
    exact this k hk
  rw [Int32.lt_iff_toInt_lt] at h1
  rw [Int32.le_iff_toInt_le, tb_len32, bn_i_ofNat (by omega)] at h2
  have : (0 : Int32).toInt = 0 := rfl
  exact pw_vi (by omega) (by omega)
theorem rFormat_of (a : Int32) : fFormat_of a < 2 := by unfold fFormat_of; split <;> decide
def pw_G (A : Nat → Prop) (ad td : Nat → Nat) (U : State) (H : Heap) : Prop :=
  va_En "BitNumbers$Format" "LBitNumbers$Format;" ["SINGLE", "DOUBLE"] [] ad A U H ∧
  (va_Ef 2 "BitNumbers$Format" "places" "I" (fun i => .int (fm_places i)) ad A U H ∧ va_Ef 2 "BitNumbers$Format" "greatestExponent" "I" (fun i => .int (fm_greatestExponent i)) ad A U H ∧ va_Ef 2 "BitNumbers$Format" "leastScale" "I" (fun i => .int (fm_leastScale i)) ad A U H ∧ va_Ef 2 "BitNumbers$Format" "signBit" "J" (fun i => .long (fm_signBit i)) ad A U H ∧ va_Ef 2 "BitNumbers$Format" "leadingBit" "J" (fun i => .long (fm_leadingBit i)) ad A U H ∧ va_Ef 2 "BitNumbers$Format" "infinite" "J" (fun i => .long (fm_infinite i)) ad A U H ∧ va_Ef 2 "BitNumbers$Format" "none" "J" (fun i => .long (fm_none i)) ad A U H) ∧
  (∀ i, i < 4 → va_T .int (td i) (tb_len i) (fun j => .int (tb i j)) A U H) ∧
  (va_Z "BitNumbers$Operators" "STARTS" "[I" (.ref (td 0)) A U H ∧ va_Z "BitNumbers$Operators" "ONE_OPERAND" "[I" (.ref (td 1)) A U H ∧ va_Z "BitNumbers$Operators" "FROM" "[I" (.ref (td 2)) A U H ∧ va_Z "BitNumbers$Operators" "TO" "[I" (.ref (td 3)) A U H)
theorem pw_G.moved {A : Nat → Prop} {ad td : Nat → Nat} {u U : State} {H : Heap} (hvm : u.vm.Alike U.vm) (h : pw_G A ad td u H) : pw_G A ad td U H :=
  ⟨va_En.moved hvm h.1, ⟨va_Ef.moved hvm h.2.1.1, va_Ef.moved hvm h.2.1.2.1, va_Ef.moved hvm h.2.1.2.2.1, va_Ef.moved hvm h.2.1.2.2.2.1, va_Ef.moved hvm h.2.1.2.2.2.2.1, va_Ef.moved hvm h.2.1.2.2.2.2.2.1, va_Ef.moved hvm h.2.1.2.2.2.2.2.2⟩, fun i hi => va_T.moved hvm (h.2.2.1 i hi), ⟨va_Z.moved hvm h.2.2.2.1, va_Z.moved hvm h.2.2.2.2.1, va_Z.moved hvm h.2.2.2.2.2.1, va_Z.moved hvm h.2.2.2.2.2.2⟩⟩
theorem pw_G.kept {A : Nat → Prop} {ad td : Nat → Nat} {U : State} {H H1 : Heap} (h : pw_G A ad td U H) (hq : ∀ a : Nat, a < H.size → ¬ A a → H1[a]? = H[a]?) : pw_G A ad td U H1 :=
  ⟨va_En.kept h.1 hq, ⟨va_Ef.kept h.2.1.1 hq, va_Ef.kept h.2.1.2.1 hq, va_Ef.kept h.2.1.2.2.1 hq, va_Ef.kept h.2.1.2.2.2.1 hq, va_Ef.kept h.2.1.2.2.2.2.1 hq, va_Ef.kept h.2.1.2.2.2.2.2.1 hq, va_Ef.kept h.2.1.2.2.2.2.2.2 hq⟩, fun i hi => va_T.kept (h.2.2.1 i hi) hq, ⟨va_Z.kept h.2.2.2.1 hq, va_Z.kept h.2.2.2.2.1 hq, va_Z.kept h.2.2.2.2.2.1 hq, va_Z.kept h.2.2.2.2.2.2 hq⟩⟩
theorem pw_G.narrow {A B : Nat → Prop} {ad td : Nat → Nat} {U : State} {H : Heap} (h : pw_G A ad td U H) (hAB : ∀ q, B q → A q) : pw_G B ad td U H :=
  ⟨va_En.narrow h.1 hAB, ⟨va_Ef.narrow h.2.1.1 hAB, va_Ef.narrow h.2.1.2.1 hAB, va_Ef.narrow h.2.1.2.2.1 hAB, va_Ef.narrow h.2.1.2.2.2.1 hAB, va_Ef.narrow h.2.1.2.2.2.2.1 hAB, va_Ef.narrow h.2.1.2.2.2.2.2.1 hAB, va_Ef.narrow h.2.1.2.2.2.2.2.2 hAB⟩, fun i hi => va_T.narrow (h.2.2.1 i hi) hAB, ⟨va_Z.narrow h.2.2.2.1 hAB, va_Z.narrow h.2.2.2.2.1 hAB, va_Z.narrow h.2.2.2.2.2.1 hAB, va_Z.narrow h.2.2.2.2.2.2 hAB⟩⟩
theorem pw_G.at {A : Nat → Prop} {ad td : Nat → Nat} {s U : State} (h : pw_G A ad td s s.heap) (hU : U.heap = s.heap) (hW : s.WarmedH U.vm) : pw_G A ad td U U.heap := by
  rw [hU]; exact h.moved hW.alike
theorem pw_bG {av : List Value} {ad td : Nat → Nat} : FrameBlind (va_Pc av (fun U => pw_G (fun _ => False) ad td U U.heap)) := fun _ _ _ _ q => ⟨q.1, q.2⟩
