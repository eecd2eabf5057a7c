def fm_places (k : Nat) : Int32 := if k = 0 then 24 else 53
def fm_greatestExponent (k : Nat) : Int32 := if k = 0 then 255 else 2047
def fm_leastScale (k : Nat) : Int32 := if k = 0 then (-149) else (-1074)
def fm_signBit (k : Nat) : Int64 := if k = 0 then 2147483648 else (-9223372036854775808)
def fm_leadingBit (k : Nat) : Int64 := if k = 0 then 8388608 else 4503599627370496
def fm_infinite (k : Nat) : Int64 := if k = 0 then 2139095040 else 9218868437227405312
def fm_none (k : Nat) : Int64 := if k = 0 then 2143289344 else 9221120237041090560
def tb_list (k : Nat) : List Int32 := match k with
  | 0 => [69, 80, 91, 97, 103, 121, 139, 153, 167]
  | 1 => [1, 1, 0, 0, 3, 3, 7, 7, 41]
  | 2 => [1, 2, 2, 3, 3, 0, 0, 2, 2, 3, 3, 0, 0, 1, 1, 3, 0, 0, 1, 1, 2, 2, 3, 0, 1, 0, 0, 1, 1, 1, -1, -1, -1, 2, 2, 3, 3, 2, 2, 3, 3]
  | _ => [0, 0, 0, 0, 0, 1, 1, 1, 1, 1, 1, 2, 2, 2, 2, 2, 3, 3, 3, 3, 3, 0, 1, 2, 3, 0, 0, 1, 1, 1, -1, -1, -1, 0, 0, 0, 0, 1, 1, 1, 1]
def tb (k j : Nat) : Int32 := (tb_list k).getD j 0
def tb_len (k : Nat) : Nat := (tb_list k).length
def tb_len32 (k : Nat) : Int32 := Int32.ofNat (tb_len k)
def fLong_compare (a0 : Int64) (a2 : Int64) : Int32 :=
  (if a2 ≤ a0 then (if a0 = a2 then 0 else 1) else (-1))
def fLong_bitCount_55 (a0 : Int64) : Int32 :=
  (a0.toInt32 &&& 127)
def fLong_bitCount_48 (a0 : Int64) : Int32 :=
  (fLong_bitCount_55 (a0 + (bn_shr a0 32)))
def fLong_bitCount_41 (a0 : Int64) : Int32 :=
  (fLong_bitCount_48 (a0 + (bn_shr a0 16)))
def fLong_bitCount_34 (a0 : Int64) : Int32 :=
  (fLong_bitCount_41 (a0 + (bn_shr a0 8)))
def fLong_bitCount_24 (a0 : Int64) : Int32 :=
  (fLong_bitCount_34 ((a0 + (bn_shr a0 4)) &&& 1085102592571150095))
def fLong_bitCount_10 (a0 : Int64) : Int32 :=
  (fLong_bitCount_24 ((a0 &&& 3689348814741910323) + ((bn_shr a0 2) &&& 3689348814741910323)))
def fLong_bitCount (a0 : Int64) : Int32 :=
  (fLong_bitCount_10 (a0 - ((bn_shr a0 1) &&& 6148914691236517205)))
def fMath_max (a0 : Int32) (a1 : Int32) : Int32 :=
  (if a0 < a1 then a1 else a0)
def fMath_min (a0 : Int32) (a1 : Int32) : Int32 :=
  (if a1 < a0 then a1 else a0)
def fOperators_exists_34  : Int32 :=
  0
def fOperators_exists_30  : Int32 :=
  1
def fOperators_exists_16 (a0 : Int32) : Int32 :=
  (if a0 < 200 then (fOperators_exists_34) else (if 207 < a0 then (fOperators_exists_34) else (fOperators_exists_30)))
def fOperators_exists (a0 : Int32) : Int32 :=
  (if a0 < (tb 0 (0 : Int32).toNatClampNeg) then (fOperators_exists_16 a0) else (if a0 ≤ 196 then (fOperators_exists_30) else (fOperators_exists_16 a0)))
def fOperators_family_23 (K : Int32 → Int32 → Int32 → Int32) (a0 : Int32) (a1 : Int32) (a2 : Int32) : Int32 :=
  (K a0 a1 (a2 + 1))
def fOperators_family_4 : Nat → Int32 → Int32 → Int32 → Int32
  | 0, _, _, _ => 0
  | n + 1, a0, a1, a2 =>
    (if 9 ≤ a2 then a1 else (if a0 < (tb 0 a2.toNatClampNeg) then (fOperators_family_23 (fOperators_family_4 n) a0 a1 a2) else (fOperators_family_23 (fOperators_family_4 n) a0 a2 a2)))
def fOperators_family (a0 : Int32) : Int32 :=
  (fOperators_family_4 9 a0 0 1)
def fOperators_operands_5 (a0 : Int32) (a1 : Int32) : Int32 :=
  (if (tb 1 a1.toNatClampNeg) ≤ (a0 - (tb 0 a1.toNatClampNeg)) then 2 else 1)
def fOperators_operands (a0 : Int32) : Int32 :=
  (fOperators_operands_5 a0 (fOperators_family a0))
def fOperators_typeIn_25  : Int32 :=
  (-1)
def fOperators_typeIn_9 (a0 : Nat) (a2 : Int32) : Int32 :=
  (if a2 < 0 then (fOperators_typeIn_25) else (if (tb_len32 a0) ≤ a2 then (fOperators_typeIn_25) else (tb a0 a2.toNatClampNeg)))
def fOperators_typeIn (a0 : Nat) (a1 : Int32) : Int32 :=
  (fOperators_typeIn_9 a0 (a1 - (tb 0 (8 : Int32).toNatClampNeg)))
def fOperators_operandType_5 (a0 : Int32) (a1 : Int32) : Int32 :=
  (if 8 ≤ a1 then (fOperators_typeIn 2 a0) else (a1 - a1 / 4 * 4))
def fOperators_operandType (a0 : Int32) : Int32 :=
  (fOperators_operandType_5 a0 (fOperators_family a0))
def fOperators_resultType_5 (a0 : Int32) (a1 : Int32) : Int32 :=
  (if 4 ≤ a1 then (if 8 ≤ a1 then (fOperators_typeIn 3 a0) else (a1 - a1 / 4 * 4)) else 0)
def fOperators_resultType (a0 : Int32) : Int32 :=
  (fOperators_resultType_5 a0 (fOperators_family a0))
def fWhole_width (a0 : Int32) : Int32 :=
  (if a0 = 0 then 32 else 64)
def fWhole_greatest_19 (s0 : Int32) (s1 : Int32) (s2 : Int64) : Int64 :=
  (bn_shr s2 (s1 + s0))
def fWhole_greatest (a0 : Int32) (a1 : Int32) : Int64 :=
  (if a1 = 0 then (fWhole_greatest_19 0 (64 - (fWhole_width a0)) (-1)) else (fWhole_greatest_19 1 (64 - (fWhole_width a0)) (-1)))
def fWhole_withoutSign (a0 : Int32) (a1 : Int64) : Int64 :=
  (if a0 = 0 then (a1 &&& 4294967295) else a1)
def fWhole_withSign (a0 : Int32) (a1 : Int64) : Int64 :=
  (if a0 = 0 then a1.toInt32.toInt64 else a1)
def fWhole_trapOf_67 (s0 : Int32) : Int32 :=
  (if s0 = 0 then 0 else 2)
def fWhole_trapOf_66  : Int32 :=
  (fWhole_trapOf_67 0)
def fWhole_trapOf_36 (a0 : Int32) (a1 : Int32) (a2 : Int64) (a4 : Int64) (a6 : Int64) : Int32 :=
  (if a0 = 6 then (if a2 = a6 then (if (fWhole_withSign a1 a4) = (-1) then (fWhole_trapOf_67 1) else (fWhole_trapOf_66)) else (fWhole_trapOf_66)) else (fWhole_trapOf_66))
def fWhole_trapOf_12  : Int32 :=
  0
def fWhole_trapOf (a0 : Int32) (a1 : Int32) (a2 : Int64) (a4 : Int64) : Int32 :=
  (if a0 < 6 then (fWhole_trapOf_12) else (if a0 ≤ 9 then (if a4 = 0 then 1 else (fWhole_trapOf_36 a0 a1 a2 a4 (fWhole_withoutSign a1 ((fWhole_greatest a1 1) + 1)))) else (fWhole_trapOf_12)))
def fConversions_isTowardsZero_35  : Int32 :=
  1
def fConversions_isTowardsZero_28 (a0 : Int32) : Int32 :=
  (if a0 < 200 then 0 else (fConversions_isTowardsZero_35))
def fConversions_isTowardsZero_14 (a0 : Int32) : Int32 :=
  (if a0 ≤ 173 then (fConversions_isTowardsZero_28 a0) else (if a0 < 178 then (fConversions_isTowardsZero_35) else (fConversions_isTowardsZero_28 a0)))
def fConversions_isTowardsZero (a0 : Int32) : Int32 :=
  (if a0 ≤ 167 then (fConversions_isTowardsZero_14 a0) else (if a0 < 172 then (fConversions_isTowardsZero_35) else (fConversions_isTowardsZero_14 a0)))
def fFormat_of (a0 : Int32) : Nat :=
  (if a0 = 2 then 0 else 1)
def fFormat_isNone (a0 : Nat) (a1 : Int64) : Int32 :=
  (if (a1 &&& ((fm_signBit a0) ^^^ (-1))) ≤ (fm_infinite a0) then 0 else 1)
def fConversions_isSigned_38 (a1 : Int32) : Int32 :=
  a1
def fConversions_isSigned_11 (a0 : Int32) (s0 : Int32) : Int32 :=
  (if a0 ≤ 182 then (fConversions_isSigned_38 s0) else (if 187 ≤ a0 then (fConversions_isSigned_38 s0) else (if s0 = 0 then 1 else 0)))
def fConversions_isSigned (a0 : Int32) : Int32 :=
  (if (a0 - a0 / 2 * 2) = 0 then (fConversions_isSigned_11 a0 1) else (fConversions_isSigned_11 a0 0))
def fFormat_isNegative (a0 : Nat) (a1 : Int64) : Int32 :=
  (if (a1 &&& (fm_signBit a0)) = 0 then 0 else 1)
def fConversions_limit (a0 : Nat) (a1 : Int64) (a3 : Int32) (a4 : Int32) : Int64 :=
  (if (fFormat_isNegative a0 a1) = 0 then (fWhole_greatest a3 a4) else (if a4 = 0 then 0 else ((fWhole_greatest a3 1) + 1)))
def fFormat_exponent (a0 : Nat) (a1 : Int64) : Int32 :=
  (((bn_shr a1 ((fm_places a0) - 1)).toInt32) &&& (fm_greatestExponent a0))
def fFormat_significand_9 (a0 : Nat) (a1 : Int64) (a3 : Int64) : Int64 :=
  (if (fFormat_exponent a0 a1) = 0 then a3 else ((fm_leadingBit a0) ||| a3))
def fFormat_significand (a0 : Nat) (a1 : Int64) : Int64 :=
  (fFormat_significand_9 a0 a1 (a1 &&& ((fm_leadingBit a0) - 1)))
def fFormat_scale (a0 : Nat) (a1 : Int64) : Int32 :=
  (((fm_leastScale a0) + (fMath_max (fFormat_exponent a0 a1) 1)) - 1)
def fWhole_length_19 (K : Int64 → Int32 → Int32) (a2 : Int64) (a4 : Int32) : Int32 :=
  (K a2 (a4 * 2))
def fWhole_length_5 : Nat → Int64 → Int32 → Int32
  | 0, _, _ => 0
  | n + 1, a2, a4 =>
    (if 64 ≤ a4 then (fLong_bitCount a2) else (fWhole_length_19 (fWhole_length_5 n) (a2 ||| (bn_shr a2 a4)) a4))
def fWhole_length (a0 : Int64) : Int32 :=
  (fWhole_length_5 7 a0 1)
def fConversions_wholePart (a0 : Int64) (a2 : Int32) : Int64 :=
  (if a2 < 0 then (if (-63) ≤ a2 then (bn_shr a0 (-a2)) else 0) else (bn_shl a0 a2))
def fWhole_orderWithoutSign (a0 : Int64) (a2 : Int64) : Int32 :=
  (fLong_compare (a0 ^^^ (-9223372036854775808)) (a2 ^^^ (-9223372036854775808)))
def fConversions_fits_14 (a3 : Int64) (a5 : Int64) (a7 : Int32) : Int32 :=
  (if a7 ≤ (64 - (fWhole_length a5)) then (if 0 < (fWhole_orderWithoutSign (fConversions_wholePart a5 a7) a3) then 0 else 1) else 0)
def fConversions_fits_7 (a0 : Nat) (a1 : Int64) (a3 : Int64) (a5 : Int64) : Int32 :=
  (fConversions_fits_14 a3 a5 (fFormat_scale a0 a1))
def fConversions_fits (a0 : Nat) (a1 : Int64) (a3 : Int64) : Int32 :=
  (fConversions_fits_7 a0 a1 a3 (fFormat_significand a0 a1))
def fConversions_trapOf (a0 : Int32) (a1 : Nat) (a2 : Int32) (a3 : Int64) : Int32 :=
  (if (fFormat_isNone a1 a3) = 0 then (if (fConversions_fits a1 a3 (fConversions_limit a1 a3 a2 (fConversions_isSigned a0))) = 0 then 2 else 0) else 3)
def fOperators_trapOf_76  : Int32 :=
  0
def fOperators_trapOf_24 (a0 : Int32) (a1 : Int64) (a3 : Int64) (a5 : Int32) (a6 : Int32) : Int32 :=
  (fWhole_trapOf (a0 - (tb 0 a5.toNatClampNeg)) a6 a1 a3)
def fOperators_trapOf_12 (a0 : Int32) (a1 : Int64) (a3 : Int64) (a5 : Int32) (a6 : Int32) : Int32 :=
  (if a5 = 4 then (fOperators_trapOf_24 a0 a1 a3 a5 a6) else (if a5 = 5 then (fOperators_trapOf_24 a0 a1 a3 a5 a6) else (if a5 = 8 then (if 200 ≤ a0 then (fOperators_trapOf_76) else (if (fConversions_isTowardsZero a0) = 0 then (fOperators_trapOf_76) else (fConversions_trapOf a0 (fFormat_of a6) (fOperators_resultType a0) a1))) else (fOperators_trapOf_76))))
def fOperators_trapOf_6 (a0 : Int32) (a1 : Int64) (a3 : Int64) (a5 : Int32) : Int32 :=
  (fOperators_trapOf_12 a0 a1 a3 a5 (fOperators_operandType a0))
def fOperators_trapOf (a0 : Int32) (a1 : Int64) (a3 : Int64) : Int32 :=
  (fOperators_trapOf_6 a0 a1 a3 (fOperators_family a0))
def fWhole_test_24 (a0 : Int32) (a2 : Int64) (a4 : Int64) (a6 : Int32) (a7 : Int32) : Int32 :=
  (if a0 = 0 then (if a2 = 0 then 1 else 0) else (if a0 = 1 then (if a2 = a4 then 1 else 0) else (if a0 = 2 then (if a2 = a4 then 0 else 1) else (if a0 = 3 then (if 0 ≤ a6 then 0 else 1) else (if a0 = 4 then (if 0 ≤ a7 then 0 else 1) else (if a0 = 5 then (if a6 ≤ 0 then 0 else 1) else (if a0 = 6 then (if a7 ≤ 0 then 0 else 1) else (if a0 = 7 then (if 0 < a6 then 0 else 1) else (if a0 = 8 then (if 0 < a7 then 0 else 1) else (if a0 = 9 then (if a6 < 0 then 0 else 1) else (if a0 = 10 then (if a7 < 0 then 0 else 1) else 0)))))))))))
def fWhole_test_16 (a0 : Int32) (a2 : Int64) (a4 : Int64) (a6 : Int32) : Int32 :=
  (fWhole_test_24 a0 a2 a4 a6 (fWhole_orderWithoutSign a2 a4))
def fWhole_test (a0 : Int32) (a1 : Int32) (a2 : Int64) (a4 : Int64) : Int32 :=
  (fWhole_test_16 a0 a2 a4 (fLong_compare (fWhole_withSign a1 a2) (fWhole_withSign a1 a4)))
def fFormat_magnitude (a0 : Nat) (a1 : Int64) : Int64 :=
  (a1 &&& ((fm_signBit a0) ^^^ (-1)))
def fFloating_number_6 (a0 : Nat) (a1 : Int64) (a3 : Int64) : Int64 :=
  (if (fFormat_isNegative a0 a1) = 0 then a3 else (-a3))
def fFloating_number (a0 : Nat) (a1 : Int64) : Int64 :=
  (fFloating_number_6 a0 a1 (fFormat_magnitude a0 a1))
def fFloating_test_44 (a0 : Int32) (a6 : Int32) : Int32 :=
  (if a0 = 0 then (if a6 = 0 then 1 else 0) else (if a0 = 1 then (if a6 = 0 then 0 else 1) else (if a0 = 2 then (if 0 ≤ a6 then 0 else 1) else (if a0 = 3 then (if a6 ≤ 0 then 0 else 1) else (if a0 = 4 then (if 0 < a6 then 0 else 1) else (if a0 = 5 then (if a6 < 0 then 0 else 1) else 0))))))
def fFloating_test_17 (a0 : Int32) : Int32 :=
  (if a0 = 1 then 1 else 0)
def fFloating_test (a0 : Int32) (a1 : Nat) (a2 : Int64) (a4 : Int64) : Int32 :=
  (if (fFormat_isNone a1 a2) = 0 then (if (fFormat_isNone a1 a4) = 0 then (fFloating_test_44 a0 (fLong_compare (fFloating_number a1 a2) (fFloating_number a1 a4))) else (fFloating_test_17 a0)) else (fFloating_test_17 a0))
def fWhole_quotientWithoutSign_31 (a0 : Int64) (a2 : Int64) (a4 : Int64) : Int64 :=
  (if 0 ≤ (fWhole_orderWithoutSign (a0 - (a4 * a2)) a2) then (a4 + 1) else a4)
def fWhole_quotientWithoutSign (a0 : Int64) (a2 : Int64) : Int64 :=
  (if 0 < a2 then (fWhole_quotientWithoutSign_31 a0 a2 (((bn_shr a0 1) / a2) * 2)) else (if 0 ≤ (fWhole_orderWithoutSign a0 a2) then 1 else 0))
def fWhole_divided_22  : Int64 :=
  0
def fWhole_divided_8 (a0 : Int32) (a1 : Int32) (a2 : Int64) (a4 : Int64) (a6 : Int64) : Int64 :=
  (if a4 = 0 then (fWhole_divided_22) else (if a6 = 0 then (fWhole_divided_22) else (if a0 = 6 then ((fWhole_withSign a1 a2) / a6) else (if a0 = 7 then (fWhole_quotientWithoutSign a2 a4) else (if a0 = 8 then ((fWhole_withSign a1 a2) - (fWhole_withSign a1 a2) / a6 * a6) else (a2 - (a4 * (fWhole_quotientWithoutSign a2 a4))))))))
def fWhole_divided (a0 : Int32) (a1 : Int32) (a2 : Int64) (a4 : Int64) : Int64 :=
  (fWhole_divided_8 a0 a1 a2 a4 (fWhole_withSign a1 a4))
def fWhole_shifted (a0 : Int32) (a1 : Int32) (a2 : Int64) (a4 : Int32) : Int64 :=
  (if a0 = 13 then (bn_shl a2 a4) else (if a0 = 14 then (bn_sar (fWhole_withSign a1 a2) a4) else (if a0 = 15 then (bn_shr a2 a4) else (if a0 = 16 then ((bn_shl a2 a4) ||| (bn_shr a2 ((fWhole_width a1) - a4))) else (if a0 = 17 then ((bn_shr a2 a4) ||| (bn_shl a2 ((fWhole_width a1) - a4))) else a2)))))
def fWhole_result (a0 : Int32) (a1 : Int32) (a2 : Int64) (a4 : Int64) : Int64 :=
  (if a0 = 0 then (((fWhole_width a1) - (fWhole_length a2)).toInt64) else (if a0 = 1 then (if a2 = 0 then ((fWhole_width a1).toInt64) else ((fLong_bitCount ((a2 &&& (-a2)) - 1)).toInt64)) else (if a0 = 2 then ((fLong_bitCount a2).toInt64) else (if a0 = 3 then (a2 + a4) else (if a0 = 4 then (a2 - a4) else (if a0 = 5 then (a2 * a4) else (if a0 = 6 then (fWhole_divided a0 a1 a2 a4) else (if a0 = 7 then (fWhole_divided a0 a1 a2 a4) else (if a0 = 8 then (fWhole_divided a0 a1 a2 a4) else (if a0 = 9 then (fWhole_divided a0 a1 a2 a4) else (if a0 = 10 then (a2 &&& a4) else (if a0 = 11 then (a2 ||| a4) else (if a0 = 12 then (a2 ^^^ a4) else (fWhole_shifted a0 a1 a2 (a4.toInt32 &&& ((fWhole_width a1) - 1))))))))))))))))
def fFormat_signed (a0 : Nat) (a1 : Int32) (a2 : Int64) : Int64 :=
  (if a1 = 0 then a2 else (a2 ||| (fm_signBit a0)))
def fFormat_nearest_67 (a3 : Int64) (s0 : Int32) : Int64 :=
  (if s0 = 0 then a3 else (a3 + 1))
def fFormat_nearest_66 (a3 : Int64) : Int64 :=
  (fFormat_nearest_67 a3 0)
def fFormat_nearest_62 (a3 : Int64) : Int64 :=
  (fFormat_nearest_67 a3 1)
def fFormat_nearest_38 (a3 : Int64) (a5 : Int64) (a7 : Int64) : Int64 :=
  (if a7 < a5 then (fFormat_nearest_62 a3) else (if a5 = a7 then (if (a3 &&& 1) = 0 then (fFormat_nearest_66 a3) else (fFormat_nearest_62 a3)) else (fFormat_nearest_66 a3)))
def fFormat_nearest_31 (a2 : Int32) (a3 : Int64) (a5 : Int64) : Int64 :=
  (fFormat_nearest_38 a3 a5 (bn_shl 1 (a2 - 1)))
def fFormat_nearest_24 (a0 : Int64) (a2 : Int32) (a3 : Int64) : Int64 :=
  (fFormat_nearest_31 a2 a3 (a0 - (bn_shl a3 a2)))
def fFormat_nearest_10 (a0 : Int64) (a2 : Int32) : Int64 :=
  (if 0 < a2 then 0 else a0)
def fFormat_nearest (a0 : Int64) (a2 : Int32) : Int64 :=
  (if a2 ≤ 0 then (fFormat_nearest_10 a0 a2) else (if a2 ≤ 63 then (fFormat_nearest_24 a0 a2 (bn_shr a0 a2)) else (fFormat_nearest_10 a0 a2)))
def fFormat_rounded_96 (a0 : Nat) (a1 : Int32) (a7 : Int32) (a9 : Int64) : Int64 :=
  (fFormat_signed a0 a1 ((bn_shl a7.toInt64 ((fm_places a0) - 1)) + a9))
def fFormat_rounded_94 (a0 : Nat) (a1 : Int32) (a7 : Int32) (s0 : Int64) : Int64 :=
  (fFormat_rounded_96 a0 a1 a7 s0)
def fFormat_rounded_75 (a0 : Nat) (a1 : Int32) (a2 : Int64) (a7 : Int32) (a8 : Int32) : Int64 :=
  (if 0 ≤ a8 then (fFormat_rounded_94 a0 a1 a7 (fFormat_nearest a2 a8)) else (fFormat_rounded_94 a0 a1 a7 (bn_shl a2 (-a8))))
def fFormat_rounded_47 (a0 : Nat) (a1 : Int32) (a2 : Int64) (a4 : Int32) (a6 : Int32) (a7 : Int32) : Int64 :=
  (if a7 < ((fm_greatestExponent a0) - 1) then (fFormat_rounded_75 a0 a1 a2 a7 (a6 - a4)) else (fFormat_signed a0 a1 (fm_infinite a0)))
def fFormat_rounded_38 (a0 : Nat) (a1 : Int32) (a2 : Int64) (a4 : Int32) (a6 : Int32) : Int64 :=
  (fFormat_rounded_47 a0 a1 a2 a4 a6 (a6 - (fm_leastScale a0)))
def fFormat_rounded_19 (a0 : Nat) (a1 : Int32) (a2 : Int64) (a4 : Int32) (a5 : Int32) : Int64 :=
  (fFormat_rounded_38 a0 a1 a2 a4 (fMath_max ((a4 + a5) - (fm_places a0)) (fm_leastScale a0)))
def fFormat_rounded (a0 : Nat) (a1 : Int32) (a2 : Int64) (a4 : Int32) : Int64 :=
  (if a2 = 0 then (fFormat_signed a0 a1 0) else (fFormat_rounded_19 a0 a1 a2 a4 (fWhole_length a2)))
def fFloating_wholeNumber_132 (s0 : Int64) (s1 : Int32) (s2 : Nat) : Int64 :=
  (fFormat_rounded s2 s1 s0 0)
def fFloating_wholeNumber_130 (a9 : Int64) (s0 : Int32) (s1 : Nat) : Int64 :=
  (fFloating_wholeNumber_132 a9 s0 s1)
def fFloating_wholeNumber_108 (a1 : Nat) (a5 : Int32) (a9 : Int64) (a11 : Int32) (s0 : Int32) : Int64 :=
  (if a11 = 0 then (fFloating_wholeNumber_130 a9 a5 a1) else (if s0 = 0 then (fFloating_wholeNumber_130 a9 a5 a1) else (fFloating_wholeNumber_132 (a9 + 1) a5 a1)))
def fFloating_wholeNumber_107 (a1 : Nat) (a5 : Int32) (a9 : Int64) (a11 : Int32) : Int64 :=
  (fFloating_wholeNumber_108 a1 a5 a9 a11 0)
def fFloating_wholeNumber_103 (a1 : Nat) (a5 : Int32) (a9 : Int64) (a11 : Int32) : Int64 :=
  (fFloating_wholeNumber_108 a1 a5 a9 a11 1)
def fFloating_wholeNumber_93 (a0 : Int32) (a1 : Nat) (a5 : Int32) (a9 : Int64) (a11 : Int32) : Int64 :=
  (if a0 = 3 then (if a5 = 0 then (fFloating_wholeNumber_107 a1 a5 a9 a11) else (fFloating_wholeNumber_103 a1 a5 a9 a11)) else (fFloating_wholeNumber_107 a1 a5 a9 a11))
def fFloating_wholeNumber_81 (a0 : Int32) (a1 : Nat) (a5 : Int32) (a9 : Int64) (s0 : Int32) : Int64 :=
  (if a0 = 2 then (if a5 = 0 then (fFloating_wholeNumber_103 a1 a5 a9 s0) else (fFloating_wholeNumber_93 a0 a1 a5 a9 s0)) else (fFloating_wholeNumber_93 a0 a1 a5 a9 s0))
def fFloating_wholeNumber_65 (a0 : Int32) (a1 : Nat) (a5 : Int32) (a6 : Int64) (a8 : Int32) (a9 : Int64) : Int64 :=
  (if (bn_shl a9 a8) = a6 then (fFloating_wholeNumber_81 a0 a1 a5 a9 0) else (fFloating_wholeNumber_81 a0 a1 a5 a9 1))
def fFloating_wholeNumber_58 (a0 : Int32) (a1 : Nat) (a5 : Int32) (a6 : Int64) (a8 : Int32) : Int64 :=
  (fFloating_wholeNumber_65 a0 a1 a5 a6 a8 (bn_shr a6 a8))
def fFloating_wholeNumber_29 (a0 : Int32) (a1 : Nat) (a4 : Int32) (a5 : Int32) (a6 : Int64) : Int64 :=
  (if a0 = 5 then (fFormat_rounded a1 a5 (fFormat_nearest a6 a4) 0) else (fFloating_wholeNumber_58 a0 a1 a5 a6 (fMath_min a4 63)))
def fFloating_wholeNumber_22 (a0 : Int32) (a1 : Nat) (a2 : Int64) (a4 : Int32) (a5 : Int32) : Int64 :=
  (fFloating_wholeNumber_29 a0 a1 a4 a5 (fFormat_significand a1 a2))
def fFloating_wholeNumber_8 (a0 : Int32) (a1 : Nat) (a2 : Int64) (a4 : Int32) : Int64 :=
  (if 0 < a4 then (fFloating_wholeNumber_22 a0 a1 a2 a4 (fFormat_isNegative a1 a2)) else a2)
def fFloating_wholeNumber (a0 : Int32) (a1 : Nat) (a2 : Int64) : Int64 :=
  (fFloating_wholeNumber_8 a0 a1 a2 (-(fFormat_scale a1 a2)))
def fFormat_isZero (a0 : Nat) (a1 : Int64) : Int32 :=
  (if (a1 &&& ((fm_signBit a0) ^^^ (-1))) = 0 then 1 else 0)
def fFormat_isInfinite (a0 : Nat) (a1 : Int64) : Int32 :=
  (if (a1 &&& ((fm_signBit a0) ^^^ (-1))) = (fm_infinite a0) then 1 else 0)
def fFloating_lift (a0 : Int64) : Int32 :=
  (62 - (fWhole_length a0))
def fFloating_root_177 (a10 : Int32) (s0 : Int64) (s1 : Int32) (s2 : Nat) : Int64 :=
  (fFormat_rounded s2 s1 s0 a10)
def fFloating_root_136 (K : Nat → Int64 → Int32 → Int64 → Int64 → Int64 → Int32 → Int64) (a0 : Nat) (a1 : Int64) (a3 : Int32) (a4 : Int64) (a6 : Int64) (a8 : Int64) (a10 : Int32) : Int64 :=
  (K a0 a1 a3 a4 a6 a8 (a10 + 1))
def fFloating_root_130 (K : Nat → Int64 → Int32 → Int64 → Int64 → Int64 → Int32 → Int64) (a0 : Nat) (a1 : Int64) (a3 : Int32) (a4 : Int64) (a6 : Int64) (a8 : Int64) (a10 : Int32) : Int64 :=
  (fFloating_root_136 K a0 a1 a3 a4 (a6 ||| 1) a8 a10)
def fFloating_root_115 (K : Nat → Int64 → Int32 → Int64 → Int64 → Int64 → Int32 → Int64) (a0 : Nat) (a1 : Int64) (a3 : Int32) (a4 : Int64) (a6 : Int64) (a8 : Int64) (a10 : Int32) (a11 : Int64) : Int64 :=
  (if a8 < a11 then (fFloating_root_136 K a0 a1 a3 a4 a6 a8 a10) else (fFloating_root_130 K a0 a1 a3 a4 a6 (a8 - a11) a10))
def fFloating_root_109 (K : Nat → Int64 → Int32 → Int64 → Int64 → Int64 → Int32 → Int64) (a0 : Nat) (a1 : Int64) (a3 : Int32) (a4 : Int64) (a6 : Int64) (a8 : Int64) (a10 : Int32) (a11 : Int64) : Int64 :=
  (fFloating_root_115 K a0 a1 a3 a4 (bn_shl a6 1) a8 a10 a11)
def fFloating_root_101 (K : Nat → Int64 → Int32 → Int64 → Int64 → Int64 → Int32 → Int64) (a0 : Nat) (a1 : Int64) (a3 : Int32) (a4 : Int64) (a6 : Int64) (a8 : Int64) (a10 : Int32) : Int64 :=
  (fFloating_root_109 K a0 a1 a3 a4 a6 a8 a10 ((bn_shl a6 2) ||| 1))
def fFloating_root_95 (K : Nat → Int64 → Int32 → Int64 → Int64 → Int64 → Int32 → Int64) (a0 : Nat) (a1 : Int64) (a3 : Int32) (a4 : Int64) (a6 : Int64) (a8 : Int64) (a10 : Int32) : Int64 :=
  (fFloating_root_101 K a0 a1 a3 (bn_shl a4 2) a6 a8 a10)
def fFloating_root_72 : Nat → Nat → Int64 → Int32 → Int64 → Int64 → Int64 → Int32 → Int64
  | 0, _, _, _, _, _, _, _ => 0
  | n + 1, a0, a1, a3, a4, a6, a8, a10 =>
    (if 57 ≤ a10 then (if a8 = 0 then (fFloating_root_177 (((((fFormat_scale a0 a1) - a3) / 2) + 31) - 57) a6 0 a0) else (fFloating_root_177 (((((fFormat_scale a0 a1) - a3) / 2) + 31) - 57) (a6 ||| 1) 0 a0)) else (fFloating_root_95 (fFloating_root_72 n) a0 a1 a3 a4 a6 ((bn_shl a8 2) ||| ((bn_shr a4 60) &&& 3)) a10))
def fFloating_root_63 (a0 : Nat) (a1 : Int64) (a3 : Int32) (a4 : Int64) : Int64 :=
  (fFloating_root_72 58 a0 a1 a3 a4 0 0 0)
def fFloating_root_54 (a0 : Nat) (a1 : Int64) (a3 : Int32) : Int64 :=
  (fFloating_root_63 a0 a1 a3 (bn_shl (fFormat_significand a0 a1) a3))
def fFloating_root_42 (a0 : Nat) (a1 : Int64) (a3 : Int32) : Int64 :=
  (fFloating_root_54 a0 a1 (a3 - (((fFormat_scale a0 a1) - a3) &&& 1)))
def fFloating_root (a0 : Nat) (a1 : Int64) : Int64 :=
  (if (fFormat_isZero a0 a1) = 0 then (if (fFormat_isNegative a0 a1) = 0 then (if (fFormat_isInfinite a0 a1) = 0 then (fFloating_root_42 a0 a1 (fFloating_lift (fFormat_significand a0 a1))) else a1) else (fm_none a0)) else a1)
def fFloating_sumWithInfinite_46 (a0 : Nat) (a1 : Int64) (a3 : Int64) : Int64 :=
  (if (fFormat_isInfinite a0 a1) = 0 then a3 else a1)
def fFloating_sumWithInfinite_21 (a0 : Nat) (a1 : Int64) (a3 : Int64) (s0 : Int32) : Int64 :=
  (if s0 = 0 then (fFloating_sumWithInfinite_46 a0 a1 a3) else (if (fFormat_isNegative a0 a1) = (fFormat_isNegative a0 a3) then (fFloating_sumWithInfinite_46 a0 a1 a3) else (fm_none a0)))
def fFloating_sumWithInfinite_20 (a0 : Nat) (a1 : Int64) (a3 : Int64) : Int64 :=
  (fFloating_sumWithInfinite_21 a0 a1 a3 0)
def fFloating_sumWithInfinite (a0 : Nat) (a1 : Int64) (a3 : Int64) : Int64 :=
  (if (fFormat_isInfinite a0 a1) = 0 then (fFloating_sumWithInfinite_20 a0 a1 a3) else (if (fFormat_isInfinite a0 a3) = 0 then (fFloating_sumWithInfinite_20 a0 a1 a3) else (fFloating_sumWithInfinite_21 a0 a1 a3 1)))
def fFloating_shiftedWithTrace_22 (a0 : Int64) (a2 : Int32) (a3 : Int64) : Int64 :=
  (if (bn_shl a3 a2) = a0 then a3 else (a3 ||| 1))
def fFloating_shiftedWithTrace (a0 : Int64) (a2 : Int32) : Int64 :=
  (if a2 ≤ 63 then (fFloating_shiftedWithTrace_22 a0 a2 (bn_shr a0 a2)) else (if a0 = 0 then 0 else 1))
def fFloating_sum_191 (a0 : Nat) (a6 : Int64) (a10 : Int32) (a16 : Int64) (a18 : Int32) : Int64 :=
  (fFormat_rounded a0 a18 a16 ((fFormat_scale a0 a6) - a10))
def fFloating_sum_189 (a0 : Nat) (a6 : Int64) (a10 : Int32) (a16 : Int64) (s0 : Int32) : Int64 :=
  (fFloating_sum_191 a0 a6 a10 a16 s0)
def fFloating_sum_179 (a0 : Nat) (a6 : Int64) (a10 : Int32) (a16 : Int64) : Int64 :=
  (fFloating_sum_189 a0 a6 a10 a16 0)
def fFloating_sum_155 (a0 : Nat) (a1 : Int64) (a6 : Int64) (a10 : Int32) (a15 : Int32) (a16 : Int64) : Int64 :=
  (if a16 = 0 then (if a15 = 0 then (fFloating_sum_179 a0 a6 a10 a16) else (if (fFormat_isNegative a0 a1) = 0 then (fFloating_sum_179 a0 a6 a10 a16) else (fFloating_sum_189 a0 a6 a10 a16 1))) else (fFloating_sum_189 a0 a6 a10 a16 (fFormat_isNegative a0 a6)))
def fFloating_sum_153 (a0 : Nat) (a1 : Int64) (a6 : Int64) (a10 : Int32) (a15 : Int32) (s0 : Int64) : Int64 :=
  (fFloating_sum_155 a0 a1 a6 a10 a15 s0)
def fFloating_sum_133 (a0 : Nat) (a1 : Int64) (a6 : Int64) (a10 : Int32) (a11 : Int64) (a13 : Int64) (s0 : Int32) : Int64 :=
  (if s0 = 0 then (fFloating_sum_153 a0 a1 a6 a10 s0 (a11 - a13)) else (fFloating_sum_153 a0 a1 a6 a10 s0 (a11 + a13)))
def fFloating_sum_115 (a0 : Nat) (a1 : Int64) (a3 : Int64) (a6 : Int64) (a10 : Int32) (a11 : Int64) (a13 : Int64) : Int64 :=
  (if (fFormat_isNegative a0 a1) = (fFormat_isNegative a0 a3) then (fFloating_sum_133 a0 a1 a6 a10 a11 a13 1) else (fFloating_sum_133 a0 a1 a6 a10 a11 a13 0))
def fFloating_sum_88 (a0 : Nat) (a1 : Int64) (a3 : Int64) (a6 : Int64) (a8 : Int64) (a10 : Int32) (a11 : Int64) : Int64 :=
  (fFloating_sum_115 a0 a1 a3 a6 a10 a11 (fFloating_shiftedWithTrace (bn_shl (fFormat_significand a0 a8) a10) ((fFormat_scale a0 a6) - (fFormat_scale a0 a8))))
def fFloating_sum_77 (a0 : Nat) (a1 : Int64) (a3 : Int64) (a6 : Int64) (a8 : Int64) (a10 : Int32) : Int64 :=
  (fFloating_sum_88 a0 a1 a3 a6 a8 a10 (bn_shl (fFormat_significand a0 a6) a10))
def fFloating_sum_66 (a0 : Nat) (a1 : Int64) (a3 : Int64) (a6 : Int64) (s0 : Int64) : Int64 :=
  (fFloating_sum_77 a0 a1 a3 a6 s0 (62 - (fm_places a0)))
def fFloating_sum_54 (a0 : Nat) (a1 : Int64) (a3 : Int64) (a5 : Int32) (s0 : Int64) : Int64 :=
  (if a5 = 0 then (fFloating_sum_66 a0 a1 a3 s0 a1) else (fFloating_sum_66 a0 a1 a3 s0 a3))
def fFloating_sum_42 (a0 : Nat) (a1 : Int64) (a3 : Int64) (s0 : Int32) : Int64 :=
  (if s0 = 0 then (fFloating_sum_54 a0 a1 a3 s0 a3) else (fFloating_sum_54 a0 a1 a3 s0 a1))
def fFloating_sum_16 (a0 : Nat) (a1 : Int64) (a3 : Int64) : Int64 :=
  (fFloating_sumWithInfinite a0 a1 a3)
def fFloating_sum (a0 : Nat) (a1 : Int64) (a3 : Int64) : Int64 :=
  (if (fFormat_isInfinite a0 a1) = 0 then (if (fFormat_isInfinite a0 a3) = 0 then (if (fFormat_magnitude a0 a1) < (fFormat_magnitude a0 a3) then (fFloating_sum_42 a0 a1 a3 0) else (fFloating_sum_42 a0 a1 a3 1)) else (fFloating_sum_16 a0 a1 a3)) else (fFloating_sum_16 a0 a1 a3))
def fFloating_highProduct_56 (a8 : Int64) (a10 : Int64) (a12 : Int64) (a14 : Int64) : Int64 :=
  (((a8 * a10) + (bn_shr a12 32)) + (bn_shr a14 32))
def fFloating_highProduct_42 (a4 : Int64) (a8 : Int64) (a10 : Int64) (a12 : Int64) : Int64 :=
  (fFloating_highProduct_56 a8 a10 a12 ((a4 * a10) + (a12 &&& 4294967295)))
def fFloating_highProduct_26 (a4 : Int64) (a6 : Int64) (a8 : Int64) (a10 : Int64) : Int64 :=
  (fFloating_highProduct_42 a4 a8 a10 ((a8 * a6) + (bn_shr (a4 * a6) 32)))
def fFloating_highProduct_20 (a2 : Int64) (a4 : Int64) (a6 : Int64) (a8 : Int64) : Int64 :=
  (fFloating_highProduct_26 a4 a6 a8 (bn_shr a2 32))
def fFloating_highProduct_14 (a0 : Int64) (a2 : Int64) (a4 : Int64) (a6 : Int64) : Int64 :=
  (fFloating_highProduct_20 a2 a4 a6 (bn_shr a0 32))
def fFloating_highProduct_7 (a0 : Int64) (a2 : Int64) (a4 : Int64) : Int64 :=
  (fFloating_highProduct_14 a0 a2 a4 (a2 &&& 4294967295))
def fFloating_highProduct (a0 : Int64) (a2 : Int64) : Int64 :=
  (fFloating_highProduct_7 a0 a2 (a0 &&& 4294967295))
def fFloating_product_188 (a15 : Int32) (s0 : Int64) (s1 : Int32) (s2 : Nat) : Int64 :=
  (fFormat_rounded s2 s1 s0 a15)
def fFloating_product_166 (a0 : Nat) (a5 : Int32) (a9 : Int64) (a11 : Int64) (a13 : Int64) (a15 : Int32) : Int64 :=
  (if (a9 * a11) = 0 then (fFloating_product_188 a15 a13 a5 a0) else (fFloating_product_188 a15 (a13 ||| 1) a5 a0))
def fFloating_product_144 (a0 : Nat) (a1 : Int64) (a3 : Int64) (a5 : Int32) (a7 : Int32) (a8 : Int32) (a9 : Int64) (a11 : Int64) (a13 : Int64) : Int64 :=
  (fFloating_product_166 a0 a5 a9 a11 a13 (((((fFormat_scale a0 a1) - a7) + (fFormat_scale a0 a3)) - a8) + 64))
def fFloating_product_135 (a0 : Nat) (a1 : Int64) (a3 : Int64) (a5 : Int32) (a7 : Int32) (a8 : Int32) (a9 : Int64) (a11 : Int64) : Int64 :=
  (fFloating_product_144 a0 a1 a3 a5 a7 a8 a9 a11 (fFloating_highProduct a9 a11))
def fFloating_product_125 (a0 : Nat) (a1 : Int64) (a3 : Int64) (a5 : Int32) (a7 : Int32) (a8 : Int32) (a9 : Int64) : Int64 :=
  (fFloating_product_135 a0 a1 a3 a5 a7 a8 a9 (bn_shl (fFormat_significand a0 a3) a8))
def fFloating_product_115 (a0 : Nat) (a1 : Int64) (a3 : Int64) (a5 : Int32) (a7 : Int32) (a8 : Int32) : Int64 :=
  (fFloating_product_125 a0 a1 a3 a5 a7 a8 (bn_shl (fFormat_significand a0 a1) a7))
def fFloating_product_105 (a0 : Nat) (a1 : Int64) (a3 : Int64) (a5 : Int32) (a7 : Int32) : Int64 :=
  (fFloating_product_115 a0 a1 a3 a5 a7 (fFloating_lift (fFormat_significand a0 a3)))
def fFloating_product_59 (a0 : Nat) (a5 : Int32) (a6 : Int32) : Int64 :=
  (if a6 = 0 then (fFormat_signed a0 a5 (fm_infinite a0)) else (fm_none a0))
def fFloating_product_41 (a0 : Nat) (a1 : Int64) (a3 : Int64) (a5 : Int32) (s0 : Int32) : Int64 :=
  (if (fFormat_isInfinite a0 a1) = 0 then (if (fFormat_isInfinite a0 a3) = 0 then (if s0 = 0 then (fFloating_product_105 a0 a1 a3 a5 (fFloating_lift (fFormat_significand a0 a1))) else (fFormat_signed a0 a5 0)) else (fFloating_product_59 a0 a5 s0)) else (fFloating_product_59 a0 a5 s0))
def fFloating_product_36 (a0 : Nat) (a1 : Int64) (a3 : Int64) (a5 : Int32) : Int64 :=
  (fFloating_product_41 a0 a1 a3 a5 1)
def fFloating_product_18 (a0 : Nat) (a1 : Int64) (a3 : Int64) (s0 : Int32) : Int64 :=
  (if (fFormat_isZero a0 a1) = 0 then (if (fFormat_isZero a0 a3) = 0 then (fFloating_product_41 a0 a1 a3 s0 0) else (fFloating_product_36 a0 a1 a3 s0)) else (fFloating_product_36 a0 a1 a3 s0))
def fFloating_product (a0 : Nat) (a1 : Int64) (a3 : Int64) : Int64 :=
  (if (fFormat_isNegative a0 a1) = (fFormat_isNegative a0 a3) then (fFloating_product_18 a0 a1 a3 0) else (fFloating_product_18 a0 a1 a3 1))
def fFloating_quotient_253 (a15 : Int32) (s0 : Int64) (s1 : Int32) (s2 : Nat) : Int64 :=
  (fFormat_rounded s2 s1 s0 a15)
def fFloating_quotient_206 (K : Nat → Int64 → Int64 → Int32 → Int32 → Int32 → Int64 → Int64 → Int64 → Int32 → Int64) (a0 : Nat) (a1 : Int64) (a3 : Int64) (a5 : Int32) (a7 : Int32) (a8 : Int32) (a9 : Int64) (a11 : Int64) (a13 : Int64) (a15 : Int32) : Int64 :=
  (K a0 a1 a3 a5 a7 a8 a9 a11 a13 (a15 + 1))
def fFloating_quotient_200 (K : Nat → Int64 → Int64 → Int32 → Int32 → Int32 → Int64 → Int64 → Int64 → Int32 → Int64) (a0 : Nat) (a1 : Int64) (a3 : Int64) (a5 : Int32) (a7 : Int32) (a8 : Int32) (a9 : Int64) (a11 : Int64) (a13 : Int64) (a15 : Int32) : Int64 :=
  (fFloating_quotient_206 K a0 a1 a3 a5 a7 a8 (bn_shl a9 1) a11 a13 a15)
def fFloating_quotient_194 (K : Nat → Int64 → Int64 → Int32 → Int32 → Int32 → Int64 → Int64 → Int64 → Int32 → Int64) (a0 : Nat) (a1 : Int64) (a3 : Int64) (a5 : Int32) (a7 : Int32) (a8 : Int32) (a9 : Int64) (a11 : Int64) (a13 : Int64) (a15 : Int32) : Int64 :=
  (fFloating_quotient_200 K a0 a1 a3 a5 a7 a8 a9 a11 (a13 ||| 1) a15)
def fFloating_quotient_179 (K : Nat → Int64 → Int64 → Int32 → Int32 → Int32 → Int64 → Int64 → Int64 → Int32 → Int64) (a0 : Nat) (a1 : Int64) (a3 : Int64) (a5 : Int32) (a7 : Int32) (a8 : Int32) (a9 : Int64) (a11 : Int64) (a13 : Int64) (a15 : Int32) : Int64 :=
  (if a9 < a11 then (fFloating_quotient_200 K a0 a1 a3 a5 a7 a8 a9 a11 a13 a15) else (fFloating_quotient_194 K a0 a1 a3 a5 a7 a8 (a9 - a11) a11 a13 a15))
def fFloating_quotient_166 : Nat → Nat → Int64 → Int64 → Int32 → Int32 → Int32 → Int64 → Int64 → Int64 → Int32 → Int64
  | 0, _, _, _, _, _, _, _, _, _, _ => 0
  | n + 1, a0, a1, a3, a5, a7, a8, a9, a11, a13, a15 =>
    (if 57 ≤ a15 then (if a9 = 0 then (fFloating_quotient_253 ((((fFormat_scale a0 a1) - a7) - ((fFormat_scale a0 a3) - a8)) - 56) a13 a5 a0) else (fFloating_quotient_253 ((((fFormat_scale a0 a1) - a7) - ((fFormat_scale a0 a3) - a8)) - 56) (a13 ||| 1) a5 a0)) else (fFloating_quotient_179 (fFloating_quotient_166 n) a0 a1 a3 a5 a7 a8 a9 a11 (bn_shl a13 1) a15))
def fFloating_quotient_160 (a0 : Nat) (a1 : Int64) (a3 : Int64) (a5 : Int32) (a7 : Int32) (a8 : Int32) (a9 : Int64) (a11 : Int64) : Int64 :=
  (fFloating_quotient_166 58 a0 a1 a3 a5 a7 a8 a9 a11 0 0)
def fFloating_quotient_150 (a0 : Nat) (a1 : Int64) (a3 : Int64) (a5 : Int32) (a7 : Int32) (a8 : Int32) (a9 : Int64) : Int64 :=
  (fFloating_quotient_160 a0 a1 a3 a5 a7 a8 a9 (bn_shl (fFormat_significand a0 a3) a8))
def fFloating_quotient_140 (a0 : Nat) (a1 : Int64) (a3 : Int64) (a5 : Int32) (a7 : Int32) (a8 : Int32) : Int64 :=
  (fFloating_quotient_150 a0 a1 a3 a5 a7 a8 (bn_shl (fFormat_significand a0 a1) a7))
def fFloating_quotient_130 (a0 : Nat) (a1 : Int64) (a3 : Int64) (a5 : Int32) (a7 : Int32) : Int64 :=
  (fFloating_quotient_140 a0 a1 a3 a5 a7 (fFloating_lift (fFormat_significand a0 a3)))
def fFloating_quotient_112 (a0 : Nat) (a5 : Int32) : Int64 :=
  (fFormat_signed a0 a5 0)
def fFloating_quotient_85 (a0 : Nat) (a5 : Int32) : Int64 :=
  (fFormat_signed a0 a5 (fm_infinite a0))
def fFloating_quotient_57 (a0 : Nat) (a1 : Int64) (a3 : Int64) (a5 : Int32) (s0 : Int32) : Int64 :=
  (if s0 = 0 then (if (fFormat_isInfinite a0 a1) = 0 then (if (fFormat_isZero a0 a3) = 0 then (if (fFormat_isZero a0 a1) = 0 then (if (fFormat_isInfinite a0 a3) = 0 then (fFloating_quotient_130 a0 a1 a3 a5 (fFloating_lift (fFormat_significand a0 a1))) else (fFloating_quotient_112 a0 a5)) else (fFloating_quotient_112 a0 a5)) else (fFloating_quotient_85 a0 a5)) else (fFloating_quotient_85 a0 a5)) else (fm_none a0))
def fFloating_quotient_56 (a0 : Nat) (a1 : Int64) (a3 : Int64) (a5 : Int32) : Int64 :=
  (fFloating_quotient_57 a0 a1 a3 a5 0)
def fFloating_quotient_52 (a0 : Nat) (a1 : Int64) (a3 : Int64) (a5 : Int32) : Int64 :=
  (fFloating_quotient_57 a0 a1 a3 a5 1)
def fFloating_quotient_36 (a0 : Nat) (a1 : Int64) (a3 : Int64) (a5 : Int32) : Int64 :=
  (if (fFormat_isInfinite a0 a1) = 0 then (fFloating_quotient_56 a0 a1 a3 a5) else (if (fFormat_isInfinite a0 a3) = 0 then (fFloating_quotient_56 a0 a1 a3 a5) else (fFloating_quotient_52 a0 a1 a3 a5)))
def fFloating_quotient_18 (a0 : Nat) (a1 : Int64) (a3 : Int64) (s0 : Int32) : Int64 :=
  (if (fFormat_isZero a0 a1) = 0 then (fFloating_quotient_36 a0 a1 a3 s0) else (if (fFormat_isZero a0 a3) = 0 then (fFloating_quotient_36 a0 a1 a3 s0) else (fFloating_quotient_52 a0 a1 a3 s0)))
def fFloating_quotient (a0 : Nat) (a1 : Int64) (a3 : Int64) : Int64 :=
  (if (fFormat_isNegative a0 a1) = (fFormat_isNegative a0 a3) then (fFloating_quotient_18 a0 a1 a3 0) else (fFloating_quotient_18 a0 a1 a3 1))
def fFloating_orderWithZeros_6 (a0 : Nat) (a1 : Int64) (a3 : Int64) : Int64 :=
  (if (fFormat_isNegative a0 a1) = 0 then a3 else (a3 ^^^ (-1)))
def fFloating_orderWithZeros (a0 : Nat) (a1 : Int64) : Int64 :=
  (fFloating_orderWithZeros_6 a0 a1 (fFormat_magnitude a0 a1))
def fFloating_calculated (a0 : Int32) (a1 : Nat) (a2 : Int64) (a4 : Int64) : Int64 :=
  (if a0 = 2 then (fFloating_wholeNumber a0 a1 a2) else (if a0 = 3 then (fFloating_wholeNumber a0 a1 a2) else (if a0 = 4 then (fFloating_wholeNumber a0 a1 a2) else (if a0 = 5 then (fFloating_wholeNumber a0 a1 a2) else (if a0 = 6 then (fFloating_root a1 a2) else (if a0 = 7 then (fFloating_sum a1 a2 a4) else (if a0 = 8 then (fFloating_sum a1 a2 (a4 ^^^ (fm_signBit a1))) else (if a0 = 9 then (fFloating_product a1 a2 a4) else (if a0 = 10 then (fFloating_quotient a1 a2 a4) else (if a0 = 11 then (if (fFloating_orderWithZeros a1 a4) < (fFloating_orderWithZeros a1 a2) then a4 else a2) else (if a0 = 12 then (if (fFloating_orderWithZeros a1 a2) < (fFloating_orderWithZeros a1 a4) then a4 else a2) else a2)))))))))))
def fFloating_result_82 (a1 : Nat) : Int64 :=
  (fm_none a1)
def fFloating_result (a0 : Int32) (a1 : Nat) (a2 : Int64) (a4 : Int64) : Int64 :=
  (if a0 = 0 then (fFormat_magnitude a1 a2) else (if a0 = 1 then (a2 ^^^ (fm_signBit a1)) else (if a0 = 13 then (fFormat_signed a1 (fFormat_isNegative a1 a4) (fFormat_magnitude a1 a2)) else (if (fFormat_isNone a1 a2) = 0 then (if (fFormat_isNone a1 a4) = 0 then (fFloating_calculated a0 a1 a2 a4) else (fFloating_result_82 a1)) else (fFloating_result_82 a1)))))
def fConversions_towardsZero_50 (a1 : Nat) (a3 : Int64) (s0 : Int64) : Int64 :=
  (if (fFormat_isNegative a1 a3) = 0 then s0 else (-s0))
def fConversions_towardsZero_22 (a1 : Nat) (a3 : Int64) (a5 : Int64) : Int64 :=
  (if (fConversions_fits a1 a3 a5) = 0 then (fConversions_towardsZero_50 a1 a3 a5) else (fConversions_towardsZero_50 a1 a3 (fConversions_wholePart (fFormat_significand a1 a3) (fFormat_scale a1 a3))))
def fConversions_towardsZero (a0 : Int32) (a1 : Nat) (a2 : Int32) (a3 : Int64) : Int64 :=
  (if (fFormat_isNone a1 a3) = 0 then (fConversions_towardsZero_22 a1 a3 (fConversions_limit a1 a3 a2 (fConversions_isSigned a0))) else 0)
def fConversions_otherFormat (a0 : Nat) (a1 : Nat) (a2 : Int64) : Int64 :=
  (if (fFormat_isNone a0 a2) = 0 then (if (fFormat_isInfinite a0 a2) = 0 then (fFormat_rounded a1 (fFormat_isNegative a0 a2) (fFormat_significand a0 a2) (fFormat_scale a0 a2)) else (fFormat_signed a1 (fFormat_isNegative a0 a2) (fm_infinite a1))) else (fm_none a1))
def fConversions_fromWhole_49 (s0 : Int64) (s1 : Int32) (s2 : Nat) : Int64 :=
  (fFormat_rounded s2 s1 s0 0)
def fConversions_fromWhole_31 (a2 : Nat) (a5 : Int64) (s0 : Int32) : Int64 :=
  (if s0 = 0 then (fConversions_fromWhole_49 a5 s0 a2) else (fConversions_fromWhole_49 (-a5) s0 a2))
def fConversions_fromWhole_30 (a2 : Nat) (a5 : Int64) : Int64 :=
  (fConversions_fromWhole_31 a2 a5 0)
def fConversions_fromWhole_13 (a0 : Int32) (a2 : Nat) (s0 : Int64) : Int64 :=
  (if a0 = 0 then (fConversions_fromWhole_30 a2 s0) else (if 0 ≤ s0 then (fConversions_fromWhole_30 a2 s0) else (fConversions_fromWhole_31 a2 s0 1)))
def fConversions_fromWhole (a0 : Int32) (a1 : Int32) (a2 : Nat) (a3 : Int64) : Int64 :=
  (if a0 = 0 then (fConversions_fromWhole_13 a0 a2 a3) else (fConversions_fromWhole_13 a0 a2 (fWhole_withSign a1 a3)))
def fConversions_lowestWithSign (a0 : Int32) (a1 : Int64) : Int64 :=
  (if a0 = 192 then a1.toInt32.toInt8.toInt32.toInt64 else (if a0 = 193 then a1.toInt32.toInt16.toInt32.toInt64 else (if a0 = 194 then a1.toInt32.toInt8.toInt32.toInt64 else (if a0 = 195 then a1.toInt32.toInt16.toInt32.toInt64 else a1.toInt32.toInt64))))
def fConversions_result_75 (a1 : Int32) (a2 : Int32) (a3 : Int64) : Int64 :=
  (fConversions_otherFormat (fFormat_of a1) (fFormat_of a2) a3)
def fConversions_result_48 (a0 : Int32) (a1 : Int32) (a2 : Int32) (a3 : Int64) : Int64 :=
  (if a0 = 172 then (fWhole_withSign a1 a3) else (if a0 = 182 then (fConversions_result_75 a1 a2 a3) else (if a0 = 187 then (fConversions_result_75 a1 a2 a3) else (if 188 ≤ a0 then (fConversions_lowestWithSign a0 a3) else (fConversions_fromWhole (fConversions_isSigned a0) a1 (fFormat_of a2) a3)))))
def fConversions_result_46 (a3 : Int64) : Int64 :=
  a3
def fConversions_result (a0 : Int32) (a1 : Int32) (a2 : Int32) (a3 : Int64) : Int64 :=
  (if (fConversions_isTowardsZero a0) = 0 then (if a0 = 167 then (fConversions_result_46 a3) else (if a0 = 173 then (fConversions_result_46 a3) else (if a0 < 188 then (fConversions_result_48 a0 a1 a2 a3) else (if 191 < a0 then (fConversions_result_48 a0 a1 a2 a3) else (fConversions_result_46 a3))))) else (fConversions_towardsZero a0 (fFormat_of a1) a2 a3))
def fOperators_result_22 (a0 : Int32) (a1 : Int64) (a3 : Int64) (a5 : Int32) (a6 : Int32) (a7 : Int32) : Int64 :=
  (if a5 = 0 then (if (fWhole_test a6 a7 a1 a3) = 0 then 0 else 1) else (if a5 = 1 then (if (fWhole_test a6 a7 a1 a3) = 0 then 0 else 1) else (if a5 = 2 then (if (fFloating_test a6 (fFormat_of a7) a1 a3) = 0 then 0 else 1) else (if a5 = 3 then (if (fFloating_test a6 (fFormat_of a7) a1 a3) = 0 then 0 else 1) else (if a5 = 4 then (fWhole_result a6 a7 a1 a3) else (if a5 = 5 then (fWhole_result a6 a7 a1 a3) else (if a5 = 6 then (fFloating_result a6 (fFormat_of a7) a1 a3) else (if a5 = 7 then (fFloating_result a6 (fFormat_of a7) a1 a3) else (fConversions_result a0 a7 (fOperators_resultType a0) a1)))))))))
def fOperators_result_16 (a0 : Int32) (a1 : Int64) (a3 : Int64) (a5 : Int32) (a6 : Int32) : Int64 :=
  (fOperators_result_22 a0 a1 a3 a5 a6 (fOperators_operandType a0))
def fOperators_result_6 (a0 : Int32) (a1 : Int64) (a3 : Int64) (a5 : Int32) : Int64 :=
  (fOperators_result_16 a0 a1 a3 a5 (a0 - (tb 0 a5.toNatClampNeg)))
def fOperators_result (a0 : Int32) (a1 : Int64) (a3 : Int64) : Int64 :=
  (fOperators_result_6 a0 a1 a3 (fOperators_family a0))
def fFormat_kind (a0 : Nat) (a1 : Int64) : Int32 :=
  (if (fFormat_isNone a0 a1) = 0 then (if (fFormat_isInfinite a0 a1) = 0 then (if (fFormat_isZero a0 a1) = 0 then (if (fFormat_exponent a0 a1) = 0 then 1 else 2) else 0) else 3) else 4)
