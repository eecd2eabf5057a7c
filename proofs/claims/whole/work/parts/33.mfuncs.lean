def fM_shape (a0 : Int32) (a1 : Int32) (a2 : Int32) : Int32 :=
  (((a0 * 16) + (a1 * 4)) + a2)
def fM_taken (a0 : Int32) : Int32 :=
  (if a0 ≤ 199 then (if a0 = 167 then 1 else (if a0 = 168 then 2 else (if a0 = 169 then 2 else (if a0 = 170 then 3 else (if a0 = 171 then 3 else (if a0 = 174 then 2 else (if a0 = 175 then 2 else (if a0 = 176 then 3 else (if a0 = 177 then 3 else (if a0 = 180 then 1 else (if a0 = 181 then 1 else (if a0 = 182 then 3 else (if a0 = 185 then 1 else (if a0 = 186 then 1 else (if a0 = 187 then 2 else (if a0 = 188 then 2 else (if a0 = 189 then 3 else (if a0 = 191 then 1 else (if a0 = 194 then 1 else (if a0 = 195 then 1 else (if a0 = 196 then 1 else 0))))))))))))))))))))) else (if (a0 &&& 2) = 0 then 2 else 3))
def fM_given_87  : Int32 :=
  2
def fM_given_71  : Int32 :=
  1
def fM_given_48  : Int32 :=
  0
def fM_given (a0 : Int32) : Int32 :=
  (if a0 ≤ 199 then (if a0 < 172 then (fM_given_48) else (if a0 = 188 then (fM_given_48) else (if a0 = 192 then (fM_given_48) else (if a0 = 193 then (fM_given_48) else (if a0 < 178 then (fM_given_71) else (if a0 = 189 then (fM_given_71) else (if a0 ≤ 193 then (if a0 < 183 then (fM_given_87) else (if a0 = 190 then (fM_given_87) else 3)) else (fM_given_71)))))))) else (if 204 ≤ a0 then 1 else 0))
def fM_operatorShape_198 (s0 : Int32) (s1 : Int32) (s2 : Int32) : Int32 :=
  (fM_shape s2 s1 s0)
def fM_operatorShape_186 (a0 : Int32) (s0 : Int32) (s1 : Int32) : Int32 :=
  (if 153 ≤ a0 then (fM_operatorShape_198 3 s0 s1) else (fM_operatorShape_198 2 s0 s1))
def fM_operatorShape_174 (a0 : Int32) (s0 : Int32) : Int32 :=
  (if 153 ≤ a0 then (fM_operatorShape_186 a0 3 s0) else (fM_operatorShape_186 a0 2 s0))
def fM_operatorShape_145 (s0 : Int32) (s1 : Int32) (s2 : Int32) : Int32 :=
  (fM_shape s2 s1 s0)
def fM_operatorShape_134 (a0 : Int32) (s0 : Int32) (s1 : Int32) : Int32 :=
  (if 121 ≤ a0 then (fM_operatorShape_145 1 s0 s1) else (fM_operatorShape_145 0 s0 s1))
def fM_operatorShape_123 (a0 : Int32) (s0 : Int32) : Int32 :=
  (if 121 ≤ a0 then (fM_operatorShape_134 a0 1 s0) else (fM_operatorShape_134 a0 0 s0))
def fM_operatorShape_95 (s0 : Int32) (s1 : Int32) : Int32 :=
  (fM_shape s1 s0 0)
def fM_operatorShape_52 (s0 : Int32) : Int32 :=
  (fM_shape s0 0 0)
def fM_operatorShape_29 (a0 : Int32) : Int32 :=
  (if 81 ≤ a0 then (if 103 ≤ a0 then (if 139 ≤ a0 then (if 167 ≤ a0 then (fM_shape 1 (fM_taken a0) (fM_given a0)) else (if 7 ≤ ((a0 - 139) - (a0 - 139) / 14 * 14) then (fM_operatorShape_174 a0 2) else (fM_operatorShape_174 a0 1))) else (if 3 ≤ ((a0 - 103) - (a0 - 103) / 18 * 18) then (fM_operatorShape_123 a0 2) else (fM_operatorShape_123 a0 1))) else (if 91 ≤ a0 then (if 97 ≤ a0 then (fM_operatorShape_95 3 2) else (fM_operatorShape_95 2 2)) else (fM_operatorShape_95 1 2))) else (if 80 ≤ a0 then (fM_shape 1 1 0) else (if a0 = 69 then (fM_operatorShape_52 1) else (fM_operatorShape_52 2))))
def fM_operatorShape_27  : Int32 :=
  (-1)
def fM_operatorShape (a0 : Int32) : Int32 :=
  (if a0 < 69 then (fM_operatorShape_27) else (if 207 < a0 then (fM_operatorShape_27) else (if a0 ≤ 196 then (fM_operatorShape_29 a0) else (if 200 ≤ a0 then (fM_operatorShape_29 a0) else (fM_operatorShape_27)))))
def fM_cut_9 (a1 : Int64) : Int64 :=
  (a1 &&& 4294967295)
def fM_cut (a0 : Int32) (a1 : Int64) : Int64 :=
  (if a0 = 0 then (fM_cut_9 a1) else (if a0 = 2 then (fM_cut_9 a1) else a1))
def fM_withSign (a0 : Int32) (a1 : Int64) : Int64 :=
  (if a0 = 0 then (bn_sar (bn_shl a1 32) 32) else a1)
def fM_width_9  : Int32 :=
  32
def fM_width (a0 : Int32) : Int32 :=
  (if a0 = 0 then (fM_width_9) else (if a0 = 2 then (fM_width_9) else 64))
def fM_isBelow (a0 : Int64) (a2 : Int64) : Int32 :=
  (if (a2 ^^^ (-9223372036854775808)) ≤ (a0 ^^^ (-9223372036854775808)) then 0 else 1)
def fM_truth (a0 : Int32) : Int64 :=
  (if a0 = 0 then 0 else 1)
def fM_compareWhole_220 (s0 : Int32) : Int64 :=
  (fM_truth s0)
def fM_compareWhole_202 (s0 : Int32) : Int64 :=
  (fM_truth s0)
def fM_compareWhole_185 (s0 : Int32) : Int64 :=
  (fM_truth s0)
def fM_compareWhole_167 (s0 : Int32) : Int64 :=
  (fM_truth s0)
def fM_compareWhole_140 (s0 : Int32) : Int64 :=
  (fM_truth s0)
def fM_compareWhole_113 (s0 : Int32) : Int64 :=
  (fM_truth s0)
def fM_compareWhole_96 (s0 : Int32) : Int64 :=
  (fM_truth s0)
def fM_compareWhole_80 (s0 : Int32) : Int64 :=
  (fM_truth s0)
def fM_compareWhole_15 (a0 : Int32) (a2 : Int64) (a4 : Int64) (a6 : Int64) (a8 : Int64) : Int64 :=
  (if a0 = 0 then (if a2 = a4 then (fM_compareWhole_80 1) else (fM_compareWhole_80 0)) else (if a0 = 1 then (if a2 = a4 then (fM_compareWhole_96 0) else (fM_compareWhole_96 1)) else (if a0 = 2 then (if a8 ≤ a6 then (fM_compareWhole_113 0) else (fM_compareWhole_113 1)) else (if a0 = 3 then (fM_truth (fM_isBelow a2 a4)) else (if a0 = 4 then (if a6 ≤ a8 then (fM_compareWhole_140 0) else (fM_compareWhole_140 1)) else (if a0 = 5 then (fM_truth (fM_isBelow a4 a2)) else (if a0 = 6 then (if a8 < a6 then (fM_compareWhole_167 0) else (fM_compareWhole_167 1)) else (if a0 = 7 then (if (fM_isBelow a4 a2) = 0 then (fM_compareWhole_185 1) else (fM_compareWhole_185 0)) else (if a0 = 8 then (if a6 < a8 then (fM_compareWhole_202 0) else (fM_compareWhole_202 1)) else (if (fM_isBelow a2 a4) = 0 then (fM_compareWhole_220 1) else (fM_compareWhole_220 0)))))))))))
def fM_compareWhole_7 (a0 : Int32) (a1 : Int32) (a2 : Int64) (a4 : Int64) (a6 : Int64) : Int64 :=
  (fM_compareWhole_15 a0 a2 a4 a6 (fM_withSign a1 a4))
def fM_compareWhole (a0 : Int32) (a1 : Int32) (a2 : Int64) (a4 : Int64) : Int64 :=
  (fM_compareWhole_7 a0 a1 a2 a4 (fM_withSign a1 a2))
def fM_zerosAhead_32 (a3 : Int64) : Int64 :=
  a3
def fM_zerosAhead_2 : Nat → Int32 → Int64 → Int64 → Int64
  | 0, _, _, _ => 0
  | n + 1, a0, a1, a3 =>
    (if a0.toInt64 ≤ a3 then (fM_zerosAhead_32 a3) else (if ((bn_sar a1 ((((a0 - 1).toInt64) - a3).toInt32)) &&& 1) = 0 then (fM_zerosAhead_2 n a0 a1 (a3 + 1)) else (fM_zerosAhead_32 a3)))
def fM_zerosAhead (a0 : Int32) (a1 : Int64) : Int64 :=
  (fM_zerosAhead_2 65 a0 a1 0)
def fM_zerosBehind_27 (a3 : Int64) : Int64 :=
  a3
def fM_zerosBehind_2 : Nat → Int32 → Int64 → Int64 → Int64
  | 0, _, _, _ => 0
  | n + 1, a0, a1, a3 =>
    (if a0.toInt64 ≤ a3 then (fM_zerosBehind_27 a3) else (if ((bn_sar a1 a3.toInt32) &&& 1) = 0 then (fM_zerosBehind_2 n a0 a1 (a3 + 1)) else (fM_zerosBehind_27 a3)))
def fM_zerosBehind (a0 : Int32) (a1 : Int64) : Int64 :=
  (fM_zerosBehind_2 65 a0 a1 0)
def fM_ones_20 (K : Int32 → Int64 → Int64 → Int32 → Int64) (a0 : Int32) (a1 : Int64) (a3 : Int64) (a5 : Int32) : Int64 :=
  (K a0 a1 a3 (a5 + 1))
def fM_ones_5 : Nat → Int32 → Int64 → Int64 → Int32 → Int64
  | 0, _, _, _, _ => 0
  | n + 1, a0, a1, a3, a5 =>
    (if a0 ≤ a5 then a3 else (fM_ones_20 (fM_ones_5 n) a0 a1 (a3 + ((bn_sar a1 a5) &&& 1)) a5))
def fM_ones (a0 : Int32) (a1 : Int64) : Int64 :=
  (fM_ones_5 65 a0 a1 0 0)
def fM_divide_100 (K : Int64 → Int64 → Int32 → Int64 → Int64 → Int32 → Int64) (a0 : Int64) (a2 : Int64) (a4 : Int32) (a5 : Int64) (a7 : Int64) (a9 : Int32) : Int64 :=
  (K a0 a2 a4 a5 a7 (a9 + (-1)))
def fM_divide_97 (K : Int64 → Int64 → Int32 → Int64 → Int64 → Int32 → Int64) (a0 : Int64) (a2 : Int64) (a4 : Int32) (a7 : Int64) (a9 : Int32) (s0 : Int64) (s1 : Int64) : Int64 :=
  (fM_divide_100 K a0 a2 a4 (s1 ||| s0) a7 a9)
def fM_divide_79 (K : Int64 → Int64 → Int32 → Int64 → Int64 → Int32 → Int64) (a0 : Int64) (a2 : Int64) (a4 : Int32) (a5 : Int64) (a9 : Int32) (a11 : Int32) (s0 : Int64) : Int64 :=
  (if a11 = 0 then (fM_divide_97 K a0 a2 a4 s0 a9 0 (2 * a5)) else (fM_divide_97 K a0 a2 a4 s0 a9 1 (2 * a5)))
def fM_divide_63 (K : Int64 → Int64 → Int32 → Int64 → Int64 → Int32 → Int64) (a0 : Int64) (a2 : Int64) (a4 : Int32) (a5 : Int64) (a7 : Int64) (a9 : Int32) (s0 : Int32) : Int64 :=
  (if s0 = 0 then (fM_divide_79 K a0 a2 a4 a5 a9 s0 a7) else (fM_divide_79 K a0 a2 a4 a5 a9 s0 (a7 - a2)))
def fM_divide_58 (K : Int64 → Int64 → Int32 → Int64 → Int64 → Int32 → Int64) (a0 : Int64) (a2 : Int64) (a4 : Int32) (a5 : Int64) (a7 : Int64) (a9 : Int32) : Int64 :=
  (fM_divide_63 K a0 a2 a4 a5 a7 a9 1)
def fM_divide_44 (K : Int64 → Int64 → Int32 → Int64 → Int64 → Int32 → Int64) (a0 : Int64) (a2 : Int64) (a4 : Int32) (a5 : Int64) (a7 : Int64) (a9 : Int32) (a10 : Int32) : Int64 :=
  (if a10 = 0 then (if (fM_isBelow a7 a2) = 0 then (fM_divide_58 K a0 a2 a4 a5 a7 a9) else (fM_divide_63 K a0 a2 a4 a5 a7 a9 0)) else (fM_divide_58 K a0 a2 a4 a5 a7 a9))
def fM_divide_27 (K : Int64 → Int64 → Int32 → Int64 → Int64 → Int32 → Int64) (a0 : Int64) (a2 : Int64) (a4 : Int32) (a5 : Int64) (a7 : Int64) (a9 : Int32) (s0 : Int32) : Int64 :=
  (fM_divide_44 K a0 a2 a4 a5 ((2 * a7) ||| ((bn_sar a0 a9) &&& 1)) a9 s0)
def fM_divide_10 : Nat → Int64 → Int64 → Int32 → Int64 → Int64 → Int32 → Int64
  | 0, _, _, _, _, _, _ => 0
  | n + 1, a0, a2, a4, a5, a7, a9 =>
    (if a9 < 0 then (if a4 = 0 then a5 else a7) else (if 0 ≤ a7 then (fM_divide_27 (fM_divide_10 n) a0 a2 a4 a5 a7 a9 0) else (fM_divide_27 (fM_divide_10 n) a0 a2 a4 a5 a7 a9 1)))
def fM_divide (a0 : Int64) (a2 : Int64) (a4 : Int32) : Int64 :=
  (fM_divide_10 65 a0 a2 a4 0 0 63)
def fM_turned_41 (a5 : Int64) (a7 : Int64) : Int64 :=
  (a5 ||| a7)
def fM_turned_39 (a5 : Int64) (s0 : Int64) : Int64 :=
  (fM_turned_41 a5 s0)
def fM_turned_6 (a0 : Int32) (a1 : Int64) (a3 : Int64) (a5 : Int64) : Int64 :=
  (if a3 = 0 then (fM_turned_39 a5 0) else (if a0 = 32 then (fM_turned_39 a5 (bn_sar a1 ((a0.toInt64 - a3).toInt32))) else (fM_turned_39 a5 (bn_shr a1 ((a0.toInt64 - a3).toInt32)))))
def fM_turned (a0 : Int32) (a1 : Int64) (a3 : Int64) : Int64 :=
  (fM_turned_6 a0 a1 a3 (bn_shl a1 a3.toInt32))
def fM_precision (a0 : Int32) : Int32 :=
  (if a0 = 2 then 24 else 53)
def fM_bias (a0 : Int32) : Int32 :=
  (if a0 = 2 then 127 else 1023)
def fM_signOf (a0 : Int32) : Int64 :=
  (bn_shl 1 ((fM_width a0) - 1))
def fM_isMinus (a0 : Int32) (a1 : Int64) : Int32 :=
  (if (a1 &&& (fM_signOf a0)) = 0 then 0 else 1)
def fM_rest (a0 : Int32) (a1 : Int64) : Int64 :=
  (a1 &&& ((fM_signOf a0) - 1))
def fM_exponent (a0 : Int32) (a1 : Int64) : Int32 :=
  ((bn_sar (fM_rest a0 a1) ((fM_precision a0) - 1)).toInt32)
def fM_fraction (a0 : Int32) (a1 : Int64) : Int64 :=
  (a1 &&& ((bn_shl 1 ((fM_precision a0) - 1)) - 1))
def fM_last (a0 : Int32) : Int32 :=
  ((2 * (fM_bias a0)) + 1)
def fM_isNone_26  : Int32 :=
  0
def fM_isNone (a0 : Int32) (a1 : Int64) : Int32 :=
  (if (fM_exponent a0 a1) = (fM_last a0) then (if (fM_fraction a0 a1) = 0 then (fM_isNone_26) else 1) else (fM_isNone_26))
def fM_isInfinite_26  : Int32 :=
  0
def fM_isInfinite (a0 : Int32) (a1 : Int64) : Int32 :=
  (if (fM_exponent a0 a1) = (fM_last a0) then (if (fM_fraction a0 a1) = 0 then 1 else (fM_isInfinite_26)) else (fM_isInfinite_26))
def fM_isZero (a0 : Int32) (a1 : Int64) : Int32 :=
  (if (fM_rest a0 a1) = 0 then 1 else 0)
def fM_significand_25 (s0 : Int64) (s1 : Int64) : Int64 :=
  (s1 + s0)
def fM_significand (a0 : Int32) (a1 : Int64) : Int64 :=
  (if (fM_exponent a0 a1) = 0 then (fM_significand_25 0 (fM_fraction a0 a1)) else (fM_significand_25 (bn_shl 1 ((fM_precision a0) - 1)) (fM_fraction a0 a1)))
def fM_least (a0 : Int32) : Int32 :=
  ((2 - (fM_bias a0)) - (fM_precision a0))
def fM_scaleOf_23 (s0 : Int32) (s1 : Int32) : Int32 :=
  (s1 + s0)
def fM_scaleOf (a0 : Int32) (a1 : Int64) : Int32 :=
  (if (fM_exponent a0 a1) = 0 then (fM_scaleOf_23 0 (fM_least a0)) else (fM_scaleOf_23 ((fM_exponent a0 a1) - 1) (fM_least a0)))
def fM_theNone (a0 : Int32) : Int64 :=
  (if a0 = 2 then 2143289344 else 9221120237041090560)
def fM_infinite (a0 : Int32) : Int64 :=
  (bn_shl ((fM_last a0).toInt64) ((fM_precision a0) - 1))
def fM_signed (a0 : Int32) (a1 : Int32) (a2 : Int64) : Int64 :=
  (if a1 = 0 then a2 else (a2 ||| (fM_signOf a0)))
def fM_digit_41 (s0 : Int64) : Int32 :=
  (s0.toInt32 &&& 65535)
def fM_digit_22  : Int32 :=
  0
def fM_digit_8 (a0 : Int64) (a4 : Int32) : Int32 :=
  (if 63 < a4 then (fM_digit_22) else (if (-15) ≤ a4 then (if a4 < 0 then (fM_digit_41 (bn_shl a0 (-a4))) else (fM_digit_41 (bn_shr a0 a4))) else (fM_digit_22)))
def fM_digit (a0 : Int64) (a2 : Int32) (a3 : Int32) : Int32 :=
  (fM_digit_8 a0 ((16 * a3) - a2))
def fM_highest_3 : Nat → Int64 → Int32 → Int32
  | 0, _, _ => 0
  | n + 1, a0, a2 =>
    (if ((bn_shr a0 a2) &&& 1) = 0 then (fM_highest_3 n a0 (a2 + (-1))) else a2)
def fM_highest (a0 : Int64) : Int32 :=
  (fM_highest_3 64 a0 63)
def fM_isLess_14 (a0 : Int32) (a1 : Int64) (a3 : Int64) (a5 : Int32) (a6 : Int32) : Int32 :=
  (if a5 = a6 then (if a5 = 0 then (if (fM_rest a0 a3) ≤ (fM_rest a0 a1) then 0 else 1) else (if (fM_rest a0 a1) ≤ (fM_rest a0 a3) then 0 else 1)) else a5)
def fM_isLess_7 (a0 : Int32) (a1 : Int64) (a3 : Int64) (a5 : Int32) : Int32 :=
  (fM_isLess_14 a0 a1 a3 a5 (fM_isMinus a0 a3))
def fM_isLess (a0 : Int32) (a1 : Int64) (a3 : Int64) : Int32 :=
  (fM_isLess_7 a0 a1 a3 (fM_isMinus a0 a1))
def fM_compareFloating_194 (s0 : Int32) : Int64 :=
  (fM_truth s0)
def fM_compareFloating_180 (s0 : Int32) : Int64 :=
  (fM_truth s0)
def fM_compareFloating_175  : Int64 :=
  (fM_compareFloating_180 1)
def fM_compareFloating_161 (s0 : Int32) : Int64 :=
  (fM_truth s0)
def fM_compareFloating_160  : Int64 :=
  (fM_compareFloating_161 0)
def fM_compareFloating_136 (s0 : Int32) : Int64 :=
  (fM_truth s0)
def fM_compareFloating_82 (a0 : Int32) (a6 : Int32) (s0 : Int32) : Int64 :=
  (if a0 = 0 then (fM_truth a6) else (if a0 = 1 then (if a6 = 0 then (fM_compareFloating_136 1) else (fM_compareFloating_136 0)) else (if a0 = 2 then (fM_truth s0) else (if a0 = 3 then (if a6 = 0 then (if s0 = 0 then (fM_compareFloating_161 1) else (fM_compareFloating_160)) else (fM_compareFloating_160)) else (if a0 = 4 then (if a6 = 0 then (if s0 = 0 then (fM_compareFloating_180 0) else (fM_compareFloating_175)) else (fM_compareFloating_175)) else (if s0 = 0 then (fM_compareFloating_194 1) else (fM_compareFloating_194 0)))))))
def fM_compareFloating_81 (a0 : Int32) (a6 : Int32) : Int64 :=
  (fM_compareFloating_82 a0 a6 0)
def fM_compareFloating_60 (a0 : Int32) (a1 : Int32) (a2 : Int64) (a4 : Int64) (s0 : Int32) : Int64 :=
  (if s0 = 0 then (if (fM_isLess a1 a2 a4) = 0 then (fM_compareFloating_81 a0 s0) else (fM_compareFloating_82 a0 s0 1)) else (fM_compareFloating_81 a0 s0))
def fM_compareFloating_59 (a0 : Int32) (a1 : Int32) (a2 : Int64) (a4 : Int64) : Int64 :=
  (fM_compareFloating_60 a0 a1 a2 a4 0)
def fM_compareFloating_55 (a0 : Int32) (a1 : Int32) (a2 : Int64) (a4 : Int64) : Int64 :=
  (fM_compareFloating_60 a0 a1 a2 a4 1)
def fM_compareFloating_27 (s0 : Int32) : Int64 :=
  (fM_truth s0)
def fM_compareFloating_17 (a0 : Int32) : Int64 :=
  (if a0 = 1 then (fM_compareFloating_27 1) else (fM_compareFloating_27 0))
def fM_compareFloating (a0 : Int32) (a1 : Int32) (a2 : Int64) (a4 : Int64) : Int64 :=
  (if (fM_isNone a1 a2) = 0 then (if (fM_isNone a1 a4) = 0 then (if a2 = a4 then (fM_compareFloating_55 a0 a1 a2 a4) else (if (fM_isZero a1 a2) = 0 then (fM_compareFloating_59 a0 a1 a2 a4) else (if (fM_isZero a1 a4) = 0 then (fM_compareFloating_59 a0 a1 a2 a4) else (fM_compareFloating_55 a0 a1 a2 a4)))) else (fM_compareFloating_17 a0)) else (fM_compareFloating_17 a0))
theorem zM_isBelow (a0 : Int64) (a2 : Int64) : fM_isBelow a0 a2 = 0 ∨ fM_isBelow a0 a2 = 1 := by
  unfold fM_isBelow
  repeat' (with_reducible refine pw_zi ?_ ?_)
  all_goals first | exact Or.inl rfl | exact Or.inr rfl | assumption

theorem zM_isMinus (a0 : Int32) (a1 : Int64) : fM_isMinus a0 a1 = 0 ∨ fM_isMinus a0 a1 = 1 := by
  unfold fM_isMinus
  repeat' (with_reducible refine pw_zi ?_ ?_)
  all_goals first | exact Or.inl rfl | exact Or.inr rfl | assumption

theorem zM_isNone_26  : fM_isNone_26 = 0 ∨ fM_isNone_26 = 1 := by
  unfold fM_isNone_26
  repeat' (with_reducible refine pw_zi ?_ ?_)
  all_goals first | exact Or.inl rfl | exact Or.inr rfl | assumption

theorem zM_isNone (a0 : Int32) (a1 : Int64) : fM_isNone a0 a1 = 0 ∨ fM_isNone a0 a1 = 1 := by
  unfold fM_isNone
  repeat' (with_reducible refine pw_zi ?_ ?_)
  all_goals first | exact Or.inl rfl | exact Or.inr rfl | assumption | (apply zM_isNone_26 <;> first | exact Or.inl rfl | exact Or.inr rfl | assumption)

theorem zM_isInfinite_26  : fM_isInfinite_26 = 0 ∨ fM_isInfinite_26 = 1 := by
  unfold fM_isInfinite_26
  repeat' (with_reducible refine pw_zi ?_ ?_)
  all_goals first | exact Or.inl rfl | exact Or.inr rfl | assumption

theorem zM_isInfinite (a0 : Int32) (a1 : Int64) : fM_isInfinite a0 a1 = 0 ∨ fM_isInfinite a0 a1 = 1 := by
  unfold fM_isInfinite
  repeat' (with_reducible refine pw_zi ?_ ?_)
  all_goals first | exact Or.inl rfl | exact Or.inr rfl | assumption | (apply zM_isInfinite_26 <;> first | exact Or.inl rfl | exact Or.inr rfl | assumption)

theorem zM_isZero (a0 : Int32) (a1 : Int64) : fM_isZero a0 a1 = 0 ∨ fM_isZero a0 a1 = 1 := by
  unfold fM_isZero
  repeat' (with_reducible refine pw_zi ?_ ?_)
  all_goals first | exact Or.inl rfl | exact Or.inr rfl | assumption

theorem zM_isLess_14 (a0 : Int32) (a1 : Int64) (a3 : Int64) (a5 : Int32) (a6 : Int32) (hz5 : a5 = 0 ∨ a5 = 1) (hz6 : a6 = 0 ∨ a6 = 1) : fM_isLess_14 a0 a1 a3 a5 a6 = 0 ∨ fM_isLess_14 a0 a1 a3 a5 a6 = 1 := by
  unfold fM_isLess_14
  repeat' (with_reducible refine pw_zi ?_ ?_)
  all_goals first | exact Or.inl rfl | exact Or.inr rfl | assumption | (apply zM_isMinus <;> first | exact Or.inl rfl | exact Or.inr rfl | assumption)

theorem zM_isLess_7 (a0 : Int32) (a1 : Int64) (a3 : Int64) (a5 : Int32) (hz5 : a5 = 0 ∨ a5 = 1) : fM_isLess_7 a0 a1 a3 a5 = 0 ∨ fM_isLess_7 a0 a1 a3 a5 = 1 := by
  unfold fM_isLess_7
  repeat' (with_reducible refine pw_zi ?_ ?_)
  all_goals first | exact Or.inl rfl | exact Or.inr rfl | assumption | (apply zM_isLess_14 <;> first | exact Or.inl rfl | exact Or.inr rfl | assumption | apply zM_isMinus) | (apply zM_isMinus <;> first | exact Or.inl rfl | exact Or.inr rfl | assumption)

theorem zM_isLess (a0 : Int32) (a1 : Int64) (a3 : Int64) : fM_isLess a0 a1 a3 = 0 ∨ fM_isLess a0 a1 a3 = 1 := by
  unfold fM_isLess
  repeat' (with_reducible refine pw_zi ?_ ?_)
  all_goals first | exact Or.inl rfl | exact Or.inr rfl | assumption | (apply zM_isLess_7 <;> first | exact Or.inl rfl | exact Or.inr rfl | assumption | apply zM_isMinus) | (apply zM_isLess_14 <;> first | exact Or.inl rfl | exact Or.inr rfl | assumption | apply zM_isMinus) | (apply zM_isMinus <;> first | exact Or.inl rfl | exact Or.inr rfl | assumption)

