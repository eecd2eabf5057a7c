abbrev cM_shape : ByteArray := prog_8_method_3_code
def yM_shape : MethodName := ⟨"BitNumbersModel", "shape", "(III)I"⟩
def wsM_shape : List Cond := .code yM_shape cM_shape 3 (some .int) :: aw
abbrev cM_taken : ByteArray := prog_8_method_5_code
def yM_taken : MethodName := ⟨"BitNumbersModel", "taken", "(I)I"⟩
def wsM_taken : List Cond := .code yM_taken cM_taken 1 (some .int) :: aw
abbrev cM_given : ByteArray := prog_8_method_6_code
def yM_given : MethodName := ⟨"BitNumbersModel", "given", "(I)I"⟩
def wsM_given : List Cond := .code yM_given cM_given 1 (some .int) :: aw
abbrev cM_operatorShape : ByteArray := prog_8_method_4_code
def yM_operatorShape : MethodName := ⟨"BitNumbersModel", "operatorShape", "(I)I"⟩
def wsM_operatorShape : List Cond := .code yM_operatorShape cM_operatorShape 1 (some .int) :: aw
abbrev cM_cut : ByteArray := prog_8_method_7_code
def yM_cut : MethodName := ⟨"BitNumbersModel", "cut", "(IJ)J"⟩
def wsM_cut : List Cond := .code yM_cut cM_cut 3 (some .long) :: aw
abbrev cM_withSign : ByteArray := prog_8_method_8_code
def yM_withSign : MethodName := ⟨"BitNumbersModel", "withSign", "(IJ)J"⟩
def wsM_withSign : List Cond := .code yM_withSign cM_withSign 3 (some .long) :: aw
abbrev cM_width : ByteArray := prog_8_method_9_code
def yM_width : MethodName := ⟨"BitNumbersModel", "width", "(I)I"⟩
def wsM_width : List Cond := .code yM_width cM_width 1 (some .int) :: aw
abbrev cM_isBelow : ByteArray := prog_8_method_10_code
def yM_isBelow : MethodName := ⟨"BitNumbersModel", "isBelow", "(JJ)Z"⟩
def wsM_isBelow : List Cond := .code yM_isBelow cM_isBelow 4 (some .boolean) :: aw
abbrev cM_truth : ByteArray := prog_8_method_11_code
def yM_truth : MethodName := ⟨"BitNumbersModel", "truth", "(Z)J"⟩
def wsM_truth : List Cond := .code yM_truth cM_truth 1 (some .long) :: aw
abbrev cM_compareWhole : ByteArray := prog_8_method_12_code
def yM_compareWhole : MethodName := ⟨"BitNumbersModel", "compareWhole", "(IIJJ)J"⟩
def wsM_compareWhole : List Cond := .code yM_compareWhole cM_compareWhole 10 (some .long) :: aw
abbrev cM_zerosAhead : ByteArray := prog_8_method_13_code
def yM_zerosAhead : MethodName := ⟨"BitNumbersModel", "zerosAhead", "(IJ)J"⟩
def wsM_zerosAhead : List Cond := .code yM_zerosAhead cM_zerosAhead 5 (some .long) :: aw
abbrev cM_zerosBehind : ByteArray := prog_8_method_14_code
def yM_zerosBehind : MethodName := ⟨"BitNumbersModel", "zerosBehind", "(IJ)J"⟩
def wsM_zerosBehind : List Cond := .code yM_zerosBehind cM_zerosBehind 5 (some .long) :: aw
abbrev cM_ones : ByteArray := prog_8_method_15_code
def yM_ones : MethodName := ⟨"BitNumbersModel", "ones", "(IJ)J"⟩
def wsM_ones : List Cond := .code yM_ones cM_ones 6 (some .long) :: aw
abbrev cM_divide : ByteArray := prog_8_method_16_code
def yM_divide : MethodName := ⟨"BitNumbersModel", "divide", "(JJZ)J"⟩
def wsM_divide : List Cond := .code yM_divide cM_divide 12 (some .long) :: aw
abbrev cM_turned : ByteArray := prog_8_method_18_code
def yM_turned : MethodName := ⟨"BitNumbersModel", "turned", "(IJJ)J"⟩
def wsM_turned : List Cond := .code yM_turned cM_turned 9 (some .long) :: aw
abbrev cM_precision : ByteArray := prog_8_method_20_code
def yM_precision : MethodName := ⟨"BitNumbersModel", "precision", "(I)I"⟩
def wsM_precision : List Cond := .code yM_precision cM_precision 1 (some .int) :: aw
abbrev cM_bias : ByteArray := prog_8_method_21_code
def yM_bias : MethodName := ⟨"BitNumbersModel", "bias", "(I)I"⟩
def wsM_bias : List Cond := .code yM_bias cM_bias 1 (some .int) :: aw
abbrev cM_signOf : ByteArray := prog_8_method_22_code
def yM_signOf : MethodName := ⟨"BitNumbersModel", "signOf", "(I)J"⟩
def wsM_signOf : List Cond := .code yM_signOf cM_signOf 1 (some .long) :: aw
abbrev cM_isMinus : ByteArray := prog_8_method_23_code
def yM_isMinus : MethodName := ⟨"BitNumbersModel", "isMinus", "(IJ)Z"⟩
def wsM_isMinus : List Cond := .code yM_isMinus cM_isMinus 3 (some .boolean) :: aw
abbrev cM_rest : ByteArray := prog_8_method_24_code
def yM_rest : MethodName := ⟨"BitNumbersModel", "rest", "(IJ)J"⟩
def wsM_rest : List Cond := .code yM_rest cM_rest 3 (some .long) :: aw
abbrev cM_exponent : ByteArray := prog_8_method_25_code
def yM_exponent : MethodName := ⟨"BitNumbersModel", "exponent", "(IJ)I"⟩
def wsM_exponent : List Cond := .code yM_exponent cM_exponent 3 (some .int) :: aw
abbrev cM_fraction : ByteArray := prog_8_method_26_code
def yM_fraction : MethodName := ⟨"BitNumbersModel", "fraction", "(IJ)J"⟩
def wsM_fraction : List Cond := .code yM_fraction cM_fraction 3 (some .long) :: aw
abbrev cM_last : ByteArray := prog_8_method_27_code
def yM_last : MethodName := ⟨"BitNumbersModel", "last", "(I)I"⟩
def wsM_last : List Cond := .code yM_last cM_last 1 (some .int) :: aw
abbrev cM_isNone : ByteArray := prog_8_method_28_code
def yM_isNone : MethodName := ⟨"BitNumbersModel", "isNone", "(IJ)Z"⟩
def wsM_isNone : List Cond := .code yM_isNone cM_isNone 3 (some .boolean) :: aw
abbrev cM_isInfinite : ByteArray := prog_8_method_29_code
def yM_isInfinite : MethodName := ⟨"BitNumbersModel", "isInfinite", "(IJ)Z"⟩
def wsM_isInfinite : List Cond := .code yM_isInfinite cM_isInfinite 3 (some .boolean) :: aw
abbrev cM_isZero : ByteArray := prog_8_method_30_code
def yM_isZero : MethodName := ⟨"BitNumbersModel", "isZero", "(IJ)Z"⟩
def wsM_isZero : List Cond := .code yM_isZero cM_isZero 3 (some .boolean) :: aw
abbrev cM_significand : ByteArray := prog_8_method_31_code
def yM_significand : MethodName := ⟨"BitNumbersModel", "significand", "(IJ)J"⟩
def wsM_significand : List Cond := .code yM_significand cM_significand 3 (some .long) :: aw
abbrev cM_least : ByteArray := prog_8_method_32_code
def yM_least : MethodName := ⟨"BitNumbersModel", "least", "(I)I"⟩
def wsM_least : List Cond := .code yM_least cM_least 1 (some .int) :: aw
abbrev cM_scaleOf : ByteArray := prog_8_method_33_code
def yM_scaleOf : MethodName := ⟨"BitNumbersModel", "scaleOf", "(IJ)I"⟩
def wsM_scaleOf : List Cond := .code yM_scaleOf cM_scaleOf 3 (some .int) :: aw
abbrev cM_theNone : ByteArray := prog_8_method_34_code
def yM_theNone : MethodName := ⟨"BitNumbersModel", "theNone", "(I)J"⟩
def wsM_theNone : List Cond := .code yM_theNone cM_theNone 1 (some .long) :: aw
abbrev cM_infinite : ByteArray := prog_8_method_35_code
def yM_infinite : MethodName := ⟨"BitNumbersModel", "infinite", "(I)J"⟩
def wsM_infinite : List Cond := .code yM_infinite cM_infinite 1 (some .long) :: aw
abbrev cM_signed : ByteArray := prog_8_method_36_code
def yM_signed : MethodName := ⟨"BitNumbersModel", "signed", "(IZJ)J"⟩
def wsM_signed : List Cond := .code yM_signed cM_signed 4 (some .long) :: aw
abbrev cM_digit : ByteArray := prog_8_method_38_code
def yM_digit : MethodName := ⟨"BitNumbersModel", "digit", "(JII)I"⟩
def wsM_digit : List Cond := .code yM_digit cM_digit 5 (some .int) :: aw
abbrev cM_highest : ByteArray := prog_8_method_44_code
def yM_highest : MethodName := ⟨"BitNumbersModel", "highest", "(J)I"⟩
def wsM_highest : List Cond := .code yM_highest cM_highest 3 (some .int) :: aw
abbrev cM_isLess : ByteArray := prog_8_method_58_code
def yM_isLess : MethodName := ⟨"BitNumbersModel", "isLess", "(IJJ)Z"⟩
def wsM_isLess : List Cond := .code yM_isLess cM_isLess 7 (some .boolean) :: aw
abbrev cM_compareFloating : ByteArray := prog_8_method_60_code
def yM_compareFloating : MethodName := ⟨"BitNumbersModel", "compareFloating", "(IIJJ)J"⟩
def wsM_compareFloating : List Cond := .code yM_compareFloating cM_compareFloating 8 (some .long) :: aw
abbrev rmM_shape : Room := { frames := 0, cells := 0, slots := 0, locals := 0 }
abbrev rmM_taken : Room := { frames := 0, cells := 0, slots := 0, locals := 0 }
abbrev rmM_given : Room := { frames := 0, cells := 0, slots := 0, locals := 0 }
abbrev rmM_operatorShape : Room := { frames := 1, cells := 0, slots := 0, locals := 22 }
abbrev rmM_cut : Room := { frames := 0, cells := 0, slots := 0, locals := 0 }
abbrev rmM_withSign : Room := { frames := 0, cells := 0, slots := 0, locals := 0 }
abbrev rmM_width : Room := { frames := 0, cells := 0, slots := 0, locals := 0 }
abbrev rmM_isBelow : Room := { frames := 0, cells := 0, slots := 0, locals := 0 }
abbrev rmM_truth : Room := { frames := 0, cells := 0, slots := 0, locals := 0 }
abbrev rmM_compareWhole : Room := { frames := 1, cells := 0, slots := 0, locals := 23 }
abbrev rmM_zerosAhead : Room := { frames := 0, cells := 0, slots := 0, locals := 0 }
abbrev rmM_zerosBehind : Room := { frames := 0, cells := 0, slots := 0, locals := 0 }
abbrev rmM_ones : Room := { frames := 0, cells := 0, slots := 0, locals := 0 }
abbrev rmM_divide : Room := { frames := 1, cells := 0, slots := 0, locals := 23 }
abbrev rmM_turned : Room := { frames := 0, cells := 0, slots := 0, locals := 0 }
abbrev rmM_precision : Room := { frames := 0, cells := 0, slots := 0, locals := 0 }
abbrev rmM_bias : Room := { frames := 0, cells := 0, slots := 0, locals := 0 }
abbrev rmM_signOf : Room := { frames := 1, cells := 0, slots := 0, locals := 20 }
abbrev rmM_isMinus : Room := { frames := 2, cells := 0, slots := 0, locals := 40 }
abbrev rmM_rest : Room := { frames := 2, cells := 0, slots := 0, locals := 40 }
abbrev rmM_exponent : Room := { frames := 3, cells := 0, slots := 0, locals := 62 }
abbrev rmM_fraction : Room := { frames := 1, cells := 0, slots := 0, locals := 20 }
abbrev rmM_last : Room := { frames := 1, cells := 0, slots := 0, locals := 20 }
abbrev rmM_isNone : Room := { frames := 4, cells := 0, slots := 0, locals := 84 }
abbrev rmM_isInfinite : Room := { frames := 4, cells := 0, slots := 0, locals := 84 }
abbrev rmM_isZero : Room := { frames := 3, cells := 0, slots := 0, locals := 62 }
abbrev rmM_significand : Room := { frames := 4, cells := 0, slots := 0, locals := 84 }
abbrev rmM_least : Room := { frames := 1, cells := 0, slots := 0, locals := 20 }
abbrev rmM_scaleOf : Room := { frames := 4, cells := 0, slots := 0, locals := 84 }
abbrev rmM_theNone : Room := { frames := 0, cells := 0, slots := 0, locals := 0 }
abbrev rmM_infinite : Room := { frames := 2, cells := 0, slots := 0, locals := 40 }
abbrev rmM_signed : Room := { frames := 2, cells := 0, slots := 0, locals := 40 }
abbrev rmM_digit : Room := { frames := 0, cells := 0, slots := 0, locals := 0 }
abbrev rmM_highest : Room := { frames := 0, cells := 0, slots := 0, locals := 0 }
abbrev rmM_isLess : Room := { frames := 3, cells := 0, slots := 0, locals := 62 }
abbrev rmM_compareFloating : Room := { frames := 5, cells := 0, slots := 0, locals := 106 }
def pw_LZ (z : Int64) (n : Nat) : Prop := ∃ k : Nat, z = Int64.ofNat k ∧ k ≤ 64 ∧ k + n = 65
def pw_LY (z : Int64) (n : Nat) : Prop := ∃ k : Nat, z = Int64.ofNat k ∧ k ≤ 63 ∧ k + n = 64
theorem pw_LZ_zero {z : Int64} : ¬ pw_LZ z 0 := fun ⟨k, _, h1, h2⟩ => by omega
theorem pw_LZ_init : pw_LZ 0 65 := ⟨0, by decide, by decide, by decide⟩
theorem pw_l_ofNat {k : Nat} (h : k < 2^62) : (Int64.ofNat k).toInt = k := Int64.toInt_ofNat_of_lt (by omega)
theorem pw_LY_next {z : Int64} {n : Nat} (h : pw_LY z n) : pw_LZ (z + 1) n := by
  obtain ⟨k, h1, h2, h3⟩ := h
  refine ⟨k + 1, ?_, by omega, by omega⟩
  rw [h1]
  apply Int64.toInt_inj.mp
  rw [Int64.toInt_add, pw_l_ofNat (by omega), pw_l_ofNat (by omega), show (1 : Int64).toInt = 1 from rfl, Int.bmod_eq_of_le] <;> omega
theorem pw_LZ_body {a : Int32} {z : Int64} {n : Nat} (ha : a ≤ 64) (h : pw_LZ z (n + 1)) (hi : ¬ a.toInt64 ≤ z) : pw_LY z n := by
  obtain ⟨k, h1, h2, h3⟩ := h
  refine ⟨k, h1, ?_, by omega⟩
  rw [h1, Int64.le_iff_toInt_le, pw_l_ofNat (by omega), Int32.toInt_toInt64] at hi
  rw [Int32.le_iff_toInt_le, show (64 : Int32).toInt = 64 from rfl] at ha
  omega
def pw_N (i : Int32) (n : Nat) : Prop := ∃ k : Nat, i = nI k ∧ k ≤ 64 ∧ k + n = 65
def pw_NB (i : Int32) (n : Nat) : Prop := ∃ k : Nat, i = nI k ∧ k ≤ 63 ∧ k + n = 64
theorem pw_N_zero {i : Int32} : ¬ pw_N i 0 := fun ⟨k, _, h1, h2⟩ => by omega
theorem pw_N_init : pw_N 0 65 := ⟨0, by decide, by decide, by decide⟩
theorem pw_NB_next {i : Int32} {n : Nat} (h : pw_NB i n) : pw_N (i + 1) n := by
  obtain ⟨k, h1, h2, h3⟩ := h
  exact ⟨k + 1, by rw [h1]; exact (nI_succ k).symm, by omega, by omega⟩
theorem pw_N_body {a i : Int32} {n : Nat} (ha : a ≤ 64) (h : pw_N i (n + 1)) (hi : ¬ a ≤ i) : pw_NB i n := by
  obtain ⟨k, h1, h2, h3⟩ := h
  refine ⟨k, h1, ?_, by omega⟩
  rw [h1, Int32.le_iff_toInt_le, nI_toInt (by omega)] at hi
  rw [Int32.le_iff_toInt_le, show (64 : Int32).toInt = 64 from rfl] at ha
  omega
def pw_V (i : Int32) (n N : Nat) : Prop := 1 ≤ n ∧ i.toInt = (n : Int) - 2 ∧ n ≤ N
def pw_VB (i : Int32) (n N : Nat) : Prop := 1 ≤ n ∧ i.toInt = (n : Int) - 1 ∧ n + 1 ≤ N
theorem pw_V_zero {i : Int32} {N : Nat} : ¬ pw_V i 0 N := fun h => by have := h.1; omega
theorem pw_VB_next {i : Int32} {n N : Nat} (h : pw_VB i n N) : pw_V (i + (-1)) n N := by
  obtain ⟨h1, h2, h3⟩ := h
  refine ⟨h1, ?_, by omega⟩
  have := i.toInt_lt
  rw [bn_i_add] <;> rw [show (-1 : Int32).toInt = -1 from rfl] <;> omega
theorem pw_V_body {i : Int32} {n N : Nat} (h : pw_V i (n + 1) N) (hi : ¬ i < 0) : pw_VB i n N := by
  obtain ⟨h1, h2, h3⟩ := h
  rw [Int32.lt_iff_toInt_lt, show (0 : Int32).toInt = 0 from rfl] at hi
  exact ⟨by omega, by omega, h3⟩
def pw_H (a : Int64) (i : Int32) (n : Nat) : Prop := 0 < bn_u a ∧ bn_u a < 2^n ∧ i.toInt = (n : Int) - 1 ∧ n ≤ 64
theorem pw_H_zero {a : Int64} {i : Int32} : ¬ pw_H a i 0 := fun h => by have h1 := h.1; have h2 := h.2.1; rw [Nat.pow_zero] at h2; omega
theorem pw_H_init {a : Int64} (h : a ≠ 0) : pw_H a 63 64 := ⟨by rcases Nat.eq_zero_or_pos (bn_u a) with q | q; exact absurd (bn_u_zero.mpr q) h; exact q, bn_u_lt a, rfl, by decide⟩
theorem pw_H_next {a : Int64} {i : Int32} {n : Nat} (h : pw_H a i (n + 1)) (hb : (bn_shr a i &&& 1) = 0) : pw_H a (i + (-1)) n := by
  obtain ⟨h1, h2, h3, h4⟩ := h
  have e : bn_u (bn_shr a i) = bn_u a / 2^n := bn_shr_u (by omega) (by omega)
  rw [bn_u_zero, bn_u_and, e, show bn_u 1 = 1 from rfl, Nat.and_one_is_mod] at hb
  have h5 : bn_u a / 2^n < 2 := by
    rw [Nat.div_lt_iff_lt_mul (Nat.two_pow_pos n)]
    rw [Nat.pow_succ] at h2; omega
  have h6 : bn_u a / 2^n = 0 := by omega
  have h7 : bn_u a < 2^n := by
    rcases Nat.div_eq_zero_iff.mp h6 with w | w
    · exact absurd w (Nat.ne_of_gt (Nat.two_pow_pos n))
    · exact w
  refine ⟨h1, h7, ?_, by omega⟩
  rw [bn_i_add] <;> rw [show (-1 : Int32).toInt = -1 from rfl] <;> omega
