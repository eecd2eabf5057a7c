theorem bn_flip (x : Int64) : (x ^^^ (-9223372036854775808)).toInt = (bn_u x : Int) - 2^63 := by
  have h := bn_u_lt x
  have e : bn_u (x ^^^ (-9223372036854775808)) = bn_u x ^^^ 2^63 := by rw [bn_u_xor]; rfl
  have e2 : bn_u x ^^^ 2^63 = (bn_u x + 2^63) % 2^64 := by
    rcases Nat.lt_or_ge (bn_u x) (2^63) with q | q
    · have h1 := Nat.two_pow_add_eq_or_of_lt (i := 63) q 1
      rw [Nat.mul_one] at h1
      rw [Nat.mod_eq_of_lt (by omega), Nat.add_comm, h1]
      apply Nat.eq_of_testBit_eq
      intro i
      rw [Nat.testBit_xor, Nat.testBit_or, Nat.testBit_two_pow]
      by_cases w : 63 = i
      · subst w; rw [Nat.testBit_lt_two_pow q]; rfl
      · simp [w]
    · obtain ⟨b, hb⟩ : ∃ b, bn_u x = 2^63 + b := ⟨bn_u x - 2^63, by omega⟩
      have hbl : b < 2^63 := by omega
      have h1 := Nat.two_pow_add_eq_or_of_lt (i := 63) hbl 1
      rw [Nat.mul_one] at h1
      rw [hb]
      have : (2^63 + b + 2^63) % 2^64 = b := by omega
      rw [this, h1]
      apply Nat.eq_of_testBit_eq
      intro i
      rw [Nat.testBit_xor, Nat.testBit_or, Nat.testBit_two_pow]
      by_cases w : 63 = i
      · subst w; rw [Nat.testBit_lt_two_pow hbl]; rfl
      · simp [w]
  rw [bn_s_u, e, e2]
  split <;> omega
theorem bn_cmp (x y : Int64) : fLong_compare x y = if x.toInt < y.toInt then -1 else if x.toInt = y.toInt then 0 else 1 := by
  unfold fLong_compare
  have h1 : (y ≤ x) ↔ y.toInt ≤ x.toInt := Int64.le_iff_toInt_le
  have h2 : (x = y) ↔ x.toInt = y.toInt := Int64.toInt_inj.symm
  simp only [h1, h2]
  by_cases a : x.toInt < y.toInt
  · rw [if_neg (by omega), if_pos a]
  · rw [if_pos (by omega), if_neg a]
theorem bn_order (x y : Int64) : fWhole_orderWithoutSign x y = if bn_u x < bn_u y then -1 else if bn_u x = bn_u y then 0 else 1 := by
  unfold fWhole_orderWithoutSign
  rw [bn_cmp, bn_flip, bn_flip]
  have h1 : ((bn_u x : Int) - 2^63 < (bn_u y : Int) - 2^63) ↔ bn_u x < bn_u y := by omega
  have h2 : ((bn_u x : Int) - 2^63 = (bn_u y : Int) - 2^63) ↔ bn_u x = bn_u y := by omega
  simp only [h1, h2]
theorem bn_order_ge (x y : Int64) : (0 ≤ fWhole_orderWithoutSign x y) ↔ bn_u y ≤ bn_u x := by
  rw [bn_order]
  by_cases a : bn_u x < bn_u y
  · rw [if_pos a]
    exact ⟨fun w => absurd w (by decide), fun w => by omega⟩
  · rw [if_neg a]
    split
    · exact ⟨fun _ => by omega, fun _ => by decide⟩
    · exact ⟨fun _ => by omega, fun _ => by decide⟩
theorem bn_order_gt (x y : Int64) : (0 < fWhole_orderWithoutSign x y) ↔ bn_u y < bn_u x := by
  rw [bn_order]
  by_cases a : bn_u x < bn_u y
  · rw [if_pos a]
    exact ⟨fun w => absurd w (by decide), fun w => by omega⟩
  · rw [if_neg a]
    split
    · exact ⟨fun w => absurd w (by decide), fun _ => by omega⟩
    · exact ⟨fun _ => by omega, fun _ => by decide⟩
theorem bn_div_u {x y : Int64} (hx : bn_u x < 2^63) (hy : bn_u y < 2^63) : bn_u (x / y) = bn_u x / bn_u y := by
  have hne : x ≠ Int64.minValue := by
    intro q; rw [q] at hx; revert hx; decide
  have h := Int64.toInt_div_of_ne_left x y hne
  rw [bn_s_pos hx, bn_s_pos hy] at h
  rw [show ((bn_u x : Int).tdiv (bn_u y : Int)) = ((bn_u x / bn_u y : Nat) : Int) from rfl] at h
  have h2 := bn_s_u (x / y)
  have h3 : bn_u x / bn_u y ≤ bn_u x := Nat.div_le_self _ _
  have h4 := bn_u_lt (x / y)
  generalize bn_u x / bn_u y = Q at *
  rw [h] at h2
  split at h2 <;> omega
theorem bn_quoU (x y : Int64) (hy : y ≠ 0) : bn_u (fWhole_quotientWithoutSign x y) = bn_u x / bn_u y := by
  have hx := bn_u_lt x
  have hyl := bn_u_lt y
  have hy0 : bn_u y ≠ 0 := fun q => hy (bn_u_zero.mpr q)
  have hpos : (0 < y) ↔ bn_u y < 2^63 := by
    rw [Int64.lt_iff_toInt_lt, bn_s_u y]
    show (0 : Int) < _ ↔ _
    split <;> omega
  unfold fWhole_quotientWithoutSign
  by_cases q : bn_u y < 2^63
  · rw [if_pos (hpos.mpr q)]
    unfold fWhole_quotientWithoutSign_31
    have z1 : (1 : Int32).toInt = (1 : Nat) := rfl
    have s1 : bn_u (bn_shr x 1) = bn_u x / 2 := by rw [bn_shr_u z1 (by decide)]
    have s2 : bn_u (bn_shr x 1 / y) = bn_u x / 2 / bn_u y := by rw [bn_div_u (by omega) q, s1]
    have hle : bn_u x / 2 / bn_u y ≤ bn_u x / 2 := Nat.div_le_self _ _
    have s3 : bn_u (bn_shr x 1 / y * 2) = bn_u x / 2 / bn_u y * 2 := by
      rw [bn_mul_u (by rw [s2]; show _ * 2 < _; omega), s2]; rfl
    generalize bn_shr x 1 / y * 2 = Q at *
    have h1 := Nat.div_add_mod (bn_u x / 2) (bn_u y)
    have h2 := Nat.mod_lt (bn_u x / 2) (Nat.pos_of_ne_zero hy0)
    generalize hA : bn_u x / 2 / bn_u y = A at *
    generalize hR : bn_u x / 2 % bn_u y = R at *
    have hYA : bn_u y * A ≤ bn_u x / 2 := by omega
    have s4 : bn_u (Q * y) = 2 * (bn_u y * A) := by
      have : A * 2 * bn_u y = 2 * (bn_u y * A) := by rw [Nat.mul_comm A 2, Nat.mul_assoc, Nat.mul_comm A]
      rw [bn_mul_u] <;> rw [s3, this]; omega
    have s5 : bn_u (x - Q * y) = bn_u x - 2 * (bn_u y * A) := by
      rw [bn_sub_u] <;> rw [s4]; omega
    have hres : bn_u x - 2 * (bn_u y * A) < 2 * bn_u y := by omega
    have hx2 : bn_u x = bn_u y * (2 * A) + (bn_u x - 2 * (bn_u y * A)) := by
      rw [Nat.mul_left_comm]; omega
    have hdiv : bn_u x / bn_u y = 2 * A + (bn_u x - 2 * (bn_u y * A)) / bn_u y := by
      conv => lhs; rw [hx2]
      rw [Nat.mul_add_div (Nat.pos_of_ne_zero hy0)]
    by_cases g : bn_u y ≤ bn_u x - 2 * (bn_u y * A)
    · rw [if_pos ((bn_order_ge _ _).mpr (by rw [s5]; exact g))]
      have : (bn_u x - 2 * (bn_u y * A)) / bn_u y = 1 := by
        apply Nat.div_eq_of_lt_le <;> omega
      rw [bn_add_u] <;> rw [s3, show bn_u 1 = 1 from rfl] <;> omega
    · rw [if_neg (fun w => g (by have := (bn_order_ge _ _).mp w; rw [s5] at this; exact this))]
      have : (bn_u x - 2 * (bn_u y * A)) / bn_u y = 0 := Nat.div_eq_of_lt (by omega)
      omega
  · rw [if_neg (fun w => q (hpos.mp w))]
    by_cases g : bn_u y ≤ bn_u x
    · rw [if_pos ((bn_order_ge _ _).mpr g)]
      show 1 = _
      symm; apply Nat.div_eq_of_lt_le <;> omega
    · rw [if_neg (fun w => g ((bn_order_ge _ _).mp w))]
      show 0 = _
      rw [Nat.div_eq_of_lt (by omega)]

def bn_tz (k : Nat) (x : Int64) : Nat := if 0 ≤ bn_S k x then bn_M k x * 2^(bn_S k x).toNat else bn_M k x / 2^(-bn_S k x).toNat
theorem bn_wholePart (m : Int64) (s : Int32) (hm : bn_u m < 2^53) (h : 0 ≤ s.toInt → bn_u m * 2^s.toInt.toNat < 2^64 ∧ s.toInt < 64) (hs : -2000 ≤ s.toInt) :
    bn_u (fConversions_wholePart m s) = if 0 ≤ s.toInt then bn_u m * 2^s.toInt.toNat else bn_u m / 2^(-s.toInt).toNat := by
  have z0 : (0 : Int32).toInt = 0 := rfl
  have z63 : (-63 : Int32).toInt = -63 := rfl
  unfold fConversions_wholePart
  by_cases q : s < 0
  · rw [if_pos q]
    rw [Int32.lt_iff_toInt_lt, z0] at q
    rw [if_neg (show ¬ 0 ≤ s.toInt by omega)]
    by_cases q2 : (-63 : Int32) ≤ s
    · rw [if_pos q2]
      rw [Int32.le_iff_toInt_le, z63] at q2
      exact bn_shr_u (by rw [bn_i_neg] <;> omega) (by omega)
    · rw [if_neg q2]
      rw [Int32.le_iff_toInt_le, z63] at q2
      have : 2^53 ≤ 2^(-s.toInt).toNat := Nat.pow_le_pow_right (by decide) (by omega)
      rw [Nat.div_eq_of_lt (by omega)]; rfl
  · rw [if_neg q]
    rw [Int32.lt_iff_toInt_lt, z0] at q
    have := h (by omega)
    rw [if_pos (show 0 ≤ s.toInt by omega)]
    exact bn_shl_u (by omega) (by omega) (by omega)
theorem bn_M_zero (k : Nat) (x : Int64) (h : bn_M k x = 0) : bn_S k x = bn_mn k := by
  have hp := Nat.two_pow_pos (bn_P k - 1)
  unfold bn_M at h
  split at h
  · next q => unfold bn_S; rw [q]; omega
  · omega
theorem bn_fits (k : Nat) (x lim : Int64) (hx : bn_ok k x) : fConversions_fits k x lim = (if bn_tz k x ≤ bn_u lim then 1 else 0) ∧ (bn_tz k x < 2^64 → bn_u (fConversions_wholePart (fFormat_significand k x) (fFormat_scale k x)) = bn_tz k x) := by
  have mx := bn_signif k x hx
  have sx := bn_scale k x hx
  have mxl := bn_M_lt53 k x
  have sx1 := bn_S_ge k x
  have sx2 := bn_S_le k x
  have hmn := bn_mn_le k
  have hz := bn_M_zero k x
  have hlen := bn_length (fFormat_significand k x)
  rw [mx] at hlen
  have hL : bn_len (bn_M k x) ≤ 53 := bn_len_le.mpr mxl
  have z64 : (64 : Int32).toInt = 64 := rfl
  have h64 : (64 - fWhole_length (fFormat_significand k x)).toInt = 64 - bn_len (bn_M k x) := by
    rw [bn_i_sub] <;> rw [hlen, bn_i_ofNat (by omega), z64]; omega
  have hlim := bn_u_lt lim
  have hfit : (fFormat_scale k x ≤ 64 - fWhole_length (fFormat_significand k x)) ↔ bn_S k x ≤ 64 - bn_len (bn_M k x) := by
    rw [Int32.le_iff_toInt_le, sx, h64]
  have hsm : 0 ≤ bn_S k x → bn_S k x ≤ 64 - bn_len (bn_M k x) → bn_M k x * 2^(bn_S k x).toNat < 2^64 ∧ bn_S k x < 64 := by
    intro h0 h1
    have hM : 0 < bn_M k x := by
      rcases Nat.eq_zero_or_pos (bn_M k x) with q | q
      · have := hz q; omega
      · exact q
    have := bn_len_mul hM (bn_S k x).toNat
    have := bn_len_pos hM
    exact ⟨bn_len_le.mp (by omega), by omega⟩
  have hbig : ¬ bn_S k x ≤ 64 - bn_len (bn_M k x) → 2^64 ≤ bn_tz k x := by
    intro h1
    have hM : 0 < bn_M k x := by
      rcases Nat.eq_zero_or_pos (bn_M k x) with q | q
      · have := hz q; omega
      · exact q
    have := bn_len_mul hM (bn_S k x).toNat
    unfold bn_tz
    rw [if_pos (by omega)]
    exact bn_lt_len.mp (by omega)
  have hwp : bn_S k x ≤ 64 - bn_len (bn_M k x) → bn_u (fConversions_wholePart (fFormat_significand k x) (fFormat_scale k x)) = bn_tz k x := by
    intro h1
    rw [bn_wholePart _ _ (by omega) (by rw [sx, mx]; exact fun h0 => hsm h0 h1) (by omega), sx, mx]; rfl
  refine ⟨?_, fun hlt => hwp ?_⟩
  · unfold fConversions_fits fConversions_fits_7 fConversions_fits_14
    by_cases q : bn_S k x ≤ 64 - bn_len (bn_M k x)
    · rw [if_pos (hfit.mpr q)]
      have ho := bn_order_gt (fConversions_wholePart (fFormat_significand k x) (fFormat_scale k x)) lim
      rw [hwp q] at ho
      simp only [ho]
      by_cases g : bn_tz k x ≤ bn_u lim
      · rw [if_neg (by omega), if_pos g]
      · rw [if_pos (by omega), if_neg g]
    · have := hbig q
      rw [if_neg (fun w => q (hfit.mp w)), if_neg (by omega)]
  · rcases Classical.em (bn_S k x ≤ 64 - bn_len (bn_M k x)) with q | q
    · exact q
    · have := hbig q; omega
def bn_wn (place : Int32) (neg : Int32) (m d : Nat) : Nat :=
  if place = 5 then bn_rne m d else if m % 2^d = 0 then m / 2^d
    else if (place = 2 ∧ neg = 0) ∨ (place = 3 ∧ neg ≠ 0) then m / 2^d + 1 else m / 2^d
theorem bn_whole (place : Int32) (k : Nat) (x : Int64) (hx : bn_ok k x) : fFloating_wholeNumber place k x =
    if 0 ≤ bn_S k x then x else (if bn_wn place (fFormat_isNegative k x) (bn_M k x) (-bn_S k x).toNat = 0 then fFormat_signed k (fFormat_isNegative k x) 0
      else bn_out k (fFormat_isNegative k x) (bn_wn place (fFormat_isNegative k x) (bn_M k x) (-bn_S k x).toNat) 0) := by
  have mx := bn_signif k x hx
  have sx := bn_scale k x hx
  have mxl := bn_M_lt53 k x
  have sx1 := bn_S_ge k x
  have sx2 := bn_S_le k x
  have hmn := bn_mn_le k
  have z0 : (0 : Int32).toInt = 0 := rfl
  have z63 : (63 : Int32).toInt = 63 := rfl
  have hneg : (-(fFormat_scale k x)).toInt = -bn_S k x := by rw [bn_i_neg] <;> omega
  unfold fFloating_wholeNumber fFloating_wholeNumber_8
  have hc : ((0 : Int32) < -(fFormat_scale k x)) ↔ ¬ 0 ≤ bn_S k x := by
    rw [Int32.lt_iff_toInt_lt, hneg, z0]; omega
  by_cases q : 0 ≤ bn_S k x
  · rw [if_neg (fun w => (hc.mp w) q), if_pos q]
  · rw [if_pos (hc.mpr q), if_neg q]
    unfold fFloating_wholeNumber_22 fFloating_wholeNumber_29
    obtain ⟨D, hD⟩ : ∃ D : Nat, -bn_S k x = D := ⟨(-bn_S k x).toNat, by omega⟩
    rw [hD] at hneg
    rw [hD]
    show _ = if bn_wn _ _ _ D = 0 then _ else bn_out k _ (bn_wn _ _ _ D) 0
    generalize -(fFormat_scale k x) = drop at *
    generalize fFormat_isNegative k x = neg at *
    generalize fFormat_significand k x = sig at *
    have fin : ∀ (mm : Int64) (n : Nat), bn_u mm = n → n < 2^63 → fFormat_rounded k neg mm 0 = if n = 0 then fFormat_signed k neg 0 else bn_out k neg n 0 := by
      intro mm n h1 h2
      by_cases w : n = 0
      · rw [if_pos w]
        have : mm = 0 := bn_u_zero.mpr (by omega)
        rw [this, bn_rounded_zero]
      · rw [if_neg w, bn_rounded k neg mm 0 (fun e => by rw [bn_u_zero] at e; omega) (by rw [z0]; omega) (Or.inl (by omega)), h1]; rfl
    have hrl : bn_rne (bn_M k x) D < 2^63 := by
      have := @bn_rne_le (bn_M k x) D
      have := Nat.div_le_self (bn_M k x) (2^D)
      omega
    by_cases p5 : place = 5
    · rw [if_pos p5]
      have e : bn_wn place neg (bn_M k x) D = bn_rne (bn_M k x) D := by unfold bn_wn; rw [if_pos p5]
      rw [e]
      apply fin _ _ _ hrl
      by_cases w : D ≤ 63
      · rw [bn_nearest sig drop D hneg (by omega) w, mx]
      · rw [bn_nearest_high _ _ (by omega)]
        have hp : 2^64 ≤ 2^D := Nat.pow_le_pow_right (by decide) (by omega)
        show 0 = _
        unfold bn_rne
        rw [Nat.div_eq_of_lt (by omega), Nat.mod_eq_of_lt (by omega), if_neg (by omega)]
    · rw [if_neg p5]
      unfold fFloating_wholeNumber_58 fFloating_wholeNumber_65
      have hdr : (fMath_min drop 63).toInt = (min D 63 : Nat) := by rw [bn_i_min, hneg, z63]; omega
      have hq : bn_M k x / 2^(min D 63) = bn_M k x / 2^D ∧ (bn_M k x / 2^(min D 63) * 2^(min D 63) = bn_M k x ↔ bn_M k x % 2^D = 0) := by
        rcases Nat.le_total D 63 with w | w
        · rw [Nat.min_eq_left w]
          refine ⟨rfl, ?_⟩
          have := Nat.div_add_mod (bn_M k x) (2^D)
          rw [Nat.mul_comm] at this
          omega
        · rw [Nat.min_eq_right w]
          have hp : 2^63 ≤ 2^D := Nat.pow_le_pow_right (by decide) w
          rw [Nat.div_eq_of_lt (show bn_M k x < 2^63 by omega), Nat.div_eq_of_lt (show bn_M k x < 2^D by omega), Nat.mod_eq_of_lt (show bn_M k x < 2^D by omega)]
          refine ⟨rfl, ?_⟩
          omega
      have kp : bn_u (bn_shr sig (fMath_min drop 63)) = bn_M k x / 2^D := by
        rw [bn_shr_u hdr (by omega), mx]; exact hq.1
      have kp2 : (bn_shl (bn_shr sig (fMath_min drop 63)) (fMath_min drop 63) = sig) ↔ bn_M k x % 2^D = 0 := by
        have hle := Nat.div_mul_le_self (bn_M k x) (2^(min D 63))
        rw [bn_u_eq, bn_shl_u hdr (by omega)] <;> rw [kp, ← hq.1]
        · rw [mx]; exact hq.2
        · omega
      have hqd := Nat.div_le_self (bn_M k x) (2^D)
      have kp1 : bn_u (bn_shr sig (fMath_min drop 63) + 1) = bn_M k x / 2^D + 1 := by
        rw [bn_add_u] <;> rw [kp, show bn_u 1 = 1 from rfl]; omega
      generalize bn_shr sig (fMath_min drop 63) = kept at *
      simp only [kp2]
      simp only [fFloating_wholeNumber_81, fFloating_wholeNumber_93, fFloating_wholeNumber_103, fFloating_wholeNumber_107, fFloating_wholeNumber_108, fFloating_wholeNumber_130, fFloating_wholeNumber_132]
      have d10 : ((1 : Int32) = 0) = False := by decide
      simp only [d10, if_false, if_true]
      unfold bn_wn
      rw [if_neg p5]
      by_cases c0 : bn_M k x % 2^D = 0
      · rw [if_pos c0, if_pos c0]
        have := fin kept _ kp (by omega)
        rw [← this]
        split <;> split <;> first | rfl | (split <;> first | rfl | (split <;> rfl))
      · rw [if_neg c0, if_neg c0]
        have f1 := fin kept _ kp (by omega)
        have f2 := fin _ _ kp1 (by omega)
        by_cases p2 : place = 2
        · have p3 : ¬ place = 3 := by rw [p2]; decide
          rw [if_pos p2]
          by_cases n0 : neg = 0
          · rw [if_pos n0, if_pos (Or.inl ⟨p2, n0⟩), f2]
          · have nc : ¬ ((place = 2 ∧ neg = 0) ∨ (place = 3 ∧ neg ≠ 0)) := by rintro (⟨_, w⟩ | ⟨w, _⟩); exact n0 w; exact p3 w
            rw [if_neg n0, if_neg p3, if_neg nc, f1]
        · rw [if_neg p2]
          by_cases p3 : place = 3
          · rw [if_pos p3]
            by_cases n0 : neg = 0
            · have nc : ¬ ((place = 2 ∧ neg = 0) ∨ (place = 3 ∧ neg ≠ 0)) := by rintro (⟨w, _⟩ | ⟨_, w⟩); exact p2 w; exact w n0
              rw [if_pos n0, if_neg nc, f1]
            · rw [if_neg n0, if_pos (Or.inr ⟨p3, n0⟩), f2]
          · have nc : ¬ ((place = 2 ∧ neg = 0) ∨ (place = 3 ∧ neg ≠ 0)) := by rintro (⟨w, _⟩ | ⟨w, _⟩); exact p2 w; exact p3 w
            rw [if_neg p3, if_neg nc, f1]
