def tt (k : Nat) : Int32 := if k = 0 then 2 else 3
theorem tt_two (k : Nat) : (tt k = 2) ↔ k = 0 := by
  unfold tt; split
  · exact ⟨fun _ => by assumption, fun _ => rfl⟩
  · exact ⟨fun h => absurd h (by decide), fun h => by contradiction⟩
theorem tt_nz (k : Nat) : ¬ tt k = 0 := by unfold tt; split <;> decide
theorem m_precision (k : Nat) : (fM_precision (tt k)).toInt = bn_P k := by
  unfold fM_precision bn_P; simp only [tt_two]; split <;> rfl
theorem m_least (k : Nat) : (fM_least (tt k)).toInt = bn_mn k := by
  unfold fM_least fM_bias fM_precision bn_mn; simp only [tt_two]; split <;> rfl
theorem m_last (k : Nat) : (fM_last (tt k)).toInt = bn_E k := by
  unfold fM_last fM_bias bn_E; simp only [tt_two]; split <;> rfl
theorem m_signOf (k : Nat) : fM_signOf (tt k) = fm_signBit k := by
  unfold fM_signOf fM_width fM_width_9 fm_signBit
  simp only [tt_two, if_neg (tt_nz k)]
  split
  · apply bn_u_inj; decide
  · apply bn_u_inj; decide
theorem m_signed (k : Nat) (a : Int32) (v : Int64) : fM_signed (tt k) a v = fFormat_signed k a v := by
  unfold fM_signed fFormat_signed; rw [m_signOf]
theorem m_isMinus (k : Nat) (x : Int64) : fM_isMinus (tt k) x = fFormat_isNegative k x := by
  unfold fM_isMinus fFormat_isNegative; rw [m_signOf]
theorem m_infinite (k : Nat) : fM_infinite (tt k) = Int64.ofNat (bn_INF k) := by
  unfold fM_infinite fM_last fM_bias fM_precision bn_INF bn_E bn_P
  simp only [tt_two]
  split
  · apply bn_u_inj; decide
  · apply bn_u_inj; decide
theorem m_theNone (k : Nat) : fM_theNone (tt k) = fm_none k := by
  unfold fM_theNone fm_none; simp only [tt_two]
theorem m_rest (k : Nat) (x : Int64) : bn_u (fM_rest (tt k) x) = bn_mag k x := by
  unfold fM_rest
  rw [m_signOf, bn_u_and]
  have e : bn_u (fm_signBit k - 1) = 2^(bn_W k - 1) - 1 := by unfold fm_signBit bn_W; split <;> decide
  rw [e, bn_and_mask]; rfl
theorem sar_pos {x : Int64} {y : Int32} {n : Nat} (hx : bn_u x < 2^63) (hy : y.toInt = n) (hn : n < 64) : bn_u (bn_sar x y) = bn_u x / 2^n := by
  have h1 := bn_s_sar x y
  rw [bn_s_pos hx, show (y.toInt % 64).toNat = n by omega] at h1
  have h2 := bn_s_u (bn_sar x y)
  have h3 := bn_u_lt (bn_sar x y)
  have h4 : ((bn_u x : Int) / ((2^n : Nat) : Int)) = ((bn_u x / 2^n : Nat) : Int) := by omega
  have h5 : (bn_sar x y).toInt = ((bn_u x / 2^n : Nat) : Int) := by rw [← h4, h1]; simp
  have h6 : bn_u x / 2^n ≤ bn_u x := Nat.div_le_self _ _
  generalize bn_u x / 2^n = q at *
  split at h2 <;> omega
theorem m_exponent (k : Nat) (x : Int64) : (fM_exponent (tt k) x).toInt = bn_ex k x := by
  unfold fM_exponent
  have hP := bn_P_le k
  have hp : (fM_precision (tt k) - 1).toInt = ((bn_P k - 1 : Nat) : Int) := by
    rw [bn_i_sub] <;> rw [m_precision, show (1 : Int32).toInt = 1 from rfl] <;> omega
  have h1 := m_rest k x
  have h2 := sar_pos (x := fM_rest (tt k) x) (by rw [h1]; exact bn_mag_lt63 k x) hp (by omega)
  rw [h1] at h2
  have h3 := bn_ex_lt k x
  have hE : bn_E k ≤ 2047 := by unfold bn_E; split <;> omega
  have h4 : bn_u (bn_sar (fM_rest (tt k) x) (fM_precision (tt k) - 1)) = bn_ex k x := h2
  rw [bn_u_l2i, h4, if_pos (by omega)]
  omega
theorem m_fraction (k : Nat) (x : Int64) : bn_u (fM_fraction (tt k) x) = bn_mag k x % 2^(bn_P k - 1) := by
  unfold fM_fraction
  have e : bn_u (bn_shl 1 (fM_precision (tt k) - 1) - 1) = 2^(bn_P k - 1) - 1 := by
    unfold fM_precision bn_P; simp only [tt_two]; split <;> decide
  rw [bn_u_and, e, bn_and_mask]
  unfold bn_mag
  rw [Nat.mod_mod_of_dvd]
  apply Nat.pow_dvd_pow
  unfold bn_P bn_W; split <;> decide
theorem m_exE (k : Nat) (x : Int64) : (fM_exponent (tt k) x = fM_last (tt k)) ↔ bn_ex k x = bn_E k := by
  rw [← Int32.toInt_inj, m_exponent, m_last]; omega
theorem m_fr0 (k : Nat) (x : Int64) : (fM_fraction (tt k) x = 0) ↔ bn_mag k x % 2^(bn_P k - 1) = 0 := by
  rw [bn_u_zero, m_fraction]
theorem m_isNone (k : Nat) (x : Int64) (h : bn_ok k x) : fM_isNone (tt k) x = fFormat_isNone k x := by
  rw [bn_isNone k x h]
  unfold fM_isNone fM_isNone_26
  simp only [m_exE, m_fr0]
  have he := bn_ex_lt k x
  have hm := bn_mag_ex k x
  have hf := Nat.mod_lt (bn_mag k x) (Nat.two_pow_pos (bn_P k - 1))
  have hI : bn_INF k = bn_E k * 2^(bn_P k - 1) := rfl
  by_cases q : bn_ex k x = bn_E k
  · rw [if_pos q]
    rw [q] at hm
    by_cases w : bn_mag k x % 2^(bn_P k - 1) = 0
    · rw [if_pos w, if_pos (by omega)]
    · rw [if_neg w, if_neg (by omega)]
  · rw [if_neg q]
    have : (bn_ex k x + 1) * 2^(bn_P k - 1) ≤ bn_E k * 2^(bn_P k - 1) := Nat.mul_le_mul_right _ (by omega)
    rw [Nat.add_mul] at this
    rw [if_pos (by omega)]
theorem m_isInfinite (k : Nat) (x : Int64) (h : bn_ok k x) : fM_isInfinite (tt k) x = fFormat_isInfinite k x := by
  rw [bn_isInfinite k x h]
  unfold fM_isInfinite fM_isInfinite_26
  simp only [m_exE, m_fr0]
  have he := bn_ex_lt k x
  have hm := bn_mag_ex k x
  have hf := Nat.mod_lt (bn_mag k x) (Nat.two_pow_pos (bn_P k - 1))
  have hI : bn_INF k = bn_E k * 2^(bn_P k - 1) := rfl
  by_cases q : bn_ex k x = bn_E k
  · rw [if_pos q]
    rw [q] at hm
    by_cases w : bn_mag k x % 2^(bn_P k - 1) = 0
    · rw [if_pos w, if_pos (by omega)]
    · rw [if_neg w, if_neg (by omega)]
  · rw [if_neg q]
    have : (bn_ex k x + 1) * 2^(bn_P k - 1) ≤ bn_E k * 2^(bn_P k - 1) := Nat.mul_le_mul_right _ (by omega)
    rw [Nat.add_mul] at this
    rw [if_neg (by omega)]
theorem m_isZero (k : Nat) (x : Int64) (h : bn_ok k x) : fM_isZero (tt k) x = fFormat_isZero k x := by
  rw [bn_isZero k x h]
  unfold fM_isZero
  have : (fM_rest (tt k) x = 0) ↔ bn_mag k x = 0 := by rw [bn_u_zero, m_rest]
  simp only [this]
theorem m_ex0 (k : Nat) (x : Int64) : (fM_exponent (tt k) x = 0) ↔ bn_ex k x = 0 := by
  rw [← Int32.toInt_inj, m_exponent]; show (_ : Int) = 0 ↔ _; omega
theorem m_significand (k : Nat) (x : Int64) : bn_u (fM_significand (tt k) x) = bn_M k x := by
  unfold fM_significand fM_significand_25
  simp only [m_ex0]
  have hf := m_fraction k x
  have hP := bn_P_le k
  have hlt := Nat.mod_lt (bn_mag k x) (Nat.two_pow_pos (bn_P k - 1))
  have e : bn_u (bn_shl 1 (fM_precision (tt k) - 1)) = 2^(bn_P k - 1) := by
    unfold fM_precision bn_P; simp only [tt_two]; split <;> decide
  have hpl : 2^(bn_P k - 1) ≤ 2^52 := Nat.pow_le_pow_right (by decide) (by omega)
  have hme := bn_mag_ex k x
  unfold bn_M
  by_cases q : bn_ex k x = 0
  · rw [if_pos q, if_pos q]
    rw [bn_add_u (by rw [show bn_u 0 = 0 from rfl]; omega), hf, show bn_u 0 = 0 from rfl]
    rw [q] at hme; omega
  · rw [if_neg q, if_neg q]
    rw [bn_add_u (by rw [hf, e]; omega), hf, e]; omega
theorem m_scaleOf (k : Nat) (x : Int64) : (fM_scaleOf (tt k) x).toInt = bn_S k x := by
  unfold fM_scaleOf fM_scaleOf_23
  simp only [m_ex0]
  have hl := m_least k
  have he := m_exponent k x
  have hb := bn_ex_lt k x
  have hE : bn_E k ≤ 2047 := by unfold bn_E; split <;> omega
  have hmn := bn_mn_le k
  have z0 : (0 : Int32).toInt = 0 := rfl
  have z1 : (1 : Int32).toInt = 1 := rfl
  unfold bn_S
  by_cases q : bn_ex k x = 0
  · rw [if_pos q, bn_i_add] <;> omega
  · rw [if_neg q]
    have h1 : (fM_exponent (tt k) x - 1).toInt = (bn_ex k x : Int) - 1 := by rw [bn_i_sub] <;> omega
    rw [bn_i_add] <;> omega
