def bn_P (k : Nat) : Nat := if k = 0 then 24 else 53
def bn_mn (k : Nat) : Int := if k = 0 then -149 else -1074
def bn_E (k : Nat) : Nat := if k = 0 then 255 else 2047
def bn_INF (k : Nat) : Nat := bn_E k * 2^(bn_P k - 1)
theorem bn_places (k : Nat) : (fm_places k).toInt = bn_P k := by unfold fm_places bn_P; split <;> rfl
theorem bn_least (k : Nat) : (fm_leastScale k).toInt = bn_mn k := by unfold fm_leastScale bn_mn; split <;> rfl
theorem bn_great (k : Nat) : (fm_greatestExponent k).toInt = bn_E k := by unfold fm_greatestExponent bn_E; split <;> rfl
theorem bn_inf (k : Nat) : fm_infinite k = Int64.ofNat (bn_INF k) := by unfold fm_infinite bn_INF bn_E bn_P; split <;> rfl
theorem bn_i_max (a b : Int32) : (fMath_max a b).toInt = max a.toInt b.toInt := by
  unfold fMath_max
  split
  · next h => rw [Int32.lt_iff_toInt_lt] at h; omega
  · next h => rw [Int32.lt_iff_toInt_lt] at h; omega
theorem bn_i_min (a b : Int32) : (fMath_min a b).toInt = min a.toInt b.toInt := by
  unfold fMath_min
  split
  · next h => rw [Int32.lt_iff_toInt_lt] at h; omega
  · next h => rw [Int32.lt_iff_toInt_lt] at h; omega
theorem bn_rne_le {m d : Nat} : bn_rne m d ≤ m / 2^d + 1 := by unfold bn_rne; split <;> omega
theorem bn_rne_ge {m d : Nat} : m / 2^d ≤ bn_rne m d := by unfold bn_rne; split <;> omega
def bn_kept (P : Nat) (mn : Int) (m : Nat) (e : Int) : Nat := if bn_ns P mn m e ≤ e then m * 2^(e - bn_ns P mn m e).toNat else bn_rne m (bn_ns P mn m e - e).toNat
theorem bn_kept_le {P : Nat} {mn : Int} {m : Nat} {e : Int} (hm : 0 < m) (hP : 0 < P) : bn_kept P mn m e ≤ 2^P := by
  have hL := bn_len_lt m
  have hL0 := bn_len_pos hm
  unfold bn_kept
  have hns : e + bn_len m - P ≤ bn_ns P mn m e := by unfold bn_ns; omega
  split
  · next h =>
    have : m * 2^(e - bn_ns P mn m e).toNat < 2^(bn_len m) * 2^(e - bn_ns P mn m e).toNat := Nat.mul_lt_mul_of_pos_right hL (Nat.two_pow_pos _)
    rw [← Nat.pow_add] at this
    exact Nat.le_of_lt (Nat.lt_of_lt_of_le this (Nat.pow_le_pow_right (by decide) (by omega)))
  · next h =>
    refine Nat.le_trans bn_rne_le ?_
    have : m / 2^(bn_ns P mn m e - e).toNat < 2^P := by
      rw [Nat.div_lt_iff_lt_mul (Nat.two_pow_pos _), ← Nat.pow_add]
      exact Nat.lt_of_lt_of_le hL (Nat.pow_le_pow_right (by decide) (by omega))
    exact this
theorem bn_kept_ge {P : Nat} {mn : Int} {m : Nat} {e : Int} (hm : 0 < m) (hP : 0 < P) (hs : mn < bn_ns P mn m e) : 2^(P-1) ≤ bn_kept P mn m e := by
  have hL := bn_len_ge hm
  have hL0 := bn_len_pos hm
  have hns : e + bn_len m - P = bn_ns P mn m e := by unfold bn_ns at hs ⊢; omega
  unfold bn_kept
  split
  · next h =>
    have : 2^(bn_len m - 1) * 2^(e - bn_ns P mn m e).toNat ≤ m * 2^(e - bn_ns P mn m e).toNat := Nat.mul_le_mul_right _ hL
    rw [← Nat.pow_add] at this
    exact Nat.le_trans (Nat.pow_le_pow_right (by decide) (by omega)) this
  · next h =>
    refine Nat.le_trans ?_ bn_rne_ge
    rw [Nat.le_div_iff_mul_le (Nat.two_pow_pos _), ← Nat.pow_add]
    exact Nat.le_trans (Nat.pow_le_pow_right (by decide) (by omega)) hL
theorem bn_rounded (k : Nat) (neg : Int32) (m : Int64) (e : Int32) (hm : m ≠ 0) (he : -4000 ≤ e.toInt ∧ e.toInt ≤ 4000)
    (hc : bn_u m < 2^63 ∨ bn_ns (bn_P k) (bn_mn k) (bn_u m) e.toInt - e.toInt ≤ 63) :
    fFormat_rounded k neg m e = fFormat_signed k neg (Int64.ofNat (min (bn_rn (bn_P k) (bn_mn k) (bn_u m) e.toInt) (bn_INF k))) := by
  have hm0 : 0 < bn_u m := by
    rcases Nat.eq_zero_or_pos (bn_u m) with q | q
    · exact absurd (bn_u_zero.mpr q) hm
    · exact q
  have hL : bn_len (bn_u m) ≤ 64 := bn_len_le.mpr (bn_u_lt m)
  have hL0 := bn_len_pos hm0
  have hPk : bn_P k = 24 ∨ bn_P k = 53 := by unfold bn_P; split <;> simp
  have hmk : -1074 ≤ bn_mn k ∧ bn_mn k ≤ -149 := by unfold bn_mn; split <;> omega
  have hEk : 255 ≤ bn_E k ∧ bn_E k ≤ 2047 := by unfold bn_E; split <;> omega
  have hlen : (fWhole_length m).toInt = bn_len (bn_u m) := by rw [bn_length, bn_i_ofNat (by omega)]
  unfold fFormat_rounded
  rw [if_neg hm]
  unfold fFormat_rounded_19 fFormat_rounded_38 fFormat_rounded_47
  have hpl := bn_places k
  have hle := bn_least k
  have hgr := bn_great k
  have s1 : (e + fWhole_length m - fm_places k).toInt = e.toInt + bn_len (bn_u m) - bn_P k := by
    have s0 : (e + fWhole_length m).toInt = e.toInt + bn_len (bn_u m) := by rw [bn_i_add] <;> omega
    rw [bn_i_sub] <;> omega
  have s2 : (fMath_max (e + fWhole_length m - fm_places k) (fm_leastScale k)).toInt = bn_ns (bn_P k) (bn_mn k) (bn_u m) e.toInt := by
    rw [bn_i_max, s1, hle]; rfl
  generalize fMath_max (e + fWhole_length m - fm_places k) (fm_leastScale k) = ns at s2 ⊢
  have hb : bn_mn k ≤ bn_ns (bn_P k) (bn_mn k) (bn_u m) e.toInt ∧ bn_ns (bn_P k) (bn_mn k) (bn_u m) e.toInt ≤ 4064 := by unfold bn_ns; omega
  have hkl := bn_kept_le (P := bn_P k) (mn := bn_mn k) (e := e.toInt) hm0 (by omega)
  have hkg := bn_kept_ge (P := bn_P k) (mn := bn_mn k) (e := e.toInt) hm0 (by omega)
  have hrn : bn_rn (bn_P k) (bn_mn k) (bn_u m) e.toInt = (bn_ns (bn_P k) (bn_mn k) (bn_u m) e.toInt - bn_mn k).toNat * 2^(bn_P k - 1) + bn_kept (bn_P k) (bn_mn k) (bn_u m) e.toInt := rfl
  have hkd : bn_kept (bn_P k) (bn_mn k) (bn_u m) e.toInt = if bn_ns (bn_P k) (bn_mn k) (bn_u m) e.toInt ≤ e.toInt then bn_u m * 2^(e.toInt - bn_ns (bn_P k) (bn_mn k) (bn_u m) e.toInt).toNat else bn_rne (bn_u m) (bn_ns (bn_P k) (bn_mn k) (bn_u m) e.toInt - e.toInt).toNat := rfl
  rw [hrn]
  have hP2 : 2^bn_P k = 2 * 2^(bn_P k - 1) := by rw [← Nat.pow_succ']; congr 1; omega
  generalize hKK : bn_kept (bn_P k) (bn_mn k) (bn_u m) e.toInt = KK at *
  generalize hNN : bn_ns (bn_P k) (bn_mn k) (bn_u m) e.toInt = NN at *
  have s3 : (ns - fm_leastScale k).toInt = NN - bn_mn k := by rw [bn_i_sub] <;> omega
  have z1 : (1 : Int32).toInt = 1 := rfl
  have z0 : (0 : Int32).toInt = 0 := rfl
  have s4 : (fm_greatestExponent k - 1).toInt = bn_E k - 1 := by rw [bn_i_sub] <;> omega
  have hI : bn_INF k = bn_E k * 2^(bn_P k - 1) := rfl
  by_cases hst : ns - fm_leastScale k < fm_greatestExponent k - 1
  · rw [if_pos hst]
    rw [Int32.lt_iff_toInt_lt, s3, s4] at hst
    have hq : (NN - bn_mn k).toNat + 2 ≤ bn_E k := by omega
    have hmul := Nat.mul_le_mul_right (2^(bn_P k - 1)) hq
    rw [Nat.add_mul] at hmul
    rw [Nat.min_eq_left (by rw [hI]; omega)]
    unfold fFormat_rounded_75 fFormat_rounded_94 fFormat_rounded_96
    have s5 : (ns - e).toInt = NN - e.toInt := by rw [bn_i_sub] <;> omega
    have hEP : bn_E k * 2^(bn_P k - 1) < 2^63 := by unfold bn_E bn_P; split <;> decide
    have sum : ∀ kk : Int64, bn_u kk = KK → bn_shl (ns - fm_leastScale k).toInt64 (fm_places k - 1) + kk = Int64.ofNat ((NN - bn_mn k).toNat * 2^(bn_P k - 1) + KK) := by
      intro kk hkk
      apply bn_u_inj
      rw [bn_u_ofNat (by omega), bn_u_add, hkk, bn_u_shl]
      have e1 : ((fm_places k - 1).toInt % 64).toNat = bn_P k - 1 := by rw [bn_i_sub] <;> omega
      have e2 : bn_u (ns - fm_leastScale k).toInt64 = (NN - bn_mn k).toNat := by
        have := bn_u_i2l (ns - fm_leastScale k)
        rw [s3] at this; omega
      rw [e1, e2, Nat.mod_eq_of_lt (a := (NN - bn_mn k).toNat * 2^(bn_P k - 1)) (by omega), Nat.mod_eq_of_lt (by omega)]
    by_cases hd : (0 : Int32) ≤ ns - e
    · rw [if_pos hd]
      rw [Int32.le_iff_toInt_le, s5, z0] at hd
      rw [sum]
      rw [hkd]
      by_cases hd0 : NN ≤ e.toInt
      · rw [if_pos hd0, bn_nearest_low _ _ (by omega), show (e.toInt - NN).toNat = 0 by omega, Nat.pow_zero, Nat.mul_one]
      · rw [if_neg hd0]
        by_cases h63 : NN - e.toInt ≤ 63
        · exact bn_nearest _ _ _ (by omega) (by omega) (by omega)
        · rw [bn_nearest_high _ _ (by omega)]
          have hu : bn_u m < 2^63 := by rcases hc with q | q; exact q; exact absurd q h63
          have hp : 2^64 ≤ 2^(NN - e.toInt).toNat := Nat.pow_le_pow_right (by decide) (by omega)
          show 0 = _
          unfold bn_rne
          rw [Nat.div_eq_of_lt (by omega), Nat.mod_eq_of_lt (by omega), if_neg (by omega)]
    · rw [if_neg hd]
      rw [Int32.le_iff_toInt_le, s5, z0] at hd
      rw [sum]
      rw [hkd, if_pos (by omega), bn_u_shl]
      have e3 : ((-(ns - e)).toInt % 64).toNat = (e.toInt - NN).toNat := by
        rw [bn_i_neg (by omega), s5]
        have : e.toInt - NN ≤ 52 := by
          rw [← hNN]; unfold bn_ns; omega
        omega
      rw [e3]
      apply Nat.mod_eq_of_lt
      rw [hkd, if_pos (by omega)] at hkl
      rcases hPk with q | q <;> rw [q] at hkl <;> omega
  · rw [if_neg hst]
    rw [Int32.lt_iff_toInt_lt, s3, s4] at hst
    have hkg' := hkg (by omega)
    have hq : bn_E k ≤ (NN - bn_mn k).toNat + 1 := by omega
    have hmul := Nat.mul_le_mul_right (2^(bn_P k - 1)) hq
    rw [Nat.add_mul] at hmul
    rw [Nat.min_eq_right (by rw [hI]; omega), bn_inf]

def bn_W (k : Nat) : Nat := if k = 0 then 32 else 64
def bn_mag (k : Nat) (x : Int64) : Nat := bn_u x % 2^(bn_W k - 1)
def bn_sg (k : Nat) (x : Int64) : Nat := bn_u x / 2^(bn_W k - 1)
def bn_ok (k : Nat) (x : Int64) : Prop := bn_u x < 2^bn_W k
theorem bn_signBit (k : Nat) : bn_u (fm_signBit k) = 2^(bn_W k - 1) := by unfold fm_signBit bn_W; split <;> rfl
theorem bn_leading (k : Nat) : bn_u (fm_leadingBit k) = 2^(bn_P k - 1) := by unfold fm_leadingBit bn_P; split <;> rfl
theorem bn_and_mask (x n : Nat) : x &&& (2^n - 1) = x % 2^n := Nat.and_two_pow_sub_one_eq_mod x n
theorem bn_mag_and (k : Nat) (x : Int64) (h : bn_ok k x) : bn_u (x &&& (fm_signBit k ^^^ (-1))) = bn_mag k x := by
  rw [bn_u_and]
  unfold bn_ok bn_W at h
  unfold bn_mag bn_W fm_signBit
  split at h
  · next hk =>
    subst hk
    rw [if_pos rfl, if_pos rfl]
    have e : bn_u (2147483648 ^^^ (-1)) = 18446744071562067967 := by decide
    rw [e]
    apply Nat.eq_of_testBit_eq
    intro i
    rw [Nat.testBit_and, Nat.testBit_mod_two_pow]
    by_cases q : i < 31
    · have : Nat.testBit 18446744071562067967 i = true := by
        revert q; revert i; decide
      rw [this]; simp [q]
    · by_cases q2 : i < 32
      · have : i = 31 := by omega
        subst this
        simp; intro _; decide
      · rw [Nat.testBit_lt_two_pow (x := bn_u x) (Nat.lt_of_lt_of_le h (Nat.pow_le_pow_right (by decide) (by omega)))]
        simp
  · next hk =>
    rw [if_neg hk, if_neg hk]
    have e : bn_u (-9223372036854775808 ^^^ (-1)) = 2^63 - 1 := by decide
    rw [e, bn_and_mask]
theorem bn_magnitude (k : Nat) (x : Int64) (h : bn_ok k x) : bn_u (fFormat_magnitude k x) = bn_mag k x := bn_mag_and k x h
theorem bn_mag_lt (k : Nat) (x : Int64) : bn_mag k x < 2^(bn_W k - 1) := Nat.mod_lt _ (Nat.two_pow_pos _)
theorem bn_W_le (k : Nat) : bn_W k - 1 ≤ 63 := by unfold bn_W; split <;> decide
theorem bn_mag_lt63 (k : Nat) (x : Int64) : bn_mag k x < 2^63 := Nat.lt_of_lt_of_le (bn_mag_lt k x) (Nat.pow_le_pow_right (by decide) (bn_W_le k))
theorem bn_sg_le (k : Nat) (x : Int64) (h : bn_ok k x) : bn_sg k x ≤ 1 := by
  unfold bn_sg; unfold bn_ok at h
  have : 2^bn_W k = 2 * 2^(bn_W k - 1) := by rw [← Nat.pow_succ']; congr 1; unfold bn_W; split <;> rfl
  have := (Nat.div_lt_iff_lt_mul (x := bn_u x) (k := 2^(bn_W k - 1)) (y := 2) (Nat.two_pow_pos _)).mpr (by omega)
  omega
theorem bn_u_split (k : Nat) (x : Int64) : bn_u x = bn_sg k x * 2^(bn_W k - 1) + bn_mag k x := by
  unfold bn_sg bn_mag; rw [Nat.mul_comm]; exact (Nat.div_add_mod _ _).symm
theorem bn_inf_u (k : Nat) : bn_u (fm_infinite k) = bn_INF k := by unfold fm_infinite bn_INF bn_E bn_P; split <;> rfl
theorem bn_INF_lt (k : Nat) : bn_INF k < 2^(bn_W k - 1) := by unfold bn_INF bn_E bn_P bn_W; split <;> decide
theorem bn_isNone (k : Nat) (x : Int64) (h : bn_ok k x) : fFormat_isNone k x = if bn_mag k x ≤ bn_INF k then 0 else 1 := by
  unfold fFormat_isNone
  have h1 := bn_mag_and k x h
  have : (x &&& (fm_signBit k ^^^ (-1)) ≤ fm_infinite k) ↔ bn_mag k x ≤ bn_INF k := by
    rw [bn_le, h1, bn_inf_u]
    · rw [h1]; exact bn_mag_lt63 k x
    · rw [bn_inf_u]; exact Nat.lt_of_lt_of_le (bn_INF_lt k) (Nat.pow_le_pow_right (by decide) (bn_W_le k))
  simp only [this]
theorem bn_isInfinite (k : Nat) (x : Int64) (h : bn_ok k x) : fFormat_isInfinite k x = if bn_mag k x = bn_INF k then 1 else 0 := by
  unfold fFormat_isInfinite
  have h1 := bn_mag_and k x h
  have : (x &&& (fm_signBit k ^^^ (-1)) = fm_infinite k) ↔ bn_mag k x = bn_INF k := by
    rw [bn_u_eq, h1, bn_inf_u]
  simp only [this]
theorem bn_isZero (k : Nat) (x : Int64) (h : bn_ok k x) : fFormat_isZero k x = if bn_mag k x = 0 then 1 else 0 := by
  unfold fFormat_isZero
  have h1 := bn_mag_and k x h
  have : (x &&& (fm_signBit k ^^^ (-1)) = 0) ↔ bn_mag k x = 0 := by
    rw [bn_u_zero, h1]
  simp only [this]
theorem bn_and_pow (x n : Nat) : x &&& 2^n = x / 2^n % 2 * 2^n := by
  apply Nat.eq_of_testBit_eq
  intro i
  rw [Nat.testBit_and, Nat.testBit_two_pow]
  rw [show x / 2^n % 2 = x / 2^n % 2^1 from rfl, Nat.mul_comm, Nat.testBit_two_pow_mul, Nat.testBit_mod_two_pow, Nat.testBit_div_two_pow]
  by_cases q : n = i
  · subst q; simp
  · by_cases q2 : i ≥ n
    · have : ¬ i - n < 1 := by omega
      simp [q, this]
    · simp [q, q2]
theorem bn_isNegative (k : Nat) (x : Int64) (h : bn_ok k x) : fFormat_isNegative k x = if bn_sg k x = 0 then 0 else 1 := by
  unfold fFormat_isNegative
  have h1 := bn_sg_le k x h
  have : (x &&& fm_signBit k = 0) ↔ bn_sg k x = 0 := by
    rw [bn_u_zero, bn_u_and, bn_signBit, bn_and_pow]
    have hp := Nat.two_pow_pos (bn_W k - 1)
    show bn_sg k x % 2 * _ = 0 ↔ _
    rcases Nat.lt_or_ge (bn_sg k x) 1 with q | q
    · have : bn_sg k x = 0 := by omega
      rw [this]; simp
    · have : bn_sg k x = 1 := by omega
      rw [this]; omega
  simp only [this]

def bn_ex (k : Nat) (x : Int64) : Nat := bn_mag k x / 2^(bn_P k - 1)
def bn_M (k : Nat) (x : Int64) : Nat := if bn_ex k x = 0 then bn_mag k x else 2^(bn_P k - 1) + bn_mag k x % 2^(bn_P k - 1)
def bn_S (k : Nat) (x : Int64) : Int := bn_mn k + (max (bn_ex k x) 1 : Nat) - 1
def bn_v (x : Int32) : Nat := x.toBitVec.toNat
theorem bn_v_l2i (x : Int64) : bn_v x.toInt32 = bn_u x % 2^32 := by
  show (x.toBitVec.signExtend 32).toNat = _
  rw [BitVec.signExtend_eq_setWidth_of_le _ (by decide), BitVec.toNat_setWidth]; rfl
theorem bn_v_and (x y : Int32) : bn_v (x &&& y) = bn_v x &&& bn_v y := by simp [bn_v]
theorem bn_v_s (x : Int32) : x.toInt = if bn_v x < 2^31 then (bn_v x : Int) else (bn_v x : Int) - 2^32 := by
  have h := BitVec.toInt_eq_toNat_cond x.toBitVec
  rw [Int32.toInt_toBitVec] at h
  rw [h]; unfold bn_v
  have := x.toBitVec.isLt
  split <;> split <;> omega
theorem bn_ex_lt (k : Nat) (x : Int64) : bn_ex k x ≤ bn_E k := by
  have h := bn_mag_lt k x
  unfold bn_ex
  have : bn_mag k x / 2^(bn_P k - 1) < bn_E k + 1 := by
    rw [Nat.div_lt_iff_lt_mul (Nat.two_pow_pos _)]
    refine Nat.lt_of_lt_of_le h ?_
    unfold bn_W bn_E bn_P; split <;> decide
  omega
theorem bn_exponent (k : Nat) (x : Int64) (h : bn_ok k x) : (fFormat_exponent k x).toInt = bn_ex k x := by
  have z1 : (1 : Int32).toInt = 1 := rfl
  have hpl := bn_places k
  have hPk : bn_P k = 24 ∨ bn_P k = 53 := by unfold bn_P; split <;> simp
  have e1 : ((fm_places k - 1).toInt % 64).toNat = bn_P k - 1 := by rw [bn_i_sub] <;> omega
  have hv : bn_v (fFormat_exponent k x) = bn_ex k x := by
    unfold fFormat_exponent
    rw [bn_v_and, bn_v_l2i, bn_u_shr, e1]
    unfold bn_ok at h
    unfold bn_ex bn_mag bn_P fm_greatestExponent
    unfold bn_W at h ⊢
    split at h
    · next hk =>
      subst hk
      rw [if_pos rfl, if_pos rfl, if_pos rfl]
      show _ &&& (2^8 - 1) = _
      rw [bn_and_mask]; omega
    · next hk =>
      rw [if_neg hk, if_neg hk, if_neg hk]
      show _ &&& (2^11 - 1) = _
      rw [bn_and_mask]; omega
  have := bn_ex_lt k x
  have hEk : bn_E k ≤ 2047 := by unfold bn_E; split <;> omega
  rw [bn_v_s, hv, if_pos (by omega)]
theorem bn_scale (k : Nat) (x : Int64) (h : bn_ok k x) : (fFormat_scale k x).toInt = bn_S k x := by
  have he := bn_exponent k x h
  have hl := bn_least k
  have hb := bn_ex_lt k x
  have hEk : bn_E k ≤ 2047 := by unfold bn_E; split <;> omega
  have hmk : -1074 ≤ bn_mn k ∧ bn_mn k ≤ -149 := by unfold bn_mn; split <;> omega
  have z1 : (1 : Int32).toInt = 1 := rfl
  unfold fFormat_scale bn_S
  have h1 : (fMath_max (fFormat_exponent k x) 1).toInt = (max (bn_ex k x) 1 : Nat) := by rw [bn_i_max, he, z1]; omega
  have h2 : (fm_leastScale k + fMath_max (fFormat_exponent k x) 1).toInt = bn_mn k + (max (bn_ex k x) 1 : Nat) := by rw [bn_i_add] <;> omega
  rw [bn_i_sub] <;> omega
theorem bn_signif (k : Nat) (x : Int64) (h : bn_ok k x) : bn_u (fFormat_significand k x) = bn_M k x := by
  have he := bn_exponent k x h
  have h0 : (fFormat_exponent k x = 0) ↔ bn_ex k x = 0 := by
    rw [← Int32.toInt_inj, he]; show (_ : Int) = 0 ↔ _; omega
  have hf : bn_u (x &&& (fm_leadingBit k - 1)) = bn_mag k x % 2^(bn_P k - 1) := by
    have e : bn_u (fm_leadingBit k - 1) = 2^(bn_P k - 1) - 1 := by unfold fm_leadingBit bn_P; split <;> rfl
    rw [bn_u_and, e, bn_and_mask]
    unfold bn_mag
    rw [Nat.mod_mod_of_dvd]
    apply Nat.pow_dvd_pow
    unfold bn_P bn_W; split <;> decide
  unfold fFormat_significand fFormat_significand_9 bn_M
  simp only [h0]
  split
  · next q =>
    rw [hf]; unfold bn_ex at q
    exact Nat.mod_eq_of_lt (by rcases Nat.div_eq_zero_iff.mp q with w | w; exact absurd w (Nat.ne_of_gt (Nat.two_pow_pos _)); exact w)
  · next q =>
    rw [bn_u_or, hf, bn_leading]
    have := Nat.two_pow_add_eq_or_of_lt (i := bn_P k - 1) (b := bn_mag k x % 2^(bn_P k - 1)) (Nat.mod_lt _ (Nat.two_pow_pos _)) 1
    rw [Nat.mul_one] at this
    exact this.symm
theorem bn_M_lt (k : Nat) (x : Int64) : bn_M k x < 2^bn_P k := by
  have hPk : bn_P k = 24 ∨ bn_P k = 53 := by unfold bn_P; split <;> simp
  have hP2 : 2^bn_P k = 2 * 2^(bn_P k - 1) := by rw [← Nat.pow_succ']; congr 1; omega
  have hm := Nat.mod_lt (bn_mag k x) (Nat.two_pow_pos (bn_P k - 1))
  unfold bn_M
  split
  · next q =>
    unfold bn_ex at q
    have : bn_mag k x < 2^(bn_P k - 1) := by rcases Nat.div_eq_zero_iff.mp q with w | w; exact absurd w (Nat.ne_of_gt (Nat.two_pow_pos _)); exact w
    omega
  · omega
theorem bn_M_pos (k : Nat) (x : Int64) (h : bn_mag k x ≠ 0) : 0 < bn_M k x := by
  unfold bn_M
  have := Nat.two_pow_pos (bn_P k - 1)
  split <;> omega
theorem bn_M_ge (k : Nat) (x : Int64) (h : bn_mn k < bn_S k x) : 2^(bn_P k - 1) ≤ bn_M k x := by
  unfold bn_S at h
  unfold bn_M
  rw [if_neg (by omega)]; omega
theorem bn_S_ge (k : Nat) (x : Int64) : bn_mn k ≤ bn_S k x := by unfold bn_S; omega
theorem bn_S_le (k : Nat) (x : Int64) : bn_S k x ≤ bn_mn k + 2046 := by
  have := bn_ex_lt k x
  have hEk : bn_E k ≤ 2047 := by unfold bn_E; split <;> omega
  unfold bn_S; omega
