theorem bn_u_or (x y : Int64) : bn_u (x ||| y) = bn_u x ||| bn_u y := by simp [bn_u]
theorem bn_bc_ones : ∀ n : Nat, n < 65 → fLong_bitCount (Int64.ofNat (2^n - 1)) = Int32.ofNat n := by decide +kernel
def bn_fill (s L x : Nat) : Prop := x < 2^L ∧ ∀ i, i < L → L ≤ i + s → x.testBit i = true
theorem bn_fill_next {s L x : Nat} (h : bn_fill s L x) : bn_fill (2*s) L (x ||| x / 2^s) := by
  refine ⟨Nat.or_lt_two_pow h.1 (Nat.lt_of_le_of_lt (Nat.div_le_self _ _) h.1), fun i h1 h2 => ?_⟩
  rw [Nat.testBit_or, Nat.testBit_div_two_pow]
  by_cases q : L ≤ i + s
  · rw [h.2 i h1 q]; rfl
  · rw [h.2 (i + s) (by omega) (by omega)]; simp
theorem bn_fill_first {x : Nat} : bn_fill 1 (bn_len x) x := by
  refine ⟨bn_len_lt x, fun i h1 h2 => ?_⟩
  have e : i = bn_len x - 1 := by omega
  have hx : 0 < x := by
    rcases Nat.eq_zero_or_pos x with q | q
    · subst q; rw [bn_len_zero] at h1; omega
    · exact q
  have h3 := bn_len_ge hx
  have h4 := bn_len_lt x
  rw [e]
  rw [show bn_len x = bn_len x - 1 + 1 by omega] at h4
  exact Nat.testBit_of_two_pow_le_and_two_pow_add_one_gt h3 h4
theorem bn_fill_all {s L x : Nat} (h : bn_fill s L x) (hs : L ≤ s) : x = 2^L - 1 := by
  apply Nat.eq_of_testBit_eq
  intro i
  rw [Nat.testBit_two_pow_sub_one]
  by_cases q : i < L
  · rw [h.2 i q (by omega)]; simp [q]
  · rw [Nat.testBit_lt_two_pow (Nat.lt_of_lt_of_le h.1 (Nat.pow_le_pow_right (by decide) (by omega)))]; simp [q]

theorem bn_u_ofNat {n : Nat} (h : n < 2^64) : bn_u (Int64.ofNat n) = n := by
  show (BitVec.ofNat 64 n).toNat = n
  rw [BitVec.toNat_ofNat]; exact Nat.mod_eq_of_lt h
theorem bn_shr_lit (x : Int64) (y : Int32) (k : Nat) (h : (y.toInt % 64).toNat = k) : bn_u (bn_shr x y) = bn_u x / 2^k := by
  rw [bn_u_shr, h]
theorem bn_fill_step {s L : Nat} {x : Int64} (y : Int32) (h : bn_fill s L (bn_u x)) (hy : (y.toInt % 64).toNat = s) : bn_fill (2*s) L (bn_u (x ||| bn_shr x y)) := by
  rw [bn_u_or, bn_shr_lit _ _ _ hy]; exact bn_fill_next h
theorem bn_length (x : Int64) : fWhole_length x = Int32.ofNat (bn_len (bn_u x)) := by
  have h0 := bn_fill_first (x := bn_u x)
  have h1 := bn_fill_step 1 h0 (by decide)
  have h2 := bn_fill_step 2 h1 (by decide)
  have h3 := bn_fill_step 4 h2 (by decide)
  have h4 := bn_fill_step 8 h3 (by decide)
  have h5 := bn_fill_step 16 h4 (by decide)
  have h6 := bn_fill_step 32 h5 (by decide)
  have hL : bn_len (bn_u x) ≤ 64 := bn_len_le.mpr (bn_u_lt x)
  have h7 := bn_fill_all h6 (by omega)
  simp only [fWhole_length, fWhole_length_5, fWhole_length_19]
  rw [if_neg (by decide), if_neg (by decide), if_neg (by decide), if_neg (by decide), if_neg (by decide), if_neg (by decide), if_pos (by decide)]
  rw [← bn_bc_ones _ (show bn_len (bn_u x) < 65 by omega)]
  congr 1
  apply bn_u_inj
  rw [bn_u_ofNat]
  · exact h7
  · exact Nat.lt_of_lt_of_le (Nat.sub_lt (Nat.two_pow_pos _) (by decide)) (Nat.pow_le_pow_right (by decide) hL)

theorem bn_u_add (x y : Int64) : bn_u (x + y) = (bn_u x + bn_u y) % 2^64 := by
  simp [bn_u, Int64.toBitVec_add, BitVec.toNat_add]
theorem bn_u_sub (x y : Int64) : bn_u (x - y) = (2^64 - bn_u y + bn_u x) % 2^64 := by
  simp [bn_u, Int64.toBitVec_sub, BitVec.toNat_sub]
theorem bn_u_mul (x y : Int64) : bn_u (x * y) = (bn_u x * bn_u y) % 2^64 := by
  simp [bn_u, Int64.toBitVec_mul, BitVec.toNat_mul]
theorem bn_u_and (x y : Int64) : bn_u (x &&& y) = bn_u x &&& bn_u y := by simp [bn_u]
theorem bn_u_xor (x y : Int64) : bn_u (x ^^^ y) = bn_u x ^^^ bn_u y := by simp [bn_u]
theorem bn_u_neg (x : Int64) : bn_u (-x) = (2^64 - bn_u x) % 2^64 := by
  simp [bn_u, Int64.toBitVec_neg, BitVec.toNat_neg]
theorem bn_u_zero {x : Int64} : x = 0 ↔ bn_u x = 0 := ⟨fun h => by rw [h]; rfl, fun h => bn_u_inj (by rw [h]; rfl)⟩
theorem bn_u_eq {x y : Int64} : x = y ↔ bn_u x = bn_u y := ⟨fun h => by rw [h], bn_u_inj⟩
theorem bn_s_pos {x : Int64} (h : bn_u x < 2^63) : x.toInt = bn_u x := by rw [bn_s_u, if_pos h]
theorem bn_lt {x y : Int64} (hx : bn_u x < 2^63) (hy : bn_u y < 2^63) : x < y ↔ bn_u x < bn_u y := by
  rw [Int64.lt_iff_toInt_lt, bn_s_pos hx, bn_s_pos hy]; omega
theorem bn_le {x y : Int64} (hx : bn_u x < 2^63) (hy : bn_u y < 2^63) : x ≤ y ↔ bn_u x ≤ bn_u y := by
  rw [Int64.le_iff_toInt_le, bn_s_pos hx, bn_s_pos hy]; omega
theorem bn_i_add {a b : Int32} (h : -2^31 ≤ a.toInt + b.toInt ∧ a.toInt + b.toInt < 2^31) : (a + b).toInt = a.toInt + b.toInt := by
  rw [Int32.toInt_add, Int.bmod_eq_of_le] <;> omega
theorem bn_i_sub {a b : Int32} (h : -2^31 ≤ a.toInt - b.toInt ∧ a.toInt - b.toInt < 2^31) : (a - b).toInt = a.toInt - b.toInt := by
  rw [Int32.toInt_sub, Int.bmod_eq_of_le] <;> omega
theorem bn_i_neg {a : Int32} (h : -2^31 < a.toInt) : (-a).toInt = -a.toInt := by
  have := a.toInt_lt
  rw [Int32.toInt_neg, Int.bmod_eq_of_le] <;> omega
theorem bn_i_ofNat {n : Nat} (h : n < 2^31) : (Int32.ofNat n).toInt = n := Int32.toInt_ofNat_of_lt h
theorem bn_nearest_low (m : Int64) (d : Int32) (h : d.toInt ≤ 0) : fFormat_nearest m d = m := by
  have h1 : d ≤ 0 := by rw [Int32.le_iff_toInt_le]; exact h
  have h2 : ¬ 0 < d := by rw [Int32.lt_iff_toInt_lt]; exact fun q => by have : (0 : Int32).toInt = 0 := rfl; omega
  unfold fFormat_nearest
  rw [if_pos h1, fFormat_nearest_10, if_neg h2]
theorem bn_nearest_high (m : Int64) (d : Int32) (h : 63 < d.toInt) : fFormat_nearest m d = 0 := by
  have z : (0 : Int32).toInt = 0 := rfl
  have z2 : (63 : Int32).toInt = 63 := rfl
  have h1 : ¬ d ≤ 0 := by rw [Int32.le_iff_toInt_le]; omega
  have h2 : 0 < d := by rw [Int32.lt_iff_toInt_lt]; omega
  have h3 : ¬ d ≤ 63 := by rw [Int32.le_iff_toInt_le]; omega
  unfold fFormat_nearest
  rw [if_neg h1, if_neg h3, fFormat_nearest_10, if_pos h2]
theorem bn_nearest (m : Int64) (d : Int32) (D : Nat) (h : d.toInt = D) (h1 : 1 ≤ D) (h2 : D ≤ 63) : bn_u (fFormat_nearest m d) = bn_rne (bn_u m) D := by
  have z : (0 : Int32).toInt = 0 := rfl
  have z2 : (63 : Int32).toInt = 63 := rfl
  have z1 : (1 : Int32).toInt = 1 := rfl
  have i1 : ¬ d ≤ 0 := by rw [Int32.le_iff_toInt_le]; omega
  have i3 : d ≤ 63 := by rw [Int32.le_iff_toInt_le]; omega
  have hd : (d.toInt % 64).toNat = D := by omega
  have hm := bn_u_lt m
  have hp := Nat.two_pow_pos D
  have k1 : bn_u (bn_shr m d) = bn_u m / 2^D := by rw [bn_u_shr, hd]
  have hdm := Nat.div_add_mod (bn_u m) (2^D)
  have hr := Nat.mod_lt (bn_u m) hp
  have hD : 2^D ≤ 2^63 := Nat.pow_le_pow_right (by decide) h2
  have k2 : bn_u (bn_shl (bn_shr m d) d) = bn_u m / 2^D * 2^D := by
    rw [bn_u_shl, hd, k1]; apply Nat.mod_eq_of_lt
    exact Nat.lt_of_le_of_lt (Nat.div_mul_le_self _ _) hm
  have k3 : bn_u (m - bn_shl (bn_shr m d) d) = bn_u m % 2^D := by
    rw [bn_u_sub, k2]; rw [Nat.mul_comm] at hdm; omega
  have hd1 : ((d - 1).toInt % 64).toNat = D - 1 := by
    rw [bn_i_sub (by rw [h, z1]; omega), h, z1]; omega
  have hD2 : 2^D = 2 * 2^(D-1) := by rw [← Nat.pow_succ']; congr 1; omega
  have k4 : bn_u (bn_shl 1 (d - 1)) = 2^(D-1) := by
    rw [bn_u_shl, hd1, show bn_u 1 = 1 from rfl, Nat.one_mul]; apply Nat.mod_eq_of_lt; omega
  have k5 : ((bn_shr m d &&& 1) = 0) ↔ bn_u m / 2^D % 2 = 0 := by
    rw [bn_u_zero, bn_u_and, k1, show bn_u 1 = 1 from rfl, Nat.and_one_is_mod]
  have k6 : bn_u (bn_shr m d + 1) = bn_u m / 2^D + 1 := by
    rw [bn_u_add, k1, show bn_u 1 = 1 from rfl]; apply Nat.mod_eq_of_lt
    have : bn_u m / 2^D ≤ bn_u m / 2^1 := Nat.div_le_div_left (Nat.pow_le_pow_right (by decide) h1) (by decide)
    omega
  unfold fFormat_nearest
  rw [if_neg i1, if_pos i3]
  simp only [fFormat_nearest_24, fFormat_nearest_31, fFormat_nearest_38, fFormat_nearest_62, fFormat_nearest_66, fFormat_nearest_67]
  have b3 : bn_u (m - bn_shl (bn_shr m d) d) < 2^63 := by omega
  have b4 : bn_u (bn_shl 1 (d - 1)) < 2^63 := by omega
  have c1 : (bn_shl 1 (d - 1) < m - bn_shl (bn_shr m d) d) ↔ 2^D < 2 * (bn_u m % 2^D) := by
    rw [bn_lt b4 b3, k3, k4]; omega
  have c2 : (m - bn_shl (bn_shr m d) d = bn_shl 1 (d - 1)) ↔ 2 * (bn_u m % 2^D) = 2^D := by
    rw [bn_u_eq, k3, k4]; omega
  unfold bn_rne
  by_cases q1 : 2^D < 2 * (bn_u m % 2^D)
  · rw [if_pos (c1.mpr q1), if_neg (by decide), k6, if_pos (Or.inl q1)]
  · rw [if_neg (fun w => q1 (c1.mp w))]
    by_cases q2 : 2 * (bn_u m % 2^D) = 2^D
    · rw [if_pos (c2.mpr q2)]
      by_cases q3 : bn_u m / 2^D % 2 = 0
      · rw [if_pos (k5.mpr q3), if_pos trivial, k1, if_neg (by omega), Nat.add_zero]
      · rw [if_neg (fun w => q3 (k5.mp w)), if_neg (by decide), k6, if_pos (by omega)]
    · rw [if_neg (fun w => q2 (c2.mp w)), if_pos trivial, k1, if_neg (by omega), Nat.add_zero]
