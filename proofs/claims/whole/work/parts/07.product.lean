theorem bn_or_one (x : Nat) : x ||| 1 = x / 2 * 2 + 1 := by
  have h := Nat.two_pow_add_eq_or_of_lt (i := 1) (b := 1) (by decide) (x / 2)
  have h2 : x ||| 1 = 2 ^ 1 * (x / 2) ||| 1 := by
    apply Nat.eq_of_testBit_eq
    intro i
    rw [Nat.testBit_or, Nat.testBit_or, Nat.testBit_two_pow_mul]
    cases i with
    | zero => simp
    | succ n =>
      have : Nat.testBit 1 (n+1) = false := by rw [Nat.testBit_succ]; simp
      rw [this, Nat.testBit_succ]; simp
  rw [h2, ← h]; omega
theorem bn_shl_u {x : Int64} {y : Int32} {k : Nat} (hy : y.toInt = k) (hk : k < 64) (h : bn_u x * 2^k < 2^64) : bn_u (bn_shl x y) = bn_u x * 2^k := by
  rw [bn_u_shl, show (y.toInt % 64).toNat = k by omega, Nat.mod_eq_of_lt h]
theorem bn_shr_u {x : Int64} {y : Int32} {k : Nat} (hy : y.toInt = k) (hk : k < 64) : bn_u (bn_shr x y) = bn_u x / 2^k := by
  rw [bn_u_shr, show (y.toInt % 64).toNat = k by omega]
theorem bn_add_u {x y : Int64} (h : bn_u x + bn_u y < 2^64) : bn_u (x + y) = bn_u x + bn_u y := by
  rw [bn_u_add, Nat.mod_eq_of_lt h]
theorem bn_mul_u {x y : Int64} (h : bn_u x * bn_u y < 2^64) : bn_u (x * y) = bn_u x * bn_u y := by
  rw [bn_u_mul, Nat.mod_eq_of_lt h]
theorem bn_sub_u {x y : Int64} (h : bn_u y ≤ bn_u x) : bn_u (x - y) = bn_u x - bn_u y := by
  have := bn_u_lt x
  rw [bn_u_sub]; omega
theorem bn_mul_lt {a b A B : Nat} (ha : a < A) (hb : b < B) : a * b < A * B := Nat.mul_lt_mul_of_lt_of_lt ha hb
theorem bn_highProduct (x y : Int64) (hx : bn_u x < 2^62) (hy : bn_u y < 2^62) : bn_u (fFloating_highProduct x y) = bn_u x * bn_u y / 2^64 := by
  simp only [fFloating_highProduct, fFloating_highProduct_7, fFloating_highProduct_14, fFloating_highProduct_20, fFloating_highProduct_26, fFloating_highProduct_42, fFloating_highProduct_56]
  have m32 : bn_u 4294967295 = 2^32 - 1 := rfl
  have z : (32 : Int32).toInt = (32 : Nat) := rfl
  have xl : bn_u (x &&& 4294967295) = bn_u x % 2^32 := by rw [bn_u_and, m32, bn_and_mask]
  have yl : bn_u (y &&& 4294967295) = bn_u y % 2^32 := by rw [bn_u_and, m32, bn_and_mask]
  have xh : bn_u (bn_shr x 32) = bn_u x / 2^32 := bn_shr_u z (by decide)
  have yh : bn_u (bn_shr y 32) = bn_u y / 2^32 := bn_shr_u z (by decide)
  have hxl : bn_u x % 2^32 < 2^32 := Nat.mod_lt _ (by decide)
  have hyl : bn_u y % 2^32 < 2^32 := Nat.mod_lt _ (by decide)
  have hxh : bn_u x / 2^32 < 2^30 := by omega
  have hyh : bn_u y / 2^32 < 2^30 := by omega
  have hX := Nat.div_add_mod (bn_u x) (2^32)
  have hY := Nat.div_add_mod (bn_u y) (2^32)
  generalize bn_u x / 2^32 = XH at *
  generalize bn_u x % 2^32 = XL at *
  generalize bn_u y / 2^32 = YH at *
  generalize bn_u y % 2^32 = YL at *
  have b1 := bn_mul_lt hxh hyh
  have b2 := bn_mul_lt hxh hyl
  have b3 := bn_mul_lt hxl hyh
  have b4 := bn_mul_lt hxl hyl
  have e : bn_u x * bn_u y = XH * YH * 2^64 + (XH * YL + XL * YH) * 2^32 + XL * YL := by
    rw [← hX, ← hY]
    simp only [Nat.add_mul, Nat.mul_add]
    have e1 : 2^32 * XH * (2^32 * YH) = XH * YH * 2^64 := by
      rw [Nat.mul_mul_mul_comm, Nat.mul_comm]
    have e2 : 2^32 * XH * YL = XH * YL * 2^32 := by rw [Nat.mul_assoc, Nat.mul_comm]
    have e3 : XL * (2^32 * YH) = XL * YH * 2^32 := by rw [Nat.mul_left_comm, Nat.mul_comm]
    omega
  have p1 : bn_u (bn_shr x 32 * bn_shr y 32) = XH * YH := by rw [bn_mul_u] <;> rw [xh, yh]; omega
  have p2 : bn_u (bn_shr x 32 * (y &&& 4294967295)) = XH * YL := by rw [bn_mul_u] <;> rw [xh, yl]; omega
  have p3 : bn_u ((x &&& 4294967295) * bn_shr y 32) = XL * YH := by rw [bn_mul_u] <;> rw [xl, yh]; omega
  have p4 : bn_u ((x &&& 4294967295) * (y &&& 4294967295)) = XL * YL := by rw [bn_mul_u] <;> rw [xl, yl]; omega
  generalize XH * YH = A at *
  generalize XH * YL = B at *
  generalize XL * YH = C at *
  generalize XL * YL = D at *
  have q1 : bn_u (bn_shr ((x &&& 4294967295) * (y &&& 4294967295)) 32) = D / 2^32 := by rw [bn_shr_u z (by decide), p4]
  have q2 : bn_u (bn_shr x 32 * (y &&& 4294967295) + bn_shr ((x &&& 4294967295) * (y &&& 4294967295)) 32) = B + D / 2^32 := by
    rw [bn_add_u] <;> rw [p2, q1]; omega
  generalize bn_shr x 32 * (y &&& 4294967295) + bn_shr ((x &&& 4294967295) * (y &&& 4294967295)) 32 = mid at *
  have q3 : bn_u (mid &&& 4294967295) = (B + D / 2^32) % 2^32 := by rw [bn_u_and, m32, bn_and_mask, q2]
  have q4 : bn_u ((x &&& 4294967295) * bn_shr y 32 + (mid &&& 4294967295)) = C + (B + D / 2^32) % 2^32 := by
    rw [bn_add_u] <;> rw [p3, q3]; omega
  generalize (x &&& 4294967295) * bn_shr y 32 + (mid &&& 4294967295) = oth at *
  have q5 : bn_u (bn_shr mid 32) = (B + D / 2^32) / 2^32 := by rw [bn_shr_u z (by decide), q2]
  have q6 : bn_u (bn_shr oth 32) = (C + (B + D / 2^32) % 2^32) / 2^32 := by rw [bn_shr_u z (by decide), q4]
  have q7 : bn_u (bn_shr x 32 * bn_shr y 32 + bn_shr mid 32) = A + (B + D / 2^32) / 2^32 := by rw [bn_add_u] <;> rw [p1, q5]; omega
  rw [bn_add_u] <;> rw [q7, q6]
  · rw [e]; omega
  · omega
theorem bn_lift {m : Int64} (h : bn_u m < 2^62) : (fFloating_lift m).toInt = 62 - bn_len (bn_u m) := by
  have : bn_len (bn_u m) ≤ 62 := bn_len_le.mpr h
  have z : (62 : Int32).toInt = 62 := rfl
  unfold fFloating_lift
  rw [bn_i_sub] <;> rw [bn_length, bn_i_ofNat (by omega), z]; omega
theorem bn_lifted {m : Int64} (h : bn_u m < 2^62) (h0 : 0 < bn_u m) : bn_u (bn_shl m (fFloating_lift m)) = bn_u m * 2^(62 - bn_len (bn_u m)) ∧ 2^61 ≤ bn_u m * 2^(62 - bn_len (bn_u m)) ∧ bn_u m * 2^(62 - bn_len (bn_u m)) < 2^62 := by
  have hl : bn_len (bn_u m) ≤ 62 := bn_len_le.mpr h
  have hl0 := bn_len_pos h0
  have e := bn_len_mul h0 (62 - bn_len (bn_u m))
  have h2 : bn_u m * 2^(62 - bn_len (bn_u m)) < 2^62 := bn_len_le.mp (by omega)
  refine ⟨bn_shl_u (by rw [bn_lift h]; omega) (by omega) (by omega), bn_lt_len.mp (by omega), h2⟩
theorem bn_tr64 (N : Nat) : bn_tr 64 N = if N % 2^64 = 0 then N / 2^64 else (N / 2^64) ||| 1 := by
  unfold bn_tr; rw [bn_or_one]
theorem bn_P_le (k : Nat) : 24 ≤ bn_P k ∧ bn_P k ≤ 53 := by unfold bn_P; split <;> omega
theorem bn_M_lt53 (k : Nat) (x : Int64) : bn_M k x < 2^53 := Nat.lt_of_lt_of_le (bn_M_lt k x) (Nat.pow_le_pow_right (by decide) (bn_P_le k).2)
theorem bn_mn_le (k : Nat) : -1074 ≤ bn_mn k ∧ bn_mn k ≤ -149 := by unfold bn_mn; split <;> omega
def bn_out (k : Nat) (neg : Int32) (m : Nat) (e : Int) : Int64 := fFormat_signed k neg (Int64.ofNat (min (bn_rn (bn_P k) (bn_mn k) m e) (bn_INF k)))
set_option maxHeartbeats 4000000 in
theorem bn_product_fin (k : Nat) (x y : Int64) (hx : bn_ok k x) (hy : bn_ok k y) (neg : Int32) (x0 : bn_mag k x ≠ 0) (y0 : bn_mag k y ≠ 0) :
    fFloating_product_105 k x y neg (fFloating_lift (fFormat_significand k x)) = bn_out k neg (bn_M k x * bn_M k y) (bn_S k x + bn_S k y) := by
  simp only [fFloating_product_105, fFloating_product_115, fFloating_product_125, fFloating_product_135, fFloating_product_144, fFloating_product_166, fFloating_product_188]
  have mx := bn_signif k x hx
  have my := bn_signif k y hy
  have sx := bn_scale k x hx
  have sy := bn_scale k y hy
  have mx0 := bn_M_pos k x x0
  have my0 := bn_M_pos k y y0
  have mxl := bn_M_lt53 k x
  have myl := bn_M_lt53 k y
  have sx1 := bn_S_ge k x
  have sx2 := bn_S_le k x
  have sy1 := bn_S_ge k y
  have sy2 := bn_S_le k y
  have hmn := bn_mn_le k
  have hP := bn_P_le k
  generalize fFormat_significand k x = sigx at *
  generalize fFormat_significand k y = sigy at *
  generalize fFormat_scale k x = scx at *
  generalize fFormat_scale k y = scy at *
  have lx := bn_lift (m := sigx) (by omega)
  have ly := bn_lift (m := sigy) (by omega)
  obtain ⟨rx, rx1, rx2⟩ := bn_lifted (m := sigx) (by omega) (by omega)
  obtain ⟨ry, ry1, ry2⟩ := bn_lifted (m := sigy) (by omega) (by omega)
  rw [mx] at lx rx rx1 rx2
  rw [my] at ly ry ry1 ry2
  have hlx : bn_len (bn_M k x) ≤ 53 := bn_len_le.mpr mxl
  have hly : bn_len (bn_M k y) ≤ 53 := bn_len_le.mpr myl
  have hlx0 := bn_len_pos mx0
  have hly0 := bn_len_pos my0
  generalize fFloating_lift sigx = liftx at *
  generalize fFloating_lift sigy = lifty at *
  have hh := bn_highProduct (bn_shl sigx liftx) (bn_shl sigy lifty) (by omega) (by omega)
  have hlow : (bn_shl sigx liftx * bn_shl sigy lifty = 0) ↔ (bn_M k x * 2^(62 - bn_len (bn_M k x)) * (bn_M k y * 2^(62 - bn_len (bn_M k y)))) % 2^64 = 0 := by
    rw [bn_u_zero, bn_u_mul, rx, ry]
  rw [rx, ry] at hh
  have N1 : 2^61 * 2^61 ≤ bn_M k x * 2^(62 - bn_len (bn_M k x)) * (bn_M k y * 2^(62 - bn_len (bn_M k y))) := Nat.mul_le_mul rx1 ry1
  have N2 : bn_M k x * 2^(62 - bn_len (bn_M k x)) * (bn_M k y * 2^(62 - bn_len (bn_M k y))) < 2^62 * 2^62 := bn_mul_lt rx2 ry2
  have NE : bn_M k x * 2^(62 - bn_len (bn_M k x)) * (bn_M k y * 2^(62 - bn_len (bn_M k y))) = bn_M k x * bn_M k y * 2^((62 - bn_len (bn_M k x)) + (62 - bn_len (bn_M k y))) := by
    rw [Nat.mul_mul_mul_comm, ← Nat.pow_add]
  generalize hN : bn_M k x * 2^(62 - bn_len (bn_M k x)) * (bn_M k y * 2^(62 - bn_len (bn_M k y))) = N at *
  have hfold : (if bn_shl sigx liftx * bn_shl sigy lifty = 0 then fFormat_rounded k neg (fFloating_highProduct (bn_shl sigx liftx) (bn_shl sigy lifty)) (scx - liftx + scy - lifty + 64)
      else fFormat_rounded k neg (fFloating_highProduct (bn_shl sigx liftx) (bn_shl sigy lifty) ||| 1) (scx - liftx + scy - lifty + 64))
      = fFormat_rounded k neg (if bn_shl sigx liftx * bn_shl sigy lifty = 0 then fFloating_highProduct (bn_shl sigx liftx) (bn_shl sigy lifty) else fFloating_highProduct (bn_shl sigx liftx) (bn_shl sigy lifty) ||| 1) (scx - liftx + scy - lifty + 64) := by
    split <;> rfl
  rw [hfold]
  have hmu : bn_u (if bn_shl sigx liftx * bn_shl sigy lifty = 0 then fFloating_highProduct (bn_shl sigx liftx) (bn_shl sigy lifty) else fFloating_highProduct (bn_shl sigx liftx) (bn_shl sigy lifty) ||| 1) = bn_tr 64 N := by
    rw [bn_tr64]
    simp only [hlow]
    split
    · exact hh
    · rw [bn_u_or, hh]; rfl
  generalize (if bn_shl sigx liftx * bn_shl sigy lifty = 0 then fFloating_highProduct (bn_shl sigx liftx) (bn_shl sigy lifty) else fFloating_highProduct (bn_shl sigx liftx) (bn_shl sigy lifty) ||| 1) = mm at *
  have z64 : (64 : Int32).toInt = 64 := rfl
  have e1 : (scx - liftx).toInt = bn_S k x - (62 - bn_len (bn_M k x)) := by rw [bn_i_sub] <;> omega
  have e2 : (scx - liftx + scy).toInt = bn_S k x - (62 - bn_len (bn_M k x)) + bn_S k y := by rw [bn_i_add] <;> omega
  have e3 : (scx - liftx + scy - lifty).toInt = bn_S k x - (62 - bn_len (bn_M k x)) + bn_S k y - (62 - bn_len (bn_M k y)) := by rw [bn_i_sub] <;> omega
  have e4 : (scx - liftx + scy - lifty + 64).toInt = bn_S k x - (62 - bn_len (bn_M k x)) + bn_S k y - (62 - bn_len (bn_M k y)) + 64 := by rw [bn_i_add] <;> omega
  have tlen : bn_len N ≤ 124 := bn_len_le.mpr (by omega)
  have tlen2 : 122 < bn_len N := bn_lt_len.mpr (by omega)
  have tl := bn_tr_len (k := 64) (m := N) (by omega)
  have t2 : bn_tr 64 N < 2^63 := bn_len_le.mp (by omega)
  have t0 : 0 < bn_tr 64 N := by
    rcases Nat.eq_zero_or_pos (bn_tr 64 N) with q | q
    · rw [q, bn_len_zero] at tl; omega
    · exact q
  have mm0 : mm ≠ 0 := fun q => by rw [bn_u_zero] at q; omega
  rw [bn_rounded k neg mm _ mm0 (by omega) (Or.inl (by omega))]
  unfold bn_out
  congr 3
  rw [hmu, e4]
  have g1 := bn_rn_tr (bn_P k) (bn_mn k) N (bn_S k x - (62 - bn_len (bn_M k x)) + bn_S k y - (62 - bn_len (bn_M k y))) 64 (by omega) (by unfold bn_ns; omega)
  have g2 := bn_rn_mul (bn_P k) (bn_mn k) (bn_M k x * bn_M k y) (bn_S k x - (62 - bn_len (bn_M k x)) + bn_S k y - (62 - bn_len (bn_M k y))) ((62 - bn_len (bn_M k x)) + (62 - bn_len (bn_M k y))) (Nat.mul_pos mx0 my0)
  rw [← NE] at g2
  have : (bn_S k x - (62 - bn_len (bn_M k x)) + bn_S k y - (62 - bn_len (bn_M k y))) + ((((62 - bn_len (bn_M k x)) + (62 - bn_len (bn_M k y)) : Nat)) : Int) = bn_S k x + bn_S k y := by omega
  rw [this] at g2
  rw [← g2, ← g1]
  rfl
