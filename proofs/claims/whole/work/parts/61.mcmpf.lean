def sd (F : Nat → Nat) (b t : Nat) : Nat := (F t * 2^b) % 65536 + (if t = 0 then 0 else F (t - 1) * 2^b / 65536)
theorem sd_val (F : Nat → Nat) (b : Nat) : ∀ n, dgV (sd F b) (n + 1) + (F n * 2^b / 65536) * 65536^(n + 1) = 2^b * dgV F (n + 1) := by
  intro n
  induction n with
  | zero =>
    show 0 + sd F b 0 * 65536^0 + _ = 2^b * (0 + F 0 * 65536^0)
    unfold sd
    rw [if_pos rfl]
    generalize hX : F 0 * 2^b = X
    have : 2^b * (0 + F 0 * 65536^0) = X := by rw [← hX]; simp [Nat.mul_comm]
    rw [this]
    omega
  | succ n ih =>
    have hs : sd F b (n + 1) = (F (n + 1) * 2^b) % 65536 + F n * 2^b / 65536 := by unfold sd; rw [if_neg (Nat.succ_ne_zero n)]; rfl
    show dgV (sd F b) (n + 1) + sd F b (n + 1) * 65536^(n + 1) + _ = 2^b * (dgV F (n + 1) + F (n + 1) * 65536^(n + 1))
    rw [hs, Nat.mul_add, ← ih]
    generalize dgV (sd F b) (n + 1) = Vv
    have e : 2^b * (F (n + 1) * 65536^(n + 1)) = F (n + 1) * 2^b * 65536^(n + 1) := by rw [← Nat.mul_assoc, Nat.mul_comm (2^b)]
    rw [e, Nat.pow_succ 65536 (n + 1)]
    generalize F (n + 1) * 2^b = X
    generalize F n * 2^b / 65536 = Y
    generalize 65536^(n + 1) = B
    have e2 : X % 65536 * B + X / 65536 * (B * 65536) = X * B := by
      rw [Nat.mul_comm B 65536, ← Nat.mul_assoc, ← Nat.add_mul]; congr 1; omega
    rw [Nat.add_mul]
    omega
theorem sd_lt (F : Nat → Nat) (b t : Nat) (hb : b < 16) (hF : ∀ j, j < 16 → F j < 65536) (hz : ∀ j, 16 ≤ j → F j = 0) : sd F b t < 65536 ∧ (F t * 2^b % 65536) % 2^b = 0 ∧ (if t = 0 then 0 else F (t - 1) * 2^b / 65536) < 2^b := by
  have hall : ∀ j, F j < 65536 := fun j => by
    rcases Nat.lt_or_ge j 16 with q | q
    · exact hF j q
    · rw [hz j q]; decide
  have hd : 65536 = 2^b * 2^(16 - b) := by rw [← Nat.pow_add, show b + (16 - b) = 16 by omega]
  have h2 : (F t * 2^b % 65536) % 2^b = 0 := by
    rw [hd, Nat.mod_mul_right_mod, Nat.mul_mod_left]
  have h3 : (if t = 0 then 0 else F (t - 1) * 2^b / 65536) < 2^b := by
    split
    · exact Nat.two_pow_pos b
    · rw [Nat.div_lt_iff_lt_mul (by decide), Nat.mul_comm (2^b)]
      exact Nat.mul_lt_mul_of_pos_right (hall _) (Nat.two_pow_pos b)
  refine ⟨?_, h2, h3⟩
  unfold sd
  have h4 : F t * 2^b % 65536 < 65536 := Nat.mod_lt _ (by decide)
  generalize F t * 2^b % 65536 = X at *
  generalize (if t = 0 then 0 else F (t - 1) * 2^b / 65536) = Y at *
  have h5 : X = 2^b * (X / 2^b) := by have := Nat.div_add_mod X (2^b); omega
  have h6 : X / 2^b < 2^(16 - b) := by
    rw [Nat.div_lt_iff_lt_mul (Nat.two_pow_pos b), Nat.mul_comm, ← hd]; exact h4
  have h7 : 2^b * (X / 2^b + 1) ≤ 2^b * 2^(16 - b) := Nat.mul_le_mul_left _ h6
  rw [← hd, Nat.mul_add, Nat.mul_one] at h7
  omega
theorem i_or_add {a b : Nat} {n : Nat} (ha : a % 2^n = 0) (hb : b < 2^n) : a ||| b = a + b := by
  have h := Nat.two_pow_add_eq_or_of_lt hb (a / 2^n)
  have e : 2^n * (a / 2^n) = a := by have := Nat.div_add_mod a (2^n); omega
  rw [e] at h; exact h.symm
theorem v_or (x y : Int32) : bn_v (x ||| y) = bn_v x ||| bn_v y := by simp [bn_v]
theorem v_shl (x : Int32) (b : Int32) (B : Nat) (hb : b.toInt = B) (hB : B < 16) (hx : bn_v x < 65536) : bn_v (x <<< (b &&& 31)) = bn_v x * 2^B := by
  have h1 : b = Int32.ofNat B := Int32.toInt_inj.mp (by rw [hb, bn_i_ofNat (by omega)])
  have e2 : ((b &&& 31).toBitVec.smod 32).toNat = B := by
    rw [h1]
    have : ∀ n : Nat, n < 16 → ((Int32.ofNat n &&& 31).toBitVec.smod 32).toNat = n := by decide
    exact this B hB
  have e : (x <<< (b &&& 31)).toBitVec = x.toBitVec <<< ((b &&& 31).toBitVec.smod 32) := rfl
  unfold bn_v at *
  rw [e, BitVec.shiftLeft_eq', BitVec.toNat_shiftLeft, e2, Nat.shiftLeft_eq]
  apply Nat.mod_eq_of_lt
  have : 2^B ≤ 2^15 := Nat.pow_le_pow_right (by decide) (by omega)
  have h3 : x.toBitVec.toNat * 2^B ≤ 65535 * 2^15 := Nat.mul_le_mul (by omega) this
  omega
theorem v_shr (x : Int32) (c : Int32) (Cc : Nat) (hc : c.toInt = Cc) (hC : 1 ≤ Cc) (hC2 : Cc ≤ 16) (hx : bn_v x < 65536) : bn_v (x >>> (c &&& 31)) = bn_v x / 2^Cc := by
  have h1 : c = Int32.ofNat Cc := Int32.toInt_inj.mp (by rw [hc, bn_i_ofNat (by omega)])
  have e2 : ((c &&& 31).toBitVec.smod 32).toNat = Cc := by
    rw [h1]
    have : ∀ n : Nat, n < 17 → ((Int32.ofNat n &&& 31).toBitVec.smod 32).toNat = n := by decide
    exact this Cc (by omega)
  have e : (x >>> (c &&& 31)).toBitVec = x.toBitVec.sshiftRight' ((c &&& 31).toBitVec.smod 32) := rfl
  have hpos : 0 ≤ x.toInt := by
    have := bn_v_s x
    split at this <;> omega
  have hi : (x >>> (c &&& 31)).toInt = x.toInt / 2^Cc := by
    rw [← Int32.toInt_toBitVec, e, BitVec.sshiftRight_eq', BitVec.toInt_sshiftRight, e2, Int.shiftRight_eq_div_pow, Int32.toInt_toBitVec]
    simp
  have hx2 : x.toInt = bn_v x := by rw [bn_v_pos hpos]; omega
  have hi2 : (x >>> (c &&& 31)).toInt = ((bn_v x / 2^Cc : Nat) : Int) := by rw [hi, hx2]; simp
  generalize bn_v x / 2^Cc = q at *
  rw [bn_v_pos (by rw [hi2]; omega), hi2]; omega
theorem shifted_58 (b hi lo : Int32) (B : Nat) (σ : MS) (hb : b.toInt = B) (hB : B < 16) (h1 : bn_v hi < 65536) (h2 : bn_v lo < 65536) :
    (fM_shifted_58 b hi lo σ).2 = σ ∧ (fM_shifted_58 b hi lo σ).1.toInt = (((bn_v hi * 2^B) % 65536 + bn_v lo * 2^B / 65536 : Nat) : Int) := by
  refine ⟨rfl, ?_⟩
  show (((hi <<< (b &&& 31)) ||| (lo >>> ((16 - b) &&& 31))) &&& 65535).toInt = _
  have z16 : (16 : Int32).toInt = 16 := rfl
  have hc : (16 - b).toInt = ((16 - B : Nat) : Int) := by rw [bn_i_sub] <;> rw [z16, hb] <;> omega
  rw [dg_and16, v_or, v_shl hi b B hb hB h1, v_shr lo (16 - b) (16 - B) hc (by omega) (by omega) h2]
  have hd : 65536 = 2^B * 2^(16 - B) := by rw [← Nat.pow_add, show B + (16 - B) = 16 by omega]
  have e1 : bn_v lo * 2^B / 65536 = bn_v lo / 2^(16 - B) := by
    rw [hd, Nat.mul_comm (2^B), Nat.mul_div_mul_right _ _ (Nat.two_pow_pos B)]
  have e2 : bn_v lo / 2^(16 - B) < 2^B := by
    rw [Nat.div_lt_iff_lt_mul (Nat.two_pow_pos _), ← hd]; exact h2
  rw [e1, i_or_add (n := B) (Nat.mul_mod_left _ _) e2]
  congr 1
  generalize bn_v lo / 2^(16 - B) = Y at *
  have h4 : bn_v hi * 2^B % 65536 < 65536 := Nat.mod_lt _ (by decide)
  have h5 : (bn_v hi * 2^B % 65536) % 2^B = 0 := by
    conv => lhs; rw [hd]
    rw [Nat.mod_mul_right_mod, Nat.mul_mod_left]
  have key : bn_v hi * 2^B % 65536 + Y < 65536 := by
    generalize bn_v hi * 2^B % 65536 = X at *
    have h6 : X = 2^B * (X / 2^B) := by have := Nat.div_add_mod X (2^B); omega
    have h7 : X / 2^B < 2^(16 - B) := by
      rw [Nat.div_lt_iff_lt_mul (Nat.two_pow_pos B), Nat.mul_comm, ← hd]; exact h4
    have h8 : 2^B * (X / 2^B + 1) ≤ 2^B * 2^(16 - B) := Nat.mul_le_mul_left _ h7
    rw [← hd, Nat.mul_add, Nat.mul_one] at h8
    omega
  generalize bn_v hi * 2^B = Z at *
  omega
theorem dg_v {f : Nat → Int32} {k : Nat} (h : 0 ≤ (f k).toInt) : bn_v (f k) = dg f k := by rw [bn_v_pos h]; rfl
def dgz (f : Nat → Int32) (n k : Nat) : Nat := if k < n then dg f k else 0
theorem shifted_val (U k : Nat) (u i : Int32) (σ : MS) (hu : u.toInt = U) (hi : i.toInt = k) (hU : U < 100000) (hk : k < 100000) (hok : dg_ok (ms_factor σ) 16) :
    (fM_shifted u i σ).2 = σ ∧ (fM_shifted u i σ).1.toInt = ((if k < U / 16 then 0 else sd (dgz (ms_factor σ) 16) (U % 16) (k - U / 16) : Nat) : Int) := by
  have z16 : (16 : Int32).toInt = 16 := rfl
  have z0 : (0 : Int32).toInt = 0 := rfl
  have z1 : (1 : Int32).toInt = 1 := rfl
  have z17 : (17 : Int32).toInt = 17 := rfl
  have d1 : (u / 16).toInt = ((U / 16 : Nat) : Int) := by rw [i_div16 (by omega), hu]; omega
  have d2 : (i - u / 16).toInt = (k : Int) - ((U / 16 : Nat) : Int) := by rw [bn_i_sub] <;> rw [d1] <;> omega
  have d3 : (u / 16 * 16).toInt = ((U / 16 * 16 : Nat) : Int) := by
    rw [Int32.toInt_mul, d1, z16, Int.bmod_eq_of_le] <;> omega
  have d4 : (u - u / 16 * 16).toInt = ((U % 16 : Nat) : Int) := by rw [bn_i_sub] <;> rw [d3] <;> omega
  unfold fM_shifted fM_shifted_7 fM_shifted_13 fM_shifted_32
  generalize i - u / 16 = at' at *
  generalize u - u / 16 * 16 = by' at *
  have v0 : bn_v 0 = 0 := rfl
  have fin : ∀ hi lo : Int32, ∀ H Lo : Nat, bn_v hi = H → bn_v lo = Lo → H < 65536 → Lo < 65536 → (if k < U / 16 then 0 else sd (dgz (ms_factor σ) 16) (U % 16) (k - U / 16)) = (H * 2^(U % 16)) % 65536 + Lo * 2^(U % 16) / 65536 →
      (fM_shifted_58 by' hi lo σ).2 = σ ∧ (fM_shifted_58 by' hi lo σ).1.toInt = ((if k < U / 16 then 0 else sd (dgz (ms_factor σ) 16) (U % 16) (k - U / 16) : Nat) : Int) := by
    intro hi lo H Lo e1 e2 l1 l2 e3
    rw [e3, ← e1, ← e2]
    exact shifted_58 by' hi lo (U % 16) σ d4 (by omega) (by omega) (by omega)
  have fin33 : ∀ hi : Int32, ∀ H : Nat, bn_v hi = H → H < 65536 → H = (if k < U / 16 then 0 else dgz (ms_factor σ) 16 (k - U / 16)) →
      (fM_shifted_33 at' by' hi σ).2 = σ ∧ (fM_shifted_33 at' by' hi σ).1.toInt = ((if k < U / 16 then 0 else sd (dgz (ms_factor σ) 16) (U % 16) (k - U / 16) : Nat) : Int) := by
    intro hi H e1 l1 e2
    unfold fM_shifted_33 fM_shifted_57
    by_cases q1 : at' < 1
    · rw [if_pos q1]
      rw [Int32.lt_iff_toInt_lt, d2, z1] at q1
      refine fin hi 0 H 0 e1 v0 l1 (by decide) ?_
      rw [e2, Nat.zero_mul, Nat.zero_div, Nat.add_zero]
      by_cases w : k < U / 16
      · rw [if_pos w, if_pos w]; simp
      · rw [if_neg w, if_neg w]
        unfold sd
        rw [if_pos (by omega), Nat.add_zero]
    · rw [if_neg q1]
      rw [Int32.lt_iff_toInt_lt, d2, z1] at q1
      have w : ¬ k < U / 16 := by omega
      rw [if_neg w] at e2
      by_cases q2 : (17 : Int32) ≤ at'
      · rw [if_pos q2]
        rw [Int32.le_iff_toInt_le, d2, z17] at q2
        refine fin hi 0 H 0 e1 v0 l1 (by decide) ?_
        rw [if_neg w, e2, Nat.zero_mul, Nat.zero_div, Nat.add_zero]
        unfold sd
        rw [if_neg (by omega)]
        have : dgz (ms_factor σ) 16 (k - U / 16 - 1) = 0 := by unfold dgz; rw [if_neg (by omega)]
        rw [this, Nat.zero_mul, Nat.zero_div, Nat.add_zero]
      · rw [if_neg q2]
        rw [Int32.le_iff_toInt_le, d2, z17] at q2
        have hc : (at' - 1).toNatClampNeg = k - U / 16 - 1 := by
          have : (at' - 1).toInt = (k : Int) - ((U / 16 : Nat) : Int) - 1 := by rw [bn_i_sub] <;> rw [d2, z1]; omega
          show (at' - 1).toInt.toNat = _
          rw [this]; omega
        rw [hc]
        have hl := hok (k - U / 16 - 1) (by omega)
        refine fin hi _ H (dg (ms_factor σ) (k - U / 16 - 1)) e1 (dg_v hl.1) l1 (dg_lt hok _ (by omega)) ?_
        rw [if_neg w, e2]
        unfold sd
        rw [if_neg (by omega)]
        have : dgz (ms_factor σ) 16 (k - U / 16 - 1) = dg (ms_factor σ) (k - U / 16 - 1) := by unfold dgz; rw [if_pos (by omega)]
        rw [this]
  by_cases q1 : at' < 0
  · rw [if_pos q1]
    rw [Int32.lt_iff_toInt_lt, d2, z0] at q1
    exact fin33 0 0 v0 (by decide) (by rw [if_pos (by omega)])
  · rw [if_neg q1]
    rw [Int32.lt_iff_toInt_lt, d2, z0] at q1
    by_cases q2 : (16 : Int32) ≤ at'
    · rw [if_pos q2]
      rw [Int32.le_iff_toInt_le, d2, z16] at q2
      exact fin33 0 0 v0 (by decide) (by rw [if_neg (by omega)]; unfold dgz; rw [if_neg (by omega)])
    · rw [if_neg q2]
      rw [Int32.le_iff_toInt_le, d2, z16] at q2
      have hc : at'.toNatClampNeg = k - U / 16 := by
        show at'.toInt.toNat = _
        rw [d2]; omega
      rw [hc]
      have hl := hok (k - U / 16) (by omega)
      exact fin33 _ (dg (ms_factor σ) (k - U / 16)) (dg_v hl.1) (dg_lt hok _ (by omega)) (by rw [if_neg (by omega)]; unfold dgz; rw [if_pos (by omega)])
