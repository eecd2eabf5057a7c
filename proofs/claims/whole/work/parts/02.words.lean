def bn_u (x : Int64) : Nat := x.toBitVec.toNat
theorem bn_u_lt (x : Int64) : bn_u x < 2^64 := x.toBitVec.isLt
theorem bn_u_inj {x y : Int64} (h : bn_u x = bn_u y) : x = y := by
  apply Int64.toBitVec_inj.mp
  exact BitVec.eq_of_toNat_eq h
theorem bn_s_u (x : Int64) : x.toInt = if bn_u x < 2^63 then (bn_u x : Int) else (bn_u x : Int) - 2^64 := by
  have h := BitVec.toInt_eq_toNat_cond x.toBitVec
  rw [Int64.toInt_toBitVec] at h
  rw [h]; unfold bn_u
  have := x.toBitVec.isLt
  split <;> split <;> omega
def bn_shl (x : Int64) (y : Int32) : Int64 := x <<< (y.toInt64 &&& 63)
def bn_shr (x : Int64) (y : Int32) : Int64 := (x.toUInt64 >>> (y.toInt64.toUInt64 &&& Int64.toUInt64 63)).toInt64
def bn_sar (x : Int64) (y : Int32) : Int64 := x >>> (y.toInt64 &&& 63)
theorem bn_u_i2l (y : Int32) : (bn_u y.toInt64 : Int) = y.toInt % 2^64 := by
  have h := bn_s_u y.toInt64
  rw [Int32.toInt_toInt64] at h
  have h1 := bn_u_lt y.toInt64
  split at h <;> omega
theorem bn_u_and63 (y : Int32) : bn_u (y.toInt64 &&& 63) = (y.toInt % 64).toNat := by
  have h : bn_u (y.toInt64 &&& 63) = bn_u y.toInt64 % 64 := by
    have : bn_u (y.toInt64 &&& 63) = bn_u y.toInt64 &&& (2^6 - 1) := by simp [bn_u]
    rw [this, Nat.and_two_pow_sub_one_eq_mod]
  have h2 := bn_u_i2l y
  omega
theorem bn_smod {b : BitVec 64} (h : b.toNat < 64) : (b.smod 64#64).toNat = b.toNat := by
  have hm : b.msb = false := by
    rw [BitVec.msb_eq_false_iff_two_mul_lt]; omega
  rw [BitVec.smod_eq, hm, show (64#64).msb = false by decide]
  show (b % 64#64).toNat = _
  rw [BitVec.toNat_umod]
  exact Nat.mod_eq_of_lt h
theorem bn_u_shl (x : Int64) (y : Int32) : bn_u (bn_shl x y) = bn_u x * 2^(y.toInt % 64).toNat % 2^64 := by
  have hk := bn_u_and63 y
  have hlt : (y.toInt % 64).toNat < 64 := by omega
  have hs : ((y.toInt64 &&& 63).toBitVec.smod 64#64).toNat = (y.toInt % 64).toNat := by
    have hk' : (y.toInt64 &&& 63).toBitVec.toNat = (y.toInt % 64).toNat := hk
    rw [bn_smod (by omega), hk']
  unfold bn_u bn_shl
  rw [Int64.toBitVec_shiftLeft]
  rw [show (64 : BitVec 64) = 64#64 from rfl]
  rw [BitVec.shiftLeft_eq', BitVec.toNat_shiftLeft, hs, Nat.shiftLeft_eq]
theorem bn_u_shr (x : Int64) (y : Int32) : bn_u (bn_shr x y) = bn_u x / 2^(y.toInt % 64).toNat := by
  have hk := bn_u_and63 y
  have hlt : (y.toInt % 64).toNat < 64 := by omega
  unfold bn_u bn_shr
  have : (y.toInt64.toUInt64 &&& Int64.toUInt64 63).toNat = (y.toInt % 64).toNat := hk
  show (x.toUInt64 >>> (y.toInt64.toUInt64 &&& Int64.toUInt64 63)).toNat = _
  rw [UInt64.toNat_shiftRight, this, Nat.mod_eq_of_lt hlt, Nat.shiftRight_eq_div_pow]
  rfl
theorem bn_s_sar (x : Int64) (y : Int32) : (bn_sar x y).toInt = x.toInt / 2^(y.toInt % 64).toNat := by
  have hk := bn_u_and63 y
  have hlt : (y.toInt % 64).toNat < 64 := by omega
  have hs : ((y.toInt64 &&& 63).toBitVec.smod 64#64).toNat = (y.toInt % 64).toNat := by
    have hk' : (y.toInt64 &&& 63).toBitVec.toNat = (y.toInt % 64).toNat := hk
    rw [bn_smod (by omega), hk']
  rw [← Int64.toInt_toBitVec]
  unfold bn_sar
  rw [Int64.toBitVec_shiftRight]
  rw [show (64 : BitVec 64) = 64#64 from rfl]
  rw [BitVec.sshiftRight_eq', BitVec.toInt_sshiftRight, hs, Int.shiftRight_eq_div_pow]
  simp
def bn_len (m : Nat) : Nat := if m = 0 then 0 else m.log2 + 1
theorem bn_len_le {m k : Nat} : bn_len m ≤ k ↔ m < 2^k := by
  unfold bn_len
  split
  · next h => subst h; exact ⟨fun _ => Nat.two_pow_pos k, fun _ => Nat.zero_le _⟩
  · next h => rw [← Nat.log2_lt h]; exact Iff.rfl
theorem bn_lt_len {m k : Nat} : k < bn_len m ↔ 2^k ≤ m := by
  rw [← Nat.not_le, bn_len_le, Nat.not_lt]
theorem bn_len_eq {m k : Nat} (h1 : 2^k ≤ m) (h2 : m < 2^(k+1)) : bn_len m = k + 1 := by
  have := bn_len_le.mpr h2
  have := bn_lt_len.mpr h1
  omega
theorem bn_len_zero : bn_len 0 = 0 := rfl
theorem bn_len_pos {m : Nat} (h : 0 < m) : 0 < bn_len m := by rw [bn_lt_len]; exact h
theorem bn_len_lt (m : Nat) : m < 2^bn_len m := bn_len_le.mp (Nat.le_refl _)
theorem bn_len_ge {m : Nat} (h : 0 < m) : 2^(bn_len m - 1) ≤ m := bn_lt_len.mp (by have := bn_len_pos h; omega)
theorem bn_len_mono {a b : Nat} (h : a ≤ b) : bn_len a ≤ bn_len b := bn_len_le.mpr (Nat.lt_of_le_of_lt h (bn_len_lt b))
theorem bn_len_mul {m : Nat} (h : 0 < m) (k : Nat) : bn_len (m * 2^k) = bn_len m + k := by
  have h1 := bn_len_pos h
  have e : bn_len m + k = (bn_len m - 1 + k) + 1 := by omega
  rw [e]; apply bn_len_eq
  · rw [Nat.pow_add]; exact Nat.mul_le_mul_right _ (bn_len_ge h)
  · rw [show bn_len m - 1 + k + 1 = bn_len m + k by omega, Nat.pow_add]
    exact Nat.mul_lt_mul_of_pos_right (bn_len_lt m) (Nat.two_pow_pos k)
theorem bn_len_div (m k : Nat) : bn_len (m / 2^k) = bn_len m - k := by
  rcases Nat.lt_or_ge m (2^k) with h | h
  · rw [Nat.div_eq_of_lt h]; have := bn_len_le.mpr h; simp [bn_len_zero]; omega
  · have h1 := bn_lt_len.mpr h
    have e : bn_len m - k = (bn_len m - k - 1) + 1 := by omega
    have hm : 0 < m := Nat.lt_of_lt_of_le (Nat.two_pow_pos k) h
    rw [e]; apply bn_len_eq
    · rw [Nat.le_div_iff_mul_le (Nat.two_pow_pos k), ← Nat.pow_add, show bn_len m - k - 1 + k = bn_len m - 1 by omega]
      exact bn_len_ge hm
    · rw [Nat.div_lt_iff_lt_mul (Nat.two_pow_pos k), ← Nat.pow_add, show bn_len m - k - 1 + 1 + k = bn_len m by omega]
      exact bn_len_lt m
def bn_rne (m d : Nat) : Nat := m / 2^d + (if 2^d < 2 * (m % 2^d) ∨ (2 * (m % 2^d) = 2^d ∧ m / 2^d % 2 = 1) then 1 else 0)
theorem bn_rne_zero (m : Nat) : bn_rne m 0 = m := by
  unfold bn_rne; simp [Nat.mod_one]
def bn_tr (k m : Nat) : Nat := if m % 2^k = 0 then m / 2^k else m / 2^k / 2 * 2 + 1
theorem bn_tr_zero (m : Nat) : bn_tr 0 m = m := by simp [bn_tr, Nat.mod_one]
theorem bn_tr_half (k m : Nat) : bn_tr k m / 2 = m / 2^k / 2 := by
  unfold bn_tr; split <;> omega
theorem bn_tr_len {k m : Nat} (h : 2^k ≤ m) : bn_len (bn_tr k m) = bn_len m - k := by
  rw [← bn_len_div]
  have hA : 1 ≤ m / 2^k := (Nat.le_div_iff_mul_le (Nat.two_pow_pos k)).mpr (by omega)
  unfold bn_tr
  split
  · rfl
  · generalize m / 2^k = A at *
    have h1 := bn_len_lt A
    have h2 := bn_len_ge hA
    have h3 := bn_len_pos hA
    have e : bn_len A = (bn_len A - 1) + 1 := by omega
    rw [e]
    apply bn_len_eq
    · omega
    · rw [← e]
      rcases Nat.eq_or_lt_of_le h3 with q | q
      · rw [← q] at h1 ⊢; omega
      · have : 2 ^ bn_len A = 2 * 2^(bn_len A - 1) := by rw [← Nat.pow_succ']; congr 1
        omega
theorem bn_div_pow (m k d : Nat) : m / 2^(d + k) = m / 2^k / 2^d := by
  rw [Nat.div_div_eq_div_mul, ← Nat.pow_add, Nat.add_comm]
theorem bn_mod_pow (m k d : Nat) : m % 2^(d + k) = (m / 2^k % 2^d) * 2^k + m % 2^k := by
  rw [Nat.add_comm d k, Nat.pow_add, Nat.mod_mul, Nat.mul_comm (2^k)]; omega
theorem bn_rne_tr (m k d : Nat) (hd : 2 ≤ d) : bn_rne (bn_tr k m) d = bn_rne m (d + k) := by
  have q1 : bn_tr k m / 2^d = m / 2^(d + k) := by
    have : 2^d = 2 * 2^(d-1) := by rw [← Nat.pow_succ']; congr 1; omega
    rw [bn_div_pow, this, ← Nat.div_div_eq_div_mul, ← Nat.div_div_eq_div_mul, bn_tr_half]
  unfold bn_rne
  rw [q1]
  congr 1
  have hK := Nat.two_pow_pos k
  have hr := Nat.mod_lt m hK
  have ha := Nat.mod_lt (m / 2^k) (Nat.two_pow_pos d)
  have e1 := bn_mod_pow m k d
  have e2 : bn_tr k m % 2^d = if m % 2^k = 0 then m / 2^k % 2^d else (m / 2^k % 2^d) / 2 * 2 + 1 := by
    unfold bn_tr
    split
    · rfl
    · have h2 : 2^d = 2 * 2^(d-1) := by rw [← Nat.pow_succ']; congr 1; omega
      rw [h2, Nat.mod_mul, Nat.mod_mul, show (m / 2^k / 2 * 2 + 1) / 2 = m / 2^k / 2 by omega, show (m / 2^k / 2 * 2 + 1) % 2 = 1 by omega]
      omega
  have h2 : 2^d = 4 * 2^(d-2) := by
    rw [show (4 : Nat) = 2^2 from rfl, ← Nat.pow_add]; congr 1; omega
  rw [e1, e2, Nat.pow_add]
  generalize m / 2^k % 2^d = a at *
  generalize m % 2^k = r at *
  generalize hh : 2^(d-2) = h at *
  generalize 2^k = K at *
  rw [h2]
  have c1 : (4 * h * K < 2 * (a * K + r)) ↔ (2 * h < a ∨ (a = 2 * h ∧ 0 < r)) := by
    constructor
    · intro q
      rcases Nat.lt_trichotomy a (2 * h) with w | w | w
      · exfalso
        have : (a + 1) * K ≤ 2 * h * K := Nat.mul_le_mul_right K w
        rw [Nat.add_mul] at this
        have e : 4 * h * K = 2 * (2 * h * K) := by rw [← Nat.mul_assoc, ← Nat.mul_assoc]
        omega
      · right
        refine ⟨w, ?_⟩
        subst w
        have e : 4 * h * K = 2 * (2 * h * K) := by rw [← Nat.mul_assoc, ← Nat.mul_assoc]
        omega
      · exact Or.inl w
    · have e : 4 * h * K = 2 * (2 * h * K) := by rw [← Nat.mul_assoc, ← Nat.mul_assoc]
      rintro (w | ⟨w, w2⟩)
      · have : (2 * h + 1) * K ≤ a * K := Nat.mul_le_mul_right K w
        rw [Nat.add_mul] at this
        omega
      · subst w; omega
  have c2 : (2 * (a * K + r) = 4 * h * K) ↔ (a = 2 * h ∧ r = 0) := by
    have e : 4 * h * K = 2 * (2 * h * K) := by rw [← Nat.mul_assoc, ← Nat.mul_assoc]
    constructor
    · intro q
      rcases Nat.lt_trichotomy a (2 * h) with w | w | w
      · exfalso
        have : (a + 1) * K ≤ 2 * h * K := Nat.mul_le_mul_right K w
        rw [Nat.add_mul] at this
        omega
      · refine ⟨w, ?_⟩
        subst w; omega
      · exfalso
        have : (2 * h + 1) * K ≤ a * K := Nat.mul_le_mul_right K w
        rw [Nat.add_mul] at this
        omega
    · rintro ⟨w, w2⟩
      subst w; omega
  simp only [c1, c2]
  split
  · next hr0 =>
    have i1 : (4 * h < 2 * a ↔ (2 * h < a ∨ a = 2 * h ∧ 0 < r)) := by omega
    have i2 : (2 * a = 4 * h ↔ (a = 2 * h ∧ r = 0)) := by omega
    simp only [i1, i2]
  · next hr0 =>
    have i1 : (4 * h < 2 * (a / 2 * 2 + 1) ↔ (2 * h < a ∨ a = 2 * h ∧ 0 < r)) := by omega
    have i2 : (2 * (a / 2 * 2 + 1) = 4 * h ↔ (a = 2 * h ∧ r = 0)) := by omega
    simp only [i1, i2]
theorem bn_rne_mul (m k d : Nat) : bn_rne (m * 2^k) (d + k) = bn_rne m d := by
  unfold bn_rne
  rw [bn_div_pow, Nat.mul_div_cancel _ (Nat.two_pow_pos k), bn_mod_pow, Nat.mul_mod_left, Nat.mul_div_cancel _ (Nat.two_pow_pos k)]
  congr 1
  have hK := Nat.two_pow_pos k
  rw [Nat.pow_add]
  generalize m % 2^d = a at *
  generalize 2^d = D at *
  generalize 2^k = K at *
  have i1 : (D * K < 2 * (a * K + 0)) ↔ D < 2 * a := by
    rw [Nat.add_zero, ← Nat.mul_assoc]
    exact Nat.mul_lt_mul_right hK
  have i2 : (2 * (a * K + 0) = D * K) ↔ 2 * a = D := by
    rw [Nat.add_zero, ← Nat.mul_assoc]
    exact Nat.mul_left_inj (by omega)
  simp only [i1, i2]
def bn_ns (P : Nat) (mn : Int) (m : Nat) (e : Int) : Int := max (e + bn_len m - P) mn
def bn_rn (P : Nat) (mn : Int) (m : Nat) (e : Int) : Nat :=
  (bn_ns P mn m e - mn).toNat * 2^(P-1) + (if bn_ns P mn m e ≤ e then m * 2^(e - bn_ns P mn m e).toNat else bn_rne m (bn_ns P mn m e - e).toNat)
theorem bn_rn_tr (P : Nat) (mn : Int) (m : Nat) (e : Int) (k : Nat) (h : 2^k ≤ m) (hk : e + k + 2 ≤ bn_ns P mn m e) :
    bn_rn P mn (bn_tr k m) (e + k) = bn_rn P mn m e := by
  have hl := bn_tr_len h
  have h0 := bn_lt_len.mpr h
  have hns : bn_ns P mn (bn_tr k m) (e + k) = bn_ns P mn m e := by
    unfold bn_ns; rw [hl]; congr 1; omega
  unfold bn_rn
  rw [hns, if_neg (by omega), if_neg (by omega), bn_rne_tr _ _ _ (by omega)]
  congr 2; omega
theorem bn_rn_mul (P : Nat) (mn : Int) (m : Nat) (e : Int) (k : Nat) (h : 0 < m) :
    bn_rn P mn (m * 2^k) e = bn_rn P mn m (e + k) := by
  have hl := bn_len_mul h k
  have hns : bn_ns P mn (m * 2^k) e = bn_ns P mn m (e + k) := by
    unfold bn_ns; rw [hl]; congr 1; omega
  unfold bn_rn
  rw [hns]
  generalize bn_ns P mn m (e + k) = n
  congr 1
  by_cases q : n ≤ e
  · rw [if_pos q, if_pos (by omega), Nat.mul_assoc, ← Nat.pow_add]; congr 2; omega
  · rw [if_neg q]
    by_cases q2 : n ≤ e + k
    · rw [if_pos q2]
      have e1 : k = (e + k - n).toNat + (n - e).toNat := by omega
      generalize hj : (e + k - n).toNat = j at *
      rw [e1, Nat.pow_add, ← Nat.mul_assoc]
      have := bn_rne_mul (m * 2^j) (n - e).toNat 0
      rw [Nat.zero_add] at this
      rw [this, bn_rne_zero]
    · rw [if_neg q2, show (n - e).toNat = (n - (e + k)).toNat + k by omega, bn_rne_mul]
