theorem bn_two_s (s : Int64) (h : bn_u s < 2^54) : bn_u (2 * s + 1) = 2 * bn_u s + 1 := by
  have h1 : bn_u (2 * s) = 2 * bn_u s := by rw [bn_mul_u] <;> rw [show bn_u 2 = 2 from rfl]; omega
  rw [bn_add_u] <;> rw [h1, show bn_u 1 = 1 from rfl]; omega
theorem bn_mid (m : Nat) (e0 ns : Int) : (0 < bn_sgn m e0 (2 * bn_fl m e0 ns + 1) (ns - 1) ∨ (bn_sgn m e0 (2 * bn_fl m e0 ns + 1) (ns - 1) = 0 ∧ bn_fl m e0 ns % 2 = 1)) ↔
    (¬ ns ≤ e0 ∧ (2^(ns - e0).toNat < 2 * (m % 2^(ns - e0).toNat) ∨ (2 * (m % 2^(ns - e0).toNat) = 2^(ns - e0).toNat ∧ m / 2^(ns - e0).toNat % 2 = 1))) := by
  unfold bn_sgn
  rw [dg_sg_pos, dg_sg_zero]
  unfold bn_fl
  by_cases h : ns ≤ e0
  · rw [if_pos h, show (ns - 1 - e0).toNat = 0 by omega, Nat.pow_zero, Nat.mul_one, show (e0 - (ns - 1)).toNat = (e0 - ns).toNat + 1 by omega, Nat.pow_succ]
    generalize hx : m * 2^(e0 - ns).toNat = X
    have : m * (2^(e0 - ns).toNat * 2) = 2 * X := by rw [← hx, ← Nat.mul_assoc, Nat.mul_comm 2]
    rw [this]
    omega
  · rw [if_neg h, show (e0 - (ns - 1)).toNat = 0 by omega, Nat.pow_zero, Nat.mul_one]
    obtain ⟨d, hd⟩ : ∃ d : Nat, (ns - e0).toNat = d + 1 := ⟨(ns - e0).toNat - 1, by omega⟩
    rw [hd, show (ns - 1 - e0).toNat = d by omega]
    have hm := Nat.div_add_mod m (2^(d+1))
    have hp : 2^(d+1) = 2 * 2^d := Nat.pow_succ'
    generalize hQ : m / 2^(d+1) = Q at *
    generalize hR : m % 2^(d+1) = R at *
    rw [hp] at hm ⊢
    have e1 : (2 * Q + 1) * 2^d = 2 * 2^d * Q + 2^d := by
      rw [Nat.add_mul, Nat.one_mul, Nat.mul_right_comm]
    rw [e1]
    generalize 2 * 2^d * Q = Z at *
    clear hp hd hQ hR e1
    generalize 2^d = D at *
    omega
theorem bn_and1 (s : Int64) : ((s &&& 1) = 1) ↔ bn_u s % 2 = 1 := by
  rw [bn_u_eq, bn_u_and, show bn_u 1 = 1 from rfl, Nat.and_one_is_mod]
theorem bn_fl_ns (k : Nat) (m : Nat) (e0 : Int) (hm : 0 < m) : bn_fl m e0 (bn_ns (bn_P k) (bn_mn k) m e0) < 2^bn_P k := by
  have hL := bn_len_lt m
  have hns : e0 + bn_len m - bn_P k ≤ bn_ns (bn_P k) (bn_mn k) m e0 := by unfold bn_ns; omega
  unfold bn_fl
  split
  · next h =>
    have : m * 2^(e0 - bn_ns (bn_P k) (bn_mn k) m e0).toNat < 2^(bn_len m) * 2^(e0 - bn_ns (bn_P k) (bn_mn k) m e0).toNat := Nat.mul_lt_mul_of_pos_right hL (Nat.two_pow_pos _)
    rw [← Nat.pow_add] at this
    exact Nat.lt_of_lt_of_le this (Nat.pow_le_pow_right (by decide) (by omega))
  · next h =>
    rw [Nat.div_lt_iff_lt_mul (Nat.two_pow_pos _), ← Nat.pow_add]
    exact Nat.lt_of_lt_of_le hL (Nat.pow_le_pow_right (by decide) (by omega))
theorem bn_kept_fl (P : Nat) (mn : Int) (m : Nat) (e0 : Int) : bn_kept P mn m e0 = bn_fl m e0 (bn_ns P mn m e0) + (if ¬ bn_ns P mn m e0 ≤ e0 ∧ (2^(bn_ns P mn m e0 - e0).toNat < 2 * (m % 2^(bn_ns P mn m e0 - e0).toNat) ∨ (2 * (m % 2^(bn_ns P mn m e0 - e0).toNat) = 2^(bn_ns P mn m e0 - e0).toNat ∧ m / 2^(bn_ns P mn m e0 - e0).toNat % 2 = 1)) then 1 else 0) := by
  unfold bn_kept bn_fl
  by_cases h : bn_ns P mn m e0 ≤ e0
  · rw [if_pos h, if_pos h, if_neg (fun w => w.1 h)]; rfl
  · rw [if_neg h, if_neg h]
    unfold bn_rne
    congr 1
    simp only [h, not_false_eq_true, true_and]
