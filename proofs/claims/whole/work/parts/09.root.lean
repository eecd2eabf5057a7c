theorem bn_isqrt_ex (n : Nat) : ∃ s, s * s ≤ n ∧ n < (s + 1) * (s + 1) := by
  induction n with
  | zero => exact ⟨0, by decide, by decide⟩
  | succ n ih =>
    obtain ⟨s, h1, h2⟩ := ih
    have e : (s + 1 + 1) * (s + 1 + 1) = (s + 1) * (s + 1) + 2 * (s + 1) + 1 := by
      generalize s + 1 = a
      rw [Nat.add_mul, Nat.mul_add]; omega
    by_cases q : (s + 1) * (s + 1) ≤ n + 1
    · exact ⟨s + 1, q, by omega⟩
    · exact ⟨s, by omega, by omega⟩
noncomputable def bn_isqrt (n : Nat) : Nat := Classical.choose (bn_isqrt_ex n)
theorem bn_isqrt_spec (n : Nat) : bn_isqrt n * bn_isqrt n ≤ n ∧ n < (bn_isqrt n + 1) * (bn_isqrt n + 1) := Classical.choose_spec (bn_isqrt_ex n)
theorem bn_isqrt_unique {s n : Nat} (h1 : s * s ≤ n) (h2 : n < (s + 1) * (s + 1)) : bn_isqrt n = s := by
  obtain ⟨g1, g2⟩ := bn_isqrt_spec n
  rcases Nat.lt_trichotomy (bn_isqrt n) s with q | q | q
  · have : (bn_isqrt n + 1) * (bn_isqrt n + 1) ≤ s * s := Nat.mul_le_mul q q
    omega
  · exact q
  · have : (s + 1) * (s + 1) ≤ bn_isqrt n * bn_isqrt n := Nat.mul_le_mul q q
    omega
noncomputable def bn_sq (n : Nat) : Nat := if bn_isqrt n * bn_isqrt n = n then bn_isqrt n else bn_isqrt n / 2 * 2 + 1
theorem bn_sq_half (n : Nat) : bn_sq n / 2 = bn_isqrt n / 2 := by unfold bn_sq; split <;> omega
theorem bn_pow4 (k : Nat) : 4^k = 2^k * 2^k := by rw [← Nat.mul_pow]
theorem bn_isqrt_div (n k : Nat) : bn_isqrt (n * 4^k) / 2^k = bn_isqrt n := by
  have hp := Nat.two_pow_pos k
  obtain ⟨g1, g2⟩ := bn_isqrt_spec (n * 4^k)
  symm
  apply bn_isqrt_unique
  · have h := Nat.div_mul_le_self (bn_isqrt (n * 4^k)) (2^k)
    have h2 := Nat.mul_le_mul h h
    rw [Nat.mul_mul_mul_comm, ← bn_pow4] at h2
    exact Nat.le_of_mul_le_mul_right (Nat.le_trans h2 g1) (by rw [bn_pow4]; exact Nat.mul_pos hp hp)
  · have h := Nat.lt_mul_div_succ (bn_isqrt (n * 4^k)) hp
    have h1 : bn_isqrt (n * 4^k) + 1 ≤ (bn_isqrt (n * 4^k) / 2^k + 1) * 2^k := by rw [Nat.mul_comm (_ + 1) (2^k)]; exact h
    have h2 := Nat.mul_le_mul h1 h1
    rw [Nat.mul_mul_mul_comm, ← bn_pow4] at h2
    exact Nat.lt_of_mul_lt_mul_right (Nat.lt_of_lt_of_le g2 h2)
theorem bn_sq_tr (n k : Nat) : bn_tr k (bn_sq (n * 4^k)) = bn_sq n := by
  have hp := Nat.two_pow_pos k
  have hd := bn_isqrt_div n k
  have hp4 : 0 < 4^k := by rw [bn_pow4]; exact Nat.mul_pos hp hp
  by_cases h : bn_isqrt n * bn_isqrt n = n
  · have e : bn_isqrt (n * 4^k) = bn_isqrt n * 2^k := by
      apply bn_isqrt_unique
      · rw [Nat.mul_mul_mul_comm, h, ← bn_pow4]; exact Nat.le_refl _
      · have : (bn_isqrt n * 2^k) * (bn_isqrt n * 2^k) = n * 4^k := by rw [Nat.mul_mul_mul_comm, h, ← bn_pow4]
        rw [← this]
        exact Nat.mul_lt_mul_of_lt_of_lt (Nat.lt_succ_self _) (Nat.lt_succ_self _)
    have h2 : bn_isqrt (n * 4^k) * bn_isqrt (n * 4^k) = n * 4^k := by rw [e, Nat.mul_mul_mul_comm, h, ← bn_pow4]
    unfold bn_sq
    rw [if_pos h2, if_pos h, e]
    unfold bn_tr
    rw [if_pos (Nat.mul_mod_left _ _), Nat.mul_div_cancel _ hp]
  · rcases Nat.eq_zero_or_pos k with q | q
    · subst q; rw [Nat.pow_zero, Nat.mul_one, bn_tr_zero]
    · have e2 : 2^k = 2 * 2^(k-1) := by rw [← Nat.pow_succ']; congr 1; omega
      have hT : bn_sq (n * 4^k) / 2^k = bn_isqrt n := by
        rw [← hd, e2, ← Nat.div_div_eq_div_mul, ← Nat.div_div_eq_div_mul, bn_sq_half]
      have hne : bn_sq (n * 4^k) % 2^k ≠ 0 := by
        intro w
        have hd2 := Nat.div_add_mod (bn_sq (n * 4^k)) (2^k)
        rw [w, hT] at hd2
        by_cases g : bn_isqrt (n * 4^k) * bn_isqrt (n * 4^k) = n * 4^k
        · have hh : bn_sq (n * 4^k) = bn_isqrt (n * 4^k) := by unfold bn_sq; rw [if_pos g]
          rw [hh, Nat.add_zero] at hd2
          rw [← hd2, Nat.mul_mul_mul_comm, ← bn_pow4, Nat.mul_comm] at g
          exact h (Nat.eq_of_mul_eq_mul_right hp4 g)
        · have hh : bn_sq (n * 4^k) = bn_isqrt (n * 4^k) / 2 * 2 + 1 := by unfold bn_sq; rw [if_neg g]
          have hd' : 2 * (2^(k-1) * bn_isqrt n) = bn_sq (n * 4^k) := by rw [← Nat.mul_assoc, ← e2]; exact hd2
          omega
      rw [bn_tr, if_neg hne, hT, bn_sq, if_neg h]
def bn_rs : Nat → Nat × Nat × Nat → Nat × Nat × Nat
  | 0, s => s
  | n + 1, (p, s, r) => bn_rs n (if 4 * r + p / 2^60 < 4 * s + 1 then (4 * p % 2^62, 2 * s, 4 * r + p / 2^60) else (4 * p % 2^62, 2 * s + 1, 4 * r + p / 2^60 - (4 * s + 1)))
theorem bn_rs_inv : ∀ (n p s r : Nat), p < 2^62 → r ≤ 2 * s → (bn_rs n (p, s, r)).1 < 2^62 ∧ (bn_rs n (p, s, r)).2.2 ≤ 2 * (bn_rs n (p, s, r)).2.1 ∧
    (p + 2^62 * (s * s + r)) * 4^n = (bn_rs n (p, s, r)).1 + 2^62 * ((bn_rs n (p, s, r)).2.1 * (bn_rs n (p, s, r)).2.1 + (bn_rs n (p, s, r)).2.2) := by
  intro n
  induction n with
  | zero => intro p s r h1 h2; exact ⟨h1, h2, by simp [bn_rs]⟩
  | succ n ih =>
    intro p s r h1 h2
    have e : ∀ a : Nat, a * 4^(n+1) = (4 * a) * 4^n := fun a => by rw [Nat.pow_succ']; rw [← Nat.mul_assoc, Nat.mul_comm a 4]
    have hp : 4 * p = 4 * p % 2^62 + 2^62 * (p / 2^60) := by omega
    have hpl : 4 * p % 2^62 < 2^62 := Nat.mod_lt _ (by decide)
    have hp3 : p / 2^60 ≤ 3 := by omega
    unfold bn_rs
    show _ ∧ _ ∧ (p + 2^62 * (s * s + r)) * 4^(n+1) = _
    rw [e]
    have s4 : (2 * s) * (2 * s) = 4 * (s * s) := by rw [Nat.mul_mul_mul_comm]
    have s5 : (2 * s + 1) * (2 * s + 1) = 4 * (s * s) + 4 * s + 1 := by rw [Nat.add_mul, Nat.mul_add, s4]; omega
    by_cases g : 4 * r + p / 2^60 < 4 * s + 1
    · rw [if_pos g]
      obtain ⟨i1, i2, i3⟩ := ih (4 * p % 2^62) (2 * s) (4 * r + p / 2^60) hpl (by omega)
      refine ⟨i1, i2, ?_⟩
      rw [← i3]; congr 1
      rw [s4]; omega
    · rw [if_neg g]
      obtain ⟨i1, i2, i3⟩ := ih (4 * p % 2^62) (2 * s + 1) (4 * r + p / 2^60 - (4 * s + 1)) hpl (by omega)
      refine ⟨i1, i2, ?_⟩
      rw [← i3]; congr 1
      rw [s5]; omega

theorem bn_rs_s (n p s r : Nat) (h : n ≤ 57) (hs : s < 2^(57 - n)) : (bn_rs n (p, s, r)).2.1 < 2^57 := by
  induction n generalizing p s r with
  | zero => exact hs
  | succ n ih =>
    unfold bn_rs
    have e : 2^(57 - n) = 2 * 2^(57 - (n+1)) := by rw [← Nat.pow_succ']; congr 1; omega
    split
    · exact ih _ _ _ (by omega) (by omega)
    · exact ih _ _ _ (by omega) (by omega)
theorem bn_or_low (a b : Nat) (h : b < 4) : (4 * a) ||| b = 4 * a + b := by
  have := Nat.two_pow_add_eq_or_of_lt (i := 2) (b := b) h a
  rw [show (2 : Nat)^2 = 4 from rfl] at this
  exact this.symm
theorem bn_rloop (k : Nat) (x : Int64) (l1 : Int32) : ∀ (n : Nat) (p s r : Int64) (i : Int32), n ≤ 57 → i.toInt = (57 - n : Nat) → bn_u r ≤ 2 * bn_u s → bn_u s < 2^(57 - n) →
    ∃ s' r' : Int64, bn_u s' = (bn_rs n (bn_u p % 2^62, bn_u s, bn_u r)).2.1 ∧ bn_u r' = (bn_rs n (bn_u p % 2^62, bn_u s, bn_u r)).2.2 ∧
      fFloating_root_72 (n + 1) k x l1 p s r i = fFormat_rounded k 0 (if r' = 0 then s' else s' ||| 1) ((fFormat_scale k x - l1) / 2 + 31 - 57) := by
  intro n
  induction n with
  | zero =>
    intro p s r i _ hi hr hq
    refine ⟨s, r, rfl, rfl, ?_⟩
    have h57 : (57 : Int32) ≤ i := by rw [Int32.le_iff_toInt_le, hi]; decide
    rw [fFloating_root_72, if_pos h57]
    simp only [fFloating_root_177]
    split <;> rfl
  | succ n ih =>
    intro p s r i hn hi hr hs
    have h57 : ¬ (57 : Int32) ≤ i := by rw [Int32.le_iff_toInt_le, hi]; show ¬ (57 : Int) ≤ _; omega
    have hi1 := bn_i_count i _ hi (by omega)
    have z1 : (1 : Int32).toInt = (1 : Nat) := rfl
    have z2 : (2 : Int32).toInt = (2 : Nat) := rfl
    have z60 : (60 : Int32).toInt = (60 : Nat) := rfl
    have e2 : 2^(57 - n) = 2 * 2^(57 - (n+1)) := by rw [← Nat.pow_succ']; congr 1; omega
    have hq57 : 2^(57 - n) ≤ 2^57 := Nat.pow_le_pow_right (by decide) (by omega)
    have hpu := bn_u_lt p
    have s1 : bn_u (bn_shl s 1) = 2 * bn_u s := by rw [bn_shl_u z1 (by decide)] <;> omega
    have s2 : bn_u (bn_shl s 2) = 4 * bn_u s := by rw [bn_shl_u z2 (by decide)] <;> omega
    have r2 : bn_u (bn_shl r 2) = 4 * bn_u r := by rw [bn_shl_u z2 (by decide)] <;> omega
    have p2 : bn_u (bn_shl p 2) % 2^62 = 4 * (bn_u p % 2^62) % 2^62 := by
      rw [bn_u_shl]; show _ * 2^2 % 2^64 % 2^62 = _; omega
    have t1 : bn_u (bn_shl s 2 ||| 1) = 4 * bn_u s + 1 := by
      rw [bn_u_or, s2, show bn_u 1 = 1 from rfl, bn_or_low _ _ (by decide)]
    have pt : bn_u (bn_shr p 60 &&& 3) = bn_u p % 2^62 / 2^60 := by
      rw [bn_u_and, bn_shr_u z60 (by decide), show bn_u 3 = 2^2 - 1 from rfl, bn_and_mask]; omega
    have rr : bn_u (bn_shl r 2 ||| (bn_shr p 60 &&& 3)) = 4 * bn_u r + bn_u p % 2^62 / 2^60 := by
      rw [bn_u_or, r2, pt, bn_or_low _ _ (by omega)]
    rw [fFloating_root_72, if_neg h57]
    simp only [fFloating_root_95, fFloating_root_101, fFloating_root_109, fFloating_root_115, fFloating_root_130, fFloating_root_136]
    generalize bn_shl r 2 ||| (bn_shr p 60 &&& 3) = R at *
    generalize bn_shl s 2 ||| 1 = T at *
    unfold bn_rs
    by_cases g : 4 * bn_u r + bn_u p % 2^62 / 2^60 < 4 * bn_u s + 1
    · have g' : R < T := (bn_lt (by omega) (by omega)).mpr (by omega)
      rw [if_pos g', if_pos g]
      have := ih (bn_shl p 2) (bn_shl s 1) R (i + 1) (by omega) (by rw [hi1]; omega) (by omega) (by omega)
      rw [p2, s1, rr] at this
      exact this
    · have g' : ¬ R < T := fun w => g (by have := (bn_lt (by omega) (by omega)).mp w; omega)
      rw [if_neg g', if_neg g]
      have r0 : bn_u (R - T) = bn_u R - bn_u T := bn_sub_u (by omega)
      have q2 : bn_u (bn_shl s 1 ||| 1) = 2 * bn_u s + 1 := by
        rw [bn_u_or, s1, show bn_u 1 = 1 from rfl, bn_or_one]; omega
      have := ih (bn_shl p 2) (bn_shl s 1 ||| 1) (R - T) (i + 1) (by omega) (by rw [hi1]; omega) (by omega) (by omega)
      rw [p2, q2, r0, rr, t1] at this
      exact this
theorem bn_i_and1 (a : Int32) : (a &&& 1).toInt = a.toInt % 2 := by
  have h1 : bn_v (a &&& 1) = bn_v a % 2 := by
    rw [bn_v_and, show bn_v 1 = 2^1 - 1 from rfl, bn_and_mask]
  have h2 := bn_v_s a
  have h3 := bn_v_s (a &&& 1)
  rw [h1] at h3
  have h4 : bn_v a < 2^32 := a.toBitVec.isLt
  rw [h3, h2]
  split <;> split <;> omega
theorem bn_i_half (a : Int32) (h : a.toInt % 2 = 0) (hb : -10000 ≤ a.toInt ∧ a.toInt ≤ 10000) : (a / 2).toInt = a.toInt / 2 := by
  have z2 : (2 : Int32).toInt = 2 := rfl
  have hne : a ≠ Int32.minValue := by
    intro q; rw [q] at hb; have : Int32.minValue.toInt = -2147483648 := rfl; omega
  rw [Int32.toInt_div_of_ne_left _ _ hne, z2, Int.tdiv_eq_ediv_of_dvd (by omega)]
theorem bn_cancel {B p' T C : Nat} (h : C * B = p' + C * T) (hp : p' < C) : B = T := by
  rcases Nat.lt_trichotomy B T with q | q | q
  · have := Nat.mul_le_mul_left C q
    rw [Nat.mul_succ] at this; omega
  · exact q
  · have := Nat.mul_le_mul_left C q
    rw [Nat.mul_succ] at this; omega
theorem bn_rs_end {PP p' T : Nat} (h : PP * 4^57 = p' + 2^62 * T) (hp : p' < 2^62) : PP * 2^52 = T := by
  refine bn_cancel (C := 2^62) ?_ hp
  rw [← h, Nat.mul_comm, Nat.mul_assoc]
def bn_rc (k : Nat) (x : Int64) : Nat := 200 + (bn_S k x % 2).toNat
set_option maxHeartbeats 4000000 in
theorem bn_root_fin (k : Nat) (x : Int64) (hx : bn_ok k x) (x0 : bn_mag k x ≠ 0) :
    fFloating_root_42 k x (fFloating_lift (fFormat_significand k x)) = bn_out k 0 (bn_sq (bn_M k x * 2^bn_rc k x)) ((bn_S k x - bn_rc k x) / 2) := by
  simp only [fFloating_root_42, fFloating_root_54, fFloating_root_63]
  have mx := bn_signif k x hx
  have sx := bn_scale k x hx
  have mx0 := bn_M_pos k x x0
  have mxl := bn_M_lt53 k x
  have sx1 := bn_S_ge k x
  have sx2 := bn_S_le k x
  have hmn := bn_mn_le k
  have hP := bn_P_le k
  generalize fFormat_significand k x = sigx at *
  have lx := bn_lift (m := sigx) (by omega)
  rw [mx] at lx
  have hlx : bn_len (bn_M k x) ≤ 53 := bn_len_le.mpr mxl
  have hlx0 := bn_len_pos mx0
  generalize fFloating_lift sigx = lift0 at *
  have a1 : (fFormat_scale k x - lift0).toInt = bn_S k x - (62 - bn_len (bn_M k x)) := by rw [bn_i_sub] <;> omega
  have a2 := bn_i_and1 (fFormat_scale k x - lift0)
  rw [a1] at a2
  have a3 : (lift0 - (fFormat_scale k x - lift0 &&& 1)).toInt = 62 - bn_len (bn_M k x) - (bn_S k x - (62 - bn_len (bn_M k x))) % 2 := by rw [bn_i_sub] <;> omega
  generalize lift0 - (fFormat_scale k x - lift0 &&& 1) = lift at *
  have hlift : lift.toInt = (62 - bn_len (bn_M k x) - ((bn_S k x - (62 - bn_len (bn_M k x))) % 2).toNat : Nat) := by omega
  generalize hLL : 62 - bn_len (bn_M k x) - ((bn_S k x - (62 - bn_len (bn_M k x))) % 2).toNat = LL at *
  have hLL1 : 61 ≤ LL + bn_len (bn_M k x) ∧ LL + bn_len (bn_M k x) ≤ 62 ∧ LL ≤ 61 := by omega
  have hpar : (bn_S k x - LL) % 2 = 0 := by omega
  have hlenp := bn_len_mul mx0 LL
  have hpl : bn_M k x * 2^LL < 2^62 := bn_len_le.mp (by omega)
  have hpg : 2^60 ≤ bn_M k x * 2^LL := bn_lt_len.mp (by omega)
  have hpu : bn_u (bn_shl sigx lift) = bn_M k x * 2^LL := by
    rw [bn_shl_u hlift (by omega)] <;> rw [mx]; omega
  have u0 : bn_u 0 = 0 := rfl
  obtain ⟨s', r', hs', hr', hloop⟩ := bn_rloop k x lift 57 (bn_shl sigx lift) 0 0 0 (by omega) rfl (by decide) (by decide)
  rw [hloop]
  clear hloop
  rw [u0, hpu, Nat.mod_eq_of_lt hpl] at hs' hr'
  obtain ⟨i1, i2, i3⟩ := bn_rs_inv 57 (bn_M k x * 2^LL) 0 0 hpl (by decide)
  have i4 := bn_rs_s 57 (bn_M k x * 2^LL) 0 0 (by omega) (by decide)
  rw [← hs', ← hr'] at i2
  rw [← hs', ← hr', Nat.mul_zero, Nat.add_zero] at i3
  rw [← hs'] at i4
  have hN : bn_M k x * 2^LL * 2^52 = bn_u s' * bn_u s' + bn_u r' := bn_rs_end i3 i1
  clear i3 i1
  have hNL : bn_M k x * 2^LL * 2^52 = bn_M k x * 2^(LL + 52) := by rw [Nat.mul_assoc, ← Nat.pow_add]
  have hsq : bn_isqrt (bn_M k x * 2^(LL + 52)) = bn_u s' := by
    rw [← hNL, hN]
    apply bn_isqrt_unique
    · omega
    · rw [Nat.add_mul, Nat.mul_add]; omega
  have hmu : bn_u (if r' = 0 then s' else s' ||| 1) = bn_sq (bn_M k x * 2^(LL + 52)) := by
    unfold bn_sq
    rw [hsq]
    have : (r' = 0) ↔ bn_u s' * bn_u s' = bn_M k x * 2^(LL + 52) := by
      rw [bn_u_zero, ← hNL, hN]; omega
    simp only [this]
    split
    · rfl
    · rw [bn_u_or, show bn_u 1 = 1 from rfl, bn_or_one]
  generalize (if r' = 0 then s' else s' ||| 1) = mm at *
  have hs56 : 2^56 ≤ bn_u s' := by
    rcases Nat.lt_or_ge (bn_u s') (2^56) with w | w
    · exfalso
      have : (bn_u s' + 1) * (bn_u s' + 1) ≤ 2^56 * 2^56 := Nat.mul_le_mul w w
      obtain ⟨-, g2⟩ := bn_isqrt_spec (bn_M k x * 2^(LL + 52))
      rw [hsq, ← hNL] at g2
      omega
    · exact w
  have hmh : bn_u mm / 2 = bn_u s' / 2 := by rw [hmu, bn_sq_half, hsq]
  have mm0 : mm ≠ 0 := fun q => by rw [bn_u_zero] at q; omega
  have hc1 : 200 ≤ bn_rc k x ∧ bn_rc k x ≤ 201 ∧ (bn_S k x - bn_rc k x) % 2 = 0 := by unfold bn_rc; omega
  generalize bn_rc k x = c at *
  have hj : ∃ j : Nat, c = LL + 52 + 2 * j := ⟨(c - (LL + 52)) / 2, by omega⟩
  obtain ⟨j, hj⟩ := hj
  have hcj : bn_M k x * 2^c = bn_M k x * 2^(LL + 52) * 4^j := by
    rw [hj, Nat.pow_add, Nat.pow_mul, ← Nat.mul_assoc]
  have htr := bn_sq_tr (bn_M k x * 2^(LL + 52)) j
  rw [← hcj] at htr
  have z31 : (31 : Int32).toInt = 31 := rfl
  have z57 : (57 : Int32).toInt = 57 := rfl
  have f1 : (fFormat_scale k x - lift).toInt = bn_S k x - LL := by rw [bn_i_sub] <;> omega
  have f2 := bn_i_half (fFormat_scale k x - lift) (by omega) (by omega)
  have f3 : ((fFormat_scale k x - lift) / 2 + 31).toInt = (bn_S k x - LL) / 2 + 31 := by rw [bn_i_add] <;> omega
  have f4 : ((fFormat_scale k x - lift) / 2 + 31 - 57).toInt = (bn_S k x - c) / 2 + j := by rw [bn_i_sub] <;> omega
  have hQ : 2^j ≤ bn_sq (bn_M k x * 2^c) := by
    rcases Nat.lt_or_ge (bn_sq (bn_M k x * 2^c)) (2^j) with w | w
    · exfalso
      have t : bn_tr j (bn_sq (bn_M k x * 2^c)) ≤ 1 := by
        unfold bn_tr; rw [Nat.div_eq_of_lt w]; split <;> omega
      rw [htr] at t; omega
    · exact w
  have hl := bn_tr_len hQ
  rw [htr, ← hmu] at hl
  have hl2 : 56 ≤ bn_len (bn_u mm) := by
    have : 55 < bn_len (bn_u mm) := bn_lt_len.mpr (by omega)
    omega
  have key := bn_rn_tr (bn_P k) (bn_mn k) _ ((bn_S k x - c) / 2) j hQ (by unfold bn_ns; omega)
  rw [htr, ← hmu] at key
  rw [bn_rounded k 0 mm _ mm0 (by omega) (Or.inl (by omega)), f4, key, bn_out]
