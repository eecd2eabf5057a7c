def bn_st (N D : Nat) : Nat := if N % D = 0 then N / D else N / D / 2 * 2 + 1
theorem bn_st_half (N D : Nat) : bn_st N D / 2 = N / D / 2 := by unfold bn_st; split <;> omega
theorem bn_st_mul (N D c : Nat) (hc : 0 < c) : bn_st (N * c) (D * c) = bn_st N D := by
  unfold bn_st
  have h : (N * c % (D * c) = 0) ↔ N % D = 0 := by
    rw [Nat.mul_mod_mul_right]
    constructor
    · intro q
      rcases Nat.mul_eq_zero.mp q with w | w
      · exact w
      · omega
    · intro q; rw [q, Nat.zero_mul]
  simp only [h, Nat.mul_div_mul_right _ _ hc]
theorem bn_st_tr (N D k : Nat) (hD : 0 < D) : bn_tr k (bn_st (N * 2^k) D) = bn_st N D := by
  have hp := Nat.two_pow_pos k
  have hQ : N * 2^k / D / 2^k = N / D := by
    rw [Nat.div_div_eq_div_mul, Nat.mul_div_mul_right _ _ hp]
  by_cases h : N % D = 0
  · have hN : N = D * (N / D) := by have := Nat.div_add_mod N D; omega
    have h1 : N * 2^k % D = 0 := by rw [hN, Nat.mul_assoc, Nat.mul_mod_right]
    have h2 : N * 2^k / D = N / D * 2^k := by
      conv => lhs; rw [hN, Nat.mul_assoc]
      exact Nat.mul_div_cancel_left _ hD
    unfold bn_st
    rw [if_pos h1, if_pos h, h2]
    unfold bn_tr
    rw [if_pos (Nat.mul_mod_left _ _), Nat.mul_div_cancel _ hp]
  · rcases Nat.eq_zero_or_pos k with q | q
    · subst q; rw [Nat.pow_zero, Nat.mul_one, bn_tr_zero]
    · have e2 : 2^k = 2 * 2^(k-1) := by rw [← Nat.pow_succ']; congr 1; omega
      have hT : bn_st (N * 2^k) D / 2^k = N / D := by
        rw [← hQ, e2, ← Nat.div_div_eq_div_mul, ← Nat.div_div_eq_div_mul, bn_st_half]
      have hne : bn_st (N * 2^k) D % 2^k ≠ 0 := by
        intro w
        have hd := Nat.div_add_mod (bn_st (N * 2^k) D) (2^k)
        rw [w, hT] at hd
        by_cases g : N * 2^k % D = 0
        · have hh : bn_st (N * 2^k) D = N * 2^k / D := by unfold bn_st; rw [if_pos g]
          rw [hh] at hd
          have g2 := Nat.div_add_mod (N * 2^k) D
          rw [g, ← hd] at g2
          have : D * (N / D) = N := by
            have : (D * (N / D)) * 2^k = N * 2^k := by rw [← g2, Nat.add_zero, Nat.add_zero, Nat.mul_comm (2^k), Nat.mul_assoc]
            exact Nat.eq_of_mul_eq_mul_right hp this
          have := Nat.div_add_mod N D
          omega
        · have hh : bn_st (N * 2^k) D = N * 2^k / D / 2 * 2 + 1 := by unfold bn_st; rw [if_neg g]
          have hd' : 2 * (2^(k-1) * (N / D)) = bn_st (N * 2^k) D := by rw [← Nat.mul_assoc, ← e2]; exact hd
          omega
      rw [bn_tr, if_neg hne, hT, bn_st, if_neg h]
def bn_qs (D : Nat) : Nat → Nat × Nat → Nat × Nat
  | 0, s => s
  | n + 1, s => bn_qs D n (if s.1 < D then (2 * s.1, 2 * s.2) else (2 * (s.1 - D), 2 * s.2 + 1))
theorem bn_qs_inv (D : Nat) : ∀ (n r q : Nat), r < 2 * D → (bn_qs D n (r, q)).1 < 2 * D ∧ (q * (2 * D) + r) * 2^n = (bn_qs D n (r, q)).2 * (2 * D) + (bn_qs D n (r, q)).1 := by
  intro n
  induction n with
  | zero => intro r q h; exact ⟨h, by simp [bn_qs]⟩
  | succ n ih =>
    intro r q h
    have e : ∀ a : Nat, a * 2^(n+1) = (2 * a) * 2^n := fun a => by rw [Nat.pow_succ']; rw [← Nat.mul_assoc, Nat.mul_comm a 2]
    unfold bn_qs
    show _ ∧ (q * (2 * D) + r) * 2^(n+1) = _
    rw [e]
    by_cases g : r < D
    · rw [if_pos g]
      obtain ⟨i1, i2⟩ := ih (2 * r) (2 * q) (by omega)
      refine ⟨i1, ?_⟩
      rw [← i2]; congr 1
      rw [Nat.mul_add, ← Nat.mul_assoc]
    · rw [if_neg g]
      obtain ⟨i1, i2⟩ := ih (2 * (r - D)) (2 * q + 1) (by omega)
      refine ⟨i1, ?_⟩
      rw [← i2]; congr 1
      rw [Nat.mul_add, ← Nat.mul_assoc, Nat.add_mul]; omega
theorem bn_qs_q (D n r q : Nat) (hn : q < 2^(57 - n)) (h : n ≤ 57) : (bn_qs D n (r, q)).2 < 2^57 := by
  induction n generalizing r q with
  | zero => exact hn
  | succ n ih =>
    unfold bn_qs
    have e : 2^(57 - n) = 2 * 2^(57 - (n+1)) := by rw [← Nat.pow_succ']; congr 1; omega
    split
    · exact ih _ _ (by omega) (by omega)
    · exact ih _ _ (by omega) (by omega)
theorem bn_i_count (i : Int32) (k : Nat) (h : i.toInt = k) (hk : k < 100) : (i + 1).toInt = (k + 1 : Nat) := by
  have z : (1 : Int32).toInt = 1 := rfl
  rw [bn_i_add] <;> omega
theorem bn_qloop (k : Nat) (x y : Int64) (neg l1 l2 : Int32) (D : Int64) (hD : bn_u D < 2^62) : ∀ (n : Nat) (r q : Int64) (i : Int32), n ≤ 57 → i.toInt = (57 - n : Nat) → bn_u r < 2 * bn_u D → bn_u q < 2^(57 - n) →
    ∃ r' q' : Int64, bn_u r' = (bn_qs (bn_u D) n (bn_u r, bn_u q)).1 ∧ bn_u q' = (bn_qs (bn_u D) n (bn_u r, bn_u q)).2 ∧
      fFloating_quotient_166 (n + 1) k x y neg l1 l2 r D q i = fFormat_rounded k neg (if r' = 0 then q' else q' ||| 1) (fFormat_scale k x - l1 - (fFormat_scale k y - l2) - 56) := by
  intro n
  induction n with
  | zero =>
    intro r q i _ hi hr hq
    refine ⟨r, q, rfl, rfl, ?_⟩
    have h57 : (57 : Int32) ≤ i := by rw [Int32.le_iff_toInt_le, hi]; decide
    rw [fFloating_quotient_166, if_pos h57]
    simp only [fFloating_quotient_253]
    split <;> rfl
  | succ n ih =>
    intro r q i hn hi hr hq
    have h57 : ¬ (57 : Int32) ≤ i := by rw [Int32.le_iff_toInt_le, hi]; show ¬ (57 : Int) ≤ _; omega
    have hi1 := bn_i_count i _ hi (by omega)
    have z1 : (1 : Int32).toInt = (1 : Nat) := rfl
    have e2 : 2^(57 - n) = 2 * 2^(57 - (n+1)) := by rw [← Nat.pow_succ']; congr 1; omega
    have hq57 : 2^(57 - n) ≤ 2^57 := Nat.pow_le_pow_right (by decide) (by omega)
    have q1 : bn_u (bn_shl q 1) = 2 * bn_u q := by rw [bn_shl_u z1 (by decide)] <;> omega
    rw [fFloating_quotient_166, if_neg h57]
    simp only [fFloating_quotient_179, fFloating_quotient_194, fFloating_quotient_200, fFloating_quotient_206]
    unfold bn_qs
    by_cases g : bn_u r < bn_u D
    · have g' : r < D := (bn_lt (by omega) (by omega)).mpr g
      rw [if_pos g', if_pos g]
      have r1 : bn_u (bn_shl r 1) = 2 * bn_u r := by rw [bn_shl_u z1 (by decide)] <;> omega
      have := ih (bn_shl r 1) (bn_shl q 1) (i + 1) (by omega) (by rw [hi1]; omega) (by omega) (by omega)
      rw [r1, q1] at this
      exact this
    · have g' : ¬ r < D := fun w => g ((bn_lt (by omega) (by omega)).mp w)
      rw [if_neg g', if_neg g]
      have r0 : bn_u (r - D) = bn_u r - bn_u D := bn_sub_u (by omega)
      have r1 : bn_u (bn_shl (r - D) 1) = 2 * (bn_u r - bn_u D) := by rw [bn_shl_u z1 (by decide)] <;> omega
      have q2 : bn_u (bn_shl q 1 ||| 1) = 2 * bn_u q + 1 := by
        rw [bn_u_or, q1, show bn_u 1 = 1 from rfl, bn_or_one]; omega
      have := ih (bn_shl (r - D) 1) (bn_shl q 1 ||| 1) (i + 1) (by omega) (by rw [hi1]; omega) (by omega) (by omega)
      rw [r1, q2] at this
      exact this

set_option maxHeartbeats 4000000 in
theorem bn_quotient_fin (k : Nat) (x y : Int64) (hx : bn_ok k x) (hy : bn_ok k y) (neg : Int32) (x0 : bn_mag k x ≠ 0) (y0 : bn_mag k y ≠ 0) :
    fFloating_quotient_130 k x y neg (fFloating_lift (fFormat_significand k x)) = bn_out k neg (bn_st (bn_M k x * 2^120) (bn_M k y)) (bn_S k x - bn_S k y - 120) := by
  simp only [fFloating_quotient_130, fFloating_quotient_140, fFloating_quotient_150, fFloating_quotient_160]
  have mx := bn_signif k x hx
  have my := bn_signif k y hy
  have sx := bn_scale k x hx
  have sy := bn_scale k y hy
  have mx0 := bn_M_pos k x x0
  have my0 := bn_M_pos k y y0
  have mxl := bn_M_lt53 k x
  have myl := bn_M_lt53 k y
  have sx1 := bn_S_ge k x
  have sx2 := bn_S_le k x
  have sy1 := bn_S_ge k y
  have sy2 := bn_S_le k y
  have hmn := bn_mn_le k
  have hP := bn_P_le k
  generalize fFormat_significand k x = sigx at *
  generalize fFormat_significand k y = sigy at *
  have lx := bn_lift (m := sigx) (by omega)
  have ly := bn_lift (m := sigy) (by omega)
  obtain ⟨rx, rx1, rx2⟩ := bn_lifted (m := sigx) (by omega) (by omega)
  obtain ⟨ry, ry1, ry2⟩ := bn_lifted (m := sigy) (by omega) (by omega)
  rw [mx] at lx rx rx1 rx2
  rw [my] at ly ry ry1 ry2
  have hlx : bn_len (bn_M k x) ≤ 53 := bn_len_le.mpr mxl
  have hly : bn_len (bn_M k y) ≤ 53 := bn_len_le.mpr myl
  have hlx0 := bn_len_pos mx0
  have hly0 := bn_len_pos my0
  generalize fFloating_lift sigx = liftx at *
  generalize fFloating_lift sigy = lifty at *
  have u0 : bn_u 0 = 0 := rfl
  obtain ⟨r', q', hr', hq', hloop⟩ := bn_qloop k x y neg liftx lifty (bn_shl sigy lifty) (by omega) 57 (bn_shl sigx liftx) 0 0 (by omega) rfl (by omega) (by decide)
  have hinv := bn_qs_inv (bn_u (bn_shl sigy lifty)) 57 (bn_u (bn_shl sigx liftx)) 0 (by omega)
  have hqlt := bn_qs_q (bn_u (bn_shl sigy lifty)) 57 (bn_u (bn_shl sigx liftx)) 0 (by decide) (by omega)
  rw [u0] at hr' hq'
  rw [hloop]
  clear hloop
  rw [← hr', ← hq', rx, ry, Nat.zero_mul, Nat.zero_add] at hinv
  rw [← hq'] at hqlt
  obtain ⟨hi1, hi2⟩ := hinv
  have hDpos : 0 < bn_M k y * 2^(62 - bn_len (bn_M k y)) := by omega
  have hdiv : bn_M k x * 2^(62 - bn_len (bn_M k x)) * 2^57 / (2 * (bn_M k y * 2^(62 - bn_len (bn_M k y)))) = bn_u q' := by
    rw [hi2, Nat.mul_comm (bn_u q'), Nat.mul_add_div (by omega), Nat.div_eq_of_lt hi1, Nat.add_zero]
  have hmod : bn_M k x * 2^(62 - bn_len (bn_M k x)) * 2^57 % (2 * (bn_M k y * 2^(62 - bn_len (bn_M k y)))) = bn_u r' := by
    rw [hi2, Nat.mul_comm (bn_u q'), Nat.mul_add_mod, Nat.mod_eq_of_lt hi1]
  have hmu : bn_u (if r' = 0 then q' else q' ||| 1) = bn_st (bn_M k x * 2^(62 - bn_len (bn_M k x)) * 2^57) (2 * (bn_M k y * 2^(62 - bn_len (bn_M k y)))) := by
    unfold bn_st
    rw [hdiv, hmod]
    have : (r' = 0) ↔ bn_u r' = 0 := bn_u_zero
    simp only [this]
    split
    · rfl
    · rw [bn_u_or, show bn_u 1 = 1 from rfl, bn_or_one]
  have hst : bn_st (bn_M k x * 2^(62 - bn_len (bn_M k x)) * 2^57) (2 * (bn_M k y * 2^(62 - bn_len (bn_M k y)))) = bn_st (bn_M k x * 2^(62 - bn_len (bn_M k x) + 56 - (62 - bn_len (bn_M k y)))) (bn_M k y) := by
    rw [← bn_st_mul _ (bn_M k y) (2^(62 - bn_len (bn_M k y) + 1)) (Nat.two_pow_pos _)]
    congr 1
    · rw [Nat.mul_assoc, Nat.mul_assoc, ← Nat.pow_add, ← Nat.pow_add]; congr 2; omega
    · rw [Nat.pow_succ]; rw [Nat.mul_comm 2, Nat.mul_assoc]
  have ha : 62 - bn_len (bn_M k x) + 56 - (62 - bn_len (bn_M k y)) ≤ 108 := by omega
  generalize hA : 62 - bn_len (bn_M k x) + 56 - (62 - bn_len (bn_M k y)) = a at *
  have htr := bn_st_tr (bn_M k x * 2^a) (bn_M k y) (120 - a) my0
  rw [Nat.mul_assoc, ← Nat.pow_add, show a + (120 - a) = 120 by omega] at htr
  rw [hst] at hmu
  generalize (if r' = 0 then q' else q' ||| 1) = mm at *
  have hq55 : 2^55 ≤ bn_u q' := by
    rw [← hdiv, Nat.le_div_iff_mul_le (by omega)]
    omega
  have hmq : bn_u mm / 2 = bn_u q' / 2 := by
    rw [hmu, ← hst, bn_st_half, hdiv]
  have hmm1 : 2^55 ≤ bn_u mm := by omega
  have hmm2 : bn_u mm < 2^57 := by omega
  have mm0 : mm ≠ 0 := fun q => by rw [bn_u_zero] at q; omega
  have z56 : (56 : Int32).toInt = 56 := rfl
  have e1 : (fFormat_scale k x - liftx).toInt = bn_S k x - (62 - bn_len (bn_M k x)) := by rw [bn_i_sub] <;> omega
  have e2 : (fFormat_scale k y - lifty).toInt = bn_S k y - (62 - bn_len (bn_M k y)) := by rw [bn_i_sub] <;> omega
  have e3 : (fFormat_scale k x - liftx - (fFormat_scale k y - lifty)).toInt = bn_S k x - (62 - bn_len (bn_M k x)) - (bn_S k y - (62 - bn_len (bn_M k y))) := by rw [bn_i_sub] <;> omega
  have e4 : (fFormat_scale k x - liftx - (fFormat_scale k y - lifty) - 56).toInt = bn_S k x - bn_S k y - 120 + (120 - a : Nat) := by rw [bn_i_sub] <;> omega
  rw [bn_rounded k neg mm _ mm0 (by omega) (Or.inl (by omega))]
  unfold bn_out
  congr 3
  rw [hmu, e4, ← htr]
  have hQ : 2^(120 - a) ≤ bn_st (bn_M k x * 2^120) (bn_M k y) := by
    rcases Nat.lt_or_ge (bn_st (bn_M k x * 2^120) (bn_M k y)) (2^(120 - a)) with w | w
    · exfalso
      have t : bn_tr (120 - a) (bn_st (bn_M k x * 2^120) (bn_M k y)) ≤ 1 := by
        unfold bn_tr; rw [Nat.div_eq_of_lt w]; split <;> omega
      rw [htr] at t; omega
    · exact w
  have hl := bn_tr_len hQ
  rw [htr, ← hmu] at hl
  have hl2 : 55 < bn_len (bn_u mm) := bn_lt_len.mpr hmm1
  exact bn_rn_tr _ _ _ _ _ hQ (by unfold bn_ns; omega)
