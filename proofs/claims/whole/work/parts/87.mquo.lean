theorem sg_congr {a b c d : Nat} (h1 : a < b ↔ c < d) (h2 : a = b ↔ c = d) : dg_sg a b = dg_sg c d := by
  unfold dg_sg
  by_cases q : a < b
  · rw [if_pos q, if_pos (h1.mp q)]
  · rw [if_neg q, if_neg (fun w => q (h1.mpr w))]
    by_cases q2 : a = b
    · rw [if_pos q2, if_pos (h2.mp q2)]
    · rw [if_neg q2, if_neg (fun w => q2 (h2.mpr w))]
theorem sg_mul {a b c : Nat} (h : 0 < c) : dg_sg (a * c) (b * c) = dg_sg a b := sg_congr (Nat.mul_lt_mul_right h) ⟨fun w => Nat.eq_of_mul_eq_mul_right h w, fun w => by rw [w]⟩
theorem st_par {Q E : Nat} (hE : E % 2 = 0) : (Q / 2 * 2 + 1 < E ↔ Q < E) ∧ ¬ Q / 2 * 2 + 1 = E := by omega
theorem st_cmp (N D E : Nat) (hD : 0 < D) (hE : E % 2 = 0) : dg_sg (bn_st N D) E = dg_sg N (E * D) := by
  have hd : N / D < E ↔ N < E * D := Nat.div_lt_iff_lt_mul hD
  unfold bn_st
  by_cases r : N % D = 0
  · rw [if_pos r]
    have hN : N = N / D * D := by
      have := Nat.div_add_mod N D
      rw [r, Nat.add_zero, Nat.mul_comm] at this; exact this.symm
    refine sg_congr hd ⟨fun w => by rw [← w]; exact hN, fun w => by rw [w, Nat.mul_div_cancel _ hD]⟩
  · rw [if_neg r]
    obtain ⟨p1, p2⟩ := st_par (Q := N / D) hE
    refine sg_congr (p1.trans hd) ⟨fun w => absurd w p2, fun w => absurd (by rw [w]; exact Nat.mul_mod_left E D) r⟩
theorem even_mul (v j : Nat) (hj : 1 ≤ j) : v * 2^j % 2 = 0 := by
  obtain ⟨i, rfl⟩ : ∃ i, j = i + 1 := ⟨j - 1, by omega⟩
  rw [Nat.pow_succ, ← Nat.mul_assoc]; exact Nat.mul_mod_left _ 2
theorem st_sgn (N D v : Nat) (sc e : Int) (hD : 0 < D) (h : sc - 120 + 1 ≤ e) : bn_sgn (bn_st (N * 2^120) D) (sc - 120) v e = dg_sg (N * 2^(sc - e).toNat) (v * D * 2^(e - sc).toNat) := by
  unfold bn_sgn
  have h0 : (sc - 120 - e).toNat = 0 := by omega
  have hj : 1 ≤ (e - (sc - 120)).toNat := by omega
  rw [h0, Nat.pow_zero, Nat.mul_one, st_cmp _ D _ hD (even_mul v _ hj)]
  by_cases q : sc ≤ e
  · have e1 : (sc - e).toNat = 0 := by omega
    have e2 : (e - (sc - 120)).toNat = (e - sc).toNat + 120 := by omega
    rw [e1, e2, Nat.pow_zero, Nat.mul_one, Nat.pow_add, show v * (2^(e - sc).toNat * 2^120) * D = v * D * 2^(e - sc).toNat * 2^120 by
      rw [← Nat.mul_assoc, Nat.mul_right_comm, Nat.mul_right_comm v]]
    exact sg_mul (Nat.two_pow_pos 120)
  · have e1 : (e - sc).toNat = 0 := by omega
    have e2 : (sc - e).toNat + (e - (sc - 120)).toNat = 120 := by omega
    rw [e1, Nat.pow_zero, Nat.mul_one, ← e2, Nat.pow_add, ← Nat.mul_assoc, Nat.mul_right_comm v]
    exact sg_mul (Nat.two_pow_pos _)
theorem len_half {a b : Nat} (h : a / 2 = b / 2) (hb : 2 ≤ bn_len b) : bn_len a = bn_len b := by
  have h1 := bn_len_div a 1
  have h2 := bn_len_div b 1
  rw [Nat.pow_one] at h1 h2
  rw [h] at h1
  omega
theorem st_len (M D : Nat) (hM : 0 < M) (hD : 0 < D) (hly : bn_len D ≤ 60) : bn_len (bn_st (M * 2^120) D) = bn_len M + 120 - bn_len D ∨ bn_len (bn_st (M * 2^120) D) = bn_len M + 121 - bn_len D := by
  have lx := bn_len_pos hM
  have ly := bn_len_pos hD
  have a1 : bn_len M + 119 - bn_len D + bn_len D = bn_len M - 1 + 120 := by omega
  have a2 : bn_len M + 121 - bn_len D + (bn_len D - 1) = bn_len M + 120 := by omega
  have hlo : 2^(bn_len M + 119 - bn_len D) ≤ M * 2^120 / D := by
    rw [Nat.le_div_iff_mul_le hD]
    refine Nat.le_trans (Nat.mul_le_mul_left _ (Nat.le_of_lt (bn_len_lt D))) ?_
    rw [← Nat.pow_add, a1, Nat.pow_add]
    exact Nat.mul_le_mul_right _ (bn_len_ge hM)
  have hhi : M * 2^120 / D < 2^(bn_len M + 121 - bn_len D) := by
    rw [Nat.div_lt_iff_lt_mul hD]
    refine Nat.lt_of_lt_of_le (Nat.mul_lt_mul_of_pos_right (bn_len_lt M) (Nat.two_pow_pos 120)) ?_
    rw [← Nat.pow_add, ← a2, Nat.pow_add]
    exact Nat.mul_le_mul_left _ (bn_len_ge hD)
  have q1 := bn_lt_len.mpr hlo
  have q2 := bn_len_le.mpr hhi
  have hb : 2 ≤ bn_len (M * 2^120 / D) := by clear hlo hhi; omega
  rw [len_half (bn_st_half (M * 2^120) D) hb]
  clear hlo hhi
  omega
theorem quo_fin (k : Nat) (x y : Int64) (neg : Int32) (x0 : bn_mag k x ≠ 0) (y0 : bn_mag k y ≠ 0) (σ τ0 : MS) (hm : ms_mode τ0 = 1) (hd : ms_dividend τ0 = fM_significand (tt k) x) (hw : ms_divisor τ0 = fM_significand (tt k) y) (hs : ms_scale τ0 = fM_scaleOf (tt k) x - fM_scaleOf (tt k) y) (hk : kt σ τ0) :
    ∃ τ', kt σ τ' ∧ fM_rounded (tt k) neg ((fM_highest (ms_dividend τ0) - fM_highest (ms_divisor τ0)) + ms_scale τ0) τ0 = (bn_out k neg (bn_st (bn_M k x * 2^120) (bn_M k y)) (bn_S k x - bn_S k y - 120), τ') := by
  have mx := bn_M_pos k x x0
  have my := bn_M_pos k y y0
  have ux := m_significand k x
  have uy := m_significand k y
  have lx := len_le53 (bn_M_lt53 k x)
  have ly := len_le53 (bn_M_lt53 k y)
  have lx0 := bn_len_pos mx
  have ly0 := bn_len_pos my
  have sx := S_rng k x
  have sy := S_rng k y
  have hmn := bn_mn_le k
  have scx := m_scaleOf k x
  have scy := m_scaleOf k y
  have hsc : (fM_scaleOf (tt k) x - fM_scaleOf (tt k) y).toInt = bn_S k x - bn_S k y := by
    rw [bn_i_sub] <;> rw [scx, scy]; omega
  have hx : (fM_highest (fM_significand (tt k) x)).toInt = (bn_len (bn_M k x) : Int) - 1 := by
    rw [highest_val _ (fun w => by rw [bn_u_zero, ux] at w; omega), ux]
  have hy : (fM_highest (fM_significand (tt k) y)).toInt = (bn_len (bn_M k y) : Int) - 1 := by
    rw [highest_val _ (fun w => by rw [bn_u_zero, uy] at w; omega), uy]
  have htop : ((fM_highest (ms_dividend τ0) - fM_highest (ms_divisor τ0)) + ms_scale τ0).toInt = bn_S k x - bn_S k y + bn_len (bn_M k x) - bn_len (bn_M k y) := by
    rw [hd, hw, hs]
    have h1 : (fM_highest (fM_significand (tt k) x) - fM_highest (fM_significand (tt k) y)).toInt = (bn_len (bn_M k x) : Int) - bn_len (bn_M k y) := by
      rw [bn_i_sub] <;> rw [hx, hy] <;> omega
    rw [bn_i_add] <;> rw [h1, hsc] <;> omega
  have hlen := st_len (bn_M k x) (bn_M k y) mx my (Nat.le_trans ly (by decide))
  have hpos : 0 < bn_st (bn_M k x * 2^120) (bn_M k y) := by
    rcases Nat.eq_zero_or_pos (bn_st (bn_M k x * 2^120) (bn_M k y)) with w | w
    · rw [w, bn_len_zero] at hlen; omega
    · exact w
  have b1 : 68 ≤ bn_len (bn_st (bn_M k x * 2^120) (bn_M k y)) := by omega
  have hO : ordOK (bn_st (bn_M k x * 2^120) (bn_M k y)) (bn_S k x - bn_S k y - 120) (bn_S k x - bn_S k y - 120 + bn_len (bn_st (bn_M k x * 2^120) (bn_M k y)) - 56) (max (bn_S k x - bn_S k y - 120 + bn_len (bn_st (bn_M k x * 2^120) (bn_M k y))) (bn_mn k) + 2) (fun τ => ms_mode τ = 1 ∧ ms_dividend τ = fM_significand (tt k) x ∧ ms_divisor τ = fM_significand (tt k) y ∧ ms_scale τ = fM_scaleOf (tt k) x - fM_scaleOf (tt k) y ∧ kt σ τ) := by
    intro τ hτ v ex hv h1 h2
    clear hv
    obtain ⟨t1, t2, t3, t4, t5⟩ := hτ
    have hr1 : -10000 ≤ (fM_scaleOf (tt k) x - fM_scaleOf (tt k) y).toInt - ex.toInt ∧ (fM_scaleOf (tt k) x - fM_scaleOf (tt k) y).toInt - ex.toInt ≤ 10000 := by rw [hsc]; omega
    have hr2 : bn_S k x - bn_S k y - 120 + 1 ≤ ex.toInt := by omega
    obtain ⟨F, eF⟩ := order_fac v (fM_significand (tt k) y) ex τ (fM_significand (tt k) x) (fM_scaleOf (tt k) x - fM_scaleOf (tt k) y) ex hr1 t2 t4 (Or.inl ⟨t1, rfl⟩)
    have eo : fM_order v ex τ = fM_order_139 ex (fM_significand (tt k) y) v τ := by
      unfold fM_order
      rw [t1, if_neg (show ¬ (1 : Int32) = 0 by decide), if_pos rfl, t3]
    rw [eo, eF, st_sgn _ _ _ _ _ my hr2, hsc, ux, uy]
    exact ⟨rfl, t1, t2, t3, t4, kt_trans t5 (kt_factor τ F)⟩
  obtain ⟨τ', hτ', er⟩ := m_rounded k neg ((fM_highest (ms_dividend τ0) - fM_highest (ms_divisor τ0)) + ms_scale τ0) _ _ _ τ0 ⟨hm, hd, hw, hs, hk⟩ hpos (by rw [htop]; omega) ⟨by omega, by omega⟩ hO
  exact ⟨τ', hτ'.2.2.2.2, er⟩
theorem m_quotient (k : Nat) (x y : Int64) (hx : bn_ok k x) (hy : bn_ok k y) (σ : MS) : SM_byQuotient (tt k) x y σ ∧ (fM_byQuotient (tt k) x y σ).1 = fFloating_quotient k x y ∧ kt σ (fM_byQuotient (tt k) x y σ).2 := by
  have h60 : ∀ (neg a : Int32), SM_byQuotient_60 (tt k) x y neg a σ ∧ (fM_byQuotient_60 (tt k) x y neg a σ).1 = fFloating_quotient_57 k x y neg a ∧ kt σ (fM_byQuotient_60 (tt k) x y neg a σ).2 := by
    intro neg a
    unfold SM_byQuotient_60 fM_byQuotient_60 fFloating_quotient_57 SM_byQuotient_117 fM_byQuotient_117 SM_byQuotient_89 fM_byQuotient_89 fFloating_quotient_112 fFloating_quotient_85
    rw [m_isInfinite k x hx, m_isInfinite k y hy, m_isZero k x hx, m_isZero k y hy, m_signed, m_signed, m_infinite, inf_fm, m_theNone]
    by_cases q : a = 0
    · rw [if_pos q, if_pos q, if_pos q]
      by_cases i1 : fFormat_isInfinite k x = 0
      · rw [if_pos i1, if_pos i1, if_pos i1]
        by_cases z2 : fFormat_isZero k y = 0
        · rw [if_pos z2, if_pos z2, if_pos z2]
          by_cases z1 : fFormat_isZero k x = 0
          · rw [if_pos z1, if_pos z1, if_pos z1]
            by_cases i2 : fFormat_isInfinite k y = 0
            · rw [if_pos i2, if_pos i2, if_pos i2]
              have x0 := (zero_mag hx).mp z1
              have y0 := (zero_mag hy).mp z2
              rw [bn_quotient_fin k x y hx hy neg x0 y0]
              obtain ⟨τ', t1, t2⟩ := quo_fin k x y neg x0 y0 σ (ms_set_scale (ms_set_divisor (ms_set_dividend (ms_set_mode σ 1) (fM_significand (tt k) x)) (fM_significand (tt k) y)) ((fM_scaleOf (tt k) x) - (fM_scaleOf (tt k) y))) (by rw [ms_mode_scale, ms_mode_divisor, ms_mode_dividend, ms_mode_mode]) (by rw [ms_dividend_scale, ms_dividend_divisor, ms_dividend_dividend]) (by rw [ms_divisor_scale, ms_divisor_divisor]) (by rw [ms_scale_scale]) (kt_trans (kt_trans (kt_trans (kt_mode σ 1) (kt_dividend _ _)) (kt_divisor _ _)) (kt_scale _ _))
              rw [t2]
              refine ⟨⟨?_, ?_, trivial⟩, rfl, t1⟩
              · intro w
                rw [ms_dividend_scale, ms_dividend_divisor, ms_dividend_dividend] at w
                have w2 : fM_significand (tt k) x = 0 := w
                rw [bn_u_zero, m_significand] at w2
                exact absurd w2 (Nat.ne_of_gt (bn_M_pos k x x0))
              · intro w
                rw [ms_divisor_scale, ms_divisor_divisor] at w
                have w2 : fM_significand (tt k) y = 0 := w
                rw [bn_u_zero, m_significand] at w2
                exact absurd w2 (Nat.ne_of_gt (bn_M_pos k y y0))
            · rw [if_neg i2, if_neg i2, if_neg i2]; exact ⟨trivial, rfl, kt_refl σ⟩
          · rw [if_neg z1, if_neg z1, if_neg z1]; exact ⟨trivial, rfl, kt_refl σ⟩
        · rw [if_neg z2, if_neg z2, if_neg z2]; exact ⟨trivial, rfl, kt_refl σ⟩
      · rw [if_neg i1, if_neg i1, if_neg i1]; exact ⟨trivial, rfl, kt_refl σ⟩
    · rw [if_neg q, if_neg q, if_neg q]; exact ⟨trivial, rfl, kt_refl σ⟩
  have h19 : ∀ neg : Int32, SM_byQuotient_19 (tt k) x y neg σ ∧ (fM_byQuotient_19 (tt k) x y neg σ).1 = fFloating_quotient_18 k x y neg ∧ kt σ (fM_byQuotient_19 (tt k) x y neg σ).2 := by
    intro neg
    have n57 : ∀ a : Int32, ¬ a = 0 → fFloating_quotient_57 k x y neg a = fm_none k := fun a ha => by unfold fFloating_quotient_57; rw [if_neg ha]
    unfold SM_byQuotient_19 fM_byQuotient_19 fFloating_quotient_18 SM_byQuotient_38 fM_byQuotient_38 fFloating_quotient_36 SM_byQuotient_59 fM_byQuotient_59 fFloating_quotient_56 SM_byQuotient_55 fM_byQuotient_55 fFloating_quotient_52
    rw [m_isInfinite k x hx, m_isInfinite k y hy, m_isZero k x hx, m_isZero k y hy]
    by_cases i1 : fFormat_isInfinite k x = 0
    · rw [if_pos i1, if_pos i1, if_pos i1]
      by_cases z1 : fFormat_isZero k x = 0
      · rw [if_pos z1, if_pos z1, if_pos z1]; exact h60 neg 0
      · rw [if_neg z1, if_neg z1, if_neg z1]
        by_cases z2 : fFormat_isZero k y = 0
        · rw [if_pos z2, if_pos z2, if_pos z2]; exact h60 neg 0
        · rw [if_neg z2, if_neg z2, if_neg z2]; exact h60 neg 1
    · have z1 : fFormat_isZero k x = 0 := by
        rw [zero_mag hx]
        rw [bn_isInfinite k x hx] at i1
        intro w
        apply i1
        rw [w, if_neg]
        have := bn_k2 k
        unfold bn_INF
        intro h
        rcases Nat.mul_eq_zero.mp h.symm with w2 | w2
        · omega
        · exact absurd w2 (Nat.ne_of_gt (Nat.two_pow_pos _))
      rw [if_neg i1, if_neg i1, if_neg i1, if_pos z1, if_pos z1, if_pos z1]
      by_cases i2 : fFormat_isInfinite k y = 0
      · rw [if_pos i2, if_pos i2, if_pos i2]; exact h60 neg 0
      · rw [if_neg i2, if_neg i2, if_neg i2]; exact h60 neg 1
  unfold SM_byQuotient fM_byQuotient fFloating_quotient
  rw [m_isMinus, m_isMinus]
  by_cases q : fFormat_isNegative k x = fFormat_isNegative k y
  · rw [if_pos q, if_pos q, if_pos q]; exact h19 0
  · rw [if_neg q, if_neg q, if_neg q]; exact h19 1
