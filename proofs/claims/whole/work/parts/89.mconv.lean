theorem sx8 (x : Int64) : bn_sar (bn_shl x 56) 56 = x.toInt32.toInt8.toInt32.toInt64 := by
  apply Int64.toInt_inj.mp
  rw [bn_s_sar, show ((56 : Int32).toInt % 64).toNat = 56 from rfl, Int32.toInt_toInt64, Int8.toInt_toInt32, Int32.toInt_toInt8, bn_u_l2i, bn_s_u, bn_u_shl, show ((56 : Int32).toInt % 64).toNat = 56 from rfl]
  have h := bn_u_lt x
  generalize bn_u x = X at *
  have e : X * 2^56 % 2^64 = X % 2^8 * 2^56 := by omega
  rw [e]
  unfold Int.bmod
  simp only []
  split <;> split <;> split <;> omega
theorem sx16 (x : Int64) : bn_sar (bn_shl x 48) 48 = x.toInt32.toInt16.toInt32.toInt64 := by
  apply Int64.toInt_inj.mp
  rw [bn_s_sar, show ((48 : Int32).toInt % 64).toNat = 48 from rfl, Int32.toInt_toInt64, Int16.toInt_toInt32, Int32.toInt_toInt16, bn_u_l2i, bn_s_u, bn_u_shl, show ((48 : Int32).toInt % 64).toNat = 48 from rfl]
  have h := bn_u_lt x
  generalize bn_u x = X at *
  have e : X * 2^48 % 2^64 = X % 2^16 * 2^48 := by omega
  rw [e]
  unfold Int.bmod
  simp only []
  split <;> split <;> split <;> omega
theorem sx32 (x : Int64) : bn_sar (bn_shl x 32) 32 = x.toInt32.toInt64 := fWS 0 x
theorem m_between (f t : Nat) (x : Int64) (hx : bn_ok f x) (σ : MS) : SM_between (tt f) (tt t) x σ ∧ (fM_between (tt f) (tt t) x σ).1 = fConversions_otherFormat f t x ∧ kt σ (fM_between (tt f) (tt t) x σ).2 := by
  unfold SM_between fM_between SM_between_20 fM_between_20
  rw [m_isNone f x hx, m_isInfinite f x hx, m_isMinus, m_theNone, m_signed, m_infinite, inf_fm]
  by_cases n1 : fFormat_isNone f x = 0
  · rw [if_pos n1, if_pos n1]
    by_cases i1 : fFormat_isInfinite f x = 0
    · rw [if_pos i1, if_pos i1, bn_otherFormat f t x hx n1 i1]
      obtain ⟨r1, r2, r3⟩ := value_out t (fFormat_isNegative f x) (fM_significand (tt f) x) (fM_scaleOf (tt f) x) (scale_i f x) σ
      refine ⟨⟨r1, trivial⟩, ?_, r3⟩
      rw [r2, m_significand, m_scaleOf]
      by_cases z : bn_mag f x = 0
      · rw [if_pos z, if_pos (V_0 z).2]
      · rw [if_neg z, if_neg (Nat.ne_of_gt (bn_M_pos f x z))]
    · rw [if_neg i1, if_neg i1]
      unfold fConversions_otherFormat
      rw [if_pos n1, if_neg i1]
      exact ⟨trivial, rfl, kt_refl σ⟩
  · rw [if_neg n1, if_neg n1]
    unfold fConversions_otherFormat
    rw [if_neg n1]
    exact ⟨trivial, rfl, kt_refl σ⟩
theorem m_fromWhole (k : Nat) (a sg : Int32) (x : Int64) (σ : MS) : SM_fromWhole a (tt k) sg x σ ∧ (fM_fromWhole a (tt k) sg x σ).1 = fConversions_fromWhole sg a k x ∧ kt σ (fM_fromWhole a (tt k) sg x σ).2 := by
  have v : ∀ (neg : Int32) (m : Int64), SM_fromWhole_52 m neg (tt k) σ ∧ (fM_fromWhole_52 m neg (tt k) σ).1 = fConversions_fromWhole_49 m neg k ∧ kt σ (fM_fromWhole_52 m neg (tt k) σ).2 := by
    intro neg m
    unfold SM_fromWhole_52 fM_fromWhole_52 fConversions_fromWhole_49
    obtain ⟨r1, r2, r3⟩ := value_out k neg m 0 ⟨by decide, by decide⟩ σ
    rw [bn_whole_rounded]
    exact ⟨⟨r1, trivial⟩, r2, r3⟩
  unfold SM_fromWhole fM_fromWhole fConversions_fromWhole SM_fromWhole_8 fM_fromWhole_8 fConversions_fromWhole_13 SM_fromWhole_23 fM_fromWhole_23 fConversions_fromWhole_30 SM_fromWhole_24 fM_fromWhole_24 fConversions_fromWhole_31
  rw [fWS]
  by_cases s : sg = 0
  · simp only [if_pos s, if_pos (show (0 : Int32) = 0 from rfl)]
    exact v 0 x
  · by_cases n : 0 ≤ fWhole_withSign a x
    · simp only [if_neg s, if_pos n, if_pos (show (0 : Int32) = 0 from rfl)]
      exact v 0 (fWhole_withSign a x)
    · simp only [if_neg s, if_neg n, if_neg (show ¬ (1 : Int32) = 0 by decide)]
      exact v 1 (-(fWhole_withSign a x))
def lim (r sg neg : Int32) : Int64 := if neg = 0 then fWhole_greatest r sg else (if sg = 0 then 0 else fWhole_greatest r 1 + 1)
theorem tw_lim (r sg : Int32) (hr : r = 0 ∨ r = 1) (hsg : sg = 0 ∨ sg = 1) : (if sg = 0 then (if fM_width r = 32 then (4294967295 : Int64) else -1) else bn_shl 1 (fM_width r - 1) - 1) = lim r sg 0 ∧ (if sg = 0 then 0 else bn_shl 1 (fM_width r - 1)) = lim r sg 1 ∧ (if sg = 0 then 0 else bn_shl (-1) (fM_width r - 1)) = -(lim r sg 1) := by
  rcases hr with rfl | rfl <;> rcases hsg with rfl | rfl <;> decide +kernel
theorem inf_tz {k : Nat} {x : Int64} (h : bn_mag k x = bn_INF k) : 2^64 ≤ bn_tz k x := by
  have he : bn_ex k x = bn_E k := by
    unfold bn_ex
    rw [h]
    unfold bn_INF
    exact Nat.mul_div_cancel _ (Nat.two_pow_pos _)
  have d : bn_S k x = bn_mn k + (max (bn_ex k x) 1 : Nat) - 1 := rfl
  have hM : 2^(bn_P k - 1) ≤ bn_M k x := by
    unfold bn_M
    rw [if_neg (by rw [he]; rcases bn_k2 k with ⟨_, _, c3⟩ | ⟨_, _, c3⟩ <;> rw [c3] <;> decide)]
    exact Nat.le_add_right _ _
  have hS : 64 ≤ bn_S k x := by
    rcases bn_k2 k with ⟨c1, c2, c3⟩ | ⟨c1, c2, c3⟩
    · rw [c2, he, c3] at d; omega
    · rw [c2, he, c3] at d; omega
  have hn : 64 ≤ (bn_S k x).toNat := by omega
  unfold bn_tz
  rw [if_pos (by omega)]
  refine Nat.le_trans (Nat.pow_le_pow_right (by decide) hn) (Nat.le_mul_of_pos_left _ ?_)
  exact Nat.lt_of_lt_of_le (Nat.two_pow_pos _) hM
def tzR (k : Nat) (neg bd : Int32) (L : Int64) (x : Int64) (σ : MS) : Int64 × MS := if bn_tz k x ≤ bn_u L then ((if neg = 0 then lN (bn_tz k x) else -(lN (bn_tz k x))), σ) else fM_bound bd 2 (if neg = 0 then L else -L) σ
theorem tz_196 (k : Nat) (r sg bd neg : Int32) (hr : r = 0 ∨ r = 1) (hsg : sg = 0 ∨ sg = 1) (hneg : neg = 0 ∨ neg = 1) (a13 a18 : Int64) (x : Int64) (σ : MS) (h18 : bn_u a18 = bn_tz k x) (h13 : a13 = if neg = 0 then lim r sg neg else -(lim r sg neg)) :
    SM_toWhole_196 sg bd neg (fM_width r) (lim r sg 0) a13 a18 σ ∧ fM_toWhole_196 sg bd neg (fM_width r) (lim r sg 0) a13 a18 σ = tzR k neg bd (lim r sg neg) x σ := by
  have e18 : a18 = lN (bn_tz k x) := bn_u_inj (by rw [h18]; exact (bn_u_ofNat (by rw [← h18]; exact bn_u_lt a18)).symm)
  have h220 : SM_toWhole_220 bd neg a13 a18 (lim r sg neg) σ ∧ fM_toWhole_220 bd neg a13 a18 (lim r sg neg) σ = tzR k neg bd (lim r sg neg) x σ := by
    refine ⟨trivial, ?_⟩
    unfold fM_toWhole_220 tzR
    rw [isBelow_val, h18]
    by_cases w : bn_tz k x ≤ bn_u (lim r sg neg)
    · rw [if_neg (Nat.not_lt.mpr w), if_pos rfl, if_pos w, e18]
      split <;> rfl
    · rw [if_pos (Nat.not_le.mp w), if_neg (show ¬ (1 : Int32) = 0 by decide), if_neg w, h13]
  obtain ⟨l1, l2, l3⟩ := tw_lim r sg hr hsg
  unfold SM_toWhole_196 fM_toWhole_196
  rcases hneg with rfl | rfl
  · rw [if_pos rfl, if_pos rfl]; exact h220
  · rw [if_neg (show ¬ (1 : Int32) = 0 by decide), if_neg (show ¬ (1 : Int32) = 0 by decide)]
    rcases hsg with rfl | rfl
    · rw [if_pos rfl, if_pos rfl]
      rw [if_pos rfl] at l2
      rw [l2]; exact h220
    · rw [if_neg (show ¬ (1 : Int32) = 0 by decide), if_neg (show ¬ (1 : Int32) = 0 by decide)]
      rw [if_neg (show ¬ (1 : Int32) = 0 by decide)] at l2
      rw [l2]; exact h220
theorem tz_big {k : Nat} {x : Int64} (h : ¬ ((bn_len (bn_M k x) : Int) - 1 + bn_S k x ≤ 63)) (hM : 0 < bn_M k x) : 2^64 ≤ bn_tz k x := by
  have hl := len_le53 (bn_M_lt53 k x)
  have h0 : 0 ≤ bn_S k x := by omega
  have h1 : 64 ≤ bn_len (bn_M k x) - 1 + (bn_S k x).toNat := by
    have := bn_len_pos hM
    omega
  unfold bn_tz
  rw [if_pos h0]
  refine Nat.le_trans (Nat.pow_le_pow_right (by decide) h1) ?_
  rw [Nat.pow_add]
  exact Nat.mul_le_mul_right _ (bn_len_ge hM)
theorem tz_132 (k : Nat) (r sg bd neg : Int32) (hr : r = 0 ∨ r = 1) (hsg : sg = 0 ∨ sg = 1) (hneg : neg = 0 ∨ neg = 1) (a13 : Int64) (x : Int64) (σ : MS) (h13 : a13 = if neg = 0 then lim r sg neg else -(lim r sg neg)) :
    SM_toWhole_132 sg bd neg (fM_width r) (lim r sg 0) a13 (fM_significand (tt k) x) (fM_scaleOf (tt k) x) σ ∧ fM_toWhole_132 sg bd neg (fM_width r) (lim r sg 0) a13 (fM_significand (tt k) x) (fM_scaleOf (tt k) x) σ = tzR k neg bd (lim r sg neg) x σ := by
  have ux := m_significand k x
  have scx := m_scaleOf k x
  have sx := S_rng k x
  have ml := bn_M_lt53 k x
  have hl := len_le53 ml
  have big : 2^64 ≤ bn_tz k x → tzR k neg bd (lim r sg neg) x σ = ((fM_bound bd 2 a13 σ).1, (fM_bound bd 2 a13 σ).2) := by
    intro h
    unfold tzR
    rw [if_neg (Nat.not_le.mpr (Nat.lt_of_lt_of_le (bn_u_lt _) h)), h13]
  unfold SM_toWhole_132 fM_toWhole_132 SM_toWhole_194 fM_toWhole_194
  by_cases z : fM_significand (tt k) x = 0
  · rw [if_pos z, if_pos z]
    have hM : bn_M k x = 0 := by rw [← ux]; exact bn_u_zero.mp z
    have ht : bn_tz k x = 0 := by
      unfold bn_tz
      rw [hM, Nat.zero_mul, Nat.zero_div, ite_self]
    refine ⟨trivial, ?_⟩
    unfold tzR
    rw [ht, if_pos (Nat.zero_le _)]
    split <;> rfl
  · rw [if_neg z, if_neg z]
    have hM : 0 < bn_M k x := by
      rw [← ux]; exact Nat.pos_of_ne_zero (fun w => z (bn_u_zero.mpr w))
    have hlp := bn_len_pos hM
    have hh := highest_val (fM_significand (tt k) x) z
    rw [ux] at hh
    have hsum : (fM_highest (fM_significand (tt k) x) + fM_scaleOf (tt k) x).toInt = (bn_len (bn_M k x) : Int) - 1 + bn_S k x := by
      clear ml
      rw [bn_i_add] <;> rw [hh, scx]; omega
    by_cases q : fM_highest (fM_significand (tt k) x) + fM_scaleOf (tt k) x ≤ 63
    · rw [if_pos q, if_pos q]
      rw [Int32.le_iff_toInt_le, hsum, show (63 : Int32).toInt = 63 from rfl] at q
      by_cases s : fM_scaleOf (tt k) x < 0
      · rw [if_pos s, if_pos s]
        rw [Int32.lt_iff_toInt_lt, scx, show (0 : Int32).toInt = 0 from rfl] at s
        by_cases t : (-63 : Int32) ≤ fM_scaleOf (tt k) x
        · rw [if_pos t, if_pos t]
          rw [Int32.le_iff_toInt_le, scx, show (-63 : Int32).toInt = -63 from rfl] at t
          have hn : (-(fM_scaleOf (tt k) x)).toInt = ((-bn_S k x).toNat : Int) := by
            clear ml
            rw [bn_i_neg] <;> rw [scx] <;> omega
          have hn64 : (-bn_S k x).toNat < 64 := by clear ml; omega
          obtain ⟨r1, r2⟩ := tz_196 k r sg bd neg hr hsg hneg a13 (bn_shr (fM_significand (tt k) x) (-(fM_scaleOf (tt k) x))) x σ (by
            rw [bn_shr_u hn hn64, ux]
            unfold bn_tz
            rw [if_neg (Int.not_le.mpr s)]) h13
          exact ⟨⟨z, r1⟩, r2⟩
        · rw [if_neg t, if_neg t]
          rw [Int32.le_iff_toInt_le, scx, show (-63 : Int32).toInt = -63 from rfl] at t
          have hn64 : 53 ≤ (-bn_S k x).toNat := by clear ml; omega
          obtain ⟨r1, r2⟩ := tz_196 k r sg bd neg hr hsg hneg a13 0 x σ (by
            unfold bn_tz
            rw [if_neg (Int.not_le.mpr s), Nat.div_eq_of_lt (Nat.lt_of_lt_of_le ml (Nat.pow_le_pow_right (by decide) hn64))]
            rfl) h13
          exact ⟨⟨z, r1⟩, r2⟩
      · rw [if_neg s, if_neg s]
        rw [Int32.lt_iff_toInt_lt, scx, show (0 : Int32).toInt = 0 from rfl] at s
        have hn : (fM_scaleOf (tt k) x).toInt = ((bn_S k x).toNat : Int) := by
          clear ml
          rw [scx]; omega
        have hn64 : (bn_S k x).toNat < 64 := by clear ml; omega
        have hnl : bn_len (bn_M k x) + (bn_S k x).toNat ≤ 64 := by clear ml; omega
        have hlt : bn_M k x * 2^(bn_S k x).toNat < 2^64 := by
          refine Nat.lt_of_lt_of_le (Nat.mul_lt_mul_of_pos_right (bn_len_lt (bn_M k x)) (Nat.two_pow_pos _)) ?_
          rw [← Nat.pow_add]
          exact Nat.pow_le_pow_right (by decide) hnl
        obtain ⟨r1, r2⟩ := tz_196 k r sg bd neg hr hsg hneg a13 (bn_shl (fM_significand (tt k) x) (fM_scaleOf (tt k) x)) x σ (by
          rw [bn_shl_u hn hn64 (by rw [ux]; exact hlt), ux]
          unfold bn_tz
          rw [if_pos (Int.not_lt.mp s)]) h13
        exact ⟨⟨z, r1⟩, r2⟩
    · rw [if_neg q, if_neg q]
      rw [Int32.le_iff_toInt_le, hsum, show (63 : Int32).toInt = 63 from rfl] at q
      exact ⟨⟨z, trivial⟩, (big (tz_big q hM)).symm⟩
theorem tz_ref (k : Nat) (r sg bd : Int32) (hr : r = 0 ∨ r = 1) (hsg : sg = 0 ∨ sg = 1) (x : Int64) (hx : bn_ok k x) (hn : fFormat_isNone k x = 0) (σ : MS) :
    SM_toWhole (tt k) r sg bd x σ ∧ fM_toWhole (tt k) r sg bd x σ = tzR k (fFormat_isNegative k x) bd (lim r sg (fFormat_isNegative k x)) x σ := by
  obtain ⟨l1, l2, l3⟩ := tw_lim r sg hr hsg
  have hneg := bn_neg01 k x
  unfold SM_toWhole fM_toWhole SM_toWhole_8 fM_toWhole_8 SM_toWhole_14 fM_toWhole_14
  rw [m_isNone k x hx, if_pos hn, if_pos hn, m_isMinus]
  generalize fFormat_isNegative k x = neg at *
  have h95 : ∀ a13 : Int64, a13 = (if neg = 0 then lim r sg neg else -(lim r sg neg)) → SM_toWhole_95 (tt k) sg bd x neg (fM_width r) (lim r sg 0) a13 σ ∧ fM_toWhole_95 (tt k) sg bd x neg (fM_width r) (lim r sg 0) a13 σ = tzR k neg bd (lim r sg neg) x σ := by
    intro a13 h13
    unfold SM_toWhole_95 fM_toWhole_95 SM_toWhole_124 fM_toWhole_124
    rw [m_isInfinite k x hx]
    by_cases i1 : fFormat_isInfinite k x = 0
    · rw [if_pos i1, if_pos i1]
      exact tz_132 k r sg bd neg hr hsg hneg a13 x σ h13
    · rw [if_neg i1, if_neg i1]
      have m1 : bn_mag k x = bn_INF k := by
        rw [bn_isInfinite k x hx] at i1
        refine Decidable.byContradiction (fun w => i1 ?_)
        rw [if_neg w]
      refine ⟨trivial, ?_⟩
      unfold tzR
      rw [if_neg (Nat.not_le.mpr (Nat.lt_of_lt_of_le (bn_u_lt _) (inf_tz m1))), h13]
  have h63 : SM_toWhole_63 (tt k) sg bd x neg (fM_width r) (lim r sg 0) σ ∧ fM_toWhole_63 (tt k) sg bd x neg (fM_width r) (lim r sg 0) σ = tzR k neg bd (lim r sg neg) x σ := by
    have h81 : ∀ s0 : Int64, s0 = -(lim r sg 1) → SM_toWhole_81 (tt k) sg bd x neg (fM_width r) (lim r sg 0) s0 σ ∧ fM_toWhole_81 (tt k) sg bd x neg (fM_width r) (lim r sg 0) s0 σ = tzR k neg bd (lim r sg neg) x σ := by
      intro s0 hs0
      unfold SM_toWhole_81 fM_toWhole_81
      rcases hneg with h | h
      · rw [if_pos h, if_pos h]
        exact h95 _ (by rw [if_pos h, h])
      · have hne : ¬ neg = 0 := by rw [h]; decide
        rw [if_neg hne, if_neg hne]
        exact h95 _ (by rw [if_neg hne, h]; exact hs0)
    unfold SM_toWhole_63 fM_toWhole_63
    rcases hsg with rfl | rfl
    · rw [if_pos rfl, if_pos rfl]
      exact h81 0 (by rw [if_pos rfl] at l3; exact l3)
    · rw [if_neg (show ¬ (1 : Int32) = 0 by decide), if_neg (show ¬ (1 : Int32) = 0 by decide)]
      exact h81 _ (by rw [if_neg (show ¬ (1 : Int32) = 0 by decide)] at l3; exact l3)
  rw [← l1] at h63
  rcases hsg with rfl | rfl
  · rw [if_pos rfl] at h63
    rw [if_pos rfl, if_pos rfl]
    by_cases q : fM_width r = 32
    · rw [if_pos q] at h63
      rw [if_pos q, if_pos q]; exact h63
    · rw [if_neg q] at h63
      rw [if_neg q, if_neg q]; exact h63
  · rw [if_neg (show ¬ (1 : Int32) = 0 by decide)] at h63
    rw [if_neg (show ¬ (1 : Int32) = 0 by decide), if_neg (show ¬ (1 : Int32) = 0 by decide)]; exact h63
def TR (k : Nat) (r sg : Int32) (x : Int64) : Int32 := if fFormat_isNone k x = 0 then (if fConversions_fits k x (fConversions_limit k x r sg) = 0 then 2 else 0) else 3
def TZ (k : Nat) (r sg : Int32) (x : Int64) : Int64 := if fFormat_isNone k x = 0 then fConversions_towardsZero_22 k x (fConversions_limit k x r sg) else 0
theorem m_toWhole (k : Nat) (r sg bd : Int32) (hr : r = 0 ∨ r = 1) (hsg : sg = 0 ∨ sg = 1) (x : Int64) (hx : bn_ok k x) (σ : MS) (h0 : ms_trap σ = 0) :
    SM_toWhole (tt k) r sg bd x σ ∧ kp σ (fM_toWhole (tt k) r sg bd x σ).2 ∧ ms_trap (fM_toWhole (tt k) r sg bd x σ).2 = (if bd = 0 then TR k r sg x else 0) ∧ ((if bd = 0 then TR k r sg x else 0) = 0 → (fM_toWhole (tt k) r sg bd x σ).1 = TZ k r sg x) := by
  have hlim : fConversions_limit k x r sg = lim r sg (fFormat_isNegative k x) := rfl
  unfold TR TZ
  by_cases n : fFormat_isNone k x = 0
  · obtain ⟨s1, s2⟩ := tz_ref k r sg bd hr hsg x hx n σ
    refine ⟨s1, ?_⟩
    rw [s2, if_pos n, if_pos n, hlim]
    obtain ⟨f1, f2⟩ := bn_fits k x (lim r sg (fFormat_isNegative k x)) hx
    unfold fConversions_towardsZero_22 fConversions_towardsZero_50 tzR
    generalize fFormat_isNegative k x = neg at *
    rw [f1]
    by_cases w : bn_tz k x ≤ bn_u (lim r sg neg)
    · have hl : bn_tz k x < 2^64 := Nat.lt_of_le_of_lt w (bn_u_lt _)
      have e : fConversions_wholePart (fFormat_significand k x) (fFormat_scale k x) = lN (bn_tz k x) := bn_u_inj (by rw [f2 hl]; exact (bn_u_ofNat hl).symm)
      rw [if_pos w, if_pos w, if_neg (show ¬ (1 : Int32) = 0 by decide), if_neg (show ¬ (1 : Int32) = 0 by decide), e, ite_self]
      exact ⟨⟨rfl, rfl, rfl⟩, h0, fun _ => rfl⟩
    · rw [if_neg w, if_neg w, if_pos rfl, if_pos rfl]
      unfold fM_bound fM_bound_9
      by_cases b : bd = 0
      · rw [if_pos b, if_pos b]
        exact ⟨⟨rfl, rfl, rfl⟩, rfl, fun h => absurd h (by decide)⟩
      · rw [if_neg b, if_neg b]
        exact ⟨⟨rfl, rfl, rfl⟩, h0, fun _ => rfl⟩
  · rw [if_neg n, if_neg n]
    unfold SM_toWhole fM_toWhole SM_toWhole_8 fM_toWhole_8 SM_toWhole_14 fM_toWhole_14
    rw [m_isNone k x hx, if_neg n, if_neg n]
    refine ⟨trivial, ?_⟩
    unfold fM_bound fM_bound_9
    by_cases b : bd = 0
    · rw [if_pos b, if_pos b]
      exact ⟨⟨rfl, rfl, rfl⟩, rfl, fun h => absurd h (by decide)⟩
    · rw [if_neg b, if_neg b]
      exact ⟨⟨rfl, rfl, rfl⟩, h0, fun _ => rfl⟩
def CT (j : Nat) (x : Int64) : Int32 := if 200 ≤ nI j then 0 else (if fConversions_isTowardsZero (nI j) = 0 then 0 else fConversions_trapOf (nI j) (fFormat_of (fM_taken (nI j))) (fM_given (nI j)) x)
def CR (j : Nat) (x : Int64) : Int64 := fConversions_result (nI j) (fM_taken (nI j)) (fM_given (nI j)) x
def CV (j : Nat) (x : Int64) (σ : MS) : Prop := SM_convert (nI j) x σ ∧ kp σ (fM_convert (nI j) x σ).2 ∧ ms_trap (fM_convert (nI j) x σ).2 = CT j x ∧ (CT j x = 0 → (fM_convert (nI j) x σ).1 = CR j x)
theorem cv_kt {j : Nat} {x : Int64} {σ : MS} (h0 : ms_trap σ = 0) (hS : SM_convert (nI j) x σ) (hT : CT j x = 0) (hk : kt σ (fM_convert (nI j) x σ).2) (hv : (fM_convert (nI j) x σ).1 = CR j x) : CV j x σ := ⟨hS, hk.1, by rw [hT, hk.2, h0], fun _ => hv⟩
theorem ok_of {k : Nat} {x : Int64} (h : bok (tt k) x) : bn_ok k x := by
  show bn_u x < 2^bn_W k
  unfold bn_W
  by_cases q : k = 0
  · rw [if_pos q]
    exact h.2 (Or.inr ((tt_two k).mpr q))
  · rw [if_neg q]; exact bn_u_lt x
theorem fw_mk {j : Nat} (k : Nat) (a sg : Int32) {x : Int64} {σ : MS} (h0 : ms_trap σ = 0) (eS : SM_convert (nI j) x σ = (SM_fromWhole a (tt k) sg x σ ∧ True)) (eM : fM_convert (nI j) x σ = ((fM_fromWhole a (tt k) sg x σ).1, (fM_fromWhole a (tt k) sg x σ).2)) (eT : CT j x = 0) (eR : CR j x = fConversions_fromWhole sg a k x) : CV j x σ := by
  have e := m_fromWhole k a sg x σ
  refine cv_kt h0 (by rw [eS]; exact ⟨e.1, trivial⟩) eT (by rw [eM]; exact e.2.2) ?_
  rw [eM, eR]; exact e.2.1
theorem tw_mk {j : Nat} (k : Nat) (r sg bd : Int32) (hr : r = 0 ∨ r = 1) (hsg : sg = 0 ∨ sg = 1) {x : Int64} (hx : bn_ok k x) {σ : MS} (h0 : ms_trap σ = 0) (eS : SM_convert (nI j) x σ = (SM_toWhole (tt k) r sg bd x σ ∧ True)) (eM : fM_convert (nI j) x σ = ((fM_toWhole (tt k) r sg bd x σ).1, (fM_toWhole (tt k) r sg bd x σ).2)) (eT : CT j x = if bd = 0 then TR k r sg x else 0) (eR : CR j x = TZ k r sg x) : CV j x σ := by
  have e := m_toWhole k r sg bd hr hsg x hx σ h0
  unfold CV
  rw [eS, eM, eT, eR]
  exact ⟨⟨e.1, trivial⟩, e.2.1, e.2.2.1, e.2.2.2⟩
theorem bt_mk {j : Nat} (f t : Nat) {x : Int64} (hx : bn_ok f x) {σ : MS} (h0 : ms_trap σ = 0) (eS : SM_convert (nI j) x σ = (SM_between (tt f) (tt t) x σ ∧ True)) (eM : fM_convert (nI j) x σ = ((fM_between (tt f) (tt t) x σ).1, (fM_between (tt f) (tt t) x σ).2)) (eT : CT j x = 0) (eR : CR j x = fConversions_otherFormat f t x) : CV j x σ := by
  have e := m_between f t x hx σ
  refine cv_kt h0 (by rw [eS]; exact ⟨e.1, trivial⟩) eT (by rw [eM]; exact e.2.2) ?_
  rw [eM, eR]; exact e.2.1
theorem id_mk {j : Nat} {x v : Int64} {σ : MS} (h0 : ms_trap σ = 0) (eS : SM_convert (nI j) x σ = True) (eM : fM_convert (nI j) x σ = (v, σ)) (eT : CT j x = 0) (eR : CR j x = v) : CV j x σ := by
  refine cv_kt h0 (by rw [eS]; trivial) eT (by rw [eM]; exact kt_refl σ) ?_
  rw [eM, eR]

