theorem sum_num {A B L : Nat} (hA : A < 2^L) (hB : B < 2^L) (h : 0 < A + B) (hL : L ≤ 2200) : bn_len (A + B) ≤ 2201 ∧ (A + B) * 2^64 < 65536^320 := by
  have h1 : A + B < 2^(L + 1) := by
    rw [Nat.pow_succ]
    generalize 2^L = G at *
    omega
  have h2 : bn_len (A + B) ≤ L + 1 := bn_len_le.mpr h1
  refine ⟨Nat.le_trans h2 (by clear hA hB h1; omega), ?_⟩
  rw [dg_pow]
  refine Nat.lt_of_lt_of_le (Nat.mul_lt_mul_of_pos_right h1 (Nat.two_pow_pos 64)) ?_
  rw [← Nat.pow_add]
  exact Nat.pow_le_pow_right (by decide) (by clear hA hB h1; omega)
theorem row_sh (k : Nat) (neg : Int32) (σ : MS) (W : Nat) (m : Int) (hr : dg_ok (ms_row σ) 320) (hV : dgV (dg (ms_row σ)) 320 = W * 2^64) (hW : 0 < W) (hl : bn_len W ≤ 2201) (hb : (ms_base σ).toInt = m - 64) (h1 : -1100 ≤ m) (h2 : m ≤ 1000) :
    SM_roundedRow (tt k) neg σ ∧ (fM_roundedRow (tt k) neg σ).1 = bn_out k neg W m ∧ kt σ (fM_roundedRow (tt k) neg σ).2 := by
  have hlen := bn_len_mul hW 64
  have hA : 56 ≤ bn_len (W * 2^64) := by rw [hlen]; clear hV hlen; omega
  have hZ : bn_len (W * 2^64) ≤ 3000 := by rw [hlen]; clear hV hlen; omega
  have hB1 : -4000 ≤ m - 64 := by clear hV hlen hA hZ; omega
  have hB2 : m - 64 ≤ 3000 := by clear hV hlen hA hZ; omega
  have r := row_out k neg σ (W * 2^64) (m - 64) hr hV hA hb hB1 hB2 hZ
  rw [out_mul k neg W (m - 64) 64 hW, show m - 64 + ((64 : Nat) : Int) = m by omega] at r
  exact r
theorem sub_len {A B L : Nat} (hA : A < 2^L) (hL : L ≤ 2200) : bn_len (A - B) ≤ 2201 := Nat.le_trans (bn_len_le.mpr (Nat.lt_of_le_of_lt (Nat.sub_le A B) hA)) (by clear hA; omega)
theorem sum_main (k : Nat) (nx ny : Int32) (A B L : Nat) (m : Int) (τ : MS) (r1 : dg_ok (ms_row τ) 320) (r2 : dgV (dg (ms_row τ)) 320 = A * 2^64) (o1 : dg_ok (ms_other τ) 320) (o2 : dgV (dg (ms_other τ)) 320 = B * 2^64) (hb : (ms_base τ).toInt = m - 64) (h1 : -1100 ≤ m) (h2 : m ≤ 1000) (hL : L ≤ 2200) (hA : A < 2^L) (hB : B < 2^L) (hnz : 0 < A + B) :
    SM_sum_177 (tt k) nx ny τ ∧ (fM_sum_177 (tt k) nx ny τ).1 = (if nx = ny then bn_out k nx (A + B) m else if A = B then 0 else if A < B then bn_out k ny (B - A) m else bn_out k nx (A - B) m) ∧ kt τ (fM_sum_177 (tt k) nx ny τ).2 := by
  have hc := cmpRows τ r1 o1
  rw [r2, o2] at hc
  have p64 : 0 < 2^64 := Nat.two_pow_pos 64
  have clt : (A * 2^64 < B * 2^64) ↔ A < B := Nat.mul_lt_mul_right p64
  have ceq : (A * 2^64 = B * 2^64) ↔ A = B := ⟨fun h => Nat.eq_of_mul_eq_mul_right p64 h, fun h => by rw [h]⟩
  unfold SM_sum_177 fM_sum_177 SM_sum_181 fM_sum_181
  rw [hc]
  unfold SM_sum_183 fM_sum_183 SM_sum_194 fM_sum_194 SM_sum_215 fM_sum_215 SM_sum_218 fM_sum_218 SM_sum_232 fM_sum_232 SM_sum_239 fM_sum_239
  by_cases q : nx = ny
  · rw [if_pos q, if_pos q, if_pos q, if_pos q, if_pos q]
    obtain ⟨n1, n2⟩ := sum_num hA hB hnz hL
    obtain ⟨h, e1, e2, e3⟩ := addRows_val τ r1 o1 (by rw [r2, o2, ← Nat.add_mul]; exact n2)
    rw [r2, o2, ← Nat.add_mul] at e3
    rw [e1]
    obtain ⟨s1, s2, s3⟩ := row_sh k nx (ms_set_row τ h) (A + B) m e2 e3 hnz n1 hb h1 h2
    exact ⟨⟨s1, trivial⟩, s2, kt_trans (kt_row τ h) s3⟩
  · simp only [if_neg q]
    rcases Nat.lt_trichotomy A B with w | w | w
    · have d : dg_sg (A * 2^64) (B * 2^64) = -1 := by unfold dg_sg; rw [if_pos (clt.mpr w)]
      rw [d, if_neg (show ¬ (-1 : Int32) = 0 by decide), if_neg (show ¬ (-1 : Int32) = 0 by decide), if_neg (show ¬ (0 : Int32) ≤ -1 by decide), if_neg (show ¬ (0 : Int32) ≤ -1 by decide), if_pos (show (-1 : Int32) ≤ 0 by decide), if_pos (show (-1 : Int32) ≤ 0 by decide), if_neg (Nat.ne_of_lt w), if_pos w]
      obtain ⟨h, e1, e2, e3⟩ := subRows_val 1 τ r1 o1 (by rw [if_neg (show ¬ (1 : Int32) = 0 by decide), r2, o2]; exact Nat.le_of_lt (clt.mpr w))
      rw [if_neg (show ¬ (1 : Int32) = 0 by decide), r2, o2, ← Nat.sub_mul] at e3
      rw [e1]
      obtain ⟨s1, s2, s3⟩ := row_sh k ny (ms_set_row τ h) (B - A) m e2 e3 (Nat.sub_pos_of_lt w) (sub_len hB hL) hb h1 h2
      exact ⟨⟨s1, trivial⟩, s2, kt_trans (kt_row τ h) s3⟩
    · have d : dg_sg (A * 2^64) (B * 2^64) = 0 := by unfold dg_sg; rw [if_neg (by rw [w]; exact Nat.lt_irrefl _), if_pos (ceq.mpr w)]
      rw [d, if_pos rfl, if_pos rfl, if_pos w]
      exact ⟨trivial, rfl, kt_refl τ⟩
    · have d : dg_sg (A * 2^64) (B * 2^64) = 1 := by
        unfold dg_sg
        rw [if_neg (fun h => Nat.lt_asymm w (clt.mp h)), if_neg (fun h => Nat.ne_of_gt w (ceq.mp h))]
      rw [d, if_neg (show ¬ (1 : Int32) = 0 by decide), if_neg (show ¬ (1 : Int32) = 0 by decide), if_pos (show (0 : Int32) ≤ 1 by decide), if_pos (show (0 : Int32) ≤ 1 by decide), if_neg (show ¬ (1 : Int32) ≤ 0 by decide), if_neg (show ¬ (1 : Int32) ≤ 0 by decide), if_neg (Nat.ne_of_gt w), if_neg (Nat.lt_asymm w)]
      obtain ⟨h, e1, e2, e3⟩ := subRows_val 0 τ r1 o1 (by rw [if_pos rfl, r2, o2]; exact Nat.mul_le_mul_right _ (Nat.le_of_lt w))
      rw [if_pos rfl, r2, o2, ← Nat.sub_mul] at e3
      rw [e1]
      obtain ⟨s1, s2, s3⟩ := row_sh k nx (ms_set_row τ h) (A - B) m e2 e3 (Nat.sub_pos_of_lt w) (sub_len hA hL) hb h1 h2
      exact ⟨⟨s1, trivial⟩, s2, kt_trans (kt_row τ h) s3⟩
theorem sum_127 (k : Nat) (x y : Int64) (nx ny s0 : Int32) (m : Int) (hs : s0.toInt = m) (hmx : m ≤ bn_S k x) (hmy : m ≤ bn_S k y) (hm : -1074 ≤ m) (hnz : 0 < bn_M k x + bn_M k y) (σ : MS) :
    SM_sum_127 (tt k) x y nx ny (fM_scaleOf (tt k) x) (fM_scaleOf (tt k) y) s0 σ ∧ (fM_sum_127 (tt k) x y nx ny (fM_scaleOf (tt k) x) (fM_scaleOf (tt k) y) s0 σ).1 = (if nx = ny then bn_out k nx (bn_M k x * 2^(bn_S k x - m).toNat + bn_M k y * 2^(bn_S k y - m).toNat) m else if bn_M k x * 2^(bn_S k x - m).toNat = bn_M k y * 2^(bn_S k y - m).toNat then 0 else if bn_M k x * 2^(bn_S k x - m).toNat < bn_M k y * 2^(bn_S k y - m).toNat then bn_out k ny (bn_M k y * 2^(bn_S k y - m).toNat - bn_M k x * 2^(bn_S k x - m).toNat) m else bn_out k nx (bn_M k x * 2^(bn_S k x - m).toNat - bn_M k y * 2^(bn_S k y - m).toNat) m) ∧ kt σ (fM_sum_127 (tt k) x y nx ny (fM_scaleOf (tt k) x) (fM_scaleOf (tt k) y) s0 σ).2 := by
  have sx := S_rng k x
  have sy := S_rng k y
  have z64 : (64 : Int32).toInt = 64 := rfl
  have hb : (s0 - 64).toInt = m - 64 := by rw [bn_i_sub] <;> rw [z64] <;> omega
  have p1 : (fM_scaleOf (tt k) x - (s0 - 64)).toInt = (((bn_S k x - m).toNat + 64 : Nat) : Int) := by
    rw [bn_i_sub] <;> rw [m_scaleOf, hb] <;> omega
  have p2 : (fM_scaleOf (tt k) y - (s0 - 64)).toInt = (((bn_S k y - m).toNat + 64 : Nat) : Int) := by
    rw [bn_i_sub] <;> rw [m_scaleOf, hb] <;> omega
  have q1 : (bn_S k x - m).toNat + 64 ≤ 5000 := by omega
  have q2 : (bn_S k y - m).toNat + 64 ≤ 5000 := by omega
  have q3 : (bn_S k x - m).toNat ≤ 2047 := by omega
  have q4 : (bn_S k y - m).toNat ≤ 2047 := by omega
  have q5 : -1100 ≤ m := by omega
  have q6 : m ≤ 1000 := by omega
  generalize (bn_S k x - m).toNat = p at *
  generalize (bn_S k y - m).toNat = r at *
  unfold SM_sum_127 fM_sum_127 SM_sum_157 fM_sum_157
  rw [ms_base_base]
  obtain ⟨f, e1, e2, e3⟩ := set_row_val (fM_significand (tt k) x) (fM_scaleOf (tt k) x - (s0 - 64)) (ms_set_base σ (s0 - 64)) (p + 64) p1 q1
  rw [m_significand, Nat.pow_add, ← Nat.mul_assoc] at e3
  rw [e1, show ms_base (ms_set_row (ms_set_base σ (s0 - 64)) f) = s0 - 64 from rfl]
  obtain ⟨g, f1, f2, f3⟩ := set_other_val (fM_significand (tt k) y) (fM_scaleOf (tt k) y - (s0 - 64)) (ms_set_row (ms_set_base σ (s0 - 64)) f) (r + 64) p2 q2
  rw [m_significand, Nat.pow_add, ← Nat.mul_assoc] at f3
  rw [f1]
  have ml : ∀ (M j : Nat), M < 2^53 → j ≤ 2047 → M * 2^j < 2^(53 + 2047) := by
    intro M j h1 h2
    rw [Nat.pow_add]
    exact Nat.lt_of_lt_of_le (Nat.mul_lt_mul_of_pos_right h1 (Nat.two_pow_pos j)) (Nat.mul_le_mul_left _ (Nat.pow_le_pow_right (by decide) h2))
  have nz : 0 < bn_M k x * 2^p + bn_M k y * 2^r := by
    rcases Nat.eq_zero_or_pos (bn_M k x) with w | w
    · have : 0 < bn_M k y := by rw [w, Nat.zero_add] at hnz; exact hnz
      exact Nat.lt_of_lt_of_le (Nat.mul_pos this (Nat.two_pow_pos r)) (Nat.le_add_left _ _)
    · exact Nat.lt_of_lt_of_le (Nat.mul_pos w (Nat.two_pow_pos p)) (Nat.le_add_right _ _)
  obtain ⟨s1, s2, s3⟩ := sum_main k nx ny (bn_M k x * 2^p) (bn_M k y * 2^r) (53 + 2047) m (ms_set_other (ms_set_row (ms_set_base σ (s0 - 64)) f) g) e2 e3 f2 f3 hb q5 q6 (by decide) (ml _ _ (bn_M_lt53 k x) q3) (ml _ _ (bn_M_lt53 k y) q4) nz
  exact ⟨s1, s2, kt_trans (kt_trans (kt_trans (kt_base σ _) (kt_row _ f)) (kt_other _ g)) s3⟩
theorem V_at (k : Nat) (x : Int64) (m : Int) (h1 : bn_mn k ≤ m) (h2 : m ≤ bn_S k x) : bn_V k x = bn_M k x * 2^(bn_S k x - m).toNat * 2^(m - bn_mn k).toNat := by
  unfold bn_V
  rw [Nat.mul_assoc, ← Nat.pow_add, show (bn_S k x - m).toNat + (m - bn_mn k).toNat = (bn_S k x - bn_mn k).toNat by omega]
theorem V_0 {k : Nat} {x : Int64} (h : bn_mag k x = 0) : bn_V k x = 0 ∧ bn_M k x = 0 := by
  have hM : bn_M k x = 0 := by
    unfold bn_M
    rw [if_pos (by unfold bn_ex; rw [h, Nat.zero_div]), h]
  exact ⟨by unfold bn_V; rw [hM, Nat.zero_mul], hM⟩
theorem sum_fin (k : Nat) (x y : Int64) (hz : ¬ (bn_mag k x = 0 ∧ bn_mag k y = 0)) (σ : MS) :
    SM_sum_98 (tt k) x y (fFormat_isNegative k x) (fFormat_isNegative k y) σ ∧ (fM_sum_98 (tt k) x y (fFormat_isNegative k x) (fFormat_isNegative k y) σ).1 = bn_sum k x y ∧ kt σ (fM_sum_98 (tt k) x y (fFormat_isNegative k x) (fFormat_isNegative k y) σ).2 := by
  have hnz : 0 < bn_M k x + bn_M k y := by
    by_cases w : bn_mag k x = 0
    · have := bn_M_pos k y (fun w2 => hz ⟨w, w2⟩)
      omega
    · have := bn_M_pos k x w
      omega
  have sx := S_rng k x
  have sy := S_rng k y
  have gx := bn_S_ge k x
  have gy := bn_S_ge k y
  have hmn := bn_mn_le k
  have e1 := m_scaleOf k x
  have e2 := m_scaleOf k y
  have main : ∀ (s0 : Int32) (m : Int), s0.toInt = m → m ≤ bn_S k x → m ≤ bn_S k y → bn_mn k ≤ m → SM_sum_127 (tt k) x y (fFormat_isNegative k x) (fFormat_isNegative k y) (fM_scaleOf (tt k) x) (fM_scaleOf (tt k) y) s0 σ ∧ (fM_sum_127 (tt k) x y (fFormat_isNegative k x) (fFormat_isNegative k y) (fM_scaleOf (tt k) x) (fM_scaleOf (tt k) y) s0 σ).1 = bn_sum k x y ∧ kt σ (fM_sum_127 (tt k) x y (fFormat_isNegative k x) (fFormat_isNegative k y) (fM_scaleOf (tt k) x) (fM_scaleOf (tt k) y) s0 σ).2 := by
    intro s0 m h1 h2 h3 h4
    have hm : -1074 ≤ m := by omega
    obtain ⟨s1, s2, s3⟩ := sum_127 k x y (fFormat_isNegative k x) (fFormat_isNegative k y) s0 m h1 h2 h3 hm hnz σ
    refine ⟨s1, ?_, s3⟩
    rw [s2]
    have vx := V_at k x m h4 h2
    have vy := V_at k y m h4 h3
    have hj : bn_mn k + ((m - bn_mn k).toNat : Int) = m := by omega
    unfold bn_sum
    rw [vx, vy]
    have hnz2 : 0 < bn_M k x * 2^(bn_S k x - m).toNat + bn_M k y * 2^(bn_S k y - m).toNat := by
      rcases Nat.eq_zero_or_pos (bn_M k x) with w | w
      · have : 0 < bn_M k y := by rw [w, Nat.zero_add] at hnz; exact hnz
        exact Nat.lt_of_lt_of_le (Nat.mul_pos this (Nat.two_pow_pos _)) (Nat.le_add_left _ _)
      · exact Nat.lt_of_lt_of_le (Nat.mul_pos w (Nat.two_pow_pos _)) (Nat.le_add_right _ _)
    clear vx vy s1 s2 s3 hnz
    generalize bn_M k x * 2^(bn_S k x - m).toNat = A at *
    generalize bn_M k y * 2^(bn_S k y - m).toNat = B at *
    have pj : 0 < 2^(m - bn_mn k).toNat := Nat.two_pow_pos _
    have ex : ∀ (neg : Int32) (W : Nat), 0 < W → bn_out k neg (W * 2^(m - bn_mn k).toNat) (bn_mn k) = bn_out k neg W m := by
      intro neg W hW
      rw [out_mul k neg W _ _ hW, hj]
    have clt : (A * 2^(m - bn_mn k).toNat < B * 2^(m - bn_mn k).toNat) ↔ A < B := Nat.mul_lt_mul_right pj
    have ceq : (A * 2^(m - bn_mn k).toNat = B * 2^(m - bn_mn k).toNat) ↔ A = B := ⟨fun h => Nat.eq_of_mul_eq_mul_right pj h, fun h => by rw [h]⟩
    by_cases q : fFormat_isNegative k x = fFormat_isNegative k y
    · rw [if_pos q, if_pos q, ← Nat.add_mul, if_neg (Nat.ne_of_gt (Nat.mul_pos hnz2 pj)), ex _ _ hnz2]
    · rw [if_neg q, if_neg q]
      rcases Nat.lt_trichotomy A B with w | w | w
      · rw [if_neg (Nat.ne_of_lt w), if_pos w, if_neg (fun h => Nat.ne_of_lt w (ceq.mp h)), if_pos (clt.mpr w), ← Nat.sub_mul, ex _ _ (Nat.sub_pos_of_lt w)]
      · rw [if_pos w, if_pos (ceq.mpr w)]; rfl
      · rw [if_neg (Nat.ne_of_gt w), if_neg (Nat.lt_asymm w), if_neg (fun h => Nat.ne_of_gt w (ceq.mp h)), if_neg (fun h => Nat.lt_asymm w (clt.mp h)), ← Nat.sub_mul, ex _ _ (Nat.sub_pos_of_lt w)]
  unfold SM_sum_98 fM_sum_98 SM_sum_105 fM_sum_105 SM_sum_113 fM_sum_113
  by_cases q : fM_scaleOf (tt k) y ≤ fM_scaleOf (tt k) x
  · rw [if_pos q, if_pos q]
    rw [Int32.le_iff_toInt_le] at q
    exact main _ (bn_S k y) e2 (by omega) (by omega) gy
  · rw [if_neg q, if_neg q]
    rw [Int32.le_iff_toInt_le] at q
    exact main _ (bn_S k x) e1 (by omega) (by omega) gx
theorem m_sum (k : Nat) (x y : Int64) (hx : bn_ok k x) (hy : bn_ok k y) (σ : MS) : SM_sum (tt k) x y σ ∧ (fM_sum (tt k) x y σ).1 = fFloating_sum k x y ∧ kt σ (fM_sum (tt k) x y σ).2 := by
  unfold SM_sum fM_sum SM_sum_7 fM_sum_7 SM_sum_15 fM_sum_15
  rw [m_isMinus, m_isMinus, m_isInfinite k x hx, m_isInfinite k y hy, m_isZero k x hx, m_isZero k y hy]
  by_cases i1 : fFormat_isInfinite k x = 0
  · by_cases i2 : fFormat_isInfinite k y = 0
    · rw [bn_sum_fin k x y hx hy i1 i2, if_pos i1, if_pos i1, if_pos i2, if_pos i2]
      by_cases z1 : fFormat_isZero k x = 0
      · rw [if_pos z1, if_pos z1]
        exact sum_fin k x y (fun w => (zero_mag hx).mp z1 w.1) σ
      · rw [if_neg z1, if_neg z1]
        by_cases z2 : fFormat_isZero k y = 0
        · rw [if_pos z2, if_pos z2]
          exact sum_fin k x y (fun w => (zero_mag hy).mp z2 w.2) σ
        · rw [if_neg z2, if_neg z2]
          have m1 : bn_mag k x = 0 := Decidable.byContradiction (fun w => z1 ((zero_mag hx).mpr w))
          have m2 : bn_mag k y = 0 := Decidable.byContradiction (fun w => z2 ((zero_mag hy).mpr w))
          unfold SM_sum_92 fM_sum_92 SM_sum_93 fM_sum_93 bn_sum
          rw [m_signed, m_signed, (V_0 m1).1, (V_0 m2).1, if_pos (show 0 + 0 = 0 from rfl), if_pos (show (0 : Nat) = 0 from rfl)]
          rcases bn_neg01 k x with w1 | w1
          · rw [w1, if_pos rfl, if_pos rfl]
            refine ⟨trivial, ?_, kt_refl σ⟩
            split <;> rfl
          · rw [w1, if_neg (show ¬ (1 : Int32) = 0 by decide), if_neg (show ¬ (1 : Int32) = 0 by decide)]
            rcases bn_neg01 k y with w2 | w2
            · rw [w2, if_pos rfl, if_pos rfl, if_neg (show ¬ (1 : Int32) = 0 by decide)]
              exact ⟨trivial, rfl, kt_refl σ⟩
            · rw [w2, if_neg (show ¬ (1 : Int32) = 0 by decide), if_neg (show ¬ (1 : Int32) = 0 by decide), if_pos rfl]
              exact ⟨trivial, rfl, kt_refl σ⟩
    · rw [if_pos i1, if_pos i1, if_neg i2, if_neg i2]
      refine ⟨trivial, ?_, kt_refl σ⟩
      unfold fFloating_sum fFloating_sum_16 fFloating_sumWithInfinite fFloating_sumWithInfinite_20 fFloating_sumWithInfinite_21 fFloating_sumWithInfinite_46
      rw [if_pos i1, if_neg i2, if_pos i1, if_pos rfl, if_pos i1]
  · rw [if_neg i1, if_neg i1]
    unfold fFloating_sum fFloating_sum_16 fFloating_sumWithInfinite fFloating_sumWithInfinite_20 fFloating_sumWithInfinite_21 fFloating_sumWithInfinite_46 SM_sum_46 fM_sum_46
    rw [if_neg i1, if_neg i1, if_neg i1]
    by_cases i2 : fFormat_isInfinite k y = 0
    · rw [if_pos i2, if_pos i2, if_pos i2, if_pos rfl]
      exact ⟨trivial, rfl, kt_refl σ⟩
    · rw [if_neg i2, if_neg i2, if_neg i2, if_neg (show ¬ (1 : Int32) = 0 by decide), m_theNone]
      split
      · exact ⟨trivial, rfl, kt_refl σ⟩
      · exact ⟨trivial, rfl, kt_refl σ⟩
