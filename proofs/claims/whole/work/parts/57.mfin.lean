theorem bn_k2 (k : Nat) : (bn_P k = 24 ∧ bn_mn k = -149 ∧ bn_E k = 255) ∨ (bn_P k = 53 ∧ bn_mn k = -1074 ∧ bn_E k = 2047) := by
  unfold bn_P bn_mn bn_E; split
  · exact Or.inl ⟨rfl, rfl, rfl⟩
  · exact Or.inr ⟨rfl, rfl, rfl⟩
theorem fin_num {P mn E T : Nat} {S d : Nat} (hT : 0 < T) (h : S < 2 * T) (hS : T ≤ S) : (d + 1 < E → d * T + S < E * T ∧ (d + 1) * T + S - T = d * T + S) ∧ (¬ d + 1 < E → E * T ≤ d * T + S) := by
  refine ⟨fun q => ?_, fun q => ?_⟩
  · have h1 : (d + 2) * T ≤ E * T := Nat.mul_le_mul_right T q
    rw [Nat.add_mul] at h1
    have h2 : (d + 1) * T = d * T + T := by rw [Nat.add_mul, Nat.one_mul]
    omega
  · have h1 : E * T ≤ (d + 1) * T := Nat.mul_le_mul_right T (by omega)
    have h2 : (d + 1) * T = d * T + T := by rw [Nat.add_mul, Nat.one_mul]
    omega
theorem fin_166 (k : Nat) (neg : Int32) (a4 e : Int32) (s : Int64) (σ : MS) (h4 : a4.toInt = bn_P k) (hs : bn_u s < 2^bn_P k) (he : 2^(bn_P k - 1) ≤ bn_u s ∨ e.toInt = bn_mn k) (he2 : bn_mn k ≤ e.toInt ∧ e.toInt ≤ 20000) :
    fM_rounded_166 (tt k) neg a4 e s σ = (fFormat_signed k neg (Int64.ofNat (min ((e.toInt - bn_mn k).toNat * 2^(bn_P k - 1) + bn_u s) (bn_INF k))), σ) := by
  have hP := bn_P_le k
  have z1 : (1 : Int32).toInt = 1 := rfl
  have hk2 := bn_k2 k
  have hp1 : (a4 - 1).toInt = ((bn_P k - 1 : Nat) : Int) := by rw [bn_i_sub] <;> rw [h4, z1] <;> omega
  have hsh : bn_u (bn_shl 1 (a4 - 1)) = 2^(bn_P k - 1) := by
    rw [bn_shl_u hp1 (by omega)] <;> rw [show bn_u 1 = 1 from rfl, Nat.one_mul]
    exact Nat.lt_of_le_of_lt (Nat.pow_le_pow_right (by decide) (show bn_P k - 1 ≤ 52 by omega)) (by decide)
  have hP2 : 2^bn_P k = 2 * 2^(bn_P k - 1) := by rw [← Nat.pow_succ']; congr 1; omega
  have hT53 : 2^(bn_P k - 1) ≤ 2^52 := Nat.pow_le_pow_right (by decide) (by omega)
  have hTp : 0 < 2^(bn_P k - 1) := Nat.two_pow_pos _
  have hI : bn_INF k = bn_E k * 2^(bn_P k - 1) := rfl
  have hEP : bn_E k * 2^(bn_P k - 1) < 2^63 := by unfold bn_E bn_P; split <;> decide
  have hl := m_least k
  have hla := m_last k
  generalize hT : 2^(bn_P k - 1) = T at *
  rw [hP2] at hs
  unfold fM_rounded_166
  have hc : (bn_shl 1 (a4 - 1) ≤ s) ↔ T ≤ bn_u s := by
    rw [bn_le (by rw [hsh]; omega) (by omega), hsh]
  by_cases q : T ≤ bn_u s
  · rw [if_pos (hc.mpr q)]
    unfold fM_rounded_198 fM_rounded_233 fM_rounded_235
    have hmn := bn_mn_le k
    obtain ⟨d, hd⟩ : ∃ d : Nat, e.toInt - bn_mn k = d := ⟨(e.toInt - bn_mn k).toNat, by omega⟩
    have s1 : (e - fM_least (tt k)).toInt = d := by rw [bn_i_sub] <;> rw [hl] <;> omega
    have s2 : bn_u ((e - fM_least (tt k)).toInt64 + 1) = d + 1 := by
      have := bn_u_i2l (e - fM_least (tt k))
      rw [s1] at this
      rw [bn_add_u] <;> rw [show bn_u 1 = 1 from rfl] <;> omega
    have s3 : bn_u (fM_last (tt k)).toInt64 = bn_E k := by
      have := bn_u_i2l (fM_last (tt k))
      rw [hla] at this
      omega
    have hE : bn_E k ≤ 2047 := by omega
    have hlt : ((e - fM_least (tt k)).toInt64 + 1 < (fM_last (tt k)).toInt64) ↔ d + 1 < bn_E k := by
      rw [bn_lt (by rw [s2]; omega) (by rw [s3]; omega), s2, s3]
    obtain ⟨f1, f2⟩ := fin_num (P := 0) (mn := 0) (E := bn_E k) (d := d) hTp hs q
    rw [show (e.toInt - bn_mn k).toNat = d by omega, hI]
    generalize (e - fM_least (tt k)).toInt64 + 1 = a9 at *
    by_cases w : d + 1 < bn_E k
    · rw [if_pos (hlt.mpr w)]
      obtain ⟨g1, g2⟩ := f1 w
      rw [Nat.min_eq_left (Nat.le_of_lt g1), m_signed]
      congr 2
      apply bn_u_inj
      have hdT : (d + 1) * T ≤ bn_E k * T := Nat.mul_le_mul_right T (Nat.le_of_lt w)
      have u1 : bn_u (bn_shl a9 (a4 - 1)) = (d + 1) * T := by
        rw [bn_shl_u hp1 (by omega)] <;> rw [s2, hT]; omega
      have u2 : bn_u (bn_shl a9 (a4 - 1) + s) = (d + 1) * T + bn_u s := by
        rw [bn_add_u] <;> rw [u1]; omega
      rw [bn_sub_u (by rw [hsh, u2]; omega), u2, hsh, bn_u_ofNat (by omega)]
      exact g2
    · rw [if_neg (fun z => w (hlt.mp z)), Nat.min_eq_right (f2 w), m_signed, m_infinite, hI]
  · rw [if_neg (fun z => q (hc.mp z)), m_signed]
    have hem : e.toInt = bn_mn k := by rcases he with z | z; exact absurd z q; exact z
    rw [hem, show (bn_mn k - bn_mn k).toNat = 0 by omega, Nat.zero_mul, Nat.zero_add, hI]
    have hTE : T ≤ bn_E k * T := Nat.le_mul_of_pos_left T (by omega)
    rw [Nat.min_eq_left (by omega)]
    congr 2
    apply bn_u_inj
    rw [bn_u_ofNat (by omega)]
theorem fin_145 (k : Nat) (neg : Int32) (a4 e : Int32) (s : Int64) (σ : MS) (K : Nat) (h4 : a4.toInt = bn_P k) (hs : bn_u s = K) (hK : K ≤ 2^bn_P k) (he : 2^(bn_P k - 1) ≤ K ∨ e.toInt = bn_mn k) (he2 : bn_mn k ≤ e.toInt ∧ e.toInt ≤ 19000) :
    fM_rounded_145 (tt k) neg a4 e s σ = (fFormat_signed k neg (Int64.ofNat (min ((e.toInt - bn_mn k).toNat * 2^(bn_P k - 1) + K) (bn_INF k))), σ) := by
  have hP := bn_P_le k
  have hsh : bn_u (bn_shl 1 a4) = 2^bn_P k := by
    rw [bn_shl_u h4 (by omega)] <;> rw [show bn_u 1 = 1 from rfl, Nat.one_mul]
    exact Nat.lt_of_le_of_lt (Nat.pow_le_pow_right (by decide) hP.2) (by decide)
  have hP2 : 2^bn_P k = 2 * 2^(bn_P k - 1) := by rw [← Nat.pow_succ']; congr 1; omega
  have hT53 : 2^(bn_P k - 1) ≤ 2^52 := Nat.pow_le_pow_right (by decide) (by omega)
  have hTp : 0 < 2^(bn_P k - 1) := Nat.two_pow_pos _
  have hc : (s = bn_shl 1 a4) ↔ K = 2^bn_P k := by rw [bn_u_eq, hsh, hs]
  unfold fM_rounded_145 fM_rounded_163
  by_cases q : K = 2^bn_P k
  · rw [if_pos (hc.mpr q)]
    have hmn := bn_mn_le k
    have e1 : (e + 1).toInt = e.toInt + 1 := by rw [bn_i_add] <;> rw [show (1 : Int32).toInt = 1 from rfl]; omega
    have u2 : bn_u (s / 2) = 2^(bn_P k - 1) := by
      rw [bn_div_u (by rw [hs, q, hP2]; generalize 2^(bn_P k - 1) = T at *; omega) (by decide), hs, q, hP2, show bn_u 2 = 2 from rfl]
      exact Nat.mul_div_cancel_left _ (by decide)
    rw [fin_166 k neg a4 (e + 1) (s / 2) σ h4 (by rw [u2, hP2]; generalize 2^(bn_P k - 1) = T at *; omega) (Or.inl (by rw [u2]; exact Nat.le_refl _)) (by omega)]
    have key : ((e + 1).toInt - bn_mn k).toNat * 2^(bn_P k - 1) + bn_u (s / 2) = (e.toInt - bn_mn k).toNat * 2^(bn_P k - 1) + K := by
      rw [u2, q, hP2, e1, show (e.toInt + 1 - bn_mn k).toNat = (e.toInt - bn_mn k).toNat + 1 by omega, Nat.add_mul, Nat.one_mul]
      generalize (e.toInt - bn_mn k).toNat * 2^(bn_P k - 1) = X
      generalize 2^(bn_P k - 1) = T at *
      omega
    rw [key]
  · rw [if_neg (fun z => q (hc.mp z))]
    rw [fin_166 k neg a4 e s σ h4 (by rw [hs]; exact Nat.lt_of_le_of_ne hK q) (by rw [hs]; exact he) (by omega), hs]
