theorem bn_fl_len (m : Nat) (e0 e : Int) (hm : 0 < m) : bn_len (bn_fl m e0 e) = ((bn_len m : Int) + e0 - e).toNat := by
  unfold bn_fl
  split
  · next h => rw [bn_len_mul hm]; omega
  · next h => rw [bn_len_div]; omega
theorem sgn_nn (m : Nat) (e0 e : Int) (a : Nat) (hm : 0 < m) : (0 ≤ bn_sgn m e0 (2^a) e) ↔ (a : Int) + 1 ≤ (bn_len m : Int) + e0 - e := by
  unfold bn_sgn
  rw [dg_sg_nn, bn_fl_le, ← bn_lt_len, bn_fl_len m e0 e hm]
  omega
theorem sgn_nn2 (m : Nat) (e0 e : Int) (P : Nat) (hP : 1 ≤ P) (hm : 0 < m) : (0 ≤ bn_sgn m e0 (2^(P - 1)) e) ↔ (P : Int) ≤ (e0 + bn_len m) - e := by
  rw [sgn_nn m e0 e (P - 1) hm]
  omega
theorem r_up {top L P e1 : Int} (htop : top = L - 1 ∨ top = L) (t2 : e1 = top - P + 1) (h : P ≤ L - e1) : e1 = L - P := by omega
theorem r_dn {top L P e1 : Int} (htop : top = L - 1 ∨ top = L) (t2 : e1 = top - P + 1) (h : ¬ P ≤ L - e1) : e1 - 1 = L - P := by omega
theorem m_rounded (k : Nat) (neg top : Int32) (m : Nat) (e0 : Int) (Pst : MS → Prop) (σ : MS) (hσ : Pst σ) (hm : 0 < m) (htop : top.toInt = e0 + bn_len m - 1 ∨ top.toInt = e0 + bn_len m) (hr : -9000 ≤ e0 + bn_len m ∧ e0 + bn_len m ≤ 9000)
    (hO : ordOK m e0 (e0 + bn_len m - 56) (max (e0 + bn_len m) (bn_mn k) + 2) Pst) : ∃ σ', Pst σ' ∧ fM_rounded (tt k) neg top σ = (bn_out k neg m e0, σ') := by
  have hP := bn_P_le k
  have hmn := bn_mn_le k
  have hpr := m_precision k
  have z1 : (1 : Int32).toInt = 1 := rfl
  unfold fM_rounded fM_rounded_6 fM_rounded_14
  generalize fM_precision (tt k) = a4 at *
  have hp1 : (a4 - 1).toInt = ((bn_P k - 1 : Nat) : Int) := by rw [bn_i_sub] <;> rw [hpr, z1] <;> omega
  have hsh : bn_u (bn_shl 1 (a4 - 1)) = 2^(bn_P k - 1) := by
    rw [bn_shl_u hp1 (by omega)] <;> rw [show bn_u 1 = 1 from rfl, Nat.one_mul]
    exact Nat.lt_of_le_of_lt (Nat.pow_le_pow_right (by decide) (show bn_P k - 1 ≤ 52 by omega)) (by decide)
  have t1 : (top - a4).toInt = top.toInt - bn_P k := by rw [bn_i_sub] <;> rw [hpr]; omega
  have t2 : (top - a4 + 1).toInt = top.toInt - bn_P k + 1 := by rw [bn_i_add] <;> rw [t1, z1]; omega
  generalize top - a4 + 1 = e1 at *
  have hb55 : bn_u (bn_shl 1 (a4 - 1)) < 2^55 := by
    rw [hsh]; exact Nat.lt_of_le_of_lt (Nat.pow_le_pow_right (by decide) (show bn_P k - 1 ≤ 52 by omega)) (by decide)
  obtain ⟨o1, o2⟩ := hO σ hσ (bn_shl 1 (a4 - 1)) e1 hb55 (by omega) (by omega)
  rw [hsh] at o1
  have hc := sgn_nn2 m e0 e1.toInt (bn_P k) (by omega) hm
  rw [← o1] at hc
  generalize fM_order (bn_shl 1 (a4 - 1)) e1 σ = R at o2 hc ⊢
  clear o1
  have hl := m_least k
  have main : ∀ e2 : Int32, e2.toInt = e0 + bn_len m - bn_P k → ∃ σ', Pst σ' ∧ fM_rounded_32 (tt k) neg a4 e2 R.2 = (bn_out k neg m e0, σ') := by
    intro e2 he2
    have hns : ∃ e3 : Int32, e3.toInt = bn_ns (bn_P k) (bn_mn k) m e0 ∧ fM_rounded_32 (tt k) neg a4 e2 R.2 = fM_rounded_50 (tt k) neg a4 e3 R.2 := by
      unfold fM_rounded_32 bn_ns
      by_cases q : fM_least (tt k) ≤ e2
      · rw [if_pos q]
        rw [Int32.le_iff_toInt_le, hl, he2] at q
        exact ⟨e2, by rw [he2]; omega, rfl⟩
      · rw [if_neg q]
        rw [Int32.le_iff_toInt_le, hl, he2] at q
        exact ⟨fM_least (tt k), by rw [hl]; omega, rfl⟩
    obtain ⟨e3, h3, e32⟩ := hns
    rw [e32]
    unfold fM_rounded_50
    have hnsb : e0 + bn_len m - bn_P k ≤ e3.toInt ∧ bn_mn k ≤ e3.toInt ∧ e3.toInt ≤ max (e0 + bn_len m) (bn_mn k) := by rw [h3]; unfold bn_ns; omega
    have hfl := bn_fl_ns k m e0 hm
    rw [← h3] at hfl
    have h54 : 2^bn_P k ≤ 2^54 := Nat.pow_le_pow_right (by decide) (by omega)
    obtain ⟨s', σ', hσ', hs', hrun⟩ := rounded_61 (tt k) neg a4 e3 m e0 _ _ Pst hO (by omega) (by omega) _ rfl (((a4 - 1).toInt + 2).toNat + 1) (bn_P k) 0 (a4 - 1) R.2 (by rw [hp1]; omega) (by omega) (by rw [hp1]; omega) o2 (by rw [show bn_u 0 = 0 from rfl, Nat.zero_add]; exact h54) (Nat.zero_le _) (by rw [show bn_u 0 = 0 from rfl, Nat.zero_add]; exact hfl)
    rw [hrun]
    clear hrun
    have hs54 : bn_u s' < 2^54 := by rw [hs']; exact Nat.lt_of_lt_of_le hfl h54
    have hts := bn_two_s s' hs54
    have e31 : (e3 - 1).toInt = e3.toInt - 1 := by rw [bn_i_sub] <;> rw [z1]; omega
    have h2s : bn_u (2 * s' + 1) < 2^55 := by
      rw [hts]; clear hts hs' hfl; generalize bn_u s' = X at *; omega
    obtain ⟨o3, o4⟩ := hO σ' hσ' (2 * s' + 1) (e3 - 1) h2s (by omega) (by omega)
    rw [hts, e31, hs'] at o3
    have hmid := bn_mid m e0 e3.toInt
    have hkf := bn_kept_fl (bn_P k) (bn_mn k) m e0
    rw [← h3] at hkf
    rw [← o3] at hmid
    generalize fM_order (2 * s' + 1) (e3 - 1) σ' = R2 at o4 hmid ⊢
    clear o3
    have hkl := bn_kept_le (P := bn_P k) (mn := bn_mn k) (e := e0) hm (by omega)
    have hkg := bn_kept_ge (P := bn_P k) (mn := bn_mn k) (e := e0) hm (by omega)
    rw [← h3] at hkg
    have hout : bn_out k neg m e0 = fFormat_signed k neg (Int64.ofNat (min ((e3.toInt - bn_mn k).toNat * 2^(bn_P k - 1) + bn_kept (bn_P k) (bn_mn k) m e0) (bn_INF k))) := by
      unfold bn_out
      rw [show bn_rn (bn_P k) (bn_mn k) m e0 = (bn_ns (bn_P k) (bn_mn k) m e0 - bn_mn k).toNat * 2^(bn_P k - 1) + bn_kept (bn_P k) (bn_mn k) m e0 from rfl, ← h3]
    have fin : ∀ s2 : Int64, bn_u s2 = bn_kept (bn_P k) (bn_mn k) m e0 → fM_rounded_145 (tt k) neg a4 e3 s2 R2.2 = (bn_out k neg m e0, R2.2) := by
      intro s2 hs2
      rw [hout]
      refine fin_145 k neg a4 e3 s2 R2.2 _ hpr hs2 hkl ?_ (by omega)
      rcases Int.lt_or_le (bn_mn k) e3.toInt with w | w
      · exact Or.inl (hkg w)
      · exact Or.inr (by omega)
    have hs1 : bn_u (s' + 1) = bn_u s' + 1 := by
      rw [bn_add_u] <;> rw [show bn_u 1 = 1 from rfl]; clear hmid hkf hkl hkg hfl; omega
    refine ⟨R2.2, o4, ?_⟩
    unfold fM_rounded_118 fM_rounded_139
    have hb1 := bn_and1 s'
    rw [hs'] at hb1
    by_cases q1 : (0 : Int32) < R2.1
    · rw [if_pos q1]
      apply fin
      rw [hs1, hs', hkf, if_pos (hmid.mp (Or.inl q1))]
    · rw [if_neg q1]
      by_cases q2 : R2.1 = 0
      · rw [if_pos q2]
        by_cases q3 : bn_fl m e0 e3.toInt % 2 = 1
        · rw [if_pos (hb1.mpr q3)]
          apply fin
          rw [hs1, hs', hkf, if_pos (hmid.mp (Or.inr ⟨q2, q3⟩))]
        · rw [if_neg (fun w => q3 (hb1.mp w))]
          apply fin
          rw [hs', hkf, if_neg (fun w => by rcases hmid.mpr w with z | z; exact q1 z; exact q3 z.2), Nat.add_zero]
      · rw [if_neg q2]
        apply fin
        rw [hs', hkf, if_neg (fun w => by rcases hmid.mpr w with z | z; exact q1 z; exact q2 z.1), Nat.add_zero]
  unfold fM_rounded_26
  have e11 : (e1 + (-1)).toInt = e1.toInt - 1 := by rw [bn_i_add] <;> rw [show (-1 : Int32).toInt = -1 from rfl] <;> clear hc main <;> omega
  by_cases q : (0 : Int32) ≤ R.1
  · rw [if_pos q]
    exact main e1 (r_up htop t2 (hc.mp q))
  · rw [if_neg q]
    exact main (e1 + (-1)) (by rw [e11]; exact r_dn htop t2 (fun w => q (hc.mpr w)))
