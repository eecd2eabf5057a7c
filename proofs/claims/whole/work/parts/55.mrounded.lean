theorem dg_sg_neg (a b : Nat) : (dg_sg a b < 0) ↔ a < b := by
  unfold dg_sg
  by_cases h : a < b
  · rw [if_pos h]; exact ⟨fun _ => h, fun _ => by decide⟩
  · rw [if_neg h]; split
    · exact ⟨fun q => absurd q (by decide), fun q => absurd q h⟩
    · exact ⟨fun q => absurd q (by decide), fun q => absurd q h⟩
theorem dg_sg_nn (a b : Nat) : (0 ≤ dg_sg a b) ↔ b ≤ a := by
  unfold dg_sg
  by_cases h : a < b
  · rw [if_pos h]; exact ⟨fun q => absurd q (by decide), fun q => by omega⟩
  · rw [if_neg h]; split
    · exact ⟨fun _ => by omega, fun _ => by decide⟩
    · exact ⟨fun _ => by omega, fun _ => by decide⟩
theorem dg_sg_pos (a b : Nat) : (0 < dg_sg a b) ↔ b < a := by
  unfold dg_sg
  by_cases h : a < b
  · rw [if_pos h]; exact ⟨fun q => absurd q (by decide), fun q => by omega⟩
  · rw [if_neg h]; split
    · exact ⟨fun q => absurd q (by decide), fun q => by omega⟩
    · exact ⟨fun _ => by omega, fun _ => by decide⟩
theorem dg_sg_zero (a b : Nat) : (dg_sg a b = 0) ↔ a = b := by
  unfold dg_sg
  by_cases h : a < b
  · rw [if_pos h]; exact ⟨fun q => absurd q (by decide), fun q => by omega⟩
  · rw [if_neg h]; split
    · exact ⟨fun _ => by assumption, fun _ => rfl⟩
    · exact ⟨fun q => absurd q (by decide), fun q => by omega⟩
def bn_sgn (m : Nat) (e0 : Int) (v : Nat) (e : Int) : Int32 := dg_sg (m * 2^(e0 - e).toNat) (v * 2^(e - e0).toNat)
def bn_fl (m : Nat) (e0 e : Int) : Nat := if e ≤ e0 then m * 2^(e0 - e).toNat else m / 2^(e - e0).toNat
theorem bn_fl_le (m : Nat) (e0 e : Int) (v : Nat) : (v * 2^(e - e0).toNat ≤ m * 2^(e0 - e).toNat) ↔ v ≤ bn_fl m e0 e := by
  unfold bn_fl
  split
  · next h => rw [show (e - e0).toNat = 0 by omega, Nat.pow_zero, Nat.mul_one]
  · next h => rw [show (e0 - e).toNat = 0 by omega, Nat.pow_zero, Nat.mul_one, Nat.le_div_iff_mul_le (Nat.two_pow_pos _)]
def ordOK (m : Nat) (e0 lo hi : Int) (Pst : MS → Prop) : Prop :=
  ∀ σ, Pst σ → ∀ (v : Int64) (e : Int32), bn_u v < 2^55 → lo ≤ e.toInt → e.toInt ≤ hi → (fM_order v e σ).1 = bn_sgn m e0 (bn_u v) e.toInt ∧ Pst (fM_order v e σ).2
theorem sgn_fl (m : Nat) (e0 e : Int) (v : Nat) : (bn_sgn m e0 v e < 0) ↔ bn_fl m e0 e < v := by
  unfold bn_sgn
  rw [dg_sg_neg, ← Nat.not_le, bn_fl_le, Nat.not_le]
theorem rounded_61 (a1 a2 a4 a5 : Int32) (m : Nat) (e0 lo hi : Int) (Pst : MS → Prop) (hO : ordOK m e0 lo hi Pst) (h1 : lo ≤ a5.toInt) (h2 : a5.toInt ≤ hi) (q0 : Nat) (hq0 : bn_fl m e0 a5.toInt = q0) :
    ∀ (n j : Nat) (s : Int64) (i : Int32) (σ : MS), j < n → j ≤ 53 → i.toInt = (j : Int) - 1 → Pst σ → bn_u s + 2^j ≤ 2^54 → bn_u s ≤ q0 → q0 < bn_u s + 2^j →
    ∃ (s' : Int64) (σ' : MS), Pst σ' ∧ bn_u s' = q0 ∧ fM_rounded_61 n a1 a2 a4 a5 s i σ = fM_rounded_118 a1 a2 a4 a5 s' ((fM_order (2 * s' + 1) (a5 - 1) σ').1) ((fM_order (2 * s' + 1) (a5 - 1) σ').2) := by
  intro n
  induction n with
  | zero => intro j s i σ h; omega
  | succ n ih =>
    intro j s i σ hj hj2 hi hσ hs hq1 hq2
    have z0 : (0 : Int32).toInt = 0 := rfl
    rw [fM_rounded_61]
    cases j with
    | zero =>
      rw [if_pos (show i < 0 by rw [Int32.lt_iff_toInt_lt, z0, hi]; omega)]
      rw [Nat.pow_zero] at hq2
      exact ⟨s, σ, hσ, by omega, rfl⟩
    | succ j =>
      rw [if_neg (show ¬ i < 0 by rw [Int32.lt_iff_toInt_lt, z0, hi]; omega)]
      have hij : i.toInt = (j : Nat) := by omega
      have hp : 2^(j+1) = 2 * 2^j := Nat.pow_succ'
      have hpl : 2^j ≤ 2^52 := Nat.pow_le_pow_right (by decide) (by omega)
      have u1 : bn_u (bn_shl 1 i) = 2^j := by
        rw [bn_shl_u hij (by omega)] <;> rw [show bn_u 1 = 1 from rfl, Nat.one_mul]; omega
      have u2 : bn_u (s + bn_shl 1 i) = bn_u s + 2^j := by rw [bn_add_u] <;> rw [u1]; omega
      obtain ⟨o1, o2⟩ := hO σ hσ (s + bn_shl 1 i) a5 (by rw [u2]; omega) h1 h2
      have hi1 : (i + (-1)).toInt = (j : Int) - 1 := by
        rw [bn_i_add] <;> rw [show (-1 : Int32).toInt = -1 from rfl, hi] <;> omega
      have g1 : j < n := Nat.lt_of_succ_lt_succ hj
      have g2 : j ≤ 53 := Nat.le_of_succ_le hj2
      have g4 : bn_u s + 2^j + 2^j ≤ 2^54 := by rw [Nat.add_assoc, ← Nat.two_mul, ← hp]; exact hs
      have g3 : bn_u s + 2^j ≤ 2^54 := Nat.le_trans (Nat.le_add_right _ _) g4
      have g5 : ∀ x : Nat, x < bn_u s + 2^(j+1) → x < bn_u s + 2^j + 2^j := fun x hx => by rw [Nat.add_assoc, ← Nat.two_mul, ← hp]; exact hx
      have hc := sgn_fl m e0 a5.toInt (bn_u s + 2^j)
      rw [hq0] at hc
      rw [u2] at o1
      rw [← o1] at hc
      generalize fM_order (s + bn_shl 1 i) a5 σ = R at o2 hc ⊢
      by_cases q : q0 < bn_u s + 2^j
      · have e : fM_rounded_79 (fM_rounded_61 n) a1 a2 a4 a5 s i R.1 R.2 = fM_rounded_61 n a1 a2 a4 a5 s (i + (-1)) R.2 := by
          rw [fM_rounded_79, if_pos (hc.mpr q), fM_rounded_94]
        rw [e]
        exact ih j s (i + (-1)) R.2 g1 g2 hi1 o2 g3 hq1 q
      · have e : fM_rounded_79 (fM_rounded_61 n) a1 a2 a4 a5 s i R.1 R.2 = fM_rounded_61 n a1 a2 a4 a5 (s + bn_shl 1 i) (i + (-1)) R.2 := by
          rw [fM_rounded_79, if_neg (fun w => q (hc.mp w)), fM_rounded_94]
        rw [e]
        exact ih j (s + bn_shl 1 i) (i + (-1)) R.2 g1 g2 hi1 o2 (by rw [u2]; exact g4) (by rw [u2]; exact Nat.le_of_not_lt q) (by rw [u2]; exact g5 q0 hq2)
