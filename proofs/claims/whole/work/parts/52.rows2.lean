theorem subRows_4 (a1 : Int32) (f g P Q : Nat → Int32) (hf : dg_ok f 320) (hg : dg_ok g 320) (hPQ : (a1 = 0 ∧ P = f ∧ Q = g) ∨ (a1 ≠ 0 ∧ P = g ∧ Q = f)) : ∀ (n k : Nat) (b : Int32) (σ : MS), k + n = 321 → k ≤ 320 → (b = 0 ∨ b = 1) → ms_other σ = g → (∀ j, k ≤ j → ms_row σ j = f j) → dg_ok (ms_row σ) 320 →
    dgV (dg (ms_row σ)) k + dgV (dg Q) k = dgV (dg P) k + b.toInt.toNat * 65536^k →
    ∃ h : Nat → Int32, fM_subtractRows_4 n a1 b (nI k) σ = ms_set_row σ h ∧ dg_ok h 320 ∧ ∃ b' : Nat, b' ≤ 1 ∧ dgV (dg h) 320 + dgV (dg Q) 320 = dgV (dg P) 320 + b' * 65536^320 := by
  intro n
  induction n with
  | zero => intro k c σ h1 h2; omega
  | succ n ih =>
    intro k b σ hk hk2 hb ho hr hok hv
    rw [fM_subtractRows_4]
    by_cases q : k = 320
    · rw [if_pos (show (320 : Int32) ≤ nI k by rw [q]; decide)]
      refine ⟨ms_row σ, rfl, hok, b.toInt.toNat, ?_, by rw [← q]; exact hv⟩
      rcases hb with w | w <;> rw [w] <;> decide
    · rw [if_neg (show ¬ (320 : Int32) ≤ nI k from nI_ge (b := 320) (by omega) (by decide))]
      have h1 := hf k (by omega)
      have h2 := hg k (by omega)
      have hPk : 0 ≤ (P k).toInt ∧ (P k).toInt < 65536 := by rcases hPQ with ⟨_, w, _⟩ | ⟨_, w, _⟩ <;> rw [w] <;> assumption
      have hQk : 0 ≤ (Q k).toInt ∧ (Q k).toInt < 65536 := by rcases hPQ with ⟨_, _, w⟩ | ⟨_, _, w⟩ <;> rw [w] <;> assumption
      have hfold : (if a1 = 0 then fM_subtractRows_44 (fM_subtractRows_4 n) a1 b (nI k) (ms_row σ (nI k).toNatClampNeg - ms_other σ (nI k).toNatClampNeg) σ
          else fM_subtractRows_44 (fM_subtractRows_4 n) a1 b (nI k) (ms_other σ (nI k).toNatClampNeg - ms_row σ (nI k).toNatClampNeg) σ) = fM_subtractRows_44 (fM_subtractRows_4 n) a1 b (nI k) (P k - Q k) σ := by
        rw [nI_clamp (by omega), ho, hr k (Nat.le_refl k)]
        rcases hPQ with ⟨w, e1, e2⟩ | ⟨w, e1, e2⟩
        · rw [if_pos w, e1, e2]
        · rw [if_neg w, e1, e2]
      rw [hfold]
      simp only [fM_subtractRows_44, fM_subtractRows_48, fM_subtractRows_69]
      rw [nI_clamp (by omega)]
      have hbi : b.toInt = 0 ∨ b.toInt = 1 := by rcases hb with w | w <;> rw [w] <;> simp
      have s1 : (P k - Q k).toInt = (P k).toInt - (Q k).toInt := by rw [bn_i_sub]; omega
      have s2 : (P k - Q k - b).toInt = (P k).toInt - (Q k).toInt - b.toInt := by rw [bn_i_sub] <;> omega
      generalize P k - Q k - b = d at *
      have m1 : (d &&& 65535).toInt = d.toInt % 65536 := by
        rw [dg_and16]
        rcases Int.lt_or_le d.toInt 0 with w | w
        · have := bn_v_neg w; omega
        · rw [bn_v_pos w]; omega
      have z0 : (0 : Int32).toInt = 0 := rfl
      have step : ∀ bb : Int32, (bb = 0 ∨ bb = 1) → bb.toInt = (if 0 ≤ d.toInt then 0 else 1) → ∃ h : Nat → Int32, fM_subtractRows_4 n a1 bb (nI k + 1) (ms_set_row σ (upd (ms_row σ) k (d &&& 65535))) = ms_set_row σ h ∧ dg_ok h 320 ∧ ∃ b' : Nat, b' ≤ 1 ∧ dgV (dg h) 320 + dgV (dg Q) 320 = dgV (dg P) 320 + b' * 65536^320 := by
        intro bb hbb hbd
        rw [show nI k + 1 = nI (k + 1) from (nI_succ k).symm]
        obtain ⟨h, e1, e2, e3⟩ := ih (k + 1) bb (ms_set_row σ (upd (ms_row σ) k (d &&& 65535))) (by omega) (by omega) hbb (by rw [ms_other_row, ho])
          (fun j hj => by rw [ms_row_row, upd_other (by omega), hr j (by omega)])
          (fun j hj => by
            rw [ms_row_row]
            by_cases w : j = k
            · subst w; rw [upd_same, m1]; omega
            · rw [upd_other w]; exact hok j hj)
          (by
            rw [ms_row_row, dgV, dgV, dgV]
            have x1 : dgV (dg (upd (ms_row σ) k (d &&& 65535))) k = dgV (dg (ms_row σ)) k := dgV_ext (fun j hj => by unfold dg; rw [upd_other (by omega)])
            have x2 : dg (upd (ms_row σ) k (d &&& 65535)) k = (d.toInt % 65536).toNat := by unfold dg; rw [upd_same, m1]
            have x3 : dg P k = (P k).toInt.toNat := rfl
            have x4 : dg Q k = (Q k).toInt.toNat := rfl
            rw [x1, x2, x3, x4, Nat.pow_succ]
            have hd : (d.toInt % 65536).toNat + (Q k).toInt.toNat + b.toInt.toNat = (P k).toInt.toNat + bb.toInt.toNat * 65536 := by
              split at hbd <;> omega
            have := congrArg (· * 65536^k) hd
            simp only [Nat.add_mul] at this
            have y : bb.toInt.toNat * (65536^k * 65536) = bb.toInt.toNat * 65536 * 65536^k := by rw [Nat.mul_assoc, Nat.mul_comm (65536^k)]
            rw [y]
            omega)
        exact ⟨h, e1, e2, e3⟩
      by_cases w : (0 : Int32) ≤ d
      · rw [if_pos w]
        rw [Int32.le_iff_toInt_le, z0] at w
        exact step 0 (Or.inl rfl) (by rw [if_pos w]; rfl)
      · rw [if_neg w]
        rw [Int32.le_iff_toInt_le, z0] at w
        exact step 1 (Or.inr rfl) (by rw [if_neg w]; rfl)
theorem subRows_val (a1 : Int32) (σ : MS) (hr : dg_ok (ms_row σ) 320) (ho : dg_ok (ms_other σ) 320) (hle : if a1 = 0 then dgV (dg (ms_other σ)) 320 ≤ dgV (dg (ms_row σ)) 320 else dgV (dg (ms_row σ)) 320 ≤ dgV (dg (ms_other σ)) 320) :
    ∃ h, fM_subtractRows a1 σ = ms_set_row σ h ∧ dg_ok h 320 ∧ dgV (dg h) 320 = if a1 = 0 then dgV (dg (ms_row σ)) 320 - dgV (dg (ms_other σ)) 320 else dgV (dg (ms_other σ)) 320 - dgV (dg (ms_row σ)) 320 := by
  by_cases q : a1 = 0
  · rw [if_pos q] at hle
    obtain ⟨h, e1, e2, c', e3, e4⟩ := subRows_4 a1 (ms_row σ) (ms_other σ) (ms_row σ) (ms_other σ) hr ho (Or.inl ⟨q, rfl, rfl⟩) 321 0 0 σ (by omega) (by omega) (Or.inl rfl) rfl (fun _ _ => rfl) hr (by simp [dgV])
    have hl := dgV_lt (fun k hk => dg_lt e2 k hk)
    refine ⟨h, e1, e2, ?_⟩
    have : c' = 0 := by
      rcases Nat.eq_zero_or_pos c' with w | w
      · exact w
      · have : c' = 1 := by omega
        rw [this] at e4; omega
    rw [this] at e4
    rw [if_pos q]; omega
  · rw [if_neg q] at hle
    obtain ⟨h, e1, e2, c', e3, e4⟩ := subRows_4 a1 (ms_row σ) (ms_other σ) (ms_other σ) (ms_row σ) hr ho (Or.inr ⟨q, rfl, rfl⟩) 321 0 0 σ (by omega) (by omega) (Or.inl rfl) rfl (fun _ _ => rfl) hr (by simp [dgV])
    have hl := dgV_lt (fun k hk => dg_lt e2 k hk)
    refine ⟨h, e1, e2, ?_⟩
    have : c' = 0 := by
      rcases Nat.eq_zero_or_pos c' with w | w
      · exact w
      · have : c' = 1 := by omega
        rw [this] at e4; omega
    rw [this] at e4
    rw [if_neg q]; omega
theorem measure_12 : ∀ (n k : Nat) (σ : MS), k < n → k ≤ 320 → ms_held σ = nI k → ∃ k', k' ≤ k ∧ fM_measure_12 n σ = ms_set_held σ (nI k') ∧ (∀ j, k' ≤ j → j < k → ms_row σ j = 0) ∧ (k' = 0 ∨ ms_row σ (k' - 1) ≠ 0) := by
  intro n
  induction n with
  | zero => intro k σ h; omega
  | succ n ih =>
    intro k σ hk hk2 hh
    have z0 : (0 : Int32).toInt = 0 := rfl
    rw [fM_measure_12]
    cases k with
    | zero =>
      rw [if_pos (show ms_held σ ≤ 0 by rw [hh]; decide)]
      refine ⟨0, by omega, ?_, fun j h1 h2 => by omega, Or.inl rfl⟩
      rw [← hh]; rfl
    | succ k =>
      rw [if_neg (show ¬ ms_held σ ≤ 0 by rw [hh, Int32.le_iff_toInt_le, nI_toInt (by omega), z0]; omega), hh, pw_sub1 k (by omega), nI_clamp (by omega)]
      by_cases q : ms_row σ k = 0
      · rw [if_pos q]
        obtain ⟨k', e1, e2, e3, e4⟩ := ih k (ms_set_held σ (nI k)) (by omega) (by omega) rfl
        refine ⟨k', by omega, e2, fun j h1 h2 => ?_, e4⟩
        by_cases w : j = k
        · rw [w]; exact q
        · exact e3 j h1 (by omega)
      · rw [if_neg q]
        refine ⟨k + 1, by omega, ?_, fun j h1 h2 => by omega, Or.inr q⟩
        rw [← hh]; rfl
theorem measure_val (σ : MS) (hr : dg_ok (ms_row σ) 320) (hne : dgV (dg (ms_row σ)) 320 ≠ 0) : ∃ k', 1 ≤ k' ∧ k' ≤ 320 ∧ fM_measure σ = ms_set_held (ms_set_mode σ 0) (nI k') ∧ dgV (dg (ms_row σ)) 320 = dgV (dg (ms_row σ)) k' ∧ ms_row σ (k' - 1) ≠ 0 ∧ (∀ j, k' ≤ j → j < 320 → ms_row σ j = 0) := by
  obtain ⟨k', e1, e2, e3, e4⟩ := measure_12 321 320 (ms_set_held (ms_set_mode σ 0) 320) (by omega) (by omega) rfl
  have hv : dgV (dg (ms_row σ)) 320 = dgV (dg (ms_row σ)) k' := dgV_zero_above e1 (fun j h1 h2 => by
    have := e3 j h1 h2
    unfold dg
    rw [show ms_row σ j = 0 from this]; rfl)
  have h1 : 1 ≤ k' := by
    rcases Nat.eq_zero_or_pos k' with w | w
    · rw [w] at hv; exact absurd hv hne
    · exact w
  refine ⟨k', h1, e1, e2, hv, ?_, e3⟩
  rcases e4 with w | w
  · omega
  · exact w
theorem highest_3 : ∀ (n : Nat) (a : Int64) (i : Int32), pw_H a i n → (fM_highest_3 n a i).toInt = (bn_len (bn_u a) : Int) - 1 := by
  intro n
  induction n with
  | zero => intro a i h; exact absurd h pw_H_zero
  | succ n ih =>
    intro a i h
    rw [fM_highest_3]
    by_cases q : (bn_shr a i &&& 1) = 0
    · rw [if_pos q]; exact ih a _ (pw_H_next h q)
    · rw [if_neg q]
      obtain ⟨h1, h2, h3, h4⟩ := h
      have e : bn_u (bn_shr a i) = bn_u a / 2^n := bn_shr_u (by omega) (by omega)
      rw [bn_u_zero, bn_u_and, e, show bn_u 1 = 1 from rfl, Nat.and_one_is_mod] at q
      have : 2^n ≤ bn_u a := by
        rcases Nat.lt_or_ge (bn_u a) (2^n) with w | w
        · rw [Nat.div_eq_of_lt w] at q; exact absurd rfl q
        · exact w
      rw [bn_len_eq this h2, h3]
theorem highest_val (a : Int64) (h : a ≠ 0) : (fM_highest a).toInt = (bn_len (bn_u a) : Int) - 1 := highest_3 64 a 63 (pw_H_init h)
theorem bn_len_top {a d m : Nat} (ha : a < 2^m) (hd : 0 < d) : bn_len (a + d * 2^m) = m + bn_len d := by
  have h1 := bn_len_ge hd
  have h2 := bn_len_lt d
  have h3 := bn_len_pos hd
  have e : m + bn_len d = (m + (bn_len d - 1)) + 1 := by omega
  rw [e]
  apply bn_len_eq
  · rw [Nat.pow_add, Nat.mul_comm]
    have := Nat.mul_le_mul_right (2^m) h1
    omega
  · rw [show m + (bn_len d - 1) + 1 = bn_len d + m by omega, Nat.pow_add]
    have : (d + 1) * 2^m ≤ 2^bn_len d * 2^m := Nat.mul_le_mul_right _ h2
    rw [Nat.add_mul] at this
    omega
