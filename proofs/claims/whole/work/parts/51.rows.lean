theorem dg_cast {f : Nat → Int32} {k : Nat} (h : 0 ≤ (f k).toInt) : (f k).toInt = (dg f k : Int) := by unfold dg; omega
theorem dg_lt {f : Nat → Int32} {n : Nat} (h : dg_ok f n) (k : Nat) (hk : k < n) : dg f k < 65536 := by
  have := h k hk; unfold dg; omega
theorem cmpRows_4 (σ : MS) (hr : dg_ok (ms_row σ) 320) (ho : dg_ok (ms_other σ) 320) : ∀ (n k : Nat) (i : Int32), k ≤ 320 → i.toInt = (k : Int) - 1 → k < n → fM_compareRows_4 n i σ = (dg_cd (dg (ms_row σ)) (dg (ms_other σ)) k, σ) := by
  intro n
  induction n with
  | zero => intro k i _ _ h; omega
  | succ n ih =>
    intro k i hk hi hn
    have z0 : (0 : Int32).toInt = 0 := rfl
    rw [fM_compareRows_4]
    cases k with
    | zero =>
      rw [if_pos (show i < 0 by rw [Int32.lt_iff_toInt_lt, z0, hi]; omega)]; rfl
    | succ k =>
      rw [if_neg (show ¬ i < 0 by rw [Int32.lt_iff_toInt_lt, z0, hi]; omega)]
      have hc : i.toNatClampNeg = k := by show i.toInt.toNat = k; rw [hi]; omega
      have h1 := hr k (by omega)
      have h2 := ho k (by omega)
      have e1 : (ms_row σ k = ms_other σ k) ↔ dg (ms_row σ) k = dg (ms_other σ) k := by
        rw [← Int32.toInt_inj, dg_cast h1.1, dg_cast h2.1]; omega
      have e2 : (ms_other σ k ≤ ms_row σ k) ↔ dg (ms_other σ) k ≤ dg (ms_row σ) k := by
        rw [Int32.le_iff_toInt_le, dg_cast h1.1, dg_cast h2.1]; omega
      rw [hc, dg_cd]
      have hi1 : (i + (-1)).toInt = (k : Int) - 1 := by
        rw [bn_i_add] <;> rw [show (-1 : Int32).toInt = -1 from rfl, hi] <;> omega
      by_cases q : dg (ms_row σ) k = dg (ms_other σ) k
      · rw [if_pos (e1.mpr q), if_pos q, ih k _ (by omega) hi1 (by omega)]
      · rw [if_neg (fun w => q (e1.mp w)), if_neg q]
        by_cases g : dg (ms_other σ) k ≤ dg (ms_row σ) k
        · rw [if_pos (e2.mpr g), if_pos g]
        · rw [if_neg (fun w => g (e2.mp w)), if_neg g]
theorem cmpRows (σ : MS) (hr : dg_ok (ms_row σ) 320) (ho : dg_ok (ms_other σ) 320) : fM_compareRows σ = (dg_sg (dgV (dg (ms_row σ)) 320) (dgV (dg (ms_other σ)) 320), σ) := by
  unfold fM_compareRows
  rw [cmpRows_4 σ hr ho 321 320 319 (by omega) (by decide) (by omega), dg_cd_sg (fun k hk => dg_lt hr k hk) (fun k hk => dg_lt ho k hk)]
theorem bn_v_pos {x : Int32} (h : 0 ≤ x.toInt) : bn_v x = x.toInt.toNat := by
  have := bn_v_s x
  have h2 : bn_v x < 2^32 := x.toBitVec.isLt
  split at this <;> omega
theorem bn_v_neg {x : Int32} (h : x.toInt < 0) : (bn_v x : Int) = x.toInt + 2^32 := by
  have := bn_v_s x
  have h2 : bn_v x < 2^32 := x.toBitVec.isLt
  split at this <;> omega
theorem dg_shr16 (x : Int32) (h : 0 ≤ x.toInt) : (x >>> (16 &&& 31)).toInt = x.toInt / 65536 := by
  show (x >>> 16).toInt = _
  have e : (x >>> (16 : Int32)).toBitVec = x.toBitVec.sshiftRight' ((16 : Int32).toBitVec.smod 32) := rfl
  have e2 : ((16 : Int32).toBitVec.smod 32) = 16#32 := by decide
  rw [← Int32.toInt_toBitVec, e, e2, BitVec.sshiftRight_eq', BitVec.toInt_sshiftRight, Int.shiftRight_eq_div_pow, Int32.toInt_toBitVec]
  rfl
theorem addRows_4 (f g : Nat → Int32) (hf : dg_ok f 320) (hg : dg_ok g 320) : ∀ (n k : Nat) (c : Int32) (σ : MS), k + n = 321 → k ≤ 320 → (c = 0 ∨ c = 1) → ms_other σ = g → (∀ j, k ≤ j → ms_row σ j = f j) → dg_ok (ms_row σ) 320 →
    dgV (dg (ms_row σ)) k + c.toInt.toNat * 65536^k = dgV (dg f) k + dgV (dg g) k →
    ∃ h : Nat → Int32, fM_addRows_4 n c (nI k) σ = ms_set_row σ h ∧ dg_ok h 320 ∧ ∃ c' : Nat, c' ≤ 1 ∧ dgV (dg h) 320 + c' * 65536^320 = dgV (dg f) 320 + dgV (dg g) 320 := by
  intro n
  induction n with
  | zero => intro k c σ h1 h2; omega
  | succ n ih =>
    intro k c σ hk hk2 hc ho hr hok hv
    rw [fM_addRows_4]
    by_cases q : k = 320
    · rw [if_pos (show (320 : Int32) ≤ nI k by rw [q]; decide)]
      refine ⟨ms_row σ, rfl, hok, c.toInt.toNat, ?_, by rw [← q]; exact hv⟩
      rcases hc with w | w <;> rw [w] <;> decide
    · rw [if_neg (show ¬ (320 : Int32) ≤ nI k from nI_ge (b := 320) (by omega) (by decide))]
      simp only [fM_addRows_27, fM_addRows_42]
      rw [nI_clamp (by omega), ho, hr k (Nat.le_refl k)]
      have h1 := hf k (by omega)
      have h2 := hg k (by omega)
      have hci : c.toInt = 0 ∨ c.toInt = 1 := by rcases hc with w | w <;> rw [w] <;> simp
      have s1 : (f k + g k).toInt = (f k).toInt + (g k).toInt := by rw [bn_i_add]; omega
      have s2 : (f k + g k + c).toInt = (f k).toInt + (g k).toInt + c.toInt := by rw [bn_i_add] <;> omega
      generalize f k + g k + c = d at *
      have hd0 : 0 ≤ d.toInt ∧ d.toInt < 131072 := by omega
      have m1 : (d &&& 65535).toInt = d.toInt % 65536 := by
        rw [dg_and16, bn_v_pos hd0.1]; omega
      have m2 : (d >>> (16 &&& 31)).toInt = d.toInt / 65536 := dg_shr16 d hd0.1
      have hcc : (d >>> (16 &&& 31)) = 0 ∨ (d >>> (16 &&& 31)) = 1 := by
        rcases Int.lt_or_le d.toInt 65536 with w | w
        · left; apply Int32.toInt_inj.mp; rw [m2]; show _ = (0 : Int); omega
        · right; apply Int32.toInt_inj.mp; rw [m2]; show _ = (1 : Int); omega
      rw [show nI k + 1 = nI (k + 1) from (nI_succ k).symm]
      obtain ⟨h, e1, e2, e3⟩ := ih (k + 1) (d >>> (16 &&& 31)) (ms_set_row σ (upd (ms_row σ) k (d &&& 65535))) (by omega) (by omega) hcc (by rw [ms_other_row, ho])
        (fun j hj => by rw [ms_row_row, upd_other (by omega), hr j (by omega)])
        (fun j hj => by
          rw [ms_row_row]
          by_cases w : j = k
          · subst w; rw [upd_same, m1]; omega
          · rw [upd_other w]; exact hok j hj)
        (by
          rw [ms_row_row, dgV, dgV, dgV]
          have x1 : dgV (dg (upd (ms_row σ) k (d &&& 65535))) k = dgV (dg (ms_row σ)) k := dgV_ext (fun j hj => by unfold dg; rw [upd_other (by omega)])
          have x2 : dg (upd (ms_row σ) k (d &&& 65535)) k = (d.toInt % 65536).toNat := by unfold dg; rw [upd_same, m1]
          have x3 : dg f k = (f k).toInt.toNat := rfl
          have x4 : dg g k = (g k).toInt.toNat := rfl
          rw [x1, x2, x3, x4, m2, Nat.pow_succ]
          have hd : (d.toInt % 65536).toNat + (d.toInt / 65536).toNat * 65536 = (f k).toInt.toNat + (g k).toInt.toNat + c.toInt.toNat := by omega
          have := congrArg (· * 65536^k) hd
          simp only [Nat.add_mul] at this
          have y : (d.toInt / 65536).toNat * (65536^k * 65536) = (d.toInt / 65536).toNat * 65536 * 65536^k := by rw [Nat.mul_assoc, Nat.mul_comm (65536^k)]
          rw [y]
          omega)
      exact ⟨h, e1, e2, e3⟩
theorem addRows_val (σ : MS) (hr : dg_ok (ms_row σ) 320) (ho : dg_ok (ms_other σ) 320) (hlt : dgV (dg (ms_row σ)) 320 + dgV (dg (ms_other σ)) 320 < 65536^320) :
    ∃ h, fM_addRows σ = ms_set_row σ h ∧ dg_ok h 320 ∧ dgV (dg h) 320 = dgV (dg (ms_row σ)) 320 + dgV (dg (ms_other σ)) 320 := by
  obtain ⟨h, e1, e2, c', e3, e4⟩ := addRows_4 (ms_row σ) (ms_other σ) hr ho 321 0 0 σ (by omega) (by omega) (Or.inl rfl) rfl (fun _ _ => rfl) hr (by simp [dgV])
  refine ⟨h, e1, e2, ?_⟩
  have : c' = 0 := by
    rcases Nat.eq_zero_or_pos c' with w | w
    · exact w
    · have : c' = 1 := by omega
      rw [this] at e4; omega
  rw [this] at e4; omega
