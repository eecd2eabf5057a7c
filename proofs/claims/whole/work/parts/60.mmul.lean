theorem dgV_split (F : Nat → Nat) (i j : Nat) : dgV F (i + j) = dgV F i + 65536^i * dgV (fun t => F (i + t)) j := by
  induction j with
  | zero => rw [Nat.add_zero, dgV, Nat.mul_zero, Nat.add_zero]
  | succ j ih =>
    rw [show i + (j + 1) = (i + j) + 1 by omega, dgV, ih, dgV, Nat.mul_add, Nat.pow_add, Nat.add_assoc]
    congr 2
    rw [Nat.mul_left_comm]
def xd (x : Int64) (i : Nat) : Nat := bn_u x / 2^(16 * i) % 65536
theorem xd_val (x : Int64) : dgV (xd x) 4 = bn_u x := by
  have h := dgV_digits (F := xd x) (bn_u x) (n := 4) (fun k _ => by unfold xd; rw [dg_pow])
  rw [h]
  exact Nat.mod_eq_of_lt (bn_u_lt x)
theorem xd_u (x : Int64) (i : Nat) (hi : i < 4) : bn_u (bn_shr x (16 * nI i) &&& 65535) = xd x i := by
  have z16 : (16 : Int32).toInt = 16 := rfl
  have hn : (nI i).toInt = i := nI_toInt (by omega)
  have hm : (16 * nI i).toInt = ((16 * i : Nat) : Int) := by
    rw [Int32.toInt_mul, z16, hn, Int.bmod_eq_of_le] <;> omega
  rw [bn_u_and, bn_shr_u hm (by omega), show bn_u 65535 = 2^16 - 1 from rfl, bn_and_mask]; rfl
theorem l2i_small (x : Int64) (h : bn_u x < 65536) : x.toInt32.toInt = bn_u x := by
  rw [bn_u_l2i, Nat.mod_eq_of_lt (by omega), if_pos (by omega)]
theorem mul_step {A c X B Yv : Nat} {dj y j0 : Nat} (h1 : A + c * B = j0 + X * Yv) {D : Nat} {f0 : Nat} (hD : D = X * y + f0 + c) : A + (D % 65536) * B + (D / 65536) * (B * 65536) = (j0 + f0 * B) + X * (Yv + y * B) := by
  have e : D % 65536 + D / 65536 * 65536 = D := by omega
  have e2 : (D % 65536) * B + (D / 65536) * (B * 65536) = D * B := by
    rw [Nat.mul_comm B 65536, ← Nat.mul_assoc, ← Nat.add_mul, e]
  rw [Nat.add_assoc, e2, hD, Nat.add_mul, Nat.add_mul, Nat.mul_add, ← Nat.mul_assoc X y B]
  omega
theorem mul_39 (x y : Int64) (i : Nat) (hi : i < 4) (K : Int64 → Int64 → Int32 → MS → MS) (F0 : Nat → Int32) (h0 : dg_ok F0 16) :
    ∀ (n j : Nat) (c : Int64) (σ : MS), j + n = 5 → j ≤ 4 → bn_u c < 65536 → dg_ok (ms_factor σ) 16 → (∀ t, (t < i ∨ i + j ≤ t) → ms_factor σ t = F0 t) →
    dgV (fun t => dg (ms_factor σ) (i + t)) j + bn_u c * 65536^j = dgV (fun t => dg F0 (i + t)) j + xd x i * dgV (xd y) j →
    ∃ F : Nat → Int32, fM_multiply_39 n K x y (nI i) c (nI j) σ = K x y (nI i + 1) (ms_set_factor σ F) ∧ dg_ok F 16 ∧ (∀ t, (t < i ∨ i + 4 < t) → F t = F0 t) ∧
      dgV (fun t => dg F (i + t)) 4 + dg F (i + 4) * 65536^4 = dgV (fun t => dg F0 (i + t)) 4 + xd x i * dgV (xd y) 4 := by
  intro n
  induction n with
  | zero => intro j c σ h1 h2; omega
  | succ n ih =>
    intro j c σ hn hj hc hok hF hv
    rw [fM_multiply_39]
    by_cases q : j = 4
    · subst q
      rw [if_pos (show (4 : Int32) ≤ nI 4 by decide)]
      have e4 : (nI i + 4).toNatClampNeg = i + 4 := by
        have : (nI i + 4).toInt = i + 4 := by rw [bn_i_add] <;> rw [nI_toInt (by omega), show (4 : Int32).toInt = 4 from rfl]; omega
        show (nI i + 4).toInt.toNat = _
        rw [this]; omega
      rw [e4]
      have hci := l2i_small c hc
      refine ⟨upd (ms_factor σ) (i + 4) c.toInt32, rfl, fun t ht => ?_, fun t ht => ?_, ?_⟩
      · by_cases w : t = i + 4
        · rw [w, upd_same, hci]; omega
        · rw [upd_other w]; exact hok t ht
      · rw [upd_other (by omega)]; exact hF t (by omega)
      · have x1 : dgV (fun t => dg (upd (ms_factor σ) (i + 4) c.toInt32) (i + t)) 4 = dgV (fun t => dg (ms_factor σ) (i + t)) 4 := dgV_ext (fun t ht => by unfold dg; rw [upd_other (by omega)])
        have x2 : dg (upd (ms_factor σ) (i + 4) c.toInt32) (i + 4) = bn_u c := by unfold dg; rw [upd_same, hci]; omega
        rw [x1, x2]; exact hv
    · rw [if_neg (show ¬ (4 : Int32) ≤ nI j from nI_ge (b := 4) (by omega) (by decide))]
      simp only [fM_multiply_85, fM_multiply_109]
      have eij : (nI i + nI j).toNatClampNeg = i + j := by
        have : (nI i + nI j).toInt = i + j := by rw [bn_i_add] <;> rw [nI_toInt (by omega), nI_toInt (by omega)]; omega
        show (nI i + nI j).toInt.toNat = _
        rw [this]; omega
      rw [eij]
      have ux := xd_u x i hi
      have uy := xd_u y j (by omega)
      have hX : xd x i < 65536 := Nat.mod_lt _ (by decide)
      have hY : xd y j < 65536 := Nat.mod_lt _ (by decide)
      have hXY : xd x i * xd y j ≤ 65535 * 65535 := Nat.mul_le_mul (by omega) (by omega)
      have hf := hok (i + j) (by omega)
      have uf : bn_u (ms_factor σ (i + j)).toInt64 = dg F0 (i + j) := by
        rw [bn_u_digit hf.1]; unfold dg; rw [hF (i + j) (by omega)]
      have hfl : dg F0 (i + j) < 65536 := dg_lt h0 (i + j) (by omega)
      have u1 : bn_u ((bn_shr x (16 * nI i) &&& 65535) * (bn_shr y (16 * nI j) &&& 65535)) = xd x i * xd y j := by
        rw [bn_mul_u] <;> rw [ux, uy]; omega
      have u2 : bn_u ((bn_shr x (16 * nI i) &&& 65535) * (bn_shr y (16 * nI j) &&& 65535) + (ms_factor σ (i + j)).toInt64) = xd x i * xd y j + dg F0 (i + j) := by
        rw [bn_add_u] <;> rw [u1, uf]; omega
      have u3 : bn_u ((bn_shr x (16 * nI i) &&& 65535) * (bn_shr y (16 * nI j) &&& 65535) + (ms_factor σ (i + j)).toInt64 + c) = xd x i * xd y j + dg F0 (i + j) + bn_u c := by
        rw [bn_add_u] <;> rw [u2]; omega
      generalize (bn_shr x (16 * nI i) &&& 65535) * (bn_shr y (16 * nI j) &&& 65535) + (ms_factor σ (i + j)).toInt64 + c = d at *
      clear u1 u2 ux uy uf
      have dl : bn_u d < 2^32 := by omega
      have c1 : bn_u (bn_sar d 16) = bn_u d / 65536 := sar_pos (n := 16) (by omega) rfl (by decide)
      have c2 : bn_u (d &&& 65535) = bn_u d % 65536 := by rw [bn_u_and, show bn_u 65535 = 2^16 - 1 from rfl, bn_and_mask]
      have c3 : (d &&& 65535).toInt32.toInt = ((bn_u d % 65536 : Nat) : Int) := by rw [l2i_small _ (by rw [c2]; omega), c2]
      rw [show nI j + 1 = nI (j + 1) from (nI_succ j).symm]
      have hstep := mul_step (dj := 0) hv u3
      obtain ⟨F, e1, e2, e3, e4⟩ := ih (j + 1) (bn_sar d 16) (ms_set_factor σ (upd (ms_factor σ) (i + j) (d &&& 65535).toInt32)) (by omega) (by omega) (by rw [c1]; omega)
        (fun t ht => by
          rw [ms_factor_factor]
          by_cases w : t = i + j
          · rw [w, upd_same, c3]; omega
          · rw [upd_other w]; exact hok t ht)
        (fun t ht => by rw [ms_factor_factor, upd_other (by omega)]; exact hF t (by omega))
        (by
          rw [ms_factor_factor, dgV, dgV, dgV, c1]
          have x1 : dgV (fun t => dg (upd (ms_factor σ) (i + j) (d &&& 65535).toInt32) (i + t)) j = dgV (fun t => dg (ms_factor σ) (i + t)) j := dgV_ext (fun t ht => by unfold dg; rw [upd_other (by omega)])
          have x2 : dg (upd (ms_factor σ) (i + j) (d &&& 65535).toInt32) (i + j) = bn_u d % 65536 := by unfold dg; rw [upd_same, c3]; omega
          rw [x1]
          show _ + dg (upd (ms_factor σ) (i + j) (d &&& 65535).toInt32) (i + j) * 65536^j + _ = _
          rw [x2, Nat.pow_succ]
          exact hstep)
      exact ⟨F, e1, e2, e3, e4⟩
theorem mul_27 (x y : Int64) : ∀ (n i : Nat) (σ : MS), i + n = 5 → i ≤ 4 → dg_ok (ms_factor σ) 16 → (∀ t, i + 4 ≤ t → t < 16 → ms_factor σ t = 0) → dgV (dg (ms_factor σ)) (i + 4) = dgV (xd x) i * bn_u y →
    ∃ F : Nat → Int32, fM_multiply_27 n x y (nI i) σ = ms_set_factor σ F ∧ dg_ok F 16 ∧ (∀ t, 8 ≤ t → t < 16 → F t = 0) ∧ dgV (dg F) 8 = bn_u x * bn_u y := by
  intro n
  induction n with
  | zero => intro i σ h1 h2; omega
  | succ n ih =>
    intro i σ hn hi hok hz hv
    rw [fM_multiply_27]
    by_cases q : i = 4
    · subst q
      rw [if_pos (show (4 : Int32) ≤ nI 4 by decide)]
      refine ⟨ms_factor σ, rfl, hok, fun t h1 h2 => hz t h1 h2, ?_⟩
      rw [xd_val] at hv; exact hv
    · rw [if_neg (show ¬ (4 : Int32) ≤ nI i from nI_ge (b := 4) (by omega) (by decide))]
      obtain ⟨F, e1, e2, e3, e4⟩ := mul_39 x y i (by omega) (fM_multiply_27 n) (ms_factor σ) hok 5 0 0 σ (by omega) (by omega) (by decide) hok (fun _ _ => rfl) (by simp [dgV]; rfl)
      have e1' : fM_multiply_27 n x y (nI i + 1) (ms_set_factor σ F) = fM_multiply_27 n x y (nI (i + 1)) (ms_set_factor σ F) := by rw [nI_succ]
      have h00 : fM_multiply_39 5 (fM_multiply_27 n) x y (nI i) 0 0 σ = fM_multiply_39 5 (fM_multiply_27 n) x y (nI i) 0 (nI 0) σ := rfl
      rw [h00, e1, e1']
      rw [xd_val] at e4
      obtain ⟨F2, g1, g2, g3, g4⟩ := ih (i + 1) (ms_set_factor σ F) (by omega) (by omega) (by rw [ms_factor_factor]; exact e2)
        (fun t h1 h2 => by rw [ms_factor_factor, e3 t (by omega)]; exact hz t (by omega) h2)
        (by
          rw [ms_factor_factor, show i + 1 + 4 = i + 5 by omega, dgV_split (dg F) i 5]
          have x1 : dgV (dg F) i = dgV (dg (ms_factor σ)) i := dgV_ext (fun t ht => by unfold dg; rw [e3 t (by omega)])
          have x2 : dgV (fun t => dg F (i + t)) 5 = dgV (fun t => dg (ms_factor σ) (i + t)) 4 + xd x i * bn_u y := e4
          rw [x1, x2, Nat.mul_add, ← Nat.add_assoc, ← dgV_split (dg (ms_factor σ)) i 4, hv]
          show dgV (xd x) i * bn_u y + 65536^i * (xd x i * bn_u y) = (dgV (xd x) i + xd x i * 65536^i) * bn_u y
          rw [Nat.add_mul]
          congr 1
          rw [← Nat.mul_assoc, Nat.mul_comm (65536^i)])
      exact ⟨F2, g1, g2, g3, g4⟩
theorem mul_3 (x y : Int64) : ∀ (n k : Nat) (σ : MS), k + n = 17 → k ≤ 16 → (∀ t, t < k → ms_factor σ t = 0) →
    ∃ F : Nat → Int32, fM_multiply_3 n x y (nI k) σ = ms_set_factor σ F ∧ dg_ok F 16 ∧ (∀ t, 8 ≤ t → t < 16 → F t = 0) ∧ dgV (dg F) 8 = bn_u x * bn_u y := by
  intro n
  induction n with
  | zero => intro k σ h1 h2; omega
  | succ n ih =>
    intro k σ hn hk hz
    rw [fM_multiply_3]
    by_cases q : k = 16
    · subst q
      rw [if_pos (show (16 : Int32) ≤ nI 16 by decide)]
      have hok : dg_ok (ms_factor σ) 16 := fun t ht => by rw [hz t ht]; decide
      refine mul_27 x y 5 0 σ (by omega) (by omega) hok (fun t _ h2 => hz t h2) ?_
      rw [dgV_zero_above (n := 0) (by omega) (fun t _ h2 => by unfold dg; rw [hz t (by omega)]; rfl)]
      simp [dgV]
    · rw [if_neg (show ¬ (16 : Int32) ≤ nI k from nI_ge (b := 16) (by omega) (by decide)), show nI k + 1 = nI (k + 1) from (nI_succ k).symm, nI_clamp (by omega)]
      obtain ⟨F, e1, e2⟩ := ih (k + 1) (ms_set_factor σ (upd (ms_factor σ) k 0)) (by omega) (by omega) (fun t ht => by
        rw [ms_factor_factor]
        by_cases w : t = k
        · rw [w, upd_same]
        · rw [upd_other w]; exact hz t (by omega))
      exact ⟨F, e1, e2⟩
theorem mul_val (x y : Int64) (σ : MS) : ∃ F : Nat → Int32, fM_multiply x y σ = ms_set_factor σ F ∧ dg_ok F 16 ∧ (∀ t, 8 ≤ t → t < 16 → F t = 0) ∧ dgV (dg F) 8 = bn_u x * bn_u y :=
  mul_3 x y 17 0 σ (by omega) (by omega) (fun t ht => by omega)
