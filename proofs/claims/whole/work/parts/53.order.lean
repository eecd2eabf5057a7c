def rowSt (σ : MS) (V : Nat) : Prop := ms_mode σ = 0 ∧ dg_ok (ms_row σ) 320 ∧ dgV (dg (ms_row σ)) 320 = V ∧ ∃ k, k ≤ 320 ∧ ms_held σ = nI k ∧ ∀ j, k ≤ j → j < 320 → ms_row σ j = 0
theorem bn_u_digit {x : Int32} (h : 0 ≤ x.toInt) : bn_u x.toInt64 = x.toInt.toNat := by
  have := bn_u_i2l x
  have h2 := x.toInt_lt
  omega
theorem measured (σ : MS) (V : Nat) (hr : dg_ok (ms_row σ) 320) (hV : dgV (dg (ms_row σ)) 320 = V) (h0 : V ≠ 0) (hb : -20000 ≤ (ms_base σ).toInt ∧ (ms_base σ).toInt ≤ 20000) :
    ∃ k, 1 ≤ k ∧ k ≤ 320 ∧ fM_measure σ = ms_set_held (ms_set_mode σ 0) (nI k) ∧ rowSt (fM_measure σ) V ∧ vp_in (ms_held (fM_measure σ) - 1) 320 ∧ (ms_row (fM_measure σ) (ms_held (fM_measure σ) - 1).toNatClampNeg).toInt64 ≠ 0 ∧
      (fM_highestOfRow (fM_measure σ)).1.toInt = (bn_len V : Int) - 1 + (ms_base σ).toInt := by
  obtain ⟨k, h1, h2, e, hv, hd, hz⟩ := measure_val σ hr (by rw [hV]; exact h0)
  have hh : ms_held (fM_measure σ) - 1 = nI (k - 1) := by
    rw [e, ms_held_held]
    have := pw_sub1 (k - 1) (by omega)
    rw [show k - 1 + 1 = k by omega] at this
    exact this
  have hrow : ms_row (fM_measure σ) = ms_row σ := by rw [e]; rfl
  have hbase : ms_base (fM_measure σ) = ms_base σ := by rw [e]; rfl
  have hdp := hr (k - 1) (by omega)
  have hdne : (ms_row σ (k - 1)).toInt ≠ 0 := fun q => hd (Int32.toInt_inj.mp q)
  have hnz : (ms_row (fM_measure σ) (ms_held (fM_measure σ) - 1).toNatClampNeg).toInt64 ≠ 0 := by
    rw [hrow, hh, nI_clamp (by omega)]
    intro q
    rw [bn_u_zero, bn_u_digit hdp.1] at q
    omega
  refine ⟨k, h1, h2, e, ⟨by rw [e]; rfl, by rw [hrow]; exact hr, by rw [hrow]; exact hV, k, h2, by rw [e]; rfl, by rw [hrow]; exact hz⟩, by rw [hh]; exact pw_nin (by omega) (by decide), hnz, ?_⟩
  unfold fM_highestOfRow
  show (16 * (ms_held (fM_measure σ) - 1) + fM_highest (ms_row (fM_measure σ) (ms_held (fM_measure σ) - 1).toNatClampNeg).toInt64 + ms_base (fM_measure σ)).toInt = _
  have hhi := highest_val _ hnz
  rw [hrow, hh, nI_clamp (by omega)] at hhi ⊢
  rw [bn_u_digit hdp.1] at hhi
  rw [hbase]
  have hVlen : bn_len V = 16 * (k - 1) + bn_len (ms_row σ (k - 1)).toInt.toNat := by
    rw [← hV, hv]
    have : k = (k - 1) + 1 := by omega
    rw [this, dgV]
    rw [show k - 1 + 1 - 1 = k - 1 by omega]
    have hl := dgV_lt (F := dg (ms_row σ)) (n := k - 1) (fun j hj => dg_lt hr j (by omega))
    rw [dg_pow] at hl ⊢
    exact bn_len_top hl (by show 0 < (ms_row σ (k - 1)).toInt.toNat; omega)
  have hdl : bn_len (ms_row σ (k - 1)).toInt.toNat ≤ 16 := bn_len_le.mpr (by omega)
  have hn : (nI (k - 1)).toInt = ((k - 1 : Nat) : Int) := nI_toInt (by omega)
  have z16 : (16 : Int32).toInt = 16 := rfl
  have m1 : (16 * nI (k - 1)).toInt = 16 * ((k - 1 : Nat) : Int) := by
    rw [Int32.toInt_mul, z16, hn, Int.bmod_eq_of_le] <;> omega
  have m2 : (16 * nI (k - 1) + fM_highest (ms_row σ (k - 1)).toInt64).toInt = 16 * ((k - 1 : Nat) : Int) + ((bn_len (ms_row σ (k - 1)).toInt.toNat : Int) - 1) := by
    rw [bn_i_add] <;> omega
  rw [bn_i_add] <;> omega
theorem order_57 (v : Int64) (sh : Int32) (G : Nat → Nat) (σ : MS) (hG : ∀ k, k < 20000 → (fM_digit v sh (nI k)).toInt = (G k : Int)) (hr : dg_ok (ms_row σ) 320) : ∀ (n k : Nat) (i : Int32), k ≤ 10000 → i.toInt = (k : Int) - 1 → k < n →
    fM_order_57 n v sh i σ = (dg_cd (fun j => if 320 ≤ j then 0 else dg (ms_row σ) j) G k, σ) := by
  intro n
  induction n with
  | zero => intro k i _ _ h; omega
  | succ n ih =>
    intro k i hk hi hn
    have z0 : (0 : Int32).toInt = 0 := rfl
    have z320 : (320 : Int32).toInt = 320 := rfl
    rw [fM_order_57]
    cases k with
    | zero => rw [if_pos (show i < 0 by rw [Int32.lt_iff_toInt_lt, z0, hi]; omega)]; rfl
    | succ k =>
      rw [if_neg (show ¬ i < 0 by rw [Int32.lt_iff_toInt_lt, z0, hi]; omega)]
      have hik : i = nI k := Int32.toInt_inj.mp (by rw [hi, nI_toInt (by omega)]; omega)
      have hd := hG k (by omega)
      rw [← hik] at hd
      have hi1 : (i + (-1)).toInt = (k : Int) - 1 := by
        rw [bn_i_add] <;> rw [show (-1 : Int32).toInt = -1 from rfl, hi] <;> omega
      have key : ∀ (mine : Int32) (M : Nat), (if 320 ≤ k then 0 else dg (ms_row σ) k) = M → mine.toInt = (M : Int) → fM_order_81 (fM_order_57 n) v sh i mine σ = (dg_cd (fun j => if 320 ≤ j then 0 else dg (ms_row σ) j) G (k + 1), σ) := by
        intro mine M hM hm
        unfold fM_order_81 fM_order_93
        have e1 : (mine = fM_digit v sh i) ↔ M = G k := by
          rw [← Int32.toInt_inj, hm, hd]; omega
        have e2 : (fM_digit v sh i ≤ mine) ↔ G k ≤ M := by
          rw [Int32.le_iff_toInt_le, hm, hd]; omega
        rw [dg_cd]
        simp only [hM]
        by_cases q : M = G k
        · rw [if_pos (e1.mpr q), if_pos q, ih k _ (by omega) hi1 (by omega)]
        · rw [if_neg (fun w => q (e1.mp w)), if_neg q]
          by_cases g : G k ≤ M
          · rw [if_pos (e2.mpr g), if_pos g]
          · rw [if_neg (fun w => g (e2.mp w)), if_neg g]
      by_cases q : 320 ≤ k
      · rw [if_pos (show (320 : Int32) ≤ i by rw [Int32.le_iff_toInt_le, z320, hi]; omega)]
        exact key 0 0 (if_pos q) rfl
      · rw [if_neg (show ¬ (320 : Int32) ≤ i by rw [Int32.le_iff_toInt_le, z320, hi]; omega)]
        have hc : i.toNatClampNeg = k := by show i.toInt.toNat = k; rw [hi]; omega
        rw [hc]
        exact key _ _ (if_neg q) (dg_cast (hr k (by omega)).1)
theorem dgV_all (N K : Nat) (h : N < 65536^K) : dgV (fun j => N / 65536^j % 65536) K = N := by
  rw [dgV_digits N (fun j _ => rfl)]
  exact Nat.mod_eq_of_lt h
theorem dg_fit (v : Int64) (S K : Nat) (h : S + 64 ≤ 16 * K) : bn_u v * 2^S < 65536^K := by
  rw [dg_pow]
  have h1 : bn_u v * 2^S < 2^64 * 2^S := Nat.mul_lt_mul_of_pos_right (bn_u_lt v) (Nat.two_pow_pos S)
  rw [← Nat.pow_add] at h1
  exact Nat.lt_of_lt_of_le h1 (Nat.pow_le_pow_right (by decide) (by omega))
theorem i_div16 {a : Int32} (h : 0 ≤ a.toInt) : (a / 16).toInt = a.toInt / 16 := by
  have hne : a ≠ Int32.minValue := by
    intro q; rw [q] at h; revert h; decide
  rw [Int32.toInt_div_of_ne_left _ _ hne, show (16 : Int32).toInt = 16 from rfl, Int.tdiv_eq_ediv_of_nonneg h]
theorem order_row (v : Int64) (e : Int32) (σ : MS) (V S : Nat) (h : rowSt σ V) (hS : e.toInt - (ms_base σ).toInt = S) (hS2 : S ≤ 5000) (hb : -20000 ≤ (ms_base σ).toInt ∧ (ms_base σ).toInt ≤ 20000) :
    fM_order v e σ = (dg_sg V (bn_u v * 2^S), σ) := by
  obtain ⟨hm, hr, hV, k, hk, hh, hz⟩ := h
  have hsh : (e - ms_base σ).toInt = S := by rw [bn_i_sub] <;> omega
  unfold fM_order
  rw [if_pos hm]
  unfold fM_order_15 fM_order_49 fM_order_51
  generalize e - ms_base σ = sh at *
  have z64 : (64 : Int32).toInt = 64 := rfl
  have z1 : (1 : Int32).toInt = 1 := rfl
  have s1 : (sh + 64).toInt = S + 64 := by rw [bn_i_add] <;> omega
  have s2 : ((sh + 64) / 16).toInt = (S + 64) / 16 := by rw [i_div16 (by omega), s1]
  have s3 : ((sh + 64) / 16 + 1).toInt = (S + 64) / 16 + 1 := by rw [bn_i_add] <;> omega
  have hGd : ∀ k, k < 20000 → (fM_digit v sh (nI k)).toInt = (((fun j => bn_u v * 2^S / 65536^j % 65536) k : Nat) : Int) := fun k hk => dg_digit v sh S k hsh (by omega) (by omega)
  have main : ∀ (t : Int32) (K : Nat), t.toInt = K → K ≤ 9000 → k ≤ K → (S + 64) / 16 + 1 ≤ K → fM_order_57 (((t - 1).toInt + 2).toNat + 1) v sh (t - 1) σ = (dg_sg V (bn_u v * 2^S), σ) := by
    intro t K ht hK1 hK2 hK3
    have t1 : (t - 1).toInt = (K : Int) - 1 := by rw [bn_i_sub] <;> omega
    rw [order_57 v sh (fun j => bn_u v * 2^S / 65536^j % 65536) σ hGd hr _ K (t - 1) (by omega) t1 (by omega)]
    rw [dg_cd_sg (fun j hj => by
      show (if 320 ≤ j then 0 else dg (ms_row σ) j) < 65536
      split
      · decide
      · exact dg_lt hr j (by omega)) (fun j hj => Nat.mod_lt _ (by decide))]
    have v1 : dgV (fun j => if 320 ≤ j then 0 else dg (ms_row σ) j) K = V := by
      rw [dgV_zero_above hK2 (fun j h1 h2 => by
        show (if 320 ≤ j then 0 else dg (ms_row σ) j) = 0
        split
        · rfl
        · unfold dg; rw [hz j h1 (by omega)]; rfl)]
      rw [← hV, dgV_zero_above (F := dg (ms_row σ)) hk (fun j h1 h2 => by unfold dg; rw [hz j h1 h2]; rfl)]
      exact dgV_ext (fun j hj => by show (if 320 ≤ j then 0 else dg (ms_row σ) j) = _; rw [if_neg (by omega)])
    have v2 := dgV_all (bn_u v * 2^S) K (dg_fit v S K (by omega))
    rw [v1, v2]
  by_cases q : ms_held σ ≤ (sh + 64) / 16 + 1
  · rw [if_pos q]
    rw [Int32.le_iff_toInt_le, s3, hh, nI_toInt (by omega)] at q
    exact main _ ((S + 64) / 16 + 1) (by omega) (by omega) (by omega) (by omega)
  · rw [if_neg q]
    rw [Int32.le_iff_toInt_le, s3, hh, nI_toInt (by omega)] at q
    exact main _ k (by rw [hh, nI_toInt (by omega)]) (by omega) (by omega) (by omega)
