theorem mag_s (k : Nat) (x : Int64) (h : bn_ok k x) : (fFormat_magnitude k x).toInt = (bn_mag k x : Int) := by
  have e := bn_magnitude k x h
  rw [bn_s_pos (by rw [e]; exact bn_mag_lt63 k x), e]
theorem rest_s (k : Nat) (x : Int64) : (fM_rest (tt k) x).toInt = (bn_mag k x : Int) := by
  have e := m_rest k x
  rw [bn_s_pos (by rw [e]; exact bn_mag_lt63 k x), e]
theorem neg_s {m : Int64} (h : bn_u m < 2^63) : (-m).toInt = -(bn_u m : Int) := by
  rw [bn_s_u, bn_u_neg]
  generalize bn_u m = U at *
  rcases Nat.eq_zero_or_pos U with rfl | q
  · rfl
  · rw [Nat.mod_eq_of_lt (by omega), if_neg (by omega)]; omega
theorem not_s {m : Int64} (h : bn_u m < 2^63) : (m ^^^ (-1)).toInt = -(bn_u m : Int) - 1 := by
  have e : bn_u (m ^^^ (-1)) = 2^64 - 1 - bn_u m := by
    show (m ^^^ (-1)).toBitVec.toNat = _
    rw [Int64.toBitVec_xor, show (-1 : Int64).toBitVec = BitVec.allOnes 64 from rfl, BitVec.xor_allOnes, BitVec.toNat_not]
    rfl
  rw [bn_s_u, e]
  generalize bn_u m = U at *
  clear e
  rw [if_neg (by omega)]; omega
theorem num_s (k : Nat) (x : Int64) (h : bn_ok k x) : (fFloating_number k x).toInt = if bn_sg k x = 0 then (bn_mag k x : Int) else -(bn_mag k x : Int) := by
  have e := bn_magnitude k x h
  have hl := bn_mag_lt63 k x
  unfold fFloating_number fFloating_number_6
  rw [bn_isNegative k x h]
  by_cases q : bn_sg k x = 0
  · rw [if_pos q, if_pos q, if_pos rfl]; exact mag_s k x h
  · rw [if_neg q, if_neg q, if_neg (by decide), neg_s (by rw [e]; exact hl), e]
theorem owz_s (k : Nat) (x : Int64) (h : bn_ok k x) : (fFloating_orderWithZeros k x).toInt = if bn_sg k x = 0 then (bn_mag k x : Int) else -(bn_mag k x : Int) - 1 := by
  have e := bn_magnitude k x h
  have hl := bn_mag_lt63 k x
  unfold fFloating_orderWithZeros fFloating_orderWithZeros_6
  rw [bn_isNegative k x h]
  by_cases q : bn_sg k x = 0
  · rw [if_pos q, if_pos q, if_pos rfl]; exact mag_s k x h
  · rw [if_neg q, if_neg q, if_neg (by decide), not_s (by rw [e]; exact hl), e]
theorem less_val (k : Nat) (x y : Int64) (hx : bn_ok k x) (hy : bn_ok k y) : fM_isLess (tt k) x y = if (if bn_sg k x = 0 then (bn_mag k x : Int) else -(bn_mag k x : Int) - 1) < (if bn_sg k y = 0 then (bn_mag k y : Int) else -(bn_mag k y : Int) - 1) then 1 else 0 := by
  unfold fM_isLess fM_isLess_7 fM_isLess_14
  rw [m_isMinus, m_isMinus, bn_isNegative k x hx, bn_isNegative k y hy]
  have r1 := rest_s k x
  have r2 := rest_s k y
  by_cases a : bn_sg k x = 0
  · by_cases b : bn_sg k y = 0
    · simp only [if_pos a, if_pos b, if_true]
      by_cases w : fM_rest (tt k) y ≤ fM_rest (tt k) x
      · rw [if_pos w, if_neg]
        rw [Int64.le_iff_toInt_le, r1, r2] at w; omega
      · rw [if_neg w, if_pos]
        rw [Int64.le_iff_toInt_le, r1, r2] at w; omega
    · simp only [if_pos a, if_neg b]
      rw [if_neg (show ¬ (0 : Int32) = 1 by decide), if_neg (by omega)]
  · by_cases b : bn_sg k y = 0
    · simp only [if_neg a, if_pos b]
      rw [if_neg (show ¬ (1 : Int32) = 0 by decide), if_pos (by omega)]
    · simp only [if_neg a, if_neg b, if_true]
      rw [if_neg (show ¬ (1 : Int32) = 0 by decide)]
      by_cases w : fM_rest (tt k) x ≤ fM_rest (tt k) y
      · rw [if_pos w, if_neg]
        rw [Int64.le_iff_toInt_le, r1, r2] at w; omega
      · rw [if_neg w, if_pos]
        rw [Int64.le_iff_toInt_le, r1, r2] at w; omega
theorem less_owz (k : Nat) (x y : Int64) (hx : bn_ok k x) (hy : bn_ok k y) : (fM_isLess (tt k) x y = 0) ↔ ¬ fFloating_orderWithZeros k x < fFloating_orderWithZeros k y := by
  rw [less_val k x y hx hy, Int64.lt_iff_toInt_lt, owz_s k x hx, owz_s k y hy]
  generalize (if bn_sg k x = 0 then (bn_mag k x : Int) else -(bn_mag k x : Int) - 1) = A
  generalize (if bn_sg k y = 0 then (bn_mag k y : Int) else -(bn_mag k y : Int) - 1) = B
  by_cases w : A < B
  · rw [if_pos w]; exact ⟨fun h => absurd h (by decide), fun h => absurd w h⟩
  · rw [if_neg w]; exact ⟨fun _ => w, fun _ => rfl⟩
theorem same_of (k : Nat) (x y : Int64) (h1 : bn_sg k x = bn_sg k y) (h2 : bn_mag k x = bn_mag k y) : x = y := bn_u_inj (by rw [bn_u_split k x, bn_u_split k y, h1, h2])
theorem cf_tab (c : Nat) (hc : c < 6) : ((if fFloating_test_44 (nI c) 0 = 0 then (0 : Int64) else 1) = fM_compareFloating_82 (nI c) 1 0) ∧ ((if fFloating_test_44 (nI c) (-1) = 0 then (0 : Int64) else 1) = fM_compareFloating_82 (nI c) 0 1) ∧ ((if fFloating_test_44 (nI c) 1 = 0 then (0 : Int64) else 1) = fM_compareFloating_82 (nI c) 0 0) ∧ ((if fFloating_test_17 (nI c) = 0 then (0 : Int64) else 1) = fM_compareFloating_17 (nI c)) := by
  rcases (show c = 0 ∨ c = 1 ∨ c = 2 ∨ c = 3 ∨ c = 4 ∨ c = 5 by omega) with rfl | rfl | rfl | rfl | rfl | rfl <;> exact ⟨rfl, rfl, rfl, rfl⟩
theorem sg01 {k : Nat} {x y : Int64} (hx : bn_ok k x) (hy : bn_ok k y) (h : (bn_sg k x = 0) ↔ (bn_sg k y = 0)) : bn_sg k x = bn_sg k y := by
  have a := bn_sg_le k x hx
  have b := bn_sg_le k y hy
  omega
theorem cf_val (c : Nat) (hc : c < 6) (k : Nat) (x y : Int64) (hx : bn_ok k x) (hy : bn_ok k y) : (if fFloating_test (nI c) k x y = 0 then (0 : Int64) else 1) = fM_compareFloating (nI c) (tt k) x y := by
  obtain ⟨t1, t2, t3, t4⟩ := cf_tab c hc
  unfold fFloating_test fM_compareFloating
  rw [m_isNone k x hx, m_isNone k y hy]
  by_cases n1 : fFormat_isNone k x = 0
  · by_cases n2 : fFormat_isNone k y = 0
    · rw [if_pos n1, if_pos n2, if_pos n1, if_pos n2, bn_cmp, num_s k x hx, num_s k y hy, m_isZero k x hx, m_isZero k y hy, bn_isZero k x hx, bn_isZero k y hy]
      have hl := less_val k x y hx hy
      unfold fM_compareFloating_55 fM_compareFloating_59 fM_compareFloating_60 fM_compareFloating_81
      have goal1 : (if (1 : Int32) = 0 then (if fM_isLess (tt k) x y = 0 then fM_compareFloating_82 (nI c) 1 0 else fM_compareFloating_82 (nI c) 1 1) else fM_compareFloating_82 (nI c) 1 0) = fM_compareFloating_82 (nI c) 1 0 := if_neg (by decide)
      have goal0 : (if (0 : Int32) = 0 then (if fM_isLess (tt k) x y = 0 then fM_compareFloating_82 (nI c) 0 0 else fM_compareFloating_82 (nI c) 0 1) else fM_compareFloating_82 (nI c) 0 0) = (if fM_isLess (tt k) x y = 0 then fM_compareFloating_82 (nI c) 0 0 else fM_compareFloating_82 (nI c) 0 1) := if_pos rfl
      rw [goal1, goal0]
      clear goal1 goal0
      generalize hA : (if bn_sg k x = 0 then (bn_mag k x : Int) else -(bn_mag k x : Int)) = A
      generalize hB : (if bn_sg k y = 0 then (bn_mag k y : Int) else -(bn_mag k y : Int)) = B
      by_cases qe : A = B
      · rw [if_neg (show ¬ A < B by omega), if_pos qe]
        by_cases z1 : bn_mag k x = 0
        · have z2 : bn_mag k y = 0 := by
            by_cases a : bn_sg k x = 0 <;> by_cases b : bn_sg k y = 0 <;> simp only [a, b, if_true, if_false] at hA hB <;> omega
          rw [if_pos z1, if_pos z2, if_neg (show ¬ (1 : Int32) = 0 by decide), if_neg (show ¬ (1 : Int32) = 0 by decide), ite_self]
          exact t1
        · have hs : (bn_sg k x = 0) ↔ (bn_sg k y = 0) := by
            by_cases a : bn_sg k x = 0 <;> by_cases b : bn_sg k y = 0 <;> simp only [a, b, if_true, if_false] at hA hB ⊢ <;> omega
          have hm : bn_mag k x = bn_mag k y := by
            by_cases a : bn_sg k x = 0 <;> by_cases b : bn_sg k y = 0 <;> simp only [a, b, if_true, if_false] at hA hB ⊢ <;> omega
          rw [if_pos (same_of k x y (sg01 hx hy hs) hm)]
          exact t1
      · have hne : ¬ x = y := fun w => by rw [w, hB] at hA; exact qe hA.symm
        have hz : ¬ (bn_mag k x = 0 ∧ bn_mag k y = 0) := fun w => by
          rw [w.1] at hA; rw [w.2] at hB
          by_cases a : bn_sg k x = 0 <;> by_cases b : bn_sg k y = 0 <;> simp only [a, b, if_true, if_false] at hA hB <;> omega
        have hlt : (A < B) ↔ ((if bn_sg k x = 0 then (bn_mag k x : Int) else -(bn_mag k x : Int) - 1) < (if bn_sg k y = 0 then (bn_mag k y : Int) else -(bn_mag k y : Int) - 1)) := by
          by_cases a : bn_sg k x = 0 <;> by_cases b : bn_sg k y = 0 <;> simp only [a, b, if_true, if_false] at hA hB ⊢ <;> omega
        have hmain : (if fFloating_test_44 (nI c) (if A < B then (-1 : Int32) else if A = B then 0 else 1) = 0 then (0 : Int64) else 1) = (if fM_isLess (tt k) x y = 0 then fM_compareFloating_82 (nI c) 0 0 else fM_compareFloating_82 (nI c) 0 1) := by
          rw [if_neg qe]
          by_cases w : A < B
          · rw [if_pos w, hl, if_pos (hlt.mp w), if_neg (show ¬ (1 : Int32) = 0 by decide)]
            exact t2
          · rw [if_neg w, hl, if_neg (fun z => w (hlt.mpr z)), if_pos (show (0 : Int32) = 0 from rfl)]
            exact t3
        rw [hmain, if_neg hne]
        generalize (if fM_isLess (tt k) x y = 0 then fM_compareFloating_82 (nI c) 0 0 else fM_compareFloating_82 (nI c) 0 1) = R
        by_cases z1 : bn_mag k x = 0
        · have z2 : ¬ bn_mag k y = 0 := fun z2 => hz ⟨z1, z2⟩
          rw [if_pos z1, if_neg z2, if_neg (show ¬ (1 : Int32) = 0 by decide), if_pos (show (0 : Int32) = 0 from rfl)]
        · rw [if_neg z1, if_pos (show (0 : Int32) = 0 from rfl)]
    · rw [if_pos n1, if_neg n2, if_pos n1, if_neg n2]; exact t4
  · rw [if_neg n1, if_neg n1]; exact t4
