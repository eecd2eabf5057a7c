def opC (o : Int32) : Prop := fOperators_exists o = 1 ∧ 0 ≤ fM_operatorShape o ∧ fOperators_operands o = fM_operatorShape o / 16 ∧ fOperators_operandType o = (fM_operatorShape o / 4) - (fM_operatorShape o / 4) / 4 * 4 ∧ fOperators_resultType o = fM_operatorShape o - fM_operatorShape o / 4 * 4 ∧ (fOperators_operands o = 1 ∨ fOperators_operands o = 2) ∧ (fOperators_operandType o = 0 ∨ fOperators_operandType o = 1 ∨ fOperators_operandType o = 2 ∨ fOperators_operandType o = 3) ∧ (fOperators_resultType o = 0 ∨ fOperators_resultType o = 1 ∨ fOperators_resultType o = 2 ∨ fOperators_resultType o = 3)
def opB (j : Nat) : Bool := if fOperators_exists (nI j) = 0 then decide (fM_operatorShape (nI j) = -1) else @decide (opC (nI j)) (by unfold opC; exact inferInstance)
theorem op_all : (List.range 208).all opB = true := by decide +kernel
theorem op_tab (o : Int32) : (fOperators_exists o = 0 ∧ fM_operatorShape o = -1) ∨ (∃ j : Nat, 69 ≤ j ∧ j < 208 ∧ o = nI j ∧ opC o) := by
  have z : (tb 0 (0 : Int32).toNatClampNeg) = 69 := by decide +kernel
  by_cases q1 : o < 69
  · refine Or.inl ⟨?_, ?_⟩
    · unfold fOperators_exists fOperators_exists_16 fOperators_exists_34
      rw [z, if_pos q1, if_pos (Int32.lt_trans q1 (by decide))]
    · unfold fM_operatorShape fM_operatorShape_27; rw [if_pos q1]
  · by_cases q2 : 207 < o
    · refine Or.inl ⟨?_, ?_⟩
      · unfold fOperators_exists fOperators_exists_16 fOperators_exists_34
        have h1 : ¬ o ≤ 196 := Int32.not_le.mpr (Int32.lt_trans (by decide) q2)
        have h2 : ¬ o < 200 := Int32.not_lt.mpr (Int32.le_of_lt (Int32.lt_trans (by decide) q2))
        rw [z, if_neg q1, if_neg h1, if_neg h2, if_pos q2]
      · unfold fM_operatorShape fM_operatorShape_27; rw [if_neg q1, if_pos q2]
    · obtain ⟨j, hj, rfl⟩ := nI_of2 (x := o) (M := 207) (n := 207) rfl (Int32.not_lt.mpr (Int32.le_trans (by decide) (Int32.not_lt.mp q1))) (Int32.not_lt.mp q2)
      have h69 : 69 ≤ j := by
        rcases Nat.lt_or_ge j 69 with w | w
        · exact absurd (nI_lt (b := 69) w (by decide)) q1
        · exact w
      have w := List.all_eq_true.mp op_all j (List.mem_range.mpr (by omega))
      unfold opB at w
      by_cases q3 : fOperators_exists (nI j) = 0
      · rw [if_pos q3] at w
        exact Or.inl ⟨q3, of_decide_eq_true w⟩
      · rw [if_neg q3] at w
        exact Or.inr ⟨j, h69, by omega, rfl, @of_decide_eq_true _ (_) w⟩
theorem fWS (t : Int32) (x : Int64) : fM_withSign t x = fWhole_withSign t x := by
  unfold fM_withSign fWhole_withSign
  split
  · apply Int64.toInt_inj.mp
    rw [bn_s_sar, show ((32 : Int32).toInt % 64).toNat = 32 from rfl, Int32.toInt_toInt64, bn_u_l2i, bn_s_u, bn_u_shl, show ((32 : Int32).toInt % 64).toNat = 32 from rfl]
    have h := bn_u_lt x
    generalize bn_u x = X at *
    have e : X * 2^32 % 2^64 = X % 2^32 * 2^32 := by omega
    rw [e]
    split <;> split <;> omega
  · rfl
theorem isBelow_val (x y : Int64) : fM_isBelow x y = if bn_u x < bn_u y then 1 else 0 := by
  unfold fM_isBelow
  have h1 := bn_flip x
  have h2 := bn_flip y
  by_cases q : bn_u x < bn_u y
  · rw [if_pos q, if_neg]
    rw [Int64.le_iff_toInt_le, h1, h2]; omega
  · rw [if_neg q, if_pos]
    rw [Int64.le_iff_toInt_le, h1, h2]; omega
theorem wt_val (c : Nat) (hc : c < 11) (t : Int32) (x y : Int64) : (if fWhole_test (nI c) t x y = 0 then (0 : Int64) else 1) = if c = 0 then fM_truth (if x = 0 then 1 else 0) else fM_compareWhole (nI c - 1) t x y := by
  unfold fWhole_test fWhole_test_16 fM_compareWhole fM_compareWhole_7
  rw [fWS, fWS]
  generalize fWhole_withSign t x = a
  generalize fWhole_withSign t y = b
  rw [bn_cmp, bn_order]
  have l1 : (b ≤ a) ↔ b.toInt ≤ a.toInt := Int64.le_iff_toInt_le
  have l2 : (a ≤ b) ↔ a.toInt ≤ b.toInt := Int64.le_iff_toInt_le
  have l3 : (a < b) ↔ a.toInt < b.toInt := Int64.lt_iff_toInt_lt
  have l4 : (b < a) ↔ b.toInt < a.toInt := Int64.lt_iff_toInt_lt
  have l5 : (x = y) ↔ bn_u x = bn_u y := bn_u_eq
  unfold fWhole_test_24 fM_compareWhole_15 fM_compareWhole_80 fM_compareWhole_96 fM_compareWhole_113 fM_compareWhole_140 fM_compareWhole_167 fM_compareWhole_185 fM_compareWhole_202 fM_compareWhole_220 fM_truth
  rw [isBelow_val, isBelow_val]
  simp only [l1, l2, l3, l4, l5]
  generalize a.toInt = A
  generalize b.toInt = B
  generalize bn_u x = X
  generalize bn_u y = Y
  rcases (show c = 0 ∨ c = 1 ∨ c = 2 ∨ c = 3 ∨ c = 4 ∨ c = 5 ∨ c = 6 ∨ c = 7 ∨ c = 8 ∨ c = 9 ∨ c = 10 by omega) with rfl | rfl | rfl | rfl | rfl | rfl | rfl | rfl | rfl | rfl | rfl
  · by_cases q : x = 0
    · simp only [if_pos q]; rfl
    · simp only [if_neg q]; rfl
  all_goals
    have t3 : ((A < B) = True ∧ (A = B) = False ∧ (B ≤ A) = False ∧ (A ≤ B) = True ∧ (B < A) = False) ∨ ((A < B) = False ∧ (A = B) = True ∧ (B ≤ A) = True ∧ (A ≤ B) = True ∧ (B < A) = False) ∨ ((A < B) = False ∧ (A = B) = False ∧ (B ≤ A) = True ∧ (A ≤ B) = False ∧ (B < A) = True) := by
      rcases Int.lt_trichotomy A B with w | w | w
      · exact Or.inl ⟨eq_true w, eq_false (by omega), eq_false (by omega), eq_true (by omega), eq_false (by omega)⟩
      · exact Or.inr (Or.inl ⟨eq_false (by omega), eq_true w, eq_true (by omega), eq_true (by omega), eq_false (by omega)⟩)
      · exact Or.inr (Or.inr ⟨eq_false (by omega), eq_false (by omega), eq_true (by omega), eq_false (by omega), eq_true w⟩)
    have t4 : ((X < Y) = True ∧ (X = Y) = False ∧ (Y < X) = False) ∨ ((X < Y) = False ∧ (X = Y) = True ∧ (Y < X) = False) ∨ ((X < Y) = False ∧ (X = Y) = False ∧ (Y < X) = True) := by
      rcases Nat.lt_trichotomy X Y with w | w | w
      · exact Or.inl ⟨eq_true w, eq_false (by omega), eq_false (by omega)⟩
      · exact Or.inr (Or.inl ⟨eq_false (by omega), eq_true w, eq_false (by omega)⟩)
      · exact Or.inr (Or.inr ⟨eq_false (by omega), eq_false (by omega), eq_true w⟩)
    rcases t3 with ⟨a1, a2, a3, a4, a5⟩ | ⟨a1, a2, a3, a4, a5⟩ | ⟨a1, a2, a3, a4, a5⟩ <;> rcases t4 with ⟨b1, b2, b3⟩ | ⟨b1, b2, b3⟩ | ⟨b1, b2, b3⟩ <;> (simp only [a1, a2, a3, a4, a5, b1, b2, b3, if_true, if_false]; rfl)
