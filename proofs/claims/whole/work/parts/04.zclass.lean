theorem pw_zi {c : Prop} [Decidable c] {a b : Int32} (h1 : a = 0 ∨ a = 1) (h2 : b = 0 ∨ b = 1) : (if c then a else b) = 0 ∨ (if c then a else b) = 1 := by
  split <;> assumption
theorem zOperators_exists_34  : fOperators_exists_34 = 0 ∨ fOperators_exists_34 = 1 := by
  unfold fOperators_exists_34
  repeat' (with_reducible refine pw_zi ?_ ?_)
  all_goals first | exact Or.inl rfl | exact Or.inr rfl | assumption

theorem zOperators_exists_30  : fOperators_exists_30 = 0 ∨ fOperators_exists_30 = 1 := by
  unfold fOperators_exists_30
  repeat' (with_reducible refine pw_zi ?_ ?_)
  all_goals first | exact Or.inl rfl | exact Or.inr rfl | assumption | (apply zOperators_exists_34 <;> first | exact Or.inl rfl | exact Or.inr rfl | assumption)

theorem zOperators_exists_16 (a0 : Int32) : fOperators_exists_16 a0 = 0 ∨ fOperators_exists_16 a0 = 1 := by
  unfold fOperators_exists_16
  repeat' (with_reducible refine pw_zi ?_ ?_)
  all_goals first | exact Or.inl rfl | exact Or.inr rfl | assumption | (apply zOperators_exists_30 <;> first | exact Or.inl rfl | exact Or.inr rfl | assumption) | (apply zOperators_exists_34 <;> first | exact Or.inl rfl | exact Or.inr rfl | assumption)

theorem zOperators_exists (a0 : Int32) : fOperators_exists a0 = 0 ∨ fOperators_exists a0 = 1 := by
  unfold fOperators_exists
  repeat' (with_reducible refine pw_zi ?_ ?_)
  all_goals first | exact Or.inl rfl | exact Or.inr rfl | assumption | (apply zOperators_exists_16 <;> first | exact Or.inl rfl | exact Or.inr rfl | assumption) | (apply zOperators_exists_30 <;> first | exact Or.inl rfl | exact Or.inr rfl | assumption) | (apply zOperators_exists_34 <;> first | exact Or.inl rfl | exact Or.inr rfl | assumption)

theorem zConversions_isTowardsZero_35  : fConversions_isTowardsZero_35 = 0 ∨ fConversions_isTowardsZero_35 = 1 := by
  unfold fConversions_isTowardsZero_35
  repeat' (with_reducible refine pw_zi ?_ ?_)
  all_goals first | exact Or.inl rfl | exact Or.inr rfl | assumption

theorem zConversions_isTowardsZero_28 (a0 : Int32) : fConversions_isTowardsZero_28 a0 = 0 ∨ fConversions_isTowardsZero_28 a0 = 1 := by
  unfold fConversions_isTowardsZero_28
  repeat' (with_reducible refine pw_zi ?_ ?_)
  all_goals first | exact Or.inl rfl | exact Or.inr rfl | assumption | (apply zConversions_isTowardsZero_35 <;> first | exact Or.inl rfl | exact Or.inr rfl | assumption)

theorem zConversions_isTowardsZero_14 (a0 : Int32) : fConversions_isTowardsZero_14 a0 = 0 ∨ fConversions_isTowardsZero_14 a0 = 1 := by
  unfold fConversions_isTowardsZero_14
  repeat' (with_reducible refine pw_zi ?_ ?_)
  all_goals first | exact Or.inl rfl | exact Or.inr rfl | assumption | (apply zConversions_isTowardsZero_28 <;> first | exact Or.inl rfl | exact Or.inr rfl | assumption) | (apply zConversions_isTowardsZero_35 <;> first | exact Or.inl rfl | exact Or.inr rfl | assumption)

theorem zConversions_isTowardsZero (a0 : Int32) : fConversions_isTowardsZero a0 = 0 ∨ fConversions_isTowardsZero a0 = 1 := by
  unfold fConversions_isTowardsZero
  repeat' (with_reducible refine pw_zi ?_ ?_)
  all_goals first | exact Or.inl rfl | exact Or.inr rfl | assumption | (apply zConversions_isTowardsZero_14 <;> first | exact Or.inl rfl | exact Or.inr rfl | assumption) | (apply zConversions_isTowardsZero_28 <;> first | exact Or.inl rfl | exact Or.inr rfl | assumption) | (apply zConversions_isTowardsZero_35 <;> first | exact Or.inl rfl | exact Or.inr rfl | assumption)

theorem zFormat_isNone (a0 : Nat) (a1 : Int64) : fFormat_isNone a0 a1 = 0 ∨ fFormat_isNone a0 a1 = 1 := by
  unfold fFormat_isNone
  repeat' (with_reducible refine pw_zi ?_ ?_)
  all_goals first | exact Or.inl rfl | exact Or.inr rfl | assumption

theorem zConversions_isSigned_38 (a1 : Int32) (hz1 : a1 = 0 ∨ a1 = 1) : fConversions_isSigned_38 a1 = 0 ∨ fConversions_isSigned_38 a1 = 1 := by
  unfold fConversions_isSigned_38
  repeat' (with_reducible refine pw_zi ?_ ?_)
  all_goals first | exact Or.inl rfl | exact Or.inr rfl | assumption

theorem zConversions_isSigned_11 (a0 : Int32) (s0 : Int32) (hzs0 : s0 = 0 ∨ s0 = 1) : fConversions_isSigned_11 a0 s0 = 0 ∨ fConversions_isSigned_11 a0 s0 = 1 := by
  unfold fConversions_isSigned_11
  repeat' (with_reducible refine pw_zi ?_ ?_)
  all_goals first | exact Or.inl rfl | exact Or.inr rfl | assumption | (apply zConversions_isSigned_38 <;> first | exact Or.inl rfl | exact Or.inr rfl | assumption)

theorem zConversions_isSigned (a0 : Int32) : fConversions_isSigned a0 = 0 ∨ fConversions_isSigned a0 = 1 := by
  unfold fConversions_isSigned
  repeat' (with_reducible refine pw_zi ?_ ?_)
  all_goals first | exact Or.inl rfl | exact Or.inr rfl | assumption | (apply zConversions_isSigned_11 <;> first | exact Or.inl rfl | exact Or.inr rfl | assumption) | (apply zConversions_isSigned_38 <;> first | exact Or.inl rfl | exact Or.inr rfl | assumption)

theorem zFormat_isNegative (a0 : Nat) (a1 : Int64) : fFormat_isNegative a0 a1 = 0 ∨ fFormat_isNegative a0 a1 = 1 := by
  unfold fFormat_isNegative
  repeat' (with_reducible refine pw_zi ?_ ?_)
  all_goals first | exact Or.inl rfl | exact Or.inr rfl | assumption

theorem zConversions_fits_14 (a3 : Int64) (a5 : Int64) (a7 : Int32) : fConversions_fits_14 a3 a5 a7 = 0 ∨ fConversions_fits_14 a3 a5 a7 = 1 := by
  unfold fConversions_fits_14
  repeat' (with_reducible refine pw_zi ?_ ?_)
  all_goals first | exact Or.inl rfl | exact Or.inr rfl | assumption

theorem zConversions_fits_7 (a0 : Nat) (a1 : Int64) (a3 : Int64) (a5 : Int64) : fConversions_fits_7 a0 a1 a3 a5 = 0 ∨ fConversions_fits_7 a0 a1 a3 a5 = 1 := by
  unfold fConversions_fits_7
  repeat' (with_reducible refine pw_zi ?_ ?_)
  all_goals first | exact Or.inl rfl | exact Or.inr rfl | assumption | (apply zConversions_fits_14 <;> first | exact Or.inl rfl | exact Or.inr rfl | assumption)

theorem zConversions_fits (a0 : Nat) (a1 : Int64) (a3 : Int64) : fConversions_fits a0 a1 a3 = 0 ∨ fConversions_fits a0 a1 a3 = 1 := by
  unfold fConversions_fits
  repeat' (with_reducible refine pw_zi ?_ ?_)
  all_goals first | exact Or.inl rfl | exact Or.inr rfl | assumption | (apply zConversions_fits_7 <;> first | exact Or.inl rfl | exact Or.inr rfl | assumption) | (apply zConversions_fits_14 <;> first | exact Or.inl rfl | exact Or.inr rfl | assumption)

theorem zWhole_test_24 (a0 : Int32) (a2 : Int64) (a4 : Int64) (a6 : Int32) (a7 : Int32) : fWhole_test_24 a0 a2 a4 a6 a7 = 0 ∨ fWhole_test_24 a0 a2 a4 a6 a7 = 1 := by
  unfold fWhole_test_24
  repeat' (with_reducible refine pw_zi ?_ ?_)
  all_goals first | exact Or.inl rfl | exact Or.inr rfl | assumption

theorem zWhole_test_16 (a0 : Int32) (a2 : Int64) (a4 : Int64) (a6 : Int32) : fWhole_test_16 a0 a2 a4 a6 = 0 ∨ fWhole_test_16 a0 a2 a4 a6 = 1 := by
  unfold fWhole_test_16
  repeat' (with_reducible refine pw_zi ?_ ?_)
  all_goals first | exact Or.inl rfl | exact Or.inr rfl | assumption | (apply zWhole_test_24 <;> first | exact Or.inl rfl | exact Or.inr rfl | assumption)

theorem zWhole_test (a0 : Int32) (a1 : Int32) (a2 : Int64) (a4 : Int64) : fWhole_test a0 a1 a2 a4 = 0 ∨ fWhole_test a0 a1 a2 a4 = 1 := by
  unfold fWhole_test
  repeat' (with_reducible refine pw_zi ?_ ?_)
  all_goals first | exact Or.inl rfl | exact Or.inr rfl | assumption | (apply zWhole_test_16 <;> first | exact Or.inl rfl | exact Or.inr rfl | assumption) | (apply zWhole_test_24 <;> first | exact Or.inl rfl | exact Or.inr rfl | assumption)

theorem zFloating_test_44 (a0 : Int32) (a6 : Int32) : fFloating_test_44 a0 a6 = 0 ∨ fFloating_test_44 a0 a6 = 1 := by
  unfold fFloating_test_44
  repeat' (with_reducible refine pw_zi ?_ ?_)
  all_goals first | exact Or.inl rfl | exact Or.inr rfl | assumption | (apply zFormat_isNone <;> first | exact Or.inl rfl | exact Or.inr rfl | assumption)

theorem zFloating_test_17 (a0 : Int32) : fFloating_test_17 a0 = 0 ∨ fFloating_test_17 a0 = 1 := by
  unfold fFloating_test_17
  repeat' (with_reducible refine pw_zi ?_ ?_)
  all_goals first | exact Or.inl rfl | exact Or.inr rfl | assumption | (apply zFloating_test_44 <;> first | exact Or.inl rfl | exact Or.inr rfl | assumption | apply zFormat_isNone) | (apply zFormat_isNone <;> first | exact Or.inl rfl | exact Or.inr rfl | assumption)

theorem zFloating_test (a0 : Int32) (a1 : Nat) (a2 : Int64) (a4 : Int64) : fFloating_test a0 a1 a2 a4 = 0 ∨ fFloating_test a0 a1 a2 a4 = 1 := by
  unfold fFloating_test
  repeat' (with_reducible refine pw_zi ?_ ?_)
  all_goals first | exact Or.inl rfl | exact Or.inr rfl | assumption | (apply zFloating_test_17 <;> first | exact Or.inl rfl | exact Or.inr rfl | assumption | apply zFormat_isNone) | (apply zFloating_test_44 <;> first | exact Or.inl rfl | exact Or.inr rfl | assumption | apply zFormat_isNone) | (apply zFormat_isNone <;> first | exact Or.inl rfl | exact Or.inr rfl | assumption)

theorem zFormat_isZero (a0 : Nat) (a1 : Int64) : fFormat_isZero a0 a1 = 0 ∨ fFormat_isZero a0 a1 = 1 := by
  unfold fFormat_isZero
  repeat' (with_reducible refine pw_zi ?_ ?_)
  all_goals first | exact Or.inl rfl | exact Or.inr rfl | assumption

theorem zFormat_isInfinite (a0 : Nat) (a1 : Int64) : fFormat_isInfinite a0 a1 = 0 ∨ fFormat_isInfinite a0 a1 = 1 := by
  unfold fFormat_isInfinite
  repeat' (with_reducible refine pw_zi ?_ ?_)
  all_goals first | exact Or.inl rfl | exact Or.inr rfl | assumption

