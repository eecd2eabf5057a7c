def fm (j : Nat) : Nat := if j < 80 then 0 else if j < 91 then 1 else if j < 97 then 2 else if j < 103 then 3 else if j < 121 then 4 else if j < 139 then 5 else if j < 153 then 6 else if j < 167 then 7 else 8
def fb (j : Nat) : Nat := if j < 80 then 69 else if j < 91 then 80 else if j < 97 then 91 else if j < 103 then 97 else if j < 121 then 103 else if j < 139 then 121 else if j < 153 then 139 else if j < 167 then 153 else 167
def wk1 (j : Nat) : Prop := fOperators_family (nI j) = nI (fm j) ∧ nI j - tb 0 (nI (fm j)).toNatClampNeg = nI (j - fb j) ∧ (j < 167 → fOperators_operandType (nI j) = nI (fm j % 4))
def wk2 (j : Nat) : Prop := (167 ≤ j → fOperators_operandType (nI j) = fM_taken (nI j) ∧ fOperators_resultType (nI j) = fM_given (nI j) ∧ (j ≤ 196 ∨ 200 ≤ j)) ∧ (139 ≤ j ∧ j < 167 → (nI j - 139) - (nI j - 139) / 14 * 14 = nI (j - fb j) ∧ (j - fb j ≤ 6 → fOperators_operands (nI j) = 1)) ∧ (103 ≤ j ∧ j < 139 → (nI j - 103) - (nI j - 103) / 18 * 18 = nI (j - fb j) ∧ fOperators_resultType (nI j) = nI (fm j % 4))
def wkB (j : Nat) : Bool := if fOperators_exists (nI j) = 0 then true else (if j < 69 then true else (@decide (wk1 j) (by unfold wk1; exact inferInstance) && @decide (wk2 j) (by unfold wk2; exact inferInstance)))
theorem wk_all : (List.range 208).all wkB = true := by decide +kernel
theorem wk_tab (j : Nat) (h1 : 69 ≤ j) (h2 : j < 208) (he : fOperators_exists (nI j) = 1) : wk1 j ∧ wk2 j := by
  have w := List.all_eq_true.mp wk_all j (List.mem_range.mpr h2)
  unfold wkB at w
  rw [if_neg (by rw [he]; decide), if_neg (by omega), Bool.and_eq_true] at w
  exact ⟨@of_decide_eq_true _ (_) w.1, @of_decide_eq_true _ (_) w.2⟩
theorem of_tt (k : Nat) : fFormat_of (tt k) = if k = 0 then 0 else 1 := by
  unfold fFormat_of
  by_cases q : k = 0
  · rw [if_pos ((tt_two k).mpr q), if_pos q]
  · rw [if_neg (fun w => q ((tt_two k).mp w)), if_neg q]
def WK (j : Nat) (x y : Int64) (σ : MS) : Prop := SM_worked (nI j) (fOperators_operandType (nI j)) x y σ ∧ kp σ (fM_worked (nI j) (fOperators_operandType (nI j)) x y σ).2 ∧ ms_trap (fM_worked (nI j) (fOperators_operandType (nI j)) x y σ).2 = fOperators_trapOf (nI j) x y ∧ (fOperators_trapOf (nI j) x y = 0 → fM_cut (fOperators_resultType (nI j)) (fM_worked (nI j) (fOperators_operandType (nI j)) x y σ).1 = fM_cut (fOperators_resultType (nI j)) (fOperators_result (nI j) x y))
theorem wk_mk {j : Nat} {x y v : Int64} {σ : MS} (h0 : ms_trap σ = 0) (hS : SM_worked (nI j) (fOperators_operandType (nI j)) x y σ) (e : fM_worked (nI j) (fOperators_operandType (nI j)) x y σ = (v, σ)) (hT : fOperators_trapOf (nI j) x y = 0) (hR : fOperators_result (nI j) x y = v) : WK j x y σ := by
  unfold WK
  rw [e, hT, hR]
  exact ⟨hS, ⟨rfl, rfl, rfl⟩, h0, fun _ => rfl⟩
theorem nIne {j b : Nat} (hj : j < 208) (hb : b < 208) (h : j ≠ b) : ¬ nI j = nI b := fun w => h ((nI_eq (by omega) (by omega)).mp w)
theorem nIge {j b : Nat} (hj : j < 208) (h : b ≤ j) : nI b ≤ nI j := nI_le h (by omega)
theorem nInge {j b : Nat} (hb : b < 208) (h : j < b) : ¬ nI b ≤ nI j := nI_ge h (by omega)
theorem trap_0 {j : Nat} {x y : Int64} (f : Nat) (hf : fOperators_family (nI j) = nI f) (h4 : ¬ nI f = 4) (h5 : ¬ nI f = 5) (h8 : ¬ nI f = 8) : fOperators_trapOf (nI j) x y = 0 := by
  unfold fOperators_trapOf fOperators_trapOf_6 fOperators_trapOf_12 fOperators_trapOf_76
  rw [hf, if_neg h4, if_neg h5, if_neg h8]
theorem wk_w01 (j : Nat) (h1 : 69 ≤ j) (h2 : j < 91) (hw : wk1 j) (x y : Int64) (σ : MS) (h0 : ms_trap σ = 0) : WK j x y σ := by
  obtain ⟨w1, w2, w3⟩ := hw
  have hf : (fm j = 0 ∧ fb j = 69 ∧ j < 80) ∨ (fm j = 1 ∧ fb j = 80 ∧ 80 ≤ j) := by
    unfold fm fb
    by_cases q : j < 80
    · rw [if_pos q, if_pos q]; exact Or.inl ⟨rfl, rfl, q⟩
    · rw [if_neg q, if_neg q, if_pos h2, if_pos h2]; exact Or.inr ⟨rfl, rfl, Nat.not_lt.mp q⟩
  have hc : j - fb j < 11 := by omega
  have hv := wt_val (j - fb j) hc (fOperators_operandType (nI j)) x y
  refine wk_mk (v := if fWhole_test (nI (j - fb j)) (fOperators_operandType (nI j)) x y = 0 then 0 else 1) h0 ?_ ?_ ?_ ?_
  · unfold SM_worked SM_worked_12 SM_worked_23 SM_worked_50
    rw [if_neg (show ¬ (91 : Int32) ≤ nI j from nInge (b := 91) (by decide) h2)]
    simp only [ite_self]
  · rw [hv]
    unfold fM_worked fM_worked_12 fM_worked_23 fM_worked_50
    rw [if_neg (show ¬ (91 : Int32) ≤ nI j from nInge (b := 91) (by decide) h2)]
    by_cases q : j - fb j = 0
    · rw [if_pos q]
      rcases hf with ⟨f1, f2, f3⟩ | ⟨f1, f2, f3⟩
      · rw [if_pos (show nI j = 69 from by rw [show j = 69 by omega]; rfl)]
        split <;> rfl
      · rw [if_neg (show ¬ nI j = 69 from nIne (b := 69) (by omega) (by decide) (by omega)), if_pos (show nI j = 80 from by rw [show j = 80 by omega]; rfl)]
        split <;> rfl
    · rw [if_neg q, if_neg (show ¬ nI j = 69 from nIne (b := 69) (by omega) (by decide) (by omega)), if_neg (show ¬ nI j = 80 from nIne (b := 80) (by omega) (by decide) (by omega))]
      rcases hf with ⟨f1, f2, f3⟩ | ⟨f1, f2, f3⟩
      · rw [if_neg (show ¬ (80 : Int32) ≤ nI j from nInge (b := 80) (by decide) f3), show nI j - 70 = nI (j - fb j) - 1 from by
          rw [f2, show nI j - 70 = nI (j - 70) from nI_sub (b := 70) (by omega), show nI (j - 69) - 1 = nI (j - 69 - 1) from nI_sub (b := 1) (by omega), show j - 69 - 1 = j - 70 by omega]]
      · rw [if_pos (show (80 : Int32) ≤ nI j from nIge (b := 80) (by omega) f3), show nI j - 81 = nI (j - fb j) - 1 from by
          rw [f2, show nI j - 81 = nI (j - 81) from nI_sub (b := 81) (by omega), show nI (j - 80) - 1 = nI (j - 80 - 1) from nI_sub (b := 1) (by omega), show j - 80 - 1 = j - 81 by omega]]
  · rcases hf with ⟨f1, f2, f3⟩ | ⟨f1, f2, f3⟩
    · rw [f1] at w1; exact trap_0 0 w1 (by decide) (by decide) (by decide)
    · rw [f1] at w1; exact trap_0 1 w1 (by decide) (by decide) (by decide)
  · unfold fOperators_result fOperators_result_6 fOperators_result_16 fOperators_result_22
    rw [w1, w2]
    rcases hf with ⟨f1, f2, f3⟩ | ⟨f1, f2, f3⟩
    · rw [f1, if_pos (show nI 0 = 0 from rfl)]
    · rw [f1, if_neg (show ¬ nI 1 = 0 by decide), if_pos (show nI 1 = 1 from rfl)]
theorem wk_w23 (j : Nat) (h1 : 91 ≤ j) (h2 : j < 103) (hw : wk1 j) (x y : Int64) (hx : bok (fOperators_operandType (nI j)) x) (hy : bok (fOperators_operandType (nI j)) y) (σ : MS) (h0 : ms_trap σ = 0) : WK j x y σ := by
  obtain ⟨w1, w2, w3⟩ := hw
  obtain ⟨k, hk, hk1, f1, f2, hb⟩ : ∃ k, (k = 0 ∨ k = 1) ∧ nI (fm j % 4) = tt k ∧ (fm j = 2 + k) ∧ (fb j = 91 + 6 * k) ∧ ((k = 0 ∧ j < 97) ∨ (k = 1 ∧ 97 ≤ j)) := by
    unfold fm fb
    by_cases q : j < 97
    · refine ⟨0, Or.inl rfl, ?_, ?_, ?_, Or.inl ⟨rfl, q⟩⟩
      all_goals rw [if_neg (by omega), if_neg (by omega), if_pos q]
      rfl
    · refine ⟨1, Or.inr rfl, ?_, ?_, ?_, Or.inr ⟨rfl, Nat.not_lt.mp q⟩⟩
      all_goals rw [if_neg (by omega), if_neg (by omega), if_neg q, if_pos h2]
      rfl
  have ht : fOperators_operandType (nI j) = tt k := by rw [w3 (by omega), hk1]
  rw [ht] at hx hy
  have hc : j - fb j < 6 := by omega
  have hv := cf_val (j - fb j) hc k x y (ok_of hx) (ok_of hy)
  refine wk_mk (v := if fFloating_test (nI (j - fb j)) k x y = 0 then 0 else 1) h0 ?_ ?_ ?_ ?_
  · unfold SM_worked SM_worked_81
    rw [if_neg (show ¬ nI j = 69 from nIne (b := 69) (by omega) (by decide) (by omega)), if_neg (show ¬ nI j = 80 from nIne (b := 80) (by omega) (by decide) (by omega)), if_pos (show (91 : Int32) ≤ nI j from nIge (b := 91) (by omega) h1), if_neg (show ¬ (103 : Int32) ≤ nI j from nInge (b := 103) (by decide) h2)]
    simp only [ite_self]
  · rw [hv, ht]
    unfold fM_worked fM_worked_81
    rw [if_neg (show ¬ nI j = 69 from nIne (b := 69) (by omega) (by decide) (by omega)), if_neg (show ¬ nI j = 80 from nIne (b := 80) (by omega) (by decide) (by omega)), if_pos (show (91 : Int32) ≤ nI j from nIge (b := 91) (by omega) h1), if_neg (show ¬ (103 : Int32) ≤ nI j from nInge (b := 103) (by decide) h2)]
    rcases hb with ⟨rfl, b⟩ | ⟨rfl, b⟩
    · rw [if_neg (show ¬ (97 : Int32) ≤ nI j from nInge (b := 97) (by decide) b), f2, show nI j - 91 = nI (j - 91) from nI_sub (b := 91) h1]
    · rw [if_pos (show (97 : Int32) ≤ nI j from nIge (b := 97) (by omega) b), f2, show nI j - 97 = nI (j - 97) from nI_sub (b := 97) b]
  · rcases hb with ⟨rfl, b⟩ | ⟨rfl, b⟩
    · rw [f1] at w1; exact trap_0 2 w1 (by decide) (by decide) (by decide)
    · rw [f1] at w1; exact trap_0 3 w1 (by decide) (by decide) (by decide)
  · unfold fOperators_result fOperators_result_6 fOperators_result_16 fOperators_result_22
    rw [w1, w2, ht, of_tt]
    rcases hb with ⟨rfl, b⟩ | ⟨rfl, b⟩
    · rw [f1, if_neg (show ¬ nI (2 + 0) = 0 by decide), if_neg (show ¬ nI (2 + 0) = 1 by decide), if_pos (show nI (2 + 0) = 2 from rfl)]; rfl
    · rw [f1, if_neg (show ¬ nI (2 + 1) = 0 by decide), if_neg (show ¬ nI (2 + 1) = 1 by decide), if_neg (show ¬ nI (2 + 1) = 2 by decide), if_pos (show nI (2 + 1) = 3 from rfl)]; rfl
theorem wk_w45 (j : Nat) (h1 : 103 ≤ j) (h2 : j < 139) (hw : wk1 j) (hw2 : wk2 j) (x y : Int64) (hx : bok (fOperators_operandType (nI j)) x) (hy : bok (fOperators_operandType (nI j)) y) (σ : MS) (h0 : ms_trap σ = 0) : WK j x y σ := by
  obtain ⟨w1, w2, w3⟩ := hw
  obtain ⟨_, _, v3⟩ := hw2
  obtain ⟨v4, v5⟩ := v3 ⟨h1, h2⟩
  obtain ⟨hc, hf⟩ : j - fb j < 18 ∧ (fm j = 4 ∨ fm j = 5) := by
    unfold fm fb
    by_cases q : j < 121
    · rw [if_neg (by omega), if_neg (by omega), if_neg (by omega), if_neg (by omega), if_pos q, if_neg (by omega), if_neg (by omega), if_neg (by omega), if_neg (by omega), if_pos q]
      exact ⟨by omega, Or.inl rfl⟩
    · rw [if_neg (by omega), if_neg (by omega), if_neg (by omega), if_neg (by omega), if_neg q, if_pos h2, if_neg (by omega), if_neg (by omega), if_neg (by omega), if_neg (by omega), if_neg q, if_pos h2]
      exact ⟨by omega, Or.inr rfl⟩
  have ht := w3 (by omega)
  have ht2 : fOperators_operandType (nI j) = 0 ∨ fOperators_operandType (nI j) = 1 := by
    rw [ht]
    rcases hf with f | f <;> rw [f]
    · exact Or.inl rfl
    · exact Or.inr rfl
  have hrt : fOperators_resultType (nI j) = fOperators_operandType (nI j) := by rw [v5, ht]
  obtain ⟨a1, a2, a3⟩ := whole_val (j - fb j) hc ht2 hx hy h0
  have eM : fM_worked (nI j) (fOperators_operandType (nI j)) x y σ = ((fM_whole (nI (j - fb j)) (fOperators_operandType (nI j)) x y σ).1, (fM_whole (nI (j - fb j)) (fOperators_operandType (nI j)) x y σ).2) := by
    unfold fM_worked
    rw [if_neg (show ¬ nI j = 69 from nIne (b := 69) (by omega) (by decide) (by omega)), if_neg (show ¬ nI j = 80 from nIne (b := 80) (by omega) (by decide) (by omega)), if_pos (show (91 : Int32) ≤ nI j from nIge (b := 91) (by omega) (by omega)), if_pos (show (103 : Int32) ≤ nI j from nIge (b := 103) (by omega) h1), if_neg (show ¬ (139 : Int32) ≤ nI j from nInge (b := 139) (by decide) h2), v4]
  have eT : fOperators_trapOf (nI j) x y = fWhole_trapOf (nI (j - fb j)) (fOperators_operandType (nI j)) x y := by
    unfold fOperators_trapOf fOperators_trapOf_6 fOperators_trapOf_12 fOperators_trapOf_24
    rw [w1, w2]
    rcases hf with f | f <;> rw [f]
    · rw [if_pos (show nI 4 = 4 from rfl)]
    · rw [if_neg (show ¬ nI 5 = 4 by decide), if_pos (show nI 5 = 5 from rfl)]
  have eR : fOperators_result (nI j) x y = fWhole_result (nI (j - fb j)) (fOperators_operandType (nI j)) x y := by
    unfold fOperators_result fOperators_result_6 fOperators_result_16 fOperators_result_22
    rw [w1, w2]
    rcases hf with f | f <;> rw [f]
    · rw [if_neg (show ¬ nI 4 = 0 by decide), if_neg (show ¬ nI 4 = 1 by decide), if_neg (show ¬ nI 4 = 2 by decide), if_neg (show ¬ nI 4 = 3 by decide), if_pos (show nI 4 = 4 from rfl)]
    · rw [if_neg (show ¬ nI 5 = 0 by decide), if_neg (show ¬ nI 5 = 1 by decide), if_neg (show ¬ nI 5 = 2 by decide), if_neg (show ¬ nI 5 = 3 by decide), if_neg (show ¬ nI 5 = 4 by decide), if_pos (show nI 5 = 5 from rfl)]
  unfold WK
  rw [eM, eT, eR, hrt]
  refine ⟨?_, a1, a2, a3⟩
  unfold SM_worked
  rw [if_neg (show ¬ nI j = 69 from nIne (b := 69) (by omega) (by decide) (by omega)), if_neg (show ¬ nI j = 80 from nIne (b := 80) (by omega) (by decide) (by omega)), if_pos (show (91 : Int32) ≤ nI j from nIge (b := 91) (by omega) (by omega)), if_pos (show (103 : Int32) ≤ nI j from nIge (b := 103) (by omega) h1), if_neg (show ¬ (139 : Int32) ≤ nI j from nInge (b := 139) (by decide) h2)]
  exact ⟨ws0 ht2 hy, trivial⟩
theorem wk_w67 (j : Nat) (h1 : 139 ≤ j) (h2 : j < 167) (hw : wk1 j) (hw2 : wk2 j) (x y : Int64) (hx : bok (fOperators_operandType (nI j)) x) (hy : bok (fOperators_operandType (nI j)) y) (hxy : fOperators_operands (nI j) = 1 → y = x) (σ : MS) (h0 : ms_trap σ = 0) : WK j x y σ := by
  obtain ⟨w1, w2, w3⟩ := hw
  obtain ⟨_, v3, _⟩ := hw2
  obtain ⟨v4, v5⟩ := v3 ⟨h1, h2⟩
  obtain ⟨k, hk, hk1, f1, hc⟩ : ∃ k, (k = 0 ∨ k = 1) ∧ nI (fm j % 4) = tt k ∧ (fm j = 6 + k) ∧ j - fb j < 14 := by
    unfold fm fb
    by_cases q : j < 153
    · rw [if_neg (by omega), if_neg (by omega), if_neg (by omega), if_neg (by omega), if_neg (by omega), if_neg (by omega), if_pos q, if_neg (by omega), if_neg (by omega), if_neg (by omega), if_neg (by omega), if_neg (by omega), if_neg (by omega), if_pos q]
      exact ⟨0, Or.inl rfl, rfl, rfl, by omega⟩
    · rw [if_neg (by omega), if_neg (by omega), if_neg (by omega), if_neg (by omega), if_neg (by omega), if_neg (by omega), if_neg q, if_pos h2, if_neg (by omega), if_neg (by omega), if_neg (by omega), if_neg (by omega), if_neg (by omega), if_neg (by omega), if_neg q, if_pos h2]
      exact ⟨1, Or.inr rfl, rfl, rfl, by omega⟩
  have ht : fOperators_operandType (nI j) = tt k := by rw [w3 h2, hk1]
  rw [ht] at hx hy
  obtain ⟨a1, a2, a3⟩ := m_floating (j - fb j) hc k x y (ok_of hx) (ok_of hy) (fun h => hxy (v5 h)) σ
  have eM : fM_worked (nI j) (tt k) x y σ = ((fM_floating (nI (j - fb j)) (tt k) x y σ).1, (fM_floating (nI (j - fb j)) (tt k) x y σ).2) := by
    unfold fM_worked
    rw [if_neg (show ¬ nI j = 69 from nIne (b := 69) (by omega) (by decide) (by omega)), if_neg (show ¬ nI j = 80 from nIne (b := 80) (by omega) (by decide) (by omega)), if_pos (show (91 : Int32) ≤ nI j from nIge (b := 91) (by omega) (by omega)), if_pos (show (103 : Int32) ≤ nI j from nIge (b := 103) (by omega) (by omega)), if_pos (show (139 : Int32) ≤ nI j from nIge (b := 139) (by omega) h1), if_neg (show ¬ (167 : Int32) ≤ nI j from nInge (b := 167) (by decide) h2), v4]
  have eT : fOperators_trapOf (nI j) x y = 0 := by
    rcases hk with rfl | rfl
    · rw [f1] at w1; exact trap_0 6 w1 (by decide) (by decide) (by decide)
    · rw [f1] at w1; exact trap_0 7 w1 (by decide) (by decide) (by decide)
  have eR : fOperators_result (nI j) x y = fFloating_result (nI (j - fb j)) k x y := by
    unfold fOperators_result fOperators_result_6 fOperators_result_16 fOperators_result_22
    rw [w1, w2, ht, of_tt]
    rcases hk with rfl | rfl
    · rw [f1, if_neg (show ¬ nI (6 + 0) = 0 by decide), if_neg (show ¬ nI (6 + 0) = 1 by decide), if_neg (show ¬ nI (6 + 0) = 2 by decide), if_neg (show ¬ nI (6 + 0) = 3 by decide), if_neg (show ¬ nI (6 + 0) = 4 by decide), if_neg (show ¬ nI (6 + 0) = 5 by decide), if_pos (show nI (6 + 0) = 6 from rfl)]; rfl
    · rw [f1, if_neg (show ¬ nI (6 + 1) = 0 by decide), if_neg (show ¬ nI (6 + 1) = 1 by decide), if_neg (show ¬ nI (6 + 1) = 2 by decide), if_neg (show ¬ nI (6 + 1) = 3 by decide), if_neg (show ¬ nI (6 + 1) = 4 by decide), if_neg (show ¬ nI (6 + 1) = 5 by decide), if_neg (show ¬ nI (6 + 1) = 6 by decide), if_pos (show nI (6 + 1) = 7 from rfl)]; rfl
  unfold WK
  rw [ht, eM, eT, eR]
  refine ⟨?_, a3.1, by show ms_trap (fM_floating (nI (j - fb j)) (tt k) x y σ).2 = 0; rw [a3.2, h0], fun _ => ?_⟩
  · unfold SM_worked
    rw [if_neg (show ¬ nI j = 69 from nIne (b := 69) (by omega) (by decide) (by omega)), if_neg (show ¬ nI j = 80 from nIne (b := 80) (by omega) (by decide) (by omega)), if_pos (show (91 : Int32) ≤ nI j from nIge (b := 91) (by omega) (by omega)), if_pos (show (103 : Int32) ≤ nI j from nIge (b := 103) (by omega) (by omega)), if_pos (show (139 : Int32) ≤ nI j from nIge (b := 139) (by omega) h1), if_neg (show ¬ (167 : Int32) ≤ nI j from nInge (b := 167) (by decide) h2), v4]
    exact ⟨a1, trivial⟩
  · show fM_cut (fOperators_resultType (nI j)) (fM_floating (nI (j - fb j)) (tt k) x y σ).1 = _
    rw [a2]
theorem wk_w8 (j : Nat) (h1 : 167 ≤ j) (h2 : j < 208) (hw : wk1 j) (hw2 : wk2 j) (x y : Int64) (hx : bok (fOperators_operandType (nI j)) x) (σ : MS) (h0 : ms_trap σ = 0) : WK j x y σ := by
  obtain ⟨w1, w2, w3⟩ := hw
  obtain ⟨v1, _, _⟩ := hw2
  obtain ⟨ht, hrt, hj⟩ := v1 h1
  have hf : fm j = 8 := by
    unfold fm
    rw [if_neg (by omega), if_neg (by omega), if_neg (by omega), if_neg (by omega), if_neg (by omega), if_neg (by omega), if_neg (by omega), if_neg (by omega)]
  rw [ht] at hx
  obtain ⟨a1, a2, a3, a4⟩ := cv_all j (by omega) x hx σ h0
  have eM : fM_worked (nI j) (fM_taken (nI j)) x y σ = ((fM_convert (nI j) x σ).1, (fM_convert (nI j) x σ).2) := by
    unfold fM_worked
    rw [if_neg (show ¬ nI j = 69 from nIne (b := 69) (by omega) (by decide) (by omega)), if_neg (show ¬ nI j = 80 from nIne (b := 80) (by omega) (by decide) (by omega)), if_pos (show (91 : Int32) ≤ nI j from nIge (b := 91) (by omega) (by omega)), if_pos (show (103 : Int32) ≤ nI j from nIge (b := 103) (by omega) (by omega)), if_pos (show (139 : Int32) ≤ nI j from nIge (b := 139) (by omega) (by omega)), if_pos (show (167 : Int32) ≤ nI j from nIge (b := 167) (by omega) h1)]
  have eT : fOperators_trapOf (nI j) x y = CT j x := by
    unfold fOperators_trapOf fOperators_trapOf_6 fOperators_trapOf_12 fOperators_trapOf_76 CT
    rw [w1, hf, if_neg (show ¬ nI 8 = 4 by decide), if_neg (show ¬ nI 8 = 5 by decide), if_pos (show nI 8 = 8 from rfl), ht, hrt]
  have eR : fOperators_result (nI j) x y = CR j x := by
    unfold fOperators_result fOperators_result_6 fOperators_result_16 fOperators_result_22 CR
    rw [w1, hf, if_neg (show ¬ nI 8 = 0 by decide), if_neg (show ¬ nI 8 = 1 by decide), if_neg (show ¬ nI 8 = 2 by decide), if_neg (show ¬ nI 8 = 3 by decide), if_neg (show ¬ nI 8 = 4 by decide), if_neg (show ¬ nI 8 = 5 by decide), if_neg (show ¬ nI 8 = 6 by decide), if_neg (show ¬ nI 8 = 7 by decide), ht, hrt]
  unfold WK
  rw [ht, eM, eT, eR]
  refine ⟨?_, a2, a3, fun h => ?_⟩
  · unfold SM_worked
    rw [if_neg (show ¬ nI j = 69 from nIne (b := 69) (by omega) (by decide) (by omega)), if_neg (show ¬ nI j = 80 from nIne (b := 80) (by omega) (by decide) (by omega)), if_pos (show (91 : Int32) ≤ nI j from nIge (b := 91) (by omega) (by omega)), if_pos (show (103 : Int32) ≤ nI j from nIge (b := 103) (by omega) (by omega)), if_pos (show (139 : Int32) ≤ nI j from nIge (b := 139) (by omega) (by omega)), if_pos (show (167 : Int32) ≤ nI j from nIge (b := 167) (by omega) h1)]
    exact ⟨a1, trivial⟩
  · show fM_cut (fOperators_resultType (nI j)) (fM_convert (nI j) x σ).1 = _
    rw [a4 h]
theorem worked_val (j : Nat) (h1 : 69 ≤ j) (h2 : j < 208) (he : fOperators_exists (nI j) = 1) (x y : Int64) (hx : bok (fOperators_operandType (nI j)) x) (hy : bok (fOperators_operandType (nI j)) y) (hxy : fOperators_operands (nI j) = 1 → y = x) (σ : MS) (h0 : ms_trap σ = 0) : WK j x y σ := by
  obtain ⟨t1, t2⟩ := wk_tab j h1 h2 he
  rcases Nat.lt_or_ge j 91 with q1 | q1
  · exact wk_w01 j h1 q1 t1 x y σ h0
  · rcases Nat.lt_or_ge j 103 with q2 | q2
    · exact wk_w23 j q1 q2 t1 x y hx hy σ h0
    · rcases Nat.lt_or_ge j 139 with q3 | q3
      · exact wk_w45 j q2 q3 t1 t2 x y hx hy σ h0
      · rcases Nat.lt_or_ge j 167 with q4 | q4
        · exact wk_w67 j q3 q4 t1 t2 x y hx hy hxy σ h0
        · exact wk_w8 j q4 h2 t1 t2 x y hx σ h0
