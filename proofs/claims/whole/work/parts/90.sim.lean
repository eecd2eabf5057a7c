def bok (t : Int32) (v : Int64) : Prop := (t = 0 ∨ t = 1 ∨ t = 2 ∨ t = 3) ∧ (t = 0 ∨ t = 2 → bn_u v < 4294967296)
def sim (β : BS) (μ : MS) : Prop := ∃ n : Nat, n ≤ 64 ∧ bs_count β = nI n ∧ ms_count μ = nI n ∧ bs_latestTrap β = ms_trap μ ∧ ∀ i : Nat, i < n → bs_types β i = ms_types μ i ∧ bs_rows β i = ms_values μ i ∧ bok (ms_types μ i) (ms_values μ i)
theorem sim_push {β : BS} {μ : MS} (h : sim β μ) (a : Int32) (b : Int64) : SB_push a b β ∧ SM_push a b μ ∧ (fB_push a b β).1 = (fM_push a b μ).1 ∧ sim (fB_push a b β).2 (fM_push a b μ).2 := by
  sorry
theorem sim_pop {β : BS} {μ : MS} (h : sim β μ) (f : Nat → Int64) : SB_pop β ∧ SM_pop μ ∧ ms_thrown (fM_pop μ).2 = (fL_pop β f).1 ∧ ((fL_pop β f).1 = 0 → (fL_pop β f).2.2 0 = (fM_pop μ).1) ∧ sim (fL_pop β f).2.1 (fM_pop μ).2 := by
  sorry
theorem sim_apply {β : BS} {μ : MS} (h : sim β μ) (a : Int32) (f : Nat → Int64) : SB_apply a β ∧ SM_apply a μ ∧ ms_thrown (fM_apply a μ).2 = (fL_apply a β f).1 ∧ ((fL_apply a β f).1 = 0 → (fL_apply a β f).2.2 0 = (fM_apply a μ).1.toInt64) ∧ sim (fL_apply a β f).2.1 (fM_apply a μ).2 := by
  sorry
theorem sim_trap {β : BS} {μ : MS} (h : sim β μ) : (fB_trap β).1 = (fM_trap μ).1 ∧ sim (fB_trap β).2 (fM_trap μ).2 := by
  sorry
theorem sim_operator {β : BS} {μ : MS} (h : sim β μ) (a b : Int32) : (fB_operator a b β).1 = (fM_operator a b μ).1 ∧ sim (fB_operator a b β).2 (fM_operator a b μ).2 := by
  sorry
theorem sim_type {β : BS} {μ : MS} (h : sim β μ) (a : Int32) : SB_type a β ∧ SM_type a μ ∧ (fB_type a β).1 = (fM_type a μ).1 ∧ sim (fB_type a β).2 (fM_type a μ).2 := by
  sorry
theorem sim_bits {β : BS} {μ : MS} (h : sim β μ) (a : Int32) : SB_bits a β ∧ SM_bits a μ ∧ (fB_bits a β).1 = (fM_bits a μ).1 ∧ sim (fB_bits a β).2 (fM_bits a μ).2 := by
  sorry
theorem sim_parts {β : BS} {μ : MS} (h : sim β μ) (a b : Int32) : SB_parts a b β ∧ SM_parts a b μ ∧ (fB_parts a b β).1 = (fM_parts a b μ).1 ∧ sim (fB_parts a b β).2 (fM_parts a b μ).2 := by
  sorry
theorem sim_copy {β : BS} {μ : MS} (h : sim β μ) (a : Int32) : SB_copy a β ∧ SM_copy a μ ∧ (fB_copy a β).1 = (fM_copy a μ).1 ∧ sim (fB_copy a β).2 (fM_copy a μ).2 := by
  sorry
theorem sim_clear {β : BS} {μ : MS} (h : sim β μ) : (fB_clear β).1 = (fM_clear μ).1 ∧ sim (fB_clear β).2 (fM_clear μ).2 := by
  sorry
theorem sim_0 : sim bs_0 ms_0 := ⟨0, by decide, rfl, rfl, rfl, fun i h => absurd h (Nat.not_lt_zero i)⟩
