def fM_push_23 (σ : MS) : Int32 × MS :=
  ((-1), σ)
def SM_push_23 (σ : MS) : Prop :=
  True
def fM_push (a1 : Int32) (a2 : Int64) (σ : MS) : Int32 × MS :=
  (if a1 < 0 then (fM_push_23 (ms_set_thrown σ 0)) else (if 3 < a1 then (fM_push_23 (ms_set_thrown σ 0)) else (if (ms_count (ms_set_thrown σ 0)) = 64 then (fM_push_23 (ms_set_thrown σ 0)) else (ms_count (ms_set_count (ms_set_values (ms_set_types (ms_set_thrown σ 0) (upd (ms_types (ms_set_thrown σ 0)) (ms_count (ms_set_thrown σ 0)).toNatClampNeg a1)) (vp_updL (ms_values (ms_set_types (ms_set_thrown σ 0) (upd (ms_types (ms_set_thrown σ 0)) (ms_count (ms_set_thrown σ 0)).toNatClampNeg a1))) (ms_count (ms_set_types (ms_set_thrown σ 0) (upd (ms_types (ms_set_thrown σ 0)) (ms_count (ms_set_thrown σ 0)).toNatClampNeg a1))).toNatClampNeg (fM_cut a1 a2))) ((ms_count (ms_set_values (ms_set_types (ms_set_thrown σ 0) (upd (ms_types (ms_set_thrown σ 0)) (ms_count (ms_set_thrown σ 0)).toNatClampNeg a1)) (vp_updL (ms_values (ms_set_types (ms_set_thrown σ 0) (upd (ms_types (ms_set_thrown σ 0)) (ms_count (ms_set_thrown σ 0)).toNatClampNeg a1))) (ms_count (ms_set_types (ms_set_thrown σ 0) (upd (ms_types (ms_set_thrown σ 0)) (ms_count (ms_set_thrown σ 0)).toNatClampNeg a1))).toNatClampNeg (fM_cut a1 a2)))) + 1)), ms_set_count (ms_set_values (ms_set_types (ms_set_thrown σ 0) (upd (ms_types (ms_set_thrown σ 0)) (ms_count (ms_set_thrown σ 0)).toNatClampNeg a1)) (vp_updL (ms_values (ms_set_types (ms_set_thrown σ 0) (upd (ms_types (ms_set_thrown σ 0)) (ms_count (ms_set_thrown σ 0)).toNatClampNeg a1))) (ms_count (ms_set_types (ms_set_thrown σ 0) (upd (ms_types (ms_set_thrown σ 0)) (ms_count (ms_set_thrown σ 0)).toNatClampNeg a1))).toNatClampNeg (fM_cut a1 a2))) ((ms_count (ms_set_values (ms_set_types (ms_set_thrown σ 0) (upd (ms_types (ms_set_thrown σ 0)) (ms_count (ms_set_thrown σ 0)).toNatClampNeg a1)) (vp_updL (ms_values (ms_set_types (ms_set_thrown σ 0) (upd (ms_types (ms_set_thrown σ 0)) (ms_count (ms_set_thrown σ 0)).toNatClampNeg a1))) (ms_count (ms_set_types (ms_set_thrown σ 0) (upd (ms_types (ms_set_thrown σ 0)) (ms_count (ms_set_thrown σ 0)).toNatClampNeg a1))).toNatClampNeg (fM_cut a1 a2)))) + 1)))))
def SM_push (a1 : Int32) (a2 : Int64) (σ : MS) : Prop :=
  (if a1 < 0 then (SM_push_23 (ms_set_thrown σ 0)) else (if 3 < a1 then (SM_push_23 (ms_set_thrown σ 0)) else (if (ms_count (ms_set_thrown σ 0)) = 64 then (SM_push_23 (ms_set_thrown σ 0)) else ((vp_in (ms_count (ms_set_thrown σ 0)) 64) ∧ ((vp_in (ms_count (ms_set_types (ms_set_thrown σ 0) (upd (ms_types (ms_set_thrown σ 0)) (ms_count (ms_set_thrown σ 0)).toNatClampNeg a1))) 64) ∧ True)))))
def fM_pop_13 (s0 : Int32) (σ : MS) : Int64 × MS :=
  (if (ms_count (ms_set_thrown σ s0)) = 0 then (0, ms_set_thrown σ s0) else (ms_values (ms_set_count (ms_set_thrown σ s0) ((ms_count (ms_set_thrown σ s0)) - 1)) (ms_count (ms_set_count (ms_set_thrown σ s0) ((ms_count (ms_set_thrown σ s0)) - 1))).toNatClampNeg, ms_set_count (ms_set_thrown σ s0) ((ms_count (ms_set_thrown σ s0)) - 1)))
def SM_pop_13 (s0 : Int32) (σ : MS) : Prop :=
  (if (ms_count (ms_set_thrown σ s0)) = 0 then True else ((vp_in (ms_count (ms_set_count (ms_set_thrown σ s0) ((ms_count (ms_set_thrown σ s0)) - 1))) 64) ∧ True))
def fM_pop (σ : MS) : Int64 × MS :=
  (if (ms_count σ) = 0 then (fM_pop_13 1 σ) else (fM_pop_13 0 σ))
def SM_pop (σ : MS) : Prop :=
  (if (ms_count σ) = 0 then (SM_pop_13 1 σ) else (SM_pop_13 0 σ))
def fM_apply_166 (a2 : Int32) (a3 : Int32) (a10 : Int64) (s0 : Int32) (σ : MS) : Int32 × MS :=
  (if (ms_trap (ms_set_thrown σ s0)) ≤ 0 then (a2 - a2 / 4 * 4, ms_set_values (ms_set_types (ms_set_count (ms_set_thrown σ s0) (((ms_count (ms_set_thrown σ s0)) - a3) + 1)) (upd (ms_types (ms_set_count (ms_set_thrown σ s0) (((ms_count (ms_set_thrown σ s0)) - a3) + 1))) ((ms_count (ms_set_count (ms_set_thrown σ s0) (((ms_count (ms_set_thrown σ s0)) - a3) + 1))) - 1).toNatClampNeg (a2 - a2 / 4 * 4))) (vp_updL (ms_values (ms_set_types (ms_set_count (ms_set_thrown σ s0) (((ms_count (ms_set_thrown σ s0)) - a3) + 1)) (upd (ms_types (ms_set_count (ms_set_thrown σ s0) (((ms_count (ms_set_thrown σ s0)) - a3) + 1))) ((ms_count (ms_set_count (ms_set_thrown σ s0) (((ms_count (ms_set_thrown σ s0)) - a3) + 1))) - 1).toNatClampNeg (a2 - a2 / 4 * 4)))) ((ms_count (ms_set_types (ms_set_count (ms_set_thrown σ s0) (((ms_count (ms_set_thrown σ s0)) - a3) + 1)) (upd (ms_types (ms_set_count (ms_set_thrown σ s0) (((ms_count (ms_set_thrown σ s0)) - a3) + 1))) ((ms_count (ms_set_count (ms_set_thrown σ s0) (((ms_count (ms_set_thrown σ s0)) - a3) + 1))) - 1).toNatClampNeg (a2 - a2 / 4 * 4)))) - 1).toNatClampNeg (fM_cut (a2 - a2 / 4 * 4) a10))) else (0, ms_set_thrown σ s0))
def SM_apply_166 (a2 : Int32) (a3 : Int32) (a10 : Int64) (s0 : Int32) (σ : MS) : Prop :=
  (if (ms_trap (ms_set_thrown σ s0)) ≤ 0 then ((vp_in ((ms_count (ms_set_count (ms_set_thrown σ s0) (((ms_count (ms_set_thrown σ s0)) - a3) + 1))) - 1) 64) ∧ ((vp_in ((ms_count (ms_set_types (ms_set_count (ms_set_thrown σ s0) (((ms_count (ms_set_thrown σ s0)) - a3) + 1)) (upd (ms_types (ms_set_count (ms_set_thrown σ s0) (((ms_count (ms_set_thrown σ s0)) - a3) + 1))) ((ms_count (ms_set_count (ms_set_thrown σ s0) (((ms_count (ms_set_thrown σ s0)) - a3) + 1))) - 1).toNatClampNeg (a2 - a2 / 4 * 4)))) - 1) 64) ∧ True)) else True)
def fM_apply_153 (a2 : Int32) (a3 : Int32) (a10 : Int64) (σ : MS) : Int32 × MS :=
  (if (ms_trap σ) ≤ 0 then (fM_apply_166 a2 a3 a10 0 σ) else (fM_apply_166 a2 a3 a10 3 σ))
def SM_apply_153 (a2 : Int32) (a3 : Int32) (a10 : Int64) (σ : MS) : Prop :=
  (if (ms_trap σ) ≤ 0 then (SM_apply_166 a2 a3 a10 0 σ) else (SM_apply_166 a2 a3 a10 3 σ))
def fM_apply_151 (a2 : Int32) (a3 : Int32) (s0 : Int64) (σ : MS) : Int32 × MS :=
  (fM_apply_153 a2 a3 s0 σ)
def SM_apply_151 (a2 : Int32) (a3 : Int32) (s0 : Int64) (σ : MS) : Prop :=
  (SM_apply_153 a2 a3 s0 σ)
def fM_apply_140 (a1 : Int32) (a2 : Int32) (a3 : Int32) (a4 : Int32) (a6 : Int64) (a8 : Int64) (σ : MS) : Int32 × MS :=
  (fM_apply_151 a2 a3 ((fM_worked a1 a4 a6 a8 σ).1) ((fM_worked a1 a4 a6 a8 σ).2))
def SM_apply_140 (a1 : Int32) (a2 : Int32) (a3 : Int32) (a4 : Int32) (a6 : Int64) (a8 : Int64) (σ : MS) : Prop :=
  ((SM_worked a1 a4 a6 a8 σ) ∧ (SM_apply_151 a2 a3 ((fM_worked a1 a4 a6 a8 σ).1) ((fM_worked a1 a4 a6 a8 σ).2)))
def fM_apply_127 (a1 : Int32) (a2 : Int32) (a3 : Int32) (a4 : Int32) (a6 : Int64) (σ : MS) : Int32 × MS :=
  (fM_apply_140 a1 a2 a3 a4 a6 (ms_values σ ((ms_count σ) - 1).toNatClampNeg) σ)
def SM_apply_127 (a1 : Int32) (a2 : Int32) (a3 : Int32) (a4 : Int32) (a6 : Int64) (σ : MS) : Prop :=
  ((vp_in ((ms_count σ) - 1) 64) ∧ (SM_apply_140 a1 a2 a3 a4 a6 (ms_values σ ((ms_count σ) - 1).toNatClampNeg) σ))
def fM_apply_104 (a1 : Int32) (a2 : Int32) (a3 : Int32) (a4 : Int32) (a5 : Int32) (s0 : Int32) (σ : MS) : Int32 × MS :=
  (if a5 = 0 then (0, ms_set_thrown σ s0) else (fM_apply_127 a1 a2 a3 a4 (ms_values (ms_set_thrown σ s0) ((ms_count (ms_set_thrown σ s0)) - a3).toNatClampNeg) (ms_set_thrown σ s0)))
def SM_apply_104 (a1 : Int32) (a2 : Int32) (a3 : Int32) (a4 : Int32) (a5 : Int32) (s0 : Int32) (σ : MS) : Prop :=
  (if a5 = 0 then True else ((vp_in ((ms_count (ms_set_thrown σ s0)) - a3) 64) ∧ (SM_apply_127 a1 a2 a3 a4 (ms_values (ms_set_thrown σ s0) ((ms_count (ms_set_thrown σ s0)) - a3).toNatClampNeg) (ms_set_thrown σ s0))))
def fM_apply_91 (a1 : Int32) (a2 : Int32) (a3 : Int32) (a4 : Int32) (s0 : Int32) (σ : MS) : Int32 × MS :=
  (if s0 = 0 then (fM_apply_104 a1 a2 a3 a4 s0 2 σ) else (fM_apply_104 a1 a2 a3 a4 s0 0 σ))
def SM_apply_91 (a1 : Int32) (a2 : Int32) (a3 : Int32) (a4 : Int32) (s0 : Int32) (σ : MS) : Prop :=
  (if s0 = 0 then (SM_apply_104 a1 a2 a3 a4 s0 2 σ) else (SM_apply_104 a1 a2 a3 a4 s0 0 σ))
def fM_apply_90 (a1 : Int32) (a2 : Int32) (a3 : Int32) (a4 : Int32) (σ : MS) : Int32 × MS :=
  (fM_apply_91 a1 a2 a3 a4 0 σ)
def SM_apply_90 (a1 : Int32) (a2 : Int32) (a3 : Int32) (a4 : Int32) (σ : MS) : Prop :=
  (SM_apply_91 a1 a2 a3 a4 0 σ)
def fM_apply_86 (a1 : Int32) (a2 : Int32) (a3 : Int32) (a4 : Int32) (σ : MS) : Int32 × MS :=
  (fM_apply_91 a1 a2 a3 a4 1 σ)
def SM_apply_86 (a1 : Int32) (a2 : Int32) (a3 : Int32) (a4 : Int32) (σ : MS) : Prop :=
  (SM_apply_91 a1 a2 a3 a4 1 σ)
def fM_apply_41 (a1 : Int32) (a2 : Int32) (a3 : Int32) (a4 : Int32) (σ : MS) : Int32 × MS :=
  (if (ms_count σ) < a3 then (fM_apply_90 a1 a2 a3 a4 σ) else (if (ms_types σ ((ms_count σ) - 1).toNatClampNeg) = a4 then (if a3 = 1 then (fM_apply_86 a1 a2 a3 a4 σ) else (if (ms_types σ ((ms_count σ) - 2).toNatClampNeg) = a4 then (fM_apply_86 a1 a2 a3 a4 σ) else (fM_apply_90 a1 a2 a3 a4 σ))) else (fM_apply_90 a1 a2 a3 a4 σ)))
def SM_apply_41 (a1 : Int32) (a2 : Int32) (a3 : Int32) (a4 : Int32) (σ : MS) : Prop :=
  (if (ms_count σ) < a3 then (SM_apply_90 a1 a2 a3 a4 σ) else ((vp_in ((ms_count σ) - 1) 64) ∧ (if (ms_types σ ((ms_count σ) - 1).toNatClampNeg) = a4 then (if a3 = 1 then (SM_apply_86 a1 a2 a3 a4 σ) else ((vp_in ((ms_count σ) - 2) 64) ∧ (if (ms_types σ ((ms_count σ) - 2).toNatClampNeg) = a4 then (SM_apply_86 a1 a2 a3 a4 σ) else (SM_apply_90 a1 a2 a3 a4 σ)))) else (SM_apply_90 a1 a2 a3 a4 σ))))
def fM_apply_34 (a1 : Int32) (a2 : Int32) (a3 : Int32) (σ : MS) : Int32 × MS :=
  (fM_apply_41 a1 a2 a3 ((a2 / 4) - (a2 / 4) / 4 * 4) σ)
def SM_apply_34 (a1 : Int32) (a2 : Int32) (a3 : Int32) (σ : MS) : Prop :=
  (SM_apply_41 a1 a2 a3 ((a2 / 4) - (a2 / 4) / 4 * 4) σ)
def fM_apply_20 (a1 : Int32) (a2 : Int32) (s0 : Int32) (σ : MS) : Int32 × MS :=
  (if 0 ≤ a2 then (fM_apply_34 a1 a2 (a2 / 16) (ms_set_thrown σ s0)) else (0, ms_set_thrown σ s0))
def SM_apply_20 (a1 : Int32) (a2 : Int32) (s0 : Int32) (σ : MS) : Prop :=
  (if 0 ≤ a2 then (SM_apply_34 a1 a2 (a2 / 16) (ms_set_thrown σ s0)) else True)
def fM_apply_10 (a1 : Int32) (a2 : Int32) (σ : MS) : Int32 × MS :=
  (if 0 ≤ a2 then (fM_apply_20 a1 a2 0 σ) else (fM_apply_20 a1 a2 1 σ))
def SM_apply_10 (a1 : Int32) (a2 : Int32) (σ : MS) : Prop :=
  (if 0 ≤ a2 then (SM_apply_20 a1 a2 0 σ) else (SM_apply_20 a1 a2 1 σ))
def fM_apply (a1 : Int32) (σ : MS) : Int32 × MS :=
  (fM_apply_10 a1 (fM_operatorShape a1) (ms_set_trap σ 0))
def SM_apply (a1 : Int32) (σ : MS) : Prop :=
  (SM_apply_10 a1 (fM_operatorShape a1) (ms_set_trap σ 0))
def fM_operator_10 (a2 : Int32) (a3 : Int32) (σ : MS) : Int32 × MS :=
  (if 0 ≤ a3 then (if a2 = 0 then (a3 / 16, σ) else (if a2 = 1 then ((a3 / 4) - (a3 / 4) / 4 * 4, σ) else (if a2 = 2 then (a3 - a3 / 4 * 4, σ) else ((-1), σ)))) else ((-1), σ))
def fM_operator (a1 : Int32) (a2 : Int32) (σ : MS) : Int32 × MS :=
  (fM_operator_10 a2 (fM_operatorShape a1) (ms_set_thrown σ 0))
def fM_isThere_16 (σ : MS) : Int32 × MS :=
  (0, σ)
def fM_isThere (a1 : Int32) (σ : MS) : Int32 × MS :=
  (if a1 < 0 then (fM_isThere_16 σ) else (if (ms_count σ) ≤ a1 then (fM_isThere_16 σ) else (1, σ)))
theorem zM_isThere (a1 : Int32) (σ : MS) : (fM_isThere a1 σ).1 = 0 ∨ (fM_isThere a1 σ).1 = 1 := by
  unfold fM_isThere fM_isThere_16
  split
  · exact Or.inl rfl
  · split
    · exact Or.inl rfl
    · exact Or.inr rfl

def fM_type_10 (a1 : Int32) (s0 : Int32) (σ : MS) : Int32 × MS :=
  (if s0 = 0 then ((-1), σ) else (ms_types σ (((ms_count σ) - 1) - a1).toNatClampNeg, σ))
def SM_type_10 (a1 : Int32) (s0 : Int32) (σ : MS) : Prop :=
  (if s0 = 0 then True else ((vp_in (((ms_count σ) - 1) - a1) 64) ∧ True))
def fM_type (a1 : Int32) (σ : MS) : Int32 × MS :=
  (fM_type_10 a1 ((fM_isThere a1 (ms_set_thrown σ 0)).1) ((fM_isThere a1 (ms_set_thrown σ 0)).2))
def SM_type (a1 : Int32) (σ : MS) : Prop :=
  (SM_type_10 a1 ((fM_isThere a1 (ms_set_thrown σ 0)).1) ((fM_isThere a1 (ms_set_thrown σ 0)).2))
def fM_bits_10 (a1 : Int32) (s0 : Int32) (σ : MS) : Int64 × MS :=
  (if s0 = 0 then (0, σ) else (ms_values σ (((ms_count σ) - 1) - a1).toNatClampNeg, σ))
def SM_bits_10 (a1 : Int32) (s0 : Int32) (σ : MS) : Prop :=
  (if s0 = 0 then True else ((vp_in (((ms_count σ) - 1) - a1) 64) ∧ True))
def fM_bits (a1 : Int32) (σ : MS) : Int64 × MS :=
  (fM_bits_10 a1 ((fM_isThere a1 (ms_set_thrown σ 0)).1) ((fM_isThere a1 (ms_set_thrown σ 0)).2))
def SM_bits (a1 : Int32) (σ : MS) : Prop :=
  (SM_bits_10 a1 ((fM_isThere a1 (ms_set_thrown σ 0)).1) ((fM_isThere a1 (ms_set_thrown σ 0)).2))
def fM_parts_70 (a2 : Int32) (a3 : Int32) (a4 : Int64) (σ : MS) : Int32 × MS :=
  (if a2 = 0 then (if (fM_isMinus a3 a4) = 0 then (0, σ) else (1, σ)) else (if a2 = 1 then (fM_exponent a3 a4, σ) else (if (fM_isNone a3 a4) = 0 then (if (fM_isInfinite a3 a4) = 0 then (if (fM_isZero a3 a4) = 0 then (if (fM_exponent a3 a4) = 0 then (1, σ) else (2, σ)) else (0, σ)) else (3, σ)) else (4, σ))))
def SM_parts_70 (a2 : Int32) (a3 : Int32) (a4 : Int64) (σ : MS) : Prop :=
  True
def fM_parts_55 (a1 : Int32) (a2 : Int32) (a3 : Int32) (σ : MS) : Int32 × MS :=
  (fM_parts_70 a2 a3 (ms_values σ (((ms_count σ) - 1) - a1).toNatClampNeg) σ)
def SM_parts_55 (a1 : Int32) (a2 : Int32) (a3 : Int32) (σ : MS) : Prop :=
  ((vp_in (((ms_count σ) - 1) - a1) 64) ∧ (SM_parts_70 a2 a3 (ms_values σ (((ms_count σ) - 1) - a1).toNatClampNeg) σ))
def fM_parts_39 (σ : MS) : Int32 × MS :=
  ((-1), σ)
def SM_parts_39 (σ : MS) : Prop :=
  True
def fM_parts_10 (a1 : Int32) (a2 : Int32) (s0 : Int32) (σ : MS) : Int32 × MS :=
  (if s0 = 0 then (fM_parts_39 σ) else (if (ms_types σ (((ms_count σ) - 1) - a1).toNatClampNeg) < 2 then (fM_parts_39 σ) else (if a2 < 0 then (fM_parts_39 σ) else (if a2 ≤ 2 then (fM_parts_55 a1 a2 (ms_types σ (((ms_count σ) - 1) - a1).toNatClampNeg) σ) else (fM_parts_39 σ)))))
def SM_parts_10 (a1 : Int32) (a2 : Int32) (s0 : Int32) (σ : MS) : Prop :=
  (if s0 = 0 then (SM_parts_39 σ) else ((vp_in (((ms_count σ) - 1) - a1) 64) ∧ (if (ms_types σ (((ms_count σ) - 1) - a1).toNatClampNeg) < 2 then (SM_parts_39 σ) else (if a2 < 0 then (SM_parts_39 σ) else (if a2 ≤ 2 then ((vp_in (((ms_count σ) - 1) - a1) 64) ∧ (SM_parts_55 a1 a2 (ms_types σ (((ms_count σ) - 1) - a1).toNatClampNeg) σ)) else (SM_parts_39 σ))))))
def fM_parts (a1 : Int32) (a2 : Int32) (σ : MS) : Int32 × MS :=
  (fM_parts_10 a1 a2 ((fM_isThere a1 (ms_set_thrown σ 0)).1) ((fM_isThere a1 (ms_set_thrown σ 0)).2))
def SM_parts (a1 : Int32) (a2 : Int32) (σ : MS) : Prop :=
  (SM_parts_10 a1 a2 ((fM_isThere a1 (ms_set_thrown σ 0)).1) ((fM_isThere a1 (ms_set_thrown σ 0)).2))
def fM_copy_22 (σ : MS) : Int32 × MS :=
  ((-1), σ)
def SM_copy_22 (σ : MS) : Prop :=
  True
def fM_copy_10 (a1 : Int32) (s0 : Int32) (σ : MS) : Int32 × MS :=
  (if s0 = 0 then (fM_copy_22 σ) else (if (ms_count σ) = 64 then (fM_copy_22 σ) else (ms_count (ms_set_count (ms_set_values (ms_set_types σ (upd (ms_types σ) (ms_count σ).toNatClampNeg (ms_types σ (((ms_count σ) - 1) - a1).toNatClampNeg))) (vp_updL (ms_values (ms_set_types σ (upd (ms_types σ) (ms_count σ).toNatClampNeg (ms_types σ (((ms_count σ) - 1) - a1).toNatClampNeg)))) (ms_count (ms_set_types σ (upd (ms_types σ) (ms_count σ).toNatClampNeg (ms_types σ (((ms_count σ) - 1) - a1).toNatClampNeg)))).toNatClampNeg (ms_values (ms_set_types σ (upd (ms_types σ) (ms_count σ).toNatClampNeg (ms_types σ (((ms_count σ) - 1) - a1).toNatClampNeg))) (((ms_count (ms_set_types σ (upd (ms_types σ) (ms_count σ).toNatClampNeg (ms_types σ (((ms_count σ) - 1) - a1).toNatClampNeg)))) - 1) - a1).toNatClampNeg))) ((ms_count (ms_set_values (ms_set_types σ (upd (ms_types σ) (ms_count σ).toNatClampNeg (ms_types σ (((ms_count σ) - 1) - a1).toNatClampNeg))) (vp_updL (ms_values (ms_set_types σ (upd (ms_types σ) (ms_count σ).toNatClampNeg (ms_types σ (((ms_count σ) - 1) - a1).toNatClampNeg)))) (ms_count (ms_set_types σ (upd (ms_types σ) (ms_count σ).toNatClampNeg (ms_types σ (((ms_count σ) - 1) - a1).toNatClampNeg)))).toNatClampNeg (ms_values (ms_set_types σ (upd (ms_types σ) (ms_count σ).toNatClampNeg (ms_types σ (((ms_count σ) - 1) - a1).toNatClampNeg))) (((ms_count (ms_set_types σ (upd (ms_types σ) (ms_count σ).toNatClampNeg (ms_types σ (((ms_count σ) - 1) - a1).toNatClampNeg)))) - 1) - a1).toNatClampNeg)))) + 1)), ms_set_count (ms_set_values (ms_set_types σ (upd (ms_types σ) (ms_count σ).toNatClampNeg (ms_types σ (((ms_count σ) - 1) - a1).toNatClampNeg))) (vp_updL (ms_values (ms_set_types σ (upd (ms_types σ) (ms_count σ).toNatClampNeg (ms_types σ (((ms_count σ) - 1) - a1).toNatClampNeg)))) (ms_count (ms_set_types σ (upd (ms_types σ) (ms_count σ).toNatClampNeg (ms_types σ (((ms_count σ) - 1) - a1).toNatClampNeg)))).toNatClampNeg (ms_values (ms_set_types σ (upd (ms_types σ) (ms_count σ).toNatClampNeg (ms_types σ (((ms_count σ) - 1) - a1).toNatClampNeg))) (((ms_count (ms_set_types σ (upd (ms_types σ) (ms_count σ).toNatClampNeg (ms_types σ (((ms_count σ) - 1) - a1).toNatClampNeg)))) - 1) - a1).toNatClampNeg))) ((ms_count (ms_set_values (ms_set_types σ (upd (ms_types σ) (ms_count σ).toNatClampNeg (ms_types σ (((ms_count σ) - 1) - a1).toNatClampNeg))) (vp_updL (ms_values (ms_set_types σ (upd (ms_types σ) (ms_count σ).toNatClampNeg (ms_types σ (((ms_count σ) - 1) - a1).toNatClampNeg)))) (ms_count (ms_set_types σ (upd (ms_types σ) (ms_count σ).toNatClampNeg (ms_types σ (((ms_count σ) - 1) - a1).toNatClampNeg)))).toNatClampNeg (ms_values (ms_set_types σ (upd (ms_types σ) (ms_count σ).toNatClampNeg (ms_types σ (((ms_count σ) - 1) - a1).toNatClampNeg))) (((ms_count (ms_set_types σ (upd (ms_types σ) (ms_count σ).toNatClampNeg (ms_types σ (((ms_count σ) - 1) - a1).toNatClampNeg)))) - 1) - a1).toNatClampNeg)))) + 1))))
def SM_copy_10 (a1 : Int32) (s0 : Int32) (σ : MS) : Prop :=
  (if s0 = 0 then (SM_copy_22 σ) else (if (ms_count σ) = 64 then (SM_copy_22 σ) else ((vp_in (((ms_count σ) - 1) - a1) 64) ∧ ((vp_in (ms_count σ) 64) ∧ ((vp_in (((ms_count (ms_set_types σ (upd (ms_types σ) (ms_count σ).toNatClampNeg (ms_types σ (((ms_count σ) - 1) - a1).toNatClampNeg)))) - 1) - a1) 64) ∧ ((vp_in (ms_count (ms_set_types σ (upd (ms_types σ) (ms_count σ).toNatClampNeg (ms_types σ (((ms_count σ) - 1) - a1).toNatClampNeg)))) 64) ∧ True))))))
def fM_copy (a1 : Int32) (σ : MS) : Int32 × MS :=
  (fM_copy_10 a1 ((fM_isThere a1 (ms_set_thrown σ 0)).1) ((fM_isThere a1 (ms_set_thrown σ 0)).2))
def SM_copy (a1 : Int32) (σ : MS) : Prop :=
  (SM_copy_10 a1 ((fM_isThere a1 (ms_set_thrown σ 0)).1) ((fM_isThere a1 (ms_set_thrown σ 0)).2))
def fM_clear_10 (a1 : Int32) (σ : MS) : Int32 × MS :=
  (a1, ms_set_count σ 0)
def fM_clear (σ : MS) : Int32 × MS :=
  (fM_clear_10 (ms_count (ms_set_thrown σ 0)) (ms_set_thrown σ 0))
set_option maxHeartbeats 4000000 in
set_option maxRecDepth 100000 in
theorem kM_push_23 {p : Program} {l : Launch} {e : Env} {s : State} {m : MethodId} {args : Array Value} {below : List Frame} {meth : Method} {c : Code} (C : pw_C p s m args meth c cM_push 4 (some .int) "BitNumbersModel") {D : va_G} {ad : Nat → Nat} {A : Nat → Prop} (hK : va_K D clM (tyA ad) s) (hA : ∀ q, s.heap.size ≤ q → A q) (σ : MS) (hS : SM_push_23 σ) {H : Heap} {locs : List Loc} (hM : mw D ad A s.heap H locs σ) {ls : Array Slot} (hl : lv_has ls 4 []) : W p l e rmM_push s m args below meth c H locs 0 0 (MQ below (va_Qi (fun r u => (r, u) = fM_push_23 σ) (mw_E D ad A) A) args s 0 0 A) (F0 m 23 ls []) := by
  obtain ⟨hx, hb, hr, hml, hown, hts, hlocks⟩ := id C
  refine lv_iconst (v := (-1)) hx hb dM_push_23 (by decide) ?_
  exact W.iret (v := (-1)) hx hb hr (fun t ht hW => ⟨⟨(-1), σ, rfl, by rw [(show fM_push_23 σ = ((-1), σ) by rw [fM_push_23])], by rw [ht]; exact hM.1, va_K.moved hW.alike hK, hM.2.1⟩, hM.2.2.F ht⟩) hM.2.2.2.2 dM_push_24
set_option maxHeartbeats 4000000 in
set_option maxRecDepth 100000 in
theorem kM_push_0 {p : Program} {l : Launch} {e : Env} {s : State} {m : MethodId} {args : Array Value} {below : List Frame} {meth : Method} {c : Code} (C : pw_C p s m args meth c cM_push 4 (some .int) "BitNumbersModel") {D : va_G} {ad : Nat → Nat} {A : Nat → Prop} (hK : va_K D clM (tyA ad) s) (hA : ∀ q, s.heap.size ≤ q → A q) (a1 : Int32) (a2 : Int64) (σ : MS) (hS : SM_push a1 a2 σ) {H : Heap} {locs : List Loc} (hM : mw D ad A s.heap H locs σ) {ls : Array Slot} (hl : lv_has ls 4 [(0, .ref (ad 0)), (1, .int a1), (2, .long a2)]) : W p l e rmM_push s m args below meth c H locs 0 0 (MQ below (va_Qi (fun r u => (r, u) = fM_push a1 a2 σ) (mw_E D ad A) A) args s 0 0 A) (F0 m 0 ls []) := by
  obtain ⟨hx, hb, hr, hml, hown, hts, hlocks⟩ := id C
  refine lv_aload_n hx hb dM_push_0 rfl (lv_at hl 0 rfl) ?_
  refine lv_iconst (v := 0) hx hb dM_push_1 (by decide) ?_
  refine mw_put (v := .int 0) (ty := .int) (σ' := ms_set_thrown σ 0) hx hb hts hown hK hM 0 (by decide) (hts _ w_487) rfl (by decide +kernel) rfl rfl (mw_pt_thrown _ _ _) dM_push_2 (fun H locs hM => ?_)
  refine lv_iload_n hx hb dM_push_5 rfl (lv_at hl 1 rfl) ?_
  refine lv_if_lt (tgt := 23) hx hb dM_push_6 (by decide) (fun h1 => ?_) (fun h1 => ?_)
  · have hS9 : (SM_push_23 (ms_set_thrown σ 0)) := by have w9 := hS; rw [SM_push, if_pos h1] at w9; exact w9
    rw [(show fM_push a1 a2 σ = fM_push_23 (ms_set_thrown σ 0) by rw [fM_push, if_pos h1])]
    exact kM_push_23 C hK hA (ms_set_thrown σ 0) (hS9) hM (lv_sub hl [] rfl)
  · refine lv_iload_n hx hb dM_push_9 rfl (lv_at hl 1 rfl) ?_
    refine lv_iconst (v := 3) hx hb dM_push_10 (by decide) ?_
    refine lv_icmp_gt (tgt := 23) hx hb dM_push_11 (by decide) (fun h2 => ?_) (fun h2 => ?_)
    · have hS9 : (SM_push_23 (ms_set_thrown σ 0)) := by have w9 := hS; rw [SM_push, if_neg h1, if_pos h2] at w9; exact w9
      rw [(show fM_push a1 a2 σ = fM_push_23 (ms_set_thrown σ 0) by rw [fM_push, if_neg h1, if_pos h2])]
      exact kM_push_23 C hK hA (ms_set_thrown σ 0) (hS9) hM (lv_sub hl [] rfl)
    · refine lv_aload_n hx hb dM_push_14 rfl (lv_at hl 0 rfl) ?_
      refine mw_get (v := .int (ms_count (ms_set_thrown σ 0))) hx hb hts hown hK hM 2 (by decide) (hts _ w_489) (mw_fd_count _ _) dM_push_15 ?_
      refine lv_bipush (v := 64) hx hb dM_push_18 (by decide) ?_
      refine lv_icmp_ne (tgt := 25) hx hb dM_push_20 (by decide) (fun h3 => ?_) (fun h3 => ?_)
      · refine lv_aload_n hx hb dM_push_25 rfl (lv_at hl 0 rfl) ?_
        refine mw_get (v := .ref (ad 1)) hx hb hts hown hK hM 3 (by decide) (hts _ w_490) (mw_fd_types _ _) dM_push_26 ?_
        refine lv_aload_n hx hb dM_push_29 rfl (lv_at hl 0 rfl) ?_
        refine mw_get (v := .int (ms_count (ms_set_thrown σ 0))) hx hb hts hown hK hM 2 (by decide) (hts _ w_489) (mw_fd_count _ _) dM_push_30 ?_
        refine lv_iload_n hx hb dM_push_33 rfl (lv_at hl 1 rfl) ?_
        have hS34 : ((vp_in (ms_count (ms_set_thrown σ 0)) 64) ∧ ((vp_in (ms_count (ms_set_types (ms_set_thrown σ 0) (upd (ms_types (ms_set_thrown σ 0)) (ms_count (ms_set_thrown σ 0)).toNatClampNeg a1))) 64) ∧ True)) := by have w9 := hS; rw [SM_push, if_neg h1, if_neg h2, if_neg h3] at w9; exact w9
        refine mw_iast (σ' := ms_set_types (ms_set_thrown σ 0) (upd (ms_types (ms_set_thrown σ 0)) (ms_count (ms_set_thrown σ 0)).toNatClampNeg a1)) hx hb hK hM 1 (mw_ar_types _ _) (hS34.1) (mw_st_types _ _ _) dM_push_34 (fun H locs hM => ?_)
        refine lv_aload_n hx hb dM_push_35 rfl (lv_at hl 0 rfl) ?_
        refine mw_get (v := .ref (ad 2)) hx hb hts hown hK hM 4 (by decide) (hts _ w_491) (mw_fd_values _ _) dM_push_36 ?_
        refine lv_aload_n hx hb dM_push_39 rfl (lv_at hl 0 rfl) ?_
        refine mw_get (v := .int (ms_count (ms_set_types (ms_set_thrown σ 0) (upd (ms_types (ms_set_thrown σ 0)) (ms_count (ms_set_thrown σ 0)).toNatClampNeg a1)))) hx hb hts hown hK hM 2 (by decide) (hts _ w_489) (mw_fd_count _ _) dM_push_40 ?_
        refine lv_iload_n hx hb dM_push_43 rfl (lv_at hl 1 rfl) ?_
        refine lv_lload_n hx hb dM_push_44 rfl (lv_at hl 2 rfl) ?_
        refine pw_call (va_runS (As := [.int a1, .long a2]) (rest := [.int (ms_count (ms_set_types (ms_set_thrown σ 0) (upd (ms_types (ms_set_thrown σ 0)) (ms_count (ms_set_thrown σ 0)).toNatClampNeg a1))), .ref (ad 2)]) ⟨hx, hb, hml, hown, hts⟩ (qM_cut l a1 a2) (va_cwS 2 hts (gS w_538 w_539 w_34 w_540) rfl rfl rfl (by decide +kernel) ⟨Nat.le_of_ble_eq_true rfl, Nat.le_of_ble_eq_true rfl⟩) ⟨pw_bT, fun U hU hW => ⟨rfl, trivial⟩⟩ rfl rfl hl.1 rfl (lv_room (Nat.le_of_ble_eq_true rfl)) dM_push_45 ⟨Nat.zero_le _, Nat.zero_le _⟩) ?_
        have hS48 : ((vp_in (ms_count (ms_set_types (ms_set_thrown σ 0) (upd (ms_types (ms_set_thrown σ 0)) (ms_count (ms_set_thrown σ 0)).toNatClampNeg a1))) 64) ∧ True) := hS34.2
        refine mw_last (σ' := ms_set_values (ms_set_types (ms_set_thrown σ 0) (upd (ms_types (ms_set_thrown σ 0)) (ms_count (ms_set_thrown σ 0)).toNatClampNeg a1)) (vp_updL (ms_values (ms_set_types (ms_set_thrown σ 0) (upd (ms_types (ms_set_thrown σ 0)) (ms_count (ms_set_thrown σ 0)).toNatClampNeg a1))) (ms_count (ms_set_types (ms_set_thrown σ 0) (upd (ms_types (ms_set_thrown σ 0)) (ms_count (ms_set_thrown σ 0)).toNatClampNeg a1))).toNatClampNeg (fM_cut a1 a2))) hx hb hK hM 2 (mw_ar_values _ _) (hS48.1) (mw_st_values _ _ _) dM_push_48 (fun H locs hM => ?_)
        refine lv_aload_n hx hb dM_push_49 rfl (lv_at hl 0 rfl) ?_
        refine lv_dup hx hb dM_push_50 rfl ?_
        refine mw_get (v := .int (ms_count (ms_set_values (ms_set_types (ms_set_thrown σ 0) (upd (ms_types (ms_set_thrown σ 0)) (ms_count (ms_set_thrown σ 0)).toNatClampNeg a1)) (vp_updL (ms_values (ms_set_types (ms_set_thrown σ 0) (upd (ms_types (ms_set_thrown σ 0)) (ms_count (ms_set_thrown σ 0)).toNatClampNeg a1))) (ms_count (ms_set_types (ms_set_thrown σ 0) (upd (ms_types (ms_set_thrown σ 0)) (ms_count (ms_set_thrown σ 0)).toNatClampNeg a1))).toNatClampNeg (fM_cut a1 a2))))) hx hb hts hown hK hM 2 (by decide) (hts _ w_489) (mw_fd_count _ _) dM_push_51 ?_
        refine lv_iconst (v := 1) hx hb dM_push_54 (by decide) ?_
        refine lv_iadd hx hb dM_push_55 ?_
        refine mw_put (v := .int ((ms_count (ms_set_values (ms_set_types (ms_set_thrown σ 0) (upd (ms_types (ms_set_thrown σ 0)) (ms_count (ms_set_thrown σ 0)).toNatClampNeg a1)) (vp_updL (ms_values (ms_set_types (ms_set_thrown σ 0) (upd (ms_types (ms_set_thrown σ 0)) (ms_count (ms_set_thrown σ 0)).toNatClampNeg a1))) (ms_count (ms_set_types (ms_set_thrown σ 0) (upd (ms_types (ms_set_thrown σ 0)) (ms_count (ms_set_thrown σ 0)).toNatClampNeg a1))).toNatClampNeg (fM_cut a1 a2)))) + 1)) (ty := .int) (σ' := ms_set_count (ms_set_values (ms_set_types (ms_set_thrown σ 0) (upd (ms_types (ms_set_thrown σ 0)) (ms_count (ms_set_thrown σ 0)).toNatClampNeg a1)) (vp_updL (ms_values (ms_set_types (ms_set_thrown σ 0) (upd (ms_types (ms_set_thrown σ 0)) (ms_count (ms_set_thrown σ 0)).toNatClampNeg a1))) (ms_count (ms_set_types (ms_set_thrown σ 0) (upd (ms_types (ms_set_thrown σ 0)) (ms_count (ms_set_thrown σ 0)).toNatClampNeg a1))).toNatClampNeg (fM_cut a1 a2))) ((ms_count (ms_set_values (ms_set_types (ms_set_thrown σ 0) (upd (ms_types (ms_set_thrown σ 0)) (ms_count (ms_set_thrown σ 0)).toNatClampNeg a1)) (vp_updL (ms_values (ms_set_types (ms_set_thrown σ 0) (upd (ms_types (ms_set_thrown σ 0)) (ms_count (ms_set_thrown σ 0)).toNatClampNeg a1))) (ms_count (ms_set_types (ms_set_thrown σ 0) (upd (ms_types (ms_set_thrown σ 0)) (ms_count (ms_set_thrown σ 0)).toNatClampNeg a1))).toNatClampNeg (fM_cut a1 a2)))) + 1)) hx hb hts hown hK hM 2 (by decide) (hts _ w_489) rfl (by decide +kernel) rfl rfl (mw_pt_count _ _ _) dM_push_56 (fun H locs hM => ?_)
        refine lv_aload_n hx hb dM_push_59 rfl (lv_at hl 0 rfl) ?_
        refine mw_get (v := .int (ms_count (ms_set_count (ms_set_values (ms_set_types (ms_set_thrown σ 0) (upd (ms_types (ms_set_thrown σ 0)) (ms_count (ms_set_thrown σ 0)).toNatClampNeg a1)) (vp_updL (ms_values (ms_set_types (ms_set_thrown σ 0) (upd (ms_types (ms_set_thrown σ 0)) (ms_count (ms_set_thrown σ 0)).toNatClampNeg a1))) (ms_count (ms_set_types (ms_set_thrown σ 0) (upd (ms_types (ms_set_thrown σ 0)) (ms_count (ms_set_thrown σ 0)).toNatClampNeg a1))).toNatClampNeg (fM_cut a1 a2))) ((ms_count (ms_set_values (ms_set_types (ms_set_thrown σ 0) (upd (ms_types (ms_set_thrown σ 0)) (ms_count (ms_set_thrown σ 0)).toNatClampNeg a1)) (vp_updL (ms_values (ms_set_types (ms_set_thrown σ 0) (upd (ms_types (ms_set_thrown σ 0)) (ms_count (ms_set_thrown σ 0)).toNatClampNeg a1))) (ms_count (ms_set_types (ms_set_thrown σ 0) (upd (ms_types (ms_set_thrown σ 0)) (ms_count (ms_set_thrown σ 0)).toNatClampNeg a1))).toNatClampNeg (fM_cut a1 a2)))) + 1)))) hx hb hts hown hK hM 2 (by decide) (hts _ w_489) (mw_fd_count _ _) dM_push_60 ?_
        exact W.iret (v := ms_count (ms_set_count (ms_set_values (ms_set_types (ms_set_thrown σ 0) (upd (ms_types (ms_set_thrown σ 0)) (ms_count (ms_set_thrown σ 0)).toNatClampNeg a1)) (vp_updL (ms_values (ms_set_types (ms_set_thrown σ 0) (upd (ms_types (ms_set_thrown σ 0)) (ms_count (ms_set_thrown σ 0)).toNatClampNeg a1))) (ms_count (ms_set_types (ms_set_thrown σ 0) (upd (ms_types (ms_set_thrown σ 0)) (ms_count (ms_set_thrown σ 0)).toNatClampNeg a1))).toNatClampNeg (fM_cut a1 a2))) ((ms_count (ms_set_values (ms_set_types (ms_set_thrown σ 0) (upd (ms_types (ms_set_thrown σ 0)) (ms_count (ms_set_thrown σ 0)).toNatClampNeg a1)) (vp_updL (ms_values (ms_set_types (ms_set_thrown σ 0) (upd (ms_types (ms_set_thrown σ 0)) (ms_count (ms_set_thrown σ 0)).toNatClampNeg a1))) (ms_count (ms_set_types (ms_set_thrown σ 0) (upd (ms_types (ms_set_thrown σ 0)) (ms_count (ms_set_thrown σ 0)).toNatClampNeg a1))).toNatClampNeg (fM_cut a1 a2)))) + 1))) hx hb hr (fun t ht hW => ⟨⟨ms_count (ms_set_count (ms_set_values (ms_set_types (ms_set_thrown σ 0) (upd (ms_types (ms_set_thrown σ 0)) (ms_count (ms_set_thrown σ 0)).toNatClampNeg a1)) (vp_updL (ms_values (ms_set_types (ms_set_thrown σ 0) (upd (ms_types (ms_set_thrown σ 0)) (ms_count (ms_set_thrown σ 0)).toNatClampNeg a1))) (ms_count (ms_set_types (ms_set_thrown σ 0) (upd (ms_types (ms_set_thrown σ 0)) (ms_count (ms_set_thrown σ 0)).toNatClampNeg a1))).toNatClampNeg (fM_cut a1 a2))) ((ms_count (ms_set_values (ms_set_types (ms_set_thrown σ 0) (upd (ms_types (ms_set_thrown σ 0)) (ms_count (ms_set_thrown σ 0)).toNatClampNeg a1)) (vp_updL (ms_values (ms_set_types (ms_set_thrown σ 0) (upd (ms_types (ms_set_thrown σ 0)) (ms_count (ms_set_thrown σ 0)).toNatClampNeg a1))) (ms_count (ms_set_types (ms_set_thrown σ 0) (upd (ms_types (ms_set_thrown σ 0)) (ms_count (ms_set_thrown σ 0)).toNatClampNeg a1))).toNatClampNeg (fM_cut a1 a2)))) + 1)), ms_set_count (ms_set_values (ms_set_types (ms_set_thrown σ 0) (upd (ms_types (ms_set_thrown σ 0)) (ms_count (ms_set_thrown σ 0)).toNatClampNeg a1)) (vp_updL (ms_values (ms_set_types (ms_set_thrown σ 0) (upd (ms_types (ms_set_thrown σ 0)) (ms_count (ms_set_thrown σ 0)).toNatClampNeg a1))) (ms_count (ms_set_types (ms_set_thrown σ 0) (upd (ms_types (ms_set_thrown σ 0)) (ms_count (ms_set_thrown σ 0)).toNatClampNeg a1))).toNatClampNeg (fM_cut a1 a2))) ((ms_count (ms_set_values (ms_set_types (ms_set_thrown σ 0) (upd (ms_types (ms_set_thrown σ 0)) (ms_count (ms_set_thrown σ 0)).toNatClampNeg a1)) (vp_updL (ms_values (ms_set_types (ms_set_thrown σ 0) (upd (ms_types (ms_set_thrown σ 0)) (ms_count (ms_set_thrown σ 0)).toNatClampNeg a1))) (ms_count (ms_set_types (ms_set_thrown σ 0) (upd (ms_types (ms_set_thrown σ 0)) (ms_count (ms_set_thrown σ 0)).toNatClampNeg a1))).toNatClampNeg (fM_cut a1 a2)))) + 1), rfl, by rw [(show fM_push a1 a2 σ = (ms_count (ms_set_count (ms_set_values (ms_set_types (ms_set_thrown σ 0) (upd (ms_types (ms_set_thrown σ 0)) (ms_count (ms_set_thrown σ 0)).toNatClampNeg a1)) (vp_updL (ms_values (ms_set_types (ms_set_thrown σ 0) (upd (ms_types (ms_set_thrown σ 0)) (ms_count (ms_set_thrown σ 0)).toNatClampNeg a1))) (ms_count (ms_set_types (ms_set_thrown σ 0) (upd (ms_types (ms_set_thrown σ 0)) (ms_count (ms_set_thrown σ 0)).toNatClampNeg a1))).toNatClampNeg (fM_cut a1 a2))) ((ms_count (ms_set_values (ms_set_types (ms_set_thrown σ 0) (upd (ms_types (ms_set_thrown σ 0)) (ms_count (ms_set_thrown σ 0)).toNatClampNeg a1)) (vp_updL (ms_values (ms_set_types (ms_set_thrown σ 0) (upd (ms_types (ms_set_thrown σ 0)) (ms_count (ms_set_thrown σ 0)).toNatClampNeg a1))) (ms_count (ms_set_types (ms_set_thrown σ 0) (upd (ms_types (ms_set_thrown σ 0)) (ms_count (ms_set_thrown σ 0)).toNatClampNeg a1))).toNatClampNeg (fM_cut a1 a2)))) + 1)), ms_set_count (ms_set_values (ms_set_types (ms_set_thrown σ 0) (upd (ms_types (ms_set_thrown σ 0)) (ms_count (ms_set_thrown σ 0)).toNatClampNeg a1)) (vp_updL (ms_values (ms_set_types (ms_set_thrown σ 0) (upd (ms_types (ms_set_thrown σ 0)) (ms_count (ms_set_thrown σ 0)).toNatClampNeg a1))) (ms_count (ms_set_types (ms_set_thrown σ 0) (upd (ms_types (ms_set_thrown σ 0)) (ms_count (ms_set_thrown σ 0)).toNatClampNeg a1))).toNatClampNeg (fM_cut a1 a2))) ((ms_count (ms_set_values (ms_set_types (ms_set_thrown σ 0) (upd (ms_types (ms_set_thrown σ 0)) (ms_count (ms_set_thrown σ 0)).toNatClampNeg a1)) (vp_updL (ms_values (ms_set_types (ms_set_thrown σ 0) (upd (ms_types (ms_set_thrown σ 0)) (ms_count (ms_set_thrown σ 0)).toNatClampNeg a1))) (ms_count (ms_set_types (ms_set_thrown σ 0) (upd (ms_types (ms_set_thrown σ 0)) (ms_count (ms_set_thrown σ 0)).toNatClampNeg a1))).toNatClampNeg (fM_cut a1 a2)))) + 1)) by rw [fM_push, if_neg h1, if_neg h2, if_neg h3])], by rw [ht]; exact hM.1, va_K.moved hW.alike hK, hM.2.1⟩, hM.2.2.F ht⟩) hM.2.2.2.2 dM_push_63
      · have hS9 : (SM_push_23 (ms_set_thrown σ 0)) := by have w9 := hS; rw [SM_push, if_neg h1, if_neg h2, if_pos h3] at w9; exact w9
        rw [(show fM_push a1 a2 σ = fM_push_23 (ms_set_thrown σ 0) by rw [fM_push, if_neg h1, if_neg h2, if_pos h3])]
        exact kM_push_23 C hK hA (ms_set_thrown σ 0) (hS9) hM (lv_sub hl [] rfl)
set_option maxHeartbeats 4000000 in
set_option maxRecDepth 100000 in
theorem qM_push (l : Launch) (D : va_G) (ad : Nat → Nat) (a1 : Int32) (a2 : Int64) (σ : MS) (sz : Nat) (hS : SM_push a1 a2 σ) : Met l yM_push wsM_push rmM_push (va_Pc [.ref (ad 0), .int a1, .long a2] (mw_B D ad σ sz)) (va_Qi (fun r u => (r, u) = fM_push a1 a2 σ) (mw_E D ad (va_A (mw_c ad σ) sz)) (va_A (mw_c ad σ) sz)) 0 0 (va_A (mw_c ad σ) sz) := by
  refine Met.ofW (cc := cM_push) (maxL := 4) (ret := (some .int)) (by decide) rfl ?_
  intro p e s m args below meth c s₁ B hml hv
  obtain ⟨rfl, hsz, hP, hK, hD⟩ := hv
  have hts0 := atoms_spec (ws := wsM_push) B.pre
  have hts := fun (w : Cond) (h : w ∈ aw) => hts0 w (List.mem_cons_of_mem _ h)
  have hown : s.vm.findClass "BitNumbersModel" = some m.cls := findClass_of_methodNamed B.named
  subst hsz
  have hl := lv_entry ([.ref (ad 0), .int a1, .long a2]) (n := 4) (Nat.le_of_ble_eq_true rfl)
  rw [lg_entry_eq]
  generalize (lg_sl ([.ref (ad 0), .int a1, .long a2]) ++ List.replicate (4 - (lg_sl ([.ref (ad 0), .int a1, .long a2])).length) Slot.unset).toArray = ls at hl ⊢
  exact kM_push_0 ⟨B.exec, B.bytes, B.returns, hml, hown, hts, B.notSynchronized⟩ hK (fun q h => Or.inr h) a1 a2 σ hS ⟨hP, hD.self, va_S.rf⟩ hl

set_option maxHeartbeats 4000000 in
set_option maxRecDepth 100000 in
theorem kM_pop_13 {p : Program} {l : Launch} {e : Env} {s : State} {m : MethodId} {args : Array Value} {below : List Frame} {meth : Method} {c : Code} (C : pw_C p s m args meth c cM_pop 1 (some .long) "BitNumbersModel") {D : va_G} {ad : Nat → Nat} {A : Nat → Prop} (hK : va_K D clM (tyA ad) s) (hA : ∀ q, s.heap.size ≤ q → A q) (s0 : Int32) (σ : MS) (hzs0 : s0 = 0 ∨ s0 = 1) (hS : SM_pop_13 s0 σ) {H : Heap} {locs : List Loc} (hM : mw D ad A s.heap H locs σ) {ls : Array Slot} (hl : lv_has ls 1 [(0, .ref (ad 0))]) : W p l e rmM_pop s m args below meth c H locs 0 0 (MQ below (va_Ql (fun r u => (r, u) = fM_pop_13 s0 σ) (mw_E D ad A) A) args s 0 0 A) (F0 m 13 ls [.int s0, .ref (ad 0)]) := by
  obtain ⟨hx, hb, hr, hml, hown, hts, hlocks⟩ := id C
  refine mw_put (v := .int s0) (ty := .int) (σ' := ms_set_thrown σ s0) hx hb hts hown hK hM 0 (by decide) (hts _ w_487) rfl (by decide +kernel) rfl rfl (mw_pt_thrown _ _ _) dM_pop_13 (fun H locs hM => ?_)
  refine lv_aload_n hx hb dM_pop_16 rfl (lv_at hl 0 rfl) ?_
  refine mw_get (v := .int (ms_count (ms_set_thrown σ s0))) hx hb hts hown hK hM 2 (by decide) (hts _ w_489) (mw_fd_count _ _) dM_pop_17 ?_
  refine lv_if_ne (tgt := 25) hx hb dM_pop_20 (by decide) (fun h1 => ?_) (fun h1 => ?_)
  · refine lv_aload_n hx hb dM_pop_25 rfl (lv_at hl 0 rfl) ?_
    refine lv_dup hx hb dM_pop_26 rfl ?_
    refine mw_get (v := .int (ms_count (ms_set_thrown σ s0))) hx hb hts hown hK hM 2 (by decide) (hts _ w_489) (mw_fd_count _ _) dM_pop_27 ?_
    refine lv_iconst (v := 1) hx hb dM_pop_30 (by decide) ?_
    refine lv_isub hx hb dM_pop_31 ?_
    refine mw_put (v := .int ((ms_count (ms_set_thrown σ s0)) - 1)) (ty := .int) (σ' := ms_set_count (ms_set_thrown σ s0) ((ms_count (ms_set_thrown σ s0)) - 1)) hx hb hts hown hK hM 2 (by decide) (hts _ w_489) rfl (by decide +kernel) rfl rfl (mw_pt_count _ _ _) dM_pop_32 (fun H locs hM => ?_)
    refine lv_aload_n hx hb dM_pop_35 rfl (lv_at hl 0 rfl) ?_
    refine mw_get (v := .ref (ad 2)) hx hb hts hown hK hM 4 (by decide) (hts _ w_491) (mw_fd_values _ _) dM_pop_36 ?_
    refine lv_aload_n hx hb dM_pop_39 rfl (lv_at hl 0 rfl) ?_
    refine mw_get (v := .int (ms_count (ms_set_count (ms_set_thrown σ s0) ((ms_count (ms_set_thrown σ s0)) - 1)))) hx hb hts hown hK hM 2 (by decide) (hts _ w_489) (mw_fd_count _ _) dM_pop_40 ?_
    have hS43 : ((vp_in (ms_count (ms_set_count (ms_set_thrown σ s0) ((ms_count (ms_set_thrown σ s0)) - 1))) 64) ∧ True) := by have w9 := hS; rw [SM_pop_13, if_neg h1] at w9; exact w9
    refine mw_lald hx hb hK hM 2 (mw_ar_values _ _) (hS43.1) dM_pop_43 ?_
    exact W.lret (v := ms_values (ms_set_count (ms_set_thrown σ s0) ((ms_count (ms_set_thrown σ s0)) - 1)) (ms_count (ms_set_count (ms_set_thrown σ s0) ((ms_count (ms_set_thrown σ s0)) - 1))).toNatClampNeg) hx hb hr (fun t ht hW => ⟨⟨ms_values (ms_set_count (ms_set_thrown σ s0) ((ms_count (ms_set_thrown σ s0)) - 1)) (ms_count (ms_set_count (ms_set_thrown σ s0) ((ms_count (ms_set_thrown σ s0)) - 1))).toNatClampNeg, ms_set_count (ms_set_thrown σ s0) ((ms_count (ms_set_thrown σ s0)) - 1), rfl, by rw [(show fM_pop_13 s0 σ = (ms_values (ms_set_count (ms_set_thrown σ s0) ((ms_count (ms_set_thrown σ s0)) - 1)) (ms_count (ms_set_count (ms_set_thrown σ s0) ((ms_count (ms_set_thrown σ s0)) - 1))).toNatClampNeg, ms_set_count (ms_set_thrown σ s0) ((ms_count (ms_set_thrown σ s0)) - 1)) by rw [fM_pop_13, if_neg h1])], by rw [ht]; exact hM.1, va_K.moved hW.alike hK, hM.2.1⟩, hM.2.2.F ht⟩) hM.2.2.2.2 dM_pop_44
  · refine lv_lconst (v := 0) hx hb dM_pop_23 (by decide) ?_
    exact W.lret (v := 0) hx hb hr (fun t ht hW => ⟨⟨0, ms_set_thrown σ s0, rfl, by rw [(show fM_pop_13 s0 σ = (0, ms_set_thrown σ s0) by rw [fM_pop_13, if_pos h1])], by rw [ht]; exact hM.1, va_K.moved hW.alike hK, hM.2.1⟩, hM.2.2.F ht⟩) hM.2.2.2.2 dM_pop_24
set_option maxHeartbeats 4000000 in
set_option maxRecDepth 100000 in
theorem kM_pop_0 {p : Program} {l : Launch} {e : Env} {s : State} {m : MethodId} {args : Array Value} {below : List Frame} {meth : Method} {c : Code} (C : pw_C p s m args meth c cM_pop 1 (some .long) "BitNumbersModel") {D : va_G} {ad : Nat → Nat} {A : Nat → Prop} (hK : va_K D clM (tyA ad) s) (hA : ∀ q, s.heap.size ≤ q → A q) (σ : MS) (hS : SM_pop σ) {H : Heap} {locs : List Loc} (hM : mw D ad A s.heap H locs σ) {ls : Array Slot} (hl : lv_has ls 1 [(0, .ref (ad 0))]) : W p l e rmM_pop s m args below meth c H locs 0 0 (MQ below (va_Ql (fun r u => (r, u) = fM_pop σ) (mw_E D ad A) A) args s 0 0 A) (F0 m 0 ls []) := by
  obtain ⟨hx, hb, hr, hml, hown, hts, hlocks⟩ := id C
  refine lv_aload_n hx hb dM_pop_0 rfl (lv_at hl 0 rfl) ?_
  refine lv_aload_n hx hb dM_pop_1 rfl (lv_at hl 0 rfl) ?_
  refine mw_get (v := .int (ms_count σ)) hx hb hts hown hK hM 2 (by decide) (hts _ w_489) (mw_fd_count _ _) dM_pop_2 ?_
  refine lv_if_ne (tgt := 12) hx hb dM_pop_5 (by decide) (fun h1 => ?_) (fun h1 => ?_)
  · refine lv_iconst (v := 0) hx hb dM_pop_12 (by decide) ?_
    have hS9 : (SM_pop_13 0 σ) := by have w9 := hS; rw [SM_pop, if_neg h1] at w9; exact w9
    rw [(show fM_pop σ = fM_pop_13 0 σ by rw [fM_pop, if_neg h1])]
    exact kM_pop_13 C hK hA 0 σ (Or.inl rfl) (hS9) hM (lv_sub hl [0] rfl)
  · refine lv_iconst (v := 1) hx hb dM_pop_8 (by decide) ?_
    refine lv_goto (tgt := 13) hx hb dM_pop_9 (by decide) ?_
    have hS9 : (SM_pop_13 1 σ) := by have w9 := hS; rw [SM_pop, if_pos h1] at w9; exact w9
    rw [(show fM_pop σ = fM_pop_13 1 σ by rw [fM_pop, if_pos h1])]
    exact kM_pop_13 C hK hA 1 σ (Or.inr rfl) (hS9) hM (lv_sub hl [0] rfl)
set_option maxHeartbeats 4000000 in
set_option maxRecDepth 100000 in
theorem qM_pop (l : Launch) (D : va_G) (ad : Nat → Nat)  (σ : MS) (sz : Nat) (hS : SM_pop σ) : Met l yM_pop wsM_pop rmM_pop (va_Pc [.ref (ad 0)] (mw_B D ad σ sz)) (va_Ql (fun r u => (r, u) = fM_pop σ) (mw_E D ad (va_A (mw_c ad σ) sz)) (va_A (mw_c ad σ) sz)) 0 0 (va_A (mw_c ad σ) sz) := by
  refine Met.ofW (cc := cM_pop) (maxL := 1) (ret := (some .long)) (by decide) rfl ?_
  intro p e s m args below meth c s₁ B hml hv
  obtain ⟨rfl, hsz, hP, hK, hD⟩ := hv
  have hts0 := atoms_spec (ws := wsM_pop) B.pre
  have hts := fun (w : Cond) (h : w ∈ aw) => hts0 w (List.mem_cons_of_mem _ h)
  have hown : s.vm.findClass "BitNumbersModel" = some m.cls := findClass_of_methodNamed B.named
  subst hsz
  have hl := lv_entry ([.ref (ad 0)]) (n := 1) (Nat.le_of_ble_eq_true rfl)
  rw [lg_entry_eq]
  generalize (lg_sl ([.ref (ad 0)]) ++ List.replicate (1 - (lg_sl ([.ref (ad 0)])).length) Slot.unset).toArray = ls at hl ⊢
  exact kM_pop_0 ⟨B.exec, B.bytes, B.returns, hml, hown, hts, B.notSynchronized⟩ hK (fun q h => Or.inr h) σ hS ⟨hP, hD.self, va_S.rf⟩ hl

set_option maxHeartbeats 4000000 in
set_option maxRecDepth 100000 in
theorem kM_apply_166 {p : Program} {l : Launch} {e : Env} {s : State} {m : MethodId} {args : Array Value} {below : List Frame} {meth : Method} {c : Code} (C : pw_C p s m args meth c cM_apply 12 (some .int) "BitNumbersModel") {D : va_G} {ad : Nat → Nat} {A : Nat → Prop} (hK : va_K D clM (tyA ad) s) (hA : ∀ q, s.heap.size ≤ q → A q) (a2 : Int32) (a3 : Int32) (a10 : Int64) (s0 : Int32) (σ : MS) (hS : SM_apply_166 a2 a3 a10 s0 σ) {H : Heap} {locs : List Loc} (hM : mw D ad A s.heap H locs σ) {ls : Array Slot} (hl : lv_has ls 12 [(0, .ref (ad 0)), (2, .int a2), (3, .int a3), (10, .long a10)]) : W p l e rmM_apply s m args below meth c H locs 0 0 (MQ below (va_Qi (fun r u => (r, u) = fM_apply_166 a2 a3 a10 s0 σ) (mw_E D ad A) A) args s 0 0 A) (F0 m 166 ls [.int s0, .ref (ad 0)]) := by
  obtain ⟨hx, hb, hr, hml, hown, hts, hlocks⟩ := id C
  refine mw_put (v := .int s0) (ty := .int) (σ' := ms_set_thrown σ s0) hx hb hts hown hK hM 0 (by decide) (hts _ w_487) rfl (by decide +kernel) rfl rfl (mw_pt_thrown _ _ _) dM_apply_166 (fun H locs hM => ?_)
  refine lv_aload_n hx hb dM_apply_169 rfl (lv_at hl 0 rfl) ?_
  refine mw_get (v := .int (ms_trap (ms_set_thrown σ s0))) hx hb hts hown hK hM 1 (by decide) (hts _ w_488) (mw_fd_trap _ _) dM_apply_170 ?_
  refine lv_if_le (tgt := 178) hx hb dM_apply_173 (by decide) (fun h1 => ?_) (fun h1 => ?_)
  · refine lv_aload_n hx hb dM_apply_178 rfl (lv_at hl 0 rfl) ?_
    refine lv_aload_n hx hb dM_apply_179 rfl (lv_at hl 0 rfl) ?_
    refine mw_get (v := .int (ms_count (ms_set_thrown σ s0))) hx hb hts hown hK hM 2 (by decide) (hts _ w_489) (mw_fd_count _ _) dM_apply_180 ?_
    refine lv_iload_n hx hb dM_apply_183 rfl (lv_at hl 2 rfl) ?_
    refine lv_isub hx hb dM_apply_184 ?_
    refine lv_iconst (v := 1) hx hb dM_apply_185 (by decide) ?_
    refine lv_iadd hx hb dM_apply_186 ?_
    refine mw_put (v := .int (((ms_count (ms_set_thrown σ s0)) - a3) + 1)) (ty := .int) (σ' := ms_set_count (ms_set_thrown σ s0) (((ms_count (ms_set_thrown σ s0)) - a3) + 1)) hx hb hts hown hK hM 2 (by decide) (hts _ w_489) rfl (by decide +kernel) rfl rfl (mw_pt_count _ _ _) dM_apply_187 (fun H locs hM => ?_)
    refine lv_aload_n hx hb dM_apply_190 rfl (lv_at hl 0 rfl) ?_
    refine mw_get (v := .ref (ad 1)) hx hb hts hown hK hM 3 (by decide) (hts _ w_490) (mw_fd_types _ _) dM_apply_191 ?_
    refine lv_aload_n hx hb dM_apply_194 rfl (lv_at hl 0 rfl) ?_
    refine mw_get (v := .int (ms_count (ms_set_count (ms_set_thrown σ s0) (((ms_count (ms_set_thrown σ s0)) - a3) + 1)))) hx hb hts hown hK hM 2 (by decide) (hts _ w_489) (mw_fd_count _ _) dM_apply_195 ?_
    refine lv_iconst (v := 1) hx hb dM_apply_198 (by decide) ?_
    refine lv_isub hx hb dM_apply_199 ?_
    refine lv_iload_n hx hb dM_apply_200 rfl (lv_at hl 1 rfl) ?_
    refine lv_iconst (v := 4) hx hb dM_apply_201 (by decide) ?_
    refine lv_irem hx hb dM_apply_202 (by decide) ?_
    have hS203 : ((vp_in ((ms_count (ms_set_count (ms_set_thrown σ s0) (((ms_count (ms_set_thrown σ s0)) - a3) + 1))) - 1) 64) ∧ ((vp_in ((ms_count (ms_set_types (ms_set_count (ms_set_thrown σ s0) (((ms_count (ms_set_thrown σ s0)) - a3) + 1)) (upd (ms_types (ms_set_count (ms_set_thrown σ s0) (((ms_count (ms_set_thrown σ s0)) - a3) + 1))) ((ms_count (ms_set_count (ms_set_thrown σ s0) (((ms_count (ms_set_thrown σ s0)) - a3) + 1))) - 1).toNatClampNeg (a2 - a2 / 4 * 4)))) - 1) 64) ∧ True)) := by have w9 := hS; rw [SM_apply_166, if_pos h1] at w9; exact w9
    refine mw_iast (σ' := ms_set_types (ms_set_count (ms_set_thrown σ s0) (((ms_count (ms_set_thrown σ s0)) - a3) + 1)) (upd (ms_types (ms_set_count (ms_set_thrown σ s0) (((ms_count (ms_set_thrown σ s0)) - a3) + 1))) ((ms_count (ms_set_count (ms_set_thrown σ s0) (((ms_count (ms_set_thrown σ s0)) - a3) + 1))) - 1).toNatClampNeg (a2 - a2 / 4 * 4))) hx hb hK hM 1 (mw_ar_types _ _) (hS203.1) (mw_st_types _ _ _) dM_apply_203 (fun H locs hM => ?_)
    refine lv_aload_n hx hb dM_apply_204 rfl (lv_at hl 0 rfl) ?_
    refine mw_get (v := .ref (ad 2)) hx hb hts hown hK hM 4 (by decide) (hts _ w_491) (mw_fd_values _ _) dM_apply_205 ?_
    refine lv_aload_n hx hb dM_apply_208 rfl (lv_at hl 0 rfl) ?_
    refine mw_get (v := .int (ms_count (ms_set_types (ms_set_count (ms_set_thrown σ s0) (((ms_count (ms_set_thrown σ s0)) - a3) + 1)) (upd (ms_types (ms_set_count (ms_set_thrown σ s0) (((ms_count (ms_set_thrown σ s0)) - a3) + 1))) ((ms_count (ms_set_count (ms_set_thrown σ s0) (((ms_count (ms_set_thrown σ s0)) - a3) + 1))) - 1).toNatClampNeg (a2 - a2 / 4 * 4))))) hx hb hts hown hK hM 2 (by decide) (hts _ w_489) (mw_fd_count _ _) dM_apply_209 ?_
    refine lv_iconst (v := 1) hx hb dM_apply_212 (by decide) ?_
    refine lv_isub hx hb dM_apply_213 ?_
    refine lv_iload_n hx hb dM_apply_214 rfl (lv_at hl 1 rfl) ?_
    refine lv_iconst (v := 4) hx hb dM_apply_215 (by decide) ?_
    refine lv_irem hx hb dM_apply_216 (by decide) ?_
    refine lv_lload hx hb dM_apply_217 (lv_at hl 3 rfl) ?_
    refine pw_call (va_runS (As := [.int (a2 - a2 / 4 * 4), .long a10]) (rest := [.int ((ms_count (ms_set_types (ms_set_count (ms_set_thrown σ s0) (((ms_count (ms_set_thrown σ s0)) - a3) + 1)) (upd (ms_types (ms_set_count (ms_set_thrown σ s0) (((ms_count (ms_set_thrown σ s0)) - a3) + 1))) ((ms_count (ms_set_count (ms_set_thrown σ s0) (((ms_count (ms_set_thrown σ s0)) - a3) + 1))) - 1).toNatClampNeg (a2 - a2 / 4 * 4)))) - 1), .ref (ad 2)]) ⟨hx, hb, hml, hown, hts⟩ (qM_cut l (a2 - a2 / 4 * 4) a10) (va_cwS 2 hts (gS w_538 w_539 w_34 w_540) rfl rfl rfl (by decide +kernel) ⟨Nat.le_of_ble_eq_true rfl, Nat.le_of_ble_eq_true rfl⟩) ⟨pw_bT, fun U hU hW => ⟨rfl, trivial⟩⟩ rfl rfl hl.1 rfl (lv_room (Nat.le_of_ble_eq_true rfl)) dM_apply_219 ⟨Nat.zero_le _, Nat.zero_le _⟩) ?_
    have hS222 : ((vp_in ((ms_count (ms_set_types (ms_set_count (ms_set_thrown σ s0) (((ms_count (ms_set_thrown σ s0)) - a3) + 1)) (upd (ms_types (ms_set_count (ms_set_thrown σ s0) (((ms_count (ms_set_thrown σ s0)) - a3) + 1))) ((ms_count (ms_set_count (ms_set_thrown σ s0) (((ms_count (ms_set_thrown σ s0)) - a3) + 1))) - 1).toNatClampNeg (a2 - a2 / 4 * 4)))) - 1) 64) ∧ True) := hS203.2
    refine mw_last (σ' := ms_set_values (ms_set_types (ms_set_count (ms_set_thrown σ s0) (((ms_count (ms_set_thrown σ s0)) - a3) + 1)) (upd (ms_types (ms_set_count (ms_set_thrown σ s0) (((ms_count (ms_set_thrown σ s0)) - a3) + 1))) ((ms_count (ms_set_count (ms_set_thrown σ s0) (((ms_count (ms_set_thrown σ s0)) - a3) + 1))) - 1).toNatClampNeg (a2 - a2 / 4 * 4))) (vp_updL (ms_values (ms_set_types (ms_set_count (ms_set_thrown σ s0) (((ms_count (ms_set_thrown σ s0)) - a3) + 1)) (upd (ms_types (ms_set_count (ms_set_thrown σ s0) (((ms_count (ms_set_thrown σ s0)) - a3) + 1))) ((ms_count (ms_set_count (ms_set_thrown σ s0) (((ms_count (ms_set_thrown σ s0)) - a3) + 1))) - 1).toNatClampNeg (a2 - a2 / 4 * 4)))) ((ms_count (ms_set_types (ms_set_count (ms_set_thrown σ s0) (((ms_count (ms_set_thrown σ s0)) - a3) + 1)) (upd (ms_types (ms_set_count (ms_set_thrown σ s0) (((ms_count (ms_set_thrown σ s0)) - a3) + 1))) ((ms_count (ms_set_count (ms_set_thrown σ s0) (((ms_count (ms_set_thrown σ s0)) - a3) + 1))) - 1).toNatClampNeg (a2 - a2 / 4 * 4)))) - 1).toNatClampNeg (fM_cut (a2 - a2 / 4 * 4) a10))) hx hb hK hM 2 (mw_ar_values _ _) (hS222.1) (mw_st_values _ _ _) dM_apply_222 (fun H locs hM => ?_)
    refine lv_iload_n hx hb dM_apply_223 rfl (lv_at hl 1 rfl) ?_
    refine lv_iconst (v := 4) hx hb dM_apply_224 (by decide) ?_
    refine lv_irem hx hb dM_apply_225 (by decide) ?_
    exact W.iret (v := a2 - a2 / 4 * 4) hx hb hr (fun t ht hW => ⟨⟨a2 - a2 / 4 * 4, ms_set_values (ms_set_types (ms_set_count (ms_set_thrown σ s0) (((ms_count (ms_set_thrown σ s0)) - a3) + 1)) (upd (ms_types (ms_set_count (ms_set_thrown σ s0) (((ms_count (ms_set_thrown σ s0)) - a3) + 1))) ((ms_count (ms_set_count (ms_set_thrown σ s0) (((ms_count (ms_set_thrown σ s0)) - a3) + 1))) - 1).toNatClampNeg (a2 - a2 / 4 * 4))) (vp_updL (ms_values (ms_set_types (ms_set_count (ms_set_thrown σ s0) (((ms_count (ms_set_thrown σ s0)) - a3) + 1)) (upd (ms_types (ms_set_count (ms_set_thrown σ s0) (((ms_count (ms_set_thrown σ s0)) - a3) + 1))) ((ms_count (ms_set_count (ms_set_thrown σ s0) (((ms_count (ms_set_thrown σ s0)) - a3) + 1))) - 1).toNatClampNeg (a2 - a2 / 4 * 4)))) ((ms_count (ms_set_types (ms_set_count (ms_set_thrown σ s0) (((ms_count (ms_set_thrown σ s0)) - a3) + 1)) (upd (ms_types (ms_set_count (ms_set_thrown σ s0) (((ms_count (ms_set_thrown σ s0)) - a3) + 1))) ((ms_count (ms_set_count (ms_set_thrown σ s0) (((ms_count (ms_set_thrown σ s0)) - a3) + 1))) - 1).toNatClampNeg (a2 - a2 / 4 * 4)))) - 1).toNatClampNeg (fM_cut (a2 - a2 / 4 * 4) a10)), rfl, by rw [(show fM_apply_166 a2 a3 a10 s0 σ = (a2 - a2 / 4 * 4, ms_set_values (ms_set_types (ms_set_count (ms_set_thrown σ s0) (((ms_count (ms_set_thrown σ s0)) - a3) + 1)) (upd (ms_types (ms_set_count (ms_set_thrown σ s0) (((ms_count (ms_set_thrown σ s0)) - a3) + 1))) ((ms_count (ms_set_count (ms_set_thrown σ s0) (((ms_count (ms_set_thrown σ s0)) - a3) + 1))) - 1).toNatClampNeg (a2 - a2 / 4 * 4))) (vp_updL (ms_values (ms_set_types (ms_set_count (ms_set_thrown σ s0) (((ms_count (ms_set_thrown σ s0)) - a3) + 1)) (upd (ms_types (ms_set_count (ms_set_thrown σ s0) (((ms_count (ms_set_thrown σ s0)) - a3) + 1))) ((ms_count (ms_set_count (ms_set_thrown σ s0) (((ms_count (ms_set_thrown σ s0)) - a3) + 1))) - 1).toNatClampNeg (a2 - a2 / 4 * 4)))) ((ms_count (ms_set_types (ms_set_count (ms_set_thrown σ s0) (((ms_count (ms_set_thrown σ s0)) - a3) + 1)) (upd (ms_types (ms_set_count (ms_set_thrown σ s0) (((ms_count (ms_set_thrown σ s0)) - a3) + 1))) ((ms_count (ms_set_count (ms_set_thrown σ s0) (((ms_count (ms_set_thrown σ s0)) - a3) + 1))) - 1).toNatClampNeg (a2 - a2 / 4 * 4)))) - 1).toNatClampNeg (fM_cut (a2 - a2 / 4 * 4) a10))) by rw [fM_apply_166, if_pos h1])], by rw [ht]; exact hM.1, va_K.moved hW.alike hK, hM.2.1⟩, hM.2.2.F ht⟩) hM.2.2.2.2 dM_apply_226
  · refine lv_iconst (v := 0) hx hb dM_apply_176 (by decide) ?_
    exact W.iret (v := 0) hx hb hr (fun t ht hW => ⟨⟨0, ms_set_thrown σ s0, rfl, by rw [(show fM_apply_166 a2 a3 a10 s0 σ = (0, ms_set_thrown σ s0) by rw [fM_apply_166, if_neg h1])], by rw [ht]; exact hM.1, va_K.moved hW.alike hK, hM.2.1⟩, hM.2.2.F ht⟩) hM.2.2.2.2 dM_apply_177
set_option maxHeartbeats 4000000 in
set_option maxRecDepth 100000 in
theorem kM_apply_153 {p : Program} {l : Launch} {e : Env} {s : State} {m : MethodId} {args : Array Value} {below : List Frame} {meth : Method} {c : Code} (C : pw_C p s m args meth c cM_apply 12 (some .int) "BitNumbersModel") {D : va_G} {ad : Nat → Nat} {A : Nat → Prop} (hK : va_K D clM (tyA ad) s) (hA : ∀ q, s.heap.size ≤ q → A q) (a2 : Int32) (a3 : Int32) (a10 : Int64) (σ : MS) (hS : SM_apply_153 a2 a3 a10 σ) {H : Heap} {locs : List Loc} (hM : mw D ad A s.heap H locs σ) {ls : Array Slot} (hl : lv_has ls 12 [(0, .ref (ad 0)), (2, .int a2), (3, .int a3), (10, .long a10)]) : W p l e rmM_apply s m args below meth c H locs 0 0 (MQ below (va_Qi (fun r u => (r, u) = fM_apply_153 a2 a3 a10 σ) (mw_E D ad A) A) args s 0 0 A) (F0 m 153 ls []) := by
  obtain ⟨hx, hb, hr, hml, hown, hts, hlocks⟩ := id C
  refine lv_aload_n hx hb dM_apply_153 rfl (lv_at hl 0 rfl) ?_
  refine lv_aload_n hx hb dM_apply_154 rfl (lv_at hl 0 rfl) ?_
  refine mw_get (v := .int (ms_trap σ)) hx hb hts hown hK hM 1 (by decide) (hts _ w_488) (mw_fd_trap _ _) dM_apply_155 ?_
  refine lv_if_le (tgt := 165) hx hb dM_apply_158 (by decide) (fun h1 => ?_) (fun h1 => ?_)
  · refine lv_iconst (v := 0) hx hb dM_apply_165 (by decide) ?_
    have hS9 : (SM_apply_166 a2 a3 a10 0 σ) := by have w9 := hS; rw [SM_apply_153, if_pos h1] at w9; exact w9
    rw [(show fM_apply_153 a2 a3 a10 σ = fM_apply_166 a2 a3 a10 0 σ by rw [fM_apply_153, if_pos h1])]
    exact kM_apply_166 C hK hA a2 a3 a10 0 σ (hS9) hM (lv_sub hl [0, 1, 2, 3] rfl)
  · refine lv_iconst (v := 3) hx hb dM_apply_161 (by decide) ?_
    refine lv_goto (tgt := 166) hx hb dM_apply_162 (by decide) ?_
    have hS9 : (SM_apply_166 a2 a3 a10 3 σ) := by have w9 := hS; rw [SM_apply_153, if_neg h1] at w9; exact w9
    rw [(show fM_apply_153 a2 a3 a10 σ = fM_apply_166 a2 a3 a10 3 σ by rw [fM_apply_153, if_neg h1])]
    exact kM_apply_166 C hK hA a2 a3 a10 3 σ (hS9) hM (lv_sub hl [0, 1, 2, 3] rfl)
set_option maxHeartbeats 4000000 in
set_option maxRecDepth 100000 in
theorem kM_apply_151 {p : Program} {l : Launch} {e : Env} {s : State} {m : MethodId} {args : Array Value} {below : List Frame} {meth : Method} {c : Code} (C : pw_C p s m args meth c cM_apply 12 (some .int) "BitNumbersModel") {D : va_G} {ad : Nat → Nat} {A : Nat → Prop} (hK : va_K D clM (tyA ad) s) (hA : ∀ q, s.heap.size ≤ q → A q) (a2 : Int32) (a3 : Int32) (s0 : Int64) (σ : MS) (hS : SM_apply_151 a2 a3 s0 σ) {H : Heap} {locs : List Loc} (hM : mw D ad A s.heap H locs σ) {ls : Array Slot} (hl : lv_has ls 12 [(0, .ref (ad 0)), (2, .int a2), (3, .int a3)]) : W p l e rmM_apply s m args below meth c H locs 0 0 (MQ below (va_Qi (fun r u => (r, u) = fM_apply_151 a2 a3 s0 σ) (mw_E D ad A) A) args s 0 0 A) (F0 m 151 ls [.long s0]) := by
  obtain ⟨hx, hb, hr, hml, hown, hts, hlocks⟩ := id C
  refine lv_lstore (lv' := [(10, .long s0), (0, .ref (ad 0)), (2, .int a2), (3, .int a3)]) hx hb dM_apply_151 hl (by decide) rfl (fun ls hl => ?_)
  have hS9 : (SM_apply_153 a2 a3 s0 σ) := by have w9 := hS; rw [SM_apply_151] at w9; exact w9
  rw [(show fM_apply_151 a2 a3 s0 σ = fM_apply_153 a2 a3 s0 σ by rw [fM_apply_151])]
  exact kM_apply_153 C hK hA a2 a3 s0 σ (hS9) hM (lv_sub hl [1, 2, 3, 0] rfl)
set_option maxHeartbeats 4000000 in
set_option maxRecDepth 100000 in
theorem kM_apply_140 {p : Program} {l : Launch} {e : Env} {s : State} {m : MethodId} {args : Array Value} {below : List Frame} {meth : Method} {c : Code} (C : pw_C p s m args meth c cM_apply 12 (some .int) "BitNumbersModel") {D : va_G} {ad : Nat → Nat} {A : Nat → Prop} (hK : va_K D clM (tyA ad) s) (hA : ∀ q, s.heap.size ≤ q → A q) (a1 : Int32) (a2 : Int32) (a3 : Int32) (a4 : Int32) (a6 : Int64) (a8 : Int64) (σ : MS) (hS : SM_apply_140 a1 a2 a3 a4 a6 a8 σ) {H : Heap} {locs : List Loc} (hM : mw D ad A s.heap H locs σ) {ls : Array Slot} (hl : lv_has ls 12 [(0, .ref (ad 0)), (1, .int a1), (2, .int a2), (3, .int a3), (4, .int a4), (6, .long a6), (8, .long a8)]) : W p l e rmM_apply s m args below meth c H locs 0 0 (MQ below (va_Qi (fun r u => (r, u) = fM_apply_140 a1 a2 a3 a4 a6 a8 σ) (mw_E D ad A) A) args s 0 0 A) (F0 m 140 ls []) := by
  obtain ⟨hx, hb, hr, hml, hown, hts, hlocks⟩ := id C
  refine lv_aload_n hx hb dM_apply_140 rfl (lv_at hl 0 rfl) ?_
  refine lv_iload_n hx hb dM_apply_141 rfl (lv_at hl 1 rfl) ?_
  refine lv_iload hx hb dM_apply_142 (lv_at hl 4 rfl) ?_
  refine lv_lload hx hb dM_apply_144 (lv_at hl 5 rfl) ?_
  refine lv_lload hx hb dM_apply_146 (lv_at hl 6 rfl) ?_
  have hS148 : ((SM_worked a1 a4 a6 a8 σ) ∧ (SM_apply_151 a2 a3 ((fM_worked a1 a4 a6 a8 σ).1) ((fM_worked a1 a4 a6 a8 σ).2))) := by have w9 := hS; rw [SM_apply_140] at w9; exact w9
  refine mw_calll (F := fM_worked a1 a4 a6 a8 σ) (va_runV (As := [.int a1, .int a4, .long a6, .long a8]) (rest := []) ⟨hx, hb, hml, hown, hts⟩ (qM_worked l D ad a1 a4 a6 a8 σ H.size hS148.1) (cwV 4 hts (gV w_562 w_564 w_4 w_34 w_565) rfl rfl rfl (by decide +kernel) ⟨Nat.le_of_ble_eq_true rfl, Nat.le_of_ble_eq_true rfl⟩) (mw_preV hK hM) rfl rfl hl.1 rfl (lv_room (Nat.le_of_ble_eq_true rfl)) dM_apply_148 ⟨Nat.zero_le _, Nat.zero_le _⟩) hM hA (fun H locs hM => ?_)
  have hS9 : (SM_apply_151 a2 a3 ((fM_worked a1 a4 a6 a8 σ).1) ((fM_worked a1 a4 a6 a8 σ).2)) := hS148.2
  rw [(show fM_apply_140 a1 a2 a3 a4 a6 a8 σ = fM_apply_151 a2 a3 ((fM_worked a1 a4 a6 a8 σ).1) ((fM_worked a1 a4 a6 a8 σ).2) by rw [fM_apply_140])]
  exact kM_apply_151 C hK hA a2 a3 ((fM_worked a1 a4 a6 a8 σ).1) ((fM_worked a1 a4 a6 a8 σ).2) (hS9) hM (lv_sub hl [0, 2, 3] rfl)
set_option maxHeartbeats 4000000 in
set_option maxRecDepth 100000 in
theorem kM_apply_127 {p : Program} {l : Launch} {e : Env} {s : State} {m : MethodId} {args : Array Value} {below : List Frame} {meth : Method} {c : Code} (C : pw_C p s m args meth c cM_apply 12 (some .int) "BitNumbersModel") {D : va_G} {ad : Nat → Nat} {A : Nat → Prop} (hK : va_K D clM (tyA ad) s) (hA : ∀ q, s.heap.size ≤ q → A q) (a1 : Int32) (a2 : Int32) (a3 : Int32) (a4 : Int32) (a6 : Int64) (σ : MS) (hS : SM_apply_127 a1 a2 a3 a4 a6 σ) {H : Heap} {locs : List Loc} (hM : mw D ad A s.heap H locs σ) {ls : Array Slot} (hl : lv_has ls 12 [(0, .ref (ad 0)), (1, .int a1), (2, .int a2), (3, .int a3), (4, .int a4), (6, .long a6)]) : W p l e rmM_apply s m args below meth c H locs 0 0 (MQ below (va_Qi (fun r u => (r, u) = fM_apply_127 a1 a2 a3 a4 a6 σ) (mw_E D ad A) A) args s 0 0 A) (F0 m 127 ls []) := by
  obtain ⟨hx, hb, hr, hml, hown, hts, hlocks⟩ := id C
  refine lv_aload_n hx hb dM_apply_127 rfl (lv_at hl 0 rfl) ?_
  refine mw_get (v := .ref (ad 2)) hx hb hts hown hK hM 4 (by decide) (hts _ w_491) (mw_fd_values _ _) dM_apply_128 ?_
  refine lv_aload_n hx hb dM_apply_131 rfl (lv_at hl 0 rfl) ?_
  refine mw_get (v := .int (ms_count σ)) hx hb hts hown hK hM 2 (by decide) (hts _ w_489) (mw_fd_count _ _) dM_apply_132 ?_
  refine lv_iconst (v := 1) hx hb dM_apply_135 (by decide) ?_
  refine lv_isub hx hb dM_apply_136 ?_
  have hS137 : ((vp_in ((ms_count σ) - 1) 64) ∧ (SM_apply_140 a1 a2 a3 a4 a6 (ms_values σ ((ms_count σ) - 1).toNatClampNeg) σ)) := by have w9 := hS; rw [SM_apply_127] at w9; exact w9
  refine mw_lald hx hb hK hM 2 (mw_ar_values _ _) (hS137.1) dM_apply_137 ?_
  refine lv_lstore (lv' := [(8, .long (ms_values σ ((ms_count σ) - 1).toNatClampNeg)), (0, .ref (ad 0)), (1, .int a1), (2, .int a2), (3, .int a3), (4, .int a4), (6, .long a6)]) hx hb dM_apply_138 hl (by decide) rfl (fun ls hl => ?_)
  have hS9 : (SM_apply_140 a1 a2 a3 a4 a6 (ms_values σ ((ms_count σ) - 1).toNatClampNeg) σ) := hS137.2
  rw [(show fM_apply_127 a1 a2 a3 a4 a6 σ = fM_apply_140 a1 a2 a3 a4 a6 (ms_values σ ((ms_count σ) - 1).toNatClampNeg) σ by rw [fM_apply_127])]
  exact kM_apply_140 C hK hA a1 a2 a3 a4 a6 (ms_values σ ((ms_count σ) - 1).toNatClampNeg) σ (hS9) hM (lv_sub hl [1, 2, 3, 4, 5, 6, 0] rfl)
set_option maxHeartbeats 4000000 in
set_option maxRecDepth 100000 in
theorem kM_apply_104 {p : Program} {l : Launch} {e : Env} {s : State} {m : MethodId} {args : Array Value} {below : List Frame} {meth : Method} {c : Code} (C : pw_C p s m args meth c cM_apply 12 (some .int) "BitNumbersModel") {D : va_G} {ad : Nat → Nat} {A : Nat → Prop} (hK : va_K D clM (tyA ad) s) (hA : ∀ q, s.heap.size ≤ q → A q) (a1 : Int32) (a2 : Int32) (a3 : Int32) (a4 : Int32) (a5 : Int32) (s0 : Int32) (σ : MS) (hz5 : a5 = 0 ∨ a5 = 1) (hS : SM_apply_104 a1 a2 a3 a4 a5 s0 σ) {H : Heap} {locs : List Loc} (hM : mw D ad A s.heap H locs σ) {ls : Array Slot} (hl : lv_has ls 12 [(0, .ref (ad 0)), (1, .int a1), (2, .int a2), (3, .int a3), (4, .int a4), (5, .int a5)]) : W p l e rmM_apply s m args below meth c H locs 0 0 (MQ below (va_Qi (fun r u => (r, u) = fM_apply_104 a1 a2 a3 a4 a5 s0 σ) (mw_E D ad A) A) args s 0 0 A) (F0 m 104 ls [.int s0, .ref (ad 0)]) := by
  obtain ⟨hx, hb, hr, hml, hown, hts, hlocks⟩ := id C
  refine mw_put (v := .int s0) (ty := .int) (σ' := ms_set_thrown σ s0) hx hb hts hown hK hM 0 (by decide) (hts _ w_487) rfl (by decide +kernel) rfl rfl (mw_pt_thrown _ _ _) dM_apply_104 (fun H locs hM => ?_)
  refine lv_iload hx hb dM_apply_107 (lv_at hl 5 rfl) ?_
  refine lv_if_ne (tgt := 114) hx hb dM_apply_109 (by decide) (fun h1 => ?_) (fun h1 => ?_)
  · refine lv_aload_n hx hb dM_apply_114 rfl (lv_at hl 0 rfl) ?_
    refine mw_get (v := .ref (ad 2)) hx hb hts hown hK hM 4 (by decide) (hts _ w_491) (mw_fd_values _ _) dM_apply_115 ?_
    refine lv_aload_n hx hb dM_apply_118 rfl (lv_at hl 0 rfl) ?_
    refine mw_get (v := .int (ms_count (ms_set_thrown σ s0))) hx hb hts hown hK hM 2 (by decide) (hts _ w_489) (mw_fd_count _ _) dM_apply_119 ?_
    refine lv_iload_n hx hb dM_apply_122 rfl (lv_at hl 3 rfl) ?_
    refine lv_isub hx hb dM_apply_123 ?_
    have hS124 : ((vp_in ((ms_count (ms_set_thrown σ s0)) - a3) 64) ∧ (SM_apply_127 a1 a2 a3 a4 (ms_values (ms_set_thrown σ s0) ((ms_count (ms_set_thrown σ s0)) - a3).toNatClampNeg) (ms_set_thrown σ s0))) := by have w9 := hS; rw [SM_apply_104, if_neg h1] at w9; exact w9
    refine mw_lald hx hb hK hM 2 (mw_ar_values _ _) (hS124.1) dM_apply_124 ?_
    refine lv_lstore (lv' := [(6, .long (ms_values (ms_set_thrown σ s0) ((ms_count (ms_set_thrown σ s0)) - a3).toNatClampNeg)), (0, .ref (ad 0)), (1, .int a1), (2, .int a2), (3, .int a3), (4, .int a4), (5, .int a5)]) hx hb dM_apply_125 hl (by decide) rfl (fun ls hl => ?_)
    have hS9 : (SM_apply_127 a1 a2 a3 a4 (ms_values (ms_set_thrown σ s0) ((ms_count (ms_set_thrown σ s0)) - a3).toNatClampNeg) (ms_set_thrown σ s0)) := hS124.2
    rw [(show fM_apply_104 a1 a2 a3 a4 a5 s0 σ = fM_apply_127 a1 a2 a3 a4 (ms_values (ms_set_thrown σ s0) ((ms_count (ms_set_thrown σ s0)) - a3).toNatClampNeg) (ms_set_thrown σ s0) by rw [fM_apply_104, if_neg h1])]
    exact kM_apply_127 C hK hA a1 a2 a3 a4 (ms_values (ms_set_thrown σ s0) ((ms_count (ms_set_thrown σ s0)) - a3).toNatClampNeg) (ms_set_thrown σ s0) (hS9) hM (lv_sub hl [1, 2, 3, 4, 5, 0] rfl)
  · refine lv_iconst (v := 0) hx hb dM_apply_112 (by decide) ?_
    exact W.iret (v := 0) hx hb hr (fun t ht hW => ⟨⟨0, ms_set_thrown σ s0, rfl, by rw [(show fM_apply_104 a1 a2 a3 a4 a5 s0 σ = (0, ms_set_thrown σ s0) by rw [fM_apply_104, if_pos h1])], by rw [ht]; exact hM.1, va_K.moved hW.alike hK, hM.2.1⟩, hM.2.2.F ht⟩) hM.2.2.2.2 dM_apply_113
set_option maxHeartbeats 4000000 in
set_option maxRecDepth 100000 in
theorem kM_apply_91 {p : Program} {l : Launch} {e : Env} {s : State} {m : MethodId} {args : Array Value} {below : List Frame} {meth : Method} {c : Code} (C : pw_C p s m args meth c cM_apply 12 (some .int) "BitNumbersModel") {D : va_G} {ad : Nat → Nat} {A : Nat → Prop} (hK : va_K D clM (tyA ad) s) (hA : ∀ q, s.heap.size ≤ q → A q) (a1 : Int32) (a2 : Int32) (a3 : Int32) (a4 : Int32) (s0 : Int32) (σ : MS) (hzs0 : s0 = 0 ∨ s0 = 1) (hS : SM_apply_91 a1 a2 a3 a4 s0 σ) {H : Heap} {locs : List Loc} (hM : mw D ad A s.heap H locs σ) {ls : Array Slot} (hl : lv_has ls 12 [(0, .ref (ad 0)), (1, .int a1), (2, .int a2), (3, .int a3), (4, .int a4)]) : W p l e rmM_apply s m args below meth c H locs 0 0 (MQ below (va_Qi (fun r u => (r, u) = fM_apply_91 a1 a2 a3 a4 s0 σ) (mw_E D ad A) A) args s 0 0 A) (F0 m 91 ls [.int s0]) := by
  obtain ⟨hx, hb, hr, hml, hown, hts, hlocks⟩ := id C
  refine lv_istore (lv' := [(5, .int s0), (0, .ref (ad 0)), (1, .int a1), (2, .int a2), (3, .int a3), (4, .int a4)]) hx hb dM_apply_91 hl (by decide) rfl (fun ls hl => ?_)
  refine lv_aload_n hx hb dM_apply_93 rfl (lv_at hl 1 rfl) ?_
  refine lv_iload hx hb dM_apply_94 (lv_at hl 0 rfl) ?_
  refine lv_if_eq (tgt := 103) hx hb dM_apply_96 (by decide) (fun h1 => ?_) (fun h1 => ?_)
  · refine lv_iconst (v := 2) hx hb dM_apply_103 (by decide) ?_
    have hS9 : (SM_apply_104 a1 a2 a3 a4 s0 2 σ) := by have w9 := hS; rw [SM_apply_91, if_pos h1] at w9; exact w9
    rw [(show fM_apply_91 a1 a2 a3 a4 s0 σ = fM_apply_104 a1 a2 a3 a4 s0 2 σ by rw [fM_apply_91, if_pos h1])]
    exact kM_apply_104 C hK hA a1 a2 a3 a4 s0 2 σ hzs0 (hS9) hM (lv_sub hl [1, 2, 3, 4, 5, 0] rfl)
  · refine lv_iconst (v := 0) hx hb dM_apply_99 (by decide) ?_
    refine lv_goto (tgt := 104) hx hb dM_apply_100 (by decide) ?_
    have hS9 : (SM_apply_104 a1 a2 a3 a4 s0 0 σ) := by have w9 := hS; rw [SM_apply_91, if_neg h1] at w9; exact w9
    rw [(show fM_apply_91 a1 a2 a3 a4 s0 σ = fM_apply_104 a1 a2 a3 a4 s0 0 σ by rw [fM_apply_91, if_neg h1])]
    exact kM_apply_104 C hK hA a1 a2 a3 a4 s0 0 σ hzs0 (hS9) hM (lv_sub hl [1, 2, 3, 4, 5, 0] rfl)
set_option maxHeartbeats 4000000 in
set_option maxRecDepth 100000 in
theorem kM_apply_90 {p : Program} {l : Launch} {e : Env} {s : State} {m : MethodId} {args : Array Value} {below : List Frame} {meth : Method} {c : Code} (C : pw_C p s m args meth c cM_apply 12 (some .int) "BitNumbersModel") {D : va_G} {ad : Nat → Nat} {A : Nat → Prop} (hK : va_K D clM (tyA ad) s) (hA : ∀ q, s.heap.size ≤ q → A q) (a1 : Int32) (a2 : Int32) (a3 : Int32) (a4 : Int32) (σ : MS) (hS : SM_apply_90 a1 a2 a3 a4 σ) {H : Heap} {locs : List Loc} (hM : mw D ad A s.heap H locs σ) {ls : Array Slot} (hl : lv_has ls 12 [(0, .ref (ad 0)), (1, .int a1), (2, .int a2), (3, .int a3), (4, .int a4)]) : W p l e rmM_apply s m args below meth c H locs 0 0 (MQ below (va_Qi (fun r u => (r, u) = fM_apply_90 a1 a2 a3 a4 σ) (mw_E D ad A) A) args s 0 0 A) (F0 m 90 ls []) := by
  obtain ⟨hx, hb, hr, hml, hown, hts, hlocks⟩ := id C
  refine lv_iconst (v := 0) hx hb dM_apply_90 (by decide) ?_
  have hS9 : (SM_apply_91 a1 a2 a3 a4 0 σ) := by have w9 := hS; rw [SM_apply_90] at w9; exact w9
  rw [(show fM_apply_90 a1 a2 a3 a4 σ = fM_apply_91 a1 a2 a3 a4 0 σ by rw [fM_apply_90])]
  exact kM_apply_91 C hK hA a1 a2 a3 a4 0 σ (Or.inl rfl) (hS9) hM (lv_sub hl [0, 1, 2, 3, 4] rfl)
set_option maxHeartbeats 4000000 in
set_option maxRecDepth 100000 in
theorem kM_apply_86 {p : Program} {l : Launch} {e : Env} {s : State} {m : MethodId} {args : Array Value} {below : List Frame} {meth : Method} {c : Code} (C : pw_C p s m args meth c cM_apply 12 (some .int) "BitNumbersModel") {D : va_G} {ad : Nat → Nat} {A : Nat → Prop} (hK : va_K D clM (tyA ad) s) (hA : ∀ q, s.heap.size ≤ q → A q) (a1 : Int32) (a2 : Int32) (a3 : Int32) (a4 : Int32) (σ : MS) (hS : SM_apply_86 a1 a2 a3 a4 σ) {H : Heap} {locs : List Loc} (hM : mw D ad A s.heap H locs σ) {ls : Array Slot} (hl : lv_has ls 12 [(0, .ref (ad 0)), (1, .int a1), (2, .int a2), (3, .int a3), (4, .int a4)]) : W p l e rmM_apply s m args below meth c H locs 0 0 (MQ below (va_Qi (fun r u => (r, u) = fM_apply_86 a1 a2 a3 a4 σ) (mw_E D ad A) A) args s 0 0 A) (F0 m 86 ls []) := by
  obtain ⟨hx, hb, hr, hml, hown, hts, hlocks⟩ := id C
  refine lv_iconst (v := 1) hx hb dM_apply_86 (by decide) ?_
  refine lv_goto (tgt := 91) hx hb dM_apply_87 (by decide) ?_
  have hS9 : (SM_apply_91 a1 a2 a3 a4 1 σ) := by have w9 := hS; rw [SM_apply_86] at w9; exact w9
  rw [(show fM_apply_86 a1 a2 a3 a4 σ = fM_apply_91 a1 a2 a3 a4 1 σ by rw [fM_apply_86])]
  exact kM_apply_91 C hK hA a1 a2 a3 a4 1 σ (Or.inr rfl) (hS9) hM (lv_sub hl [0, 1, 2, 3, 4] rfl)
set_option maxHeartbeats 4000000 in
set_option maxRecDepth 100000 in
theorem kM_apply_41 {p : Program} {l : Launch} {e : Env} {s : State} {m : MethodId} {args : Array Value} {below : List Frame} {meth : Method} {c : Code} (C : pw_C p s m args meth c cM_apply 12 (some .int) "BitNumbersModel") {D : va_G} {ad : Nat → Nat} {A : Nat → Prop} (hK : va_K D clM (tyA ad) s) (hA : ∀ q, s.heap.size ≤ q → A q) (a1 : Int32) (a2 : Int32) (a3 : Int32) (a4 : Int32) (σ : MS) (hS : SM_apply_41 a1 a2 a3 a4 σ) {H : Heap} {locs : List Loc} (hM : mw D ad A s.heap H locs σ) {ls : Array Slot} (hl : lv_has ls 12 [(0, .ref (ad 0)), (1, .int a1), (2, .int a2), (3, .int a3), (4, .int a4)]) : W p l e rmM_apply s m args below meth c H locs 0 0 (MQ below (va_Qi (fun r u => (r, u) = fM_apply_41 a1 a2 a3 a4 σ) (mw_E D ad A) A) args s 0 0 A) (F0 m 41 ls []) := by
  obtain ⟨hx, hb, hr, hml, hown, hts, hlocks⟩ := id C
  refine lv_aload_n hx hb dM_apply_41 rfl (lv_at hl 0 rfl) ?_
  refine mw_get (v := .int (ms_count σ)) hx hb hts hown hK hM 2 (by decide) (hts _ w_489) (mw_fd_count _ _) dM_apply_42 ?_
  refine lv_iload_n hx hb dM_apply_45 rfl (lv_at hl 3 rfl) ?_
  refine lv_icmp_lt (tgt := 90) hx hb dM_apply_46 (by decide) (fun h1 => ?_) (fun h1 => ?_)
  · have hS9 : (SM_apply_90 a1 a2 a3 a4 σ) := by have w9 := hS; rw [SM_apply_41, if_pos h1] at w9; exact w9
    rw [(show fM_apply_41 a1 a2 a3 a4 σ = fM_apply_90 a1 a2 a3 a4 σ by rw [fM_apply_41, if_pos h1])]
    exact kM_apply_90 C hK hA a1 a2 a3 a4 σ (hS9) hM (lv_sub hl [0, 1, 2, 3, 4] rfl)
  · refine lv_aload_n hx hb dM_apply_49 rfl (lv_at hl 0 rfl) ?_
    refine mw_get (v := .ref (ad 1)) hx hb hts hown hK hM 3 (by decide) (hts _ w_490) (mw_fd_types _ _) dM_apply_50 ?_
    refine lv_aload_n hx hb dM_apply_53 rfl (lv_at hl 0 rfl) ?_
    refine mw_get (v := .int (ms_count σ)) hx hb hts hown hK hM 2 (by decide) (hts _ w_489) (mw_fd_count _ _) dM_apply_54 ?_
    refine lv_iconst (v := 1) hx hb dM_apply_57 (by decide) ?_
    refine lv_isub hx hb dM_apply_58 ?_
    have hS59 : ((vp_in ((ms_count σ) - 1) 64) ∧ (if (ms_types σ ((ms_count σ) - 1).toNatClampNeg) = a4 then (if a3 = 1 then (SM_apply_86 a1 a2 a3 a4 σ) else ((vp_in ((ms_count σ) - 2) 64) ∧ (if (ms_types σ ((ms_count σ) - 2).toNatClampNeg) = a4 then (SM_apply_86 a1 a2 a3 a4 σ) else (SM_apply_90 a1 a2 a3 a4 σ)))) else (SM_apply_90 a1 a2 a3 a4 σ))) := by have w9 := hS; rw [SM_apply_41, if_neg h1] at w9; exact w9
    refine mw_iald hx hb hK hM 1 (mw_ar_types _ _) (hS59.1) dM_apply_59 ?_
    refine lv_iload hx hb dM_apply_60 (lv_at hl 4 rfl) ?_
    refine lv_icmp_ne (tgt := 90) hx hb dM_apply_62 (by decide) (fun h2 => ?_) (fun h2 => ?_)
    · have hS9 : (SM_apply_90 a1 a2 a3 a4 σ) := by have w9 := hS59.2; rw [if_neg h2] at w9; exact w9
      rw [(show fM_apply_41 a1 a2 a3 a4 σ = fM_apply_90 a1 a2 a3 a4 σ by rw [fM_apply_41, if_neg h1, if_neg h2])]
      exact kM_apply_90 C hK hA a1 a2 a3 a4 σ (hS9) hM (lv_sub hl [0, 1, 2, 3, 4] rfl)
    · refine lv_iload_n hx hb dM_apply_65 rfl (lv_at hl 3 rfl) ?_
      refine lv_iconst (v := 1) hx hb dM_apply_66 (by decide) ?_
      refine lv_icmp_eq (tgt := 86) hx hb dM_apply_67 (by decide) (fun h3 => ?_) (fun h3 => ?_)
      · have hS9 : (SM_apply_86 a1 a2 a3 a4 σ) := by have w9 := hS59.2; rw [if_pos h2, if_pos h3] at w9; exact w9
        rw [(show fM_apply_41 a1 a2 a3 a4 σ = fM_apply_86 a1 a2 a3 a4 σ by rw [fM_apply_41, if_neg h1, if_pos h2, if_pos h3])]
        exact kM_apply_86 C hK hA a1 a2 a3 a4 σ (hS9) hM (lv_sub hl [0, 1, 2, 3, 4] rfl)
      · refine lv_aload_n hx hb dM_apply_70 rfl (lv_at hl 0 rfl) ?_
        refine mw_get (v := .ref (ad 1)) hx hb hts hown hK hM 3 (by decide) (hts _ w_490) (mw_fd_types _ _) dM_apply_71 ?_
        refine lv_aload_n hx hb dM_apply_74 rfl (lv_at hl 0 rfl) ?_
        refine mw_get (v := .int (ms_count σ)) hx hb hts hown hK hM 2 (by decide) (hts _ w_489) (mw_fd_count _ _) dM_apply_75 ?_
        refine lv_iconst (v := 2) hx hb dM_apply_78 (by decide) ?_
        refine lv_isub hx hb dM_apply_79 ?_
        have hS80 : ((vp_in ((ms_count σ) - 2) 64) ∧ (if (ms_types σ ((ms_count σ) - 2).toNatClampNeg) = a4 then (SM_apply_86 a1 a2 a3 a4 σ) else (SM_apply_90 a1 a2 a3 a4 σ))) := by have w9 := hS59.2; rw [if_pos h2, if_neg h3] at w9; exact w9
        refine mw_iald hx hb hK hM 1 (mw_ar_types _ _) (hS80.1) dM_apply_80 ?_
        refine lv_iload hx hb dM_apply_81 (lv_at hl 4 rfl) ?_
        refine lv_icmp_ne (tgt := 90) hx hb dM_apply_83 (by decide) (fun h4 => ?_) (fun h4 => ?_)
        · have hS9 : (SM_apply_90 a1 a2 a3 a4 σ) := by have w9 := hS80.2; rw [if_neg h4] at w9; exact w9
          rw [(show fM_apply_41 a1 a2 a3 a4 σ = fM_apply_90 a1 a2 a3 a4 σ by rw [fM_apply_41, if_neg h1, if_pos h2, if_neg h3, if_neg h4])]
          exact kM_apply_90 C hK hA a1 a2 a3 a4 σ (hS9) hM (lv_sub hl [0, 1, 2, 3, 4] rfl)
        · have hS9 : (SM_apply_86 a1 a2 a3 a4 σ) := by have w9 := hS80.2; rw [if_pos h4] at w9; exact w9
          rw [(show fM_apply_41 a1 a2 a3 a4 σ = fM_apply_86 a1 a2 a3 a4 σ by rw [fM_apply_41, if_neg h1, if_pos h2, if_neg h3, if_pos h4])]
          exact kM_apply_86 C hK hA a1 a2 a3 a4 σ (hS9) hM (lv_sub hl [0, 1, 2, 3, 4] rfl)
set_option maxHeartbeats 4000000 in
set_option maxRecDepth 100000 in
theorem kM_apply_34 {p : Program} {l : Launch} {e : Env} {s : State} {m : MethodId} {args : Array Value} {below : List Frame} {meth : Method} {c : Code} (C : pw_C p s m args meth c cM_apply 12 (some .int) "BitNumbersModel") {D : va_G} {ad : Nat → Nat} {A : Nat → Prop} (hK : va_K D clM (tyA ad) s) (hA : ∀ q, s.heap.size ≤ q → A q) (a1 : Int32) (a2 : Int32) (a3 : Int32) (σ : MS) (hS : SM_apply_34 a1 a2 a3 σ) {H : Heap} {locs : List Loc} (hM : mw D ad A s.heap H locs σ) {ls : Array Slot} (hl : lv_has ls 12 [(0, .ref (ad 0)), (1, .int a1), (2, .int a2), (3, .int a3)]) : W p l e rmM_apply s m args below meth c H locs 0 0 (MQ below (va_Qi (fun r u => (r, u) = fM_apply_34 a1 a2 a3 σ) (mw_E D ad A) A) args s 0 0 A) (F0 m 34 ls []) := by
  obtain ⟨hx, hb, hr, hml, hown, hts, hlocks⟩ := id C
  refine lv_iload_n hx hb dM_apply_34 rfl (lv_at hl 2 rfl) ?_
  refine lv_iconst (v := 4) hx hb dM_apply_35 (by decide) ?_
  refine lv_idiv hx hb dM_apply_36 (by decide) ?_
  refine lv_iconst (v := 4) hx hb dM_apply_37 (by decide) ?_
  refine lv_irem hx hb dM_apply_38 (by decide) ?_
  refine lv_istore (lv' := [(4, .int ((a2 / 4) - (a2 / 4) / 4 * 4)), (0, .ref (ad 0)), (1, .int a1), (2, .int a2), (3, .int a3)]) hx hb dM_apply_39 hl (by decide) rfl (fun ls hl => ?_)
  have hS9 : (SM_apply_41 a1 a2 a3 ((a2 / 4) - (a2 / 4) / 4 * 4) σ) := by have w9 := hS; rw [SM_apply_34] at w9; exact w9
  rw [(show fM_apply_34 a1 a2 a3 σ = fM_apply_41 a1 a2 a3 ((a2 / 4) - (a2 / 4) / 4 * 4) σ by rw [fM_apply_34])]
  exact kM_apply_41 C hK hA a1 a2 a3 ((a2 / 4) - (a2 / 4) / 4 * 4) σ (hS9) hM (lv_sub hl [1, 2, 3, 4, 0] rfl)
set_option maxHeartbeats 4000000 in
set_option maxRecDepth 100000 in
theorem kM_apply_20 {p : Program} {l : Launch} {e : Env} {s : State} {m : MethodId} {args : Array Value} {below : List Frame} {meth : Method} {c : Code} (C : pw_C p s m args meth c cM_apply 12 (some .int) "BitNumbersModel") {D : va_G} {ad : Nat → Nat} {A : Nat → Prop} (hK : va_K D clM (tyA ad) s) (hA : ∀ q, s.heap.size ≤ q → A q) (a1 : Int32) (a2 : Int32) (s0 : Int32) (σ : MS) (hzs0 : s0 = 0 ∨ s0 = 1) (hS : SM_apply_20 a1 a2 s0 σ) {H : Heap} {locs : List Loc} (hM : mw D ad A s.heap H locs σ) {ls : Array Slot} (hl : lv_has ls 12 [(0, .ref (ad 0)), (1, .int a1), (2, .int a2)]) : W p l e rmM_apply s m args below meth c H locs 0 0 (MQ below (va_Qi (fun r u => (r, u) = fM_apply_20 a1 a2 s0 σ) (mw_E D ad A) A) args s 0 0 A) (F0 m 20 ls [.int s0, .ref (ad 0)]) := by
  obtain ⟨hx, hb, hr, hml, hown, hts, hlocks⟩ := id C
  refine mw_put (v := .int s0) (ty := .int) (σ' := ms_set_thrown σ s0) hx hb hts hown hK hM 0 (by decide) (hts _ w_487) rfl (by decide +kernel) rfl rfl (mw_pt_thrown _ _ _) dM_apply_20 (fun H locs hM => ?_)
  refine lv_iload_n hx hb dM_apply_23 rfl (lv_at hl 2 rfl) ?_
  refine lv_if_ge (tgt := 29) hx hb dM_apply_24 (by decide) (fun h1 => ?_) (fun h1 => ?_)
  · refine lv_iload_n hx hb dM_apply_29 rfl (lv_at hl 2 rfl) ?_
    refine lv_bipush (v := 16) hx hb dM_apply_30 (by decide) ?_
    refine lv_idiv hx hb dM_apply_32 (by decide) ?_
    refine lv_istore_n (lv' := [(3, .int (a2 / 16)), (0, .ref (ad 0)), (1, .int a1), (2, .int a2)]) hx hb dM_apply_33 rfl hl (by decide) rfl (fun ls hl => ?_)
    have hS9 : (SM_apply_34 a1 a2 (a2 / 16) (ms_set_thrown σ s0)) := by have w9 := hS; rw [SM_apply_20, if_pos h1] at w9; exact w9
    rw [(show fM_apply_20 a1 a2 s0 σ = fM_apply_34 a1 a2 (a2 / 16) (ms_set_thrown σ s0) by rw [fM_apply_20, if_pos h1])]
    exact kM_apply_34 C hK hA a1 a2 (a2 / 16) (ms_set_thrown σ s0) (hS9) hM (lv_sub hl [1, 2, 3, 0] rfl)
  · refine lv_iconst (v := 0) hx hb dM_apply_27 (by decide) ?_
    exact W.iret (v := 0) hx hb hr (fun t ht hW => ⟨⟨0, ms_set_thrown σ s0, rfl, by rw [(show fM_apply_20 a1 a2 s0 σ = (0, ms_set_thrown σ s0) by rw [fM_apply_20, if_neg h1])], by rw [ht]; exact hM.1, va_K.moved hW.alike hK, hM.2.1⟩, hM.2.2.F ht⟩) hM.2.2.2.2 dM_apply_28
set_option maxHeartbeats 4000000 in
set_option maxRecDepth 100000 in
theorem kM_apply_10 {p : Program} {l : Launch} {e : Env} {s : State} {m : MethodId} {args : Array Value} {below : List Frame} {meth : Method} {c : Code} (C : pw_C p s m args meth c cM_apply 12 (some .int) "BitNumbersModel") {D : va_G} {ad : Nat → Nat} {A : Nat → Prop} (hK : va_K D clM (tyA ad) s) (hA : ∀ q, s.heap.size ≤ q → A q) (a1 : Int32) (a2 : Int32) (σ : MS) (hS : SM_apply_10 a1 a2 σ) {H : Heap} {locs : List Loc} (hM : mw D ad A s.heap H locs σ) {ls : Array Slot} (hl : lv_has ls 12 [(0, .ref (ad 0)), (1, .int a1), (2, .int a2)]) : W p l e rmM_apply s m args below meth c H locs 0 0 (MQ below (va_Qi (fun r u => (r, u) = fM_apply_10 a1 a2 σ) (mw_E D ad A) A) args s 0 0 A) (F0 m 10 ls []) := by
  obtain ⟨hx, hb, hr, hml, hown, hts, hlocks⟩ := id C
  refine lv_aload_n hx hb dM_apply_10 rfl (lv_at hl 0 rfl) ?_
  refine lv_iload_n hx hb dM_apply_11 rfl (lv_at hl 2 rfl) ?_
  refine lv_if_ge (tgt := 19) hx hb dM_apply_12 (by decide) (fun h1 => ?_) (fun h1 => ?_)
  · refine lv_iconst (v := 0) hx hb dM_apply_19 (by decide) ?_
    have hS9 : (SM_apply_20 a1 a2 0 σ) := by have w9 := hS; rw [SM_apply_10, if_pos h1] at w9; exact w9
    rw [(show fM_apply_10 a1 a2 σ = fM_apply_20 a1 a2 0 σ by rw [fM_apply_10, if_pos h1])]
    exact kM_apply_20 C hK hA a1 a2 0 σ (Or.inl rfl) (hS9) hM (lv_sub hl [0, 1, 2] rfl)
  · refine lv_iconst (v := 1) hx hb dM_apply_15 (by decide) ?_
    refine lv_goto (tgt := 20) hx hb dM_apply_16 (by decide) ?_
    have hS9 : (SM_apply_20 a1 a2 1 σ) := by have w9 := hS; rw [SM_apply_10, if_neg h1] at w9; exact w9
    rw [(show fM_apply_10 a1 a2 σ = fM_apply_20 a1 a2 1 σ by rw [fM_apply_10, if_neg h1])]
    exact kM_apply_20 C hK hA a1 a2 1 σ (Or.inr rfl) (hS9) hM (lv_sub hl [0, 1, 2] rfl)
set_option maxHeartbeats 4000000 in
set_option maxRecDepth 100000 in
theorem kM_apply_0 {p : Program} {l : Launch} {e : Env} {s : State} {m : MethodId} {args : Array Value} {below : List Frame} {meth : Method} {c : Code} (C : pw_C p s m args meth c cM_apply 12 (some .int) "BitNumbersModel") {D : va_G} {ad : Nat → Nat} {A : Nat → Prop} (hK : va_K D clM (tyA ad) s) (hA : ∀ q, s.heap.size ≤ q → A q) (a1 : Int32) (σ : MS) (hS : SM_apply a1 σ) {H : Heap} {locs : List Loc} (hM : mw D ad A s.heap H locs σ) {ls : Array Slot} (hl : lv_has ls 12 [(0, .ref (ad 0)), (1, .int a1)]) : W p l e rmM_apply s m args below meth c H locs 0 0 (MQ below (va_Qi (fun r u => (r, u) = fM_apply a1 σ) (mw_E D ad A) A) args s 0 0 A) (F0 m 0 ls []) := by
  obtain ⟨hx, hb, hr, hml, hown, hts, hlocks⟩ := id C
  refine lv_aload_n hx hb dM_apply_0 rfl (lv_at hl 0 rfl) ?_
  refine lv_iconst (v := 0) hx hb dM_apply_1 (by decide) ?_
  refine mw_put (v := .int 0) (ty := .int) (σ' := ms_set_trap σ 0) hx hb hts hown hK hM 1 (by decide) (hts _ w_488) rfl (by decide +kernel) rfl rfl (mw_pt_trap _ _ _) dM_apply_2 (fun H locs hM => ?_)
  refine lv_iload_n hx hb dM_apply_5 rfl (lv_at hl 1 rfl) ?_
  refine pw_call (va_runS (As := [.int a1]) (rest := []) ⟨hx, hb, hml, hown, hts⟩ (qM_operatorShape l a1) (va_cwS 1 hts (gS w_550 w_551 w_34 w_552) rfl rfl rfl (by decide +kernel) ⟨Nat.le_of_ble_eq_true rfl, Nat.le_of_ble_eq_true rfl⟩) ⟨pw_bT, fun U hU hW => ⟨rfl, trivial⟩⟩ rfl rfl hl.1 rfl (lv_room (Nat.le_of_ble_eq_true rfl)) dM_apply_6 ⟨Nat.zero_le _, Nat.zero_le _⟩) ?_
  refine lv_istore_n (lv' := [(2, .int (fM_operatorShape a1)), (0, .ref (ad 0)), (1, .int a1)]) hx hb dM_apply_9 rfl hl (by decide) rfl (fun ls hl => ?_)
  have hS9 : (SM_apply_10 a1 (fM_operatorShape a1) (ms_set_trap σ 0)) := by have w9 := hS; rw [SM_apply] at w9; exact w9
  rw [(show fM_apply a1 σ = fM_apply_10 a1 (fM_operatorShape a1) (ms_set_trap σ 0) by rw [fM_apply])]
  exact kM_apply_10 C hK hA a1 (fM_operatorShape a1) (ms_set_trap σ 0) (hS9) hM (lv_sub hl [1, 2, 0] rfl)
set_option maxHeartbeats 4000000 in
set_option maxRecDepth 100000 in
theorem qM_apply (l : Launch) (D : va_G) (ad : Nat → Nat) (a1 : Int32) (σ : MS) (sz : Nat) (hS : SM_apply a1 σ) : Met l yM_apply wsM_apply rmM_apply (va_Pc [.ref (ad 0), .int a1] (mw_B D ad σ sz)) (va_Qi (fun r u => (r, u) = fM_apply a1 σ) (mw_E D ad (va_A (mw_c ad σ) sz)) (va_A (mw_c ad σ) sz)) 0 0 (va_A (mw_c ad σ) sz) := by
  refine Met.ofW (cc := cM_apply) (maxL := 12) (ret := (some .int)) (by decide) rfl ?_
  intro p e s m args below meth c s₁ B hml hv
  obtain ⟨rfl, hsz, hP, hK, hD⟩ := hv
  have hts0 := atoms_spec (ws := wsM_apply) B.pre
  have hts := fun (w : Cond) (h : w ∈ aw) => hts0 w (List.mem_cons_of_mem _ h)
  have hown : s.vm.findClass "BitNumbersModel" = some m.cls := findClass_of_methodNamed B.named
  subst hsz
  have hl := lv_entry ([.ref (ad 0), .int a1]) (n := 12) (Nat.le_of_ble_eq_true rfl)
  rw [lg_entry_eq]
  generalize (lg_sl ([.ref (ad 0), .int a1]) ++ List.replicate (12 - (lg_sl ([.ref (ad 0), .int a1])).length) Slot.unset).toArray = ls at hl ⊢
  exact kM_apply_0 ⟨B.exec, B.bytes, B.returns, hml, hown, hts, B.notSynchronized⟩ hK (fun q h => Or.inr h) a1 σ hS ⟨hP, hD.self, va_S.rf⟩ hl

set_option maxHeartbeats 4000000 in
set_option maxRecDepth 100000 in
theorem kM_operator_10 {p : Program} {l : Launch} {e : Env} {s : State} {m : MethodId} {args : Array Value} {below : List Frame} {meth : Method} {c : Code} (C : pw_C p s m args meth c cM_operator 4 (some .int) "BitNumbersModel") {D : va_G} {ad : Nat → Nat} {A : Nat → Prop} (hK : va_K D clM (tyA ad) s) (hA : ∀ q, s.heap.size ≤ q → A q) (a2 : Int32) (a3 : Int32) (σ : MS) {H : Heap} {locs : List Loc} (hM : mw D ad A s.heap H locs σ) {ls : Array Slot} (hl : lv_has ls 4 [(2, .int a2), (3, .int a3)]) : W p l e rmM_operator s m args below meth c H locs 0 0 (MQ below (va_Qi (fun r u => (r, u) = fM_operator_10 a2 a3 σ) (mw_E D ad A) A) args s 0 0 A) (F0 m 10 ls []) := by
  obtain ⟨hx, hb, hr, hml, hown, hts, hlocks⟩ := id C
  refine lv_iload_n hx hb dM_operator_10 rfl (lv_at hl 1 rfl) ?_
  refine lv_if_ge (tgt := 16) hx hb dM_operator_11 (by decide) (fun h1 => ?_) (fun h1 => ?_)
  · refine lv_iload_n hx hb dM_operator_16 rfl (lv_at hl 0 rfl) ?_
    refine lv_if_ne (tgt := 27) hx hb dM_operator_17 (by decide) (fun h2 => ?_) (fun h2 => ?_)
    · refine lv_iload_n hx hb dM_operator_27 rfl (lv_at hl 0 rfl) ?_
      refine lv_iconst (v := 1) hx hb dM_operator_28 (by decide) ?_
      refine lv_icmp_ne (tgt := 40) hx hb dM_operator_29 (by decide) (fun h3 => ?_) (fun h3 => ?_)
      · refine lv_iload_n hx hb dM_operator_40 rfl (lv_at hl 0 rfl) ?_
        refine lv_iconst (v := 2) hx hb dM_operator_41 (by decide) ?_
        refine lv_icmp_ne (tgt := 51) hx hb dM_operator_42 (by decide) (fun h4 => ?_) (fun h4 => ?_)
        · refine lv_iconst (v := (-1)) hx hb dM_operator_51 (by decide) ?_
          exact W.iret (v := (-1)) hx hb hr (fun t ht hW => ⟨⟨(-1), σ, rfl, by rw [(show fM_operator_10 a2 a3 σ = ((-1), σ) by rw [fM_operator_10, if_pos h1, if_neg h2, if_neg h3, if_neg h4])], by rw [ht]; exact hM.1, va_K.moved hW.alike hK, hM.2.1⟩, hM.2.2.F ht⟩) hM.2.2.2.2 dM_operator_52
        · refine lv_iload_n hx hb dM_operator_45 rfl (lv_at hl 1 rfl) ?_
          refine lv_iconst (v := 4) hx hb dM_operator_46 (by decide) ?_
          refine lv_irem hx hb dM_operator_47 (by decide) ?_
          refine lv_goto (tgt := 52) hx hb dM_operator_48 (by decide) ?_
          exact W.iret (v := a3 - a3 / 4 * 4) hx hb hr (fun t ht hW => ⟨⟨a3 - a3 / 4 * 4, σ, rfl, by rw [(show fM_operator_10 a2 a3 σ = (a3 - a3 / 4 * 4, σ) by rw [fM_operator_10, if_pos h1, if_neg h2, if_neg h3, if_pos h4])], by rw [ht]; exact hM.1, va_K.moved hW.alike hK, hM.2.1⟩, hM.2.2.F ht⟩) hM.2.2.2.2 dM_operator_52
      · refine lv_iload_n hx hb dM_operator_32 rfl (lv_at hl 1 rfl) ?_
        refine lv_iconst (v := 4) hx hb dM_operator_33 (by decide) ?_
        refine lv_idiv hx hb dM_operator_34 (by decide) ?_
        refine lv_iconst (v := 4) hx hb dM_operator_35 (by decide) ?_
        refine lv_irem hx hb dM_operator_36 (by decide) ?_
        refine lv_goto (tgt := 52) hx hb dM_operator_37 (by decide) ?_
        exact W.iret (v := (a3 / 4) - (a3 / 4) / 4 * 4) hx hb hr (fun t ht hW => ⟨⟨(a3 / 4) - (a3 / 4) / 4 * 4, σ, rfl, by rw [(show fM_operator_10 a2 a3 σ = ((a3 / 4) - (a3 / 4) / 4 * 4, σ) by rw [fM_operator_10, if_pos h1, if_neg h2, if_pos h3])], by rw [ht]; exact hM.1, va_K.moved hW.alike hK, hM.2.1⟩, hM.2.2.F ht⟩) hM.2.2.2.2 dM_operator_52
    · refine lv_iload_n hx hb dM_operator_20 rfl (lv_at hl 1 rfl) ?_
      refine lv_bipush (v := 16) hx hb dM_operator_21 (by decide) ?_
      refine lv_idiv hx hb dM_operator_23 (by decide) ?_
      refine lv_goto (tgt := 52) hx hb dM_operator_24 (by decide) ?_
      exact W.iret (v := a3 / 16) hx hb hr (fun t ht hW => ⟨⟨a3 / 16, σ, rfl, by rw [(show fM_operator_10 a2 a3 σ = (a3 / 16, σ) by rw [fM_operator_10, if_pos h1, if_pos h2])], by rw [ht]; exact hM.1, va_K.moved hW.alike hK, hM.2.1⟩, hM.2.2.F ht⟩) hM.2.2.2.2 dM_operator_52
  · refine lv_iconst (v := (-1)) hx hb dM_operator_14 (by decide) ?_
    exact W.iret (v := (-1)) hx hb hr (fun t ht hW => ⟨⟨(-1), σ, rfl, by rw [(show fM_operator_10 a2 a3 σ = ((-1), σ) by rw [fM_operator_10, if_neg h1])], by rw [ht]; exact hM.1, va_K.moved hW.alike hK, hM.2.1⟩, hM.2.2.F ht⟩) hM.2.2.2.2 dM_operator_15
set_option maxHeartbeats 4000000 in
set_option maxRecDepth 100000 in
theorem kM_operator_0 {p : Program} {l : Launch} {e : Env} {s : State} {m : MethodId} {args : Array Value} {below : List Frame} {meth : Method} {c : Code} (C : pw_C p s m args meth c cM_operator 4 (some .int) "BitNumbersModel") {D : va_G} {ad : Nat → Nat} {A : Nat → Prop} (hK : va_K D clM (tyA ad) s) (hA : ∀ q, s.heap.size ≤ q → A q) (a1 : Int32) (a2 : Int32) (σ : MS) {H : Heap} {locs : List Loc} (hM : mw D ad A s.heap H locs σ) {ls : Array Slot} (hl : lv_has ls 4 [(0, .ref (ad 0)), (1, .int a1), (2, .int a2)]) : W p l e rmM_operator s m args below meth c H locs 0 0 (MQ below (va_Qi (fun r u => (r, u) = fM_operator a1 a2 σ) (mw_E D ad A) A) args s 0 0 A) (F0 m 0 ls []) := by
  obtain ⟨hx, hb, hr, hml, hown, hts, hlocks⟩ := id C
  refine lv_aload_n hx hb dM_operator_0 rfl (lv_at hl 0 rfl) ?_
  refine lv_iconst (v := 0) hx hb dM_operator_1 (by decide) ?_
  refine mw_put (v := .int 0) (ty := .int) (σ' := ms_set_thrown σ 0) hx hb hts hown hK hM 0 (by decide) (hts _ w_487) rfl (by decide +kernel) rfl rfl (mw_pt_thrown _ _ _) dM_operator_2 (fun H locs hM => ?_)
  refine lv_iload_n hx hb dM_operator_5 rfl (lv_at hl 1 rfl) ?_
  refine pw_call (va_runS (As := [.int a1]) (rest := []) ⟨hx, hb, hml, hown, hts⟩ (qM_operatorShape l a1) (va_cwS 1 hts (gS w_550 w_551 w_34 w_552) rfl rfl rfl (by decide +kernel) ⟨Nat.le_of_ble_eq_true rfl, Nat.le_of_ble_eq_true rfl⟩) ⟨pw_bT, fun U hU hW => ⟨rfl, trivial⟩⟩ rfl rfl hl.1 rfl (lv_room (Nat.le_of_ble_eq_true rfl)) dM_operator_6 ⟨Nat.zero_le _, Nat.zero_le _⟩) ?_
  refine lv_istore_n (lv' := [(3, .int (fM_operatorShape a1)), (0, .ref (ad 0)), (1, .int a1), (2, .int a2)]) hx hb dM_operator_9 rfl hl (by decide) rfl (fun ls hl => ?_)
  rw [(show fM_operator a1 a2 σ = fM_operator_10 a2 (fM_operatorShape a1) (ms_set_thrown σ 0) by rw [fM_operator])]
  exact kM_operator_10 C hK hA a2 (fM_operatorShape a1) (ms_set_thrown σ 0) hM (lv_sub hl [3, 0] rfl)
set_option maxHeartbeats 4000000 in
set_option maxRecDepth 100000 in
theorem qM_operator (l : Launch) (D : va_G) (ad : Nat → Nat) (a1 : Int32) (a2 : Int32) (σ : MS) (sz : Nat) : Met l yM_operator wsM_operator rmM_operator (va_Pc [.ref (ad 0), .int a1, .int a2] (mw_B D ad σ sz)) (va_Qi (fun r u => (r, u) = fM_operator a1 a2 σ) (mw_E D ad (va_A (mw_c ad σ) sz)) (va_A (mw_c ad σ) sz)) 0 0 (va_A (mw_c ad σ) sz) := by
  refine Met.ofW (cc := cM_operator) (maxL := 4) (ret := (some .int)) (by decide) rfl ?_
  intro p e s m args below meth c s₁ B hml hv
  obtain ⟨rfl, hsz, hP, hK, hD⟩ := hv
  have hts0 := atoms_spec (ws := wsM_operator) B.pre
  have hts := fun (w : Cond) (h : w ∈ aw) => hts0 w (List.mem_cons_of_mem _ h)
  have hown : s.vm.findClass "BitNumbersModel" = some m.cls := findClass_of_methodNamed B.named
  subst hsz
  have hl := lv_entry ([.ref (ad 0), .int a1, .int a2]) (n := 4) (Nat.le_of_ble_eq_true rfl)
  rw [lg_entry_eq]
  generalize (lg_sl ([.ref (ad 0), .int a1, .int a2]) ++ List.replicate (4 - (lg_sl ([.ref (ad 0), .int a1, .int a2])).length) Slot.unset).toArray = ls at hl ⊢
  exact kM_operator_0 ⟨B.exec, B.bytes, B.returns, hml, hown, hts, B.notSynchronized⟩ hK (fun q h => Or.inr h) a1 a2 σ ⟨hP, hD.self, va_S.rf⟩ hl

set_option maxHeartbeats 4000000 in
set_option maxRecDepth 100000 in
theorem kM_isThere_16 {p : Program} {l : Launch} {e : Env} {s : State} {m : MethodId} {args : Array Value} {below : List Frame} {meth : Method} {c : Code} (C : pw_C p s m args meth c cM_isThere 2 (some .boolean) "BitNumbersModel") {D : va_G} {ad : Nat → Nat} {A : Nat → Prop} (hK : va_K D clM (tyA ad) s) (hA : ∀ q, s.heap.size ≤ q → A q) (σ : MS) {H : Heap} {locs : List Loc} (hM : mw D ad A s.heap H locs σ) {ls : Array Slot} (hl : lv_has ls 2 []) : W p l e rmM_isThere s m args below meth c H locs 0 0 (MQ below (va_Qi (fun r u => (r, u) = fM_isThere_16 σ) (mw_E D ad A) A) args s 0 0 A) (F0 m 16 ls []) := by
  obtain ⟨hx, hb, hr, hml, hown, hts, hlocks⟩ := id C
  refine lv_iconst (v := 0) hx hb dM_isThere_16 (by decide) ?_
  exact W.zret (v := 0) hx hb hr (pw_nz (Or.inl rfl)) (fun t ht hW => ⟨⟨0, σ, rfl, by rw [(show fM_isThere_16 σ = (0, σ) by rw [fM_isThere_16])], by rw [ht]; exact hM.1, va_K.moved hW.alike hK, hM.2.1⟩, hM.2.2.F ht⟩) hM.2.2.2.2 dM_isThere_17
set_option maxHeartbeats 4000000 in
set_option maxRecDepth 100000 in
theorem kM_isThere_0 {p : Program} {l : Launch} {e : Env} {s : State} {m : MethodId} {args : Array Value} {below : List Frame} {meth : Method} {c : Code} (C : pw_C p s m args meth c cM_isThere 2 (some .boolean) "BitNumbersModel") {D : va_G} {ad : Nat → Nat} {A : Nat → Prop} (hK : va_K D clM (tyA ad) s) (hA : ∀ q, s.heap.size ≤ q → A q) (a1 : Int32) (σ : MS) {H : Heap} {locs : List Loc} (hM : mw D ad A s.heap H locs σ) {ls : Array Slot} (hl : lv_has ls 2 [(0, .ref (ad 0)), (1, .int a1)]) : W p l e rmM_isThere s m args below meth c H locs 0 0 (MQ below (va_Qi (fun r u => (r, u) = fM_isThere a1 σ) (mw_E D ad A) A) args s 0 0 A) (F0 m 0 ls []) := by
  obtain ⟨hx, hb, hr, hml, hown, hts, hlocks⟩ := id C
  refine lv_iload_n hx hb dM_isThere_0 rfl (lv_at hl 1 rfl) ?_
  refine lv_if_lt (tgt := 16) hx hb dM_isThere_1 (by decide) (fun h1 => ?_) (fun h1 => ?_)
  · rw [(show fM_isThere a1 σ = fM_isThere_16 σ by rw [fM_isThere, if_pos h1])]
    exact kM_isThere_16 C hK hA σ hM (lv_sub hl [] rfl)
  · refine lv_iload_n hx hb dM_isThere_4 rfl (lv_at hl 1 rfl) ?_
    refine lv_aload_n hx hb dM_isThere_5 rfl (lv_at hl 0 rfl) ?_
    refine mw_get (v := .int (ms_count σ)) hx hb hts hown hK hM 2 (by decide) (hts _ w_489) (mw_fd_count _ _) dM_isThere_6 ?_
    refine lv_icmp_ge (tgt := 16) hx hb dM_isThere_9 (by decide) (fun h2 => ?_) (fun h2 => ?_)
    · rw [(show fM_isThere a1 σ = fM_isThere_16 σ by rw [fM_isThere, if_neg h1, if_pos h2])]
      exact kM_isThere_16 C hK hA σ hM (lv_sub hl [] rfl)
    · refine lv_iconst (v := 1) hx hb dM_isThere_12 (by decide) ?_
      refine lv_goto (tgt := 17) hx hb dM_isThere_13 (by decide) ?_
      exact W.zret (v := 1) hx hb hr (pw_nz (Or.inr rfl)) (fun t ht hW => ⟨⟨1, σ, rfl, by rw [(show fM_isThere a1 σ = (1, σ) by rw [fM_isThere, if_neg h1, if_neg h2])], by rw [ht]; exact hM.1, va_K.moved hW.alike hK, hM.2.1⟩, hM.2.2.F ht⟩) hM.2.2.2.2 dM_isThere_17
set_option maxHeartbeats 4000000 in
set_option maxRecDepth 100000 in
theorem qM_isThere (l : Launch) (D : va_G) (ad : Nat → Nat) (a1 : Int32) (σ : MS) (sz : Nat) : Met l yM_isThere wsM_isThere rmM_isThere (va_Pc [.ref (ad 0), .int a1] (mw_B D ad σ sz)) (va_Qi (fun r u => (r, u) = fM_isThere a1 σ) (mw_E D ad (va_A (mw_c ad σ) sz)) (va_A (mw_c ad σ) sz)) 0 0 (va_A (mw_c ad σ) sz) := by
  refine Met.ofW (cc := cM_isThere) (maxL := 2) (ret := (some .boolean)) (by decide) rfl ?_
  intro p e s m args below meth c s₁ B hml hv
  obtain ⟨rfl, hsz, hP, hK, hD⟩ := hv
  have hts0 := atoms_spec (ws := wsM_isThere) B.pre
  have hts := fun (w : Cond) (h : w ∈ aw) => hts0 w (List.mem_cons_of_mem _ h)
  have hown : s.vm.findClass "BitNumbersModel" = some m.cls := findClass_of_methodNamed B.named
  subst hsz
  have hl := lv_entry ([.ref (ad 0), .int a1]) (n := 2) (Nat.le_of_ble_eq_true rfl)
  rw [lg_entry_eq]
  generalize (lg_sl ([.ref (ad 0), .int a1]) ++ List.replicate (2 - (lg_sl ([.ref (ad 0), .int a1])).length) Slot.unset).toArray = ls at hl ⊢
  exact kM_isThere_0 ⟨B.exec, B.bytes, B.returns, hml, hown, hts, B.notSynchronized⟩ hK (fun q h => Or.inr h) a1 σ ⟨hP, hD.self, va_S.rf⟩ hl

set_option maxHeartbeats 4000000 in
set_option maxRecDepth 100000 in
theorem kM_type_10 {p : Program} {l : Launch} {e : Env} {s : State} {m : MethodId} {args : Array Value} {below : List Frame} {meth : Method} {c : Code} (C : pw_C p s m args meth c cM_type 2 (some .int) "BitNumbersModel") {D : va_G} {ad : Nat → Nat} {A : Nat → Prop} (hK : va_K D clM (tyA ad) s) (hA : ∀ q, s.heap.size ≤ q → A q) (a1 : Int32) (s0 : Int32) (σ : MS) (hzs0 : s0 = 0 ∨ s0 = 1) (hS : SM_type_10 a1 s0 σ) {H : Heap} {locs : List Loc} (hM : mw D ad A s.heap H locs σ) {ls : Array Slot} (hl : lv_has ls 2 [(0, .ref (ad 0)), (1, .int a1)]) : W p l e rmM_type s m args below meth c H locs 0 0 (MQ below (va_Qi (fun r u => (r, u) = fM_type_10 a1 s0 σ) (mw_E D ad A) A) args s 0 0 A) (F0 m 10 ls [.int s0]) := by
  obtain ⟨hx, hb, hr, hml, hown, hts, hlocks⟩ := id C
  refine lv_if_eq (tgt := 29) hx hb dM_type_10 (by decide) (fun h1 => ?_) (fun h1 => ?_)
  · refine lv_iconst (v := (-1)) hx hb dM_type_29 (by decide) ?_
    exact W.iret (v := (-1)) hx hb hr (fun t ht hW => ⟨⟨(-1), σ, rfl, by rw [(show fM_type_10 a1 s0 σ = ((-1), σ) by rw [fM_type_10, if_pos h1])], by rw [ht]; exact hM.1, va_K.moved hW.alike hK, hM.2.1⟩, hM.2.2.F ht⟩) hM.2.2.2.2 dM_type_30
  · refine lv_aload_n hx hb dM_type_13 rfl (lv_at hl 0 rfl) ?_
    refine mw_get (v := .ref (ad 1)) hx hb hts hown hK hM 3 (by decide) (hts _ w_490) (mw_fd_types _ _) dM_type_14 ?_
    refine lv_aload_n hx hb dM_type_17 rfl (lv_at hl 0 rfl) ?_
    refine mw_get (v := .int (ms_count σ)) hx hb hts hown hK hM 2 (by decide) (hts _ w_489) (mw_fd_count _ _) dM_type_18 ?_
    refine lv_iconst (v := 1) hx hb dM_type_21 (by decide) ?_
    refine lv_isub hx hb dM_type_22 ?_
    refine lv_iload_n hx hb dM_type_23 rfl (lv_at hl 1 rfl) ?_
    refine lv_isub hx hb dM_type_24 ?_
    have hS25 : ((vp_in (((ms_count σ) - 1) - a1) 64) ∧ True) := by have w9 := hS; rw [SM_type_10, if_neg h1] at w9; exact w9
    refine mw_iald hx hb hK hM 1 (mw_ar_types _ _) (hS25.1) dM_type_25 ?_
    refine lv_goto (tgt := 30) hx hb dM_type_26 (by decide) ?_
    exact W.iret (v := ms_types σ (((ms_count σ) - 1) - a1).toNatClampNeg) hx hb hr (fun t ht hW => ⟨⟨ms_types σ (((ms_count σ) - 1) - a1).toNatClampNeg, σ, rfl, by rw [(show fM_type_10 a1 s0 σ = (ms_types σ (((ms_count σ) - 1) - a1).toNatClampNeg, σ) by rw [fM_type_10, if_neg h1])], by rw [ht]; exact hM.1, va_K.moved hW.alike hK, hM.2.1⟩, hM.2.2.F ht⟩) hM.2.2.2.2 dM_type_30
set_option maxHeartbeats 4000000 in
set_option maxRecDepth 100000 in
theorem kM_type_0 {p : Program} {l : Launch} {e : Env} {s : State} {m : MethodId} {args : Array Value} {below : List Frame} {meth : Method} {c : Code} (C : pw_C p s m args meth c cM_type 2 (some .int) "BitNumbersModel") {D : va_G} {ad : Nat → Nat} {A : Nat → Prop} (hK : va_K D clM (tyA ad) s) (hA : ∀ q, s.heap.size ≤ q → A q) (a1 : Int32) (σ : MS) (hS : SM_type a1 σ) {H : Heap} {locs : List Loc} (hM : mw D ad A s.heap H locs σ) {ls : Array Slot} (hl : lv_has ls 2 [(0, .ref (ad 0)), (1, .int a1)]) : W p l e rmM_type s m args below meth c H locs 0 0 (MQ below (va_Qi (fun r u => (r, u) = fM_type a1 σ) (mw_E D ad A) A) args s 0 0 A) (F0 m 0 ls []) := by
  obtain ⟨hx, hb, hr, hml, hown, hts, hlocks⟩ := id C
  refine lv_aload_n hx hb dM_type_0 rfl (lv_at hl 0 rfl) ?_
  refine lv_iconst (v := 0) hx hb dM_type_1 (by decide) ?_
  refine mw_put (v := .int 0) (ty := .int) (σ' := ms_set_thrown σ 0) hx hb hts hown hK hM 0 (by decide) (hts _ w_487) rfl (by decide +kernel) rfl rfl (mw_pt_thrown _ _ _) dM_type_2 (fun H locs hM => ?_)
  refine lv_aload_n hx hb dM_type_5 rfl (lv_at hl 0 rfl) ?_
  refine lv_iload_n hx hb dM_type_6 rfl (lv_at hl 1 rfl) ?_
  refine mw_calli (F := fM_isThere a1 (ms_set_thrown σ 0)) (va_runV (As := [.int a1]) (rest := []) ⟨hx, hb, hml, hown, hts⟩ (qM_isThere l D ad a1 (ms_set_thrown σ 0) H.size) (cwV 1 hts (gV w_786 w_788 w_31 w_34 w_789) rfl rfl rfl (by decide +kernel) ⟨Nat.le_of_ble_eq_true rfl, Nat.le_of_ble_eq_true rfl⟩) (mw_preV hK hM) rfl rfl hl.1 rfl (lv_room (Nat.le_of_ble_eq_true rfl)) dM_type_7 ⟨Nat.zero_le _, Nat.zero_le _⟩) hM hA (fun H locs hM => ?_)
  have hS9 : (SM_type_10 a1 ((fM_isThere a1 (ms_set_thrown σ 0)).1) ((fM_isThere a1 (ms_set_thrown σ 0)).2)) := by have w9 := hS; rw [SM_type] at w9; exact w9
  rw [(show fM_type a1 σ = fM_type_10 a1 ((fM_isThere a1 (ms_set_thrown σ 0)).1) ((fM_isThere a1 (ms_set_thrown σ 0)).2) by rw [fM_type])]
  exact kM_type_10 C hK hA a1 ((fM_isThere a1 (ms_set_thrown σ 0)).1) ((fM_isThere a1 (ms_set_thrown σ 0)).2) (zM_isThere a1 (ms_set_thrown σ 0)) (hS9) hM (lv_sub hl [0, 1] rfl)
set_option maxHeartbeats 4000000 in
set_option maxRecDepth 100000 in
theorem qM_type (l : Launch) (D : va_G) (ad : Nat → Nat) (a1 : Int32) (σ : MS) (sz : Nat) (hS : SM_type a1 σ) : Met l yM_type wsM_type rmM_type (va_Pc [.ref (ad 0), .int a1] (mw_B D ad σ sz)) (va_Qi (fun r u => (r, u) = fM_type a1 σ) (mw_E D ad (va_A (mw_c ad σ) sz)) (va_A (mw_c ad σ) sz)) 0 0 (va_A (mw_c ad σ) sz) := by
  refine Met.ofW (cc := cM_type) (maxL := 2) (ret := (some .int)) (by decide) rfl ?_
  intro p e s m args below meth c s₁ B hml hv
  obtain ⟨rfl, hsz, hP, hK, hD⟩ := hv
  have hts0 := atoms_spec (ws := wsM_type) B.pre
  have hts := fun (w : Cond) (h : w ∈ aw) => hts0 w (List.mem_cons_of_mem _ h)
  have hown : s.vm.findClass "BitNumbersModel" = some m.cls := findClass_of_methodNamed B.named
  subst hsz
  have hl := lv_entry ([.ref (ad 0), .int a1]) (n := 2) (Nat.le_of_ble_eq_true rfl)
  rw [lg_entry_eq]
  generalize (lg_sl ([.ref (ad 0), .int a1]) ++ List.replicate (2 - (lg_sl ([.ref (ad 0), .int a1])).length) Slot.unset).toArray = ls at hl ⊢
  exact kM_type_0 ⟨B.exec, B.bytes, B.returns, hml, hown, hts, B.notSynchronized⟩ hK (fun q h => Or.inr h) a1 σ hS ⟨hP, hD.self, va_S.rf⟩ hl

set_option maxHeartbeats 4000000 in
set_option maxRecDepth 100000 in
theorem kM_bits_10 {p : Program} {l : Launch} {e : Env} {s : State} {m : MethodId} {args : Array Value} {below : List Frame} {meth : Method} {c : Code} (C : pw_C p s m args meth c cM_bits 2 (some .long) "BitNumbersModel") {D : va_G} {ad : Nat → Nat} {A : Nat → Prop} (hK : va_K D clM (tyA ad) s) (hA : ∀ q, s.heap.size ≤ q → A q) (a1 : Int32) (s0 : Int32) (σ : MS) (hzs0 : s0 = 0 ∨ s0 = 1) (hS : SM_bits_10 a1 s0 σ) {H : Heap} {locs : List Loc} (hM : mw D ad A s.heap H locs σ) {ls : Array Slot} (hl : lv_has ls 2 [(0, .ref (ad 0)), (1, .int a1)]) : W p l e rmM_bits s m args below meth c H locs 0 0 (MQ below (va_Ql (fun r u => (r, u) = fM_bits_10 a1 s0 σ) (mw_E D ad A) A) args s 0 0 A) (F0 m 10 ls [.int s0]) := by
  obtain ⟨hx, hb, hr, hml, hown, hts, hlocks⟩ := id C
  refine lv_if_eq (tgt := 29) hx hb dM_bits_10 (by decide) (fun h1 => ?_) (fun h1 => ?_)
  · refine lv_lconst (v := 0) hx hb dM_bits_29 (by decide) ?_
    exact W.lret (v := 0) hx hb hr (fun t ht hW => ⟨⟨0, σ, rfl, by rw [(show fM_bits_10 a1 s0 σ = (0, σ) by rw [fM_bits_10, if_pos h1])], by rw [ht]; exact hM.1, va_K.moved hW.alike hK, hM.2.1⟩, hM.2.2.F ht⟩) hM.2.2.2.2 dM_bits_30
  · refine lv_aload_n hx hb dM_bits_13 rfl (lv_at hl 0 rfl) ?_
    refine mw_get (v := .ref (ad 2)) hx hb hts hown hK hM 4 (by decide) (hts _ w_491) (mw_fd_values _ _) dM_bits_14 ?_
    refine lv_aload_n hx hb dM_bits_17 rfl (lv_at hl 0 rfl) ?_
    refine mw_get (v := .int (ms_count σ)) hx hb hts hown hK hM 2 (by decide) (hts _ w_489) (mw_fd_count _ _) dM_bits_18 ?_
    refine lv_iconst (v := 1) hx hb dM_bits_21 (by decide) ?_
    refine lv_isub hx hb dM_bits_22 ?_
    refine lv_iload_n hx hb dM_bits_23 rfl (lv_at hl 1 rfl) ?_
    refine lv_isub hx hb dM_bits_24 ?_
    have hS25 : ((vp_in (((ms_count σ) - 1) - a1) 64) ∧ True) := by have w9 := hS; rw [SM_bits_10, if_neg h1] at w9; exact w9
    refine mw_lald hx hb hK hM 2 (mw_ar_values _ _) (hS25.1) dM_bits_25 ?_
    refine lv_goto (tgt := 30) hx hb dM_bits_26 (by decide) ?_
    exact W.lret (v := ms_values σ (((ms_count σ) - 1) - a1).toNatClampNeg) hx hb hr (fun t ht hW => ⟨⟨ms_values σ (((ms_count σ) - 1) - a1).toNatClampNeg, σ, rfl, by rw [(show fM_bits_10 a1 s0 σ = (ms_values σ (((ms_count σ) - 1) - a1).toNatClampNeg, σ) by rw [fM_bits_10, if_neg h1])], by rw [ht]; exact hM.1, va_K.moved hW.alike hK, hM.2.1⟩, hM.2.2.F ht⟩) hM.2.2.2.2 dM_bits_30
set_option maxHeartbeats 4000000 in
set_option maxRecDepth 100000 in
theorem kM_bits_0 {p : Program} {l : Launch} {e : Env} {s : State} {m : MethodId} {args : Array Value} {below : List Frame} {meth : Method} {c : Code} (C : pw_C p s m args meth c cM_bits 2 (some .long) "BitNumbersModel") {D : va_G} {ad : Nat → Nat} {A : Nat → Prop} (hK : va_K D clM (tyA ad) s) (hA : ∀ q, s.heap.size ≤ q → A q) (a1 : Int32) (σ : MS) (hS : SM_bits a1 σ) {H : Heap} {locs : List Loc} (hM : mw D ad A s.heap H locs σ) {ls : Array Slot} (hl : lv_has ls 2 [(0, .ref (ad 0)), (1, .int a1)]) : W p l e rmM_bits s m args below meth c H locs 0 0 (MQ below (va_Ql (fun r u => (r, u) = fM_bits a1 σ) (mw_E D ad A) A) args s 0 0 A) (F0 m 0 ls []) := by
  obtain ⟨hx, hb, hr, hml, hown, hts, hlocks⟩ := id C
  refine lv_aload_n hx hb dM_bits_0 rfl (lv_at hl 0 rfl) ?_
  refine lv_iconst (v := 0) hx hb dM_bits_1 (by decide) ?_
  refine mw_put (v := .int 0) (ty := .int) (σ' := ms_set_thrown σ 0) hx hb hts hown hK hM 0 (by decide) (hts _ w_487) rfl (by decide +kernel) rfl rfl (mw_pt_thrown _ _ _) dM_bits_2 (fun H locs hM => ?_)
  refine lv_aload_n hx hb dM_bits_5 rfl (lv_at hl 0 rfl) ?_
  refine lv_iload_n hx hb dM_bits_6 rfl (lv_at hl 1 rfl) ?_
  refine mw_calli (F := fM_isThere a1 (ms_set_thrown σ 0)) (va_runV (As := [.int a1]) (rest := []) ⟨hx, hb, hml, hown, hts⟩ (qM_isThere l D ad a1 (ms_set_thrown σ 0) H.size) (cwV 1 hts (gV w_786 w_788 w_31 w_34 w_789) rfl rfl rfl (by decide +kernel) ⟨Nat.le_of_ble_eq_true rfl, Nat.le_of_ble_eq_true rfl⟩) (mw_preV hK hM) rfl rfl hl.1 rfl (lv_room (Nat.le_of_ble_eq_true rfl)) dM_bits_7 ⟨Nat.zero_le _, Nat.zero_le _⟩) hM hA (fun H locs hM => ?_)
  have hS9 : (SM_bits_10 a1 ((fM_isThere a1 (ms_set_thrown σ 0)).1) ((fM_isThere a1 (ms_set_thrown σ 0)).2)) := by have w9 := hS; rw [SM_bits] at w9; exact w9
  rw [(show fM_bits a1 σ = fM_bits_10 a1 ((fM_isThere a1 (ms_set_thrown σ 0)).1) ((fM_isThere a1 (ms_set_thrown σ 0)).2) by rw [fM_bits])]
  exact kM_bits_10 C hK hA a1 ((fM_isThere a1 (ms_set_thrown σ 0)).1) ((fM_isThere a1 (ms_set_thrown σ 0)).2) (zM_isThere a1 (ms_set_thrown σ 0)) (hS9) hM (lv_sub hl [0, 1] rfl)
set_option maxHeartbeats 4000000 in
set_option maxRecDepth 100000 in
theorem qM_bits (l : Launch) (D : va_G) (ad : Nat → Nat) (a1 : Int32) (σ : MS) (sz : Nat) (hS : SM_bits a1 σ) : Met l yM_bits wsM_bits rmM_bits (va_Pc [.ref (ad 0), .int a1] (mw_B D ad σ sz)) (va_Ql (fun r u => (r, u) = fM_bits a1 σ) (mw_E D ad (va_A (mw_c ad σ) sz)) (va_A (mw_c ad σ) sz)) 0 0 (va_A (mw_c ad σ) sz) := by
  refine Met.ofW (cc := cM_bits) (maxL := 2) (ret := (some .long)) (by decide) rfl ?_
  intro p e s m args below meth c s₁ B hml hv
  obtain ⟨rfl, hsz, hP, hK, hD⟩ := hv
  have hts0 := atoms_spec (ws := wsM_bits) B.pre
  have hts := fun (w : Cond) (h : w ∈ aw) => hts0 w (List.mem_cons_of_mem _ h)
  have hown : s.vm.findClass "BitNumbersModel" = some m.cls := findClass_of_methodNamed B.named
  subst hsz
  have hl := lv_entry ([.ref (ad 0), .int a1]) (n := 2) (Nat.le_of_ble_eq_true rfl)
  rw [lg_entry_eq]
  generalize (lg_sl ([.ref (ad 0), .int a1]) ++ List.replicate (2 - (lg_sl ([.ref (ad 0), .int a1])).length) Slot.unset).toArray = ls at hl ⊢
  exact kM_bits_0 ⟨B.exec, B.bytes, B.returns, hml, hown, hts, B.notSynchronized⟩ hK (fun q h => Or.inr h) a1 σ hS ⟨hP, hD.self, va_S.rf⟩ hl

set_option maxHeartbeats 4000000 in
set_option maxRecDepth 100000 in
theorem kM_parts_70 {p : Program} {l : Launch} {e : Env} {s : State} {m : MethodId} {args : Array Value} {below : List Frame} {meth : Method} {c : Code} (C : pw_C p s m args meth c cM_parts 6 (some .int) "BitNumbersModel") {D : va_G} {ad : Nat → Nat} {A : Nat → Prop} (hK : va_K D clM (tyA ad) s) (hA : ∀ q, s.heap.size ≤ q → A q) (a2 : Int32) (a3 : Int32) (a4 : Int64) (σ : MS) (hS : SM_parts_70 a2 a3 a4 σ) {H : Heap} {locs : List Loc} (hM : mw D ad A s.heap H locs σ) {ls : Array Slot} (hl : lv_has ls 6 [(2, .int a2), (3, .int a3), (4, .long a4)]) : W p l e rmM_parts s m args below meth c H locs 0 0 (MQ below (va_Qi (fun r u => (r, u) = fM_parts_70 a2 a3 a4 σ) (mw_E D ad A) A) args s 0 0 A) (F0 m 70 ls []) := by
  obtain ⟨hx, hb, hr, hml, hown, hts, hlocks⟩ := id C
  refine lv_iload_n hx hb dM_parts_70 rfl (lv_at hl 0 rfl) ?_
  refine lv_if_ne (tgt := 89) hx hb dM_parts_71 (by decide) (fun h1 => ?_) (fun h1 => ?_)
  · refine lv_iload_n hx hb dM_parts_89 rfl (lv_at hl 0 rfl) ?_
    refine lv_iconst (v := 1) hx hb dM_parts_90 (by decide) ?_
    refine lv_icmp_ne (tgt := 101) hx hb dM_parts_91 (by decide) (fun h2 => ?_) (fun h2 => ?_)
    · refine lv_iload_n hx hb dM_parts_101 rfl (lv_at hl 1 rfl) ?_
      refine lv_lload hx hb dM_parts_102 (lv_at hl 2 rfl) ?_
      refine pw_call (va_runS (As := [.int a3, .long a4]) (rest := []) ⟨hx, hb, hml, hown, hts⟩ (qM_isNone l a3 a4) (va_cwS 2 hts (gS w_582 w_583 w_34 w_584) rfl rfl rfl (by decide +kernel) ⟨Nat.le_of_ble_eq_true rfl, Nat.le_of_ble_eq_true rfl⟩) ⟨pw_bT, fun U hU hW => ⟨rfl, trivial⟩⟩ rfl rfl hl.1 rfl (lv_room (Nat.le_of_ble_eq_true rfl)) dM_parts_104 ⟨Nat.zero_le _, Nat.zero_le _⟩) ?_
      refine lv_if_eq (tgt := 114) hx hb dM_parts_107 (by decide) (fun h3 => ?_) (fun h3 => ?_)
      · refine lv_iload_n hx hb dM_parts_114 rfl (lv_at hl 1 rfl) ?_
        refine lv_lload hx hb dM_parts_115 (lv_at hl 2 rfl) ?_
        refine pw_call (va_runS (As := [.int a3, .long a4]) (rest := []) ⟨hx, hb, hml, hown, hts⟩ (qM_isInfinite l a3 a4) (va_cwS 2 hts (gS w_660 w_661 w_34 w_662) rfl rfl rfl (by decide +kernel) ⟨Nat.le_of_ble_eq_true rfl, Nat.le_of_ble_eq_true rfl⟩) ⟨pw_bT, fun U hU hW => ⟨rfl, trivial⟩⟩ rfl rfl hl.1 rfl (lv_room (Nat.le_of_ble_eq_true rfl)) dM_parts_117 ⟨Nat.zero_le _, Nat.zero_le _⟩) ?_
        refine lv_if_eq (tgt := 127) hx hb dM_parts_120 (by decide) (fun h4 => ?_) (fun h4 => ?_)
        · refine lv_iload_n hx hb dM_parts_127 rfl (lv_at hl 1 rfl) ?_
          refine lv_lload hx hb dM_parts_128 (lv_at hl 2 rfl) ?_
          refine pw_call (va_runS (As := [.int a3, .long a4]) (rest := []) ⟨hx, hb, hml, hown, hts⟩ (qM_isZero l a3 a4) (va_cwS 2 hts (gS w_609 w_610 w_34 w_611) rfl rfl rfl (by decide +kernel) ⟨Nat.le_of_ble_eq_true rfl, Nat.le_of_ble_eq_true rfl⟩) ⟨pw_bT, fun U hU hW => ⟨rfl, trivial⟩⟩ rfl rfl hl.1 rfl (lv_room (Nat.le_of_ble_eq_true rfl)) dM_parts_130 ⟨Nat.zero_le _, Nat.zero_le _⟩) ?_
          refine lv_if_eq (tgt := 140) hx hb dM_parts_133 (by decide) (fun h5 => ?_) (fun h5 => ?_)
          · refine lv_iload_n hx hb dM_parts_140 rfl (lv_at hl 1 rfl) ?_
            refine lv_lload hx hb dM_parts_141 (lv_at hl 2 rfl) ?_
            refine pw_call (va_runS (As := [.int a3, .long a4]) (rest := []) ⟨hx, hb, hml, hown, hts⟩ (qM_exponent l a3 a4) (va_cwS 2 hts (gS w_585 w_586 w_34 w_587) rfl rfl rfl (by decide +kernel) ⟨Nat.le_of_ble_eq_true rfl, Nat.le_of_ble_eq_true rfl⟩) ⟨pw_bT, fun U hU hW => ⟨rfl, trivial⟩⟩ rfl rfl hl.1 rfl (lv_room (Nat.le_of_ble_eq_true rfl)) dM_parts_143 ⟨Nat.zero_le _, Nat.zero_le _⟩) ?_
            refine lv_if_ne (tgt := 153) hx hb dM_parts_146 (by decide) (fun h6 => ?_) (fun h6 => ?_)
            · refine lv_iconst (v := 2) hx hb dM_parts_153 (by decide) ?_
              exact W.iret (v := 2) hx hb hr (fun t ht hW => ⟨⟨2, σ, rfl, by rw [(show fM_parts_70 a2 a3 a4 σ = (2, σ) by rw [fM_parts_70, if_neg h1, if_neg h2, if_pos h3, if_pos h4, if_pos h5, if_neg h6])], by rw [ht]; exact hM.1, va_K.moved hW.alike hK, hM.2.1⟩, hM.2.2.F ht⟩) hM.2.2.2.2 dM_parts_154
            · refine lv_iconst (v := 1) hx hb dM_parts_149 (by decide) ?_
              refine lv_goto (tgt := 154) hx hb dM_parts_150 (by decide) ?_
              exact W.iret (v := 1) hx hb hr (fun t ht hW => ⟨⟨1, σ, rfl, by rw [(show fM_parts_70 a2 a3 a4 σ = (1, σ) by rw [fM_parts_70, if_neg h1, if_neg h2, if_pos h3, if_pos h4, if_pos h5, if_pos h6])], by rw [ht]; exact hM.1, va_K.moved hW.alike hK, hM.2.1⟩, hM.2.2.F ht⟩) hM.2.2.2.2 dM_parts_154
          · refine lv_iconst (v := 0) hx hb dM_parts_136 (by decide) ?_
            refine lv_goto (tgt := 154) hx hb dM_parts_137 (by decide) ?_
            exact W.iret (v := 0) hx hb hr (fun t ht hW => ⟨⟨0, σ, rfl, by rw [(show fM_parts_70 a2 a3 a4 σ = (0, σ) by rw [fM_parts_70, if_neg h1, if_neg h2, if_pos h3, if_pos h4, if_neg h5])], by rw [ht]; exact hM.1, va_K.moved hW.alike hK, hM.2.1⟩, hM.2.2.F ht⟩) hM.2.2.2.2 dM_parts_154
        · refine lv_iconst (v := 3) hx hb dM_parts_123 (by decide) ?_
          refine lv_goto (tgt := 154) hx hb dM_parts_124 (by decide) ?_
          exact W.iret (v := 3) hx hb hr (fun t ht hW => ⟨⟨3, σ, rfl, by rw [(show fM_parts_70 a2 a3 a4 σ = (3, σ) by rw [fM_parts_70, if_neg h1, if_neg h2, if_pos h3, if_neg h4])], by rw [ht]; exact hM.1, va_K.moved hW.alike hK, hM.2.1⟩, hM.2.2.F ht⟩) hM.2.2.2.2 dM_parts_154
      · refine lv_iconst (v := 4) hx hb dM_parts_110 (by decide) ?_
        refine lv_goto (tgt := 154) hx hb dM_parts_111 (by decide) ?_
        exact W.iret (v := 4) hx hb hr (fun t ht hW => ⟨⟨4, σ, rfl, by rw [(show fM_parts_70 a2 a3 a4 σ = (4, σ) by rw [fM_parts_70, if_neg h1, if_neg h2, if_neg h3])], by rw [ht]; exact hM.1, va_K.moved hW.alike hK, hM.2.1⟩, hM.2.2.F ht⟩) hM.2.2.2.2 dM_parts_154
    · refine lv_iload_n hx hb dM_parts_94 rfl (lv_at hl 1 rfl) ?_
      refine lv_lload hx hb dM_parts_95 (lv_at hl 2 rfl) ?_
      refine pw_call (va_runS (As := [.int a3, .long a4]) (rest := []) ⟨hx, hb, hml, hown, hts⟩ (qM_exponent l a3 a4) (va_cwS 2 hts (gS w_585 w_586 w_34 w_587) rfl rfl rfl (by decide +kernel) ⟨Nat.le_of_ble_eq_true rfl, Nat.le_of_ble_eq_true rfl⟩) ⟨pw_bT, fun U hU hW => ⟨rfl, trivial⟩⟩ rfl rfl hl.1 rfl (lv_room (Nat.le_of_ble_eq_true rfl)) dM_parts_97 ⟨Nat.zero_le _, Nat.zero_le _⟩) ?_
      exact W.iret (v := fM_exponent a3 a4) hx hb hr (fun t ht hW => ⟨⟨fM_exponent a3 a4, σ, rfl, by rw [(show fM_parts_70 a2 a3 a4 σ = (fM_exponent a3 a4, σ) by rw [fM_parts_70, if_neg h1, if_pos h2])], by rw [ht]; exact hM.1, va_K.moved hW.alike hK, hM.2.1⟩, hM.2.2.F ht⟩) hM.2.2.2.2 dM_parts_100
  · refine lv_iload_n hx hb dM_parts_74 rfl (lv_at hl 1 rfl) ?_
    refine lv_lload hx hb dM_parts_75 (lv_at hl 2 rfl) ?_
    refine pw_call (va_runS (As := [.int a3, .long a4]) (rest := []) ⟨hx, hb, hml, hown, hts⟩ (qM_isMinus l a3 a4) (va_cwS 2 hts (gS w_615 w_616 w_34 w_617) rfl rfl rfl (by decide +kernel) ⟨Nat.le_of_ble_eq_true rfl, Nat.le_of_ble_eq_true rfl⟩) ⟨pw_bT, fun U hU hW => ⟨rfl, trivial⟩⟩ rfl rfl hl.1 rfl (lv_room (Nat.le_of_ble_eq_true rfl)) dM_parts_77 ⟨Nat.zero_le _, Nat.zero_le _⟩) ?_
    refine lv_if_eq (tgt := 87) hx hb dM_parts_80 (by decide) (fun h7 => ?_) (fun h7 => ?_)
    · refine lv_iconst (v := 0) hx hb dM_parts_87 (by decide) ?_
      exact W.iret (v := 0) hx hb hr (fun t ht hW => ⟨⟨0, σ, rfl, by rw [(show fM_parts_70 a2 a3 a4 σ = (0, σ) by rw [fM_parts_70, if_pos h1, if_pos h7])], by rw [ht]; exact hM.1, va_K.moved hW.alike hK, hM.2.1⟩, hM.2.2.F ht⟩) hM.2.2.2.2 dM_parts_88
    · refine lv_iconst (v := 1) hx hb dM_parts_83 (by decide) ?_
      refine lv_goto (tgt := 88) hx hb dM_parts_84 (by decide) ?_
      exact W.iret (v := 1) hx hb hr (fun t ht hW => ⟨⟨1, σ, rfl, by rw [(show fM_parts_70 a2 a3 a4 σ = (1, σ) by rw [fM_parts_70, if_pos h1, if_neg h7])], by rw [ht]; exact hM.1, va_K.moved hW.alike hK, hM.2.1⟩, hM.2.2.F ht⟩) hM.2.2.2.2 dM_parts_88
set_option maxHeartbeats 4000000 in
set_option maxRecDepth 100000 in
theorem kM_parts_55 {p : Program} {l : Launch} {e : Env} {s : State} {m : MethodId} {args : Array Value} {below : List Frame} {meth : Method} {c : Code} (C : pw_C p s m args meth c cM_parts 6 (some .int) "BitNumbersModel") {D : va_G} {ad : Nat → Nat} {A : Nat → Prop} (hK : va_K D clM (tyA ad) s) (hA : ∀ q, s.heap.size ≤ q → A q) (a1 : Int32) (a2 : Int32) (a3 : Int32) (σ : MS) (hS : SM_parts_55 a1 a2 a3 σ) {H : Heap} {locs : List Loc} (hM : mw D ad A s.heap H locs σ) {ls : Array Slot} (hl : lv_has ls 6 [(0, .ref (ad 0)), (1, .int a1), (2, .int a2), (3, .int a3)]) : W p l e rmM_parts s m args below meth c H locs 0 0 (MQ below (va_Qi (fun r u => (r, u) = fM_parts_55 a1 a2 a3 σ) (mw_E D ad A) A) args s 0 0 A) (F0 m 55 ls []) := by
  obtain ⟨hx, hb, hr, hml, hown, hts, hlocks⟩ := id C
  refine lv_aload_n hx hb dM_parts_55 rfl (lv_at hl 0 rfl) ?_
  refine mw_get (v := .ref (ad 2)) hx hb hts hown hK hM 4 (by decide) (hts _ w_491) (mw_fd_values _ _) dM_parts_56 ?_
  refine lv_aload_n hx hb dM_parts_59 rfl (lv_at hl 0 rfl) ?_
  refine mw_get (v := .int (ms_count σ)) hx hb hts hown hK hM 2 (by decide) (hts _ w_489) (mw_fd_count _ _) dM_parts_60 ?_
  refine lv_iconst (v := 1) hx hb dM_parts_63 (by decide) ?_
  refine lv_isub hx hb dM_parts_64 ?_
  refine lv_iload_n hx hb dM_parts_65 rfl (lv_at hl 1 rfl) ?_
  refine lv_isub hx hb dM_parts_66 ?_
  have hS67 : ((vp_in (((ms_count σ) - 1) - a1) 64) ∧ (SM_parts_70 a2 a3 (ms_values σ (((ms_count σ) - 1) - a1).toNatClampNeg) σ)) := by have w9 := hS; rw [SM_parts_55] at w9; exact w9
  refine mw_lald hx hb hK hM 2 (mw_ar_values _ _) (hS67.1) dM_parts_67 ?_
  refine lv_lstore (lv' := [(4, .long (ms_values σ (((ms_count σ) - 1) - a1).toNatClampNeg)), (0, .ref (ad 0)), (1, .int a1), (2, .int a2), (3, .int a3)]) hx hb dM_parts_68 hl (by decide) rfl (fun ls hl => ?_)
  have hS9 : (SM_parts_70 a2 a3 (ms_values σ (((ms_count σ) - 1) - a1).toNatClampNeg) σ) := hS67.2
  rw [(show fM_parts_55 a1 a2 a3 σ = fM_parts_70 a2 a3 (ms_values σ (((ms_count σ) - 1) - a1).toNatClampNeg) σ by rw [fM_parts_55])]
  exact kM_parts_70 C hK hA a2 a3 (ms_values σ (((ms_count σ) - 1) - a1).toNatClampNeg) σ (hS9) hM (lv_sub hl [3, 4, 0] rfl)
set_option maxHeartbeats 4000000 in
set_option maxRecDepth 100000 in
theorem kM_parts_39 {p : Program} {l : Launch} {e : Env} {s : State} {m : MethodId} {args : Array Value} {below : List Frame} {meth : Method} {c : Code} (C : pw_C p s m args meth c cM_parts 6 (some .int) "BitNumbersModel") {D : va_G} {ad : Nat → Nat} {A : Nat → Prop} (hK : va_K D clM (tyA ad) s) (hA : ∀ q, s.heap.size ≤ q → A q) (σ : MS) (hS : SM_parts_39 σ) {H : Heap} {locs : List Loc} (hM : mw D ad A s.heap H locs σ) {ls : Array Slot} (hl : lv_has ls 6 []) : W p l e rmM_parts s m args below meth c H locs 0 0 (MQ below (va_Qi (fun r u => (r, u) = fM_parts_39 σ) (mw_E D ad A) A) args s 0 0 A) (F0 m 39 ls []) := by
  obtain ⟨hx, hb, hr, hml, hown, hts, hlocks⟩ := id C
  refine lv_iconst (v := (-1)) hx hb dM_parts_39 (by decide) ?_
  exact W.iret (v := (-1)) hx hb hr (fun t ht hW => ⟨⟨(-1), σ, rfl, by rw [(show fM_parts_39 σ = ((-1), σ) by rw [fM_parts_39])], by rw [ht]; exact hM.1, va_K.moved hW.alike hK, hM.2.1⟩, hM.2.2.F ht⟩) hM.2.2.2.2 dM_parts_40
set_option maxHeartbeats 4000000 in
set_option maxRecDepth 100000 in
theorem kM_parts_10 {p : Program} {l : Launch} {e : Env} {s : State} {m : MethodId} {args : Array Value} {below : List Frame} {meth : Method} {c : Code} (C : pw_C p s m args meth c cM_parts 6 (some .int) "BitNumbersModel") {D : va_G} {ad : Nat → Nat} {A : Nat → Prop} (hK : va_K D clM (tyA ad) s) (hA : ∀ q, s.heap.size ≤ q → A q) (a1 : Int32) (a2 : Int32) (s0 : Int32) (σ : MS) (hzs0 : s0 = 0 ∨ s0 = 1) (hS : SM_parts_10 a1 a2 s0 σ) {H : Heap} {locs : List Loc} (hM : mw D ad A s.heap H locs σ) {ls : Array Slot} (hl : lv_has ls 6 [(0, .ref (ad 0)), (1, .int a1), (2, .int a2)]) : W p l e rmM_parts s m args below meth c H locs 0 0 (MQ below (va_Qi (fun r u => (r, u) = fM_parts_10 a1 a2 s0 σ) (mw_E D ad A) A) args s 0 0 A) (F0 m 10 ls [.int s0]) := by
  obtain ⟨hx, hb, hr, hml, hown, hts, hlocks⟩ := id C
  refine lv_if_eq (tgt := 39) hx hb dM_parts_10 (by decide) (fun h1 => ?_) (fun h1 => ?_)
  · have hS9 : (SM_parts_39 σ) := by have w9 := hS; rw [SM_parts_10, if_pos h1] at w9; exact w9
    rw [(show fM_parts_10 a1 a2 s0 σ = fM_parts_39 σ by rw [fM_parts_10, if_pos h1])]
    exact kM_parts_39 C hK hA σ (hS9) hM (lv_sub hl [] rfl)
  · refine lv_aload_n hx hb dM_parts_13 rfl (lv_at hl 0 rfl) ?_
    refine mw_get (v := .ref (ad 1)) hx hb hts hown hK hM 3 (by decide) (hts _ w_490) (mw_fd_types _ _) dM_parts_14 ?_
    refine lv_aload_n hx hb dM_parts_17 rfl (lv_at hl 0 rfl) ?_
    refine mw_get (v := .int (ms_count σ)) hx hb hts hown hK hM 2 (by decide) (hts _ w_489) (mw_fd_count _ _) dM_parts_18 ?_
    refine lv_iconst (v := 1) hx hb dM_parts_21 (by decide) ?_
    refine lv_isub hx hb dM_parts_22 ?_
    refine lv_iload_n hx hb dM_parts_23 rfl (lv_at hl 1 rfl) ?_
    refine lv_isub hx hb dM_parts_24 ?_
    have hS25 : ((vp_in (((ms_count σ) - 1) - a1) 64) ∧ (if (ms_types σ (((ms_count σ) - 1) - a1).toNatClampNeg) < 2 then (SM_parts_39 σ) else (if a2 < 0 then (SM_parts_39 σ) else (if a2 ≤ 2 then ((vp_in (((ms_count σ) - 1) - a1) 64) ∧ (SM_parts_55 a1 a2 (ms_types σ (((ms_count σ) - 1) - a1).toNatClampNeg) σ)) else (SM_parts_39 σ))))) := by have w9 := hS; rw [SM_parts_10, if_neg h1] at w9; exact w9
    refine mw_iald hx hb hK hM 1 (mw_ar_types _ _) (hS25.1) dM_parts_25 ?_
    refine lv_iconst (v := 2) hx hb dM_parts_26 (by decide) ?_
    refine lv_icmp_lt (tgt := 39) hx hb dM_parts_27 (by decide) (fun h2 => ?_) (fun h2 => ?_)
    · have hS9 : (SM_parts_39 σ) := by have w9 := hS25.2; rw [if_pos h2] at w9; exact w9
      rw [(show fM_parts_10 a1 a2 s0 σ = fM_parts_39 σ by rw [fM_parts_10, if_neg h1, if_pos h2])]
      exact kM_parts_39 C hK hA σ (hS9) hM (lv_sub hl [] rfl)
    · refine lv_iload_n hx hb dM_parts_30 rfl (lv_at hl 2 rfl) ?_
      refine lv_if_lt (tgt := 39) hx hb dM_parts_31 (by decide) (fun h3 => ?_) (fun h3 => ?_)
      · have hS9 : (SM_parts_39 σ) := by have w9 := hS25.2; rw [if_neg h2, if_pos h3] at w9; exact w9
        rw [(show fM_parts_10 a1 a2 s0 σ = fM_parts_39 σ by rw [fM_parts_10, if_neg h1, if_neg h2, if_pos h3])]
        exact kM_parts_39 C hK hA σ (hS9) hM (lv_sub hl [] rfl)
      · refine lv_iload_n hx hb dM_parts_34 rfl (lv_at hl 2 rfl) ?_
        refine lv_iconst (v := 2) hx hb dM_parts_35 (by decide) ?_
        refine lv_icmp_le (tgt := 41) hx hb dM_parts_36 (by decide) (fun h4 => ?_) (fun h4 => ?_)
        · refine lv_aload_n hx hb dM_parts_41 rfl (lv_at hl 0 rfl) ?_
          refine mw_get (v := .ref (ad 1)) hx hb hts hown hK hM 3 (by decide) (hts _ w_490) (mw_fd_types _ _) dM_parts_42 ?_
          refine lv_aload_n hx hb dM_parts_45 rfl (lv_at hl 0 rfl) ?_
          refine mw_get (v := .int (ms_count σ)) hx hb hts hown hK hM 2 (by decide) (hts _ w_489) (mw_fd_count _ _) dM_parts_46 ?_
          refine lv_iconst (v := 1) hx hb dM_parts_49 (by decide) ?_
          refine lv_isub hx hb dM_parts_50 ?_
          refine lv_iload_n hx hb dM_parts_51 rfl (lv_at hl 1 rfl) ?_
          refine lv_isub hx hb dM_parts_52 ?_
          have hS53 : ((vp_in (((ms_count σ) - 1) - a1) 64) ∧ (SM_parts_55 a1 a2 (ms_types σ (((ms_count σ) - 1) - a1).toNatClampNeg) σ)) := by have w9 := hS25.2; rw [if_neg h2, if_neg h3, if_pos h4] at w9; exact w9
          refine mw_iald hx hb hK hM 1 (mw_ar_types _ _) (hS53.1) dM_parts_53 ?_
          refine lv_istore_n (lv' := [(3, .int (ms_types σ (((ms_count σ) - 1) - a1).toNatClampNeg)), (0, .ref (ad 0)), (1, .int a1), (2, .int a2)]) hx hb dM_parts_54 rfl hl (by decide) rfl (fun ls hl => ?_)
          have hS9 : (SM_parts_55 a1 a2 (ms_types σ (((ms_count σ) - 1) - a1).toNatClampNeg) σ) := hS53.2
          rw [(show fM_parts_10 a1 a2 s0 σ = fM_parts_55 a1 a2 (ms_types σ (((ms_count σ) - 1) - a1).toNatClampNeg) σ by rw [fM_parts_10, if_neg h1, if_neg h2, if_neg h3, if_pos h4])]
          exact kM_parts_55 C hK hA a1 a2 (ms_types σ (((ms_count σ) - 1) - a1).toNatClampNeg) σ (hS9) hM (lv_sub hl [1, 2, 3, 0] rfl)
        · have hS9 : (SM_parts_39 σ) := by have w9 := hS25.2; rw [if_neg h2, if_neg h3, if_neg h4] at w9; exact w9
          rw [(show fM_parts_10 a1 a2 s0 σ = fM_parts_39 σ by rw [fM_parts_10, if_neg h1, if_neg h2, if_neg h3, if_neg h4])]
          exact kM_parts_39 C hK hA σ (hS9) hM (lv_sub hl [] rfl)
set_option maxHeartbeats 4000000 in
set_option maxRecDepth 100000 in
theorem kM_parts_0 {p : Program} {l : Launch} {e : Env} {s : State} {m : MethodId} {args : Array Value} {below : List Frame} {meth : Method} {c : Code} (C : pw_C p s m args meth c cM_parts 6 (some .int) "BitNumbersModel") {D : va_G} {ad : Nat → Nat} {A : Nat → Prop} (hK : va_K D clM (tyA ad) s) (hA : ∀ q, s.heap.size ≤ q → A q) (a1 : Int32) (a2 : Int32) (σ : MS) (hS : SM_parts a1 a2 σ) {H : Heap} {locs : List Loc} (hM : mw D ad A s.heap H locs σ) {ls : Array Slot} (hl : lv_has ls 6 [(0, .ref (ad 0)), (1, .int a1), (2, .int a2)]) : W p l e rmM_parts s m args below meth c H locs 0 0 (MQ below (va_Qi (fun r u => (r, u) = fM_parts a1 a2 σ) (mw_E D ad A) A) args s 0 0 A) (F0 m 0 ls []) := by
  obtain ⟨hx, hb, hr, hml, hown, hts, hlocks⟩ := id C
  refine lv_aload_n hx hb dM_parts_0 rfl (lv_at hl 0 rfl) ?_
  refine lv_iconst (v := 0) hx hb dM_parts_1 (by decide) ?_
  refine mw_put (v := .int 0) (ty := .int) (σ' := ms_set_thrown σ 0) hx hb hts hown hK hM 0 (by decide) (hts _ w_487) rfl (by decide +kernel) rfl rfl (mw_pt_thrown _ _ _) dM_parts_2 (fun H locs hM => ?_)
  refine lv_aload_n hx hb dM_parts_5 rfl (lv_at hl 0 rfl) ?_
  refine lv_iload_n hx hb dM_parts_6 rfl (lv_at hl 1 rfl) ?_
  refine mw_calli (F := fM_isThere a1 (ms_set_thrown σ 0)) (va_runV (As := [.int a1]) (rest := []) ⟨hx, hb, hml, hown, hts⟩ (qM_isThere l D ad a1 (ms_set_thrown σ 0) H.size) (cwV 1 hts (gV w_786 w_788 w_31 w_34 w_789) rfl rfl rfl (by decide +kernel) ⟨Nat.le_of_ble_eq_true rfl, Nat.le_of_ble_eq_true rfl⟩) (mw_preV hK hM) rfl rfl hl.1 rfl (lv_room (Nat.le_of_ble_eq_true rfl)) dM_parts_7 ⟨Nat.zero_le _, Nat.zero_le _⟩) hM hA (fun H locs hM => ?_)
  have hS9 : (SM_parts_10 a1 a2 ((fM_isThere a1 (ms_set_thrown σ 0)).1) ((fM_isThere a1 (ms_set_thrown σ 0)).2)) := by have w9 := hS; rw [SM_parts] at w9; exact w9
  rw [(show fM_parts a1 a2 σ = fM_parts_10 a1 a2 ((fM_isThere a1 (ms_set_thrown σ 0)).1) ((fM_isThere a1 (ms_set_thrown σ 0)).2) by rw [fM_parts])]
  exact kM_parts_10 C hK hA a1 a2 ((fM_isThere a1 (ms_set_thrown σ 0)).1) ((fM_isThere a1 (ms_set_thrown σ 0)).2) (zM_isThere a1 (ms_set_thrown σ 0)) (hS9) hM (lv_sub hl [0, 1, 2] rfl)
set_option maxHeartbeats 4000000 in
set_option maxRecDepth 100000 in
theorem qM_parts (l : Launch) (D : va_G) (ad : Nat → Nat) (a1 : Int32) (a2 : Int32) (σ : MS) (sz : Nat) (hS : SM_parts a1 a2 σ) : Met l yM_parts wsM_parts rmM_parts (va_Pc [.ref (ad 0), .int a1, .int a2] (mw_B D ad σ sz)) (va_Qi (fun r u => (r, u) = fM_parts a1 a2 σ) (mw_E D ad (va_A (mw_c ad σ) sz)) (va_A (mw_c ad σ) sz)) 0 0 (va_A (mw_c ad σ) sz) := by
  refine Met.ofW (cc := cM_parts) (maxL := 6) (ret := (some .int)) (by decide) rfl ?_
  intro p e s m args below meth c s₁ B hml hv
  obtain ⟨rfl, hsz, hP, hK, hD⟩ := hv
  have hts0 := atoms_spec (ws := wsM_parts) B.pre
  have hts := fun (w : Cond) (h : w ∈ aw) => hts0 w (List.mem_cons_of_mem _ h)
  have hown : s.vm.findClass "BitNumbersModel" = some m.cls := findClass_of_methodNamed B.named
  subst hsz
  have hl := lv_entry ([.ref (ad 0), .int a1, .int a2]) (n := 6) (Nat.le_of_ble_eq_true rfl)
  rw [lg_entry_eq]
  generalize (lg_sl ([.ref (ad 0), .int a1, .int a2]) ++ List.replicate (6 - (lg_sl ([.ref (ad 0), .int a1, .int a2])).length) Slot.unset).toArray = ls at hl ⊢
  exact kM_parts_0 ⟨B.exec, B.bytes, B.returns, hml, hown, hts, B.notSynchronized⟩ hK (fun q h => Or.inr h) a1 a2 σ hS ⟨hP, hD.self, va_S.rf⟩ hl

set_option maxHeartbeats 4000000 in
set_option maxRecDepth 100000 in
theorem kM_copy_22 {p : Program} {l : Launch} {e : Env} {s : State} {m : MethodId} {args : Array Value} {below : List Frame} {meth : Method} {c : Code} (C : pw_C p s m args meth c cM_copy 2 (some .int) "BitNumbersModel") {D : va_G} {ad : Nat → Nat} {A : Nat → Prop} (hK : va_K D clM (tyA ad) s) (hA : ∀ q, s.heap.size ≤ q → A q) (σ : MS) (hS : SM_copy_22 σ) {H : Heap} {locs : List Loc} (hM : mw D ad A s.heap H locs σ) {ls : Array Slot} (hl : lv_has ls 2 []) : W p l e rmM_copy s m args below meth c H locs 0 0 (MQ below (va_Qi (fun r u => (r, u) = fM_copy_22 σ) (mw_E D ad A) A) args s 0 0 A) (F0 m 22 ls []) := by
  obtain ⟨hx, hb, hr, hml, hown, hts, hlocks⟩ := id C
  refine lv_iconst (v := (-1)) hx hb dM_copy_22 (by decide) ?_
  exact W.iret (v := (-1)) hx hb hr (fun t ht hW => ⟨⟨(-1), σ, rfl, by rw [(show fM_copy_22 σ = ((-1), σ) by rw [fM_copy_22])], by rw [ht]; exact hM.1, va_K.moved hW.alike hK, hM.2.1⟩, hM.2.2.F ht⟩) hM.2.2.2.2 dM_copy_23
set_option maxHeartbeats 4000000 in
set_option maxRecDepth 100000 in
theorem kM_copy_10 {p : Program} {l : Launch} {e : Env} {s : State} {m : MethodId} {args : Array Value} {below : List Frame} {meth : Method} {c : Code} (C : pw_C p s m args meth c cM_copy 2 (some .int) "BitNumbersModel") {D : va_G} {ad : Nat → Nat} {A : Nat → Prop} (hK : va_K D clM (tyA ad) s) (hA : ∀ q, s.heap.size ≤ q → A q) (a1 : Int32) (s0 : Int32) (σ : MS) (hzs0 : s0 = 0 ∨ s0 = 1) (hS : SM_copy_10 a1 s0 σ) {H : Heap} {locs : List Loc} (hM : mw D ad A s.heap H locs σ) {ls : Array Slot} (hl : lv_has ls 2 [(0, .ref (ad 0)), (1, .int a1)]) : W p l e rmM_copy s m args below meth c H locs 0 0 (MQ below (va_Qi (fun r u => (r, u) = fM_copy_10 a1 s0 σ) (mw_E D ad A) A) args s 0 0 A) (F0 m 10 ls [.int s0]) := by
  obtain ⟨hx, hb, hr, hml, hown, hts, hlocks⟩ := id C
  refine lv_if_eq (tgt := 22) hx hb dM_copy_10 (by decide) (fun h1 => ?_) (fun h1 => ?_)
  · have hS9 : (SM_copy_22 σ) := by have w9 := hS; rw [SM_copy_10, if_pos h1] at w9; exact w9
    rw [(show fM_copy_10 a1 s0 σ = fM_copy_22 σ by rw [fM_copy_10, if_pos h1])]
    exact kM_copy_22 C hK hA σ (hS9) hM (lv_sub hl [] rfl)
  · refine lv_aload_n hx hb dM_copy_13 rfl (lv_at hl 0 rfl) ?_
    refine mw_get (v := .int (ms_count σ)) hx hb hts hown hK hM 2 (by decide) (hts _ w_489) (mw_fd_count _ _) dM_copy_14 ?_
    refine lv_bipush (v := 64) hx hb dM_copy_17 (by decide) ?_
    refine lv_icmp_ne (tgt := 24) hx hb dM_copy_19 (by decide) (fun h2 => ?_) (fun h2 => ?_)
    · refine lv_aload_n hx hb dM_copy_24 rfl (lv_at hl 0 rfl) ?_
      refine mw_get (v := .ref (ad 1)) hx hb hts hown hK hM 3 (by decide) (hts _ w_490) (mw_fd_types _ _) dM_copy_25 ?_
      refine lv_aload_n hx hb dM_copy_28 rfl (lv_at hl 0 rfl) ?_
      refine mw_get (v := .int (ms_count σ)) hx hb hts hown hK hM 2 (by decide) (hts _ w_489) (mw_fd_count _ _) dM_copy_29 ?_
      refine lv_aload_n hx hb dM_copy_32 rfl (lv_at hl 0 rfl) ?_
      refine mw_get (v := .ref (ad 1)) hx hb hts hown hK hM 3 (by decide) (hts _ w_490) (mw_fd_types _ _) dM_copy_33 ?_
      refine lv_aload_n hx hb dM_copy_36 rfl (lv_at hl 0 rfl) ?_
      refine mw_get (v := .int (ms_count σ)) hx hb hts hown hK hM 2 (by decide) (hts _ w_489) (mw_fd_count _ _) dM_copy_37 ?_
      refine lv_iconst (v := 1) hx hb dM_copy_40 (by decide) ?_
      refine lv_isub hx hb dM_copy_41 ?_
      refine lv_iload_n hx hb dM_copy_42 rfl (lv_at hl 1 rfl) ?_
      refine lv_isub hx hb dM_copy_43 ?_
      have hS44 : ((vp_in (((ms_count σ) - 1) - a1) 64) ∧ ((vp_in (ms_count σ) 64) ∧ ((vp_in (((ms_count (ms_set_types σ (upd (ms_types σ) (ms_count σ).toNatClampNeg (ms_types σ (((ms_count σ) - 1) - a1).toNatClampNeg)))) - 1) - a1) 64) ∧ ((vp_in (ms_count (ms_set_types σ (upd (ms_types σ) (ms_count σ).toNatClampNeg (ms_types σ (((ms_count σ) - 1) - a1).toNatClampNeg)))) 64) ∧ True)))) := by have w9 := hS; rw [SM_copy_10, if_neg h1, if_neg h2] at w9; exact w9
      refine mw_iald hx hb hK hM 1 (mw_ar_types _ _) (hS44.1) dM_copy_44 ?_
      have hS45 : ((vp_in (ms_count σ) 64) ∧ ((vp_in (((ms_count (ms_set_types σ (upd (ms_types σ) (ms_count σ).toNatClampNeg (ms_types σ (((ms_count σ) - 1) - a1).toNatClampNeg)))) - 1) - a1) 64) ∧ ((vp_in (ms_count (ms_set_types σ (upd (ms_types σ) (ms_count σ).toNatClampNeg (ms_types σ (((ms_count σ) - 1) - a1).toNatClampNeg)))) 64) ∧ True))) := hS44.2
      refine mw_iast (σ' := ms_set_types σ (upd (ms_types σ) (ms_count σ).toNatClampNeg (ms_types σ (((ms_count σ) - 1) - a1).toNatClampNeg))) hx hb hK hM 1 (mw_ar_types _ _) (hS45.1) (mw_st_types _ _ _) dM_copy_45 (fun H locs hM => ?_)
      refine lv_aload_n hx hb dM_copy_46 rfl (lv_at hl 0 rfl) ?_
      refine mw_get (v := .ref (ad 2)) hx hb hts hown hK hM 4 (by decide) (hts _ w_491) (mw_fd_values _ _) dM_copy_47 ?_
      refine lv_aload_n hx hb dM_copy_50 rfl (lv_at hl 0 rfl) ?_
      refine mw_get (v := .int (ms_count (ms_set_types σ (upd (ms_types σ) (ms_count σ).toNatClampNeg (ms_types σ (((ms_count σ) - 1) - a1).toNatClampNeg))))) hx hb hts hown hK hM 2 (by decide) (hts _ w_489) (mw_fd_count _ _) dM_copy_51 ?_
      refine lv_aload_n hx hb dM_copy_54 rfl (lv_at hl 0 rfl) ?_
      refine mw_get (v := .ref (ad 2)) hx hb hts hown hK hM 4 (by decide) (hts _ w_491) (mw_fd_values _ _) dM_copy_55 ?_
      refine lv_aload_n hx hb dM_copy_58 rfl (lv_at hl 0 rfl) ?_
      refine mw_get (v := .int (ms_count (ms_set_types σ (upd (ms_types σ) (ms_count σ).toNatClampNeg (ms_types σ (((ms_count σ) - 1) - a1).toNatClampNeg))))) hx hb hts hown hK hM 2 (by decide) (hts _ w_489) (mw_fd_count _ _) dM_copy_59 ?_
      refine lv_iconst (v := 1) hx hb dM_copy_62 (by decide) ?_
      refine lv_isub hx hb dM_copy_63 ?_
      refine lv_iload_n hx hb dM_copy_64 rfl (lv_at hl 1 rfl) ?_
      refine lv_isub hx hb dM_copy_65 ?_
      have hS66 : ((vp_in (((ms_count (ms_set_types σ (upd (ms_types σ) (ms_count σ).toNatClampNeg (ms_types σ (((ms_count σ) - 1) - a1).toNatClampNeg)))) - 1) - a1) 64) ∧ ((vp_in (ms_count (ms_set_types σ (upd (ms_types σ) (ms_count σ).toNatClampNeg (ms_types σ (((ms_count σ) - 1) - a1).toNatClampNeg)))) 64) ∧ True)) := hS45.2
      refine mw_lald hx hb hK hM 2 (mw_ar_values _ _) (hS66.1) dM_copy_66 ?_
      have hS67 : ((vp_in (ms_count (ms_set_types σ (upd (ms_types σ) (ms_count σ).toNatClampNeg (ms_types σ (((ms_count σ) - 1) - a1).toNatClampNeg)))) 64) ∧ True) := hS66.2
      refine mw_last (σ' := ms_set_values (ms_set_types σ (upd (ms_types σ) (ms_count σ).toNatClampNeg (ms_types σ (((ms_count σ) - 1) - a1).toNatClampNeg))) (vp_updL (ms_values (ms_set_types σ (upd (ms_types σ) (ms_count σ).toNatClampNeg (ms_types σ (((ms_count σ) - 1) - a1).toNatClampNeg)))) (ms_count (ms_set_types σ (upd (ms_types σ) (ms_count σ).toNatClampNeg (ms_types σ (((ms_count σ) - 1) - a1).toNatClampNeg)))).toNatClampNeg (ms_values (ms_set_types σ (upd (ms_types σ) (ms_count σ).toNatClampNeg (ms_types σ (((ms_count σ) - 1) - a1).toNatClampNeg))) (((ms_count (ms_set_types σ (upd (ms_types σ) (ms_count σ).toNatClampNeg (ms_types σ (((ms_count σ) - 1) - a1).toNatClampNeg)))) - 1) - a1).toNatClampNeg))) hx hb hK hM 2 (mw_ar_values _ _) (hS67.1) (mw_st_values _ _ _) dM_copy_67 (fun H locs hM => ?_)
      refine lv_aload_n hx hb dM_copy_68 rfl (lv_at hl 0 rfl) ?_
      refine lv_dup hx hb dM_copy_69 rfl ?_
      refine mw_get (v := .int (ms_count (ms_set_values (ms_set_types σ (upd (ms_types σ) (ms_count σ).toNatClampNeg (ms_types σ (((ms_count σ) - 1) - a1).toNatClampNeg))) (vp_updL (ms_values (ms_set_types σ (upd (ms_types σ) (ms_count σ).toNatClampNeg (ms_types σ (((ms_count σ) - 1) - a1).toNatClampNeg)))) (ms_count (ms_set_types σ (upd (ms_types σ) (ms_count σ).toNatClampNeg (ms_types σ (((ms_count σ) - 1) - a1).toNatClampNeg)))).toNatClampNeg (ms_values (ms_set_types σ (upd (ms_types σ) (ms_count σ).toNatClampNeg (ms_types σ (((ms_count σ) - 1) - a1).toNatClampNeg))) (((ms_count (ms_set_types σ (upd (ms_types σ) (ms_count σ).toNatClampNeg (ms_types σ (((ms_count σ) - 1) - a1).toNatClampNeg)))) - 1) - a1).toNatClampNeg))))) hx hb hts hown hK hM 2 (by decide) (hts _ w_489) (mw_fd_count _ _) dM_copy_70 ?_
      refine lv_iconst (v := 1) hx hb dM_copy_73 (by decide) ?_
      refine lv_iadd hx hb dM_copy_74 ?_
      refine mw_put (v := .int ((ms_count (ms_set_values (ms_set_types σ (upd (ms_types σ) (ms_count σ).toNatClampNeg (ms_types σ (((ms_count σ) - 1) - a1).toNatClampNeg))) (vp_updL (ms_values (ms_set_types σ (upd (ms_types σ) (ms_count σ).toNatClampNeg (ms_types σ (((ms_count σ) - 1) - a1).toNatClampNeg)))) (ms_count (ms_set_types σ (upd (ms_types σ) (ms_count σ).toNatClampNeg (ms_types σ (((ms_count σ) - 1) - a1).toNatClampNeg)))).toNatClampNeg (ms_values (ms_set_types σ (upd (ms_types σ) (ms_count σ).toNatClampNeg (ms_types σ (((ms_count σ) - 1) - a1).toNatClampNeg))) (((ms_count (ms_set_types σ (upd (ms_types σ) (ms_count σ).toNatClampNeg (ms_types σ (((ms_count σ) - 1) - a1).toNatClampNeg)))) - 1) - a1).toNatClampNeg)))) + 1)) (ty := .int) (σ' := ms_set_count (ms_set_values (ms_set_types σ (upd (ms_types σ) (ms_count σ).toNatClampNeg (ms_types σ (((ms_count σ) - 1) - a1).toNatClampNeg))) (vp_updL (ms_values (ms_set_types σ (upd (ms_types σ) (ms_count σ).toNatClampNeg (ms_types σ (((ms_count σ) - 1) - a1).toNatClampNeg)))) (ms_count (ms_set_types σ (upd (ms_types σ) (ms_count σ).toNatClampNeg (ms_types σ (((ms_count σ) - 1) - a1).toNatClampNeg)))).toNatClampNeg (ms_values (ms_set_types σ (upd (ms_types σ) (ms_count σ).toNatClampNeg (ms_types σ (((ms_count σ) - 1) - a1).toNatClampNeg))) (((ms_count (ms_set_types σ (upd (ms_types σ) (ms_count σ).toNatClampNeg (ms_types σ (((ms_count σ) - 1) - a1).toNatClampNeg)))) - 1) - a1).toNatClampNeg))) ((ms_count (ms_set_values (ms_set_types σ (upd (ms_types σ) (ms_count σ).toNatClampNeg (ms_types σ (((ms_count σ) - 1) - a1).toNatClampNeg))) (vp_updL (ms_values (ms_set_types σ (upd (ms_types σ) (ms_count σ).toNatClampNeg (ms_types σ (((ms_count σ) - 1) - a1).toNatClampNeg)))) (ms_count (ms_set_types σ (upd (ms_types σ) (ms_count σ).toNatClampNeg (ms_types σ (((ms_count σ) - 1) - a1).toNatClampNeg)))).toNatClampNeg (ms_values (ms_set_types σ (upd (ms_types σ) (ms_count σ).toNatClampNeg (ms_types σ (((ms_count σ) - 1) - a1).toNatClampNeg))) (((ms_count (ms_set_types σ (upd (ms_types σ) (ms_count σ).toNatClampNeg (ms_types σ (((ms_count σ) - 1) - a1).toNatClampNeg)))) - 1) - a1).toNatClampNeg)))) + 1)) hx hb hts hown hK hM 2 (by decide) (hts _ w_489) rfl (by decide +kernel) rfl rfl (mw_pt_count _ _ _) dM_copy_75 (fun H locs hM => ?_)
      refine lv_aload_n hx hb dM_copy_78 rfl (lv_at hl 0 rfl) ?_
      refine mw_get (v := .int (ms_count (ms_set_count (ms_set_values (ms_set_types σ (upd (ms_types σ) (ms_count σ).toNatClampNeg (ms_types σ (((ms_count σ) - 1) - a1).toNatClampNeg))) (vp_updL (ms_values (ms_set_types σ (upd (ms_types σ) (ms_count σ).toNatClampNeg (ms_types σ (((ms_count σ) - 1) - a1).toNatClampNeg)))) (ms_count (ms_set_types σ (upd (ms_types σ) (ms_count σ).toNatClampNeg (ms_types σ (((ms_count σ) - 1) - a1).toNatClampNeg)))).toNatClampNeg (ms_values (ms_set_types σ (upd (ms_types σ) (ms_count σ).toNatClampNeg (ms_types σ (((ms_count σ) - 1) - a1).toNatClampNeg))) (((ms_count (ms_set_types σ (upd (ms_types σ) (ms_count σ).toNatClampNeg (ms_types σ (((ms_count σ) - 1) - a1).toNatClampNeg)))) - 1) - a1).toNatClampNeg))) ((ms_count (ms_set_values (ms_set_types σ (upd (ms_types σ) (ms_count σ).toNatClampNeg (ms_types σ (((ms_count σ) - 1) - a1).toNatClampNeg))) (vp_updL (ms_values (ms_set_types σ (upd (ms_types σ) (ms_count σ).toNatClampNeg (ms_types σ (((ms_count σ) - 1) - a1).toNatClampNeg)))) (ms_count (ms_set_types σ (upd (ms_types σ) (ms_count σ).toNatClampNeg (ms_types σ (((ms_count σ) - 1) - a1).toNatClampNeg)))).toNatClampNeg (ms_values (ms_set_types σ (upd (ms_types σ) (ms_count σ).toNatClampNeg (ms_types σ (((ms_count σ) - 1) - a1).toNatClampNeg))) (((ms_count (ms_set_types σ (upd (ms_types σ) (ms_count σ).toNatClampNeg (ms_types σ (((ms_count σ) - 1) - a1).toNatClampNeg)))) - 1) - a1).toNatClampNeg)))) + 1)))) hx hb hts hown hK hM 2 (by decide) (hts _ w_489) (mw_fd_count _ _) dM_copy_79 ?_
      exact W.iret (v := ms_count (ms_set_count (ms_set_values (ms_set_types σ (upd (ms_types σ) (ms_count σ).toNatClampNeg (ms_types σ (((ms_count σ) - 1) - a1).toNatClampNeg))) (vp_updL (ms_values (ms_set_types σ (upd (ms_types σ) (ms_count σ).toNatClampNeg (ms_types σ (((ms_count σ) - 1) - a1).toNatClampNeg)))) (ms_count (ms_set_types σ (upd (ms_types σ) (ms_count σ).toNatClampNeg (ms_types σ (((ms_count σ) - 1) - a1).toNatClampNeg)))).toNatClampNeg (ms_values (ms_set_types σ (upd (ms_types σ) (ms_count σ).toNatClampNeg (ms_types σ (((ms_count σ) - 1) - a1).toNatClampNeg))) (((ms_count (ms_set_types σ (upd (ms_types σ) (ms_count σ).toNatClampNeg (ms_types σ (((ms_count σ) - 1) - a1).toNatClampNeg)))) - 1) - a1).toNatClampNeg))) ((ms_count (ms_set_values (ms_set_types σ (upd (ms_types σ) (ms_count σ).toNatClampNeg (ms_types σ (((ms_count σ) - 1) - a1).toNatClampNeg))) (vp_updL (ms_values (ms_set_types σ (upd (ms_types σ) (ms_count σ).toNatClampNeg (ms_types σ (((ms_count σ) - 1) - a1).toNatClampNeg)))) (ms_count (ms_set_types σ (upd (ms_types σ) (ms_count σ).toNatClampNeg (ms_types σ (((ms_count σ) - 1) - a1).toNatClampNeg)))).toNatClampNeg (ms_values (ms_set_types σ (upd (ms_types σ) (ms_count σ).toNatClampNeg (ms_types σ (((ms_count σ) - 1) - a1).toNatClampNeg))) (((ms_count (ms_set_types σ (upd (ms_types σ) (ms_count σ).toNatClampNeg (ms_types σ (((ms_count σ) - 1) - a1).toNatClampNeg)))) - 1) - a1).toNatClampNeg)))) + 1))) hx hb hr (fun t ht hW => ⟨⟨ms_count (ms_set_count (ms_set_values (ms_set_types σ (upd (ms_types σ) (ms_count σ).toNatClampNeg (ms_types σ (((ms_count σ) - 1) - a1).toNatClampNeg))) (vp_updL (ms_values (ms_set_types σ (upd (ms_types σ) (ms_count σ).toNatClampNeg (ms_types σ (((ms_count σ) - 1) - a1).toNatClampNeg)))) (ms_count (ms_set_types σ (upd (ms_types σ) (ms_count σ).toNatClampNeg (ms_types σ (((ms_count σ) - 1) - a1).toNatClampNeg)))).toNatClampNeg (ms_values (ms_set_types σ (upd (ms_types σ) (ms_count σ).toNatClampNeg (ms_types σ (((ms_count σ) - 1) - a1).toNatClampNeg))) (((ms_count (ms_set_types σ (upd (ms_types σ) (ms_count σ).toNatClampNeg (ms_types σ (((ms_count σ) - 1) - a1).toNatClampNeg)))) - 1) - a1).toNatClampNeg))) ((ms_count (ms_set_values (ms_set_types σ (upd (ms_types σ) (ms_count σ).toNatClampNeg (ms_types σ (((ms_count σ) - 1) - a1).toNatClampNeg))) (vp_updL (ms_values (ms_set_types σ (upd (ms_types σ) (ms_count σ).toNatClampNeg (ms_types σ (((ms_count σ) - 1) - a1).toNatClampNeg)))) (ms_count (ms_set_types σ (upd (ms_types σ) (ms_count σ).toNatClampNeg (ms_types σ (((ms_count σ) - 1) - a1).toNatClampNeg)))).toNatClampNeg (ms_values (ms_set_types σ (upd (ms_types σ) (ms_count σ).toNatClampNeg (ms_types σ (((ms_count σ) - 1) - a1).toNatClampNeg))) (((ms_count (ms_set_types σ (upd (ms_types σ) (ms_count σ).toNatClampNeg (ms_types σ (((ms_count σ) - 1) - a1).toNatClampNeg)))) - 1) - a1).toNatClampNeg)))) + 1)), ms_set_count (ms_set_values (ms_set_types σ (upd (ms_types σ) (ms_count σ).toNatClampNeg (ms_types σ (((ms_count σ) - 1) - a1).toNatClampNeg))) (vp_updL (ms_values (ms_set_types σ (upd (ms_types σ) (ms_count σ).toNatClampNeg (ms_types σ (((ms_count σ) - 1) - a1).toNatClampNeg)))) (ms_count (ms_set_types σ (upd (ms_types σ) (ms_count σ).toNatClampNeg (ms_types σ (((ms_count σ) - 1) - a1).toNatClampNeg)))).toNatClampNeg (ms_values (ms_set_types σ (upd (ms_types σ) (ms_count σ).toNatClampNeg (ms_types σ (((ms_count σ) - 1) - a1).toNatClampNeg))) (((ms_count (ms_set_types σ (upd (ms_types σ) (ms_count σ).toNatClampNeg (ms_types σ (((ms_count σ) - 1) - a1).toNatClampNeg)))) - 1) - a1).toNatClampNeg))) ((ms_count (ms_set_values (ms_set_types σ (upd (ms_types σ) (ms_count σ).toNatClampNeg (ms_types σ (((ms_count σ) - 1) - a1).toNatClampNeg))) (vp_updL (ms_values (ms_set_types σ (upd (ms_types σ) (ms_count σ).toNatClampNeg (ms_types σ (((ms_count σ) - 1) - a1).toNatClampNeg)))) (ms_count (ms_set_types σ (upd (ms_types σ) (ms_count σ).toNatClampNeg (ms_types σ (((ms_count σ) - 1) - a1).toNatClampNeg)))).toNatClampNeg (ms_values (ms_set_types σ (upd (ms_types σ) (ms_count σ).toNatClampNeg (ms_types σ (((ms_count σ) - 1) - a1).toNatClampNeg))) (((ms_count (ms_set_types σ (upd (ms_types σ) (ms_count σ).toNatClampNeg (ms_types σ (((ms_count σ) - 1) - a1).toNatClampNeg)))) - 1) - a1).toNatClampNeg)))) + 1), rfl, by rw [(show fM_copy_10 a1 s0 σ = (ms_count (ms_set_count (ms_set_values (ms_set_types σ (upd (ms_types σ) (ms_count σ).toNatClampNeg (ms_types σ (((ms_count σ) - 1) - a1).toNatClampNeg))) (vp_updL (ms_values (ms_set_types σ (upd (ms_types σ) (ms_count σ).toNatClampNeg (ms_types σ (((ms_count σ) - 1) - a1).toNatClampNeg)))) (ms_count (ms_set_types σ (upd (ms_types σ) (ms_count σ).toNatClampNeg (ms_types σ (((ms_count σ) - 1) - a1).toNatClampNeg)))).toNatClampNeg (ms_values (ms_set_types σ (upd (ms_types σ) (ms_count σ).toNatClampNeg (ms_types σ (((ms_count σ) - 1) - a1).toNatClampNeg))) (((ms_count (ms_set_types σ (upd (ms_types σ) (ms_count σ).toNatClampNeg (ms_types σ (((ms_count σ) - 1) - a1).toNatClampNeg)))) - 1) - a1).toNatClampNeg))) ((ms_count (ms_set_values (ms_set_types σ (upd (ms_types σ) (ms_count σ).toNatClampNeg (ms_types σ (((ms_count σ) - 1) - a1).toNatClampNeg))) (vp_updL (ms_values (ms_set_types σ (upd (ms_types σ) (ms_count σ).toNatClampNeg (ms_types σ (((ms_count σ) - 1) - a1).toNatClampNeg)))) (ms_count (ms_set_types σ (upd (ms_types σ) (ms_count σ).toNatClampNeg (ms_types σ (((ms_count σ) - 1) - a1).toNatClampNeg)))).toNatClampNeg (ms_values (ms_set_types σ (upd (ms_types σ) (ms_count σ).toNatClampNeg (ms_types σ (((ms_count σ) - 1) - a1).toNatClampNeg))) (((ms_count (ms_set_types σ (upd (ms_types σ) (ms_count σ).toNatClampNeg (ms_types σ (((ms_count σ) - 1) - a1).toNatClampNeg)))) - 1) - a1).toNatClampNeg)))) + 1)), ms_set_count (ms_set_values (ms_set_types σ (upd (ms_types σ) (ms_count σ).toNatClampNeg (ms_types σ (((ms_count σ) - 1) - a1).toNatClampNeg))) (vp_updL (ms_values (ms_set_types σ (upd (ms_types σ) (ms_count σ).toNatClampNeg (ms_types σ (((ms_count σ) - 1) - a1).toNatClampNeg)))) (ms_count (ms_set_types σ (upd (ms_types σ) (ms_count σ).toNatClampNeg (ms_types σ (((ms_count σ) - 1) - a1).toNatClampNeg)))).toNatClampNeg (ms_values (ms_set_types σ (upd (ms_types σ) (ms_count σ).toNatClampNeg (ms_types σ (((ms_count σ) - 1) - a1).toNatClampNeg))) (((ms_count (ms_set_types σ (upd (ms_types σ) (ms_count σ).toNatClampNeg (ms_types σ (((ms_count σ) - 1) - a1).toNatClampNeg)))) - 1) - a1).toNatClampNeg))) ((ms_count (ms_set_values (ms_set_types σ (upd (ms_types σ) (ms_count σ).toNatClampNeg (ms_types σ (((ms_count σ) - 1) - a1).toNatClampNeg))) (vp_updL (ms_values (ms_set_types σ (upd (ms_types σ) (ms_count σ).toNatClampNeg (ms_types σ (((ms_count σ) - 1) - a1).toNatClampNeg)))) (ms_count (ms_set_types σ (upd (ms_types σ) (ms_count σ).toNatClampNeg (ms_types σ (((ms_count σ) - 1) - a1).toNatClampNeg)))).toNatClampNeg (ms_values (ms_set_types σ (upd (ms_types σ) (ms_count σ).toNatClampNeg (ms_types σ (((ms_count σ) - 1) - a1).toNatClampNeg))) (((ms_count (ms_set_types σ (upd (ms_types σ) (ms_count σ).toNatClampNeg (ms_types σ (((ms_count σ) - 1) - a1).toNatClampNeg)))) - 1) - a1).toNatClampNeg)))) + 1)) by rw [fM_copy_10, if_neg h1, if_neg h2])], by rw [ht]; exact hM.1, va_K.moved hW.alike hK, hM.2.1⟩, hM.2.2.F ht⟩) hM.2.2.2.2 dM_copy_82
    · have hS9 : (SM_copy_22 σ) := by have w9 := hS; rw [SM_copy_10, if_neg h1, if_pos h2] at w9; exact w9
      rw [(show fM_copy_10 a1 s0 σ = fM_copy_22 σ by rw [fM_copy_10, if_neg h1, if_pos h2])]
      exact kM_copy_22 C hK hA σ (hS9) hM (lv_sub hl [] rfl)
set_option maxHeartbeats 4000000 in
set_option maxRecDepth 100000 in
theorem kM_copy_0 {p : Program} {l : Launch} {e : Env} {s : State} {m : MethodId} {args : Array Value} {below : List Frame} {meth : Method} {c : Code} (C : pw_C p s m args meth c cM_copy 2 (some .int) "BitNumbersModel") {D : va_G} {ad : Nat → Nat} {A : Nat → Prop} (hK : va_K D clM (tyA ad) s) (hA : ∀ q, s.heap.size ≤ q → A q) (a1 : Int32) (σ : MS) (hS : SM_copy a1 σ) {H : Heap} {locs : List Loc} (hM : mw D ad A s.heap H locs σ) {ls : Array Slot} (hl : lv_has ls 2 [(0, .ref (ad 0)), (1, .int a1)]) : W p l e rmM_copy s m args below meth c H locs 0 0 (MQ below (va_Qi (fun r u => (r, u) = fM_copy a1 σ) (mw_E D ad A) A) args s 0 0 A) (F0 m 0 ls []) := by
  obtain ⟨hx, hb, hr, hml, hown, hts, hlocks⟩ := id C
  refine lv_aload_n hx hb dM_copy_0 rfl (lv_at hl 0 rfl) ?_
  refine lv_iconst (v := 0) hx hb dM_copy_1 (by decide) ?_
  refine mw_put (v := .int 0) (ty := .int) (σ' := ms_set_thrown σ 0) hx hb hts hown hK hM 0 (by decide) (hts _ w_487) rfl (by decide +kernel) rfl rfl (mw_pt_thrown _ _ _) dM_copy_2 (fun H locs hM => ?_)
  refine lv_aload_n hx hb dM_copy_5 rfl (lv_at hl 0 rfl) ?_
  refine lv_iload_n hx hb dM_copy_6 rfl (lv_at hl 1 rfl) ?_
  refine mw_calli (F := fM_isThere a1 (ms_set_thrown σ 0)) (va_runV (As := [.int a1]) (rest := []) ⟨hx, hb, hml, hown, hts⟩ (qM_isThere l D ad a1 (ms_set_thrown σ 0) H.size) (cwV 1 hts (gV w_786 w_788 w_31 w_34 w_789) rfl rfl rfl (by decide +kernel) ⟨Nat.le_of_ble_eq_true rfl, Nat.le_of_ble_eq_true rfl⟩) (mw_preV hK hM) rfl rfl hl.1 rfl (lv_room (Nat.le_of_ble_eq_true rfl)) dM_copy_7 ⟨Nat.zero_le _, Nat.zero_le _⟩) hM hA (fun H locs hM => ?_)
  have hS9 : (SM_copy_10 a1 ((fM_isThere a1 (ms_set_thrown σ 0)).1) ((fM_isThere a1 (ms_set_thrown σ 0)).2)) := by have w9 := hS; rw [SM_copy] at w9; exact w9
  rw [(show fM_copy a1 σ = fM_copy_10 a1 ((fM_isThere a1 (ms_set_thrown σ 0)).1) ((fM_isThere a1 (ms_set_thrown σ 0)).2) by rw [fM_copy])]
  exact kM_copy_10 C hK hA a1 ((fM_isThere a1 (ms_set_thrown σ 0)).1) ((fM_isThere a1 (ms_set_thrown σ 0)).2) (zM_isThere a1 (ms_set_thrown σ 0)) (hS9) hM (lv_sub hl [0, 1] rfl)
set_option maxHeartbeats 4000000 in
set_option maxRecDepth 100000 in
theorem qM_copy (l : Launch) (D : va_G) (ad : Nat → Nat) (a1 : Int32) (σ : MS) (sz : Nat) (hS : SM_copy a1 σ) : Met l yM_copy wsM_copy rmM_copy (va_Pc [.ref (ad 0), .int a1] (mw_B D ad σ sz)) (va_Qi (fun r u => (r, u) = fM_copy a1 σ) (mw_E D ad (va_A (mw_c ad σ) sz)) (va_A (mw_c ad σ) sz)) 0 0 (va_A (mw_c ad σ) sz) := by
  refine Met.ofW (cc := cM_copy) (maxL := 2) (ret := (some .int)) (by decide) rfl ?_
  intro p e s m args below meth c s₁ B hml hv
  obtain ⟨rfl, hsz, hP, hK, hD⟩ := hv
  have hts0 := atoms_spec (ws := wsM_copy) B.pre
  have hts := fun (w : Cond) (h : w ∈ aw) => hts0 w (List.mem_cons_of_mem _ h)
  have hown : s.vm.findClass "BitNumbersModel" = some m.cls := findClass_of_methodNamed B.named
  subst hsz
  have hl := lv_entry ([.ref (ad 0), .int a1]) (n := 2) (Nat.le_of_ble_eq_true rfl)
  rw [lg_entry_eq]
  generalize (lg_sl ([.ref (ad 0), .int a1]) ++ List.replicate (2 - (lg_sl ([.ref (ad 0), .int a1])).length) Slot.unset).toArray = ls at hl ⊢
  exact kM_copy_0 ⟨B.exec, B.bytes, B.returns, hml, hown, hts, B.notSynchronized⟩ hK (fun q h => Or.inr h) a1 σ hS ⟨hP, hD.self, va_S.rf⟩ hl

set_option maxHeartbeats 4000000 in
set_option maxRecDepth 100000 in
theorem kM_clear_10 {p : Program} {l : Launch} {e : Env} {s : State} {m : MethodId} {args : Array Value} {below : List Frame} {meth : Method} {c : Code} (C : pw_C p s m args meth c cM_clear 2 (some .int) "BitNumbersModel") {D : va_G} {ad : Nat → Nat} {A : Nat → Prop} (hK : va_K D clM (tyA ad) s) (hA : ∀ q, s.heap.size ≤ q → A q) (a1 : Int32) (σ : MS) {H : Heap} {locs : List Loc} (hM : mw D ad A s.heap H locs σ) {ls : Array Slot} (hl : lv_has ls 2 [(0, .ref (ad 0)), (1, .int a1)]) : W p l e rmM_clear s m args below meth c H locs 0 0 (MQ below (va_Qi (fun r u => (r, u) = fM_clear_10 a1 σ) (mw_E D ad A) A) args s 0 0 A) (F0 m 10 ls []) := by
  obtain ⟨hx, hb, hr, hml, hown, hts, hlocks⟩ := id C
  refine lv_aload_n hx hb dM_clear_10 rfl (lv_at hl 0 rfl) ?_
  refine lv_iconst (v := 0) hx hb dM_clear_11 (by decide) ?_
  refine mw_put (v := .int 0) (ty := .int) (σ' := ms_set_count σ 0) hx hb hts hown hK hM 2 (by decide) (hts _ w_489) rfl (by decide +kernel) rfl rfl (mw_pt_count _ _ _) dM_clear_12 (fun H locs hM => ?_)
  refine lv_iload_n hx hb dM_clear_15 rfl (lv_at hl 1 rfl) ?_
  exact W.iret (v := a1) hx hb hr (fun t ht hW => ⟨⟨a1, ms_set_count σ 0, rfl, by rw [(show fM_clear_10 a1 σ = (a1, ms_set_count σ 0) by rw [fM_clear_10])], by rw [ht]; exact hM.1, va_K.moved hW.alike hK, hM.2.1⟩, hM.2.2.F ht⟩) hM.2.2.2.2 dM_clear_16
set_option maxHeartbeats 4000000 in
set_option maxRecDepth 100000 in
theorem kM_clear_0 {p : Program} {l : Launch} {e : Env} {s : State} {m : MethodId} {args : Array Value} {below : List Frame} {meth : Method} {c : Code} (C : pw_C p s m args meth c cM_clear 2 (some .int) "BitNumbersModel") {D : va_G} {ad : Nat → Nat} {A : Nat → Prop} (hK : va_K D clM (tyA ad) s) (hA : ∀ q, s.heap.size ≤ q → A q) (σ : MS) {H : Heap} {locs : List Loc} (hM : mw D ad A s.heap H locs σ) {ls : Array Slot} (hl : lv_has ls 2 [(0, .ref (ad 0))]) : W p l e rmM_clear s m args below meth c H locs 0 0 (MQ below (va_Qi (fun r u => (r, u) = fM_clear σ) (mw_E D ad A) A) args s 0 0 A) (F0 m 0 ls []) := by
  obtain ⟨hx, hb, hr, hml, hown, hts, hlocks⟩ := id C
  refine lv_aload_n hx hb dM_clear_0 rfl (lv_at hl 0 rfl) ?_
  refine lv_iconst (v := 0) hx hb dM_clear_1 (by decide) ?_
  refine mw_put (v := .int 0) (ty := .int) (σ' := ms_set_thrown σ 0) hx hb hts hown hK hM 0 (by decide) (hts _ w_487) rfl (by decide +kernel) rfl rfl (mw_pt_thrown _ _ _) dM_clear_2 (fun H locs hM => ?_)
  refine lv_aload_n hx hb dM_clear_5 rfl (lv_at hl 0 rfl) ?_
  refine mw_get (v := .int (ms_count (ms_set_thrown σ 0))) hx hb hts hown hK hM 2 (by decide) (hts _ w_489) (mw_fd_count _ _) dM_clear_6 ?_
  refine lv_istore_n (lv' := [(1, .int (ms_count (ms_set_thrown σ 0))), (0, .ref (ad 0))]) hx hb dM_clear_9 rfl hl (by decide) rfl (fun ls hl => ?_)
  rw [(show fM_clear σ = fM_clear_10 (ms_count (ms_set_thrown σ 0)) (ms_set_thrown σ 0) by rw [fM_clear])]
  exact kM_clear_10 C hK hA (ms_count (ms_set_thrown σ 0)) (ms_set_thrown σ 0) hM (lv_sub hl [1, 0] rfl)
set_option maxHeartbeats 4000000 in
set_option maxRecDepth 100000 in
theorem qM_clear (l : Launch) (D : va_G) (ad : Nat → Nat)  (σ : MS) (sz : Nat) : Met l yM_clear wsM_clear rmM_clear (va_Pc [.ref (ad 0)] (mw_B D ad σ sz)) (va_Qi (fun r u => (r, u) = fM_clear σ) (mw_E D ad (va_A (mw_c ad σ) sz)) (va_A (mw_c ad σ) sz)) 0 0 (va_A (mw_c ad σ) sz) := by
  refine Met.ofW (cc := cM_clear) (maxL := 2) (ret := (some .int)) (by decide) rfl ?_
  intro p e s m args below meth c s₁ B hml hv
  obtain ⟨rfl, hsz, hP, hK, hD⟩ := hv
  have hts0 := atoms_spec (ws := wsM_clear) B.pre
  have hts := fun (w : Cond) (h : w ∈ aw) => hts0 w (List.mem_cons_of_mem _ h)
  have hown : s.vm.findClass "BitNumbersModel" = some m.cls := findClass_of_methodNamed B.named
  subst hsz
  have hl := lv_entry ([.ref (ad 0)]) (n := 2) (Nat.le_of_ble_eq_true rfl)
  rw [lg_entry_eq]
  generalize (lg_sl ([.ref (ad 0)]) ++ List.replicate (2 - (lg_sl ([.ref (ad 0)])).length) Slot.unset).toArray = ls at hl ⊢
  exact kM_clear_0 ⟨B.exec, B.bytes, B.returns, hml, hown, hts, B.notSynchronized⟩ hK (fun q h => Or.inr h) σ ⟨hP, hD.self, va_S.rf⟩ hl

