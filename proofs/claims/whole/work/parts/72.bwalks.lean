def fB_put_59 (s0 : Int64) (s1 : Int32) (σ : BS) : Int32 × BS :=
  (bs_count (bs_set_count (bs_set_rows σ (vp_updL (bs_rows σ) s1.toNatClampNeg s0)) ((bs_count (bs_set_rows σ (vp_updL (bs_rows σ) s1.toNatClampNeg s0))) + 1)), bs_set_count (bs_set_rows σ (vp_updL (bs_rows σ) s1.toNatClampNeg s0)) ((bs_count (bs_set_rows σ (vp_updL (bs_rows σ) s1.toNatClampNeg s0))) + 1))
def SB_put_59 (s0 : Int64) (s1 : Int32) (σ : BS) : Prop :=
  ((vp_in s1 64) ∧ True)
def fB_put_25 (a1 : Int32) (a2 : Int64) (s0 : Int32) (σ : BS) : Int32 × BS :=
  (if s0 = 0 then (fB_put_59 a2 (bs_count (bs_set_types σ (upd (bs_types σ) (bs_count σ).toNatClampNeg a1))) (bs_set_types σ (upd (bs_types σ) (bs_count σ).toNatClampNeg a1))) else (fB_put_59 (fWhole_withoutSign 0 a2) (bs_count (bs_set_types σ (upd (bs_types σ) (bs_count σ).toNatClampNeg a1))) (bs_set_types σ (upd (bs_types σ) (bs_count σ).toNatClampNeg a1))))
def SB_put_25 (a1 : Int32) (a2 : Int64) (s0 : Int32) (σ : BS) : Prop :=
  ((vp_in (bs_count σ) 64) ∧ (if s0 = 0 then (SB_put_59 a2 (bs_count (bs_set_types σ (upd (bs_types σ) (bs_count σ).toNatClampNeg a1))) (bs_set_types σ (upd (bs_types σ) (bs_count σ).toNatClampNeg a1))) else (SB_put_59 (fWhole_withoutSign 0 a2) (bs_count (bs_set_types σ (upd (bs_types σ) (bs_count σ).toNatClampNeg a1))) (bs_set_types σ (upd (bs_types σ) (bs_count σ).toNatClampNeg a1)))))
def fB_put_20 (a1 : Int32) (a2 : Int64) (σ : BS) : Int32 × BS :=
  (fB_put_25 a1 a2 1 σ)
def SB_put_20 (a1 : Int32) (a2 : Int64) (σ : BS) : Prop :=
  (SB_put_25 a1 a2 1 σ)
def fB_put (a1 : Int32) (a2 : Int64) (σ : BS) : Int32 × BS :=
  (if (bs_count σ) < 64 then (if a1 = 0 then (fB_put_20 a1 a2 σ) else (if a1 = 2 then (fB_put_20 a1 a2 σ) else (fB_put_25 a1 a2 0 σ))) else ((-1), σ))
def SB_put (a1 : Int32) (a2 : Int64) (σ : BS) : Prop :=
  (if (bs_count σ) < 64 then (if a1 = 0 then (SB_put_20 a1 a2 σ) else (if a1 = 2 then (SB_put_20 a1 a2 σ) else (SB_put_25 a1 a2 0 σ))) else True)
def fB_push_9 (σ : BS) : Int32 × BS :=
  ((-1), σ)
def SB_push_9 (σ : BS) : Prop :=
  True
def fB_push (a1 : Int32) (a2 : Int64) (σ : BS) : Int32 × BS :=
  (if a1 < 0 then (fB_push_9 σ) else (if a1 ≤ 3 then ((fB_put a1 a2 σ).1, (fB_put a1 a2 σ).2) else (fB_push_9 σ)))
def SB_push (a1 : Int32) (a2 : Int64) (σ : BS) : Prop :=
  (if a1 < 0 then (SB_push_9 σ) else (if a1 ≤ 3 then ((SB_put a1 a2 σ) ∧ True) else (SB_push_9 σ)))
def fB_trap (σ : BS) : Int32 × BS :=
  (bs_latestTrap σ, σ)
def fB_operator (a1 : Int32) (a2 : Int32) (σ : BS) : Int32 × BS :=
  (if (fOperators_exists a1) = 0 then ((-1), σ) else (if a2 = 0 then (fOperators_operands a1, σ) else (if a2 = 1 then (fOperators_operandType a1, σ) else (if a2 = 2 then (fOperators_resultType a1, σ) else ((-1), σ)))))
def fB_isThere_16 (σ : BS) : Int32 × BS :=
  (0, σ)
def fB_isThere (a1 : Int32) (σ : BS) : Int32 × BS :=
  (if a1 < 0 then (fB_isThere_16 σ) else (if (bs_count σ) ≤ a1 then (fB_isThere_16 σ) else (1, σ)))
theorem zB_isThere (a1 : Int32) (σ : BS) : (fB_isThere a1 σ).1 = 0 ∨ (fB_isThere a1 σ).1 = 1 := by
  unfold fB_isThere fB_isThere_16
  split
  · exact Or.inl rfl
  · split
    · exact Or.inl rfl
    · exact Or.inr rfl

def fB_type_5 (a1 : Int32) (s0 : Int32) (σ : BS) : Int32 × BS :=
  (if s0 = 0 then ((-1), σ) else (bs_types σ (((bs_count σ) - 1) - a1).toNatClampNeg, σ))
def SB_type_5 (a1 : Int32) (s0 : Int32) (σ : BS) : Prop :=
  (if s0 = 0 then True else ((vp_in (((bs_count σ) - 1) - a1) 64) ∧ True))
def fB_type (a1 : Int32) (σ : BS) : Int32 × BS :=
  (fB_type_5 a1 ((fB_isThere a1 σ).1) ((fB_isThere a1 σ).2))
def SB_type (a1 : Int32) (σ : BS) : Prop :=
  (SB_type_5 a1 ((fB_isThere a1 σ).1) ((fB_isThere a1 σ).2))
def fB_bits_5 (a1 : Int32) (s0 : Int32) (σ : BS) : Int64 × BS :=
  (if s0 = 0 then (0, σ) else (bs_rows σ (((bs_count σ) - 1) - a1).toNatClampNeg, σ))
def SB_bits_5 (a1 : Int32) (s0 : Int32) (σ : BS) : Prop :=
  (if s0 = 0 then True else ((vp_in (((bs_count σ) - 1) - a1) 64) ∧ True))
def fB_bits (a1 : Int32) (σ : BS) : Int64 × BS :=
  (fB_bits_5 a1 ((fB_isThere a1 σ).1) ((fB_isThere a1 σ).2))
def SB_bits (a1 : Int32) (σ : BS) : Prop :=
  (SB_bits_5 a1 ((fB_isThere a1 σ).1) ((fB_isThere a1 σ).2))
def fB_parts_59 (a2 : Int32) (a3 : Nat) (a4 : Int64) (σ : BS) : Int32 × BS :=
  (if a2 = 0 then (if (fFormat_isNegative a3 a4) = 0 then (0, σ) else (1, σ)) else (if a2 = 1 then (fFormat_exponent a3 a4, σ) else (if a2 = 2 then (fFormat_kind a3 a4, σ) else ((-1), σ))))
def SB_parts_59 (a2 : Int32) (a3 : Nat) (a4 : Int64) (σ : BS) : Prop :=
  (if a2 = 0 then True else (if a2 = 1 then True else (if a2 = 2 then True else True)))
def fB_parts_25 (σ : BS) : Int32 × BS :=
  ((-1), σ)
def SB_parts_25 (σ : BS) : Prop :=
  True
def fB_parts_5 (a1 : Int32) (a2 : Int32) (s0 : Int32) (σ : BS) : Int32 × BS :=
  (if s0 = 0 then (fB_parts_25 σ) else (if 2 ≤ (bs_types σ (((bs_count σ) - 1) - a1).toNatClampNeg) then (fB_parts_59 a2 (fFormat_of (bs_types σ (((bs_count σ) - 1) - a1).toNatClampNeg)) (bs_rows σ (((bs_count σ) - 1) - a1).toNatClampNeg) σ) else (fB_parts_25 σ)))
def SB_parts_5 (a1 : Int32) (a2 : Int32) (s0 : Int32) (σ : BS) : Prop :=
  (if s0 = 0 then (SB_parts_25 σ) else ((vp_in (((bs_count σ) - 1) - a1) 64) ∧ (if 2 ≤ (bs_types σ (((bs_count σ) - 1) - a1).toNatClampNeg) then ((vp_in (((bs_count σ) - 1) - a1) 64) ∧ ((vp_in (((bs_count σ) - 1) - a1) 64) ∧ (SB_parts_59 a2 (fFormat_of (bs_types σ (((bs_count σ) - 1) - a1).toNatClampNeg)) (bs_rows σ (((bs_count σ) - 1) - a1).toNatClampNeg) σ))) else (SB_parts_25 σ))))
def fB_parts (a1 : Int32) (a2 : Int32) (σ : BS) : Int32 × BS :=
  (fB_parts_5 a1 a2 ((fB_isThere a1 σ).1) ((fB_isThere a1 σ).2))
def SB_parts (a1 : Int32) (a2 : Int32) (σ : BS) : Prop :=
  (SB_parts_5 a1 a2 ((fB_isThere a1 σ).1) ((fB_isThere a1 σ).2))
def fB_copy_5 (a1 : Int32) (s0 : Int32) (σ : BS) : Int32 × BS :=
  (if s0 = 0 then ((-1), σ) else ((fB_put (bs_types σ (((bs_count σ) - 1) - a1).toNatClampNeg) (bs_rows σ (((bs_count σ) - 1) - a1).toNatClampNeg) σ).1, (fB_put (bs_types σ (((bs_count σ) - 1) - a1).toNatClampNeg) (bs_rows σ (((bs_count σ) - 1) - a1).toNatClampNeg) σ).2))
def SB_copy_5 (a1 : Int32) (s0 : Int32) (σ : BS) : Prop :=
  (if s0 = 0 then True else ((vp_in (((bs_count σ) - 1) - a1) 64) ∧ ((vp_in (((bs_count σ) - 1) - a1) 64) ∧ ((SB_put (bs_types σ (((bs_count σ) - 1) - a1).toNatClampNeg) (bs_rows σ (((bs_count σ) - 1) - a1).toNatClampNeg) σ) ∧ True))))
def fB_copy (a1 : Int32) (σ : BS) : Int32 × BS :=
  (fB_copy_5 a1 ((fB_isThere a1 σ).1) ((fB_isThere a1 σ).2))
def SB_copy (a1 : Int32) (σ : BS) : Prop :=
  (SB_copy_5 a1 ((fB_isThere a1 σ).1) ((fB_isThere a1 σ).2))
def fB_clear_5 (a1 : Int32) (σ : BS) : Int32 × BS :=
  (a1, bs_set_count σ 0)
def fB_clear (σ : BS) : Int32 × BS :=
  (fB_clear_5 (bs_count σ) σ)
def fB_areOnTop_22 : Nat → Int32 → Int32 → BS → Int32 × BS
  | 0, _, _, σ => (0, σ)
  | n + 1, a2, a3, σ =>
    (if (bs_count σ) ≤ a3 then (1, σ) else (if (bs_types σ a3.toNatClampNeg) = a2 then (fB_areOnTop_22 n a2 (a3 + 1) σ) else (0, σ)))
def SB_areOnTop_22 : Nat → Int32 → Int32 → BS → Prop
  | 0, _, _, _ => True
  | n + 1, a2, a3, σ =>
    (if (bs_count σ) ≤ a3 then True else ((vp_in a3 64) ∧ (if (bs_types σ a3.toNatClampNeg) = a2 then (SB_areOnTop_22 n a2 (a3 + 1) σ) else True)))
def fB_areOnTop_13 (σ : BS) : Int32 × BS :=
  (0, σ)
def SB_areOnTop_13 (σ : BS) : Prop :=
  True
def fB_areOnTop (a1 : Int32) (a2 : Int32) (σ : BS) : Int32 × BS :=
  (if a1 < 1 then (fB_areOnTop_13 σ) else (if a1 ≤ (bs_count σ) then (fB_areOnTop_22 (((bs_count σ).toInt - ((bs_count σ) - a1).toInt + 1).toNat + 1) a2 ((bs_count σ) - a1) σ) else (fB_areOnTop_13 σ)))
def SB_areOnTop (a1 : Int32) (a2 : Int32) (σ : BS) : Prop :=
  (if a1 < 1 then (SB_areOnTop_13 σ) else (if a1 ≤ (bs_count σ) then (SB_areOnTop_22 (((bs_count σ).toInt - ((bs_count σ) - a1).toInt + 1).toNat + 1) a2 ((bs_count σ) - a1) σ) else (SB_areOnTop_13 σ)))
set_option maxHeartbeats 4000000 in
set_option maxRecDepth 100000 in
theorem kB_put_59 {p : Program} {l : Launch} {e : Env} {s : State} {m : MethodId} {args : Array Value} {below : List Frame} {meth : Method} {c : Code} (C : pw_C p s m args meth c cB_put 5 (some .int) "BitNumbers") {D : va_G} {ad : Nat → Nat} {A : Nat → Prop} (hK : va_K D clM (tyA ad) s) (hA : ∀ q, s.heap.size ≤ q → A q) {td ed : Nat → Nat} (hG : pw_G A ed td s s.heap) (s0 : Int64) (s1 : Int32) (σ : BS) (hS : SB_put_59 s0 s1 σ) {H : Heap} {locs : List Loc} (hM : bw D ad A s.heap H locs σ) {ls : Array Slot} (hl : lv_has ls 5 [(0, .ref (ad 0))]) : W p l e rmB_put s m args below meth c H locs 0 0 (MQ below (va_Qi (fun r u => (r, u) = fB_put_59 s0 s1 σ) (bw_E D ad A) A) args s 0 0 A) (F0 m 59 ls [.long s0, .int s1, .ref (ad 2)]) := by
  obtain ⟨hx, hb, hr, hml, hown, hts, hlocks⟩ := id C
  have hS59 : ((vp_in s1 64) ∧ True) := by have w9 := hS; rw [SB_put_59] at w9; exact w9
  refine bw_last (σ' := bs_set_rows σ (vp_updL (bs_rows σ) s1.toNatClampNeg s0)) hx hb hK hM 2 (bw_ar_rows _ _) (hS59.1) (bw_st_rows _ _ _) dB_put_59 (fun H locs hM => ?_)
  refine lv_aload_n hx hb dB_put_60 rfl (lv_at hl 0 rfl) ?_
  refine lv_dup hx hb dB_put_61 rfl ?_
  refine bw_get (v := .int (bs_count (bs_set_rows σ (vp_updL (bs_rows σ) s1.toNatClampNeg s0)))) hx hb hts hown hK hM 2 (by decide) (hts _ w_59) (bw_fd_count _ _) dB_put_62 ?_
  refine lv_iconst (v := 1) hx hb dB_put_65 (by decide) ?_
  refine lv_iadd hx hb dB_put_66 ?_
  refine bw_put (v := .int ((bs_count (bs_set_rows σ (vp_updL (bs_rows σ) s1.toNatClampNeg s0))) + 1)) (ty := .int) (σ' := bs_set_count (bs_set_rows σ (vp_updL (bs_rows σ) s1.toNatClampNeg s0)) ((bs_count (bs_set_rows σ (vp_updL (bs_rows σ) s1.toNatClampNeg s0))) + 1)) hx hb hts hown hK hM 2 (by decide) (hts _ w_59) rfl (by decide +kernel) rfl rfl (bw_pt_count _ _ _) dB_put_67 (fun H locs hM => ?_)
  refine lv_aload_n hx hb dB_put_70 rfl (lv_at hl 0 rfl) ?_
  refine bw_get (v := .int (bs_count (bs_set_count (bs_set_rows σ (vp_updL (bs_rows σ) s1.toNatClampNeg s0)) ((bs_count (bs_set_rows σ (vp_updL (bs_rows σ) s1.toNatClampNeg s0))) + 1)))) hx hb hts hown hK hM 2 (by decide) (hts _ w_59) (bw_fd_count _ _) dB_put_71 ?_
  exact W.iret (v := bs_count (bs_set_count (bs_set_rows σ (vp_updL (bs_rows σ) s1.toNatClampNeg s0)) ((bs_count (bs_set_rows σ (vp_updL (bs_rows σ) s1.toNatClampNeg s0))) + 1))) hx hb hr (fun t ht hW => ⟨⟨bs_count (bs_set_count (bs_set_rows σ (vp_updL (bs_rows σ) s1.toNatClampNeg s0)) ((bs_count (bs_set_rows σ (vp_updL (bs_rows σ) s1.toNatClampNeg s0))) + 1)), bs_set_count (bs_set_rows σ (vp_updL (bs_rows σ) s1.toNatClampNeg s0)) ((bs_count (bs_set_rows σ (vp_updL (bs_rows σ) s1.toNatClampNeg s0))) + 1), rfl, by rw [(show fB_put_59 s0 s1 σ = (bs_count (bs_set_count (bs_set_rows σ (vp_updL (bs_rows σ) s1.toNatClampNeg s0)) ((bs_count (bs_set_rows σ (vp_updL (bs_rows σ) s1.toNatClampNeg s0))) + 1)), bs_set_count (bs_set_rows σ (vp_updL (bs_rows σ) s1.toNatClampNeg s0)) ((bs_count (bs_set_rows σ (vp_updL (bs_rows σ) s1.toNatClampNeg s0))) + 1)) by rw [fB_put_59])], by rw [ht]; exact hM.1, va_K.moved hW.alike hK, hM.2.1⟩, hM.2.2.F ht⟩) hM.2.2.2.2 dB_put_74
set_option maxHeartbeats 4000000 in
set_option maxRecDepth 100000 in
theorem kB_put_25 {p : Program} {l : Launch} {e : Env} {s : State} {m : MethodId} {args : Array Value} {below : List Frame} {meth : Method} {c : Code} (C : pw_C p s m args meth c cB_put 5 (some .int) "BitNumbers") {D : va_G} {ad : Nat → Nat} {A : Nat → Prop} (hK : va_K D clM (tyA ad) s) (hA : ∀ q, s.heap.size ≤ q → A q) {td ed : Nat → Nat} (hG : pw_G A ed td s s.heap) (a1 : Int32) (a2 : Int64) (s0 : Int32) (σ : BS) (hzs0 : s0 = 0 ∨ s0 = 1) (hS : SB_put_25 a1 a2 s0 σ) {H : Heap} {locs : List Loc} (hM : bw D ad A s.heap H locs σ) {ls : Array Slot} (hl : lv_has ls 5 [(0, .ref (ad 0)), (1, .int a1), (2, .long a2)]) : W p l e rmB_put s m args below meth c H locs 0 0 (MQ below (va_Qi (fun r u => (r, u) = fB_put_25 a1 a2 s0 σ) (bw_E D ad A) A) args s 0 0 A) (F0 m 25 ls [.int s0]) := by
  obtain ⟨hx, hb, hr, hml, hown, hts, hlocks⟩ := id C
  refine lv_istore (lv' := [(4, .int s0), (0, .ref (ad 0)), (1, .int a1), (2, .long a2)]) hx hb dB_put_25 hl (by decide) rfl (fun ls hl => ?_)
  refine lv_aload_n hx hb dB_put_27 rfl (lv_at hl 1 rfl) ?_
  refine bw_get (v := .ref (ad 1)) hx hb hts hown hK hM 0 (by decide) (hts _ w_57) (bw_fd_types _ _) dB_put_28 ?_
  refine lv_aload_n hx hb dB_put_31 rfl (lv_at hl 1 rfl) ?_
  refine bw_get (v := .int (bs_count σ)) hx hb hts hown hK hM 2 (by decide) (hts _ w_59) (bw_fd_count _ _) dB_put_32 ?_
  refine lv_iload_n hx hb dB_put_35 rfl (lv_at hl 2 rfl) ?_
  have hS36 : ((vp_in (bs_count σ) 64) ∧ (if s0 = 0 then (SB_put_59 a2 (bs_count (bs_set_types σ (upd (bs_types σ) (bs_count σ).toNatClampNeg a1))) (bs_set_types σ (upd (bs_types σ) (bs_count σ).toNatClampNeg a1))) else (SB_put_59 (fWhole_withoutSign 0 a2) (bs_count (bs_set_types σ (upd (bs_types σ) (bs_count σ).toNatClampNeg a1))) (bs_set_types σ (upd (bs_types σ) (bs_count σ).toNatClampNeg a1))))) := by have w9 := hS; rw [SB_put_25] at w9; exact w9
  refine bw_iast (σ' := bs_set_types σ (upd (bs_types σ) (bs_count σ).toNatClampNeg a1)) hx hb hK hM 1 (bw_ar_types _ _) (hS36.1) (bw_st_types _ _ _) dB_put_36 (fun H locs hM => ?_)
  refine lv_aload_n hx hb dB_put_37 rfl (lv_at hl 1 rfl) ?_
  refine bw_get (v := .ref (ad 2)) hx hb hts hown hK hM 1 (by decide) (hts _ w_58) (bw_fd_rows _ _) dB_put_38 ?_
  refine lv_aload_n hx hb dB_put_41 rfl (lv_at hl 1 rfl) ?_
  refine bw_get (v := .int (bs_count (bs_set_types σ (upd (bs_types σ) (bs_count σ).toNatClampNeg a1)))) hx hb hts hown hK hM 2 (by decide) (hts _ w_59) (bw_fd_count _ _) dB_put_42 ?_
  refine lv_iload hx hb dB_put_45 (lv_at hl 0 rfl) ?_
  refine lv_if_eq (tgt := 58) hx hb dB_put_47 (by decide) (fun h1 => ?_) (fun h1 => ?_)
  · refine lv_lload_n hx hb dB_put_58 rfl (lv_at hl 3 rfl) ?_
    have hS9 : (SB_put_59 a2 (bs_count (bs_set_types σ (upd (bs_types σ) (bs_count σ).toNatClampNeg a1))) (bs_set_types σ (upd (bs_types σ) (bs_count σ).toNatClampNeg a1))) := by have w9 := hS36.2; rw [if_pos h1] at w9; exact w9
    rw [(show fB_put_25 a1 a2 s0 σ = fB_put_59 a2 (bs_count (bs_set_types σ (upd (bs_types σ) (bs_count σ).toNatClampNeg a1))) (bs_set_types σ (upd (bs_types σ) (bs_count σ).toNatClampNeg a1)) by rw [fB_put_25, if_pos h1])]
    exact kB_put_59 C hK hA hG a2 (bs_count (bs_set_types σ (upd (bs_types σ) (bs_count σ).toNatClampNeg a1))) (bs_set_types σ (upd (bs_types σ) (bs_count σ).toNatClampNeg a1)) (hS9) hM (lv_sub hl [1] rfl)
  · refine lv_iconst (v := 0) hx hb dB_put_50 (by decide) ?_
    refine lv_lload_n hx hb dB_put_51 rfl (lv_at hl 3 rfl) ?_
    refine pw_call (va_runS (As := [.int 0, .long a2]) (rest := [.int (bs_count (bs_set_types σ (upd (bs_types σ) (bs_count σ).toNatClampNeg a1))), .ref (ad 2)]) ⟨hx, hb, hml, hown, hts⟩ (qWhole_withoutSign l 0 a2) (va_cwS 2 hts (gS w_80 w_81 w_35 w_82) rfl rfl rfl (by decide +kernel) ⟨Nat.le_of_ble_eq_true rfl, Nat.le_of_ble_eq_true rfl⟩) ⟨pw_bT, fun U hU hW => ⟨rfl, trivial⟩⟩ rfl rfl hl.1 rfl (lv_room (Nat.le_of_ble_eq_true rfl)) dB_put_52 ⟨Nat.zero_le _, Nat.zero_le _⟩) ?_
    refine lv_goto (tgt := 59) hx hb dB_put_55 (by decide) ?_
    have hS9 : (SB_put_59 (fWhole_withoutSign 0 a2) (bs_count (bs_set_types σ (upd (bs_types σ) (bs_count σ).toNatClampNeg a1))) (bs_set_types σ (upd (bs_types σ) (bs_count σ).toNatClampNeg a1))) := by have w9 := hS36.2; rw [if_neg h1] at w9; exact w9
    rw [(show fB_put_25 a1 a2 s0 σ = fB_put_59 (fWhole_withoutSign 0 a2) (bs_count (bs_set_types σ (upd (bs_types σ) (bs_count σ).toNatClampNeg a1))) (bs_set_types σ (upd (bs_types σ) (bs_count σ).toNatClampNeg a1)) by rw [fB_put_25, if_neg h1])]
    exact kB_put_59 C hK hA hG (fWhole_withoutSign 0 a2) (bs_count (bs_set_types σ (upd (bs_types σ) (bs_count σ).toNatClampNeg a1))) (bs_set_types σ (upd (bs_types σ) (bs_count σ).toNatClampNeg a1)) (hS9) hM (lv_sub hl [1] rfl)
set_option maxHeartbeats 4000000 in
set_option maxRecDepth 100000 in
theorem kB_put_20 {p : Program} {l : Launch} {e : Env} {s : State} {m : MethodId} {args : Array Value} {below : List Frame} {meth : Method} {c : Code} (C : pw_C p s m args meth c cB_put 5 (some .int) "BitNumbers") {D : va_G} {ad : Nat → Nat} {A : Nat → Prop} (hK : va_K D clM (tyA ad) s) (hA : ∀ q, s.heap.size ≤ q → A q) {td ed : Nat → Nat} (hG : pw_G A ed td s s.heap) (a1 : Int32) (a2 : Int64) (σ : BS) (hS : SB_put_20 a1 a2 σ) {H : Heap} {locs : List Loc} (hM : bw D ad A s.heap H locs σ) {ls : Array Slot} (hl : lv_has ls 5 [(0, .ref (ad 0)), (1, .int a1), (2, .long a2)]) : W p l e rmB_put s m args below meth c H locs 0 0 (MQ below (va_Qi (fun r u => (r, u) = fB_put_20 a1 a2 σ) (bw_E D ad A) A) args s 0 0 A) (F0 m 20 ls []) := by
  obtain ⟨hx, hb, hr, hml, hown, hts, hlocks⟩ := id C
  refine lv_iconst (v := 1) hx hb dB_put_20 (by decide) ?_
  refine lv_goto (tgt := 25) hx hb dB_put_21 (by decide) ?_
  have hS9 : (SB_put_25 a1 a2 1 σ) := by have w9 := hS; rw [SB_put_20] at w9; exact w9
  rw [(show fB_put_20 a1 a2 σ = fB_put_25 a1 a2 1 σ by rw [fB_put_20])]
  exact kB_put_25 C hK hA hG a1 a2 1 σ (Or.inr rfl) (hS9) hM (lv_sub hl [0, 1, 2] rfl)
set_option maxHeartbeats 4000000 in
set_option maxRecDepth 100000 in
theorem kB_put_0 {p : Program} {l : Launch} {e : Env} {s : State} {m : MethodId} {args : Array Value} {below : List Frame} {meth : Method} {c : Code} (C : pw_C p s m args meth c cB_put 5 (some .int) "BitNumbers") {D : va_G} {ad : Nat → Nat} {A : Nat → Prop} (hK : va_K D clM (tyA ad) s) (hA : ∀ q, s.heap.size ≤ q → A q) {td ed : Nat → Nat} (hG : pw_G A ed td s s.heap) (a1 : Int32) (a2 : Int64) (σ : BS) (hS : SB_put a1 a2 σ) {H : Heap} {locs : List Loc} (hM : bw D ad A s.heap H locs σ) {ls : Array Slot} (hl : lv_has ls 5 [(0, .ref (ad 0)), (1, .int a1), (2, .long a2)]) : W p l e rmB_put s m args below meth c H locs 0 0 (MQ below (va_Qi (fun r u => (r, u) = fB_put a1 a2 σ) (bw_E D ad A) A) args s 0 0 A) (F0 m 0 ls []) := by
  obtain ⟨hx, hb, hr, hml, hown, hts, hlocks⟩ := id C
  refine lv_aload_n hx hb dB_put_0 rfl (lv_at hl 0 rfl) ?_
  refine bw_get (v := .int (bs_count σ)) hx hb hts hown hK hM 2 (by decide) (hts _ w_59) (bw_fd_count _ _) dB_put_1 ?_
  refine lv_bipush (v := 64) hx hb dB_put_4 (by decide) ?_
  refine lv_icmp_lt (tgt := 11) hx hb dB_put_6 (by decide) (fun h1 => ?_) (fun h1 => ?_)
  · refine lv_iload_n hx hb dB_put_11 rfl (lv_at hl 1 rfl) ?_
    refine lv_if_eq (tgt := 20) hx hb dB_put_12 (by decide) (fun h2 => ?_) (fun h2 => ?_)
    · have hS9 : (SB_put_20 a1 a2 σ) := by have w9 := hS; rw [SB_put, if_pos h1, if_pos h2] at w9; exact w9
      rw [(show fB_put a1 a2 σ = fB_put_20 a1 a2 σ by rw [fB_put, if_pos h1, if_pos h2])]
      exact kB_put_20 C hK hA hG a1 a2 σ (hS9) hM (lv_sub hl [0, 1, 2] rfl)
    · refine lv_iload_n hx hb dB_put_15 rfl (lv_at hl 1 rfl) ?_
      refine lv_iconst (v := 2) hx hb dB_put_16 (by decide) ?_
      refine lv_icmp_ne (tgt := 24) hx hb dB_put_17 (by decide) (fun h3 => ?_) (fun h3 => ?_)
      · refine lv_iconst (v := 0) hx hb dB_put_24 (by decide) ?_
        have hS9 : (SB_put_25 a1 a2 0 σ) := by have w9 := hS; rw [SB_put, if_pos h1, if_neg h2, if_neg h3] at w9; exact w9
        rw [(show fB_put a1 a2 σ = fB_put_25 a1 a2 0 σ by rw [fB_put, if_pos h1, if_neg h2, if_neg h3])]
        exact kB_put_25 C hK hA hG a1 a2 0 σ (Or.inl rfl) (hS9) hM (lv_sub hl [0, 1, 2] rfl)
      · have hS9 : (SB_put_20 a1 a2 σ) := by have w9 := hS; rw [SB_put, if_pos h1, if_neg h2, if_pos h3] at w9; exact w9
        rw [(show fB_put a1 a2 σ = fB_put_20 a1 a2 σ by rw [fB_put, if_pos h1, if_neg h2, if_pos h3])]
        exact kB_put_20 C hK hA hG a1 a2 σ (hS9) hM (lv_sub hl [0, 1, 2] rfl)
  · refine lv_iconst (v := (-1)) hx hb dB_put_9 (by decide) ?_
    exact W.iret (v := (-1)) hx hb hr (fun t ht hW => ⟨⟨(-1), σ, rfl, by rw [(show fB_put a1 a2 σ = ((-1), σ) by rw [fB_put, if_neg h1])], by rw [ht]; exact hM.1, va_K.moved hW.alike hK, hM.2.1⟩, hM.2.2.F ht⟩) hM.2.2.2.2 dB_put_10
set_option maxHeartbeats 4000000 in
set_option maxRecDepth 100000 in
theorem qB_put (l : Launch) (D : va_G) (ad ed td : Nat → Nat) (a1 : Int32) (a2 : Int64) (σ : BS) (sz : Nat) (hS : SB_put a1 a2 σ) : Met l yB_put wsB_put rmB_put (va_Pc [.ref (ad 0), .int a1, .long a2] (bw_B D ad ed td σ sz)) (va_Qi (fun r u => (r, u) = fB_put a1 a2 σ) (bw_E D ad (va_A (bw_c ad σ) sz)) (va_A (bw_c ad σ) sz)) 0 0 (va_A (bw_c ad σ) sz) := by
  refine Met.ofW (cc := cB_put) (maxL := 5) (ret := (some .int)) (by decide) rfl ?_
  intro p e s m args below meth c s₁ B hml hv
  obtain ⟨rfl, hsz, hP, hK, hD, hG⟩ := hv
  have hts0 := atoms_spec (ws := wsB_put) B.pre
  have hts := fun (w : Cond) (h : w ∈ aw) => hts0 w (List.mem_cons_of_mem _ h)
  have hown : s.vm.findClass "BitNumbers" = some m.cls := findClass_of_methodNamed B.named
  subst hsz
  have hl := lv_entry ([.ref (ad 0), .int a1, .long a2]) (n := 5) (Nat.le_of_ble_eq_true rfl)
  rw [lg_entry_eq]
  generalize (lg_sl ([.ref (ad 0), .int a1, .long a2]) ++ List.replicate (5 - (lg_sl ([.ref (ad 0), .int a1, .long a2])).length) Slot.unset).toArray = ls at hl ⊢
  exact kB_put_0 ⟨B.exec, B.bytes, B.returns, hml, hown, hts, B.notSynchronized⟩ hK (fun q h => Or.inr h) hG a1 a2 σ hS ⟨hP, hD.self, va_S.rf⟩ hl

set_option maxHeartbeats 4000000 in
set_option maxRecDepth 100000 in
theorem kB_push_9 {p : Program} {l : Launch} {e : Env} {s : State} {m : MethodId} {args : Array Value} {below : List Frame} {meth : Method} {c : Code} (C : pw_C p s m args meth c cB_push 4 (some .int) "BitNumbers") {D : va_G} {ad : Nat → Nat} {A : Nat → Prop} (hK : va_K D clM (tyA ad) s) (hA : ∀ q, s.heap.size ≤ q → A q) {td ed : Nat → Nat} (hG : pw_G A ed td s s.heap) (σ : BS) (hS : SB_push_9 σ) {H : Heap} {locs : List Loc} (hM : bw D ad A s.heap H locs σ) {ls : Array Slot} (hl : lv_has ls 4 []) : W p l e rmB_push s m args below meth c H locs 0 0 (MQ below (va_Qi (fun r u => (r, u) = fB_push_9 σ) (bw_E D ad A) A) args s 0 0 A) (F0 m 9 ls []) := by
  obtain ⟨hx, hb, hr, hml, hown, hts, hlocks⟩ := id C
  refine lv_iconst (v := (-1)) hx hb dB_push_9 (by decide) ?_
  exact W.iret (v := (-1)) hx hb hr (fun t ht hW => ⟨⟨(-1), σ, rfl, by rw [(show fB_push_9 σ = ((-1), σ) by rw [fB_push_9])], by rw [ht]; exact hM.1, va_K.moved hW.alike hK, hM.2.1⟩, hM.2.2.F ht⟩) hM.2.2.2.2 dB_push_10
set_option maxHeartbeats 4000000 in
set_option maxRecDepth 100000 in
theorem kB_push_0 {p : Program} {l : Launch} {e : Env} {s : State} {m : MethodId} {args : Array Value} {below : List Frame} {meth : Method} {c : Code} (C : pw_C p s m args meth c cB_push 4 (some .int) "BitNumbers") {D : va_G} {ad : Nat → Nat} {A : Nat → Prop} (hK : va_K D clM (tyA ad) s) (hA : ∀ q, s.heap.size ≤ q → A q) {td ed : Nat → Nat} (hG : pw_G A ed td s s.heap) (a1 : Int32) (a2 : Int64) (σ : BS) (hS : SB_push a1 a2 σ) {H : Heap} {locs : List Loc} (hM : bw D ad A s.heap H locs σ) {ls : Array Slot} (hl : lv_has ls 4 [(0, .ref (ad 0)), (1, .int a1), (2, .long a2)]) : W p l e rmB_push s m args below meth c H locs 0 0 (MQ below (va_Qi (fun r u => (r, u) = fB_push a1 a2 σ) (bw_E D ad A) A) args s 0 0 A) (F0 m 0 ls []) := by
  obtain ⟨hx, hb, hr, hml, hown, hts, hlocks⟩ := id C
  refine lv_iload_n hx hb dB_push_0 rfl (lv_at hl 1 rfl) ?_
  refine lv_if_lt (tgt := 9) hx hb dB_push_1 (by decide) (fun h1 => ?_) (fun h1 => ?_)
  · have hS9 : (SB_push_9 σ) := by have w9 := hS; rw [SB_push, if_pos h1] at w9; exact w9
    rw [(show fB_push a1 a2 σ = fB_push_9 σ by rw [fB_push, if_pos h1])]
    exact kB_push_9 C hK hA hG σ (hS9) hM (lv_sub hl [] rfl)
  · refine lv_iload_n hx hb dB_push_4 rfl (lv_at hl 1 rfl) ?_
    refine lv_iconst (v := 3) hx hb dB_push_5 (by decide) ?_
    refine lv_icmp_le (tgt := 11) hx hb dB_push_6 (by decide) (fun h2 => ?_) (fun h2 => ?_)
    · refine lv_aload_n hx hb dB_push_11 rfl (lv_at hl 0 rfl) ?_
      refine lv_iload_n hx hb dB_push_12 rfl (lv_at hl 1 rfl) ?_
      refine lv_lload_n hx hb dB_push_13 rfl (lv_at hl 2 rfl) ?_
      have hS14 : ((SB_put a1 a2 σ) ∧ True) := by have w9 := hS; rw [SB_push, if_neg h1, if_pos h2] at w9; exact w9
      refine bw_calli (F := fB_put a1 a2 σ) (va_runV (As := [.int a1, .long a2]) (rest := []) ⟨hx, hb, hml, hown, hts⟩ (qB_put l D ad ed td a1 a2 σ H.size hS14.1) (cwV 2 hts (gV w_76 w_78 w_0 w_33 w_79) rfl rfl rfl (by decide +kernel) ⟨Nat.le_of_ble_eq_true rfl, Nat.le_of_ble_eq_true rfl⟩) (bw_preV hK hM hA hG) rfl rfl hl.1 rfl (lv_room (Nat.le_of_ble_eq_true rfl)) dB_push_14 ⟨Nat.zero_le _, Nat.zero_le _⟩) hM hA (fun H locs hM => ?_)
      exact W.iret (v := (fB_put a1 a2 σ).1) hx hb hr (fun t ht hW => ⟨⟨(fB_put a1 a2 σ).1, (fB_put a1 a2 σ).2, rfl, by rw [(show fB_push a1 a2 σ = ((fB_put a1 a2 σ).1, (fB_put a1 a2 σ).2) by rw [fB_push, if_neg h1, if_pos h2])], by rw [ht]; exact hM.1, va_K.moved hW.alike hK, hM.2.1⟩, hM.2.2.F ht⟩) hM.2.2.2.2 dB_push_17
    · have hS9 : (SB_push_9 σ) := by have w9 := hS; rw [SB_push, if_neg h1, if_neg h2] at w9; exact w9
      rw [(show fB_push a1 a2 σ = fB_push_9 σ by rw [fB_push, if_neg h1, if_neg h2])]
      exact kB_push_9 C hK hA hG σ (hS9) hM (lv_sub hl [] rfl)
set_option maxHeartbeats 4000000 in
set_option maxRecDepth 100000 in
theorem qB_push (l : Launch) (D : va_G) (ad ed td : Nat → Nat) (a1 : Int32) (a2 : Int64) (σ : BS) (sz : Nat) (hS : SB_push a1 a2 σ) : Met l yB_push wsB_push rmB_push (va_Pc [.ref (ad 0), .int a1, .long a2] (bw_B D ad ed td σ sz)) (va_Qi (fun r u => (r, u) = fB_push a1 a2 σ) (bw_E D ad (va_A (bw_c ad σ) sz)) (va_A (bw_c ad σ) sz)) 0 0 (va_A (bw_c ad σ) sz) := by
  refine Met.ofW (cc := cB_push) (maxL := 4) (ret := (some .int)) (by decide) rfl ?_
  intro p e s m args below meth c s₁ B hml hv
  obtain ⟨rfl, hsz, hP, hK, hD, hG⟩ := hv
  have hts0 := atoms_spec (ws := wsB_push) B.pre
  have hts := fun (w : Cond) (h : w ∈ aw) => hts0 w (List.mem_cons_of_mem _ h)
  have hown : s.vm.findClass "BitNumbers" = some m.cls := findClass_of_methodNamed B.named
  subst hsz
  have hl := lv_entry ([.ref (ad 0), .int a1, .long a2]) (n := 4) (Nat.le_of_ble_eq_true rfl)
  rw [lg_entry_eq]
  generalize (lg_sl ([.ref (ad 0), .int a1, .long a2]) ++ List.replicate (4 - (lg_sl ([.ref (ad 0), .int a1, .long a2])).length) Slot.unset).toArray = ls at hl ⊢
  exact kB_push_0 ⟨B.exec, B.bytes, B.returns, hml, hown, hts, B.notSynchronized⟩ hK (fun q h => Or.inr h) hG a1 a2 σ hS ⟨hP, hD.self, va_S.rf⟩ hl

set_option maxHeartbeats 4000000 in
set_option maxRecDepth 100000 in
theorem kB_trap_0 {p : Program} {l : Launch} {e : Env} {s : State} {m : MethodId} {args : Array Value} {below : List Frame} {meth : Method} {c : Code} (C : pw_C p s m args meth c cB_trap 1 (some .int) "BitNumbers") {D : va_G} {ad : Nat → Nat} {A : Nat → Prop} (hK : va_K D clM (tyA ad) s) (hA : ∀ q, s.heap.size ≤ q → A q) {td ed : Nat → Nat} (hG : pw_G A ed td s s.heap) (σ : BS) {H : Heap} {locs : List Loc} (hM : bw D ad A s.heap H locs σ) {ls : Array Slot} (hl : lv_has ls 1 [(0, .ref (ad 0))]) : W p l e rmB_trap s m args below meth c H locs 0 0 (MQ below (va_Qi (fun r u => (r, u) = fB_trap σ) (bw_E D ad A) A) args s 0 0 A) (F0 m 0 ls []) := by
  obtain ⟨hx, hb, hr, hml, hown, hts, hlocks⟩ := id C
  refine lv_aload_n hx hb dB_trap_0 rfl (lv_at hl 0 rfl) ?_
  refine bw_get (v := .int (bs_latestTrap σ)) hx hb hts hown hK hM 3 (by decide) (hts _ w_60) (bw_fd_latestTrap _ _) dB_trap_1 ?_
  exact W.iret (v := bs_latestTrap σ) hx hb hr (fun t ht hW => ⟨⟨bs_latestTrap σ, σ, rfl, by rw [(show fB_trap σ = (bs_latestTrap σ, σ) by rw [fB_trap])], by rw [ht]; exact hM.1, va_K.moved hW.alike hK, hM.2.1⟩, hM.2.2.F ht⟩) hM.2.2.2.2 dB_trap_4
set_option maxHeartbeats 4000000 in
set_option maxRecDepth 100000 in
theorem qB_trap (l : Launch) (D : va_G) (ad ed td : Nat → Nat)  (σ : BS) (sz : Nat) : Met l yB_trap wsB_trap rmB_trap (va_Pc [.ref (ad 0)] (bw_B D ad ed td σ sz)) (va_Qi (fun r u => (r, u) = fB_trap σ) (bw_E D ad (va_A (bw_c ad σ) sz)) (va_A (bw_c ad σ) sz)) 0 0 (va_A (bw_c ad σ) sz) := by
  refine Met.ofW (cc := cB_trap) (maxL := 1) (ret := (some .int)) (by decide) rfl ?_
  intro p e s m args below meth c s₁ B hml hv
  obtain ⟨rfl, hsz, hP, hK, hD, hG⟩ := hv
  have hts0 := atoms_spec (ws := wsB_trap) B.pre
  have hts := fun (w : Cond) (h : w ∈ aw) => hts0 w (List.mem_cons_of_mem _ h)
  have hown : s.vm.findClass "BitNumbers" = some m.cls := findClass_of_methodNamed B.named
  subst hsz
  have hl := lv_entry ([.ref (ad 0)]) (n := 1) (Nat.le_of_ble_eq_true rfl)
  rw [lg_entry_eq]
  generalize (lg_sl ([.ref (ad 0)]) ++ List.replicate (1 - (lg_sl ([.ref (ad 0)])).length) Slot.unset).toArray = ls at hl ⊢
  exact kB_trap_0 ⟨B.exec, B.bytes, B.returns, hml, hown, hts, B.notSynchronized⟩ hK (fun q h => Or.inr h) hG σ ⟨hP, hD.self, va_S.rf⟩ hl

set_option maxHeartbeats 4000000 in
set_option maxRecDepth 100000 in
theorem kB_operator_0 {p : Program} {l : Launch} {e : Env} {s : State} {m : MethodId} {args : Array Value} {below : List Frame} {meth : Method} {c : Code} (C : pw_C p s m args meth c cB_operator 3 (some .int) "BitNumbers") {D : va_G} {ad : Nat → Nat} {A : Nat → Prop} (hK : va_K D clM (tyA ad) s) (hA : ∀ q, s.heap.size ≤ q → A q) {td ed : Nat → Nat} (hG : pw_G A ed td s s.heap) (a1 : Int32) (a2 : Int32) (σ : BS) {H : Heap} {locs : List Loc} (hM : bw D ad A s.heap H locs σ) {ls : Array Slot} (hl : lv_has ls 3 [(0, .ref (ad 0)), (1, .int a1), (2, .int a2)]) : W p l e rmB_operator s m args below meth c H locs 0 0 (MQ below (va_Qi (fun r u => (r, u) = fB_operator a1 a2 σ) (bw_E D ad A) A) args s 0 0 A) (F0 m 0 ls []) := by
  obtain ⟨hx, hb, hr, hml, hown, hts, hlocks⟩ := id C
  refine lv_iload_n hx hb dB_operator_0 rfl (lv_at hl 1 rfl) ?_
  refine pw_call (va_runS (As := [.int a1]) (rest := []) ⟨hx, hb, hml, hown, hts⟩ (qOperators_exists l ed td a1) (va_cwS 1 hts (gS w_92 w_93 w_40 w_94) rfl rfl rfl (by decide +kernel) ⟨Nat.le_of_ble_eq_true rfl, Nat.le_of_ble_eq_true rfl⟩) ⟨pw_bG, fun U hU hW => ⟨rfl, (pw_at hG hM.2.2 hU hW)⟩⟩ rfl rfl hl.1 rfl (lv_room (Nat.le_of_ble_eq_true rfl)) dB_operator_1 ⟨Nat.zero_le _, Nat.zero_le _⟩) ?_
  refine lv_if_ne (tgt := 9) hx hb dB_operator_4 (by decide) (fun h1 => ?_) (fun h1 => ?_)
  · refine lv_iload_n hx hb dB_operator_9 rfl (lv_at hl 2 rfl) ?_
    by_cases h2 : a2 = 0
    · refine lv_tableIn (tgt := 36) hx hb dB_operator_10 (by rw [h2]; decide) (by rw [h2]; decide) (off := 26) (by rw [h2]; rfl) (by decide) ?_
      refine lv_iload_n hx hb dB_operator_36 rfl (lv_at hl 1 rfl) ?_
      refine pw_call (va_runS (As := [.int a1]) (rest := []) ⟨hx, hb, hml, hown, hts⟩ (qOperators_operands l ed td a1) (va_cwS 1 hts (gS w_97 w_98 w_40 w_99) rfl rfl rfl (by decide +kernel) ⟨Nat.le_of_ble_eq_true rfl, Nat.le_of_ble_eq_true rfl⟩) ⟨pw_bG, fun U hU hW => ⟨rfl, (pw_at hG hM.2.2 hU hW)⟩⟩ rfl rfl hl.1 rfl (lv_room (Nat.le_of_ble_eq_true rfl)) dB_operator_37 ⟨Nat.zero_le _, Nat.zero_le _⟩) ?_
      exact W.iret (v := fOperators_operands a1) hx hb hr (fun t ht hW => ⟨⟨fOperators_operands a1, σ, rfl, by rw [(show fB_operator a1 a2 σ = (fOperators_operands a1, σ) by rw [fB_operator, if_neg h1, if_pos h2])], by rw [ht]; exact hM.1, va_K.moved hW.alike hK, hM.2.1⟩, hM.2.2.F ht⟩) hM.2.2.2.2 dB_operator_40
    by_cases h3 : a2 = 1
    · refine lv_tableIn (tgt := 41) hx hb dB_operator_10 (by rw [h3]; decide) (by rw [h3]; decide) (off := 31) (by rw [h3]; rfl) (by decide) ?_
      refine lv_iload_n hx hb dB_operator_41 rfl (lv_at hl 1 rfl) ?_
      refine pw_call (va_runS (As := [.int a1]) (rest := []) ⟨hx, hb, hml, hown, hts⟩ (qOperators_operandType l ed td a1) (va_cwS 1 hts (gS w_105 w_106 w_40 w_107) rfl rfl rfl (by decide +kernel) ⟨Nat.le_of_ble_eq_true rfl, Nat.le_of_ble_eq_true rfl⟩) ⟨pw_bG, fun U hU hW => ⟨rfl, (pw_at hG hM.2.2 hU hW)⟩⟩ rfl rfl hl.1 rfl (lv_room (Nat.le_of_ble_eq_true rfl)) dB_operator_42 ⟨Nat.zero_le _, Nat.zero_le _⟩) ?_
      exact W.iret (v := fOperators_operandType a1) hx hb hr (fun t ht hW => ⟨⟨fOperators_operandType a1, σ, rfl, by rw [(show fB_operator a1 a2 σ = (fOperators_operandType a1, σ) by rw [fB_operator, if_neg h1, if_neg h2, if_pos h3])], by rw [ht]; exact hM.1, va_K.moved hW.alike hK, hM.2.1⟩, hM.2.2.F ht⟩) hM.2.2.2.2 dB_operator_45
    by_cases h4 : a2 = 2
    · refine lv_tableIn (tgt := 46) hx hb dB_operator_10 (by rw [h4]; decide) (by rw [h4]; decide) (off := 36) (by rw [h4]; rfl) (by decide) ?_
      refine lv_iload_n hx hb dB_operator_46 rfl (lv_at hl 1 rfl) ?_
      refine pw_call (va_runS (As := [.int a1]) (rest := []) ⟨hx, hb, hml, hown, hts⟩ (qOperators_resultType l ed td a1) (va_cwS 1 hts (gS w_113 w_114 w_40 w_115) rfl rfl rfl (by decide +kernel) ⟨Nat.le_of_ble_eq_true rfl, Nat.le_of_ble_eq_true rfl⟩) ⟨pw_bG, fun U hU hW => ⟨rfl, (pw_at hG hM.2.2 hU hW)⟩⟩ rfl rfl hl.1 rfl (lv_room (Nat.le_of_ble_eq_true rfl)) dB_operator_47 ⟨Nat.zero_le _, Nat.zero_le _⟩) ?_
      exact W.iret (v := fOperators_resultType a1) hx hb hr (fun t ht hW => ⟨⟨fOperators_resultType a1, σ, rfl, by rw [(show fB_operator a1 a2 σ = (fOperators_resultType a1, σ) by rw [fB_operator, if_neg h1, if_neg h2, if_neg h3, if_pos h4])], by rw [ht]; exact hM.1, va_K.moved hW.alike hK, hM.2.1⟩, hM.2.2.F ht⟩) hM.2.2.2.2 dB_operator_50
    refine pw_tableD (tgt := 51) hx hb dB_operator_10 ?_ (by decide) ?_
    · have th2 := lv_neT h2 (a := 0) (by decide)
      have th3 := lv_neT h3 (a := 1) (by decide)
      have th4 := lv_neT h4 (a := 2) (by decide)
      exact (show a2.toInt < 0 ∨ 2 < a2.toInt by omega).elim Or.inl (fun q => Or.inr (Or.inl q))
    refine lv_iconst (v := (-1)) hx hb dB_operator_51 (by decide) ?_
    exact W.iret (v := (-1)) hx hb hr (fun t ht hW => ⟨⟨(-1), σ, rfl, by rw [(show fB_operator a1 a2 σ = ((-1), σ) by rw [fB_operator, if_neg h1, if_neg h2, if_neg h3, if_neg h4])], by rw [ht]; exact hM.1, va_K.moved hW.alike hK, hM.2.1⟩, hM.2.2.F ht⟩) hM.2.2.2.2 dB_operator_52
  · refine lv_iconst (v := (-1)) hx hb dB_operator_7 (by decide) ?_
    exact W.iret (v := (-1)) hx hb hr (fun t ht hW => ⟨⟨(-1), σ, rfl, by rw [(show fB_operator a1 a2 σ = ((-1), σ) by rw [fB_operator, if_pos h1])], by rw [ht]; exact hM.1, va_K.moved hW.alike hK, hM.2.1⟩, hM.2.2.F ht⟩) hM.2.2.2.2 dB_operator_8
set_option maxHeartbeats 4000000 in
set_option maxRecDepth 100000 in
theorem qB_operator (l : Launch) (D : va_G) (ad ed td : Nat → Nat) (a1 : Int32) (a2 : Int32) (σ : BS) (sz : Nat) : Met l yB_operator wsB_operator rmB_operator (va_Pc [.ref (ad 0), .int a1, .int a2] (bw_B D ad ed td σ sz)) (va_Qi (fun r u => (r, u) = fB_operator a1 a2 σ) (bw_E D ad (va_A (bw_c ad σ) sz)) (va_A (bw_c ad σ) sz)) 0 0 (va_A (bw_c ad σ) sz) := by
  refine Met.ofW (cc := cB_operator) (maxL := 3) (ret := (some .int)) (by decide) rfl ?_
  intro p e s m args below meth c s₁ B hml hv
  obtain ⟨rfl, hsz, hP, hK, hD, hG⟩ := hv
  have hts0 := atoms_spec (ws := wsB_operator) B.pre
  have hts := fun (w : Cond) (h : w ∈ aw) => hts0 w (List.mem_cons_of_mem _ h)
  have hown : s.vm.findClass "BitNumbers" = some m.cls := findClass_of_methodNamed B.named
  subst hsz
  have hl := lv_entry ([.ref (ad 0), .int a1, .int a2]) (n := 3) (Nat.le_of_ble_eq_true rfl)
  rw [lg_entry_eq]
  generalize (lg_sl ([.ref (ad 0), .int a1, .int a2]) ++ List.replicate (3 - (lg_sl ([.ref (ad 0), .int a1, .int a2])).length) Slot.unset).toArray = ls at hl ⊢
  exact kB_operator_0 ⟨B.exec, B.bytes, B.returns, hml, hown, hts, B.notSynchronized⟩ hK (fun q h => Or.inr h) hG a1 a2 σ ⟨hP, hD.self, va_S.rf⟩ hl

set_option maxHeartbeats 4000000 in
set_option maxRecDepth 100000 in
theorem kB_isThere_16 {p : Program} {l : Launch} {e : Env} {s : State} {m : MethodId} {args : Array Value} {below : List Frame} {meth : Method} {c : Code} (C : pw_C p s m args meth c cB_isThere 2 (some .boolean) "BitNumbers") {D : va_G} {ad : Nat → Nat} {A : Nat → Prop} (hK : va_K D clM (tyA ad) s) (hA : ∀ q, s.heap.size ≤ q → A q) {td ed : Nat → Nat} (hG : pw_G A ed td s s.heap) (σ : BS) {H : Heap} {locs : List Loc} (hM : bw D ad A s.heap H locs σ) {ls : Array Slot} (hl : lv_has ls 2 []) : W p l e rmB_isThere s m args below meth c H locs 0 0 (MQ below (va_Qi (fun r u => (r, u) = fB_isThere_16 σ) (bw_E D ad A) A) args s 0 0 A) (F0 m 16 ls []) := by
  obtain ⟨hx, hb, hr, hml, hown, hts, hlocks⟩ := id C
  refine lv_iconst (v := 0) hx hb dB_isThere_16 (by decide) ?_
  exact W.zret (v := 0) hx hb hr (pw_nz (Or.inl rfl)) (fun t ht hW => ⟨⟨0, σ, rfl, by rw [(show fB_isThere_16 σ = (0, σ) by rw [fB_isThere_16])], by rw [ht]; exact hM.1, va_K.moved hW.alike hK, hM.2.1⟩, hM.2.2.F ht⟩) hM.2.2.2.2 dB_isThere_17
set_option maxHeartbeats 4000000 in
set_option maxRecDepth 100000 in
theorem kB_isThere_0 {p : Program} {l : Launch} {e : Env} {s : State} {m : MethodId} {args : Array Value} {below : List Frame} {meth : Method} {c : Code} (C : pw_C p s m args meth c cB_isThere 2 (some .boolean) "BitNumbers") {D : va_G} {ad : Nat → Nat} {A : Nat → Prop} (hK : va_K D clM (tyA ad) s) (hA : ∀ q, s.heap.size ≤ q → A q) {td ed : Nat → Nat} (hG : pw_G A ed td s s.heap) (a1 : Int32) (σ : BS) {H : Heap} {locs : List Loc} (hM : bw D ad A s.heap H locs σ) {ls : Array Slot} (hl : lv_has ls 2 [(0, .ref (ad 0)), (1, .int a1)]) : W p l e rmB_isThere s m args below meth c H locs 0 0 (MQ below (va_Qi (fun r u => (r, u) = fB_isThere a1 σ) (bw_E D ad A) A) args s 0 0 A) (F0 m 0 ls []) := by
  obtain ⟨hx, hb, hr, hml, hown, hts, hlocks⟩ := id C
  refine lv_iload_n hx hb dB_isThere_0 rfl (lv_at hl 1 rfl) ?_
  refine lv_if_lt (tgt := 16) hx hb dB_isThere_1 (by decide) (fun h1 => ?_) (fun h1 => ?_)
  · rw [(show fB_isThere a1 σ = fB_isThere_16 σ by rw [fB_isThere, if_pos h1])]
    exact kB_isThere_16 C hK hA hG σ hM (lv_sub hl [] rfl)
  · refine lv_iload_n hx hb dB_isThere_4 rfl (lv_at hl 1 rfl) ?_
    refine lv_aload_n hx hb dB_isThere_5 rfl (lv_at hl 0 rfl) ?_
    refine bw_get (v := .int (bs_count σ)) hx hb hts hown hK hM 2 (by decide) (hts _ w_59) (bw_fd_count _ _) dB_isThere_6 ?_
    refine lv_icmp_ge (tgt := 16) hx hb dB_isThere_9 (by decide) (fun h2 => ?_) (fun h2 => ?_)
    · rw [(show fB_isThere a1 σ = fB_isThere_16 σ by rw [fB_isThere, if_neg h1, if_pos h2])]
      exact kB_isThere_16 C hK hA hG σ hM (lv_sub hl [] rfl)
    · refine lv_iconst (v := 1) hx hb dB_isThere_12 (by decide) ?_
      refine lv_goto (tgt := 17) hx hb dB_isThere_13 (by decide) ?_
      exact W.zret (v := 1) hx hb hr (pw_nz (Or.inr rfl)) (fun t ht hW => ⟨⟨1, σ, rfl, by rw [(show fB_isThere a1 σ = (1, σ) by rw [fB_isThere, if_neg h1, if_neg h2])], by rw [ht]; exact hM.1, va_K.moved hW.alike hK, hM.2.1⟩, hM.2.2.F ht⟩) hM.2.2.2.2 dB_isThere_17
set_option maxHeartbeats 4000000 in
set_option maxRecDepth 100000 in
theorem qB_isThere (l : Launch) (D : va_G) (ad ed td : Nat → Nat) (a1 : Int32) (σ : BS) (sz : Nat) : Met l yB_isThere wsB_isThere rmB_isThere (va_Pc [.ref (ad 0), .int a1] (bw_B D ad ed td σ sz)) (va_Qi (fun r u => (r, u) = fB_isThere a1 σ) (bw_E D ad (va_A (bw_c ad σ) sz)) (va_A (bw_c ad σ) sz)) 0 0 (va_A (bw_c ad σ) sz) := by
  refine Met.ofW (cc := cB_isThere) (maxL := 2) (ret := (some .boolean)) (by decide) rfl ?_
  intro p e s m args below meth c s₁ B hml hv
  obtain ⟨rfl, hsz, hP, hK, hD, hG⟩ := hv
  have hts0 := atoms_spec (ws := wsB_isThere) B.pre
  have hts := fun (w : Cond) (h : w ∈ aw) => hts0 w (List.mem_cons_of_mem _ h)
  have hown : s.vm.findClass "BitNumbers" = some m.cls := findClass_of_methodNamed B.named
  subst hsz
  have hl := lv_entry ([.ref (ad 0), .int a1]) (n := 2) (Nat.le_of_ble_eq_true rfl)
  rw [lg_entry_eq]
  generalize (lg_sl ([.ref (ad 0), .int a1]) ++ List.replicate (2 - (lg_sl ([.ref (ad 0), .int a1])).length) Slot.unset).toArray = ls at hl ⊢
  exact kB_isThere_0 ⟨B.exec, B.bytes, B.returns, hml, hown, hts, B.notSynchronized⟩ hK (fun q h => Or.inr h) hG a1 σ ⟨hP, hD.self, va_S.rf⟩ hl

set_option maxHeartbeats 4000000 in
set_option maxRecDepth 100000 in
theorem kB_type_5 {p : Program} {l : Launch} {e : Env} {s : State} {m : MethodId} {args : Array Value} {below : List Frame} {meth : Method} {c : Code} (C : pw_C p s m args meth c cB_type 2 (some .int) "BitNumbers") {D : va_G} {ad : Nat → Nat} {A : Nat → Prop} (hK : va_K D clM (tyA ad) s) (hA : ∀ q, s.heap.size ≤ q → A q) {td ed : Nat → Nat} (hG : pw_G A ed td s s.heap) (a1 : Int32) (s0 : Int32) (σ : BS) (hzs0 : s0 = 0 ∨ s0 = 1) (hS : SB_type_5 a1 s0 σ) {H : Heap} {locs : List Loc} (hM : bw D ad A s.heap H locs σ) {ls : Array Slot} (hl : lv_has ls 2 [(0, .ref (ad 0)), (1, .int a1)]) : W p l e rmB_type s m args below meth c H locs 0 0 (MQ below (va_Qi (fun r u => (r, u) = fB_type_5 a1 s0 σ) (bw_E D ad A) A) args s 0 0 A) (F0 m 5 ls [.int s0]) := by
  obtain ⟨hx, hb, hr, hml, hown, hts, hlocks⟩ := id C
  refine lv_if_eq (tgt := 24) hx hb dB_type_5 (by decide) (fun h1 => ?_) (fun h1 => ?_)
  · refine lv_iconst (v := (-1)) hx hb dB_type_24 (by decide) ?_
    exact W.iret (v := (-1)) hx hb hr (fun t ht hW => ⟨⟨(-1), σ, rfl, by rw [(show fB_type_5 a1 s0 σ = ((-1), σ) by rw [fB_type_5, if_pos h1])], by rw [ht]; exact hM.1, va_K.moved hW.alike hK, hM.2.1⟩, hM.2.2.F ht⟩) hM.2.2.2.2 dB_type_25
  · refine lv_aload_n hx hb dB_type_8 rfl (lv_at hl 0 rfl) ?_
    refine bw_get (v := .ref (ad 1)) hx hb hts hown hK hM 0 (by decide) (hts _ w_57) (bw_fd_types _ _) dB_type_9 ?_
    refine lv_aload_n hx hb dB_type_12 rfl (lv_at hl 0 rfl) ?_
    refine bw_get (v := .int (bs_count σ)) hx hb hts hown hK hM 2 (by decide) (hts _ w_59) (bw_fd_count _ _) dB_type_13 ?_
    refine lv_iconst (v := 1) hx hb dB_type_16 (by decide) ?_
    refine lv_isub hx hb dB_type_17 ?_
    refine lv_iload_n hx hb dB_type_18 rfl (lv_at hl 1 rfl) ?_
    refine lv_isub hx hb dB_type_19 ?_
    have hS20 : ((vp_in (((bs_count σ) - 1) - a1) 64) ∧ True) := by have w9 := hS; rw [SB_type_5, if_neg h1] at w9; exact w9
    refine bw_iald hx hb hK hM 1 (bw_ar_types _ _) (hS20.1) dB_type_20 ?_
    refine lv_goto (tgt := 25) hx hb dB_type_21 (by decide) ?_
    exact W.iret (v := bs_types σ (((bs_count σ) - 1) - a1).toNatClampNeg) hx hb hr (fun t ht hW => ⟨⟨bs_types σ (((bs_count σ) - 1) - a1).toNatClampNeg, σ, rfl, by rw [(show fB_type_5 a1 s0 σ = (bs_types σ (((bs_count σ) - 1) - a1).toNatClampNeg, σ) by rw [fB_type_5, if_neg h1])], by rw [ht]; exact hM.1, va_K.moved hW.alike hK, hM.2.1⟩, hM.2.2.F ht⟩) hM.2.2.2.2 dB_type_25
set_option maxHeartbeats 4000000 in
set_option maxRecDepth 100000 in
theorem kB_type_0 {p : Program} {l : Launch} {e : Env} {s : State} {m : MethodId} {args : Array Value} {below : List Frame} {meth : Method} {c : Code} (C : pw_C p s m args meth c cB_type 2 (some .int) "BitNumbers") {D : va_G} {ad : Nat → Nat} {A : Nat → Prop} (hK : va_K D clM (tyA ad) s) (hA : ∀ q, s.heap.size ≤ q → A q) {td ed : Nat → Nat} (hG : pw_G A ed td s s.heap) (a1 : Int32) (σ : BS) (hS : SB_type a1 σ) {H : Heap} {locs : List Loc} (hM : bw D ad A s.heap H locs σ) {ls : Array Slot} (hl : lv_has ls 2 [(0, .ref (ad 0)), (1, .int a1)]) : W p l e rmB_type s m args below meth c H locs 0 0 (MQ below (va_Qi (fun r u => (r, u) = fB_type a1 σ) (bw_E D ad A) A) args s 0 0 A) (F0 m 0 ls []) := by
  obtain ⟨hx, hb, hr, hml, hown, hts, hlocks⟩ := id C
  refine lv_aload_n hx hb dB_type_0 rfl (lv_at hl 0 rfl) ?_
  refine lv_iload_n hx hb dB_type_1 rfl (lv_at hl 1 rfl) ?_
  refine bw_calli (F := fB_isThere a1 σ) (va_runV (As := [.int a1]) (rest := []) ⟨hx, hb, hml, hown, hts⟩ (qB_isThere l D ad ed td a1 σ H.size) (cwV 1 hts (gV w_122 w_124 w_1 w_33 w_125) rfl rfl rfl (by decide +kernel) ⟨Nat.le_of_ble_eq_true rfl, Nat.le_of_ble_eq_true rfl⟩) (bw_preV hK hM hA hG) rfl rfl hl.1 rfl (lv_room (Nat.le_of_ble_eq_true rfl)) dB_type_2 ⟨Nat.zero_le _, Nat.zero_le _⟩) hM hA (fun H locs hM => ?_)
  have hS9 : (SB_type_5 a1 ((fB_isThere a1 σ).1) ((fB_isThere a1 σ).2)) := by have w9 := hS; rw [SB_type] at w9; exact w9
  rw [(show fB_type a1 σ = fB_type_5 a1 ((fB_isThere a1 σ).1) ((fB_isThere a1 σ).2) by rw [fB_type])]
  exact kB_type_5 C hK hA hG a1 ((fB_isThere a1 σ).1) ((fB_isThere a1 σ).2) (zB_isThere a1 σ) (hS9) hM (lv_sub hl [0, 1] rfl)
set_option maxHeartbeats 4000000 in
set_option maxRecDepth 100000 in
theorem qB_type (l : Launch) (D : va_G) (ad ed td : Nat → Nat) (a1 : Int32) (σ : BS) (sz : Nat) (hS : SB_type a1 σ) : Met l yB_type wsB_type rmB_type (va_Pc [.ref (ad 0), .int a1] (bw_B D ad ed td σ sz)) (va_Qi (fun r u => (r, u) = fB_type a1 σ) (bw_E D ad (va_A (bw_c ad σ) sz)) (va_A (bw_c ad σ) sz)) 0 0 (va_A (bw_c ad σ) sz) := by
  refine Met.ofW (cc := cB_type) (maxL := 2) (ret := (some .int)) (by decide) rfl ?_
  intro p e s m args below meth c s₁ B hml hv
  obtain ⟨rfl, hsz, hP, hK, hD, hG⟩ := hv
  have hts0 := atoms_spec (ws := wsB_type) B.pre
  have hts := fun (w : Cond) (h : w ∈ aw) => hts0 w (List.mem_cons_of_mem _ h)
  have hown : s.vm.findClass "BitNumbers" = some m.cls := findClass_of_methodNamed B.named
  subst hsz
  have hl := lv_entry ([.ref (ad 0), .int a1]) (n := 2) (Nat.le_of_ble_eq_true rfl)
  rw [lg_entry_eq]
  generalize (lg_sl ([.ref (ad 0), .int a1]) ++ List.replicate (2 - (lg_sl ([.ref (ad 0), .int a1])).length) Slot.unset).toArray = ls at hl ⊢
  exact kB_type_0 ⟨B.exec, B.bytes, B.returns, hml, hown, hts, B.notSynchronized⟩ hK (fun q h => Or.inr h) hG a1 σ hS ⟨hP, hD.self, va_S.rf⟩ hl

set_option maxHeartbeats 4000000 in
set_option maxRecDepth 100000 in
theorem kB_bits_5 {p : Program} {l : Launch} {e : Env} {s : State} {m : MethodId} {args : Array Value} {below : List Frame} {meth : Method} {c : Code} (C : pw_C p s m args meth c cB_bits 2 (some .long) "BitNumbers") {D : va_G} {ad : Nat → Nat} {A : Nat → Prop} (hK : va_K D clM (tyA ad) s) (hA : ∀ q, s.heap.size ≤ q → A q) {td ed : Nat → Nat} (hG : pw_G A ed td s s.heap) (a1 : Int32) (s0 : Int32) (σ : BS) (hzs0 : s0 = 0 ∨ s0 = 1) (hS : SB_bits_5 a1 s0 σ) {H : Heap} {locs : List Loc} (hM : bw D ad A s.heap H locs σ) {ls : Array Slot} (hl : lv_has ls 2 [(0, .ref (ad 0)), (1, .int a1)]) : W p l e rmB_bits s m args below meth c H locs 0 0 (MQ below (va_Ql (fun r u => (r, u) = fB_bits_5 a1 s0 σ) (bw_E D ad A) A) args s 0 0 A) (F0 m 5 ls [.int s0]) := by
  obtain ⟨hx, hb, hr, hml, hown, hts, hlocks⟩ := id C
  refine lv_if_eq (tgt := 24) hx hb dB_bits_5 (by decide) (fun h1 => ?_) (fun h1 => ?_)
  · refine lv_lconst (v := 0) hx hb dB_bits_24 (by decide) ?_
    exact W.lret (v := 0) hx hb hr (fun t ht hW => ⟨⟨0, σ, rfl, by rw [(show fB_bits_5 a1 s0 σ = (0, σ) by rw [fB_bits_5, if_pos h1])], by rw [ht]; exact hM.1, va_K.moved hW.alike hK, hM.2.1⟩, hM.2.2.F ht⟩) hM.2.2.2.2 dB_bits_25
  · refine lv_aload_n hx hb dB_bits_8 rfl (lv_at hl 0 rfl) ?_
    refine bw_get (v := .ref (ad 2)) hx hb hts hown hK hM 1 (by decide) (hts _ w_58) (bw_fd_rows _ _) dB_bits_9 ?_
    refine lv_aload_n hx hb dB_bits_12 rfl (lv_at hl 0 rfl) ?_
    refine bw_get (v := .int (bs_count σ)) hx hb hts hown hK hM 2 (by decide) (hts _ w_59) (bw_fd_count _ _) dB_bits_13 ?_
    refine lv_iconst (v := 1) hx hb dB_bits_16 (by decide) ?_
    refine lv_isub hx hb dB_bits_17 ?_
    refine lv_iload_n hx hb dB_bits_18 rfl (lv_at hl 1 rfl) ?_
    refine lv_isub hx hb dB_bits_19 ?_
    have hS20 : ((vp_in (((bs_count σ) - 1) - a1) 64) ∧ True) := by have w9 := hS; rw [SB_bits_5, if_neg h1] at w9; exact w9
    refine bw_lald hx hb hK hM 2 (bw_ar_rows _ _) (hS20.1) dB_bits_20 ?_
    refine lv_goto (tgt := 25) hx hb dB_bits_21 (by decide) ?_
    exact W.lret (v := bs_rows σ (((bs_count σ) - 1) - a1).toNatClampNeg) hx hb hr (fun t ht hW => ⟨⟨bs_rows σ (((bs_count σ) - 1) - a1).toNatClampNeg, σ, rfl, by rw [(show fB_bits_5 a1 s0 σ = (bs_rows σ (((bs_count σ) - 1) - a1).toNatClampNeg, σ) by rw [fB_bits_5, if_neg h1])], by rw [ht]; exact hM.1, va_K.moved hW.alike hK, hM.2.1⟩, hM.2.2.F ht⟩) hM.2.2.2.2 dB_bits_25
set_option maxHeartbeats 4000000 in
set_option maxRecDepth 100000 in
theorem kB_bits_0 {p : Program} {l : Launch} {e : Env} {s : State} {m : MethodId} {args : Array Value} {below : List Frame} {meth : Method} {c : Code} (C : pw_C p s m args meth c cB_bits 2 (some .long) "BitNumbers") {D : va_G} {ad : Nat → Nat} {A : Nat → Prop} (hK : va_K D clM (tyA ad) s) (hA : ∀ q, s.heap.size ≤ q → A q) {td ed : Nat → Nat} (hG : pw_G A ed td s s.heap) (a1 : Int32) (σ : BS) (hS : SB_bits a1 σ) {H : Heap} {locs : List Loc} (hM : bw D ad A s.heap H locs σ) {ls : Array Slot} (hl : lv_has ls 2 [(0, .ref (ad 0)), (1, .int a1)]) : W p l e rmB_bits s m args below meth c H locs 0 0 (MQ below (va_Ql (fun r u => (r, u) = fB_bits a1 σ) (bw_E D ad A) A) args s 0 0 A) (F0 m 0 ls []) := by
  obtain ⟨hx, hb, hr, hml, hown, hts, hlocks⟩ := id C
  refine lv_aload_n hx hb dB_bits_0 rfl (lv_at hl 0 rfl) ?_
  refine lv_iload_n hx hb dB_bits_1 rfl (lv_at hl 1 rfl) ?_
  refine bw_calli (F := fB_isThere a1 σ) (va_runV (As := [.int a1]) (rest := []) ⟨hx, hb, hml, hown, hts⟩ (qB_isThere l D ad ed td a1 σ H.size) (cwV 1 hts (gV w_122 w_124 w_1 w_33 w_125) rfl rfl rfl (by decide +kernel) ⟨Nat.le_of_ble_eq_true rfl, Nat.le_of_ble_eq_true rfl⟩) (bw_preV hK hM hA hG) rfl rfl hl.1 rfl (lv_room (Nat.le_of_ble_eq_true rfl)) dB_bits_2 ⟨Nat.zero_le _, Nat.zero_le _⟩) hM hA (fun H locs hM => ?_)
  have hS9 : (SB_bits_5 a1 ((fB_isThere a1 σ).1) ((fB_isThere a1 σ).2)) := by have w9 := hS; rw [SB_bits] at w9; exact w9
  rw [(show fB_bits a1 σ = fB_bits_5 a1 ((fB_isThere a1 σ).1) ((fB_isThere a1 σ).2) by rw [fB_bits])]
  exact kB_bits_5 C hK hA hG a1 ((fB_isThere a1 σ).1) ((fB_isThere a1 σ).2) (zB_isThere a1 σ) (hS9) hM (lv_sub hl [0, 1] rfl)
set_option maxHeartbeats 4000000 in
set_option maxRecDepth 100000 in
theorem qB_bits (l : Launch) (D : va_G) (ad ed td : Nat → Nat) (a1 : Int32) (σ : BS) (sz : Nat) (hS : SB_bits a1 σ) : Met l yB_bits wsB_bits rmB_bits (va_Pc [.ref (ad 0), .int a1] (bw_B D ad ed td σ sz)) (va_Ql (fun r u => (r, u) = fB_bits a1 σ) (bw_E D ad (va_A (bw_c ad σ) sz)) (va_A (bw_c ad σ) sz)) 0 0 (va_A (bw_c ad σ) sz) := by
  refine Met.ofW (cc := cB_bits) (maxL := 2) (ret := (some .long)) (by decide) rfl ?_
  intro p e s m args below meth c s₁ B hml hv
  obtain ⟨rfl, hsz, hP, hK, hD, hG⟩ := hv
  have hts0 := atoms_spec (ws := wsB_bits) B.pre
  have hts := fun (w : Cond) (h : w ∈ aw) => hts0 w (List.mem_cons_of_mem _ h)
  have hown : s.vm.findClass "BitNumbers" = some m.cls := findClass_of_methodNamed B.named
  subst hsz
  have hl := lv_entry ([.ref (ad 0), .int a1]) (n := 2) (Nat.le_of_ble_eq_true rfl)
  rw [lg_entry_eq]
  generalize (lg_sl ([.ref (ad 0), .int a1]) ++ List.replicate (2 - (lg_sl ([.ref (ad 0), .int a1])).length) Slot.unset).toArray = ls at hl ⊢
  exact kB_bits_0 ⟨B.exec, B.bytes, B.returns, hml, hown, hts, B.notSynchronized⟩ hK (fun q h => Or.inr h) hG a1 σ hS ⟨hP, hD.self, va_S.rf⟩ hl

set_option maxHeartbeats 4000000 in
set_option maxRecDepth 100000 in
theorem kB_parts_59 {p : Program} {l : Launch} {e : Env} {s : State} {m : MethodId} {args : Array Value} {below : List Frame} {meth : Method} {c : Code} (C : pw_C p s m args meth c cB_parts 6 (some .int) "BitNumbers") {D : va_G} {ad : Nat → Nat} {A : Nat → Prop} (hK : va_K D clM (tyA ad) s) (hA : ∀ q, s.heap.size ≤ q → A q) {td ed : Nat → Nat} (hG : pw_G A ed td s s.heap) (a2 : Int32) (a3 : Nat) (a4 : Int64) (σ : BS) (hk3 : a3 < 2) (hS : SB_parts_59 a2 a3 a4 σ) {H : Heap} {locs : List Loc} (hM : bw D ad A s.heap H locs σ) {ls : Array Slot} (hl : lv_has ls 6 [(2, .int a2), (3, .ref (ed a3)), (4, .long a4)]) : W p l e rmB_parts s m args below meth c H locs 0 0 (MQ below (va_Qi (fun r u => (r, u) = fB_parts_59 a2 a3 a4 σ) (bw_E D ad A) A) args s 0 0 A) (F0 m 59 ls []) := by
  obtain ⟨hx, hb, hr, hml, hown, hts, hlocks⟩ := id C
  refine lv_iload_n hx hb dB_parts_59 rfl (lv_at hl 0 rfl) ?_
  by_cases h1 : a2 = 0
  · refine lv_tableIn (tgt := 88) hx hb dB_parts_60 (by rw [h1]; decide) (by rw [h1]; decide) (off := 28) (by rw [h1]; rfl) (by decide) ?_
    refine lv_aload_n hx hb dB_parts_88 rfl (lv_at hl 1 rfl) ?_
    refine lv_lload hx hb dB_parts_89 (lv_at hl 2 rfl) ?_
    refine pw_call (va_runV (As := [.long a4]) (rest := []) ⟨hx, hb, hml, hown, hts⟩ (qFormat_isNegative l ed td a3 a4 hk3) (cwV 1 hts (gV w_141 w_142 w_143 w_44 w_144) rfl rfl rfl (by decide +kernel) ⟨Nat.le_of_ble_eq_true rfl, Nat.le_of_ble_eq_true rfl⟩) ⟨pw_bG, va_recvE hG.1 hk3 hM.2.2, fun U hU hW => ⟨rfl, (pw_at hG hM.2.2 hU hW)⟩⟩ rfl rfl hl.1 rfl (lv_room (Nat.le_of_ble_eq_true rfl)) dB_parts_91 ⟨Nat.zero_le _, Nat.zero_le _⟩) ?_
    refine lv_if_eq (tgt := 101) hx hb dB_parts_94 (by decide) (fun h2 => ?_) (fun h2 => ?_)
    · refine lv_iconst (v := 0) hx hb dB_parts_101 (by decide) ?_
      exact W.iret (v := 0) hx hb hr (fun t ht hW => ⟨⟨0, σ, rfl, by rw [(show fB_parts_59 a2 a3 a4 σ = (0, σ) by rw [fB_parts_59, if_pos h1, if_pos h2])], by rw [ht]; exact hM.1, va_K.moved hW.alike hK, hM.2.1⟩, hM.2.2.F ht⟩) hM.2.2.2.2 dB_parts_102
    · refine lv_iconst (v := 1) hx hb dB_parts_97 (by decide) ?_
      refine lv_goto (tgt := 102) hx hb dB_parts_98 (by decide) ?_
      exact W.iret (v := 1) hx hb hr (fun t ht hW => ⟨⟨1, σ, rfl, by rw [(show fB_parts_59 a2 a3 a4 σ = (1, σ) by rw [fB_parts_59, if_pos h1, if_neg h2])], by rw [ht]; exact hM.1, va_K.moved hW.alike hK, hM.2.1⟩, hM.2.2.F ht⟩) hM.2.2.2.2 dB_parts_102
  by_cases h3 : a2 = 1
  · refine lv_tableIn (tgt := 103) hx hb dB_parts_60 (by rw [h3]; decide) (by rw [h3]; decide) (off := 43) (by rw [h3]; rfl) (by decide) ?_
    refine lv_aload_n hx hb dB_parts_103 rfl (lv_at hl 1 rfl) ?_
    refine lv_lload hx hb dB_parts_104 (lv_at hl 2 rfl) ?_
    refine pw_call (va_runV (As := [.long a4]) (rest := []) ⟨hx, hb, hml, hown, hts⟩ (qFormat_exponent l ed td a3 a4 hk3) (cwV 1 hts (gV w_145 w_146 w_147 w_44 w_148) rfl rfl rfl (by decide +kernel) ⟨Nat.le_of_ble_eq_true rfl, Nat.le_of_ble_eq_true rfl⟩) ⟨pw_bG, va_recvE hG.1 hk3 hM.2.2, fun U hU hW => ⟨rfl, (pw_at hG hM.2.2 hU hW)⟩⟩ rfl rfl hl.1 rfl (lv_room (Nat.le_of_ble_eq_true rfl)) dB_parts_106 ⟨Nat.zero_le _, Nat.zero_le _⟩) ?_
    exact W.iret (v := fFormat_exponent a3 a4) hx hb hr (fun t ht hW => ⟨⟨fFormat_exponent a3 a4, σ, rfl, by rw [(show fB_parts_59 a2 a3 a4 σ = (fFormat_exponent a3 a4, σ) by rw [fB_parts_59, if_neg h1, if_pos h3])], by rw [ht]; exact hM.1, va_K.moved hW.alike hK, hM.2.1⟩, hM.2.2.F ht⟩) hM.2.2.2.2 dB_parts_109
  by_cases h4 : a2 = 2
  · refine lv_tableIn (tgt := 110) hx hb dB_parts_60 (by rw [h4]; decide) (by rw [h4]; decide) (off := 50) (by rw [h4]; rfl) (by decide) ?_
    refine lv_aload_n hx hb dB_parts_110 rfl (lv_at hl 1 rfl) ?_
    refine lv_lload hx hb dB_parts_111 (lv_at hl 2 rfl) ?_
    refine pw_call (va_runV (As := [.long a4]) (rest := []) ⟨hx, hb, hml, hown, hts⟩ (qFormat_kind l ed td a3 a4 hk3) (cwV 1 hts (gV w_149 w_150 w_151 w_44 w_152) rfl rfl rfl (by decide +kernel) ⟨Nat.le_of_ble_eq_true rfl, Nat.le_of_ble_eq_true rfl⟩) ⟨pw_bG, va_recvE hG.1 hk3 hM.2.2, fun U hU hW => ⟨rfl, (pw_at hG hM.2.2 hU hW)⟩⟩ rfl rfl hl.1 rfl (lv_room (Nat.le_of_ble_eq_true rfl)) dB_parts_113 ⟨Nat.zero_le _, Nat.zero_le _⟩) ?_
    exact W.iret (v := fFormat_kind a3 a4) hx hb hr (fun t ht hW => ⟨⟨fFormat_kind a3 a4, σ, rfl, by rw [(show fB_parts_59 a2 a3 a4 σ = (fFormat_kind a3 a4, σ) by rw [fB_parts_59, if_neg h1, if_neg h3, if_pos h4])], by rw [ht]; exact hM.1, va_K.moved hW.alike hK, hM.2.1⟩, hM.2.2.F ht⟩) hM.2.2.2.2 dB_parts_116
  refine pw_tableD (tgt := 117) hx hb dB_parts_60 ?_ (by decide) ?_
  · have th1 := lv_neT h1 (a := 0) (by decide)
    have th3 := lv_neT h3 (a := 1) (by decide)
    have th4 := lv_neT h4 (a := 2) (by decide)
    exact (show a2.toInt < 0 ∨ 2 < a2.toInt by omega).elim Or.inl (fun q => Or.inr (Or.inl q))
  refine lv_iconst (v := (-1)) hx hb dB_parts_117 (by decide) ?_
  exact W.iret (v := (-1)) hx hb hr (fun t ht hW => ⟨⟨(-1), σ, rfl, by rw [(show fB_parts_59 a2 a3 a4 σ = ((-1), σ) by rw [fB_parts_59, if_neg h1, if_neg h3, if_neg h4])], by rw [ht]; exact hM.1, va_K.moved hW.alike hK, hM.2.1⟩, hM.2.2.F ht⟩) hM.2.2.2.2 dB_parts_118
set_option maxHeartbeats 4000000 in
set_option maxRecDepth 100000 in
theorem kB_parts_25 {p : Program} {l : Launch} {e : Env} {s : State} {m : MethodId} {args : Array Value} {below : List Frame} {meth : Method} {c : Code} (C : pw_C p s m args meth c cB_parts 6 (some .int) "BitNumbers") {D : va_G} {ad : Nat → Nat} {A : Nat → Prop} (hK : va_K D clM (tyA ad) s) (hA : ∀ q, s.heap.size ≤ q → A q) {td ed : Nat → Nat} (hG : pw_G A ed td s s.heap) (σ : BS) (hS : SB_parts_25 σ) {H : Heap} {locs : List Loc} (hM : bw D ad A s.heap H locs σ) {ls : Array Slot} (hl : lv_has ls 6 []) : W p l e rmB_parts s m args below meth c H locs 0 0 (MQ below (va_Qi (fun r u => (r, u) = fB_parts_25 σ) (bw_E D ad A) A) args s 0 0 A) (F0 m 25 ls []) := by
  obtain ⟨hx, hb, hr, hml, hown, hts, hlocks⟩ := id C
  refine lv_iconst (v := (-1)) hx hb dB_parts_25 (by decide) ?_
  exact W.iret (v := (-1)) hx hb hr (fun t ht hW => ⟨⟨(-1), σ, rfl, by rw [(show fB_parts_25 σ = ((-1), σ) by rw [fB_parts_25])], by rw [ht]; exact hM.1, va_K.moved hW.alike hK, hM.2.1⟩, hM.2.2.F ht⟩) hM.2.2.2.2 dB_parts_26
set_option maxHeartbeats 4000000 in
set_option maxRecDepth 100000 in
theorem kB_parts_5 {p : Program} {l : Launch} {e : Env} {s : State} {m : MethodId} {args : Array Value} {below : List Frame} {meth : Method} {c : Code} (C : pw_C p s m args meth c cB_parts 6 (some .int) "BitNumbers") {D : va_G} {ad : Nat → Nat} {A : Nat → Prop} (hK : va_K D clM (tyA ad) s) (hA : ∀ q, s.heap.size ≤ q → A q) {td ed : Nat → Nat} (hG : pw_G A ed td s s.heap) (a1 : Int32) (a2 : Int32) (s0 : Int32) (σ : BS) (hzs0 : s0 = 0 ∨ s0 = 1) (hS : SB_parts_5 a1 a2 s0 σ) {H : Heap} {locs : List Loc} (hM : bw D ad A s.heap H locs σ) {ls : Array Slot} (hl : lv_has ls 6 [(0, .ref (ad 0)), (1, .int a1), (2, .int a2)]) : W p l e rmB_parts s m args below meth c H locs 0 0 (MQ below (va_Qi (fun r u => (r, u) = fB_parts_5 a1 a2 s0 σ) (bw_E D ad A) A) args s 0 0 A) (F0 m 5 ls [.int s0]) := by
  obtain ⟨hx, hb, hr, hml, hown, hts, hlocks⟩ := id C
  refine lv_if_eq (tgt := 25) hx hb dB_parts_5 (by decide) (fun h1 => ?_) (fun h1 => ?_)
  · have hS9 : (SB_parts_25 σ) := by have w9 := hS; rw [SB_parts_5, if_pos h1] at w9; exact w9
    rw [(show fB_parts_5 a1 a2 s0 σ = fB_parts_25 σ by rw [fB_parts_5, if_pos h1])]
    exact kB_parts_25 C hK hA hG σ (hS9) hM (lv_sub hl [] rfl)
  · refine lv_aload_n hx hb dB_parts_8 rfl (lv_at hl 0 rfl) ?_
    refine bw_get (v := .ref (ad 1)) hx hb hts hown hK hM 0 (by decide) (hts _ w_57) (bw_fd_types _ _) dB_parts_9 ?_
    refine lv_aload_n hx hb dB_parts_12 rfl (lv_at hl 0 rfl) ?_
    refine bw_get (v := .int (bs_count σ)) hx hb hts hown hK hM 2 (by decide) (hts _ w_59) (bw_fd_count _ _) dB_parts_13 ?_
    refine lv_iconst (v := 1) hx hb dB_parts_16 (by decide) ?_
    refine lv_isub hx hb dB_parts_17 ?_
    refine lv_iload_n hx hb dB_parts_18 rfl (lv_at hl 1 rfl) ?_
    refine lv_isub hx hb dB_parts_19 ?_
    have hS20 : ((vp_in (((bs_count σ) - 1) - a1) 64) ∧ (if 2 ≤ (bs_types σ (((bs_count σ) - 1) - a1).toNatClampNeg) then ((vp_in (((bs_count σ) - 1) - a1) 64) ∧ ((vp_in (((bs_count σ) - 1) - a1) 64) ∧ (SB_parts_59 a2 (fFormat_of (bs_types σ (((bs_count σ) - 1) - a1).toNatClampNeg)) (bs_rows σ (((bs_count σ) - 1) - a1).toNatClampNeg) σ))) else (SB_parts_25 σ))) := by have w9 := hS; rw [SB_parts_5, if_neg h1] at w9; exact w9
    refine bw_iald hx hb hK hM 1 (bw_ar_types _ _) (hS20.1) dB_parts_20 ?_
    refine lv_iconst (v := 2) hx hb dB_parts_21 (by decide) ?_
    refine lv_icmp_ge (tgt := 27) hx hb dB_parts_22 (by decide) (fun h2 => ?_) (fun h2 => ?_)
    · refine lv_aload_n hx hb dB_parts_27 rfl (lv_at hl 0 rfl) ?_
      refine bw_get (v := .ref (ad 1)) hx hb hts hown hK hM 0 (by decide) (hts _ w_57) (bw_fd_types _ _) dB_parts_28 ?_
      refine lv_aload_n hx hb dB_parts_31 rfl (lv_at hl 0 rfl) ?_
      refine bw_get (v := .int (bs_count σ)) hx hb hts hown hK hM 2 (by decide) (hts _ w_59) (bw_fd_count _ _) dB_parts_32 ?_
      refine lv_iconst (v := 1) hx hb dB_parts_35 (by decide) ?_
      refine lv_isub hx hb dB_parts_36 ?_
      refine lv_iload_n hx hb dB_parts_37 rfl (lv_at hl 1 rfl) ?_
      refine lv_isub hx hb dB_parts_38 ?_
      have hS39 : ((vp_in (((bs_count σ) - 1) - a1) 64) ∧ ((vp_in (((bs_count σ) - 1) - a1) 64) ∧ (SB_parts_59 a2 (fFormat_of (bs_types σ (((bs_count σ) - 1) - a1).toNatClampNeg)) (bs_rows σ (((bs_count σ) - 1) - a1).toNatClampNeg) σ))) := by have w9 := hS20.2; rw [if_pos h2] at w9; exact w9
      refine bw_iald hx hb hK hM 1 (bw_ar_types _ _) (hS39.1) dB_parts_39 ?_
      refine pw_call (va_runS (As := [.int (bs_types σ (((bs_count σ) - 1) - a1).toNatClampNeg)]) (rest := []) ⟨hx, hb, hml, hown, hts⟩ (qFormat_of l ed td (bs_types σ (((bs_count σ) - 1) - a1).toNatClampNeg)) (va_cwS 1 hts (gS w_134 w_135 w_44 w_136) rfl rfl rfl (by decide +kernel) ⟨Nat.le_of_ble_eq_true rfl, Nat.le_of_ble_eq_true rfl⟩) ⟨pw_bG, fun U hU hW => ⟨rfl, (pw_at hG hM.2.2 hU hW)⟩⟩ rfl rfl hl.1 rfl (lv_room (Nat.le_of_ble_eq_true rfl)) dB_parts_40 ⟨Nat.zero_le _, Nat.zero_le _⟩) ?_
      refine lv_astore_n (lv' := [(3, .ref (ed (fFormat_of (bs_types σ (((bs_count σ) - 1) - a1).toNatClampNeg)))), (0, .ref (ad 0)), (1, .int a1), (2, .int a2)]) hx hb dB_parts_43 rfl hl (by decide) rfl (fun ls hl => ?_)
      refine lv_aload_n hx hb dB_parts_44 rfl (lv_at hl 1 rfl) ?_
      refine bw_get (v := .ref (ad 2)) hx hb hts hown hK hM 1 (by decide) (hts _ w_58) (bw_fd_rows _ _) dB_parts_45 ?_
      refine lv_aload_n hx hb dB_parts_48 rfl (lv_at hl 1 rfl) ?_
      refine bw_get (v := .int (bs_count σ)) hx hb hts hown hK hM 2 (by decide) (hts _ w_59) (bw_fd_count _ _) dB_parts_49 ?_
      refine lv_iconst (v := 1) hx hb dB_parts_52 (by decide) ?_
      refine lv_isub hx hb dB_parts_53 ?_
      refine lv_iload_n hx hb dB_parts_54 rfl (lv_at hl 2 rfl) ?_
      refine lv_isub hx hb dB_parts_55 ?_
      have hS56 : ((vp_in (((bs_count σ) - 1) - a1) 64) ∧ (SB_parts_59 a2 (fFormat_of (bs_types σ (((bs_count σ) - 1) - a1).toNatClampNeg)) (bs_rows σ (((bs_count σ) - 1) - a1).toNatClampNeg) σ)) := hS39.2
      refine bw_lald hx hb hK hM 2 (bw_ar_rows _ _) (hS56.1) dB_parts_56 ?_
      refine lv_lstore (lv' := [(4, .long (bs_rows σ (((bs_count σ) - 1) - a1).toNatClampNeg)), (3, .ref (ed (fFormat_of (bs_types σ (((bs_count σ) - 1) - a1).toNatClampNeg)))), (0, .ref (ad 0)), (1, .int a1), (2, .int a2)]) hx hb dB_parts_57 hl (by decide) rfl (fun ls hl => ?_)
      have hS9 : (SB_parts_59 a2 (fFormat_of (bs_types σ (((bs_count σ) - 1) - a1).toNatClampNeg)) (bs_rows σ (((bs_count σ) - 1) - a1).toNatClampNeg) σ) := hS56.2
      rw [(show fB_parts_5 a1 a2 s0 σ = fB_parts_59 a2 (fFormat_of (bs_types σ (((bs_count σ) - 1) - a1).toNatClampNeg)) (bs_rows σ (((bs_count σ) - 1) - a1).toNatClampNeg) σ by rw [fB_parts_5, if_neg h1, if_pos h2])]
      exact kB_parts_59 C hK hA hG a2 (fFormat_of (bs_types σ (((bs_count σ) - 1) - a1).toNatClampNeg)) (bs_rows σ (((bs_count σ) - 1) - a1).toNatClampNeg) σ (rFormat_of (bs_types σ (((bs_count σ) - 1) - a1).toNatClampNeg)) (hS9) hM (lv_sub hl [4, 1, 0] rfl)
    · have hS9 : (SB_parts_25 σ) := by have w9 := hS20.2; rw [if_neg h2] at w9; exact w9
      rw [(show fB_parts_5 a1 a2 s0 σ = fB_parts_25 σ by rw [fB_parts_5, if_neg h1, if_neg h2])]
      exact kB_parts_25 C hK hA hG σ (hS9) hM (lv_sub hl [] rfl)
set_option maxHeartbeats 4000000 in
set_option maxRecDepth 100000 in
theorem kB_parts_0 {p : Program} {l : Launch} {e : Env} {s : State} {m : MethodId} {args : Array Value} {below : List Frame} {meth : Method} {c : Code} (C : pw_C p s m args meth c cB_parts 6 (some .int) "BitNumbers") {D : va_G} {ad : Nat → Nat} {A : Nat → Prop} (hK : va_K D clM (tyA ad) s) (hA : ∀ q, s.heap.size ≤ q → A q) {td ed : Nat → Nat} (hG : pw_G A ed td s s.heap) (a1 : Int32) (a2 : Int32) (σ : BS) (hS : SB_parts a1 a2 σ) {H : Heap} {locs : List Loc} (hM : bw D ad A s.heap H locs σ) {ls : Array Slot} (hl : lv_has ls 6 [(0, .ref (ad 0)), (1, .int a1), (2, .int a2)]) : W p l e rmB_parts s m args below meth c H locs 0 0 (MQ below (va_Qi (fun r u => (r, u) = fB_parts a1 a2 σ) (bw_E D ad A) A) args s 0 0 A) (F0 m 0 ls []) := by
  obtain ⟨hx, hb, hr, hml, hown, hts, hlocks⟩ := id C
  refine lv_aload_n hx hb dB_parts_0 rfl (lv_at hl 0 rfl) ?_
  refine lv_iload_n hx hb dB_parts_1 rfl (lv_at hl 1 rfl) ?_
  refine bw_calli (F := fB_isThere a1 σ) (va_runV (As := [.int a1]) (rest := []) ⟨hx, hb, hml, hown, hts⟩ (qB_isThere l D ad ed td a1 σ H.size) (cwV 1 hts (gV w_122 w_124 w_1 w_33 w_125) rfl rfl rfl (by decide +kernel) ⟨Nat.le_of_ble_eq_true rfl, Nat.le_of_ble_eq_true rfl⟩) (bw_preV hK hM hA hG) rfl rfl hl.1 rfl (lv_room (Nat.le_of_ble_eq_true rfl)) dB_parts_2 ⟨Nat.zero_le _, Nat.zero_le _⟩) hM hA (fun H locs hM => ?_)
  have hS9 : (SB_parts_5 a1 a2 ((fB_isThere a1 σ).1) ((fB_isThere a1 σ).2)) := by have w9 := hS; rw [SB_parts] at w9; exact w9
  rw [(show fB_parts a1 a2 σ = fB_parts_5 a1 a2 ((fB_isThere a1 σ).1) ((fB_isThere a1 σ).2) by rw [fB_parts])]
  exact kB_parts_5 C hK hA hG a1 a2 ((fB_isThere a1 σ).1) ((fB_isThere a1 σ).2) (zB_isThere a1 σ) (hS9) hM (lv_sub hl [0, 1, 2] rfl)
set_option maxHeartbeats 4000000 in
set_option maxRecDepth 100000 in
theorem qB_parts (l : Launch) (D : va_G) (ad ed td : Nat → Nat) (a1 : Int32) (a2 : Int32) (σ : BS) (sz : Nat) (hS : SB_parts a1 a2 σ) : Met l yB_parts wsB_parts rmB_parts (va_Pc [.ref (ad 0), .int a1, .int a2] (bw_B D ad ed td σ sz)) (va_Qi (fun r u => (r, u) = fB_parts a1 a2 σ) (bw_E D ad (va_A (bw_c ad σ) sz)) (va_A (bw_c ad σ) sz)) 0 0 (va_A (bw_c ad σ) sz) := by
  refine Met.ofW (cc := cB_parts) (maxL := 6) (ret := (some .int)) (by decide) rfl ?_
  intro p e s m args below meth c s₁ B hml hv
  obtain ⟨rfl, hsz, hP, hK, hD, hG⟩ := hv
  have hts0 := atoms_spec (ws := wsB_parts) B.pre
  have hts := fun (w : Cond) (h : w ∈ aw) => hts0 w (List.mem_cons_of_mem _ h)
  have hown : s.vm.findClass "BitNumbers" = some m.cls := findClass_of_methodNamed B.named
  subst hsz
  have hl := lv_entry ([.ref (ad 0), .int a1, .int a2]) (n := 6) (Nat.le_of_ble_eq_true rfl)
  rw [lg_entry_eq]
  generalize (lg_sl ([.ref (ad 0), .int a1, .int a2]) ++ List.replicate (6 - (lg_sl ([.ref (ad 0), .int a1, .int a2])).length) Slot.unset).toArray = ls at hl ⊢
  exact kB_parts_0 ⟨B.exec, B.bytes, B.returns, hml, hown, hts, B.notSynchronized⟩ hK (fun q h => Or.inr h) hG a1 a2 σ hS ⟨hP, hD.self, va_S.rf⟩ hl

set_option maxHeartbeats 4000000 in
set_option maxRecDepth 100000 in
theorem kB_copy_5 {p : Program} {l : Launch} {e : Env} {s : State} {m : MethodId} {args : Array Value} {below : List Frame} {meth : Method} {c : Code} (C : pw_C p s m args meth c cB_copy 2 (some .int) "BitNumbers") {D : va_G} {ad : Nat → Nat} {A : Nat → Prop} (hK : va_K D clM (tyA ad) s) (hA : ∀ q, s.heap.size ≤ q → A q) {td ed : Nat → Nat} (hG : pw_G A ed td s s.heap) (a1 : Int32) (s0 : Int32) (σ : BS) (hzs0 : s0 = 0 ∨ s0 = 1) (hS : SB_copy_5 a1 s0 σ) {H : Heap} {locs : List Loc} (hM : bw D ad A s.heap H locs σ) {ls : Array Slot} (hl : lv_has ls 2 [(0, .ref (ad 0)), (1, .int a1)]) : W p l e rmB_copy s m args below meth c H locs 0 0 (MQ below (va_Qi (fun r u => (r, u) = fB_copy_5 a1 s0 σ) (bw_E D ad A) A) args s 0 0 A) (F0 m 5 ls [.int s0]) := by
  obtain ⟨hx, hb, hr, hml, hown, hts, hlocks⟩ := id C
  refine lv_if_ne (tgt := 10) hx hb dB_copy_5 (by decide) (fun h1 => ?_) (fun h1 => ?_)
  · refine lv_aload_n hx hb dB_copy_10 rfl (lv_at hl 0 rfl) ?_
    refine lv_aload_n hx hb dB_copy_11 rfl (lv_at hl 0 rfl) ?_
    refine bw_get (v := .ref (ad 1)) hx hb hts hown hK hM 0 (by decide) (hts _ w_57) (bw_fd_types _ _) dB_copy_12 ?_
    refine lv_aload_n hx hb dB_copy_15 rfl (lv_at hl 0 rfl) ?_
    refine bw_get (v := .int (bs_count σ)) hx hb hts hown hK hM 2 (by decide) (hts _ w_59) (bw_fd_count _ _) dB_copy_16 ?_
    refine lv_iconst (v := 1) hx hb dB_copy_19 (by decide) ?_
    refine lv_isub hx hb dB_copy_20 ?_
    refine lv_iload_n hx hb dB_copy_21 rfl (lv_at hl 1 rfl) ?_
    refine lv_isub hx hb dB_copy_22 ?_
    have hS23 : ((vp_in (((bs_count σ) - 1) - a1) 64) ∧ ((vp_in (((bs_count σ) - 1) - a1) 64) ∧ ((SB_put (bs_types σ (((bs_count σ) - 1) - a1).toNatClampNeg) (bs_rows σ (((bs_count σ) - 1) - a1).toNatClampNeg) σ) ∧ True))) := by have w9 := hS; rw [SB_copy_5, if_neg h1] at w9; exact w9
    refine bw_iald hx hb hK hM 1 (bw_ar_types _ _) (hS23.1) dB_copy_23 ?_
    refine lv_aload_n hx hb dB_copy_24 rfl (lv_at hl 0 rfl) ?_
    refine bw_get (v := .ref (ad 2)) hx hb hts hown hK hM 1 (by decide) (hts _ w_58) (bw_fd_rows _ _) dB_copy_25 ?_
    refine lv_aload_n hx hb dB_copy_28 rfl (lv_at hl 0 rfl) ?_
    refine bw_get (v := .int (bs_count σ)) hx hb hts hown hK hM 2 (by decide) (hts _ w_59) (bw_fd_count _ _) dB_copy_29 ?_
    refine lv_iconst (v := 1) hx hb dB_copy_32 (by decide) ?_
    refine lv_isub hx hb dB_copy_33 ?_
    refine lv_iload_n hx hb dB_copy_34 rfl (lv_at hl 1 rfl) ?_
    refine lv_isub hx hb dB_copy_35 ?_
    have hS36 : ((vp_in (((bs_count σ) - 1) - a1) 64) ∧ ((SB_put (bs_types σ (((bs_count σ) - 1) - a1).toNatClampNeg) (bs_rows σ (((bs_count σ) - 1) - a1).toNatClampNeg) σ) ∧ True)) := hS23.2
    refine bw_lald hx hb hK hM 2 (bw_ar_rows _ _) (hS36.1) dB_copy_36 ?_
    have hS37 : ((SB_put (bs_types σ (((bs_count σ) - 1) - a1).toNatClampNeg) (bs_rows σ (((bs_count σ) - 1) - a1).toNatClampNeg) σ) ∧ True) := hS36.2
    refine bw_calli (F := fB_put (bs_types σ (((bs_count σ) - 1) - a1).toNatClampNeg) (bs_rows σ (((bs_count σ) - 1) - a1).toNatClampNeg) σ) (va_runV (As := [.int (bs_types σ (((bs_count σ) - 1) - a1).toNatClampNeg), .long (bs_rows σ (((bs_count σ) - 1) - a1).toNatClampNeg)]) (rest := []) ⟨hx, hb, hml, hown, hts⟩ (qB_put l D ad ed td (bs_types σ (((bs_count σ) - 1) - a1).toNatClampNeg) (bs_rows σ (((bs_count σ) - 1) - a1).toNatClampNeg) σ H.size hS37.1) (cwV 2 hts (gV w_76 w_78 w_0 w_33 w_79) rfl rfl rfl (by decide +kernel) ⟨Nat.le_of_ble_eq_true rfl, Nat.le_of_ble_eq_true rfl⟩) (bw_preV hK hM hA hG) rfl rfl hl.1 rfl (lv_room (Nat.le_of_ble_eq_true rfl)) dB_copy_37 ⟨Nat.zero_le _, Nat.zero_le _⟩) hM hA (fun H locs hM => ?_)
    exact W.iret (v := (fB_put (bs_types σ (((bs_count σ) - 1) - a1).toNatClampNeg) (bs_rows σ (((bs_count σ) - 1) - a1).toNatClampNeg) σ).1) hx hb hr (fun t ht hW => ⟨⟨(fB_put (bs_types σ (((bs_count σ) - 1) - a1).toNatClampNeg) (bs_rows σ (((bs_count σ) - 1) - a1).toNatClampNeg) σ).1, (fB_put (bs_types σ (((bs_count σ) - 1) - a1).toNatClampNeg) (bs_rows σ (((bs_count σ) - 1) - a1).toNatClampNeg) σ).2, rfl, by rw [(show fB_copy_5 a1 s0 σ = ((fB_put (bs_types σ (((bs_count σ) - 1) - a1).toNatClampNeg) (bs_rows σ (((bs_count σ) - 1) - a1).toNatClampNeg) σ).1, (fB_put (bs_types σ (((bs_count σ) - 1) - a1).toNatClampNeg) (bs_rows σ (((bs_count σ) - 1) - a1).toNatClampNeg) σ).2) by rw [fB_copy_5, if_neg h1])], by rw [ht]; exact hM.1, va_K.moved hW.alike hK, hM.2.1⟩, hM.2.2.F ht⟩) hM.2.2.2.2 dB_copy_40
  · refine lv_iconst (v := (-1)) hx hb dB_copy_8 (by decide) ?_
    exact W.iret (v := (-1)) hx hb hr (fun t ht hW => ⟨⟨(-1), σ, rfl, by rw [(show fB_copy_5 a1 s0 σ = ((-1), σ) by rw [fB_copy_5, if_pos h1])], by rw [ht]; exact hM.1, va_K.moved hW.alike hK, hM.2.1⟩, hM.2.2.F ht⟩) hM.2.2.2.2 dB_copy_9
set_option maxHeartbeats 4000000 in
set_option maxRecDepth 100000 in
theorem kB_copy_0 {p : Program} {l : Launch} {e : Env} {s : State} {m : MethodId} {args : Array Value} {below : List Frame} {meth : Method} {c : Code} (C : pw_C p s m args meth c cB_copy 2 (some .int) "BitNumbers") {D : va_G} {ad : Nat → Nat} {A : Nat → Prop} (hK : va_K D clM (tyA ad) s) (hA : ∀ q, s.heap.size ≤ q → A q) {td ed : Nat → Nat} (hG : pw_G A ed td s s.heap) (a1 : Int32) (σ : BS) (hS : SB_copy a1 σ) {H : Heap} {locs : List Loc} (hM : bw D ad A s.heap H locs σ) {ls : Array Slot} (hl : lv_has ls 2 [(0, .ref (ad 0)), (1, .int a1)]) : W p l e rmB_copy s m args below meth c H locs 0 0 (MQ below (va_Qi (fun r u => (r, u) = fB_copy a1 σ) (bw_E D ad A) A) args s 0 0 A) (F0 m 0 ls []) := by
  obtain ⟨hx, hb, hr, hml, hown, hts, hlocks⟩ := id C
  refine lv_aload_n hx hb dB_copy_0 rfl (lv_at hl 0 rfl) ?_
  refine lv_iload_n hx hb dB_copy_1 rfl (lv_at hl 1 rfl) ?_
  refine bw_calli (F := fB_isThere a1 σ) (va_runV (As := [.int a1]) (rest := []) ⟨hx, hb, hml, hown, hts⟩ (qB_isThere l D ad ed td a1 σ H.size) (cwV 1 hts (gV w_122 w_124 w_1 w_33 w_125) rfl rfl rfl (by decide +kernel) ⟨Nat.le_of_ble_eq_true rfl, Nat.le_of_ble_eq_true rfl⟩) (bw_preV hK hM hA hG) rfl rfl hl.1 rfl (lv_room (Nat.le_of_ble_eq_true rfl)) dB_copy_2 ⟨Nat.zero_le _, Nat.zero_le _⟩) hM hA (fun H locs hM => ?_)
  have hS9 : (SB_copy_5 a1 ((fB_isThere a1 σ).1) ((fB_isThere a1 σ).2)) := by have w9 := hS; rw [SB_copy] at w9; exact w9
  rw [(show fB_copy a1 σ = fB_copy_5 a1 ((fB_isThere a1 σ).1) ((fB_isThere a1 σ).2) by rw [fB_copy])]
  exact kB_copy_5 C hK hA hG a1 ((fB_isThere a1 σ).1) ((fB_isThere a1 σ).2) (zB_isThere a1 σ) (hS9) hM (lv_sub hl [0, 1] rfl)
set_option maxHeartbeats 4000000 in
set_option maxRecDepth 100000 in
theorem qB_copy (l : Launch) (D : va_G) (ad ed td : Nat → Nat) (a1 : Int32) (σ : BS) (sz : Nat) (hS : SB_copy a1 σ) : Met l yB_copy wsB_copy rmB_copy (va_Pc [.ref (ad 0), .int a1] (bw_B D ad ed td σ sz)) (va_Qi (fun r u => (r, u) = fB_copy a1 σ) (bw_E D ad (va_A (bw_c ad σ) sz)) (va_A (bw_c ad σ) sz)) 0 0 (va_A (bw_c ad σ) sz) := by
  refine Met.ofW (cc := cB_copy) (maxL := 2) (ret := (some .int)) (by decide) rfl ?_
  intro p e s m args below meth c s₁ B hml hv
  obtain ⟨rfl, hsz, hP, hK, hD, hG⟩ := hv
  have hts0 := atoms_spec (ws := wsB_copy) B.pre
  have hts := fun (w : Cond) (h : w ∈ aw) => hts0 w (List.mem_cons_of_mem _ h)
  have hown : s.vm.findClass "BitNumbers" = some m.cls := findClass_of_methodNamed B.named
  subst hsz
  have hl := lv_entry ([.ref (ad 0), .int a1]) (n := 2) (Nat.le_of_ble_eq_true rfl)
  rw [lg_entry_eq]
  generalize (lg_sl ([.ref (ad 0), .int a1]) ++ List.replicate (2 - (lg_sl ([.ref (ad 0), .int a1])).length) Slot.unset).toArray = ls at hl ⊢
  exact kB_copy_0 ⟨B.exec, B.bytes, B.returns, hml, hown, hts, B.notSynchronized⟩ hK (fun q h => Or.inr h) hG a1 σ hS ⟨hP, hD.self, va_S.rf⟩ hl

set_option maxHeartbeats 4000000 in
set_option maxRecDepth 100000 in
theorem kB_clear_5 {p : Program} {l : Launch} {e : Env} {s : State} {m : MethodId} {args : Array Value} {below : List Frame} {meth : Method} {c : Code} (C : pw_C p s m args meth c cB_clear 2 (some .int) "BitNumbers") {D : va_G} {ad : Nat → Nat} {A : Nat → Prop} (hK : va_K D clM (tyA ad) s) (hA : ∀ q, s.heap.size ≤ q → A q) {td ed : Nat → Nat} (hG : pw_G A ed td s s.heap) (a1 : Int32) (σ : BS) {H : Heap} {locs : List Loc} (hM : bw D ad A s.heap H locs σ) {ls : Array Slot} (hl : lv_has ls 2 [(0, .ref (ad 0)), (1, .int a1)]) : W p l e rmB_clear s m args below meth c H locs 0 0 (MQ below (va_Qi (fun r u => (r, u) = fB_clear_5 a1 σ) (bw_E D ad A) A) args s 0 0 A) (F0 m 5 ls []) := by
  obtain ⟨hx, hb, hr, hml, hown, hts, hlocks⟩ := id C
  refine lv_aload_n hx hb dB_clear_5 rfl (lv_at hl 0 rfl) ?_
  refine lv_iconst (v := 0) hx hb dB_clear_6 (by decide) ?_
  refine bw_put (v := .int 0) (ty := .int) (σ' := bs_set_count σ 0) hx hb hts hown hK hM 2 (by decide) (hts _ w_59) rfl (by decide +kernel) rfl rfl (bw_pt_count _ _ _) dB_clear_7 (fun H locs hM => ?_)
  refine lv_iload_n hx hb dB_clear_10 rfl (lv_at hl 1 rfl) ?_
  exact W.iret (v := a1) hx hb hr (fun t ht hW => ⟨⟨a1, bs_set_count σ 0, rfl, by rw [(show fB_clear_5 a1 σ = (a1, bs_set_count σ 0) by rw [fB_clear_5])], by rw [ht]; exact hM.1, va_K.moved hW.alike hK, hM.2.1⟩, hM.2.2.F ht⟩) hM.2.2.2.2 dB_clear_11
set_option maxHeartbeats 4000000 in
set_option maxRecDepth 100000 in
theorem kB_clear_0 {p : Program} {l : Launch} {e : Env} {s : State} {m : MethodId} {args : Array Value} {below : List Frame} {meth : Method} {c : Code} (C : pw_C p s m args meth c cB_clear 2 (some .int) "BitNumbers") {D : va_G} {ad : Nat → Nat} {A : Nat → Prop} (hK : va_K D clM (tyA ad) s) (hA : ∀ q, s.heap.size ≤ q → A q) {td ed : Nat → Nat} (hG : pw_G A ed td s s.heap) (σ : BS) {H : Heap} {locs : List Loc} (hM : bw D ad A s.heap H locs σ) {ls : Array Slot} (hl : lv_has ls 2 [(0, .ref (ad 0))]) : W p l e rmB_clear s m args below meth c H locs 0 0 (MQ below (va_Qi (fun r u => (r, u) = fB_clear σ) (bw_E D ad A) A) args s 0 0 A) (F0 m 0 ls []) := by
  obtain ⟨hx, hb, hr, hml, hown, hts, hlocks⟩ := id C
  refine lv_aload_n hx hb dB_clear_0 rfl (lv_at hl 0 rfl) ?_
  refine bw_get (v := .int (bs_count σ)) hx hb hts hown hK hM 2 (by decide) (hts _ w_59) (bw_fd_count _ _) dB_clear_1 ?_
  refine lv_istore_n (lv' := [(1, .int (bs_count σ)), (0, .ref (ad 0))]) hx hb dB_clear_4 rfl hl (by decide) rfl (fun ls hl => ?_)
  rw [(show fB_clear σ = fB_clear_5 (bs_count σ) σ by rw [fB_clear])]
  exact kB_clear_5 C hK hA hG (bs_count σ) σ hM (lv_sub hl [1, 0] rfl)
set_option maxHeartbeats 4000000 in
set_option maxRecDepth 100000 in
theorem qB_clear (l : Launch) (D : va_G) (ad ed td : Nat → Nat)  (σ : BS) (sz : Nat) : Met l yB_clear wsB_clear rmB_clear (va_Pc [.ref (ad 0)] (bw_B D ad ed td σ sz)) (va_Qi (fun r u => (r, u) = fB_clear σ) (bw_E D ad (va_A (bw_c ad σ) sz)) (va_A (bw_c ad σ) sz)) 0 0 (va_A (bw_c ad σ) sz) := by
  refine Met.ofW (cc := cB_clear) (maxL := 2) (ret := (some .int)) (by decide) rfl ?_
  intro p e s m args below meth c s₁ B hml hv
  obtain ⟨rfl, hsz, hP, hK, hD, hG⟩ := hv
  have hts0 := atoms_spec (ws := wsB_clear) B.pre
  have hts := fun (w : Cond) (h : w ∈ aw) => hts0 w (List.mem_cons_of_mem _ h)
  have hown : s.vm.findClass "BitNumbers" = some m.cls := findClass_of_methodNamed B.named
  subst hsz
  have hl := lv_entry ([.ref (ad 0)]) (n := 2) (Nat.le_of_ble_eq_true rfl)
  rw [lg_entry_eq]
  generalize (lg_sl ([.ref (ad 0)]) ++ List.replicate (2 - (lg_sl ([.ref (ad 0)])).length) Slot.unset).toArray = ls at hl ⊢
  exact kB_clear_0 ⟨B.exec, B.bytes, B.returns, hml, hown, hts, B.notSynchronized⟩ hK (fun q h => Or.inr h) hG σ ⟨hP, hD.self, va_S.rf⟩ hl

set_option maxHeartbeats 4000000 in
set_option maxRecDepth 100000 in
theorem kB_areOnTop_22 {p : Program} {l : Launch} {e : Env} {s : State} {m : MethodId} {args : Array Value} {below : List Frame} {meth : Method} {c : Code} (C : pw_C p s m args meth c cB_areOnTop 4 (some .boolean) "BitNumbers") {D : va_G} {ad : Nat → Nat} {A : Nat → Prop} (hK : va_K D clM (tyA ad) s) (hA : ∀ q, s.heap.size ≤ q → A q) {td ed : Nat → Nat} (hG : pw_G A ed td s s.heap) : ∀ (n : Nat) (a2 : Int32) (a3 : Int32) (σ : BS) (hS : SB_areOnTop_22 n a2 a3 σ) (hI : pw_Y a3 (bs_count σ) n) {H : Heap} {locs : List Loc} (hM : bw D ad A s.heap H locs σ) {ls : Array Slot} (hl : lv_has ls 4 [(0, .ref (ad 0)), (2, .int a2), (3, .int a3)]), W p l e rmB_areOnTop s m args below meth c H locs 0 0 (MQ below (va_Qi (fun r u => (r, u) = fB_areOnTop_22 n a2 a3 σ) (bw_E D ad A) A) args s 0 0 A) (F0 m 22 ls []) := by
  obtain ⟨hx, hb, hr, hml, hown, hts, hlocks⟩ := id C
  intro n
  induction n with
  | zero =>
    intro a2 a3 σ hS hI
    exact absurd hI pw_Y_zero
  | succ n ih =>
    intro a2 a3 σ hS hI H locs hM ls hl
    refine lv_iload_n hx hb dB_areOnTop_22 rfl (lv_at hl 2 rfl) ?_
    refine lv_aload_n hx hb dB_areOnTop_23 rfl (lv_at hl 0 rfl) ?_
    refine bw_get (v := .int (bs_count σ)) hx hb hts hown hK hM 2 (by decide) (hts _ w_59) (bw_fd_count _ _) dB_areOnTop_24 ?_
    refine lv_icmp_ge (tgt := 48) hx hb dB_areOnTop_27 (by decide) (fun h1 => ?_) (fun h1 => ?_)
    · refine lv_iconst (v := 1) hx hb dB_areOnTop_48 (by decide) ?_
      exact W.zret (v := 1) hx hb hr (pw_nz (Or.inr rfl)) (fun t ht hW => ⟨⟨1, σ, rfl, by rw [(show fB_areOnTop_22 (n + 1) a2 a3 σ = (1, σ) by rw [fB_areOnTop_22, if_pos h1])], by rw [ht]; exact hM.1, va_K.moved hW.alike hK, hM.2.1⟩, hM.2.2.F ht⟩) hM.2.2.2.2 dB_areOnTop_49
    · refine lv_aload_n hx hb dB_areOnTop_30 rfl (lv_at hl 0 rfl) ?_
      refine bw_get (v := .ref (ad 1)) hx hb hts hown hK hM 0 (by decide) (hts _ w_57) (bw_fd_types _ _) dB_areOnTop_31 ?_
      refine lv_iload_n hx hb dB_areOnTop_34 rfl (lv_at hl 2 rfl) ?_
      have hS35 : ((vp_in a3 64) ∧ (if (bs_types σ a3.toNatClampNeg) = a2 then (SB_areOnTop_22 n a2 (a3 + 1) σ) else True)) := by have w9 := hS; rw [SB_areOnTop_22, if_neg h1] at w9; exact w9
      refine bw_iald hx hb hK hM 1 (bw_ar_types _ _) (hS35.1) dB_areOnTop_35 ?_
      refine lv_iload_n hx hb dB_areOnTop_36 rfl (lv_at hl 1 rfl) ?_
      refine lv_icmp_eq (tgt := 42) hx hb dB_areOnTop_37 (by decide) (fun h2 => ?_) (fun h2 => ?_)
      · refine lv_iinc (v := a3 + 1) (lv' := [(3, .int (a3 + 1)), (0, .ref (ad 0)), (2, .int a2)]) hx hb dB_areOnTop_42 hl (k := 2) rfl rfl (by decide) rfl (fun ls hl => ?_)
        refine lv_goto (tgt := 22) hx hb dB_areOnTop_45 (by decide) ?_
        have hS9 : (SB_areOnTop_22 n a2 (a3 + 1) σ) := by have w9 := hS35.2; rw [if_pos h2] at w9; exact w9
        rw [(show fB_areOnTop_22 (n + 1) a2 a3 σ = fB_areOnTop_22 n a2 (a3 + 1) σ by rw [fB_areOnTop_22, if_neg h1, if_pos h2])]
        exact ih a2 (a3 + 1) σ (hS9) (pw_YB_next (pw_Y_body hI h1)) hM (lv_sub hl [1, 2, 0] rfl)
      · refine lv_iconst (v := 0) hx hb dB_areOnTop_40 (by decide) ?_
        exact W.zret (v := 0) hx hb hr (pw_nz (Or.inl rfl)) (fun t ht hW => ⟨⟨0, σ, rfl, by rw [(show fB_areOnTop_22 (n + 1) a2 a3 σ = (0, σ) by rw [fB_areOnTop_22, if_neg h1, if_neg h2])], by rw [ht]; exact hM.1, va_K.moved hW.alike hK, hM.2.1⟩, hM.2.2.F ht⟩) hM.2.2.2.2 dB_areOnTop_41
set_option maxHeartbeats 4000000 in
set_option maxRecDepth 100000 in
theorem kB_areOnTop_13 {p : Program} {l : Launch} {e : Env} {s : State} {m : MethodId} {args : Array Value} {below : List Frame} {meth : Method} {c : Code} (C : pw_C p s m args meth c cB_areOnTop 4 (some .boolean) "BitNumbers") {D : va_G} {ad : Nat → Nat} {A : Nat → Prop} (hK : va_K D clM (tyA ad) s) (hA : ∀ q, s.heap.size ≤ q → A q) {td ed : Nat → Nat} (hG : pw_G A ed td s s.heap) (σ : BS) (hS : SB_areOnTop_13 σ) {H : Heap} {locs : List Loc} (hM : bw D ad A s.heap H locs σ) {ls : Array Slot} (hl : lv_has ls 4 []) : W p l e rmB_areOnTop s m args below meth c H locs 0 0 (MQ below (va_Qi (fun r u => (r, u) = fB_areOnTop_13 σ) (bw_E D ad A) A) args s 0 0 A) (F0 m 13 ls []) := by
  obtain ⟨hx, hb, hr, hml, hown, hts, hlocks⟩ := id C
  refine lv_iconst (v := 0) hx hb dB_areOnTop_13 (by decide) ?_
  exact W.zret (v := 0) hx hb hr (pw_nz (Or.inl rfl)) (fun t ht hW => ⟨⟨0, σ, rfl, by rw [(show fB_areOnTop_13 σ = (0, σ) by rw [fB_areOnTop_13])], by rw [ht]; exact hM.1, va_K.moved hW.alike hK, hM.2.1⟩, hM.2.2.F ht⟩) hM.2.2.2.2 dB_areOnTop_14
set_option maxHeartbeats 4000000 in
set_option maxRecDepth 100000 in
theorem kB_areOnTop_0 {p : Program} {l : Launch} {e : Env} {s : State} {m : MethodId} {args : Array Value} {below : List Frame} {meth : Method} {c : Code} (C : pw_C p s m args meth c cB_areOnTop 4 (some .boolean) "BitNumbers") {D : va_G} {ad : Nat → Nat} {A : Nat → Prop} (hK : va_K D clM (tyA ad) s) (hA : ∀ q, s.heap.size ≤ q → A q) {td ed : Nat → Nat} (hG : pw_G A ed td s s.heap) (a1 : Int32) (a2 : Int32) (σ : BS) (hS : SB_areOnTop a1 a2 σ) {H : Heap} {locs : List Loc} (hM : bw D ad A s.heap H locs σ) {ls : Array Slot} (hl : lv_has ls 4 [(0, .ref (ad 0)), (1, .int a1), (2, .int a2)]) : W p l e rmB_areOnTop s m args below meth c H locs 0 0 (MQ below (va_Qi (fun r u => (r, u) = fB_areOnTop a1 a2 σ) (bw_E D ad A) A) args s 0 0 A) (F0 m 0 ls []) := by
  obtain ⟨hx, hb, hr, hml, hown, hts, hlocks⟩ := id C
  refine lv_iload_n hx hb dB_areOnTop_0 rfl (lv_at hl 1 rfl) ?_
  refine lv_iconst (v := 1) hx hb dB_areOnTop_1 (by decide) ?_
  refine lv_icmp_lt (tgt := 13) hx hb dB_areOnTop_2 (by decide) (fun h1 => ?_) (fun h1 => ?_)
  · have hS9 : (SB_areOnTop_13 σ) := by have w9 := hS; rw [SB_areOnTop, if_pos h1] at w9; exact w9
    rw [(show fB_areOnTop a1 a2 σ = fB_areOnTop_13 σ by rw [fB_areOnTop, if_pos h1])]
    exact kB_areOnTop_13 C hK hA hG σ (hS9) hM (lv_sub hl [] rfl)
  · refine lv_iload_n hx hb dB_areOnTop_5 rfl (lv_at hl 1 rfl) ?_
    refine lv_aload_n hx hb dB_areOnTop_6 rfl (lv_at hl 0 rfl) ?_
    refine bw_get (v := .int (bs_count σ)) hx hb hts hown hK hM 2 (by decide) (hts _ w_59) (bw_fd_count _ _) dB_areOnTop_7 ?_
    refine lv_icmp_le (tgt := 15) hx hb dB_areOnTop_10 (by decide) (fun h2 => ?_) (fun h2 => ?_)
    · refine lv_aload_n hx hb dB_areOnTop_15 rfl (lv_at hl 0 rfl) ?_
      refine bw_get (v := .int (bs_count σ)) hx hb hts hown hK hM 2 (by decide) (hts _ w_59) (bw_fd_count _ _) dB_areOnTop_16 ?_
      refine lv_iload_n hx hb dB_areOnTop_19 rfl (lv_at hl 1 rfl) ?_
      refine lv_isub hx hb dB_areOnTop_20 ?_
      refine lv_istore_n (lv' := [(3, .int ((bs_count σ) - a1)), (0, .ref (ad 0)), (1, .int a1), (2, .int a2)]) hx hb dB_areOnTop_21 rfl hl (by decide) rfl (fun ls hl => ?_)
      have hS9 : (SB_areOnTop_22 (((bs_count σ).toInt - ((bs_count σ) - a1).toInt + 1).toNat + 1) a2 ((bs_count σ) - a1) σ) := by have w9 := hS; rw [SB_areOnTop, if_neg h1, if_pos h2] at w9; exact w9
      rw [(show fB_areOnTop a1 a2 σ = fB_areOnTop_22 (((bs_count σ).toInt - ((bs_count σ) - a1).toInt + 1).toNat + 1) a2 ((bs_count σ) - a1) σ by rw [fB_areOnTop, if_neg h1, if_pos h2])]
      exact kB_areOnTop_22 C hK hA hG (((bs_count σ).toInt - ((bs_count σ) - a1).toInt + 1).toNat + 1) a2 ((bs_count σ) - a1) σ (hS9) (pw_Y_init ((bs_count σ) - a1) (bs_count σ) : pw_Y ((bs_count σ) - a1) (bs_count σ) (((bs_count σ).toInt - ((bs_count σ) - a1).toInt + 1).toNat + 1)) hM (lv_sub hl [1, 3, 0] rfl)
    · have hS9 : (SB_areOnTop_13 σ) := by have w9 := hS; rw [SB_areOnTop, if_neg h1, if_neg h2] at w9; exact w9
      rw [(show fB_areOnTop a1 a2 σ = fB_areOnTop_13 σ by rw [fB_areOnTop, if_neg h1, if_neg h2])]
      exact kB_areOnTop_13 C hK hA hG σ (hS9) hM (lv_sub hl [] rfl)
set_option maxHeartbeats 4000000 in
set_option maxRecDepth 100000 in
theorem qB_areOnTop (l : Launch) (D : va_G) (ad ed td : Nat → Nat) (a1 : Int32) (a2 : Int32) (σ : BS) (sz : Nat) (hS : SB_areOnTop a1 a2 σ) : Met l yB_areOnTop wsB_areOnTop rmB_areOnTop (va_Pc [.ref (ad 0), .int a1, .int a2] (bw_B D ad ed td σ sz)) (va_Qi (fun r u => (r, u) = fB_areOnTop a1 a2 σ) (bw_E D ad (va_A (bw_c ad σ) sz)) (va_A (bw_c ad σ) sz)) 0 0 (va_A (bw_c ad σ) sz) := by
  refine Met.ofW (cc := cB_areOnTop) (maxL := 4) (ret := (some .boolean)) (by decide) rfl ?_
  intro p e s m args below meth c s₁ B hml hv
  obtain ⟨rfl, hsz, hP, hK, hD, hG⟩ := hv
  have hts0 := atoms_spec (ws := wsB_areOnTop) B.pre
  have hts := fun (w : Cond) (h : w ∈ aw) => hts0 w (List.mem_cons_of_mem _ h)
  have hown : s.vm.findClass "BitNumbers" = some m.cls := findClass_of_methodNamed B.named
  subst hsz
  have hl := lv_entry ([.ref (ad 0), .int a1, .int a2]) (n := 4) (Nat.le_of_ble_eq_true rfl)
  rw [lg_entry_eq]
  generalize (lg_sl ([.ref (ad 0), .int a1, .int a2]) ++ List.replicate (4 - (lg_sl ([.ref (ad 0), .int a1, .int a2])).length) Slot.unset).toArray = ls at hl ⊢
  exact kB_areOnTop_0 ⟨B.exec, B.bytes, B.returns, hml, hown, hts, B.notSynchronized⟩ hK (fun q h => Or.inr h) hG a1 a2 σ hS ⟨hP, hD.self, va_S.rf⟩ hl

