theorem zB_areOnTop_22 (n : Nat) (a2 a3 : Int32) (σ : BS) : (fB_areOnTop_22 n a2 a3 σ).1 = 0 ∨ (fB_areOnTop_22 n a2 a3 σ).1 = 1 := by
  induction n generalizing a3 with
  | zero => exact Or.inl rfl
  | succ n ih =>
    rw [fB_areOnTop_22]
    split
    · exact Or.inr rfl
    · split
      · exact ih _
      · exact Or.inl rfl
theorem zB_areOnTop (a1 a2 : Int32) (σ : BS) : (fB_areOnTop a1 a2 σ).1 = 0 ∨ (fB_areOnTop a1 a2 σ).1 = 1 := by
  rw [fB_areOnTop]
  split
  · exact Or.inl rfl
  · split
    · exact zB_areOnTop_22 _ _ _ _
    · exact Or.inl rfl
def fB_pop_5 (s0 : Int32) (σ : BS) : Nat × Int64 × BS :=
  (if s0 = 0 then (2, 0, σ) else (0, bs_rows (bs_set_count σ ((bs_count σ) - 1)) (bs_count (bs_set_count σ ((bs_count σ) - 1))).toNatClampNeg, bs_set_count σ ((bs_count σ) - 1)))
def SB_pop_5 (s0 : Int32) (σ : BS) : Prop :=
  (if s0 = 0 then True else ((vp_in (bs_count (bs_set_count σ ((bs_count σ) - 1))) 64) ∧ True))
def fB_pop (σ : BS) : Nat × Int64 × BS :=
  (fB_pop_5 ((fB_isThere 0 σ).1) ((fB_isThere 0 σ).2))
def SB_pop (σ : BS) : Prop :=
  (SB_pop_5 ((fB_isThere 0 σ).1) ((fB_isThere 0 σ).2))
def fB_apply_127 (a1 : Int32) (s0 : Int32) (σ : BS) : Nat × Int32 × BS :=
  (0, fOperators_resultType a1, σ)
def SB_apply_127 (a1 : Int32) (s0 : Int32) (σ : BS) : Prop :=
  True
def fB_apply_74 (a1 : Int32) (a2 : Int32) (a3 : Int64) (a5 : Int64) (σ : BS) : Nat × Int32 × BS :=
  (if (bs_latestTrap (bs_set_latestTrap σ (fOperators_trapOf a1 a3 a5))) = 0 then (fB_apply_127 a1 ((fB_put (fOperators_resultType a1) (fOperators_result a1 a3 a5) (bs_set_count (bs_set_latestTrap σ (fOperators_trapOf a1 a3 a5)) ((bs_count (bs_set_latestTrap σ (fOperators_trapOf a1 a3 a5))) - a2))).1) ((fB_put (fOperators_resultType a1) (fOperators_result a1 a3 a5) (bs_set_count (bs_set_latestTrap σ (fOperators_trapOf a1 a3 a5)) ((bs_count (bs_set_latestTrap σ (fOperators_trapOf a1 a3 a5))) - a2))).2)) else (3, 0, bs_set_latestTrap σ (fOperators_trapOf a1 a3 a5)))
def SB_apply_74 (a1 : Int32) (a2 : Int32) (a3 : Int64) (a5 : Int64) (σ : BS) : Prop :=
  (if (bs_latestTrap (bs_set_latestTrap σ (fOperators_trapOf a1 a3 a5))) = 0 then ((SB_put (fOperators_resultType a1) (fOperators_result a1 a3 a5) (bs_set_count (bs_set_latestTrap σ (fOperators_trapOf a1 a3 a5)) ((bs_count (bs_set_latestTrap σ (fOperators_trapOf a1 a3 a5))) - a2))) ∧ (SB_apply_127 a1 ((fB_put (fOperators_resultType a1) (fOperators_result a1 a3 a5) (bs_set_count (bs_set_latestTrap σ (fOperators_trapOf a1 a3 a5)) ((bs_count (bs_set_latestTrap σ (fOperators_trapOf a1 a3 a5))) - a2))).1) ((fB_put (fOperators_resultType a1) (fOperators_result a1 a3 a5) (bs_set_count (bs_set_latestTrap σ (fOperators_trapOf a1 a3 a5)) ((bs_count (bs_set_latestTrap σ (fOperators_trapOf a1 a3 a5))) - a2))).2))) else True)
def fB_apply_61 (a1 : Int32) (a2 : Int32) (a3 : Int64) (σ : BS) : Nat × Int32 × BS :=
  (fB_apply_74 a1 a2 a3 (bs_rows σ ((bs_count σ) - 1).toNatClampNeg) σ)
def SB_apply_61 (a1 : Int32) (a2 : Int32) (a3 : Int64) (σ : BS) : Prop :=
  ((vp_in ((bs_count σ) - 1) 64) ∧ (SB_apply_74 a1 a2 a3 (bs_rows σ ((bs_count σ) - 1).toNatClampNeg) σ))
def fB_apply_36 (a1 : Int32) (a2 : Int32) (s0 : Int32) (σ : BS) : Nat × Int32 × BS :=
  (if s0 = 0 then (2, 0, σ) else (fB_apply_61 a1 a2 (bs_rows σ ((bs_count σ) - a2).toNatClampNeg) σ))
def SB_apply_36 (a1 : Int32) (a2 : Int32) (s0 : Int32) (σ : BS) : Prop :=
  (if s0 = 0 then True else ((vp_in ((bs_count σ) - a2) 64) ∧ (SB_apply_61 a1 a2 (bs_rows σ ((bs_count σ) - a2).toNatClampNeg) σ)))
def fB_apply_27 (a1 : Int32) (a2 : Int32) (σ : BS) : Nat × Int32 × BS :=
  (fB_apply_36 a1 a2 ((fB_areOnTop a2 (fOperators_operandType a1) σ).1) ((fB_areOnTop a2 (fOperators_operandType a1) σ).2))
def SB_apply_27 (a1 : Int32) (a2 : Int32) (σ : BS) : Prop :=
  ((SB_areOnTop a2 (fOperators_operandType a1) σ) ∧ (SB_apply_36 a1 a2 ((fB_areOnTop a2 (fOperators_operandType a1) σ).1) ((fB_areOnTop a2 (fOperators_operandType a1) σ).2)))
def fB_apply (a1 : Int32) (σ : BS) : Nat × Int32 × BS :=
  (if (fOperators_exists a1) = 0 then (1, 0, bs_set_latestTrap σ 0) else (fB_apply_27 a1 (fOperators_operands a1) (bs_set_latestTrap σ 0)))
def SB_apply (a1 : Int32) (σ : BS) : Prop :=
  (if (fOperators_exists a1) = 0 then True else (SB_apply_27 a1 (fOperators_operands a1) (bs_set_latestTrap σ 0)))
set_option maxHeartbeats 4000000 in
set_option maxRecDepth 100000 in
theorem kB_pop_5 {p : Program} {l : Launch} {e : Env} {s : State} {m : MethodId} {args : Array Value} {below : List Frame} {meth : Method} {c : Code} (C : pw_C p s m args meth c cB_pop 1 (some .long) "BitNumbers") {D : va_G} {ad : Nat → Nat} {A : Nat → Prop} (hK : va_K D clM (tyA ad) s) (hA : ∀ q, s.heap.size ≤ q → A q) {td ed : Nat → Nat} (hG : pw_G A ed td s s.heap) {sa : Nat → Nat} (hlT : l.stackTraces = false) (hXw : xw A sa s s.heap) (htab : ∀ x ∈ c.exceptionTable.toList, False) (s0 : Int32) (σ : BS) (hzs0 : s0 = 0 ∨ s0 = 1) (hS : SB_pop_5 s0 σ) {H : Heap} {locs : List Loc} (hM : bw D ad A s.heap H locs σ) {ls : Array Slot} (hl : lv_has ls 1 [(0, .ref (ad 0))]) : W p l e rmB_pop s m args below meth c H locs 0 0 (vx_MQ below (va_Ql (fun r u => (0, r, u) = fB_pop_5 s0 σ) (bw_E D ad A) A) (bx_X D ad A (xrel (fB_pop_5 s0 σ))) args s 1 6 A) (F0 m 5 ls [.int s0]) := by
  obtain ⟨hx, hb, hr, hml, hown, hts, hlocks⟩ := id C
  refine lv_if_ne (tgt := 18) hx hb dB_pop_5 (by decide) (fun h1 => ?_) (fun h1 => ?_)
  · refine lv_aload_n hx hb dB_pop_18 rfl (lv_at hl 0 rfl) ?_
    refine lv_dup hx hb dB_pop_19 rfl ?_
    refine bw_get (v := .int (bs_count σ)) hx hb hts hown hK hM 2 (by decide) (hts _ w_59) (bw_fd_count _ _) dB_pop_20 ?_
    refine lv_iconst (v := 1) hx hb dB_pop_23 (by decide) ?_
    refine lv_isub hx hb dB_pop_24 ?_
    refine bw_put (v := .int ((bs_count σ) - 1)) (ty := .int) (σ' := bs_set_count σ ((bs_count σ) - 1)) hx hb hts hown hK hM 2 (by decide) (hts _ w_59) rfl (by decide +kernel) rfl rfl (bw_pt_count _ _ _) dB_pop_25 (fun H locs hM => ?_)
    refine lv_aload_n hx hb dB_pop_28 rfl (lv_at hl 0 rfl) ?_
    refine bw_get (v := .ref (ad 2)) hx hb hts hown hK hM 1 (by decide) (hts _ w_58) (bw_fd_rows _ _) dB_pop_29 ?_
    refine lv_aload_n hx hb dB_pop_32 rfl (lv_at hl 0 rfl) ?_
    refine bw_get (v := .int (bs_count (bs_set_count σ ((bs_count σ) - 1)))) hx hb hts hown hK hM 2 (by decide) (hts _ w_59) (bw_fd_count _ _) dB_pop_33 ?_
    have hS36 : ((vp_in (bs_count (bs_set_count σ ((bs_count σ) - 1))) 64) ∧ True) := by have w9 := hS; rw [SB_pop_5, if_neg h1] at w9; exact w9
    refine bw_lald hx hb hK hM 2 (bw_ar_rows _ _) (hS36.1) dB_pop_36 ?_
    refine vx_ret (W.widen (k := 1) (n := 6) (Nat.zero_le _) (Nat.zero_le _) ?_)
    exact W.lret (v := bs_rows (bs_set_count σ ((bs_count σ) - 1)) (bs_count (bs_set_count σ ((bs_count σ) - 1))).toNatClampNeg) hx hb hr (fun t ht hW => ⟨⟨bs_rows (bs_set_count σ ((bs_count σ) - 1)) (bs_count (bs_set_count σ ((bs_count σ) - 1))).toNatClampNeg, bs_set_count σ ((bs_count σ) - 1), rfl, by rw [(show fB_pop_5 s0 σ = (0, bs_rows (bs_set_count σ ((bs_count σ) - 1)) (bs_count (bs_set_count σ ((bs_count σ) - 1))).toNatClampNeg, bs_set_count σ ((bs_count σ) - 1)) by rw [fB_pop_5, if_neg h1])], by rw [ht]; exact hM.1, va_K.moved hW.alike hK, hM.2.1⟩, hM.2.2.F ht⟩) hM.2.2.2.2 dB_pop_37
  · exact bx_throw (rest := []) hx hb hlT hown (by decide +kernel) (hts _ w_183) (hts _ w_39) hXw.1.1 (xat36 hts hXw.2.2) xot36 hXw hK hA hM (hl.1.trans hml.symm) dB_pop_8 dB_pop_11 dB_pop_12 dB_pop_14 dB_pop_17 htab (Nat.le_of_ble_eq_true rfl) (Nat.le_of_ble_eq_true rfl) (Nat.le_of_ble_eq_true rfl) (Nat.le_of_ble_eq_true rfl) hlocks ⟨2, 0, by decide, by rw [(show fB_pop_5 s0 σ = (2, 0, σ) by rw [fB_pop_5, if_pos h1])], rfl⟩
set_option maxHeartbeats 4000000 in
set_option maxRecDepth 100000 in
theorem kB_pop_0 {p : Program} {l : Launch} {e : Env} {s : State} {m : MethodId} {args : Array Value} {below : List Frame} {meth : Method} {c : Code} (C : pw_C p s m args meth c cB_pop 1 (some .long) "BitNumbers") {D : va_G} {ad : Nat → Nat} {A : Nat → Prop} (hK : va_K D clM (tyA ad) s) (hA : ∀ q, s.heap.size ≤ q → A q) {td ed : Nat → Nat} (hG : pw_G A ed td s s.heap) {sa : Nat → Nat} (hlT : l.stackTraces = false) (hXw : xw A sa s s.heap) (htab : ∀ x ∈ c.exceptionTable.toList, False) (σ : BS) (hS : SB_pop σ) {H : Heap} {locs : List Loc} (hM : bw D ad A s.heap H locs σ) {ls : Array Slot} (hl : lv_has ls 1 [(0, .ref (ad 0))]) : W p l e rmB_pop s m args below meth c H locs 0 0 (vx_MQ below (va_Ql (fun r u => (0, r, u) = fB_pop σ) (bw_E D ad A) A) (bx_X D ad A (xrel (fB_pop σ))) args s 1 6 A) (F0 m 0 ls []) := by
  obtain ⟨hx, hb, hr, hml, hown, hts, hlocks⟩ := id C
  refine lv_aload_n hx hb dB_pop_0 rfl (lv_at hl 0 rfl) ?_
  refine lv_iconst (v := 0) hx hb dB_pop_1 (by decide) ?_
  refine bw_calli (F := fB_isThere 0 σ) (va_runV (As := [.int 0]) (rest := []) ⟨hx, hb, hml, hown, hts⟩ (qB_isThere l D ad ed td 0 σ H.size) (cwV 1 hts (gV w_122 w_124 w_1 w_33 w_125) rfl rfl rfl (by decide +kernel) ⟨Nat.le_of_ble_eq_true rfl, Nat.le_of_ble_eq_true rfl⟩) (bw_preV hK hM hA hG) rfl rfl hl.1 rfl (lv_room (Nat.le_of_ble_eq_true rfl)) dB_pop_2 ⟨Nat.zero_le _, Nat.zero_le _⟩) hM hA (fun H locs hM => ?_)
  have hS9 : (SB_pop_5 ((fB_isThere 0 σ).1) ((fB_isThere 0 σ).2)) := by have w9 := hS; rw [SB_pop] at w9; exact w9
  rw [(show fB_pop σ = fB_pop_5 ((fB_isThere 0 σ).1) ((fB_isThere 0 σ).2) by rw [fB_pop])]
  exact kB_pop_5 C hK hA hG hlT hXw htab ((fB_isThere 0 σ).1) ((fB_isThere 0 σ).2) (zB_isThere 0 σ) (hS9) hM (lv_sub hl [0] rfl)
set_option maxHeartbeats 4000000 in
set_option maxRecDepth 100000 in
theorem qB_pop (l : Launch) (hlT : l.stackTraces = false) (D : va_G) (ad ed td sa : Nat → Nat)  (σ : BS) (sz : Nat) (hS : SB_pop σ) : vx_Met l yB_pop wsB_pop rmB_pop (va_Pc [.ref (ad 0)] (bw_BX D ad ed td sa σ sz)) (va_Ql (fun r u => (0, r, u) = fB_pop σ) (bw_E D ad (va_A (bw_c ad σ) sz)) (va_A (bw_c ad σ) sz)) (bx_X D ad (va_A (bw_c ad σ) sz) (xrel (fB_pop σ))) 1 6 (va_A (bw_c ad σ) sz) := by
  refine vx_ofW (cc := cB_pop) (maxL := 1) (ret := (some .long)) (by decide) rfl ?_
  intro p e s m args below meth c s₁ B hml htab hv
  obtain ⟨rfl, ⟨hsz, hP, hK, hD, hG⟩, hXw⟩ := hv
  have hts0 := atoms_spec (ws := wsB_pop) B.pre
  have hts := fun (w : Cond) (h : w ∈ aw) => hts0 w (List.mem_cons_of_mem _ h)
  have hown : s.vm.findClass "BitNumbers" = some m.cls := findClass_of_methodNamed B.named
  subst hsz
  have hl := lv_entry ([.ref (ad 0)]) (n := 1) (Nat.le_of_ble_eq_true rfl)
  rw [lg_entry_eq]
  generalize (lg_sl ([.ref (ad 0)]) ++ List.replicate (1 - (lg_sl ([.ref (ad 0)])).length) Slot.unset).toArray = ls at hl ⊢
  exact kB_pop_0 ⟨B.exec, B.bytes, B.returns, hml, hown, hts, B.notSynchronized⟩ hK (fun q h => Or.inr h) hG hlT hXw htab σ hS ⟨hP, hD.self, va_S.rf⟩ hl

set_option maxHeartbeats 4000000 in
set_option maxRecDepth 100000 in
theorem kB_apply_127 {p : Program} {l : Launch} {e : Env} {s : State} {m : MethodId} {args : Array Value} {below : List Frame} {meth : Method} {c : Code} (C : pw_C p s m args meth c cB_apply 7 (some .int) "BitNumbers") {D : va_G} {ad : Nat → Nat} {A : Nat → Prop} (hK : va_K D clM (tyA ad) s) (hA : ∀ q, s.heap.size ≤ q → A q) {td ed : Nat → Nat} (hG : pw_G A ed td s s.heap) {sa : Nat → Nat} (hlT : l.stackTraces = false) (hXw : xw A sa s s.heap) (htab : ∀ x ∈ c.exceptionTable.toList, False) (a1 : Int32) (s0 : Int32) (σ : BS) (hS : SB_apply_127 a1 s0 σ) {H : Heap} {locs : List Loc} (hM : bw D ad A s.heap H locs σ) {ls : Array Slot} (hl : lv_has ls 7 [(1, .int a1)]) : W p l e rmB_apply s m args below meth c H locs 0 0 (vx_MQ below (va_Qi (fun r u => (0, r, u) = fB_apply_127 a1 s0 σ) (bw_E D ad A) A) (bx_X D ad A (xrel (fB_apply_127 a1 s0 σ))) args s 1 6 A) (F0 m 127 ls [.int s0]) := by
  obtain ⟨hx, hb, hr, hml, hown, hts, hlocks⟩ := id C
  refine lv_pop hx hb dB_apply_127 rfl ?_
  refine lv_iload_n hx hb dB_apply_128 rfl (lv_at hl 0 rfl) ?_
  refine pw_call (va_runS (As := [.int a1]) (rest := []) ⟨hx, hb, hml, hown, hts⟩ (qOperators_resultType l ed td a1) (va_cwS 1 hts (gS w_113 w_114 w_40 w_115) rfl rfl rfl (by decide +kernel) ⟨Nat.le_of_ble_eq_true rfl, Nat.le_of_ble_eq_true rfl⟩) ⟨pw_bG, fun U hU hW => ⟨rfl, (pw_at hG hM.2.2 hU hW)⟩⟩ rfl rfl hl.1 rfl (lv_room (Nat.le_of_ble_eq_true rfl)) dB_apply_129 ⟨Nat.zero_le _, Nat.zero_le _⟩) ?_
  refine vx_ret (W.widen (k := 1) (n := 6) (Nat.zero_le _) (Nat.zero_le _) ?_)
  exact W.iret (v := fOperators_resultType a1) hx hb hr (fun t ht hW => ⟨⟨fOperators_resultType a1, σ, rfl, by rw [(show fB_apply_127 a1 s0 σ = (0, fOperators_resultType a1, σ) by rw [fB_apply_127])], by rw [ht]; exact hM.1, va_K.moved hW.alike hK, hM.2.1⟩, hM.2.2.F ht⟩) hM.2.2.2.2 dB_apply_132
set_option maxHeartbeats 4000000 in
set_option maxRecDepth 100000 in
theorem kB_apply_74 {p : Program} {l : Launch} {e : Env} {s : State} {m : MethodId} {args : Array Value} {below : List Frame} {meth : Method} {c : Code} (C : pw_C p s m args meth c cB_apply 7 (some .int) "BitNumbers") {D : va_G} {ad : Nat → Nat} {A : Nat → Prop} (hK : va_K D clM (tyA ad) s) (hA : ∀ q, s.heap.size ≤ q → A q) {td ed : Nat → Nat} (hG : pw_G A ed td s s.heap) {sa : Nat → Nat} (hlT : l.stackTraces = false) (hXw : xw A sa s s.heap) (htab : ∀ x ∈ c.exceptionTable.toList, False) (a1 : Int32) (a2 : Int32) (a3 : Int64) (a5 : Int64) (σ : BS) (hS : SB_apply_74 a1 a2 a3 a5 σ) {H : Heap} {locs : List Loc} (hM : bw D ad A s.heap H locs σ) {ls : Array Slot} (hl : lv_has ls 7 [(0, .ref (ad 0)), (1, .int a1), (2, .int a2), (3, .long a3), (5, .long a5)]) : W p l e rmB_apply s m args below meth c H locs 0 0 (vx_MQ below (va_Qi (fun r u => (0, r, u) = fB_apply_74 a1 a2 a3 a5 σ) (bw_E D ad A) A) (bx_X D ad A (xrel (fB_apply_74 a1 a2 a3 a5 σ))) args s 1 6 A) (F0 m 74 ls []) := by
  obtain ⟨hx, hb, hr, hml, hown, hts, hlocks⟩ := id C
  refine lv_aload_n hx hb dB_apply_74 rfl (lv_at hl 0 rfl) ?_
  refine lv_iload_n hx hb dB_apply_75 rfl (lv_at hl 1 rfl) ?_
  refine lv_lload_n hx hb dB_apply_76 rfl (lv_at hl 3 rfl) ?_
  refine lv_lload hx hb dB_apply_77 (lv_at hl 4 rfl) ?_
  refine pw_call (va_runS (As := [.int a1, .long a3, .long a5]) (rest := [.ref (ad 0)]) ⟨hx, hb, hml, hown, hts⟩ (qOperators_trapOf l ed td a1 a3 a5) (va_cwS 3 hts (gS w_281 w_282 w_40 w_283) rfl rfl rfl (by decide +kernel) ⟨Nat.le_of_ble_eq_true rfl, Nat.le_of_ble_eq_true rfl⟩) ⟨pw_bG, fun U hU hW => ⟨rfl, (pw_at hG hM.2.2 hU hW)⟩⟩ rfl rfl hl.1 rfl (lv_room (Nat.le_of_ble_eq_true rfl)) dB_apply_79 ⟨Nat.zero_le _, Nat.zero_le _⟩) ?_
  refine bw_put (v := .int (fOperators_trapOf a1 a3 a5)) (ty := .int) (σ' := bs_set_latestTrap σ (fOperators_trapOf a1 a3 a5)) hx hb hts hown hK hM 3 (by decide) (hts _ w_60) rfl (by decide +kernel) rfl rfl (bw_pt_latestTrap _ _ _) dB_apply_82 (fun H locs hM => ?_)
  refine lv_aload_n hx hb dB_apply_85 rfl (lv_at hl 0 rfl) ?_
  refine bw_get (v := .int (bs_latestTrap (bs_set_latestTrap σ (fOperators_trapOf a1 a3 a5)))) hx hb hts hown hK hM 3 (by decide) (hts _ w_60) (bw_fd_latestTrap _ _) dB_apply_86 ?_
  refine lv_if_eq (tgt := 102) hx hb dB_apply_89 (by decide) (fun h1 => ?_) (fun h1 => ?_)
  · refine lv_aload_n hx hb dB_apply_102 rfl (lv_at hl 0 rfl) ?_
    refine lv_dup hx hb dB_apply_103 rfl ?_
    refine bw_get (v := .int (bs_count (bs_set_latestTrap σ (fOperators_trapOf a1 a3 a5)))) hx hb hts hown hK hM 2 (by decide) (hts _ w_59) (bw_fd_count _ _) dB_apply_104 ?_
    refine lv_iload_n hx hb dB_apply_107 rfl (lv_at hl 2 rfl) ?_
    refine lv_isub hx hb dB_apply_108 ?_
    refine bw_put (v := .int ((bs_count (bs_set_latestTrap σ (fOperators_trapOf a1 a3 a5))) - a2)) (ty := .int) (σ' := bs_set_count (bs_set_latestTrap σ (fOperators_trapOf a1 a3 a5)) ((bs_count (bs_set_latestTrap σ (fOperators_trapOf a1 a3 a5))) - a2)) hx hb hts hown hK hM 2 (by decide) (hts _ w_59) rfl (by decide +kernel) rfl rfl (bw_pt_count _ _ _) dB_apply_109 (fun H locs hM => ?_)
    refine lv_aload_n hx hb dB_apply_112 rfl (lv_at hl 0 rfl) ?_
    refine lv_iload_n hx hb dB_apply_113 rfl (lv_at hl 1 rfl) ?_
    refine pw_call (va_runS (As := [.int a1]) (rest := [.ref (ad 0)]) ⟨hx, hb, hml, hown, hts⟩ (qOperators_resultType l ed td a1) (va_cwS 1 hts (gS w_113 w_114 w_40 w_115) rfl rfl rfl (by decide +kernel) ⟨Nat.le_of_ble_eq_true rfl, Nat.le_of_ble_eq_true rfl⟩) ⟨pw_bG, fun U hU hW => ⟨rfl, (pw_at hG hM.2.2 hU hW)⟩⟩ rfl rfl hl.1 rfl (lv_room (Nat.le_of_ble_eq_true rfl)) dB_apply_114 ⟨Nat.zero_le _, Nat.zero_le _⟩) ?_
    refine lv_iload_n hx hb dB_apply_117 rfl (lv_at hl 1 rfl) ?_
    refine lv_lload_n hx hb dB_apply_118 rfl (lv_at hl 3 rfl) ?_
    refine lv_lload hx hb dB_apply_119 (lv_at hl 4 rfl) ?_
    refine pw_call (va_runS (As := [.int a1, .long a3, .long a5]) (rest := [.int (fOperators_resultType a1), .ref (ad 0)]) ⟨hx, hb, hml, hown, hts⟩ (qOperators_result l ed td a1 a3 a5) (va_cwS 3 hts (gS w_365 w_366 w_40 w_367) rfl rfl rfl (by decide +kernel) ⟨Nat.le_of_ble_eq_true rfl, Nat.le_of_ble_eq_true rfl⟩) ⟨pw_bG, fun U hU hW => ⟨rfl, (pw_at hG hM.2.2 hU hW)⟩⟩ rfl rfl hl.1 rfl (lv_room (Nat.le_of_ble_eq_true rfl)) dB_apply_121 ⟨Nat.zero_le _, Nat.zero_le _⟩) ?_
    have hS124 : ((SB_put (fOperators_resultType a1) (fOperators_result a1 a3 a5) (bs_set_count (bs_set_latestTrap σ (fOperators_trapOf a1 a3 a5)) ((bs_count (bs_set_latestTrap σ (fOperators_trapOf a1 a3 a5))) - a2))) ∧ (SB_apply_127 a1 ((fB_put (fOperators_resultType a1) (fOperators_result a1 a3 a5) (bs_set_count (bs_set_latestTrap σ (fOperators_trapOf a1 a3 a5)) ((bs_count (bs_set_latestTrap σ (fOperators_trapOf a1 a3 a5))) - a2))).1) ((fB_put (fOperators_resultType a1) (fOperators_result a1 a3 a5) (bs_set_count (bs_set_latestTrap σ (fOperators_trapOf a1 a3 a5)) ((bs_count (bs_set_latestTrap σ (fOperators_trapOf a1 a3 a5))) - a2))).2))) := by have w9 := hS; rw [SB_apply_74, if_pos h1] at w9; exact w9
    refine bw_calli (F := fB_put (fOperators_resultType a1) (fOperators_result a1 a3 a5) (bs_set_count (bs_set_latestTrap σ (fOperators_trapOf a1 a3 a5)) ((bs_count (bs_set_latestTrap σ (fOperators_trapOf a1 a3 a5))) - a2))) (va_runV (As := [.int (fOperators_resultType a1), .long (fOperators_result a1 a3 a5)]) (rest := []) ⟨hx, hb, hml, hown, hts⟩ (qB_put l D ad ed td (fOperators_resultType a1) (fOperators_result a1 a3 a5) (bs_set_count (bs_set_latestTrap σ (fOperators_trapOf a1 a3 a5)) ((bs_count (bs_set_latestTrap σ (fOperators_trapOf a1 a3 a5))) - a2)) H.size hS124.1) (cwV 2 hts (gV w_76 w_78 w_0 w_33 w_79) rfl rfl rfl (by decide +kernel) ⟨Nat.le_of_ble_eq_true rfl, Nat.le_of_ble_eq_true rfl⟩) (bw_preV hK hM hA hG) rfl rfl hl.1 rfl (lv_room (Nat.le_of_ble_eq_true rfl)) dB_apply_124 ⟨Nat.zero_le _, Nat.zero_le _⟩) hM hA (fun H locs hM => ?_)
    have hS9 : (SB_apply_127 a1 ((fB_put (fOperators_resultType a1) (fOperators_result a1 a3 a5) (bs_set_count (bs_set_latestTrap σ (fOperators_trapOf a1 a3 a5)) ((bs_count (bs_set_latestTrap σ (fOperators_trapOf a1 a3 a5))) - a2))).1) ((fB_put (fOperators_resultType a1) (fOperators_result a1 a3 a5) (bs_set_count (bs_set_latestTrap σ (fOperators_trapOf a1 a3 a5)) ((bs_count (bs_set_latestTrap σ (fOperators_trapOf a1 a3 a5))) - a2))).2)) := hS124.2
    rw [(show fB_apply_74 a1 a2 a3 a5 σ = fB_apply_127 a1 ((fB_put (fOperators_resultType a1) (fOperators_result a1 a3 a5) (bs_set_count (bs_set_latestTrap σ (fOperators_trapOf a1 a3 a5)) ((bs_count (bs_set_latestTrap σ (fOperators_trapOf a1 a3 a5))) - a2))).1) ((fB_put (fOperators_resultType a1) (fOperators_result a1 a3 a5) (bs_set_count (bs_set_latestTrap σ (fOperators_trapOf a1 a3 a5)) ((bs_count (bs_set_latestTrap σ (fOperators_trapOf a1 a3 a5))) - a2))).2) by rw [fB_apply_74, if_pos h1])]
    exact kB_apply_127 C hK hA hG hlT hXw htab a1 ((fB_put (fOperators_resultType a1) (fOperators_result a1 a3 a5) (bs_set_count (bs_set_latestTrap σ (fOperators_trapOf a1 a3 a5)) ((bs_count (bs_set_latestTrap σ (fOperators_trapOf a1 a3 a5))) - a2))).1) ((fB_put (fOperators_resultType a1) (fOperators_result a1 a3 a5) (bs_set_count (bs_set_latestTrap σ (fOperators_trapOf a1 a3 a5)) ((bs_count (bs_set_latestTrap σ (fOperators_trapOf a1 a3 a5))) - a2))).2) (hS9) hM (lv_sub hl [1] rfl)
  · exact bx_throw (rest := []) hx hb hlT hown (by decide +kernel) (hts _ w_349) (hts _ w_47) hXw.1.2.2.2 (xat70 hts hXw.2.2) xot70 hXw hK hA hM (hl.1.trans hml.symm) dB_apply_92 dB_apply_95 dB_apply_96 dB_apply_98 dB_apply_101 htab (Nat.le_of_ble_eq_true rfl) (Nat.le_of_ble_eq_true rfl) (Nat.le_of_ble_eq_true rfl) (Nat.le_of_ble_eq_true rfl) hlocks ⟨3, 0, by decide, by rw [(show fB_apply_74 a1 a2 a3 a5 σ = (3, 0, bs_set_latestTrap σ (fOperators_trapOf a1 a3 a5)) by rw [fB_apply_74, if_neg h1])], rfl⟩
set_option maxHeartbeats 4000000 in
set_option maxRecDepth 100000 in
theorem kB_apply_61 {p : Program} {l : Launch} {e : Env} {s : State} {m : MethodId} {args : Array Value} {below : List Frame} {meth : Method} {c : Code} (C : pw_C p s m args meth c cB_apply 7 (some .int) "BitNumbers") {D : va_G} {ad : Nat → Nat} {A : Nat → Prop} (hK : va_K D clM (tyA ad) s) (hA : ∀ q, s.heap.size ≤ q → A q) {td ed : Nat → Nat} (hG : pw_G A ed td s s.heap) {sa : Nat → Nat} (hlT : l.stackTraces = false) (hXw : xw A sa s s.heap) (htab : ∀ x ∈ c.exceptionTable.toList, False) (a1 : Int32) (a2 : Int32) (a3 : Int64) (σ : BS) (hS : SB_apply_61 a1 a2 a3 σ) {H : Heap} {locs : List Loc} (hM : bw D ad A s.heap H locs σ) {ls : Array Slot} (hl : lv_has ls 7 [(0, .ref (ad 0)), (1, .int a1), (2, .int a2), (3, .long a3)]) : W p l e rmB_apply s m args below meth c H locs 0 0 (vx_MQ below (va_Qi (fun r u => (0, r, u) = fB_apply_61 a1 a2 a3 σ) (bw_E D ad A) A) (bx_X D ad A (xrel (fB_apply_61 a1 a2 a3 σ))) args s 1 6 A) (F0 m 61 ls []) := by
  obtain ⟨hx, hb, hr, hml, hown, hts, hlocks⟩ := id C
  refine lv_aload_n hx hb dB_apply_61 rfl (lv_at hl 0 rfl) ?_
  refine bw_get (v := .ref (ad 2)) hx hb hts hown hK hM 1 (by decide) (hts _ w_58) (bw_fd_rows _ _) dB_apply_62 ?_
  refine lv_aload_n hx hb dB_apply_65 rfl (lv_at hl 0 rfl) ?_
  refine bw_get (v := .int (bs_count σ)) hx hb hts hown hK hM 2 (by decide) (hts _ w_59) (bw_fd_count _ _) dB_apply_66 ?_
  refine lv_iconst (v := 1) hx hb dB_apply_69 (by decide) ?_
  refine lv_isub hx hb dB_apply_70 ?_
  have hS71 : ((vp_in ((bs_count σ) - 1) 64) ∧ (SB_apply_74 a1 a2 a3 (bs_rows σ ((bs_count σ) - 1).toNatClampNeg) σ)) := by have w9 := hS; rw [SB_apply_61] at w9; exact w9
  refine bw_lald hx hb hK hM 2 (bw_ar_rows _ _) (hS71.1) dB_apply_71 ?_
  refine lv_lstore (lv' := [(5, .long (bs_rows σ ((bs_count σ) - 1).toNatClampNeg)), (0, .ref (ad 0)), (1, .int a1), (2, .int a2), (3, .long a3)]) hx hb dB_apply_72 hl (by decide) rfl (fun ls hl => ?_)
  have hS9 : (SB_apply_74 a1 a2 a3 (bs_rows σ ((bs_count σ) - 1).toNatClampNeg) σ) := hS71.2
  rw [(show fB_apply_61 a1 a2 a3 σ = fB_apply_74 a1 a2 a3 (bs_rows σ ((bs_count σ) - 1).toNatClampNeg) σ by rw [fB_apply_61])]
  exact kB_apply_74 C hK hA hG hlT hXw htab a1 a2 a3 (bs_rows σ ((bs_count σ) - 1).toNatClampNeg) σ (hS9) hM (lv_sub hl [1, 2, 3, 4, 0] rfl)
set_option maxHeartbeats 4000000 in
set_option maxRecDepth 100000 in
theorem kB_apply_36 {p : Program} {l : Launch} {e : Env} {s : State} {m : MethodId} {args : Array Value} {below : List Frame} {meth : Method} {c : Code} (C : pw_C p s m args meth c cB_apply 7 (some .int) "BitNumbers") {D : va_G} {ad : Nat → Nat} {A : Nat → Prop} (hK : va_K D clM (tyA ad) s) (hA : ∀ q, s.heap.size ≤ q → A q) {td ed : Nat → Nat} (hG : pw_G A ed td s s.heap) {sa : Nat → Nat} (hlT : l.stackTraces = false) (hXw : xw A sa s s.heap) (htab : ∀ x ∈ c.exceptionTable.toList, False) (a1 : Int32) (a2 : Int32) (s0 : Int32) (σ : BS) (hzs0 : s0 = 0 ∨ s0 = 1) (hS : SB_apply_36 a1 a2 s0 σ) {H : Heap} {locs : List Loc} (hM : bw D ad A s.heap H locs σ) {ls : Array Slot} (hl : lv_has ls 7 [(0, .ref (ad 0)), (1, .int a1), (2, .int a2)]) : W p l e rmB_apply s m args below meth c H locs 0 0 (vx_MQ below (va_Qi (fun r u => (0, r, u) = fB_apply_36 a1 a2 s0 σ) (bw_E D ad A) A) (bx_X D ad A (xrel (fB_apply_36 a1 a2 s0 σ))) args s 1 6 A) (F0 m 36 ls [.int s0]) := by
  obtain ⟨hx, hb, hr, hml, hown, hts, hlocks⟩ := id C
  refine lv_if_ne (tgt := 49) hx hb dB_apply_36 (by decide) (fun h1 => ?_) (fun h1 => ?_)
  · refine lv_aload_n hx hb dB_apply_49 rfl (lv_at hl 0 rfl) ?_
    refine bw_get (v := .ref (ad 2)) hx hb hts hown hK hM 1 (by decide) (hts _ w_58) (bw_fd_rows _ _) dB_apply_50 ?_
    refine lv_aload_n hx hb dB_apply_53 rfl (lv_at hl 0 rfl) ?_
    refine bw_get (v := .int (bs_count σ)) hx hb hts hown hK hM 2 (by decide) (hts _ w_59) (bw_fd_count _ _) dB_apply_54 ?_
    refine lv_iload_n hx hb dB_apply_57 rfl (lv_at hl 2 rfl) ?_
    refine lv_isub hx hb dB_apply_58 ?_
    have hS59 : ((vp_in ((bs_count σ) - a2) 64) ∧ (SB_apply_61 a1 a2 (bs_rows σ ((bs_count σ) - a2).toNatClampNeg) σ)) := by have w9 := hS; rw [SB_apply_36, if_neg h1] at w9; exact w9
    refine bw_lald hx hb hK hM 2 (bw_ar_rows _ _) (hS59.1) dB_apply_59 ?_
    refine lv_lstore_n (lv' := [(3, .long (bs_rows σ ((bs_count σ) - a2).toNatClampNeg)), (0, .ref (ad 0)), (1, .int a1), (2, .int a2)]) hx hb dB_apply_60 rfl hl (by decide) rfl (fun ls hl => ?_)
    have hS9 : (SB_apply_61 a1 a2 (bs_rows σ ((bs_count σ) - a2).toNatClampNeg) σ) := hS59.2
    rw [(show fB_apply_36 a1 a2 s0 σ = fB_apply_61 a1 a2 (bs_rows σ ((bs_count σ) - a2).toNatClampNeg) σ by rw [fB_apply_36, if_neg h1])]
    exact kB_apply_61 C hK hA hG hlT hXw htab a1 a2 (bs_rows σ ((bs_count σ) - a2).toNatClampNeg) σ (hS9) hM (lv_sub hl [1, 2, 3, 0] rfl)
  · exact bx_throw (rest := []) hx hb hlT hown (by decide +kernel) (hts _ w_183) (hts _ w_39) hXw.1.2.2.1 (xat36 hts hXw.2.2) xot36 hXw hK hA hM (hl.1.trans hml.symm) dB_apply_39 dB_apply_42 dB_apply_43 dB_apply_45 dB_apply_48 htab (Nat.le_of_ble_eq_true rfl) (Nat.le_of_ble_eq_true rfl) (Nat.le_of_ble_eq_true rfl) (Nat.le_of_ble_eq_true rfl) hlocks ⟨2, 0, by decide, by rw [(show fB_apply_36 a1 a2 s0 σ = (2, 0, σ) by rw [fB_apply_36, if_pos h1])], rfl⟩
set_option maxHeartbeats 4000000 in
set_option maxRecDepth 100000 in
theorem kB_apply_27 {p : Program} {l : Launch} {e : Env} {s : State} {m : MethodId} {args : Array Value} {below : List Frame} {meth : Method} {c : Code} (C : pw_C p s m args meth c cB_apply 7 (some .int) "BitNumbers") {D : va_G} {ad : Nat → Nat} {A : Nat → Prop} (hK : va_K D clM (tyA ad) s) (hA : ∀ q, s.heap.size ≤ q → A q) {td ed : Nat → Nat} (hG : pw_G A ed td s s.heap) {sa : Nat → Nat} (hlT : l.stackTraces = false) (hXw : xw A sa s s.heap) (htab : ∀ x ∈ c.exceptionTable.toList, False) (a1 : Int32) (a2 : Int32) (σ : BS) (hS : SB_apply_27 a1 a2 σ) {H : Heap} {locs : List Loc} (hM : bw D ad A s.heap H locs σ) {ls : Array Slot} (hl : lv_has ls 7 [(0, .ref (ad 0)), (1, .int a1), (2, .int a2)]) : W p l e rmB_apply s m args below meth c H locs 0 0 (vx_MQ below (va_Qi (fun r u => (0, r, u) = fB_apply_27 a1 a2 σ) (bw_E D ad A) A) (bx_X D ad A (xrel (fB_apply_27 a1 a2 σ))) args s 1 6 A) (F0 m 27 ls []) := by
  obtain ⟨hx, hb, hr, hml, hown, hts, hlocks⟩ := id C
  refine lv_aload_n hx hb dB_apply_27 rfl (lv_at hl 0 rfl) ?_
  refine lv_iload_n hx hb dB_apply_28 rfl (lv_at hl 2 rfl) ?_
  refine lv_iload_n hx hb dB_apply_29 rfl (lv_at hl 1 rfl) ?_
  refine pw_call (va_runS (As := [.int a1]) (rest := [.int a2, .ref (ad 0)]) ⟨hx, hb, hml, hown, hts⟩ (qOperators_operandType l ed td a1) (va_cwS 1 hts (gS w_105 w_106 w_40 w_107) rfl rfl rfl (by decide +kernel) ⟨Nat.le_of_ble_eq_true rfl, Nat.le_of_ble_eq_true rfl⟩) ⟨pw_bG, fun U hU hW => ⟨rfl, (pw_at hG hM.2.2 hU hW)⟩⟩ rfl rfl hl.1 rfl (lv_room (Nat.le_of_ble_eq_true rfl)) dB_apply_30 ⟨Nat.zero_le _, Nat.zero_le _⟩) ?_
  have hS33 : ((SB_areOnTop a2 (fOperators_operandType a1) σ) ∧ (SB_apply_36 a1 a2 ((fB_areOnTop a2 (fOperators_operandType a1) σ).1) ((fB_areOnTop a2 (fOperators_operandType a1) σ).2))) := by have w9 := hS; rw [SB_apply_27] at w9; exact w9
  refine bw_calli (F := fB_areOnTop a2 (fOperators_operandType a1) σ) (va_runV (As := [.int a2, .int (fOperators_operandType a1)]) (rest := []) ⟨hx, hb, hml, hown, hts⟩ (qB_areOnTop l D ad ed td a2 (fOperators_operandType a1) σ H.size hS33.1) (cwV 2 hts (gV w_276 w_278 w_3 w_33 w_279) rfl rfl rfl (by decide +kernel) ⟨Nat.le_of_ble_eq_true rfl, Nat.le_of_ble_eq_true rfl⟩) (bw_preV hK hM hA hG) rfl rfl hl.1 rfl (lv_room (Nat.le_of_ble_eq_true rfl)) dB_apply_33 ⟨Nat.zero_le _, Nat.zero_le _⟩) hM hA (fun H locs hM => ?_)
  have hS9 : (SB_apply_36 a1 a2 ((fB_areOnTop a2 (fOperators_operandType a1) σ).1) ((fB_areOnTop a2 (fOperators_operandType a1) σ).2)) := hS33.2
  rw [(show fB_apply_27 a1 a2 σ = fB_apply_36 a1 a2 ((fB_areOnTop a2 (fOperators_operandType a1) σ).1) ((fB_areOnTop a2 (fOperators_operandType a1) σ).2) by rw [fB_apply_27])]
  exact kB_apply_36 C hK hA hG hlT hXw htab a1 a2 ((fB_areOnTop a2 (fOperators_operandType a1) σ).1) ((fB_areOnTop a2 (fOperators_operandType a1) σ).2) (zB_areOnTop a2 (fOperators_operandType a1) σ) (hS9) hM (lv_sub hl [0, 1, 2] rfl)
set_option maxHeartbeats 4000000 in
set_option maxRecDepth 100000 in
theorem kB_apply_0 {p : Program} {l : Launch} {e : Env} {s : State} {m : MethodId} {args : Array Value} {below : List Frame} {meth : Method} {c : Code} (C : pw_C p s m args meth c cB_apply 7 (some .int) "BitNumbers") {D : va_G} {ad : Nat → Nat} {A : Nat → Prop} (hK : va_K D clM (tyA ad) s) (hA : ∀ q, s.heap.size ≤ q → A q) {td ed : Nat → Nat} (hG : pw_G A ed td s s.heap) {sa : Nat → Nat} (hlT : l.stackTraces = false) (hXw : xw A sa s s.heap) (htab : ∀ x ∈ c.exceptionTable.toList, False) (a1 : Int32) (σ : BS) (hS : SB_apply a1 σ) {H : Heap} {locs : List Loc} (hM : bw D ad A s.heap H locs σ) {ls : Array Slot} (hl : lv_has ls 7 [(0, .ref (ad 0)), (1, .int a1)]) : W p l e rmB_apply s m args below meth c H locs 0 0 (vx_MQ below (va_Qi (fun r u => (0, r, u) = fB_apply a1 σ) (bw_E D ad A) A) (bx_X D ad A (xrel (fB_apply a1 σ))) args s 1 6 A) (F0 m 0 ls []) := by
  obtain ⟨hx, hb, hr, hml, hown, hts, hlocks⟩ := id C
  refine lv_aload_n hx hb dB_apply_0 rfl (lv_at hl 0 rfl) ?_
  refine lv_iconst (v := 0) hx hb dB_apply_1 (by decide) ?_
  refine bw_put (v := .int 0) (ty := .int) (σ' := bs_set_latestTrap σ 0) hx hb hts hown hK hM 3 (by decide) (hts _ w_60) rfl (by decide +kernel) rfl rfl (bw_pt_latestTrap _ _ _) dB_apply_2 (fun H locs hM => ?_)
  refine lv_iload_n hx hb dB_apply_5 rfl (lv_at hl 1 rfl) ?_
  refine pw_call (va_runS (As := [.int a1]) (rest := []) ⟨hx, hb, hml, hown, hts⟩ (qOperators_exists l ed td a1) (va_cwS 1 hts (gS w_92 w_93 w_40 w_94) rfl rfl rfl (by decide +kernel) ⟨Nat.le_of_ble_eq_true rfl, Nat.le_of_ble_eq_true rfl⟩) ⟨pw_bG, fun U hU hW => ⟨rfl, (pw_at hG hM.2.2 hU hW)⟩⟩ rfl rfl hl.1 rfl (lv_room (Nat.le_of_ble_eq_true rfl)) dB_apply_6 ⟨Nat.zero_le _, Nat.zero_le _⟩) ?_
  refine lv_if_ne (tgt := 22) hx hb dB_apply_9 (by decide) (fun h1 => ?_) (fun h1 => ?_)
  · refine lv_iload_n hx hb dB_apply_22 rfl (lv_at hl 1 rfl) ?_
    refine pw_call (va_runS (As := [.int a1]) (rest := []) ⟨hx, hb, hml, hown, hts⟩ (qOperators_operands l ed td a1) (va_cwS 1 hts (gS w_97 w_98 w_40 w_99) rfl rfl rfl (by decide +kernel) ⟨Nat.le_of_ble_eq_true rfl, Nat.le_of_ble_eq_true rfl⟩) ⟨pw_bG, fun U hU hW => ⟨rfl, (pw_at hG hM.2.2 hU hW)⟩⟩ rfl rfl hl.1 rfl (lv_room (Nat.le_of_ble_eq_true rfl)) dB_apply_23 ⟨Nat.zero_le _, Nat.zero_le _⟩) ?_
    refine lv_istore_n (lv' := [(2, .int (fOperators_operands a1)), (0, .ref (ad 0)), (1, .int a1)]) hx hb dB_apply_26 rfl hl (by decide) rfl (fun ls hl => ?_)
    have hS9 : (SB_apply_27 a1 (fOperators_operands a1) (bs_set_latestTrap σ 0)) := by have w9 := hS; rw [SB_apply, if_neg h1] at w9; exact w9
    rw [(show fB_apply a1 σ = fB_apply_27 a1 (fOperators_operands a1) (bs_set_latestTrap σ 0) by rw [fB_apply, if_neg h1])]
    exact kB_apply_27 C hK hA hG hlT hXw htab a1 (fOperators_operands a1) (bs_set_latestTrap σ 0) (hS9) hM (lv_sub hl [1, 2, 0] rfl)
  · exact bx_throw (rest := []) hx hb hlT hown (by decide +kernel) (hts _ w_260) (hts _ w_41) hXw.1.2.1 (xat48 hts hXw.2.2) xot48 hXw hK hA hM (hl.1.trans hml.symm) dB_apply_12 dB_apply_15 dB_apply_16 dB_apply_18 dB_apply_21 htab (Nat.le_of_ble_eq_true rfl) (Nat.le_of_ble_eq_true rfl) (Nat.le_of_ble_eq_true rfl) (Nat.le_of_ble_eq_true rfl) hlocks ⟨1, 0, by decide, by rw [(show fB_apply a1 σ = (1, 0, bs_set_latestTrap σ 0) by rw [fB_apply, if_pos h1])], rfl⟩
set_option maxHeartbeats 4000000 in
set_option maxRecDepth 100000 in
theorem qB_apply (l : Launch) (hlT : l.stackTraces = false) (D : va_G) (ad ed td sa : Nat → Nat) (a1 : Int32) (σ : BS) (sz : Nat) (hS : SB_apply a1 σ) : vx_Met l yB_apply wsB_apply rmB_apply (va_Pc [.ref (ad 0), .int a1] (bw_BX D ad ed td sa σ sz)) (va_Qi (fun r u => (0, r, u) = fB_apply a1 σ) (bw_E D ad (va_A (bw_c ad σ) sz)) (va_A (bw_c ad σ) sz)) (bx_X D ad (va_A (bw_c ad σ) sz) (xrel (fB_apply a1 σ))) 1 6 (va_A (bw_c ad σ) sz) := by
  refine vx_ofW (cc := cB_apply) (maxL := 7) (ret := (some .int)) (by decide) rfl ?_
  intro p e s m args below meth c s₁ B hml htab hv
  obtain ⟨rfl, ⟨hsz, hP, hK, hD, hG⟩, hXw⟩ := hv
  have hts0 := atoms_spec (ws := wsB_apply) B.pre
  have hts := fun (w : Cond) (h : w ∈ aw) => hts0 w (List.mem_cons_of_mem _ h)
  have hown : s.vm.findClass "BitNumbers" = some m.cls := findClass_of_methodNamed B.named
  subst hsz
  have hl := lv_entry ([.ref (ad 0), .int a1]) (n := 7) (Nat.le_of_ble_eq_true rfl)
  rw [lg_entry_eq]
  generalize (lg_sl ([.ref (ad 0), .int a1]) ++ List.replicate (7 - (lg_sl ([.ref (ad 0), .int a1])).length) Slot.unset).toArray = ls at hl ⊢
  exact kB_apply_0 ⟨B.exec, B.bytes, B.returns, hml, hown, hts, B.notSynchronized⟩ hK (fun q h => Or.inr h) hG hlT hXw htab a1 σ hS ⟨hP, hD.self, va_S.rf⟩ hl

