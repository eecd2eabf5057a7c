def fM_thrown (σ : MS) : Int32 × MS :=
  (ms_thrown σ, σ)
def fM_quotient_118 (a8 : Int32) (a9 : Int64) (s0 : Int32) (σ : MS) : Int64 × MS :=
  (if a8 = 0 then (-a9, ms_set_trap σ s0) else (0, ms_set_trap σ s0))
def fM_quotient_117 (a8 : Int32) (a9 : Int64) (σ : MS) : Int64 × MS :=
  (fM_quotient_118 a8 a9 0 σ)
def fM_quotient_88 (a8 : Int32) (a9 : Int64) (a11 : Int64) (s0 : Int64) (σ : MS) : Int64 × MS :=
  (if a11 = (-1) then (if a9 = s0 then (if a8 = 0 then (fM_quotient_118 a8 a9 2 σ) else (fM_quotient_117 a8 a9 σ)) else (fM_quotient_117 a8 a9 σ)) else (if a8 = 0 then (a9 / a11, σ) else (a9 - a9 / a11 * a11, σ)))
def fM_quotient_75 (a2 : Int32) (a8 : Int32) (a9 : Int64) (a11 : Int64) (σ : MS) : Int64 × MS :=
  (if a2 = 0 then (fM_quotient_88 a8 a9 a11 (-2147483648) σ) else (fM_quotient_88 a8 a9 a11 (-9223372036854775808) σ))
def fM_quotient_67 (a2 : Int32) (a5 : Int64) (a8 : Int32) (a9 : Int64) (σ : MS) : Int64 × MS :=
  (fM_quotient_75 a2 a8 a9 (fM_withSign a2 a5) σ)
def fM_quotient_30 (a2 : Int32) (a3 : Int64) (a5 : Int64) (a7 : Int32) (s0 : Int32) (σ : MS) : Int64 × MS :=
  (if a5 = 0 then (0, ms_set_trap σ 1) else (if a7 = 0 then (fM_divide a3 a5 s0, σ) else (fM_quotient_67 a2 a5 s0 (fM_withSign a2 a3) σ)))
def fM_quotient_17 (a1 : Int32) (a2 : Int32) (a3 : Int64) (a5 : Int64) (s0 : Int32) (σ : MS) : Int64 × MS :=
  (if a1 ≤ 7 then (fM_quotient_30 a2 a3 a5 s0 0 σ) else (fM_quotient_30 a2 a3 a5 s0 1 σ))
def fM_quotient_12 (a1 : Int32) (a2 : Int32) (a3 : Int64) (a5 : Int64) (σ : MS) : Int64 × MS :=
  (fM_quotient_17 a1 a2 a3 a5 1 σ)
def fM_quotient (a1 : Int32) (a2 : Int32) (a3 : Int64) (a5 : Int64) (σ : MS) : Int64 × MS :=
  (if a1 = 6 then (fM_quotient_12 a1 a2 a3 a5 σ) else (if a1 = 8 then (fM_quotient_12 a1 a2 a3 a5 σ) else (fM_quotient_17 a1 a2 a3 a5 0 σ)))
def fM_whole_16 (a1 : Int32) (a2 : Int32) (a3 : Int64) (a5 : Int64) (a7 : Int32) (a8 : Int64) (σ : MS) : Int64 × MS :=
  (if a1 = 0 then (fM_zerosAhead a7 a3, σ) else (if a1 = 1 then (fM_zerosBehind a7 a3, σ) else (if a1 = 2 then (fM_ones a7 a3, σ) else (if a1 = 3 then (a3 + a5, σ) else (if a1 = 4 then (a3 - a5, σ) else (if a1 = 5 then (a3 * a5, σ) else (if a1 = 10 then (a3 &&& a5, σ) else (if a1 = 11 then (a3 ||| a5, σ) else (if a1 = 12 then (a3 ^^^ a5, σ) else (if a1 = 13 then (bn_shl a3 a8.toInt32, σ) else (if a1 = 14 then (bn_sar (fM_withSign a2 a3) a8.toInt32, σ) else (if a1 = 15 then (bn_shr a3 a8.toInt32, σ) else (if a1 = 16 then (fM_turned a7 a3 a8, σ) else (if a1 = 17 then (fM_turned a7 a3 ((a7.toInt64 - a8) &&& ((a7 - 1).toInt64)), σ) else ((fM_quotient a1 a2 a3 a5 σ).1, (fM_quotient a1 a2 a3 a5 σ).2)))))))))))))))
def fM_whole_6 (a1 : Int32) (a2 : Int32) (a3 : Int64) (a5 : Int64) (a7 : Int32) (σ : MS) : Int64 × MS :=
  (fM_whole_16 a1 a2 a3 a5 a7 (a5 &&& ((a7 - 1).toInt64)) σ)
def fM_whole (a1 : Int32) (a2 : Int32) (a3 : Int64) (a5 : Int64) (σ : MS) : Int64 × MS :=
  (fM_whole_6 a1 a2 a3 a5 (fM_width a2) σ)
def fM_order_170 (s0 : Int32) (σ : MS) : Int32 × MS :=
  (-s0, σ)
def fM_order_166 (s0 : Int32) (s1 : Int32) (s2 : Int64) (σ : MS) : Int32 × MS :=
  (fM_order_170 ((fM_compareFactor s2 (s1 - s0) σ).1) ((fM_compareFactor s2 (s1 - s0) σ).2))
def fM_order_142 (a3 : Int32) (σ : MS) : Int32 × MS :=
  (if (ms_mode σ) = 1 then (fM_order_166 a3 (ms_scale σ) (ms_dividend σ) σ) else (fM_order_166 (2 * a3) (ms_scale σ) (ms_dividend σ) σ))
def fM_order_139 (a3 : Int32) (s0 : Int64) (s1 : Int64) (σ : MS) : Int32 × MS :=
  (fM_order_142 a3 (fM_multiply s1 s0 σ))
def fM_order_93 (K : Int64 → Int32 → Int32 → MS → Int32 × MS) (a1 : Int64) (a4 : Int32) (a6 : Int32) (a7 : Int32) (a8 : Int32) (σ : MS) : Int32 × MS :=
  (if a7 = a8 then (K a1 a4 (a6 + (-1)) σ) else (if a8 ≤ a7 then (1, σ) else ((-1), σ)))
def fM_order_81 (K : Int64 → Int32 → Int32 → MS → Int32 × MS) (a1 : Int64) (a4 : Int32) (a6 : Int32) (s0 : Int32) (σ : MS) : Int32 × MS :=
  (fM_order_93 K a1 a4 a6 s0 (fM_digit a1 a4 a6) σ)
def fM_order_57 : Nat → Int64 → Int32 → Int32 → MS → Int32 × MS
  | 0, _, _, _, σ => (0, σ)
  | n + 1, a1, a4, a6, σ =>
    (if a6 < 0 then (0, σ) else (if 320 ≤ a6 then (fM_order_81 (fM_order_57 n) a1 a4 a6 0 σ) else (fM_order_81 (fM_order_57 n) a1 a4 a6 (ms_row σ a6.toNatClampNeg) σ)))
def fM_order_51 (a1 : Int64) (a4 : Int32) (a5 : Int32) (σ : MS) : Int32 × MS :=
  (fM_order_57 (((a5 - 1).toInt + 2).toNat + 1) a1 a4 (a5 - 1) σ)
def fM_order_49 (a1 : Int64) (a4 : Int32) (s0 : Int32) (σ : MS) : Int32 × MS :=
  (fM_order_51 a1 a4 s0 σ)
def fM_order_15 (a1 : Int64) (a4 : Int32) (σ : MS) : Int32 × MS :=
  (if (ms_held σ) ≤ (((a4 + 64) / 16) + 1) then (fM_order_49 a1 a4 (((a4 + 64) / 16) + 1) σ) else (fM_order_49 a1 a4 (ms_held σ) σ))
def fM_order (a1 : Int64) (a3 : Int32) (σ : MS) : Int32 × MS :=
  (if (ms_mode σ) = 0 then (fM_order_15 a1 (a3 - (ms_base σ)) σ) else (if (ms_mode σ) = 1 then (fM_order_139 a3 (ms_divisor σ) a1 σ) else (fM_order_139 a3 a1 a1 σ)))
def fM_rounded_235 (a1 : Int32) (a2 : Int32) (a11 : Int64) (σ : MS) : Int64 × MS :=
  (fM_signed a1 a2 a11, σ)
def fM_rounded_233 (a1 : Int32) (a2 : Int32) (s0 : Int64) (σ : MS) : Int64 × MS :=
  (fM_rounded_235 a1 a2 s0 σ)
def fM_rounded_198 (a1 : Int32) (a2 : Int32) (a4 : Int32) (a6 : Int64) (a9 : Int64) (σ : MS) : Int64 × MS :=
  (if a9 < ((fM_last a1).toInt64) then (fM_rounded_233 a1 a2 (((bn_shl a9 (a4 - 1)) + a6) - (bn_shl 1 (a4 - 1))) σ) else (fM_rounded_233 a1 a2 (fM_infinite a1) σ))
def fM_rounded_166 (a1 : Int32) (a2 : Int32) (a4 : Int32) (a5 : Int32) (a6 : Int64) (σ : MS) : Int64 × MS :=
  (if (bn_shl 1 (a4 - 1)) ≤ a6 then (fM_rounded_198 a1 a2 a4 a6 (((a5 - (fM_least a1)).toInt64) + 1) σ) else (fM_signed a1 a2 a6, σ))
def fM_rounded_163 (a1 : Int32) (a2 : Int32) (a4 : Int32) (a5 : Int32) (a6 : Int64) (σ : MS) : Int64 × MS :=
  (fM_rounded_166 a1 a2 a4 (a5 + 1) a6 σ)
def fM_rounded_145 (a1 : Int32) (a2 : Int32) (a4 : Int32) (a5 : Int32) (a6 : Int64) (σ : MS) : Int64 × MS :=
  (if a6 = (bn_shl 1 a4) then (fM_rounded_163 a1 a2 a4 a5 (a6 / 2) σ) else (fM_rounded_166 a1 a2 a4 a5 a6 σ))
def fM_rounded_139 (a1 : Int32) (a2 : Int32) (a4 : Int32) (a5 : Int32) (a6 : Int64) (σ : MS) : Int64 × MS :=
  (fM_rounded_145 a1 a2 a4 a5 (a6 + 1) σ)
def fM_rounded_118 (a1 : Int32) (a2 : Int32) (a4 : Int32) (a5 : Int32) (a6 : Int64) (s0 : Int32) (σ : MS) : Int64 × MS :=
  (if 0 < s0 then (fM_rounded_139 a1 a2 a4 a5 a6 σ) else (if s0 = 0 then (if (a6 &&& 1) = 1 then (fM_rounded_139 a1 a2 a4 a5 a6 σ) else (fM_rounded_145 a1 a2 a4 a5 a6 σ)) else (fM_rounded_145 a1 a2 a4 a5 a6 σ)))
def fM_rounded_94 (K : Int32 → Int32 → Int32 → Int32 → Int64 → Int32 → MS → Int64 × MS) (a1 : Int32) (a2 : Int32) (a4 : Int32) (a5 : Int32) (a8 : Int32) (s0 : Int64) (σ : MS) : Int64 × MS :=
  (K a1 a2 a4 a5 s0 (a8 + (-1)) σ)
def fM_rounded_79 (K : Int32 → Int32 → Int32 → Int32 → Int64 → Int32 → MS → Int64 × MS) (a1 : Int32) (a2 : Int32) (a4 : Int32) (a5 : Int32) (a6 : Int64) (a8 : Int32) (s0 : Int32) (σ : MS) : Int64 × MS :=
  (if s0 < 0 then (fM_rounded_94 K a1 a2 a4 a5 a8 a6 σ) else (fM_rounded_94 K a1 a2 a4 a5 a8 (a6 + (bn_shl 1 a8)) σ))
def fM_rounded_61 : Nat → Int32 → Int32 → Int32 → Int32 → Int64 → Int32 → MS → Int64 × MS
  | 0, _, _, _, _, _, _, σ => (0, σ)
  | n + 1, a1, a2, a4, a5, a6, a8, σ =>
    (if a8 < 0 then (fM_rounded_118 a1 a2 a4 a5 a6 ((fM_order ((2 * a6) + 1) (a5 - 1) σ).1) ((fM_order ((2 * a6) + 1) (a5 - 1) σ).2)) else (fM_rounded_79 (fM_rounded_61 n) a1 a2 a4 a5 a6 a8 ((fM_order (a6 + (bn_shl 1 a8)) a5 σ).1) ((fM_order (a6 + (bn_shl 1 a8)) a5 σ).2)))
def fM_rounded_50 (a1 : Int32) (a2 : Int32) (a4 : Int32) (s0 : Int32) (σ : MS) : Int64 × MS :=
  (fM_rounded_61 (((a4 - 1).toInt + 2).toNat + 1) a1 a2 a4 s0 0 (a4 - 1) σ)
def fM_rounded_32 (a1 : Int32) (a2 : Int32) (a4 : Int32) (a5 : Int32) (σ : MS) : Int64 × MS :=
  (if (fM_least a1) ≤ a5 then (fM_rounded_50 a1 a2 a4 a5 σ) else (fM_rounded_50 a1 a2 a4 (fM_least a1) σ))
def fM_rounded_26 (a1 : Int32) (a2 : Int32) (a4 : Int32) (a5 : Int32) (s0 : Int32) (σ : MS) : Int64 × MS :=
  (if 0 ≤ s0 then (fM_rounded_32 a1 a2 a4 a5 σ) else (fM_rounded_32 a1 a2 a4 (a5 + (-1)) σ))
def fM_rounded_14 (a1 : Int32) (a2 : Int32) (a4 : Int32) (a5 : Int32) (σ : MS) : Int64 × MS :=
  (fM_rounded_26 a1 a2 a4 a5 ((fM_order (bn_shl 1 (a4 - 1)) a5 σ).1) ((fM_order (bn_shl 1 (a4 - 1)) a5 σ).2))
def fM_rounded_6 (a1 : Int32) (a2 : Int32) (a3 : Int32) (a4 : Int32) (σ : MS) : Int64 × MS :=
  (fM_rounded_14 a1 a2 a4 ((a3 - a4) + 1) σ)
def fM_rounded (a1 : Int32) (a2 : Int32) (a3 : Int32) (σ : MS) : Int64 × MS :=
  (fM_rounded_6 a1 a2 a3 (fM_precision a1) σ)
def fM_bound_9 (a3 : Int64) (σ : MS) : Int64 × MS :=
  (a3, σ)
def fM_bound (a1 : Int32) (a2 : Int32) (a3 : Int64) (σ : MS) : Int64 × MS :=
  (if a1 = 0 then (fM_bound_9 a3 (ms_set_trap σ a2)) else (fM_bound_9 a3 σ))
def fM_trap (σ : MS) : Int32 × MS :=
  (ms_trap (ms_set_thrown σ 0), ms_set_thrown σ 0)
set_option maxHeartbeats 4000000 in
set_option maxRecDepth 100000 in
theorem kM_thrown_0 {p : Program} {l : Launch} {e : Env} {s : State} {m : MethodId} {args : Array Value} {below : List Frame} {meth : Method} {c : Code} (C : pw_C p s m args meth c cM_thrown 1 (some .int) "BitNumbersModel") {D : va_G} {ad : Nat → Nat} {A : Nat → Prop} (hK : va_K D clM (tyA ad) s) (hA : ∀ q, s.heap.size ≤ q → A q) (σ : MS) {H : Heap} {locs : List Loc} (hM : mw D ad A s.heap H locs σ) {ls : Array Slot} (hl : lv_has ls 1 [(0, .ref (ad 0))]) : W p l e rmM_thrown s m args below meth c H locs 0 0 (MQ below (va_Qi (fun r u => (r, u) = fM_thrown σ) (mw_E D ad A) A) args s 0 0 A) (F0 m 0 ls []) := by
  obtain ⟨hx, hb, hr, hml, hown, hts, hlocks⟩ := id C
  refine lv_aload_n hx hb dM_thrown_0 rfl (lv_at hl 0 rfl) ?_
  refine mw_get (v := .int (ms_thrown σ)) hx hb hts hown hK hM 0 (by decide) (hts _ w_487) (mw_fd_thrown _ _) dM_thrown_1 ?_
  exact W.iret (v := ms_thrown σ) hx hb hr (fun t ht hW => ⟨⟨ms_thrown σ, σ, rfl, by rw [(show fM_thrown σ = (ms_thrown σ, σ) by rw [fM_thrown])], by rw [ht]; exact hM.1, va_K.moved hW.alike hK, hM.2.1⟩, hM.2.2.F ht⟩) hM.2.2.2.2 dM_thrown_4
set_option maxHeartbeats 4000000 in
set_option maxRecDepth 100000 in
theorem qM_thrown (l : Launch) (D : va_G) (ad : Nat → Nat)  (σ : MS) (sz : Nat) : Met l yM_thrown wsM_thrown rmM_thrown (va_Pc [.ref (ad 0)] (mw_B D ad σ sz)) (va_Qi (fun r u => (r, u) = fM_thrown σ) (mw_E D ad (va_A (mw_c ad σ) sz)) (va_A (mw_c ad σ) sz)) 0 0 (va_A (mw_c ad σ) sz) := by
  refine Met.ofW (cc := cM_thrown) (maxL := 1) (ret := (some .int)) (by decide) rfl ?_
  intro p e s m args below meth c s₁ B hml hv
  obtain ⟨rfl, hsz, hP, hK, hD⟩ := hv
  have hts0 := atoms_spec (ws := wsM_thrown) B.pre
  have hts := fun (w : Cond) (h : w ∈ aw) => hts0 w (List.mem_cons_of_mem _ h)
  have hown : s.vm.findClass "BitNumbersModel" = some m.cls := findClass_of_methodNamed B.named
  subst hsz
  have hl := lv_entry ([.ref (ad 0)]) (n := 1) (Nat.le_of_ble_eq_true rfl)
  rw [lg_entry_eq]
  generalize (lg_sl ([.ref (ad 0)]) ++ List.replicate (1 - (lg_sl ([.ref (ad 0)])).length) Slot.unset).toArray = ls at hl ⊢
  exact kM_thrown_0 ⟨B.exec, B.bytes, B.returns, hml, hown, hts, B.notSynchronized⟩ hK (fun q h => Or.inr h) σ ⟨hP, hD.self, va_S.rf⟩ hl

set_option maxHeartbeats 4000000 in
set_option maxRecDepth 100000 in
theorem kM_quotient_118 {p : Program} {l : Launch} {e : Env} {s : State} {m : MethodId} {args : Array Value} {below : List Frame} {meth : Method} {c : Code} (C : pw_C p s m args meth c cM_quotient 15 (some .long) "BitNumbersModel") {D : va_G} {ad : Nat → Nat} {A : Nat → Prop} (hK : va_K D clM (tyA ad) s) (hA : ∀ q, s.heap.size ≤ q → A q) (a8 : Int32) (a9 : Int64) (s0 : Int32) (σ : MS) (hz8 : a8 = 0 ∨ a8 = 1) {H : Heap} {locs : List Loc} (hM : mw D ad A s.heap H locs σ) {ls : Array Slot} (hl : lv_has ls 15 [(8, .int a8), (9, .long a9)]) : W p l e rmM_quotient s m args below meth c H locs 0 0 (MQ below (va_Ql (fun r u => (r, u) = fM_quotient_118 a8 a9 s0 σ) (mw_E D ad A) A) args s 0 0 A) (F0 m 118 ls [.int s0, .ref (ad 0)]) := by
  obtain ⟨hx, hb, hr, hml, hown, hts, hlocks⟩ := id C
  refine mw_put (v := .int s0) (ty := .int) (σ' := ms_set_trap σ s0) hx hb hts hown hK hM 1 (by decide) (hts _ w_488) rfl (by decide +kernel) rfl rfl (mw_pt_trap _ _ _) dM_quotient_118 (fun H locs hM => ?_)
  refine lv_iload hx hb dM_quotient_121 (lv_at hl 0 rfl) ?_
  refine lv_if_eq (tgt := 130) hx hb dM_quotient_123 (by decide) (fun h1 => ?_) (fun h1 => ?_)
  · refine lv_lload hx hb dM_quotient_130 (lv_at hl 1 rfl) ?_
    refine lv_lneg hx hb dM_quotient_132 ?_
    exact W.lret (v := -a9) hx hb hr (fun t ht hW => ⟨⟨-a9, ms_set_trap σ s0, rfl, by rw [(show fM_quotient_118 a8 a9 s0 σ = (-a9, ms_set_trap σ s0) by rw [fM_quotient_118, if_pos h1])], by rw [ht]; exact hM.1, va_K.moved hW.alike hK, hM.2.1⟩, hM.2.2.F ht⟩) hM.2.2.2.2 dM_quotient_133
  · refine lv_lconst (v := 0) hx hb dM_quotient_126 (by decide) ?_
    refine lv_goto (tgt := 133) hx hb dM_quotient_127 (by decide) ?_
    exact W.lret (v := 0) hx hb hr (fun t ht hW => ⟨⟨0, ms_set_trap σ s0, rfl, by rw [(show fM_quotient_118 a8 a9 s0 σ = (0, ms_set_trap σ s0) by rw [fM_quotient_118, if_neg h1])], by rw [ht]; exact hM.1, va_K.moved hW.alike hK, hM.2.1⟩, hM.2.2.F ht⟩) hM.2.2.2.2 dM_quotient_133
set_option maxHeartbeats 4000000 in
set_option maxRecDepth 100000 in
theorem kM_quotient_117 {p : Program} {l : Launch} {e : Env} {s : State} {m : MethodId} {args : Array Value} {below : List Frame} {meth : Method} {c : Code} (C : pw_C p s m args meth c cM_quotient 15 (some .long) "BitNumbersModel") {D : va_G} {ad : Nat → Nat} {A : Nat → Prop} (hK : va_K D clM (tyA ad) s) (hA : ∀ q, s.heap.size ≤ q → A q) (a8 : Int32) (a9 : Int64) (σ : MS) (hz8 : a8 = 0 ∨ a8 = 1) {H : Heap} {locs : List Loc} (hM : mw D ad A s.heap H locs σ) {ls : Array Slot} (hl : lv_has ls 15 [(8, .int a8), (9, .long a9)]) : W p l e rmM_quotient s m args below meth c H locs 0 0 (MQ below (va_Ql (fun r u => (r, u) = fM_quotient_117 a8 a9 σ) (mw_E D ad A) A) args s 0 0 A) (F0 m 117 ls [.ref (ad 0)]) := by
  obtain ⟨hx, hb, hr, hml, hown, hts, hlocks⟩ := id C
  refine lv_iconst (v := 0) hx hb dM_quotient_117 (by decide) ?_
  rw [(show fM_quotient_117 a8 a9 σ = fM_quotient_118 a8 a9 0 σ by rw [fM_quotient_117])]
  exact kM_quotient_118 C hK hA a8 a9 0 σ hz8 hM (lv_sub hl [0, 1] rfl)
set_option maxHeartbeats 4000000 in
set_option maxRecDepth 100000 in
theorem kM_quotient_88 {p : Program} {l : Launch} {e : Env} {s : State} {m : MethodId} {args : Array Value} {below : List Frame} {meth : Method} {c : Code} (C : pw_C p s m args meth c cM_quotient 15 (some .long) "BitNumbersModel") {D : va_G} {ad : Nat → Nat} {A : Nat → Prop} (hK : va_K D clM (tyA ad) s) (hA : ∀ q, s.heap.size ≤ q → A q) (a8 : Int32) (a9 : Int64) (a11 : Int64) (s0 : Int64) (σ : MS) (hz8 : a8 = 0 ∨ a8 = 1) (hp11 : ¬ a11 = 0) {H : Heap} {locs : List Loc} (hM : mw D ad A s.heap H locs σ) {ls : Array Slot} (hl : lv_has ls 15 [(0, .ref (ad 0)), (8, .int a8), (9, .long a9), (11, .long a11)]) : W p l e rmM_quotient s m args below meth c H locs 0 0 (MQ below (va_Ql (fun r u => (r, u) = fM_quotient_88 a8 a9 a11 s0 σ) (mw_E D ad A) A) args s 0 0 A) (F0 m 88 ls [.long s0]) := by
  obtain ⟨hx, hb, hr, hml, hown, hts, hlocks⟩ := id C
  refine lv_lstore (lv' := [(13, .long s0), (0, .ref (ad 0)), (8, .int a8), (9, .long a9), (11, .long a11)]) hx hb dM_quotient_88 hl (by decide) rfl (fun ls hl => ?_)
  refine lv_lload hx hb dM_quotient_90 (lv_at hl 4 rfl) ?_
  refine lv_ldc2 hx hb hown (hts _ w_643) dM_quotient_92 ?_
  refine W.lcmp hx hb dM_quotient_95 ?_
  refine lv_if_ne (tgt := 134) hx hb dM_quotient_96 (by decide) (fun h1 => ?_) (fun h1 => ?_)
  · have h1 : ¬ (a11 = (-1)) := fun w => h1 ((lg_cmp_eq _ _).mpr w)
    refine lv_iload hx hb dM_quotient_134 (lv_at hl 2 rfl) ?_
    refine lv_if_eq (tgt := 147) hx hb dM_quotient_136 (by decide) (fun h2 => ?_) (fun h2 => ?_)
    · refine lv_lload hx hb dM_quotient_147 (lv_at hl 3 rfl) ?_
      refine lv_lload hx hb dM_quotient_149 (lv_at hl 4 rfl) ?_
      refine lv_ldiv hx hb dM_quotient_151 hp11 ?_
      exact W.lret (v := a9 / a11) hx hb hr (fun t ht hW => ⟨⟨a9 / a11, σ, rfl, by rw [(show fM_quotient_88 a8 a9 a11 s0 σ = (a9 / a11, σ) by rw [fM_quotient_88, if_neg h1, if_pos h2])], by rw [ht]; exact hM.1, va_K.moved hW.alike hK, hM.2.1⟩, hM.2.2.F ht⟩) hM.2.2.2.2 dM_quotient_152
    · refine lv_lload hx hb dM_quotient_139 (lv_at hl 3 rfl) ?_
      refine lv_lload hx hb dM_quotient_141 (lv_at hl 4 rfl) ?_
      refine lv_lrem hx hb dM_quotient_143 hp11 ?_
      refine lv_goto (tgt := 152) hx hb dM_quotient_144 (by decide) ?_
      exact W.lret (v := a9 - a9 / a11 * a11) hx hb hr (fun t ht hW => ⟨⟨a9 - a9 / a11 * a11, σ, rfl, by rw [(show fM_quotient_88 a8 a9 a11 s0 σ = (a9 - a9 / a11 * a11, σ) by rw [fM_quotient_88, if_neg h1, if_neg h2])], by rw [ht]; exact hM.1, va_K.moved hW.alike hK, hM.2.1⟩, hM.2.2.F ht⟩) hM.2.2.2.2 dM_quotient_152
  · have h1 : a11 = (-1) := (lg_cmp_eq _ _).mp h1
    refine lv_aload_n hx hb dM_quotient_99 rfl (lv_at hl 1 rfl) ?_
    refine lv_lload hx hb dM_quotient_100 (lv_at hl 3 rfl) ?_
    refine lv_lload hx hb dM_quotient_102 (lv_at hl 0 rfl) ?_
    refine W.lcmp hx hb dM_quotient_104 ?_
    refine lv_if_ne (tgt := 117) hx hb dM_quotient_105 (by decide) (fun h3 => ?_) (fun h3 => ?_)
    · have h3 : ¬ (a9 = s0) := fun w => h3 ((lg_cmp_eq _ _).mpr w)
      rw [(show fM_quotient_88 a8 a9 a11 s0 σ = fM_quotient_117 a8 a9 σ by rw [fM_quotient_88, if_pos h1, if_neg h3])]
      exact kM_quotient_117 C hK hA a8 a9 σ hz8 hM (lv_sub hl [2, 3] rfl)
    · have h3 : a9 = s0 := (lg_cmp_eq _ _).mp h3
      refine lv_iload hx hb dM_quotient_108 (lv_at hl 2 rfl) ?_
      refine lv_if_ne (tgt := 117) hx hb dM_quotient_110 (by decide) (fun h4 => ?_) (fun h4 => ?_)
      · rw [(show fM_quotient_88 a8 a9 a11 s0 σ = fM_quotient_117 a8 a9 σ by rw [fM_quotient_88, if_pos h1, if_pos h3, if_neg h4])]
        exact kM_quotient_117 C hK hA a8 a9 σ hz8 hM (lv_sub hl [2, 3] rfl)
      · refine lv_iconst (v := 2) hx hb dM_quotient_113 (by decide) ?_
        refine lv_goto (tgt := 118) hx hb dM_quotient_114 (by decide) ?_
        rw [(show fM_quotient_88 a8 a9 a11 s0 σ = fM_quotient_118 a8 a9 2 σ by rw [fM_quotient_88, if_pos h1, if_pos h3, if_pos h4])]
        exact kM_quotient_118 C hK hA a8 a9 2 σ hz8 hM (lv_sub hl [2, 3] rfl)
set_option maxHeartbeats 4000000 in
set_option maxRecDepth 100000 in
theorem kM_quotient_75 {p : Program} {l : Launch} {e : Env} {s : State} {m : MethodId} {args : Array Value} {below : List Frame} {meth : Method} {c : Code} (C : pw_C p s m args meth c cM_quotient 15 (some .long) "BitNumbersModel") {D : va_G} {ad : Nat → Nat} {A : Nat → Prop} (hK : va_K D clM (tyA ad) s) (hA : ∀ q, s.heap.size ≤ q → A q) (a2 : Int32) (a8 : Int32) (a9 : Int64) (a11 : Int64) (σ : MS) (hz8 : a8 = 0 ∨ a8 = 1) (hp11 : ¬ a11 = 0) {H : Heap} {locs : List Loc} (hM : mw D ad A s.heap H locs σ) {ls : Array Slot} (hl : lv_has ls 15 [(0, .ref (ad 0)), (2, .int a2), (8, .int a8), (9, .long a9), (11, .long a11)]) : W p l e rmM_quotient s m args below meth c H locs 0 0 (MQ below (va_Ql (fun r u => (r, u) = fM_quotient_75 a2 a8 a9 a11 σ) (mw_E D ad A) A) args s 0 0 A) (F0 m 75 ls []) := by
  obtain ⟨hx, hb, hr, hml, hown, hts, hlocks⟩ := id C
  refine lv_iload_n hx hb dM_quotient_75 rfl (lv_at hl 1 rfl) ?_
  refine lv_if_ne (tgt := 85) hx hb dM_quotient_76 (by decide) (fun h1 => ?_) (fun h1 => ?_)
  · refine lv_ldc2 hx hb hown (hts _ w_578) dM_quotient_85 ?_
    rw [(show fM_quotient_75 a2 a8 a9 a11 σ = fM_quotient_88 a8 a9 a11 (-9223372036854775808) σ by rw [fM_quotient_75, if_neg h1])]
    exact kM_quotient_88 C hK hA a8 a9 a11 (-9223372036854775808) σ hz8 hp11 hM (lv_sub hl [0, 2, 3, 4] rfl)
  · refine lv_ldc2 hx hb hown (hts _ w_642) dM_quotient_79 ?_
    refine lv_goto (tgt := 88) hx hb dM_quotient_82 (by decide) ?_
    rw [(show fM_quotient_75 a2 a8 a9 a11 σ = fM_quotient_88 a8 a9 a11 (-2147483648) σ by rw [fM_quotient_75, if_pos h1])]
    exact kM_quotient_88 C hK hA a8 a9 a11 (-2147483648) σ hz8 hp11 hM (lv_sub hl [0, 2, 3, 4] rfl)
set_option maxHeartbeats 4000000 in
set_option maxRecDepth 100000 in
theorem kM_quotient_67 {p : Program} {l : Launch} {e : Env} {s : State} {m : MethodId} {args : Array Value} {below : List Frame} {meth : Method} {c : Code} (C : pw_C p s m args meth c cM_quotient 15 (some .long) "BitNumbersModel") {D : va_G} {ad : Nat → Nat} {A : Nat → Prop} (hK : va_K D clM (tyA ad) s) (hA : ∀ q, s.heap.size ≤ q → A q) (a2 : Int32) (a5 : Int64) (a8 : Int32) (a9 : Int64) (σ : MS) (hz8 : a8 = 0 ∨ a8 = 1) (hy : fM_withSign a2 a5 ≠ 0 ∨ a5 = 0) (h0 : ¬ a5 = 0) {H : Heap} {locs : List Loc} (hM : mw D ad A s.heap H locs σ) {ls : Array Slot} (hl : lv_has ls 15 [(0, .ref (ad 0)), (2, .int a2), (5, .long a5), (8, .int a8), (9, .long a9)]) : W p l e rmM_quotient s m args below meth c H locs 0 0 (MQ below (va_Ql (fun r u => (r, u) = fM_quotient_67 a2 a5 a8 a9 σ) (mw_E D ad A) A) args s 0 0 A) (F0 m 67 ls []) := by
  obtain ⟨hx, hb, hr, hml, hown, hts, hlocks⟩ := id C
  refine lv_iload_n hx hb dM_quotient_67 rfl (lv_at hl 1 rfl) ?_
  refine lv_lload hx hb dM_quotient_68 (lv_at hl 2 rfl) ?_
  refine pw_call (va_runS (As := [.int a2, .long a5]) (rest := []) ⟨hx, hb, hml, hown, hts⟩ (qM_withSign l a2 a5) (va_cwS 2 hts (gS w_572 w_573 w_34 w_574) rfl rfl rfl (by decide +kernel) ⟨Nat.le_of_ble_eq_true rfl, Nat.le_of_ble_eq_true rfl⟩) ⟨pw_bT, fun U hU hW => ⟨rfl, trivial⟩⟩ rfl rfl hl.1 rfl (lv_room (Nat.le_of_ble_eq_true rfl)) dM_quotient_70 ⟨Nat.zero_le _, Nat.zero_le _⟩) ?_
  refine lv_lstore (lv' := [(11, .long (fM_withSign a2 a5)), (0, .ref (ad 0)), (2, .int a2), (5, .long a5), (8, .int a8), (9, .long a9)]) hx hb dM_quotient_73 hl (by decide) rfl (fun ls hl => ?_)
  rw [(show fM_quotient_67 a2 a5 a8 a9 σ = fM_quotient_75 a2 a8 a9 (fM_withSign a2 a5) σ by rw [fM_quotient_67])]
  exact kM_quotient_75 C hK hA a2 a8 a9 (fM_withSign a2 a5) σ hz8 (hy.resolve_right h0) hM (lv_sub hl [1, 2, 4, 5, 0] rfl)
set_option maxHeartbeats 4000000 in
set_option maxRecDepth 100000 in
theorem kM_quotient_30 {p : Program} {l : Launch} {e : Env} {s : State} {m : MethodId} {args : Array Value} {below : List Frame} {meth : Method} {c : Code} (C : pw_C p s m args meth c cM_quotient 15 (some .long) "BitNumbersModel") {D : va_G} {ad : Nat → Nat} {A : Nat → Prop} (hK : va_K D clM (tyA ad) s) (hA : ∀ q, s.heap.size ≤ q → A q) (a2 : Int32) (a3 : Int64) (a5 : Int64) (a7 : Int32) (s0 : Int32) (σ : MS) (hz7 : a7 = 0 ∨ a7 = 1) (hzs0 : s0 = 0 ∨ s0 = 1) (hy : fM_withSign a2 a5 ≠ 0 ∨ a5 = 0) {H : Heap} {locs : List Loc} (hM : mw D ad A s.heap H locs σ) {ls : Array Slot} (hl : lv_has ls 15 [(0, .ref (ad 0)), (2, .int a2), (3, .long a3), (5, .long a5), (7, .int a7)]) : W p l e rmM_quotient s m args below meth c H locs 0 0 (MQ below (va_Ql (fun r u => (r, u) = fM_quotient_30 a2 a3 a5 a7 s0 σ) (mw_E D ad A) A) args s 0 0 A) (F0 m 30 ls [.int s0]) := by
  obtain ⟨hx, hb, hr, hml, hown, hts, hlocks⟩ := id C
  refine lv_istore (lv' := [(8, .int s0), (0, .ref (ad 0)), (2, .int a2), (3, .long a3), (5, .long a5), (7, .int a7)]) hx hb dM_quotient_30 hl (by decide) rfl (fun ls hl => ?_)
  refine lv_lload hx hb dM_quotient_32 (lv_at hl 4 rfl) ?_
  refine lv_lconst (v := 0) hx hb dM_quotient_34 (by decide) ?_
  refine W.lcmp hx hb dM_quotient_35 ?_
  refine lv_if_ne (tgt := 46) hx hb dM_quotient_36 (by decide) (fun h1 => ?_) (fun h1 => ?_)
  · have h1 : ¬ (a5 = 0) := fun w => h1 ((lg_cmp_eq _ _).mpr w)
    refine lv_iload hx hb dM_quotient_46 (lv_at hl 5 rfl) ?_
    refine lv_if_ne (tgt := 60) hx hb dM_quotient_48 (by decide) (fun h2 => ?_) (fun h2 => ?_)
    · refine lv_iload_n hx hb dM_quotient_60 rfl (lv_at hl 2 rfl) ?_
      refine lv_lload_n hx hb dM_quotient_61 rfl (lv_at hl 3 rfl) ?_
      refine pw_call (va_runS (As := [.int a2, .long a3]) (rest := []) ⟨hx, hb, hml, hown, hts⟩ (qM_withSign l a2 a3) (va_cwS 2 hts (gS w_572 w_573 w_34 w_574) rfl rfl rfl (by decide +kernel) ⟨Nat.le_of_ble_eq_true rfl, Nat.le_of_ble_eq_true rfl⟩) ⟨pw_bT, fun U hU hW => ⟨rfl, trivial⟩⟩ rfl rfl hl.1 rfl (lv_room (Nat.le_of_ble_eq_true rfl)) dM_quotient_62 ⟨Nat.zero_le _, Nat.zero_le _⟩) ?_
      refine lv_lstore (lv' := [(9, .long (fM_withSign a2 a3)), (8, .int s0), (0, .ref (ad 0)), (2, .int a2), (3, .long a3), (5, .long a5), (7, .int a7)]) hx hb dM_quotient_65 hl (by decide) rfl (fun ls hl => ?_)
      rw [(show fM_quotient_30 a2 a3 a5 a7 s0 σ = fM_quotient_67 a2 a5 s0 (fM_withSign a2 a3) σ by rw [fM_quotient_30, if_neg h1, if_neg h2])]
      exact kM_quotient_67 C hK hA a2 a5 s0 (fM_withSign a2 a3) σ hzs0 hy h1 hM (lv_sub hl [2, 3, 5, 1, 0] rfl)
    · refine lv_lload_n hx hb dM_quotient_51 rfl (lv_at hl 3 rfl) ?_
      refine lv_lload hx hb dM_quotient_52 (lv_at hl 4 rfl) ?_
      refine lv_iload hx hb dM_quotient_54 (lv_at hl 0 rfl) ?_
      refine pw_call (va_runS (As := [.long a3, .long a5, .int s0]) (rest := []) ⟨hx, hb, hml, hown, hts⟩ (qM_divide l a3 a5 s0) (va_cwS 3 hts (gS w_638 w_639 w_34 w_640) rfl rfl rfl (by decide +kernel) ⟨Nat.le_of_ble_eq_true rfl, Nat.le_of_ble_eq_true rfl⟩) ⟨pw_bT, fun U hU hW => ⟨rfl, trivial⟩⟩ rfl rfl hl.1 rfl (lv_room (Nat.le_of_ble_eq_true rfl)) dM_quotient_56 ⟨Nat.zero_le _, Nat.zero_le _⟩) ?_
      exact W.lret (v := fM_divide a3 a5 s0) hx hb hr (fun t ht hW => ⟨⟨fM_divide a3 a5 s0, σ, rfl, by rw [(show fM_quotient_30 a2 a3 a5 a7 s0 σ = (fM_divide a3 a5 s0, σ) by rw [fM_quotient_30, if_neg h1, if_pos h2])], by rw [ht]; exact hM.1, va_K.moved hW.alike hK, hM.2.1⟩, hM.2.2.F ht⟩) hM.2.2.2.2 dM_quotient_59
  · have h1 : a5 = 0 := (lg_cmp_eq _ _).mp h1
    refine lv_aload_n hx hb dM_quotient_39 rfl (lv_at hl 1 rfl) ?_
    refine lv_iconst (v := 1) hx hb dM_quotient_40 (by decide) ?_
    refine mw_put (v := .int 1) (ty := .int) (σ' := ms_set_trap σ 1) hx hb hts hown hK hM 1 (by decide) (hts _ w_488) rfl (by decide +kernel) rfl rfl (mw_pt_trap _ _ _) dM_quotient_41 (fun H locs hM => ?_)
    refine lv_lconst (v := 0) hx hb dM_quotient_44 (by decide) ?_
    exact W.lret (v := 0) hx hb hr (fun t ht hW => ⟨⟨0, ms_set_trap σ 1, rfl, by rw [(show fM_quotient_30 a2 a3 a5 a7 s0 σ = (0, ms_set_trap σ 1) by rw [fM_quotient_30, if_pos h1])], by rw [ht]; exact hM.1, va_K.moved hW.alike hK, hM.2.1⟩, hM.2.2.F ht⟩) hM.2.2.2.2 dM_quotient_45
set_option maxHeartbeats 4000000 in
set_option maxRecDepth 100000 in
theorem kM_quotient_17 {p : Program} {l : Launch} {e : Env} {s : State} {m : MethodId} {args : Array Value} {below : List Frame} {meth : Method} {c : Code} (C : pw_C p s m args meth c cM_quotient 15 (some .long) "BitNumbersModel") {D : va_G} {ad : Nat → Nat} {A : Nat → Prop} (hK : va_K D clM (tyA ad) s) (hA : ∀ q, s.heap.size ≤ q → A q) (a1 : Int32) (a2 : Int32) (a3 : Int64) (a5 : Int64) (s0 : Int32) (σ : MS) (hzs0 : s0 = 0 ∨ s0 = 1) (hy : fM_withSign a2 a5 ≠ 0 ∨ a5 = 0) {H : Heap} {locs : List Loc} (hM : mw D ad A s.heap H locs σ) {ls : Array Slot} (hl : lv_has ls 15 [(0, .ref (ad 0)), (1, .int a1), (2, .int a2), (3, .long a3), (5, .long a5)]) : W p l e rmM_quotient s m args below meth c H locs 0 0 (MQ below (va_Ql (fun r u => (r, u) = fM_quotient_17 a1 a2 a3 a5 s0 σ) (mw_E D ad A) A) args s 0 0 A) (F0 m 17 ls [.int s0]) := by
  obtain ⟨hx, hb, hr, hml, hown, hts, hlocks⟩ := id C
  refine lv_istore (lv' := [(7, .int s0), (0, .ref (ad 0)), (1, .int a1), (2, .int a2), (3, .long a3), (5, .long a5)]) hx hb dM_quotient_17 hl (by decide) rfl (fun ls hl => ?_)
  refine lv_iload_n hx hb dM_quotient_19 rfl (lv_at hl 2 rfl) ?_
  refine lv_bipush (v := 7) hx hb dM_quotient_20 (by decide) ?_
  refine lv_icmp_le (tgt := 29) hx hb dM_quotient_22 (by decide) (fun h1 => ?_) (fun h1 => ?_)
  · refine lv_iconst (v := 0) hx hb dM_quotient_29 (by decide) ?_
    rw [(show fM_quotient_17 a1 a2 a3 a5 s0 σ = fM_quotient_30 a2 a3 a5 s0 0 σ by rw [fM_quotient_17, if_pos h1])]
    exact kM_quotient_30 C hK hA a2 a3 a5 s0 0 σ hzs0 (Or.inl rfl) hy hM (lv_sub hl [1, 3, 4, 5, 0] rfl)
  · refine lv_iconst (v := 1) hx hb dM_quotient_25 (by decide) ?_
    refine lv_goto (tgt := 30) hx hb dM_quotient_26 (by decide) ?_
    rw [(show fM_quotient_17 a1 a2 a3 a5 s0 σ = fM_quotient_30 a2 a3 a5 s0 1 σ by rw [fM_quotient_17, if_neg h1])]
    exact kM_quotient_30 C hK hA a2 a3 a5 s0 1 σ hzs0 (Or.inr rfl) hy hM (lv_sub hl [1, 3, 4, 5, 0] rfl)
set_option maxHeartbeats 4000000 in
set_option maxRecDepth 100000 in
theorem kM_quotient_12 {p : Program} {l : Launch} {e : Env} {s : State} {m : MethodId} {args : Array Value} {below : List Frame} {meth : Method} {c : Code} (C : pw_C p s m args meth c cM_quotient 15 (some .long) "BitNumbersModel") {D : va_G} {ad : Nat → Nat} {A : Nat → Prop} (hK : va_K D clM (tyA ad) s) (hA : ∀ q, s.heap.size ≤ q → A q) (a1 : Int32) (a2 : Int32) (a3 : Int64) (a5 : Int64) (σ : MS) (hy : fM_withSign a2 a5 ≠ 0 ∨ a5 = 0) {H : Heap} {locs : List Loc} (hM : mw D ad A s.heap H locs σ) {ls : Array Slot} (hl : lv_has ls 15 [(0, .ref (ad 0)), (1, .int a1), (2, .int a2), (3, .long a3), (5, .long a5)]) : W p l e rmM_quotient s m args below meth c H locs 0 0 (MQ below (va_Ql (fun r u => (r, u) = fM_quotient_12 a1 a2 a3 a5 σ) (mw_E D ad A) A) args s 0 0 A) (F0 m 12 ls []) := by
  obtain ⟨hx, hb, hr, hml, hown, hts, hlocks⟩ := id C
  refine lv_iconst (v := 1) hx hb dM_quotient_12 (by decide) ?_
  refine lv_goto (tgt := 17) hx hb dM_quotient_13 (by decide) ?_
  rw [(show fM_quotient_12 a1 a2 a3 a5 σ = fM_quotient_17 a1 a2 a3 a5 1 σ by rw [fM_quotient_12])]
  exact kM_quotient_17 C hK hA a1 a2 a3 a5 1 σ (Or.inr rfl) hy hM (lv_sub hl [0, 1, 2, 3, 4] rfl)
set_option maxHeartbeats 4000000 in
set_option maxRecDepth 100000 in
theorem kM_quotient_0 {p : Program} {l : Launch} {e : Env} {s : State} {m : MethodId} {args : Array Value} {below : List Frame} {meth : Method} {c : Code} (C : pw_C p s m args meth c cM_quotient 15 (some .long) "BitNumbersModel") {D : va_G} {ad : Nat → Nat} {A : Nat → Prop} (hK : va_K D clM (tyA ad) s) (hA : ∀ q, s.heap.size ≤ q → A q) (a1 : Int32) (a2 : Int32) (a3 : Int64) (a5 : Int64) (σ : MS) (hy : fM_withSign a2 a5 ≠ 0 ∨ a5 = 0) {H : Heap} {locs : List Loc} (hM : mw D ad A s.heap H locs σ) {ls : Array Slot} (hl : lv_has ls 15 [(0, .ref (ad 0)), (1, .int a1), (2, .int a2), (3, .long a3), (5, .long a5)]) : W p l e rmM_quotient s m args below meth c H locs 0 0 (MQ below (va_Ql (fun r u => (r, u) = fM_quotient a1 a2 a3 a5 σ) (mw_E D ad A) A) args s 0 0 A) (F0 m 0 ls []) := by
  obtain ⟨hx, hb, hr, hml, hown, hts, hlocks⟩ := id C
  refine lv_iload_n hx hb dM_quotient_0 rfl (lv_at hl 1 rfl) ?_
  refine lv_bipush (v := 6) hx hb dM_quotient_1 (by decide) ?_
  refine lv_icmp_eq (tgt := 12) hx hb dM_quotient_3 (by decide) (fun h1 => ?_) (fun h1 => ?_)
  · rw [(show fM_quotient a1 a2 a3 a5 σ = fM_quotient_12 a1 a2 a3 a5 σ by rw [fM_quotient, if_pos h1])]
    exact kM_quotient_12 C hK hA a1 a2 a3 a5 σ hy hM (lv_sub hl [0, 1, 2, 3, 4] rfl)
  · refine lv_iload_n hx hb dM_quotient_6 rfl (lv_at hl 1 rfl) ?_
    refine lv_bipush (v := 8) hx hb dM_quotient_7 (by decide) ?_
    refine lv_icmp_ne (tgt := 16) hx hb dM_quotient_9 (by decide) (fun h2 => ?_) (fun h2 => ?_)
    · refine lv_iconst (v := 0) hx hb dM_quotient_16 (by decide) ?_
      rw [(show fM_quotient a1 a2 a3 a5 σ = fM_quotient_17 a1 a2 a3 a5 0 σ by rw [fM_quotient, if_neg h1, if_neg h2])]
      exact kM_quotient_17 C hK hA a1 a2 a3 a5 0 σ (Or.inl rfl) hy hM (lv_sub hl [0, 1, 2, 3, 4] rfl)
    · rw [(show fM_quotient a1 a2 a3 a5 σ = fM_quotient_12 a1 a2 a3 a5 σ by rw [fM_quotient, if_neg h1, if_pos h2])]
      exact kM_quotient_12 C hK hA a1 a2 a3 a5 σ hy hM (lv_sub hl [0, 1, 2, 3, 4] rfl)
set_option maxHeartbeats 4000000 in
set_option maxRecDepth 100000 in
theorem qM_quotient (l : Launch) (D : va_G) (ad : Nat → Nat) (a1 : Int32) (a2 : Int32) (a3 : Int64) (a5 : Int64) (σ : MS) (sz : Nat) (hy : fM_withSign a2 a5 ≠ 0 ∨ a5 = 0) : Met l yM_quotient wsM_quotient rmM_quotient (va_Pc [.ref (ad 0), .int a1, .int a2, .long a3, .long a5] (mw_B D ad σ sz)) (va_Ql (fun r u => (r, u) = fM_quotient a1 a2 a3 a5 σ) (mw_E D ad (va_A (mw_c ad σ) sz)) (va_A (mw_c ad σ) sz)) 0 0 (va_A (mw_c ad σ) sz) := by
  refine Met.ofW (cc := cM_quotient) (maxL := 15) (ret := (some .long)) (by decide) rfl ?_
  intro p e s m args below meth c s₁ B hml hv
  obtain ⟨rfl, hsz, hP, hK, hD⟩ := hv
  have hts0 := atoms_spec (ws := wsM_quotient) B.pre
  have hts := fun (w : Cond) (h : w ∈ aw) => hts0 w (List.mem_cons_of_mem _ h)
  have hown : s.vm.findClass "BitNumbersModel" = some m.cls := findClass_of_methodNamed B.named
  subst hsz
  have hl := lv_entry ([.ref (ad 0), .int a1, .int a2, .long a3, .long a5]) (n := 15) (Nat.le_of_ble_eq_true rfl)
  rw [lg_entry_eq]
  generalize (lg_sl ([.ref (ad 0), .int a1, .int a2, .long a3, .long a5]) ++ List.replicate (15 - (lg_sl ([.ref (ad 0), .int a1, .int a2, .long a3, .long a5])).length) Slot.unset).toArray = ls at hl ⊢
  exact kM_quotient_0 ⟨B.exec, B.bytes, B.returns, hml, hown, hts, B.notSynchronized⟩ hK (fun q h => Or.inr h) a1 a2 a3 a5 σ hy ⟨hP, hD.self, va_S.rf⟩ hl

set_option maxHeartbeats 4000000 in
set_option maxRecDepth 100000 in
theorem kM_whole_16 {p : Program} {l : Launch} {e : Env} {s : State} {m : MethodId} {args : Array Value} {below : List Frame} {meth : Method} {c : Code} (C : pw_C p s m args meth c cM_whole 10 (some .long) "BitNumbersModel") {D : va_G} {ad : Nat → Nat} {A : Nat → Prop} (hK : va_K D clM (tyA ad) s) (hA : ∀ q, s.heap.size ≤ q → A q) (a1 : Int32) (a2 : Int32) (a3 : Int64) (a5 : Int64) (a7 : Int32) (a8 : Int64) (σ : MS) (hp7 : a7 ≤ 64) (hy : fM_withSign a2 a5 ≠ 0 ∨ a5 = 0) {H : Heap} {locs : List Loc} (hM : mw D ad A s.heap H locs σ) {ls : Array Slot} (hl : lv_has ls 10 [(0, .ref (ad 0)), (1, .int a1), (2, .int a2), (3, .long a3), (5, .long a5), (7, .int a7), (8, .long a8)]) : W p l e rmM_whole s m args below meth c H locs 0 0 (MQ below (va_Ql (fun r u => (r, u) = fM_whole_16 a1 a2 a3 a5 a7 a8 σ) (mw_E D ad A) A) args s 0 0 A) (F0 m 16 ls []) := by
  obtain ⟨hx, hb, hr, hml, hown, hts, hlocks⟩ := id C
  refine lv_iload_n hx hb dM_whole_16 rfl (lv_at hl 1 rfl) ?_
  by_cases h1 : a1 = 0
  · refine lv_tableIn (tgt := 104) hx hb dM_whole_17 (by rw [h1]; decide) (by rw [h1]; decide) (off := 87) (by rw [h1]; rfl) (by decide) ?_
    refine lv_iload hx hb dM_whole_104 (lv_at hl 5 rfl) ?_
    refine lv_lload_n hx hb dM_whole_106 rfl (lv_at hl 3 rfl) ?_
    refine pw_call (va_runS (As := [.int a7, .long a3]) (rest := []) ⟨hx, hb, hml, hown, hts⟩ (qM_zerosAhead l a7 a3 hp7) (va_cwS 2 hts (gS w_622 w_623 w_34 w_624) rfl rfl rfl (by decide +kernel) ⟨Nat.le_of_ble_eq_true rfl, Nat.le_of_ble_eq_true rfl⟩) ⟨pw_bT, fun U hU hW => ⟨rfl, trivial⟩⟩ rfl rfl hl.1 rfl (lv_room (Nat.le_of_ble_eq_true rfl)) dM_whole_107 ⟨Nat.zero_le _, Nat.zero_le _⟩) ?_
    exact W.lret (v := fM_zerosAhead a7 a3) hx hb hr (fun t ht hW => ⟨⟨fM_zerosAhead a7 a3, σ, rfl, by rw [(show fM_whole_16 a1 a2 a3 a5 a7 a8 σ = (fM_zerosAhead a7 a3, σ) by rw [fM_whole_16, if_pos h1])], by rw [ht]; exact hM.1, va_K.moved hW.alike hK, hM.2.1⟩, hM.2.2.F ht⟩) hM.2.2.2.2 dM_whole_110
  by_cases h2 : a1 = 1
  · refine lv_tableIn (tgt := 111) hx hb dM_whole_17 (by rw [h2]; decide) (by rw [h2]; decide) (off := 94) (by rw [h2]; rfl) (by decide) ?_
    refine lv_iload hx hb dM_whole_111 (lv_at hl 5 rfl) ?_
    refine lv_lload_n hx hb dM_whole_113 rfl (lv_at hl 3 rfl) ?_
    refine pw_call (va_runS (As := [.int a7, .long a3]) (rest := []) ⟨hx, hb, hml, hown, hts⟩ (qM_zerosBehind l a7 a3 hp7) (va_cwS 2 hts (gS w_625 w_626 w_34 w_627) rfl rfl rfl (by decide +kernel) ⟨Nat.le_of_ble_eq_true rfl, Nat.le_of_ble_eq_true rfl⟩) ⟨pw_bT, fun U hU hW => ⟨rfl, trivial⟩⟩ rfl rfl hl.1 rfl (lv_room (Nat.le_of_ble_eq_true rfl)) dM_whole_114 ⟨Nat.zero_le _, Nat.zero_le _⟩) ?_
    exact W.lret (v := fM_zerosBehind a7 a3) hx hb hr (fun t ht hW => ⟨⟨fM_zerosBehind a7 a3, σ, rfl, by rw [(show fM_whole_16 a1 a2 a3 a5 a7 a8 σ = (fM_zerosBehind a7 a3, σ) by rw [fM_whole_16, if_neg h1, if_pos h2])], by rw [ht]; exact hM.1, va_K.moved hW.alike hK, hM.2.1⟩, hM.2.2.F ht⟩) hM.2.2.2.2 dM_whole_117
  by_cases h3 : a1 = 2
  · refine lv_tableIn (tgt := 118) hx hb dM_whole_17 (by rw [h3]; decide) (by rw [h3]; decide) (off := 101) (by rw [h3]; rfl) (by decide) ?_
    refine lv_iload hx hb dM_whole_118 (lv_at hl 5 rfl) ?_
    refine lv_lload_n hx hb dM_whole_120 rfl (lv_at hl 3 rfl) ?_
    refine pw_call (va_runS (As := [.int a7, .long a3]) (rest := []) ⟨hx, hb, hml, hown, hts⟩ (qM_ones l a7 a3 hp7) (va_cwS 2 hts (gS w_628 w_629 w_34 w_630) rfl rfl rfl (by decide +kernel) ⟨Nat.le_of_ble_eq_true rfl, Nat.le_of_ble_eq_true rfl⟩) ⟨pw_bT, fun U hU hW => ⟨rfl, trivial⟩⟩ rfl rfl hl.1 rfl (lv_room (Nat.le_of_ble_eq_true rfl)) dM_whole_121 ⟨Nat.zero_le _, Nat.zero_le _⟩) ?_
    exact W.lret (v := fM_ones a7 a3) hx hb hr (fun t ht hW => ⟨⟨fM_ones a7 a3, σ, rfl, by rw [(show fM_whole_16 a1 a2 a3 a5 a7 a8 σ = (fM_ones a7 a3, σ) by rw [fM_whole_16, if_neg h1, if_neg h2, if_pos h3])], by rw [ht]; exact hM.1, va_K.moved hW.alike hK, hM.2.1⟩, hM.2.2.F ht⟩) hM.2.2.2.2 dM_whole_124
  by_cases h4 : a1 = 3
  · refine lv_tableIn (tgt := 125) hx hb dM_whole_17 (by rw [h4]; decide) (by rw [h4]; decide) (off := 108) (by rw [h4]; rfl) (by decide) ?_
    refine lv_lload_n hx hb dM_whole_125 rfl (lv_at hl 3 rfl) ?_
    refine lv_lload hx hb dM_whole_126 (lv_at hl 4 rfl) ?_
    refine lv_ladd hx hb dM_whole_128 ?_
    exact W.lret (v := a3 + a5) hx hb hr (fun t ht hW => ⟨⟨a3 + a5, σ, rfl, by rw [(show fM_whole_16 a1 a2 a3 a5 a7 a8 σ = (a3 + a5, σ) by rw [fM_whole_16, if_neg h1, if_neg h2, if_neg h3, if_pos h4])], by rw [ht]; exact hM.1, va_K.moved hW.alike hK, hM.2.1⟩, hM.2.2.F ht⟩) hM.2.2.2.2 dM_whole_129
  by_cases h5 : a1 = 4
  · refine lv_tableIn (tgt := 130) hx hb dM_whole_17 (by rw [h5]; decide) (by rw [h5]; decide) (off := 113) (by rw [h5]; rfl) (by decide) ?_
    refine lv_lload_n hx hb dM_whole_130 rfl (lv_at hl 3 rfl) ?_
    refine lv_lload hx hb dM_whole_131 (lv_at hl 4 rfl) ?_
    refine lv_lsub hx hb dM_whole_133 ?_
    exact W.lret (v := a3 - a5) hx hb hr (fun t ht hW => ⟨⟨a3 - a5, σ, rfl, by rw [(show fM_whole_16 a1 a2 a3 a5 a7 a8 σ = (a3 - a5, σ) by rw [fM_whole_16, if_neg h1, if_neg h2, if_neg h3, if_neg h4, if_pos h5])], by rw [ht]; exact hM.1, va_K.moved hW.alike hK, hM.2.1⟩, hM.2.2.F ht⟩) hM.2.2.2.2 dM_whole_134
  by_cases h6 : a1 = 5
  · refine lv_tableIn (tgt := 135) hx hb dM_whole_17 (by rw [h6]; decide) (by rw [h6]; decide) (off := 118) (by rw [h6]; rfl) (by decide) ?_
    refine lv_lload_n hx hb dM_whole_135 rfl (lv_at hl 3 rfl) ?_
    refine lv_lload hx hb dM_whole_136 (lv_at hl 4 rfl) ?_
    refine lv_lmul hx hb dM_whole_138 ?_
    exact W.lret (v := a3 * a5) hx hb hr (fun t ht hW => ⟨⟨a3 * a5, σ, rfl, by rw [(show fM_whole_16 a1 a2 a3 a5 a7 a8 σ = (a3 * a5, σ) by rw [fM_whole_16, if_neg h1, if_neg h2, if_neg h3, if_neg h4, if_neg h5, if_pos h6])], by rw [ht]; exact hM.1, va_K.moved hW.alike hK, hM.2.1⟩, hM.2.2.F ht⟩) hM.2.2.2.2 dM_whole_139
  by_cases h7 : a1 = 10
  · refine lv_tableIn (tgt := 140) hx hb dM_whole_17 (by rw [h7]; decide) (by rw [h7]; decide) (off := 123) (by rw [h7]; rfl) (by decide) ?_
    refine lv_lload_n hx hb dM_whole_140 rfl (lv_at hl 3 rfl) ?_
    refine lv_lload hx hb dM_whole_141 (lv_at hl 4 rfl) ?_
    refine lv_land hx hb dM_whole_143 ?_
    exact W.lret (v := a3 &&& a5) hx hb hr (fun t ht hW => ⟨⟨a3 &&& a5, σ, rfl, by rw [(show fM_whole_16 a1 a2 a3 a5 a7 a8 σ = (a3 &&& a5, σ) by rw [fM_whole_16, if_neg h1, if_neg h2, if_neg h3, if_neg h4, if_neg h5, if_neg h6, if_pos h7])], by rw [ht]; exact hM.1, va_K.moved hW.alike hK, hM.2.1⟩, hM.2.2.F ht⟩) hM.2.2.2.2 dM_whole_144
  by_cases h8 : a1 = 11
  · refine lv_tableIn (tgt := 145) hx hb dM_whole_17 (by rw [h8]; decide) (by rw [h8]; decide) (off := 128) (by rw [h8]; rfl) (by decide) ?_
    refine lv_lload_n hx hb dM_whole_145 rfl (lv_at hl 3 rfl) ?_
    refine lv_lload hx hb dM_whole_146 (lv_at hl 4 rfl) ?_
    refine lv_lor hx hb dM_whole_148 ?_
    exact W.lret (v := a3 ||| a5) hx hb hr (fun t ht hW => ⟨⟨a3 ||| a5, σ, rfl, by rw [(show fM_whole_16 a1 a2 a3 a5 a7 a8 σ = (a3 ||| a5, σ) by rw [fM_whole_16, if_neg h1, if_neg h2, if_neg h3, if_neg h4, if_neg h5, if_neg h6, if_neg h7, if_pos h8])], by rw [ht]; exact hM.1, va_K.moved hW.alike hK, hM.2.1⟩, hM.2.2.F ht⟩) hM.2.2.2.2 dM_whole_149
  by_cases h9 : a1 = 12
  · refine lv_tableIn (tgt := 150) hx hb dM_whole_17 (by rw [h9]; decide) (by rw [h9]; decide) (off := 133) (by rw [h9]; rfl) (by decide) ?_
    refine lv_lload_n hx hb dM_whole_150 rfl (lv_at hl 3 rfl) ?_
    refine lv_lload hx hb dM_whole_151 (lv_at hl 4 rfl) ?_
    refine lv_lxor hx hb dM_whole_153 ?_
    exact W.lret (v := a3 ^^^ a5) hx hb hr (fun t ht hW => ⟨⟨a3 ^^^ a5, σ, rfl, by rw [(show fM_whole_16 a1 a2 a3 a5 a7 a8 σ = (a3 ^^^ a5, σ) by rw [fM_whole_16, if_neg h1, if_neg h2, if_neg h3, if_neg h4, if_neg h5, if_neg h6, if_neg h7, if_neg h8, if_pos h9])], by rw [ht]; exact hM.1, va_K.moved hW.alike hK, hM.2.1⟩, hM.2.2.F ht⟩) hM.2.2.2.2 dM_whole_154
  by_cases h10 : a1 = 13
  · refine lv_tableIn (tgt := 155) hx hb dM_whole_17 (by rw [h10]; decide) (by rw [h10]; decide) (off := 138) (by rw [h10]; rfl) (by decide) ?_
    refine lv_lload_n hx hb dM_whole_155 rfl (lv_at hl 3 rfl) ?_
    refine lv_lload hx hb dM_whole_156 (lv_at hl 6 rfl) ?_
    refine lv_l2i hx hb dM_whole_158 rfl ?_
    refine lv_lshl (v := bn_shl a3 a8.toInt32) hx hb dM_whole_159 rfl ?_
    exact W.lret (v := bn_shl a3 a8.toInt32) hx hb hr (fun t ht hW => ⟨⟨bn_shl a3 a8.toInt32, σ, rfl, by rw [(show fM_whole_16 a1 a2 a3 a5 a7 a8 σ = (bn_shl a3 a8.toInt32, σ) by rw [fM_whole_16, if_neg h1, if_neg h2, if_neg h3, if_neg h4, if_neg h5, if_neg h6, if_neg h7, if_neg h8, if_neg h9, if_pos h10])], by rw [ht]; exact hM.1, va_K.moved hW.alike hK, hM.2.1⟩, hM.2.2.F ht⟩) hM.2.2.2.2 dM_whole_160
  by_cases h11 : a1 = 14
  · refine lv_tableIn (tgt := 161) hx hb dM_whole_17 (by rw [h11]; decide) (by rw [h11]; decide) (off := 144) (by rw [h11]; rfl) (by decide) ?_
    refine lv_iload_n hx hb dM_whole_161 rfl (lv_at hl 2 rfl) ?_
    refine lv_lload_n hx hb dM_whole_162 rfl (lv_at hl 3 rfl) ?_
    refine pw_call (va_runS (As := [.int a2, .long a3]) (rest := []) ⟨hx, hb, hml, hown, hts⟩ (qM_withSign l a2 a3) (va_cwS 2 hts (gS w_572 w_573 w_34 w_574) rfl rfl rfl (by decide +kernel) ⟨Nat.le_of_ble_eq_true rfl, Nat.le_of_ble_eq_true rfl⟩) ⟨pw_bT, fun U hU hW => ⟨rfl, trivial⟩⟩ rfl rfl hl.1 rfl (lv_room (Nat.le_of_ble_eq_true rfl)) dM_whole_163 ⟨Nat.zero_le _, Nat.zero_le _⟩) ?_
    refine lv_lload hx hb dM_whole_166 (lv_at hl 6 rfl) ?_
    refine lv_l2i hx hb dM_whole_168 rfl ?_
    refine lv_lshr (v := bn_sar (fM_withSign a2 a3) a8.toInt32) hx hb dM_whole_169 rfl ?_
    exact W.lret (v := bn_sar (fM_withSign a2 a3) a8.toInt32) hx hb hr (fun t ht hW => ⟨⟨bn_sar (fM_withSign a2 a3) a8.toInt32, σ, rfl, by rw [(show fM_whole_16 a1 a2 a3 a5 a7 a8 σ = (bn_sar (fM_withSign a2 a3) a8.toInt32, σ) by rw [fM_whole_16, if_neg h1, if_neg h2, if_neg h3, if_neg h4, if_neg h5, if_neg h6, if_neg h7, if_neg h8, if_neg h9, if_neg h10, if_pos h11])], by rw [ht]; exact hM.1, va_K.moved hW.alike hK, hM.2.1⟩, hM.2.2.F ht⟩) hM.2.2.2.2 dM_whole_170
  by_cases h12 : a1 = 15
  · refine lv_tableIn (tgt := 171) hx hb dM_whole_17 (by rw [h12]; decide) (by rw [h12]; decide) (off := 154) (by rw [h12]; rfl) (by decide) ?_
    refine lv_lload_n hx hb dM_whole_171 rfl (lv_at hl 3 rfl) ?_
    refine lv_lload hx hb dM_whole_172 (lv_at hl 6 rfl) ?_
    refine lv_l2i hx hb dM_whole_174 rfl ?_
    refine lv_lushr (v := bn_shr a3 a8.toInt32) hx hb dM_whole_175 rfl ?_
    exact W.lret (v := bn_shr a3 a8.toInt32) hx hb hr (fun t ht hW => ⟨⟨bn_shr a3 a8.toInt32, σ, rfl, by rw [(show fM_whole_16 a1 a2 a3 a5 a7 a8 σ = (bn_shr a3 a8.toInt32, σ) by rw [fM_whole_16, if_neg h1, if_neg h2, if_neg h3, if_neg h4, if_neg h5, if_neg h6, if_neg h7, if_neg h8, if_neg h9, if_neg h10, if_neg h11, if_pos h12])], by rw [ht]; exact hM.1, va_K.moved hW.alike hK, hM.2.1⟩, hM.2.2.F ht⟩) hM.2.2.2.2 dM_whole_176
  by_cases h13 : a1 = 16
  · refine lv_tableIn (tgt := 177) hx hb dM_whole_17 (by rw [h13]; decide) (by rw [h13]; decide) (off := 160) (by rw [h13]; rfl) (by decide) ?_
    refine lv_iload hx hb dM_whole_177 (lv_at hl 5 rfl) ?_
    refine lv_lload_n hx hb dM_whole_179 rfl (lv_at hl 3 rfl) ?_
    refine lv_lload hx hb dM_whole_180 (lv_at hl 6 rfl) ?_
    refine pw_call (va_runS (As := [.int a7, .long a3, .long a8]) (rest := []) ⟨hx, hb, hml, hown, hts⟩ (qM_turned l a7 a3 a8) (va_cwS 3 hts (gS w_631 w_632 w_34 w_633) rfl rfl rfl (by decide +kernel) ⟨Nat.le_of_ble_eq_true rfl, Nat.le_of_ble_eq_true rfl⟩) ⟨pw_bT, fun U hU hW => ⟨rfl, trivial⟩⟩ rfl rfl hl.1 rfl (lv_room (Nat.le_of_ble_eq_true rfl)) dM_whole_182 ⟨Nat.zero_le _, Nat.zero_le _⟩) ?_
    exact W.lret (v := fM_turned a7 a3 a8) hx hb hr (fun t ht hW => ⟨⟨fM_turned a7 a3 a8, σ, rfl, by rw [(show fM_whole_16 a1 a2 a3 a5 a7 a8 σ = (fM_turned a7 a3 a8, σ) by rw [fM_whole_16, if_neg h1, if_neg h2, if_neg h3, if_neg h4, if_neg h5, if_neg h6, if_neg h7, if_neg h8, if_neg h9, if_neg h10, if_neg h11, if_neg h12, if_pos h13])], by rw [ht]; exact hM.1, va_K.moved hW.alike hK, hM.2.1⟩, hM.2.2.F ht⟩) hM.2.2.2.2 dM_whole_185
  by_cases h14 : a1 = 17
  · refine lv_tableIn (tgt := 186) hx hb dM_whole_17 (by rw [h14]; decide) (by rw [h14]; decide) (off := 169) (by rw [h14]; rfl) (by decide) ?_
    refine lv_iload hx hb dM_whole_186 (lv_at hl 5 rfl) ?_
    refine lv_lload_n hx hb dM_whole_188 rfl (lv_at hl 3 rfl) ?_
    refine lv_iload hx hb dM_whole_189 (lv_at hl 5 rfl) ?_
    refine lv_i2l hx hb dM_whole_191 rfl ?_
    refine lv_lload hx hb dM_whole_192 (lv_at hl 6 rfl) ?_
    refine lv_lsub hx hb dM_whole_194 ?_
    refine lv_iload hx hb dM_whole_195 (lv_at hl 5 rfl) ?_
    refine lv_iconst (v := 1) hx hb dM_whole_197 (by decide) ?_
    refine lv_isub hx hb dM_whole_198 ?_
    refine lv_i2l hx hb dM_whole_199 rfl ?_
    refine lv_land hx hb dM_whole_200 ?_
    refine pw_call (va_runS (As := [.int a7, .long a3, .long ((a7.toInt64 - a8) &&& ((a7 - 1).toInt64))]) (rest := []) ⟨hx, hb, hml, hown, hts⟩ (qM_turned l a7 a3 ((a7.toInt64 - a8) &&& ((a7 - 1).toInt64))) (va_cwS 3 hts (gS w_631 w_632 w_34 w_633) rfl rfl rfl (by decide +kernel) ⟨Nat.le_of_ble_eq_true rfl, Nat.le_of_ble_eq_true rfl⟩) ⟨pw_bT, fun U hU hW => ⟨rfl, trivial⟩⟩ rfl rfl hl.1 rfl (lv_room (Nat.le_of_ble_eq_true rfl)) dM_whole_201 ⟨Nat.zero_le _, Nat.zero_le _⟩) ?_
    exact W.lret (v := fM_turned a7 a3 ((a7.toInt64 - a8) &&& ((a7 - 1).toInt64))) hx hb hr (fun t ht hW => ⟨⟨fM_turned a7 a3 ((a7.toInt64 - a8) &&& ((a7 - 1).toInt64)), σ, rfl, by rw [(show fM_whole_16 a1 a2 a3 a5 a7 a8 σ = (fM_turned a7 a3 ((a7.toInt64 - a8) &&& ((a7 - 1).toInt64)), σ) by rw [fM_whole_16, if_neg h1, if_neg h2, if_neg h3, if_neg h4, if_neg h5, if_neg h6, if_neg h7, if_neg h8, if_neg h9, if_neg h10, if_neg h11, if_neg h12, if_neg h13, if_pos h14])], by rw [ht]; exact hM.1, va_K.moved hW.alike hK, hM.2.1⟩, hM.2.2.F ht⟩) hM.2.2.2.2 dM_whole_204
  refine pw_tableD (tgt := 205) hx hb dM_whole_17 ?_ (by decide) ?_
  · have th1 := lv_neT h1 (a := 0) (by decide)
    have th2 := lv_neT h2 (a := 1) (by decide)
    have th3 := lv_neT h3 (a := 2) (by decide)
    have th4 := lv_neT h4 (a := 3) (by decide)
    have th5 := lv_neT h5 (a := 4) (by decide)
    have th6 := lv_neT h6 (a := 5) (by decide)
    have th7 := lv_neT h7 (a := 10) (by decide)
    have th8 := lv_neT h8 (a := 11) (by decide)
    have th9 := lv_neT h9 (a := 12) (by decide)
    have th10 := lv_neT h10 (a := 13) (by decide)
    have th11 := lv_neT h11 (a := 14) (by decide)
    have th12 := lv_neT h12 (a := 15) (by decide)
    have th13 := lv_neT h13 (a := 16) (by decide)
    have th14 := lv_neT h14 (a := 17) (by decide)
    by_cases q0 : a1.toInt = 6
    · exact Or.inr (Or.inr (by rw [q0]; rfl))
    by_cases q1 : a1.toInt = 7
    · exact Or.inr (Or.inr (by rw [q1]; rfl))
    by_cases q2 : a1.toInt = 8
    · exact Or.inr (Or.inr (by rw [q2]; rfl))
    by_cases q3 : a1.toInt = 9
    · exact Or.inr (Or.inr (by rw [q3]; rfl))
    exact (show a1.toInt < 0 ∨ 17 < a1.toInt by omega).elim Or.inl (fun q => Or.inr (Or.inl q))
  refine lv_aload_n hx hb dM_whole_205 rfl (lv_at hl 0 rfl) ?_
  refine lv_iload_n hx hb dM_whole_206 rfl (lv_at hl 1 rfl) ?_
  refine lv_iload_n hx hb dM_whole_207 rfl (lv_at hl 2 rfl) ?_
  refine lv_lload_n hx hb dM_whole_208 rfl (lv_at hl 3 rfl) ?_
  refine lv_lload hx hb dM_whole_209 (lv_at hl 4 rfl) ?_
  refine mw_calll (F := fM_quotient a1 a2 a3 a5 σ) (va_runV (As := [.int a1, .int a2, .long a3, .long a5]) (rest := []) ⟨hx, hb, hml, hown, hts⟩ (qM_quotient l D ad a1 a2 a3 a5 σ H.size hy) (cwV 4 hts (gV w_634 w_636 w_6 w_34 w_637) rfl rfl rfl (by decide +kernel) ⟨Nat.le_of_ble_eq_true rfl, Nat.le_of_ble_eq_true rfl⟩) (mw_preV hK hM) rfl rfl hl.1 rfl (lv_room (Nat.le_of_ble_eq_true rfl)) dM_whole_211 ⟨Nat.zero_le _, Nat.zero_le _⟩) hM hA (fun H locs hM => ?_)
  exact W.lret (v := (fM_quotient a1 a2 a3 a5 σ).1) hx hb hr (fun t ht hW => ⟨⟨(fM_quotient a1 a2 a3 a5 σ).1, (fM_quotient a1 a2 a3 a5 σ).2, rfl, by rw [(show fM_whole_16 a1 a2 a3 a5 a7 a8 σ = ((fM_quotient a1 a2 a3 a5 σ).1, (fM_quotient a1 a2 a3 a5 σ).2) by rw [fM_whole_16, if_neg h1, if_neg h2, if_neg h3, if_neg h4, if_neg h5, if_neg h6, if_neg h7, if_neg h8, if_neg h9, if_neg h10, if_neg h11, if_neg h12, if_neg h13, if_neg h14])], by rw [ht]; exact hM.1, va_K.moved hW.alike hK, hM.2.1⟩, hM.2.2.F ht⟩) hM.2.2.2.2 dM_whole_214
set_option maxHeartbeats 4000000 in
set_option maxRecDepth 100000 in
theorem kM_whole_6 {p : Program} {l : Launch} {e : Env} {s : State} {m : MethodId} {args : Array Value} {below : List Frame} {meth : Method} {c : Code} (C : pw_C p s m args meth c cM_whole 10 (some .long) "BitNumbersModel") {D : va_G} {ad : Nat → Nat} {A : Nat → Prop} (hK : va_K D clM (tyA ad) s) (hA : ∀ q, s.heap.size ≤ q → A q) (a1 : Int32) (a2 : Int32) (a3 : Int64) (a5 : Int64) (a7 : Int32) (σ : MS) (hp7 : a7 ≤ 64) (hy : fM_withSign a2 a5 ≠ 0 ∨ a5 = 0) {H : Heap} {locs : List Loc} (hM : mw D ad A s.heap H locs σ) {ls : Array Slot} (hl : lv_has ls 10 [(0, .ref (ad 0)), (1, .int a1), (2, .int a2), (3, .long a3), (5, .long a5), (7, .int a7)]) : W p l e rmM_whole s m args below meth c H locs 0 0 (MQ below (va_Ql (fun r u => (r, u) = fM_whole_6 a1 a2 a3 a5 a7 σ) (mw_E D ad A) A) args s 0 0 A) (F0 m 6 ls []) := by
  obtain ⟨hx, hb, hr, hml, hown, hts, hlocks⟩ := id C
  refine lv_lload hx hb dM_whole_6 (lv_at hl 4 rfl) ?_
  refine lv_iload hx hb dM_whole_8 (lv_at hl 5 rfl) ?_
  refine lv_iconst (v := 1) hx hb dM_whole_10 (by decide) ?_
  refine lv_isub hx hb dM_whole_11 ?_
  refine lv_i2l hx hb dM_whole_12 rfl ?_
  refine lv_land hx hb dM_whole_13 ?_
  refine lv_lstore (lv' := [(8, .long (a5 &&& ((a7 - 1).toInt64))), (0, .ref (ad 0)), (1, .int a1), (2, .int a2), (3, .long a3), (5, .long a5), (7, .int a7)]) hx hb dM_whole_14 hl (by decide) rfl (fun ls hl => ?_)
  rw [(show fM_whole_6 a1 a2 a3 a5 a7 σ = fM_whole_16 a1 a2 a3 a5 a7 (a5 &&& ((a7 - 1).toInt64)) σ by rw [fM_whole_6])]
  exact kM_whole_16 C hK hA a1 a2 a3 a5 a7 (a5 &&& ((a7 - 1).toInt64)) σ hp7 hy hM (lv_sub hl [1, 2, 3, 4, 5, 6, 0] rfl)
set_option maxHeartbeats 4000000 in
set_option maxRecDepth 100000 in
theorem kM_whole_0 {p : Program} {l : Launch} {e : Env} {s : State} {m : MethodId} {args : Array Value} {below : List Frame} {meth : Method} {c : Code} (C : pw_C p s m args meth c cM_whole 10 (some .long) "BitNumbersModel") {D : va_G} {ad : Nat → Nat} {A : Nat → Prop} (hK : va_K D clM (tyA ad) s) (hA : ∀ q, s.heap.size ≤ q → A q) (a1 : Int32) (a2 : Int32) (a3 : Int64) (a5 : Int64) (σ : MS) (hy : fM_withSign a2 a5 ≠ 0 ∨ a5 = 0) {H : Heap} {locs : List Loc} (hM : mw D ad A s.heap H locs σ) {ls : Array Slot} (hl : lv_has ls 10 [(0, .ref (ad 0)), (1, .int a1), (2, .int a2), (3, .long a3), (5, .long a5)]) : W p l e rmM_whole s m args below meth c H locs 0 0 (MQ below (va_Ql (fun r u => (r, u) = fM_whole a1 a2 a3 a5 σ) (mw_E D ad A) A) args s 0 0 A) (F0 m 0 ls []) := by
  obtain ⟨hx, hb, hr, hml, hown, hts, hlocks⟩ := id C
  refine lv_iload_n hx hb dM_whole_0 rfl (lv_at hl 2 rfl) ?_
  refine pw_call (va_runS (As := [.int a2]) (rest := []) ⟨hx, hb, hml, hown, hts⟩ (qM_width l a2) (va_cwS 1 hts (gS w_594 w_595 w_34 w_596) rfl rfl rfl (by decide +kernel) ⟨Nat.le_of_ble_eq_true rfl, Nat.le_of_ble_eq_true rfl⟩) ⟨pw_bT, fun U hU hW => ⟨rfl, trivial⟩⟩ rfl rfl hl.1 rfl (lv_room (Nat.le_of_ble_eq_true rfl)) dM_whole_1 ⟨Nat.zero_le _, Nat.zero_le _⟩) ?_
  refine lv_istore (lv' := [(7, .int (fM_width a2)), (0, .ref (ad 0)), (1, .int a1), (2, .int a2), (3, .long a3), (5, .long a5)]) hx hb dM_whole_4 hl (by decide) rfl (fun ls hl => ?_)
  rw [(show fM_whole a1 a2 a3 a5 σ = fM_whole_6 a1 a2 a3 a5 (fM_width a2) σ by rw [fM_whole])]
  exact kM_whole_6 C hK hA a1 a2 a3 a5 (fM_width a2) σ (mwidth_le a2) hy hM (lv_sub hl [1, 2, 3, 4, 5, 0] rfl)
set_option maxHeartbeats 4000000 in
set_option maxRecDepth 100000 in
theorem qM_whole (l : Launch) (D : va_G) (ad : Nat → Nat) (a1 : Int32) (a2 : Int32) (a3 : Int64) (a5 : Int64) (σ : MS) (sz : Nat) (hy : fM_withSign a2 a5 ≠ 0 ∨ a5 = 0) : Met l yM_whole wsM_whole rmM_whole (va_Pc [.ref (ad 0), .int a1, .int a2, .long a3, .long a5] (mw_B D ad σ sz)) (va_Ql (fun r u => (r, u) = fM_whole a1 a2 a3 a5 σ) (mw_E D ad (va_A (mw_c ad σ) sz)) (va_A (mw_c ad σ) sz)) 0 0 (va_A (mw_c ad σ) sz) := by
  refine Met.ofW (cc := cM_whole) (maxL := 10) (ret := (some .long)) (by decide) rfl ?_
  intro p e s m args below meth c s₁ B hml hv
  obtain ⟨rfl, hsz, hP, hK, hD⟩ := hv
  have hts0 := atoms_spec (ws := wsM_whole) B.pre
  have hts := fun (w : Cond) (h : w ∈ aw) => hts0 w (List.mem_cons_of_mem _ h)
  have hown : s.vm.findClass "BitNumbersModel" = some m.cls := findClass_of_methodNamed B.named
  subst hsz
  have hl := lv_entry ([.ref (ad 0), .int a1, .int a2, .long a3, .long a5]) (n := 10) (Nat.le_of_ble_eq_true rfl)
  rw [lg_entry_eq]
  generalize (lg_sl ([.ref (ad 0), .int a1, .int a2, .long a3, .long a5]) ++ List.replicate (10 - (lg_sl ([.ref (ad 0), .int a1, .int a2, .long a3, .long a5])).length) Slot.unset).toArray = ls at hl ⊢
  exact kM_whole_0 ⟨B.exec, B.bytes, B.returns, hml, hown, hts, B.notSynchronized⟩ hK (fun q h => Or.inr h) a1 a2 a3 a5 σ hy ⟨hP, hD.self, va_S.rf⟩ hl

set_option maxHeartbeats 4000000 in
set_option maxRecDepth 100000 in
theorem kM_order_170 {p : Program} {l : Launch} {e : Env} {s : State} {m : MethodId} {args : Array Value} {below : List Frame} {meth : Method} {c : Code} (C : pw_C p s m args meth c cM_order 9 (some .int) "BitNumbersModel") {D : va_G} {ad : Nat → Nat} {A : Nat → Prop} (hK : va_K D clM (tyA ad) s) (hA : ∀ q, s.heap.size ≤ q → A q) (s0 : Int32) (σ : MS) {H : Heap} {locs : List Loc} (hM : mw D ad A s.heap H locs σ) {ls : Array Slot} (hl : lv_has ls 9 []) : W p l e rmM_order s m args below meth c H locs 0 0 (MQ below (va_Qi (fun r u => (r, u) = fM_order_170 s0 σ) (mw_E D ad A) A) args s 0 0 A) (F0 m 170 ls [.int s0]) := by
  obtain ⟨hx, hb, hr, hml, hown, hts, hlocks⟩ := id C
  refine lv_ineg hx hb dM_order_170 ?_
  exact W.iret (v := -s0) hx hb hr (fun t ht hW => ⟨⟨-s0, σ, rfl, by rw [(show fM_order_170 s0 σ = (-s0, σ) by rw [fM_order_170])], by rw [ht]; exact hM.1, va_K.moved hW.alike hK, hM.2.1⟩, hM.2.2.F ht⟩) hM.2.2.2.2 dM_order_171
set_option maxHeartbeats 4000000 in
set_option maxRecDepth 100000 in
theorem kM_order_166 {p : Program} {l : Launch} {e : Env} {s : State} {m : MethodId} {args : Array Value} {below : List Frame} {meth : Method} {c : Code} (C : pw_C p s m args meth c cM_order 9 (some .int) "BitNumbersModel") {D : va_G} {ad : Nat → Nat} {A : Nat → Prop} (hK : va_K D clM (tyA ad) s) (hA : ∀ q, s.heap.size ≤ q → A q) (s0 : Int32) (s1 : Int32) (s2 : Int64) (σ : MS) {H : Heap} {locs : List Loc} (hM : mw D ad A s.heap H locs σ) {ls : Array Slot} (hl : lv_has ls 9 []) : W p l e rmM_order s m args below meth c H locs 0 0 (MQ below (va_Qi (fun r u => (r, u) = fM_order_166 s0 s1 s2 σ) (mw_E D ad A) A) args s 0 0 A) (F0 m 166 ls [.int s0, .int s1, .long s2, .ref (ad 0)]) := by
  obtain ⟨hx, hb, hr, hml, hown, hts, hlocks⟩ := id C
  refine lv_isub hx hb dM_order_166 ?_
  refine mw_calli (F := fM_compareFactor s2 (s1 - s0) σ) (va_runV (As := [.long s2, .int (s1 - s0)]) (rest := []) ⟨hx, hb, hml, hown, hts⟩ (qM_compareFactor l D ad s2 (s1 - s0) σ H.size) (cwV 2 hts (gV w_692 w_694 w_12 w_34 w_695) rfl rfl rfl (by decide +kernel) ⟨Nat.le_of_ble_eq_true rfl, Nat.le_of_ble_eq_true rfl⟩) (mw_preV hK hM) rfl rfl hl.1 rfl (lv_room (Nat.le_of_ble_eq_true rfl)) dM_order_167 ⟨Nat.zero_le _, Nat.zero_le _⟩) hM hA (fun H locs hM => ?_)
  rw [(show fM_order_166 s0 s1 s2 σ = fM_order_170 ((fM_compareFactor s2 (s1 - s0) σ).1) ((fM_compareFactor s2 (s1 - s0) σ).2) by rw [fM_order_166])]
  exact kM_order_170 C hK hA ((fM_compareFactor s2 (s1 - s0) σ).1) ((fM_compareFactor s2 (s1 - s0) σ).2) hM (lv_sub hl [] rfl)
set_option maxHeartbeats 4000000 in
set_option maxRecDepth 100000 in
theorem kM_order_142 {p : Program} {l : Launch} {e : Env} {s : State} {m : MethodId} {args : Array Value} {below : List Frame} {meth : Method} {c : Code} (C : pw_C p s m args meth c cM_order 9 (some .int) "BitNumbersModel") {D : va_G} {ad : Nat → Nat} {A : Nat → Prop} (hK : va_K D clM (tyA ad) s) (hA : ∀ q, s.heap.size ≤ q → A q) (a3 : Int32) (σ : MS) {H : Heap} {locs : List Loc} (hM : mw D ad A s.heap H locs σ) {ls : Array Slot} (hl : lv_has ls 9 [(0, .ref (ad 0)), (3, .int a3)]) : W p l e rmM_order s m args below meth c H locs 0 0 (MQ below (va_Qi (fun r u => (r, u) = fM_order_142 a3 σ) (mw_E D ad A) A) args s 0 0 A) (F0 m 142 ls []) := by
  obtain ⟨hx, hb, hr, hml, hown, hts, hlocks⟩ := id C
  refine lv_aload_n hx hb dM_order_142 rfl (lv_at hl 0 rfl) ?_
  refine lv_aload_n hx hb dM_order_143 rfl (lv_at hl 0 rfl) ?_
  refine mw_get (v := .long (ms_dividend σ)) hx hb hts hown hK hM 11 (by decide) (hts _ w_498) (mw_fd_dividend _ _) dM_order_144 ?_
  refine lv_aload_n hx hb dM_order_147 rfl (lv_at hl 0 rfl) ?_
  refine mw_get (v := .int (ms_scale σ)) hx hb hts hown hK hM 13 (by decide) (hts _ w_500) (mw_fd_scale _ _) dM_order_148 ?_
  refine lv_aload_n hx hb dM_order_151 rfl (lv_at hl 0 rfl) ?_
  refine mw_get (v := .int (ms_mode σ)) hx hb hts hown hK hM 10 (by decide) (hts _ w_497) (mw_fd_mode _ _) dM_order_152 ?_
  refine lv_iconst (v := 1) hx hb dM_order_155 (by decide) ?_
  refine lv_icmp_ne (tgt := 163) hx hb dM_order_156 (by decide) (fun h1 => ?_) (fun h1 => ?_)
  · refine lv_iconst (v := 2) hx hb dM_order_163 (by decide) ?_
    refine lv_iload_n hx hb dM_order_164 rfl (lv_at hl 1 rfl) ?_
    refine lv_imul hx hb dM_order_165 ?_
    rw [(show fM_order_142 a3 σ = fM_order_166 (2 * a3) (ms_scale σ) (ms_dividend σ) σ by rw [fM_order_142, if_neg h1])]
    exact kM_order_166 C hK hA (2 * a3) (ms_scale σ) (ms_dividend σ) σ hM (lv_sub hl [] rfl)
  · refine lv_iload_n hx hb dM_order_159 rfl (lv_at hl 1 rfl) ?_
    refine lv_goto (tgt := 166) hx hb dM_order_160 (by decide) ?_
    rw [(show fM_order_142 a3 σ = fM_order_166 a3 (ms_scale σ) (ms_dividend σ) σ by rw [fM_order_142, if_pos h1])]
    exact kM_order_166 C hK hA a3 (ms_scale σ) (ms_dividend σ) σ hM (lv_sub hl [] rfl)
set_option maxHeartbeats 4000000 in
set_option maxRecDepth 100000 in
theorem kM_order_139 {p : Program} {l : Launch} {e : Env} {s : State} {m : MethodId} {args : Array Value} {below : List Frame} {meth : Method} {c : Code} (C : pw_C p s m args meth c cM_order 9 (some .int) "BitNumbersModel") {D : va_G} {ad : Nat → Nat} {A : Nat → Prop} (hK : va_K D clM (tyA ad) s) (hA : ∀ q, s.heap.size ≤ q → A q) (a3 : Int32) (s0 : Int64) (s1 : Int64) (σ : MS) {H : Heap} {locs : List Loc} (hM : mw D ad A s.heap H locs σ) {ls : Array Slot} (hl : lv_has ls 9 [(0, .ref (ad 0)), (3, .int a3)]) : W p l e rmM_order s m args below meth c H locs 0 0 (MQ below (va_Qi (fun r u => (r, u) = fM_order_139 a3 s0 s1 σ) (mw_E D ad A) A) args s 0 0 A) (F0 m 139 ls [.long s0, .long s1, .ref (ad 0)]) := by
  obtain ⟨hx, hb, hr, hml, hown, hts, hlocks⟩ := id C
  refine mw_callv (F := fM_multiply s1 s0 σ) (va_runV (As := [.long s1, .long s0]) (rest := []) ⟨hx, hb, hml, hown, hts⟩ (qM_multiply l D ad s1 s0 σ H.size) (cwV 2 hts (gV w_687 w_689 w_11 w_34 w_690) rfl rfl rfl (by decide +kernel) ⟨Nat.le_of_ble_eq_true rfl, Nat.le_of_ble_eq_true rfl⟩) (mw_preV hK hM) rfl rfl hl.1 rfl (lv_room (Nat.le_of_ble_eq_true rfl)) dM_order_139 ⟨Nat.zero_le _, Nat.zero_le _⟩) hM hA (fun H locs hM => ?_)
  rw [(show fM_order_139 a3 s0 s1 σ = fM_order_142 a3 (fM_multiply s1 s0 σ) by rw [fM_order_139])]
  exact kM_order_142 C hK hA a3 (fM_multiply s1 s0 σ) hM (lv_sub hl [0, 1] rfl)
set_option maxHeartbeats 4000000 in
set_option maxRecDepth 100000 in
theorem kM_order_93 {p : Program} {l : Launch} {e : Env} {s : State} {m : MethodId} {args : Array Value} {below : List Frame} {meth : Method} {c : Code} (C : pw_C p s m args meth c cM_order 9 (some .int) "BitNumbersModel") {D : va_G} {ad : Nat → Nat} {A : Nat → Prop} (hK : va_K D clM (tyA ad) s) (hA : ∀ q, s.heap.size ≤ q → A q) (a1 : Int64) (a4 : Int32) (a6 : Int32) (a7 : Int32) (a8 : Int32) (σ : MS) {H : Heap} {locs : List Loc} (hM : mw D ad A s.heap H locs σ) {n : Nat} (K : Int64 → Int32 → Int32 → MS → Int32 × MS) (hI : pw_UB a6 n) (hQ : ∀ (b1 : Int64) (b4 : Int32) (b6 : Int32) (σ : MS) (hI : pw_U b6 n) {H : Heap} {locs : List Loc} (hM : mw D ad A s.heap H locs σ) {ls : Array Slot} (hl : lv_has ls 9 [(0, .ref (ad 0)), (1, .long b1), (4, .int b4), (6, .int b6)]), W p l e rmM_order s m args below meth c H locs 0 0 (MQ below (va_Qi (fun r u => (r, u) = K b1 b4 b6 σ) (mw_E D ad A) A) args s 0 0 A) (F0 m 57 ls [])) {ls : Array Slot} (hl : lv_has ls 9 [(0, .ref (ad 0)), (1, .long a1), (4, .int a4), (6, .int a6), (7, .int a7), (8, .int a8)]) : W p l e rmM_order s m args below meth c H locs 0 0 (MQ below (va_Qi (fun r u => (r, u) = fM_order_93 K a1 a4 a6 a7 a8 σ) (mw_E D ad A) A) args s 0 0 A) (F0 m 93 ls []) := by
  obtain ⟨hx, hb, hr, hml, hown, hts, hlocks⟩ := id C
  refine lv_iload hx hb dM_order_93 (lv_at hl 4 rfl) ?_
  refine lv_iload hx hb dM_order_95 (lv_at hl 5 rfl) ?_
  refine lv_icmp_eq (tgt := 113) hx hb dM_order_97 (by decide) (fun h1 => ?_) (fun h1 => ?_)
  · refine lv_iinc (v := a6 + (-1)) (lv' := [(6, .int (a6 + (-1))), (0, .ref (ad 0)), (1, .long a1), (4, .int a4), (7, .int a7), (8, .int a8)]) hx hb dM_order_113 hl (k := 3) rfl rfl (by decide) rfl (fun ls hl => ?_)
    refine lv_goto (tgt := 57) hx hb dM_order_116 (by decide) ?_
    rw [(show fM_order_93 K a1 a4 a6 a7 a8 σ = K a1 a4 (a6 + (-1)) σ by rw [fM_order_93, if_pos h1])]
    exact hQ a1 a4 (a6 + (-1)) σ (pw_UB_next hI) hM (lv_sub hl [1, 2, 3, 0] rfl)
  · refine lv_iload hx hb dM_order_100 (lv_at hl 4 rfl) ?_
    refine lv_iload hx hb dM_order_102 (lv_at hl 5 rfl) ?_
    refine lv_icmp_ge (tgt := 111) hx hb dM_order_104 (by decide) (fun h2 => ?_) (fun h2 => ?_)
    · refine lv_iconst (v := 1) hx hb dM_order_111 (by decide) ?_
      exact W.iret (v := 1) hx hb hr (fun t ht hW => ⟨⟨1, σ, rfl, by rw [(show fM_order_93 K a1 a4 a6 a7 a8 σ = (1, σ) by rw [fM_order_93, if_neg h1, if_pos h2])], by rw [ht]; exact hM.1, va_K.moved hW.alike hK, hM.2.1⟩, hM.2.2.F ht⟩) hM.2.2.2.2 dM_order_112
    · refine lv_iconst (v := (-1)) hx hb dM_order_107 (by decide) ?_
      refine lv_goto (tgt := 112) hx hb dM_order_108 (by decide) ?_
      exact W.iret (v := (-1)) hx hb hr (fun t ht hW => ⟨⟨(-1), σ, rfl, by rw [(show fM_order_93 K a1 a4 a6 a7 a8 σ = ((-1), σ) by rw [fM_order_93, if_neg h1, if_neg h2])], by rw [ht]; exact hM.1, va_K.moved hW.alike hK, hM.2.1⟩, hM.2.2.F ht⟩) hM.2.2.2.2 dM_order_112
set_option maxHeartbeats 4000000 in
set_option maxRecDepth 100000 in
theorem kM_order_81 {p : Program} {l : Launch} {e : Env} {s : State} {m : MethodId} {args : Array Value} {below : List Frame} {meth : Method} {c : Code} (C : pw_C p s m args meth c cM_order 9 (some .int) "BitNumbersModel") {D : va_G} {ad : Nat → Nat} {A : Nat → Prop} (hK : va_K D clM (tyA ad) s) (hA : ∀ q, s.heap.size ≤ q → A q) (a1 : Int64) (a4 : Int32) (a6 : Int32) (s0 : Int32) (σ : MS) {H : Heap} {locs : List Loc} (hM : mw D ad A s.heap H locs σ) {n : Nat} (K : Int64 → Int32 → Int32 → MS → Int32 × MS) (hI : pw_UB a6 n) (hQ : ∀ (b1 : Int64) (b4 : Int32) (b6 : Int32) (σ : MS) (hI : pw_U b6 n) {H : Heap} {locs : List Loc} (hM : mw D ad A s.heap H locs σ) {ls : Array Slot} (hl : lv_has ls 9 [(0, .ref (ad 0)), (1, .long b1), (4, .int b4), (6, .int b6)]), W p l e rmM_order s m args below meth c H locs 0 0 (MQ below (va_Qi (fun r u => (r, u) = K b1 b4 b6 σ) (mw_E D ad A) A) args s 0 0 A) (F0 m 57 ls [])) {ls : Array Slot} (hl : lv_has ls 9 [(0, .ref (ad 0)), (1, .long a1), (4, .int a4), (6, .int a6)]) : W p l e rmM_order s m args below meth c H locs 0 0 (MQ below (va_Qi (fun r u => (r, u) = fM_order_81 K a1 a4 a6 s0 σ) (mw_E D ad A) A) args s 0 0 A) (F0 m 81 ls [.int s0]) := by
  obtain ⟨hx, hb, hr, hml, hown, hts, hlocks⟩ := id C
  refine lv_istore (lv' := [(7, .int s0), (0, .ref (ad 0)), (1, .long a1), (4, .int a4), (6, .int a6)]) hx hb dM_order_81 hl (by decide) rfl (fun ls hl => ?_)
  refine lv_lload_n hx hb dM_order_83 rfl (lv_at hl 2 rfl) ?_
  refine lv_iload hx hb dM_order_84 (lv_at hl 3 rfl) ?_
  refine lv_iload hx hb dM_order_86 (lv_at hl 4 rfl) ?_
  refine pw_call (va_runS (As := [.long a1, .int a4, .int a6]) (rest := []) ⟨hx, hb, hml, hown, hts⟩ (qM_digit l a1 a4 a6) (va_cwS 3 hts (gS w_683 w_684 w_34 w_685) rfl rfl rfl (by decide +kernel) ⟨Nat.le_of_ble_eq_true rfl, Nat.le_of_ble_eq_true rfl⟩) ⟨pw_bT, fun U hU hW => ⟨rfl, trivial⟩⟩ rfl rfl hl.1 rfl (lv_room (Nat.le_of_ble_eq_true rfl)) dM_order_88 ⟨Nat.zero_le _, Nat.zero_le _⟩) ?_
  refine lv_istore (lv' := [(8, .int (fM_digit a1 a4 a6)), (7, .int s0), (0, .ref (ad 0)), (1, .long a1), (4, .int a4), (6, .int a6)]) hx hb dM_order_91 hl (by decide) rfl (fun ls hl => ?_)
  rw [(show fM_order_81 K a1 a4 a6 s0 σ = fM_order_93 K a1 a4 a6 s0 (fM_digit a1 a4 a6) σ by rw [fM_order_81])]
  exact kM_order_93 C hK hA a1 a4 a6 s0 (fM_digit a1 a4 a6) σ hM K hI hQ (lv_sub hl [2, 3, 4, 5, 1, 0] rfl)
set_option maxHeartbeats 4000000 in
set_option maxRecDepth 100000 in
theorem kM_order_57 {p : Program} {l : Launch} {e : Env} {s : State} {m : MethodId} {args : Array Value} {below : List Frame} {meth : Method} {c : Code} (C : pw_C p s m args meth c cM_order 9 (some .int) "BitNumbersModel") {D : va_G} {ad : Nat → Nat} {A : Nat → Prop} (hK : va_K D clM (tyA ad) s) (hA : ∀ q, s.heap.size ≤ q → A q) : ∀ (n : Nat) (a1 : Int64) (a4 : Int32) (a6 : Int32) (σ : MS) (hI : pw_U a6 n) {H : Heap} {locs : List Loc} (hM : mw D ad A s.heap H locs σ) {ls : Array Slot} (hl : lv_has ls 9 [(0, .ref (ad 0)), (1, .long a1), (4, .int a4), (6, .int a6)]), W p l e rmM_order s m args below meth c H locs 0 0 (MQ below (va_Qi (fun r u => (r, u) = fM_order_57 n a1 a4 a6 σ) (mw_E D ad A) A) args s 0 0 A) (F0 m 57 ls []) := by
  obtain ⟨hx, hb, hr, hml, hown, hts, hlocks⟩ := id C
  intro n
  induction n with
  | zero =>
    intro a1 a4 a6 σ hI
    exact absurd hI pw_U_zero
  | succ n ih =>
    intro a1 a4 a6 σ hI H locs hM ls hl
    refine lv_iload hx hb dM_order_57 (lv_at hl 3 rfl) ?_
    refine lv_if_lt (tgt := 119) hx hb dM_order_59 (by decide) (fun h1 => ?_) (fun h1 => ?_)
    · refine lv_iconst (v := 0) hx hb dM_order_119 (by decide) ?_
      exact W.iret (v := 0) hx hb hr (fun t ht hW => ⟨⟨0, σ, rfl, by rw [(show fM_order_57 (n + 1) a1 a4 a6 σ = (0, σ) by rw [fM_order_57, if_pos h1])], by rw [ht]; exact hM.1, va_K.moved hW.alike hK, hM.2.1⟩, hM.2.2.F ht⟩) hM.2.2.2.2 dM_order_120
    · refine lv_iload hx hb dM_order_62 (lv_at hl 3 rfl) ?_
      refine lv_sipush (v := 320) hx hb dM_order_64 (by decide) ?_
      refine lv_icmp_ge (tgt := 80) hx hb dM_order_67 (by decide) (fun h2 => ?_) (fun h2 => ?_)
      · refine lv_iconst (v := 0) hx hb dM_order_80 (by decide) ?_
        rw [(show fM_order_57 (n + 1) a1 a4 a6 σ = fM_order_81 (fM_order_57 n) a1 a4 a6 0 σ by rw [fM_order_57, if_neg h1, if_pos h2])]
        exact kM_order_81 C hK hA a1 a4 a6 0 σ hM (fM_order_57 n) (pw_U_body hI h1) (fun b1 b4 b6 τ hI _ _ hM _ hl => ih b1 b4 b6 τ hI hM hl) (lv_sub hl [0, 1, 2, 3] rfl)
      · refine lv_aload_n hx hb dM_order_70 rfl (lv_at hl 0 rfl) ?_
        refine mw_get (v := .ref (ad 3)) hx hb hts hown hK hM 5 (by decide) (hts _ w_492) (mw_fd_row _ _) dM_order_71 ?_
        refine lv_iload hx hb dM_order_74 (lv_at hl 3 rfl) ?_
        refine mw_iald hx hb hK hM 3 (mw_ar_row _ _) (pw_vi (pw_l1 h1) (pw_u1 h2 rfl)) dM_order_76 ?_
        refine lv_goto (tgt := 81) hx hb dM_order_77 (by decide) ?_
        rw [(show fM_order_57 (n + 1) a1 a4 a6 σ = fM_order_81 (fM_order_57 n) a1 a4 a6 (ms_row σ a6.toNatClampNeg) σ by rw [fM_order_57, if_neg h1, if_neg h2])]
        exact kM_order_81 C hK hA a1 a4 a6 (ms_row σ a6.toNatClampNeg) σ hM (fM_order_57 n) (pw_U_body hI h1) (fun b1 b4 b6 τ hI _ _ hM _ hl => ih b1 b4 b6 τ hI hM hl) (lv_sub hl [0, 1, 2, 3] rfl)
set_option maxHeartbeats 4000000 in
set_option maxRecDepth 100000 in
theorem kM_order_51 {p : Program} {l : Launch} {e : Env} {s : State} {m : MethodId} {args : Array Value} {below : List Frame} {meth : Method} {c : Code} (C : pw_C p s m args meth c cM_order 9 (some .int) "BitNumbersModel") {D : va_G} {ad : Nat → Nat} {A : Nat → Prop} (hK : va_K D clM (tyA ad) s) (hA : ∀ q, s.heap.size ≤ q → A q) (a1 : Int64) (a4 : Int32) (a5 : Int32) (σ : MS) {H : Heap} {locs : List Loc} (hM : mw D ad A s.heap H locs σ) {ls : Array Slot} (hl : lv_has ls 9 [(0, .ref (ad 0)), (1, .long a1), (4, .int a4), (5, .int a5)]) : W p l e rmM_order s m args below meth c H locs 0 0 (MQ below (va_Qi (fun r u => (r, u) = fM_order_51 a1 a4 a5 σ) (mw_E D ad A) A) args s 0 0 A) (F0 m 51 ls []) := by
  obtain ⟨hx, hb, hr, hml, hown, hts, hlocks⟩ := id C
  refine lv_iload hx hb dM_order_51 (lv_at hl 3 rfl) ?_
  refine lv_iconst (v := 1) hx hb dM_order_53 (by decide) ?_
  refine lv_isub hx hb dM_order_54 ?_
  refine lv_istore (lv' := [(6, .int (a5 - 1)), (0, .ref (ad 0)), (1, .long a1), (4, .int a4), (5, .int a5)]) hx hb dM_order_55 hl (by decide) rfl (fun ls hl => ?_)
  rw [(show fM_order_51 a1 a4 a5 σ = fM_order_57 (((a5 - 1).toInt + 2).toNat + 1) a1 a4 (a5 - 1) σ by rw [fM_order_51])]
  exact kM_order_57 C hK hA (((a5 - 1).toInt + 2).toNat + 1) a1 a4 (a5 - 1) σ (pw_U_init (a5 - 1) : pw_U (a5 - 1) (((a5 - 1).toInt + 2).toNat + 1)) hM (lv_sub hl [1, 2, 3, 0] rfl)
set_option maxHeartbeats 4000000 in
set_option maxRecDepth 100000 in
theorem kM_order_49 {p : Program} {l : Launch} {e : Env} {s : State} {m : MethodId} {args : Array Value} {below : List Frame} {meth : Method} {c : Code} (C : pw_C p s m args meth c cM_order 9 (some .int) "BitNumbersModel") {D : va_G} {ad : Nat → Nat} {A : Nat → Prop} (hK : va_K D clM (tyA ad) s) (hA : ∀ q, s.heap.size ≤ q → A q) (a1 : Int64) (a4 : Int32) (s0 : Int32) (σ : MS) {H : Heap} {locs : List Loc} (hM : mw D ad A s.heap H locs σ) {ls : Array Slot} (hl : lv_has ls 9 [(0, .ref (ad 0)), (1, .long a1), (4, .int a4)]) : W p l e rmM_order s m args below meth c H locs 0 0 (MQ below (va_Qi (fun r u => (r, u) = fM_order_49 a1 a4 s0 σ) (mw_E D ad A) A) args s 0 0 A) (F0 m 49 ls [.int s0]) := by
  obtain ⟨hx, hb, hr, hml, hown, hts, hlocks⟩ := id C
  refine lv_istore (lv' := [(5, .int s0), (0, .ref (ad 0)), (1, .long a1), (4, .int a4)]) hx hb dM_order_49 hl (by decide) rfl (fun ls hl => ?_)
  rw [(show fM_order_49 a1 a4 s0 σ = fM_order_51 a1 a4 s0 σ by rw [fM_order_49])]
  exact kM_order_51 C hK hA a1 a4 s0 σ hM (lv_sub hl [1, 2, 3, 0] rfl)
set_option maxHeartbeats 4000000 in
set_option maxRecDepth 100000 in
theorem kM_order_15 {p : Program} {l : Launch} {e : Env} {s : State} {m : MethodId} {args : Array Value} {below : List Frame} {meth : Method} {c : Code} (C : pw_C p s m args meth c cM_order 9 (some .int) "BitNumbersModel") {D : va_G} {ad : Nat → Nat} {A : Nat → Prop} (hK : va_K D clM (tyA ad) s) (hA : ∀ q, s.heap.size ≤ q → A q) (a1 : Int64) (a4 : Int32) (σ : MS) {H : Heap} {locs : List Loc} (hM : mw D ad A s.heap H locs σ) {ls : Array Slot} (hl : lv_has ls 9 [(0, .ref (ad 0)), (1, .long a1), (4, .int a4)]) : W p l e rmM_order s m args below meth c H locs 0 0 (MQ below (va_Qi (fun r u => (r, u) = fM_order_15 a1 a4 σ) (mw_E D ad A) A) args s 0 0 A) (F0 m 15 ls []) := by
  obtain ⟨hx, hb, hr, hml, hown, hts, hlocks⟩ := id C
  refine lv_aload_n hx hb dM_order_15 rfl (lv_at hl 0 rfl) ?_
  refine mw_get (v := .int (ms_held σ)) hx hb hts hown hK hM 9 (by decide) (hts _ w_496) (mw_fd_held _ _) dM_order_16 ?_
  refine lv_iload hx hb dM_order_19 (lv_at hl 2 rfl) ?_
  refine lv_bipush (v := 64) hx hb dM_order_21 (by decide) ?_
  refine lv_iadd hx hb dM_order_23 ?_
  refine lv_bipush (v := 16) hx hb dM_order_24 (by decide) ?_
  refine lv_idiv hx hb dM_order_26 (by decide) ?_
  refine lv_iconst (v := 1) hx hb dM_order_27 (by decide) ?_
  refine lv_iadd hx hb dM_order_28 ?_
  refine lv_icmp_le (tgt := 39) hx hb dM_order_29 (by decide) (fun h1 => ?_) (fun h1 => ?_)
  · refine lv_iload hx hb dM_order_39 (lv_at hl 2 rfl) ?_
    refine lv_bipush (v := 64) hx hb dM_order_41 (by decide) ?_
    refine lv_iadd hx hb dM_order_43 ?_
    refine lv_bipush (v := 16) hx hb dM_order_44 (by decide) ?_
    refine lv_idiv hx hb dM_order_46 (by decide) ?_
    refine lv_iconst (v := 1) hx hb dM_order_47 (by decide) ?_
    refine lv_iadd hx hb dM_order_48 ?_
    rw [(show fM_order_15 a1 a4 σ = fM_order_49 a1 a4 (((a4 + 64) / 16) + 1) σ by rw [fM_order_15, if_pos h1])]
    exact kM_order_49 C hK hA a1 a4 (((a4 + 64) / 16) + 1) σ hM (lv_sub hl [0, 1, 2] rfl)
  · refine lv_aload_n hx hb dM_order_32 rfl (lv_at hl 0 rfl) ?_
    refine mw_get (v := .int (ms_held σ)) hx hb hts hown hK hM 9 (by decide) (hts _ w_496) (mw_fd_held _ _) dM_order_33 ?_
    refine lv_goto (tgt := 49) hx hb dM_order_36 (by decide) ?_
    rw [(show fM_order_15 a1 a4 σ = fM_order_49 a1 a4 (ms_held σ) σ by rw [fM_order_15, if_neg h1])]
    exact kM_order_49 C hK hA a1 a4 (ms_held σ) σ hM (lv_sub hl [0, 1, 2] rfl)
set_option maxHeartbeats 4000000 in
set_option maxRecDepth 100000 in
theorem kM_order_0 {p : Program} {l : Launch} {e : Env} {s : State} {m : MethodId} {args : Array Value} {below : List Frame} {meth : Method} {c : Code} (C : pw_C p s m args meth c cM_order 9 (some .int) "BitNumbersModel") {D : va_G} {ad : Nat → Nat} {A : Nat → Prop} (hK : va_K D clM (tyA ad) s) (hA : ∀ q, s.heap.size ≤ q → A q) (a1 : Int64) (a3 : Int32) (σ : MS) {H : Heap} {locs : List Loc} (hM : mw D ad A s.heap H locs σ) {ls : Array Slot} (hl : lv_has ls 9 [(0, .ref (ad 0)), (1, .long a1), (3, .int a3)]) : W p l e rmM_order s m args below meth c H locs 0 0 (MQ below (va_Qi (fun r u => (r, u) = fM_order a1 a3 σ) (mw_E D ad A) A) args s 0 0 A) (F0 m 0 ls []) := by
  obtain ⟨hx, hb, hr, hml, hown, hts, hlocks⟩ := id C
  refine lv_aload_n hx hb dM_order_0 rfl (lv_at hl 0 rfl) ?_
  refine mw_get (v := .int (ms_mode σ)) hx hb hts hown hK hM 10 (by decide) (hts _ w_497) (mw_fd_mode _ _) dM_order_1 ?_
  refine lv_if_ne (tgt := 121) hx hb dM_order_4 (by decide) (fun h1 => ?_) (fun h1 => ?_)
  · refine lv_aload_n hx hb dM_order_121 rfl (lv_at hl 0 rfl) ?_
    refine lv_lload_n hx hb dM_order_122 rfl (lv_at hl 1 rfl) ?_
    refine lv_aload_n hx hb dM_order_123 rfl (lv_at hl 0 rfl) ?_
    refine mw_get (v := .int (ms_mode σ)) hx hb hts hown hK hM 10 (by decide) (hts _ w_497) (mw_fd_mode _ _) dM_order_124 ?_
    refine lv_iconst (v := 1) hx hb dM_order_127 (by decide) ?_
    refine lv_icmp_ne (tgt := 138) hx hb dM_order_128 (by decide) (fun h2 => ?_) (fun h2 => ?_)
    · refine lv_lload_n hx hb dM_order_138 rfl (lv_at hl 1 rfl) ?_
      rw [(show fM_order a1 a3 σ = fM_order_139 a3 a1 a1 σ by rw [fM_order, if_neg h1, if_neg h2])]
      exact kM_order_139 C hK hA a3 a1 a1 σ hM (lv_sub hl [0, 2] rfl)
    · refine lv_aload_n hx hb dM_order_131 rfl (lv_at hl 0 rfl) ?_
      refine mw_get (v := .long (ms_divisor σ)) hx hb hts hown hK hM 12 (by decide) (hts _ w_499) (mw_fd_divisor _ _) dM_order_132 ?_
      refine lv_goto (tgt := 139) hx hb dM_order_135 (by decide) ?_
      rw [(show fM_order a1 a3 σ = fM_order_139 a3 (ms_divisor σ) a1 σ by rw [fM_order, if_neg h1, if_pos h2])]
      exact kM_order_139 C hK hA a3 (ms_divisor σ) a1 σ hM (lv_sub hl [0, 2] rfl)
  · refine lv_iload_n hx hb dM_order_7 rfl (lv_at hl 2 rfl) ?_
    refine lv_aload_n hx hb dM_order_8 rfl (lv_at hl 0 rfl) ?_
    refine mw_get (v := .int (ms_base σ)) hx hb hts hown hK hM 8 (by decide) (hts _ w_495) (mw_fd_base _ _) dM_order_9 ?_
    refine lv_isub hx hb dM_order_12 ?_
    refine lv_istore (lv' := [(4, .int (a3 - (ms_base σ))), (0, .ref (ad 0)), (1, .long a1), (3, .int a3)]) hx hb dM_order_13 hl (by decide) rfl (fun ls hl => ?_)
    rw [(show fM_order a1 a3 σ = fM_order_15 a1 (a3 - (ms_base σ)) σ by rw [fM_order, if_pos h1])]
    exact kM_order_15 C hK hA a1 (a3 - (ms_base σ)) σ hM (lv_sub hl [1, 2, 0] rfl)
set_option maxHeartbeats 4000000 in
set_option maxRecDepth 100000 in
theorem qM_order (l : Launch) (D : va_G) (ad : Nat → Nat) (a1 : Int64) (a3 : Int32) (σ : MS) (sz : Nat) : Met l yM_order wsM_order rmM_order (va_Pc [.ref (ad 0), .long a1, .int a3] (mw_B D ad σ sz)) (va_Qi (fun r u => (r, u) = fM_order a1 a3 σ) (mw_E D ad (va_A (mw_c ad σ) sz)) (va_A (mw_c ad σ) sz)) 0 0 (va_A (mw_c ad σ) sz) := by
  refine Met.ofW (cc := cM_order) (maxL := 9) (ret := (some .int)) (by decide) rfl ?_
  intro p e s m args below meth c s₁ B hml hv
  obtain ⟨rfl, hsz, hP, hK, hD⟩ := hv
  have hts0 := atoms_spec (ws := wsM_order) B.pre
  have hts := fun (w : Cond) (h : w ∈ aw) => hts0 w (List.mem_cons_of_mem _ h)
  have hown : s.vm.findClass "BitNumbersModel" = some m.cls := findClass_of_methodNamed B.named
  subst hsz
  have hl := lv_entry ([.ref (ad 0), .long a1, .int a3]) (n := 9) (Nat.le_of_ble_eq_true rfl)
  rw [lg_entry_eq]
  generalize (lg_sl ([.ref (ad 0), .long a1, .int a3]) ++ List.replicate (9 - (lg_sl ([.ref (ad 0), .long a1, .int a3])).length) Slot.unset).toArray = ls at hl ⊢
  exact kM_order_0 ⟨B.exec, B.bytes, B.returns, hml, hown, hts, B.notSynchronized⟩ hK (fun q h => Or.inr h) a1 a3 σ ⟨hP, hD.self, va_S.rf⟩ hl

set_option maxHeartbeats 4000000 in
set_option maxRecDepth 100000 in
theorem kM_rounded_235 {p : Program} {l : Launch} {e : Env} {s : State} {m : MethodId} {args : Array Value} {below : List Frame} {meth : Method} {c : Code} (C : pw_C p s m args meth c cM_rounded 13 (some .long) "BitNumbersModel") {D : va_G} {ad : Nat → Nat} {A : Nat → Prop} (hK : va_K D clM (tyA ad) s) (hA : ∀ q, s.heap.size ≤ q → A q) (a1 : Int32) (a2 : Int32) (a11 : Int64) (σ : MS) {H : Heap} {locs : List Loc} (hM : mw D ad A s.heap H locs σ) {ls : Array Slot} (hl : lv_has ls 13 [(1, .int a1), (2, .int a2), (11, .long a11)]) : W p l e rmM_rounded s m args below meth c H locs 0 0 (MQ below (va_Ql (fun r u => (r, u) = fM_rounded_235 a1 a2 a11 σ) (mw_E D ad A) A) args s 0 0 A) (F0 m 235 ls []) := by
  obtain ⟨hx, hb, hr, hml, hown, hts, hlocks⟩ := id C
  refine lv_iload_n hx hb dM_rounded_235 rfl (lv_at hl 0 rfl) ?_
  refine lv_iload_n hx hb dM_rounded_236 rfl (lv_at hl 1 rfl) ?_
  refine lv_lload hx hb dM_rounded_237 (lv_at hl 2 rfl) ?_
  refine pw_call (va_runS (As := [.int a1, .int a2, .long a11]) (rest := []) ⟨hx, hb, hml, hown, hts⟩ (qM_signed l a1 a2 a11) (va_cwS 3 hts (gS w_648 w_649 w_34 w_650) rfl rfl rfl (by decide +kernel) ⟨Nat.le_of_ble_eq_true rfl, Nat.le_of_ble_eq_true rfl⟩) ⟨pw_bT, fun U hU hW => ⟨rfl, trivial⟩⟩ rfl rfl hl.1 rfl (lv_room (Nat.le_of_ble_eq_true rfl)) dM_rounded_239 ⟨Nat.zero_le _, Nat.zero_le _⟩) ?_
  exact W.lret (v := fM_signed a1 a2 a11) hx hb hr (fun t ht hW => ⟨⟨fM_signed a1 a2 a11, σ, rfl, by rw [(show fM_rounded_235 a1 a2 a11 σ = (fM_signed a1 a2 a11, σ) by rw [fM_rounded_235])], by rw [ht]; exact hM.1, va_K.moved hW.alike hK, hM.2.1⟩, hM.2.2.F ht⟩) hM.2.2.2.2 dM_rounded_242
set_option maxHeartbeats 4000000 in
set_option maxRecDepth 100000 in
theorem kM_rounded_233 {p : Program} {l : Launch} {e : Env} {s : State} {m : MethodId} {args : Array Value} {below : List Frame} {meth : Method} {c : Code} (C : pw_C p s m args meth c cM_rounded 13 (some .long) "BitNumbersModel") {D : va_G} {ad : Nat → Nat} {A : Nat → Prop} (hK : va_K D clM (tyA ad) s) (hA : ∀ q, s.heap.size ≤ q → A q) (a1 : Int32) (a2 : Int32) (s0 : Int64) (σ : MS) {H : Heap} {locs : List Loc} (hM : mw D ad A s.heap H locs σ) {ls : Array Slot} (hl : lv_has ls 13 [(1, .int a1), (2, .int a2)]) : W p l e rmM_rounded s m args below meth c H locs 0 0 (MQ below (va_Ql (fun r u => (r, u) = fM_rounded_233 a1 a2 s0 σ) (mw_E D ad A) A) args s 0 0 A) (F0 m 233 ls [.long s0]) := by
  obtain ⟨hx, hb, hr, hml, hown, hts, hlocks⟩ := id C
  refine lv_lstore (lv' := [(11, .long s0), (1, .int a1), (2, .int a2)]) hx hb dM_rounded_233 hl (by decide) rfl (fun ls hl => ?_)
  rw [(show fM_rounded_233 a1 a2 s0 σ = fM_rounded_235 a1 a2 s0 σ by rw [fM_rounded_233])]
  exact kM_rounded_235 C hK hA a1 a2 s0 σ hM (lv_sub hl [1, 2, 0] rfl)
set_option maxHeartbeats 4000000 in
set_option maxRecDepth 100000 in
theorem kM_rounded_198 {p : Program} {l : Launch} {e : Env} {s : State} {m : MethodId} {args : Array Value} {below : List Frame} {meth : Method} {c : Code} (C : pw_C p s m args meth c cM_rounded 13 (some .long) "BitNumbersModel") {D : va_G} {ad : Nat → Nat} {A : Nat → Prop} (hK : va_K D clM (tyA ad) s) (hA : ∀ q, s.heap.size ≤ q → A q) (a1 : Int32) (a2 : Int32) (a4 : Int32) (a6 : Int64) (a9 : Int64) (σ : MS) {H : Heap} {locs : List Loc} (hM : mw D ad A s.heap H locs σ) {ls : Array Slot} (hl : lv_has ls 13 [(1, .int a1), (2, .int a2), (4, .int a4), (6, .long a6), (9, .long a9)]) : W p l e rmM_rounded s m args below meth c H locs 0 0 (MQ below (va_Ql (fun r u => (r, u) = fM_rounded_198 a1 a2 a4 a6 a9 σ) (mw_E D ad A) A) args s 0 0 A) (F0 m 198 ls []) := by
  obtain ⟨hx, hb, hr, hml, hown, hts, hlocks⟩ := id C
  refine lv_lload hx hb dM_rounded_198 (lv_at hl 4 rfl) ?_
  refine lv_iload_n hx hb dM_rounded_200 rfl (lv_at hl 0 rfl) ?_
  refine pw_call (va_runS (As := [.int a1]) (rest := [.long a9]) ⟨hx, hb, hml, hown, hts⟩ (qM_last l a1) (va_cwS 1 hts (gS w_600 w_601 w_34 w_602) rfl rfl rfl (by decide +kernel) ⟨Nat.le_of_ble_eq_true rfl, Nat.le_of_ble_eq_true rfl⟩) ⟨pw_bT, fun U hU hW => ⟨rfl, trivial⟩⟩ rfl rfl hl.1 rfl (lv_room (Nat.le_of_ble_eq_true rfl)) dM_rounded_201 ⟨Nat.zero_le _, Nat.zero_le _⟩) ?_
  refine lv_i2l hx hb dM_rounded_204 rfl ?_
  refine W.lcmp hx hb dM_rounded_205 ?_
  refine lv_if_lt (tgt := 216) hx hb dM_rounded_206 (by decide) (fun h1 => ?_) (fun h1 => ?_)
  · have h1 : a9 < ((fM_last a1).toInt64) := (lg_cmp_lt _ _).mp h1
    refine lv_lload hx hb dM_rounded_216 (lv_at hl 4 rfl) ?_
    refine lv_iload hx hb dM_rounded_218 (lv_at hl 2 rfl) ?_
    refine lv_iconst (v := 1) hx hb dM_rounded_220 (by decide) ?_
    refine lv_isub hx hb dM_rounded_221 ?_
    refine lv_lshl (v := bn_shl a9 (a4 - 1)) hx hb dM_rounded_222 rfl ?_
    refine lv_lload hx hb dM_rounded_223 (lv_at hl 3 rfl) ?_
    refine lv_ladd hx hb dM_rounded_225 ?_
    refine lv_lconst (v := 1) hx hb dM_rounded_226 (by decide) ?_
    refine lv_iload hx hb dM_rounded_227 (lv_at hl 2 rfl) ?_
    refine lv_iconst (v := 1) hx hb dM_rounded_229 (by decide) ?_
    refine lv_isub hx hb dM_rounded_230 ?_
    refine lv_lshl (v := bn_shl 1 (a4 - 1)) hx hb dM_rounded_231 rfl ?_
    refine lv_lsub hx hb dM_rounded_232 ?_
    rw [(show fM_rounded_198 a1 a2 a4 a6 a9 σ = fM_rounded_233 a1 a2 (((bn_shl a9 (a4 - 1)) + a6) - (bn_shl 1 (a4 - 1))) σ by rw [fM_rounded_198, if_pos h1])]
    exact kM_rounded_233 C hK hA a1 a2 (((bn_shl a9 (a4 - 1)) + a6) - (bn_shl 1 (a4 - 1))) σ hM (lv_sub hl [0, 1] rfl)
  · have h1 : ¬ (a9 < ((fM_last a1).toInt64)) := fun w => h1 ((lg_cmp_lt _ _).mpr w)
    refine lv_iload_n hx hb dM_rounded_209 rfl (lv_at hl 0 rfl) ?_
    refine pw_call (va_runS (As := [.int a1]) (rest := []) ⟨hx, hb, hml, hown, hts⟩ (qM_infinite l a1) (va_cwS 1 hts (gS w_700 w_701 w_34 w_702) rfl rfl rfl (by decide +kernel) ⟨Nat.le_of_ble_eq_true rfl, Nat.le_of_ble_eq_true rfl⟩) ⟨pw_bT, fun U hU hW => ⟨rfl, trivial⟩⟩ rfl rfl hl.1 rfl (lv_room (Nat.le_of_ble_eq_true rfl)) dM_rounded_210 ⟨Nat.zero_le _, Nat.zero_le _⟩) ?_
    refine lv_goto (tgt := 233) hx hb dM_rounded_213 (by decide) ?_
    rw [(show fM_rounded_198 a1 a2 a4 a6 a9 σ = fM_rounded_233 a1 a2 (fM_infinite a1) σ by rw [fM_rounded_198, if_neg h1])]
    exact kM_rounded_233 C hK hA a1 a2 (fM_infinite a1) σ hM (lv_sub hl [0, 1] rfl)
set_option maxHeartbeats 4000000 in
set_option maxRecDepth 100000 in
theorem kM_rounded_166 {p : Program} {l : Launch} {e : Env} {s : State} {m : MethodId} {args : Array Value} {below : List Frame} {meth : Method} {c : Code} (C : pw_C p s m args meth c cM_rounded 13 (some .long) "BitNumbersModel") {D : va_G} {ad : Nat → Nat} {A : Nat → Prop} (hK : va_K D clM (tyA ad) s) (hA : ∀ q, s.heap.size ≤ q → A q) (a1 : Int32) (a2 : Int32) (a4 : Int32) (a5 : Int32) (a6 : Int64) (σ : MS) {H : Heap} {locs : List Loc} (hM : mw D ad A s.heap H locs σ) {ls : Array Slot} (hl : lv_has ls 13 [(1, .int a1), (2, .int a2), (4, .int a4), (5, .int a5), (6, .long a6)]) : W p l e rmM_rounded s m args below meth c H locs 0 0 (MQ below (va_Ql (fun r u => (r, u) = fM_rounded_166 a1 a2 a4 a5 a6 σ) (mw_E D ad A) A) args s 0 0 A) (F0 m 166 ls []) := by
  obtain ⟨hx, hb, hr, hml, hown, hts, hlocks⟩ := id C
  refine lv_lload hx hb dM_rounded_166 (lv_at hl 4 rfl) ?_
  refine lv_lconst (v := 1) hx hb dM_rounded_168 (by decide) ?_
  refine lv_iload hx hb dM_rounded_169 (lv_at hl 2 rfl) ?_
  refine lv_iconst (v := 1) hx hb dM_rounded_171 (by decide) ?_
  refine lv_isub hx hb dM_rounded_172 ?_
  refine lv_lshl (v := bn_shl 1 (a4 - 1)) hx hb dM_rounded_173 rfl ?_
  refine W.lcmp hx hb dM_rounded_174 ?_
  refine lv_if_ge (tgt := 186) hx hb dM_rounded_175 (by decide) (fun h1 => ?_) (fun h1 => ?_)
  · have h1 : (bn_shl 1 (a4 - 1)) ≤ a6 := (lg_cmp_ge _ _).mp h1
    refine lv_iload hx hb dM_rounded_186 (lv_at hl 3 rfl) ?_
    refine lv_iload_n hx hb dM_rounded_188 rfl (lv_at hl 0 rfl) ?_
    refine pw_call (va_runS (As := [.int a1]) (rest := [.int a5]) ⟨hx, hb, hml, hown, hts⟩ (qM_least l a1) (va_cwS 1 hts (gS w_669 w_670 w_34 w_671) rfl rfl rfl (by decide +kernel) ⟨Nat.le_of_ble_eq_true rfl, Nat.le_of_ble_eq_true rfl⟩) ⟨pw_bT, fun U hU hW => ⟨rfl, trivial⟩⟩ rfl rfl hl.1 rfl (lv_room (Nat.le_of_ble_eq_true rfl)) dM_rounded_189 ⟨Nat.zero_le _, Nat.zero_le _⟩) ?_
    refine lv_isub hx hb dM_rounded_192 ?_
    refine lv_i2l hx hb dM_rounded_193 rfl ?_
    refine lv_lconst (v := 1) hx hb dM_rounded_194 (by decide) ?_
    refine lv_ladd hx hb dM_rounded_195 ?_
    refine lv_lstore (lv' := [(9, .long (((a5 - (fM_least a1)).toInt64) + 1)), (1, .int a1), (2, .int a2), (4, .int a4), (5, .int a5), (6, .long a6)]) hx hb dM_rounded_196 hl (by decide) rfl (fun ls hl => ?_)
    rw [(show fM_rounded_166 a1 a2 a4 a5 a6 σ = fM_rounded_198 a1 a2 a4 a6 (((a5 - (fM_least a1)).toInt64) + 1) σ by rw [fM_rounded_166, if_pos h1])]
    exact kM_rounded_198 C hK hA a1 a2 a4 a6 (((a5 - (fM_least a1)).toInt64) + 1) σ hM (lv_sub hl [1, 2, 3, 5, 0] rfl)
  · have h1 : ¬ ((bn_shl 1 (a4 - 1)) ≤ a6) := fun w => h1 ((lg_cmp_ge _ _).mpr w)
    refine lv_iload_n hx hb dM_rounded_178 rfl (lv_at hl 0 rfl) ?_
    refine lv_iload_n hx hb dM_rounded_179 rfl (lv_at hl 1 rfl) ?_
    refine lv_lload hx hb dM_rounded_180 (lv_at hl 4 rfl) ?_
    refine pw_call (va_runS (As := [.int a1, .int a2, .long a6]) (rest := []) ⟨hx, hb, hml, hown, hts⟩ (qM_signed l a1 a2 a6) (va_cwS 3 hts (gS w_648 w_649 w_34 w_650) rfl rfl rfl (by decide +kernel) ⟨Nat.le_of_ble_eq_true rfl, Nat.le_of_ble_eq_true rfl⟩) ⟨pw_bT, fun U hU hW => ⟨rfl, trivial⟩⟩ rfl rfl hl.1 rfl (lv_room (Nat.le_of_ble_eq_true rfl)) dM_rounded_182 ⟨Nat.zero_le _, Nat.zero_le _⟩) ?_
    exact W.lret (v := fM_signed a1 a2 a6) hx hb hr (fun t ht hW => ⟨⟨fM_signed a1 a2 a6, σ, rfl, by rw [(show fM_rounded_166 a1 a2 a4 a5 a6 σ = (fM_signed a1 a2 a6, σ) by rw [fM_rounded_166, if_neg h1])], by rw [ht]; exact hM.1, va_K.moved hW.alike hK, hM.2.1⟩, hM.2.2.F ht⟩) hM.2.2.2.2 dM_rounded_185
set_option maxHeartbeats 4000000 in
set_option maxRecDepth 100000 in
theorem kM_rounded_163 {p : Program} {l : Launch} {e : Env} {s : State} {m : MethodId} {args : Array Value} {below : List Frame} {meth : Method} {c : Code} (C : pw_C p s m args meth c cM_rounded 13 (some .long) "BitNumbersModel") {D : va_G} {ad : Nat → Nat} {A : Nat → Prop} (hK : va_K D clM (tyA ad) s) (hA : ∀ q, s.heap.size ≤ q → A q) (a1 : Int32) (a2 : Int32) (a4 : Int32) (a5 : Int32) (a6 : Int64) (σ : MS) {H : Heap} {locs : List Loc} (hM : mw D ad A s.heap H locs σ) {ls : Array Slot} (hl : lv_has ls 13 [(1, .int a1), (2, .int a2), (4, .int a4), (5, .int a5), (6, .long a6)]) : W p l e rmM_rounded s m args below meth c H locs 0 0 (MQ below (va_Ql (fun r u => (r, u) = fM_rounded_163 a1 a2 a4 a5 a6 σ) (mw_E D ad A) A) args s 0 0 A) (F0 m 163 ls []) := by
  obtain ⟨hx, hb, hr, hml, hown, hts, hlocks⟩ := id C
  refine lv_iinc (v := a5 + 1) (lv' := [(5, .int (a5 + 1)), (1, .int a1), (2, .int a2), (4, .int a4), (6, .long a6)]) hx hb dM_rounded_163 hl (k := 3) rfl rfl (by decide) rfl (fun ls hl => ?_)
  rw [(show fM_rounded_163 a1 a2 a4 a5 a6 σ = fM_rounded_166 a1 a2 a4 (a5 + 1) a6 σ by rw [fM_rounded_163])]
  exact kM_rounded_166 C hK hA a1 a2 a4 (a5 + 1) a6 σ hM (lv_sub hl [1, 2, 3, 0, 4] rfl)
set_option maxHeartbeats 4000000 in
set_option maxRecDepth 100000 in
theorem kM_rounded_145 {p : Program} {l : Launch} {e : Env} {s : State} {m : MethodId} {args : Array Value} {below : List Frame} {meth : Method} {c : Code} (C : pw_C p s m args meth c cM_rounded 13 (some .long) "BitNumbersModel") {D : va_G} {ad : Nat → Nat} {A : Nat → Prop} (hK : va_K D clM (tyA ad) s) (hA : ∀ q, s.heap.size ≤ q → A q) (a1 : Int32) (a2 : Int32) (a4 : Int32) (a5 : Int32) (a6 : Int64) (σ : MS) {H : Heap} {locs : List Loc} (hM : mw D ad A s.heap H locs σ) {ls : Array Slot} (hl : lv_has ls 13 [(1, .int a1), (2, .int a2), (4, .int a4), (5, .int a5), (6, .long a6)]) : W p l e rmM_rounded s m args below meth c H locs 0 0 (MQ below (va_Ql (fun r u => (r, u) = fM_rounded_145 a1 a2 a4 a5 a6 σ) (mw_E D ad A) A) args s 0 0 A) (F0 m 145 ls []) := by
  obtain ⟨hx, hb, hr, hml, hown, hts, hlocks⟩ := id C
  refine lv_lload hx hb dM_rounded_145 (lv_at hl 4 rfl) ?_
  refine lv_lconst (v := 1) hx hb dM_rounded_147 (by decide) ?_
  refine lv_iload hx hb dM_rounded_148 (lv_at hl 2 rfl) ?_
  refine lv_lshl (v := bn_shl 1 a4) hx hb dM_rounded_150 rfl ?_
  refine W.lcmp hx hb dM_rounded_151 ?_
  refine lv_if_ne (tgt := 166) hx hb dM_rounded_152 (by decide) (fun h1 => ?_) (fun h1 => ?_)
  · have h1 : ¬ (a6 = (bn_shl 1 a4)) := fun w => h1 ((lg_cmp_eq _ _).mpr w)
    rw [(show fM_rounded_145 a1 a2 a4 a5 a6 σ = fM_rounded_166 a1 a2 a4 a5 a6 σ by rw [fM_rounded_145, if_neg h1])]
    exact kM_rounded_166 C hK hA a1 a2 a4 a5 a6 σ hM (lv_sub hl [0, 1, 2, 3, 4] rfl)
  · have h1 : a6 = (bn_shl 1 a4) := (lg_cmp_eq _ _).mp h1
    refine lv_lload hx hb dM_rounded_155 (lv_at hl 4 rfl) ?_
    refine lv_ldc2 hx hb hown (hts _ w_641) dM_rounded_157 ?_
    refine lv_ldiv hx hb dM_rounded_160 (by decide) ?_
    refine lv_lstore (lv' := [(6, .long (a6 / 2)), (1, .int a1), (2, .int a2), (4, .int a4), (5, .int a5)]) hx hb dM_rounded_161 hl (by decide) rfl (fun ls hl => ?_)
    rw [(show fM_rounded_145 a1 a2 a4 a5 a6 σ = fM_rounded_163 a1 a2 a4 a5 (a6 / 2) σ by rw [fM_rounded_145, if_pos h1])]
    exact kM_rounded_163 C hK hA a1 a2 a4 a5 (a6 / 2) σ hM (lv_sub hl [1, 2, 3, 4, 0] rfl)
set_option maxHeartbeats 4000000 in
set_option maxRecDepth 100000 in
theorem kM_rounded_139 {p : Program} {l : Launch} {e : Env} {s : State} {m : MethodId} {args : Array Value} {below : List Frame} {meth : Method} {c : Code} (C : pw_C p s m args meth c cM_rounded 13 (some .long) "BitNumbersModel") {D : va_G} {ad : Nat → Nat} {A : Nat → Prop} (hK : va_K D clM (tyA ad) s) (hA : ∀ q, s.heap.size ≤ q → A q) (a1 : Int32) (a2 : Int32) (a4 : Int32) (a5 : Int32) (a6 : Int64) (σ : MS) {H : Heap} {locs : List Loc} (hM : mw D ad A s.heap H locs σ) {ls : Array Slot} (hl : lv_has ls 13 [(1, .int a1), (2, .int a2), (4, .int a4), (5, .int a5), (6, .long a6)]) : W p l e rmM_rounded s m args below meth c H locs 0 0 (MQ below (va_Ql (fun r u => (r, u) = fM_rounded_139 a1 a2 a4 a5 a6 σ) (mw_E D ad A) A) args s 0 0 A) (F0 m 139 ls []) := by
  obtain ⟨hx, hb, hr, hml, hown, hts, hlocks⟩ := id C
  refine lv_lload hx hb dM_rounded_139 (lv_at hl 4 rfl) ?_
  refine lv_lconst (v := 1) hx hb dM_rounded_141 (by decide) ?_
  refine lv_ladd hx hb dM_rounded_142 ?_
  refine lv_lstore (lv' := [(6, .long (a6 + 1)), (1, .int a1), (2, .int a2), (4, .int a4), (5, .int a5)]) hx hb dM_rounded_143 hl (by decide) rfl (fun ls hl => ?_)
  rw [(show fM_rounded_139 a1 a2 a4 a5 a6 σ = fM_rounded_145 a1 a2 a4 a5 (a6 + 1) σ by rw [fM_rounded_139])]
  exact kM_rounded_145 C hK hA a1 a2 a4 a5 (a6 + 1) σ hM (lv_sub hl [1, 2, 3, 4, 0] rfl)
set_option maxHeartbeats 4000000 in
set_option maxRecDepth 100000 in
theorem kM_rounded_118 {p : Program} {l : Launch} {e : Env} {s : State} {m : MethodId} {args : Array Value} {below : List Frame} {meth : Method} {c : Code} (C : pw_C p s m args meth c cM_rounded 13 (some .long) "BitNumbersModel") {D : va_G} {ad : Nat → Nat} {A : Nat → Prop} (hK : va_K D clM (tyA ad) s) (hA : ∀ q, s.heap.size ≤ q → A q) (a1 : Int32) (a2 : Int32) (a4 : Int32) (a5 : Int32) (a6 : Int64) (s0 : Int32) (σ : MS) {H : Heap} {locs : List Loc} (hM : mw D ad A s.heap H locs σ) {ls : Array Slot} (hl : lv_has ls 13 [(1, .int a1), (2, .int a2), (4, .int a4), (5, .int a5), (6, .long a6)]) : W p l e rmM_rounded s m args below meth c H locs 0 0 (MQ below (va_Ql (fun r u => (r, u) = fM_rounded_118 a1 a2 a4 a5 a6 s0 σ) (mw_E D ad A) A) args s 0 0 A) (F0 m 118 ls [.int s0]) := by
  obtain ⟨hx, hb, hr, hml, hown, hts, hlocks⟩ := id C
  refine lv_istore (lv' := [(8, .int s0), (1, .int a1), (2, .int a2), (4, .int a4), (5, .int a5), (6, .long a6)]) hx hb dM_rounded_118 hl (by decide) rfl (fun ls hl => ?_)
  refine lv_iload hx hb dM_rounded_120 (lv_at hl 0 rfl) ?_
  refine lv_if_gt (tgt := 139) hx hb dM_rounded_122 (by decide) (fun h1 => ?_) (fun h1 => ?_)
  · rw [(show fM_rounded_118 a1 a2 a4 a5 a6 s0 σ = fM_rounded_139 a1 a2 a4 a5 a6 σ by rw [fM_rounded_118, if_pos h1])]
    exact kM_rounded_139 C hK hA a1 a2 a4 a5 a6 σ hM (lv_sub hl [1, 2, 3, 4, 5] rfl)
  · refine lv_iload hx hb dM_rounded_125 (lv_at hl 0 rfl) ?_
    refine lv_if_ne (tgt := 145) hx hb dM_rounded_127 (by decide) (fun h2 => ?_) (fun h2 => ?_)
    · rw [(show fM_rounded_118 a1 a2 a4 a5 a6 s0 σ = fM_rounded_145 a1 a2 a4 a5 a6 σ by rw [fM_rounded_118, if_neg h1, if_neg h2])]
      exact kM_rounded_145 C hK hA a1 a2 a4 a5 a6 σ hM (lv_sub hl [1, 2, 3, 4, 5] rfl)
    · refine lv_lload hx hb dM_rounded_130 (lv_at hl 5 rfl) ?_
      refine lv_lconst (v := 1) hx hb dM_rounded_132 (by decide) ?_
      refine lv_land hx hb dM_rounded_133 ?_
      refine lv_lconst (v := 1) hx hb dM_rounded_134 (by decide) ?_
      refine W.lcmp hx hb dM_rounded_135 ?_
      refine lv_if_ne (tgt := 145) hx hb dM_rounded_136 (by decide) (fun h3 => ?_) (fun h3 => ?_)
      · have h3 : ¬ ((a6 &&& 1) = 1) := fun w => h3 ((lg_cmp_eq _ _).mpr w)
        rw [(show fM_rounded_118 a1 a2 a4 a5 a6 s0 σ = fM_rounded_145 a1 a2 a4 a5 a6 σ by rw [fM_rounded_118, if_neg h1, if_pos h2, if_neg h3])]
        exact kM_rounded_145 C hK hA a1 a2 a4 a5 a6 σ hM (lv_sub hl [1, 2, 3, 4, 5] rfl)
      · have h3 : (a6 &&& 1) = 1 := (lg_cmp_eq _ _).mp h3
        rw [(show fM_rounded_118 a1 a2 a4 a5 a6 s0 σ = fM_rounded_139 a1 a2 a4 a5 a6 σ by rw [fM_rounded_118, if_neg h1, if_pos h2, if_pos h3])]
        exact kM_rounded_139 C hK hA a1 a2 a4 a5 a6 σ hM (lv_sub hl [1, 2, 3, 4, 5] rfl)
set_option maxHeartbeats 4000000 in
set_option maxRecDepth 100000 in
theorem kM_rounded_94 {p : Program} {l : Launch} {e : Env} {s : State} {m : MethodId} {args : Array Value} {below : List Frame} {meth : Method} {c : Code} (C : pw_C p s m args meth c cM_rounded 13 (some .long) "BitNumbersModel") {D : va_G} {ad : Nat → Nat} {A : Nat → Prop} (hK : va_K D clM (tyA ad) s) (hA : ∀ q, s.heap.size ≤ q → A q) (a1 : Int32) (a2 : Int32) (a4 : Int32) (a5 : Int32) (a8 : Int32) (s0 : Int64) (σ : MS) {H : Heap} {locs : List Loc} (hM : mw D ad A s.heap H locs σ) {n : Nat} (K : Int32 → Int32 → Int32 → Int32 → Int64 → Int32 → MS → Int64 × MS) (hI : pw_UB a8 n) (hQ : ∀ (b1 : Int32) (b2 : Int32) (b4 : Int32) (b5 : Int32) (b6 : Int64) (b8 : Int32) (σ : MS) (hI : pw_U b8 n) {H : Heap} {locs : List Loc} (hM : mw D ad A s.heap H locs σ) {ls : Array Slot} (hl : lv_has ls 13 [(0, .ref (ad 0)), (1, .int b1), (2, .int b2), (4, .int b4), (5, .int b5), (6, .long b6), (8, .int b8)]), W p l e rmM_rounded s m args below meth c H locs 0 0 (MQ below (va_Ql (fun r u => (r, u) = K b1 b2 b4 b5 b6 b8 σ) (mw_E D ad A) A) args s 0 0 A) (F0 m 61 ls [])) {ls : Array Slot} (hl : lv_has ls 13 [(0, .ref (ad 0)), (1, .int a1), (2, .int a2), (4, .int a4), (5, .int a5), (8, .int a8)]) : W p l e rmM_rounded s m args below meth c H locs 0 0 (MQ below (va_Ql (fun r u => (r, u) = fM_rounded_94 K a1 a2 a4 a5 a8 s0 σ) (mw_E D ad A) A) args s 0 0 A) (F0 m 94 ls [.long s0]) := by
  obtain ⟨hx, hb, hr, hml, hown, hts, hlocks⟩ := id C
  refine lv_lstore (lv' := [(6, .long s0), (0, .ref (ad 0)), (1, .int a1), (2, .int a2), (4, .int a4), (5, .int a5), (8, .int a8)]) hx hb dM_rounded_94 hl (by decide) rfl (fun ls hl => ?_)
  refine lv_iinc (v := a8 + (-1)) (lv' := [(8, .int (a8 + (-1))), (6, .long s0), (0, .ref (ad 0)), (1, .int a1), (2, .int a2), (4, .int a4), (5, .int a5)]) hx hb dM_rounded_96 hl (k := 6) rfl rfl (by decide) rfl (fun ls hl => ?_)
  refine lv_goto (tgt := 61) hx hb dM_rounded_99 (by decide) ?_
  rw [(show fM_rounded_94 K a1 a2 a4 a5 a8 s0 σ = K a1 a2 a4 a5 s0 (a8 + (-1)) σ by rw [fM_rounded_94])]
  exact hQ a1 a2 a4 a5 s0 (a8 + (-1)) σ (pw_UB_next hI) hM (lv_sub hl [2, 3, 4, 5, 6, 1, 0] rfl)
set_option maxHeartbeats 4000000 in
set_option maxRecDepth 100000 in
theorem kM_rounded_79 {p : Program} {l : Launch} {e : Env} {s : State} {m : MethodId} {args : Array Value} {below : List Frame} {meth : Method} {c : Code} (C : pw_C p s m args meth c cM_rounded 13 (some .long) "BitNumbersModel") {D : va_G} {ad : Nat → Nat} {A : Nat → Prop} (hK : va_K D clM (tyA ad) s) (hA : ∀ q, s.heap.size ≤ q → A q) (a1 : Int32) (a2 : Int32) (a4 : Int32) (a5 : Int32) (a6 : Int64) (a8 : Int32) (s0 : Int32) (σ : MS) {H : Heap} {locs : List Loc} (hM : mw D ad A s.heap H locs σ) {n : Nat} (K : Int32 → Int32 → Int32 → Int32 → Int64 → Int32 → MS → Int64 × MS) (hI : pw_UB a8 n) (hQ : ∀ (b1 : Int32) (b2 : Int32) (b4 : Int32) (b5 : Int32) (b6 : Int64) (b8 : Int32) (σ : MS) (hI : pw_U b8 n) {H : Heap} {locs : List Loc} (hM : mw D ad A s.heap H locs σ) {ls : Array Slot} (hl : lv_has ls 13 [(0, .ref (ad 0)), (1, .int b1), (2, .int b2), (4, .int b4), (5, .int b5), (6, .long b6), (8, .int b8)]), W p l e rmM_rounded s m args below meth c H locs 0 0 (MQ below (va_Ql (fun r u => (r, u) = K b1 b2 b4 b5 b6 b8 σ) (mw_E D ad A) A) args s 0 0 A) (F0 m 61 ls [])) {ls : Array Slot} (hl : lv_has ls 13 [(0, .ref (ad 0)), (1, .int a1), (2, .int a2), (4, .int a4), (5, .int a5), (6, .long a6), (8, .int a8)]) : W p l e rmM_rounded s m args below meth c H locs 0 0 (MQ below (va_Ql (fun r u => (r, u) = fM_rounded_79 K a1 a2 a4 a5 a6 a8 s0 σ) (mw_E D ad A) A) args s 0 0 A) (F0 m 79 ls [.int s0]) := by
  obtain ⟨hx, hb, hr, hml, hown, hts, hlocks⟩ := id C
  refine lv_if_lt (tgt := 92) hx hb dM_rounded_79 (by decide) (fun h1 => ?_) (fun h1 => ?_)
  · refine lv_lload hx hb dM_rounded_92 (lv_at hl 5 rfl) ?_
    rw [(show fM_rounded_79 K a1 a2 a4 a5 a6 a8 s0 σ = fM_rounded_94 K a1 a2 a4 a5 a8 a6 σ by rw [fM_rounded_79, if_pos h1])]
    exact kM_rounded_94 C hK hA a1 a2 a4 a5 a8 a6 σ hM K hI hQ (lv_sub hl [0, 1, 2, 3, 4, 6] rfl)
  · refine lv_lload hx hb dM_rounded_82 (lv_at hl 5 rfl) ?_
    refine lv_lconst (v := 1) hx hb dM_rounded_84 (by decide) ?_
    refine lv_iload hx hb dM_rounded_85 (lv_at hl 6 rfl) ?_
    refine lv_lshl (v := bn_shl 1 a8) hx hb dM_rounded_87 rfl ?_
    refine lv_ladd hx hb dM_rounded_88 ?_
    refine lv_goto (tgt := 94) hx hb dM_rounded_89 (by decide) ?_
    rw [(show fM_rounded_79 K a1 a2 a4 a5 a6 a8 s0 σ = fM_rounded_94 K a1 a2 a4 a5 a8 (a6 + (bn_shl 1 a8)) σ by rw [fM_rounded_79, if_neg h1])]
    exact kM_rounded_94 C hK hA a1 a2 a4 a5 a8 (a6 + (bn_shl 1 a8)) σ hM K hI hQ (lv_sub hl [0, 1, 2, 3, 4, 6] rfl)
set_option maxHeartbeats 4000000 in
set_option maxRecDepth 100000 in
theorem kM_rounded_61 {p : Program} {l : Launch} {e : Env} {s : State} {m : MethodId} {args : Array Value} {below : List Frame} {meth : Method} {c : Code} (C : pw_C p s m args meth c cM_rounded 13 (some .long) "BitNumbersModel") {D : va_G} {ad : Nat → Nat} {A : Nat → Prop} (hK : va_K D clM (tyA ad) s) (hA : ∀ q, s.heap.size ≤ q → A q) : ∀ (n : Nat) (a1 : Int32) (a2 : Int32) (a4 : Int32) (a5 : Int32) (a6 : Int64) (a8 : Int32) (σ : MS) (hI : pw_U a8 n) {H : Heap} {locs : List Loc} (hM : mw D ad A s.heap H locs σ) {ls : Array Slot} (hl : lv_has ls 13 [(0, .ref (ad 0)), (1, .int a1), (2, .int a2), (4, .int a4), (5, .int a5), (6, .long a6), (8, .int a8)]), W p l e rmM_rounded s m args below meth c H locs 0 0 (MQ below (va_Ql (fun r u => (r, u) = fM_rounded_61 n a1 a2 a4 a5 a6 a8 σ) (mw_E D ad A) A) args s 0 0 A) (F0 m 61 ls []) := by
  obtain ⟨hx, hb, hr, hml, hown, hts, hlocks⟩ := id C
  intro n
  induction n with
  | zero =>
    intro a1 a2 a4 a5 a6 a8 σ hI
    exact absurd hI pw_U_zero
  | succ n ih =>
    intro a1 a2 a4 a5 a6 a8 σ hI H locs hM ls hl
    refine lv_iload hx hb dM_rounded_61 (lv_at hl 6 rfl) ?_
    refine lv_if_lt (tgt := 102) hx hb dM_rounded_63 (by decide) (fun h1 => ?_) (fun h1 => ?_)
    · refine lv_aload_n hx hb dM_rounded_102 rfl (lv_at hl 0 rfl) ?_
      refine lv_ldc2 hx hb hown (hts _ w_641) dM_rounded_103 ?_
      refine lv_lload hx hb dM_rounded_106 (lv_at hl 5 rfl) ?_
      refine lv_lmul hx hb dM_rounded_108 ?_
      refine lv_lconst (v := 1) hx hb dM_rounded_109 (by decide) ?_
      refine lv_ladd hx hb dM_rounded_110 ?_
      refine lv_iload hx hb dM_rounded_111 (lv_at hl 4 rfl) ?_
      refine lv_iconst (v := 1) hx hb dM_rounded_113 (by decide) ?_
      refine lv_isub hx hb dM_rounded_114 ?_
      refine mw_calli (F := fM_order ((2 * a6) + 1) (a5 - 1) σ) (va_runV (As := [.long ((2 * a6) + 1), .int (a5 - 1)]) (rest := []) ⟨hx, hb, hml, hown, hts⟩ (qM_order l D ad ((2 * a6) + 1) (a5 - 1) σ H.size) (cwV 2 hts (gV w_679 w_681 w_10 w_34 w_682) rfl rfl rfl (by decide +kernel) ⟨Nat.le_of_ble_eq_true rfl, Nat.le_of_ble_eq_true rfl⟩) (mw_preV hK hM) rfl rfl hl.1 rfl (lv_room (Nat.le_of_ble_eq_true rfl)) dM_rounded_115 ⟨Nat.zero_le _, Nat.zero_le _⟩) hM hA (fun H locs hM => ?_)
      rw [(show fM_rounded_61 (n + 1) a1 a2 a4 a5 a6 a8 σ = fM_rounded_118 a1 a2 a4 a5 a6 ((fM_order ((2 * a6) + 1) (a5 - 1) σ).1) ((fM_order ((2 * a6) + 1) (a5 - 1) σ).2) by rw [fM_rounded_61, if_pos h1])]
      exact kM_rounded_118 C hK hA a1 a2 a4 a5 a6 ((fM_order ((2 * a6) + 1) (a5 - 1) σ).1) ((fM_order ((2 * a6) + 1) (a5 - 1) σ).2) hM (lv_sub hl [1, 2, 3, 4, 5] rfl)
    · refine lv_aload_n hx hb dM_rounded_66 rfl (lv_at hl 0 rfl) ?_
      refine lv_lload hx hb dM_rounded_67 (lv_at hl 5 rfl) ?_
      refine lv_lconst (v := 1) hx hb dM_rounded_69 (by decide) ?_
      refine lv_iload hx hb dM_rounded_70 (lv_at hl 6 rfl) ?_
      refine lv_lshl (v := bn_shl 1 a8) hx hb dM_rounded_72 rfl ?_
      refine lv_ladd hx hb dM_rounded_73 ?_
      refine lv_iload hx hb dM_rounded_74 (lv_at hl 4 rfl) ?_
      refine mw_calli (F := fM_order (a6 + (bn_shl 1 a8)) a5 σ) (va_runV (As := [.long (a6 + (bn_shl 1 a8)), .int a5]) (rest := []) ⟨hx, hb, hml, hown, hts⟩ (qM_order l D ad (a6 + (bn_shl 1 a8)) a5 σ H.size) (cwV 2 hts (gV w_679 w_681 w_10 w_34 w_682) rfl rfl rfl (by decide +kernel) ⟨Nat.le_of_ble_eq_true rfl, Nat.le_of_ble_eq_true rfl⟩) (mw_preV hK hM) rfl rfl hl.1 rfl (lv_room (Nat.le_of_ble_eq_true rfl)) dM_rounded_76 ⟨Nat.zero_le _, Nat.zero_le _⟩) hM hA (fun H locs hM => ?_)
      rw [(show fM_rounded_61 (n + 1) a1 a2 a4 a5 a6 a8 σ = fM_rounded_79 (fM_rounded_61 n) a1 a2 a4 a5 a6 a8 ((fM_order (a6 + (bn_shl 1 a8)) a5 σ).1) ((fM_order (a6 + (bn_shl 1 a8)) a5 σ).2) by rw [fM_rounded_61, if_neg h1])]
      exact kM_rounded_79 C hK hA a1 a2 a4 a5 a6 a8 ((fM_order (a6 + (bn_shl 1 a8)) a5 σ).1) ((fM_order (a6 + (bn_shl 1 a8)) a5 σ).2) hM (fM_rounded_61 n) (pw_U_body hI h1) (fun b1 b2 b4 b5 b6 b8 τ hI _ _ hM _ hl => ih b1 b2 b4 b5 b6 b8 τ hI hM hl) (lv_sub hl [0, 1, 2, 3, 4, 5, 6] rfl)
set_option maxHeartbeats 4000000 in
set_option maxRecDepth 100000 in
theorem kM_rounded_50 {p : Program} {l : Launch} {e : Env} {s : State} {m : MethodId} {args : Array Value} {below : List Frame} {meth : Method} {c : Code} (C : pw_C p s m args meth c cM_rounded 13 (some .long) "BitNumbersModel") {D : va_G} {ad : Nat → Nat} {A : Nat → Prop} (hK : va_K D clM (tyA ad) s) (hA : ∀ q, s.heap.size ≤ q → A q) (a1 : Int32) (a2 : Int32) (a4 : Int32) (s0 : Int32) (σ : MS) {H : Heap} {locs : List Loc} (hM : mw D ad A s.heap H locs σ) {ls : Array Slot} (hl : lv_has ls 13 [(0, .ref (ad 0)), (1, .int a1), (2, .int a2), (4, .int a4)]) : W p l e rmM_rounded s m args below meth c H locs 0 0 (MQ below (va_Ql (fun r u => (r, u) = fM_rounded_50 a1 a2 a4 s0 σ) (mw_E D ad A) A) args s 0 0 A) (F0 m 50 ls [.int s0]) := by
  obtain ⟨hx, hb, hr, hml, hown, hts, hlocks⟩ := id C
  refine lv_istore (lv' := [(5, .int s0), (0, .ref (ad 0)), (1, .int a1), (2, .int a2), (4, .int a4)]) hx hb dM_rounded_50 hl (by decide) rfl (fun ls hl => ?_)
  refine lv_lconst (v := 0) hx hb dM_rounded_52 (by decide) ?_
  refine lv_lstore (lv' := [(6, .long 0), (5, .int s0), (0, .ref (ad 0)), (1, .int a1), (2, .int a2), (4, .int a4)]) hx hb dM_rounded_53 hl (by decide) rfl (fun ls hl => ?_)
  refine lv_iload hx hb dM_rounded_55 (lv_at hl 5 rfl) ?_
  refine lv_iconst (v := 1) hx hb dM_rounded_57 (by decide) ?_
  refine lv_isub hx hb dM_rounded_58 ?_
  refine lv_istore (lv' := [(8, .int (a4 - 1)), (6, .long 0), (5, .int s0), (0, .ref (ad 0)), (1, .int a1), (2, .int a2), (4, .int a4)]) hx hb dM_rounded_59 hl (by decide) rfl (fun ls hl => ?_)
  rw [(show fM_rounded_50 a1 a2 a4 s0 σ = fM_rounded_61 (((a4 - 1).toInt + 2).toNat + 1) a1 a2 a4 s0 0 (a4 - 1) σ by rw [fM_rounded_50])]
  exact kM_rounded_61 C hK hA (((a4 - 1).toInt + 2).toNat + 1) a1 a2 a4 s0 0 (a4 - 1) σ (pw_U_init (a4 - 1) : pw_U (a4 - 1) (((a4 - 1).toInt + 2).toNat + 1)) hM (lv_sub hl [3, 4, 5, 6, 2, 1, 0] rfl)
set_option maxHeartbeats 4000000 in
set_option maxRecDepth 100000 in
theorem kM_rounded_32 {p : Program} {l : Launch} {e : Env} {s : State} {m : MethodId} {args : Array Value} {below : List Frame} {meth : Method} {c : Code} (C : pw_C p s m args meth c cM_rounded 13 (some .long) "BitNumbersModel") {D : va_G} {ad : Nat → Nat} {A : Nat → Prop} (hK : va_K D clM (tyA ad) s) (hA : ∀ q, s.heap.size ≤ q → A q) (a1 : Int32) (a2 : Int32) (a4 : Int32) (a5 : Int32) (σ : MS) {H : Heap} {locs : List Loc} (hM : mw D ad A s.heap H locs σ) {ls : Array Slot} (hl : lv_has ls 13 [(0, .ref (ad 0)), (1, .int a1), (2, .int a2), (4, .int a4), (5, .int a5)]) : W p l e rmM_rounded s m args below meth c H locs 0 0 (MQ below (va_Ql (fun r u => (r, u) = fM_rounded_32 a1 a2 a4 a5 σ) (mw_E D ad A) A) args s 0 0 A) (F0 m 32 ls []) := by
  obtain ⟨hx, hb, hr, hml, hown, hts, hlocks⟩ := id C
  refine lv_iload hx hb dM_rounded_32 (lv_at hl 4 rfl) ?_
  refine lv_iload_n hx hb dM_rounded_34 rfl (lv_at hl 1 rfl) ?_
  refine pw_call (va_runS (As := [.int a1]) (rest := [.int a5]) ⟨hx, hb, hml, hown, hts⟩ (qM_least l a1) (va_cwS 1 hts (gS w_669 w_670 w_34 w_671) rfl rfl rfl (by decide +kernel) ⟨Nat.le_of_ble_eq_true rfl, Nat.le_of_ble_eq_true rfl⟩) ⟨pw_bT, fun U hU hW => ⟨rfl, trivial⟩⟩ rfl rfl hl.1 rfl (lv_room (Nat.le_of_ble_eq_true rfl)) dM_rounded_35 ⟨Nat.zero_le _, Nat.zero_le _⟩) ?_
  refine lv_icmp_ge (tgt := 48) hx hb dM_rounded_38 (by decide) (fun h1 => ?_) (fun h1 => ?_)
  · refine lv_iload hx hb dM_rounded_48 (lv_at hl 4 rfl) ?_
    rw [(show fM_rounded_32 a1 a2 a4 a5 σ = fM_rounded_50 a1 a2 a4 a5 σ by rw [fM_rounded_32, if_pos h1])]
    exact kM_rounded_50 C hK hA a1 a2 a4 a5 σ hM (lv_sub hl [0, 1, 2, 3] rfl)
  · refine lv_iload_n hx hb dM_rounded_41 rfl (lv_at hl 1 rfl) ?_
    refine pw_call (va_runS (As := [.int a1]) (rest := []) ⟨hx, hb, hml, hown, hts⟩ (qM_least l a1) (va_cwS 1 hts (gS w_669 w_670 w_34 w_671) rfl rfl rfl (by decide +kernel) ⟨Nat.le_of_ble_eq_true rfl, Nat.le_of_ble_eq_true rfl⟩) ⟨pw_bT, fun U hU hW => ⟨rfl, trivial⟩⟩ rfl rfl hl.1 rfl (lv_room (Nat.le_of_ble_eq_true rfl)) dM_rounded_42 ⟨Nat.zero_le _, Nat.zero_le _⟩) ?_
    refine lv_goto (tgt := 50) hx hb dM_rounded_45 (by decide) ?_
    rw [(show fM_rounded_32 a1 a2 a4 a5 σ = fM_rounded_50 a1 a2 a4 (fM_least a1) σ by rw [fM_rounded_32, if_neg h1])]
    exact kM_rounded_50 C hK hA a1 a2 a4 (fM_least a1) σ hM (lv_sub hl [0, 1, 2, 3] rfl)
set_option maxHeartbeats 4000000 in
set_option maxRecDepth 100000 in
theorem kM_rounded_26 {p : Program} {l : Launch} {e : Env} {s : State} {m : MethodId} {args : Array Value} {below : List Frame} {meth : Method} {c : Code} (C : pw_C p s m args meth c cM_rounded 13 (some .long) "BitNumbersModel") {D : va_G} {ad : Nat → Nat} {A : Nat → Prop} (hK : va_K D clM (tyA ad) s) (hA : ∀ q, s.heap.size ≤ q → A q) (a1 : Int32) (a2 : Int32) (a4 : Int32) (a5 : Int32) (s0 : Int32) (σ : MS) {H : Heap} {locs : List Loc} (hM : mw D ad A s.heap H locs σ) {ls : Array Slot} (hl : lv_has ls 13 [(0, .ref (ad 0)), (1, .int a1), (2, .int a2), (4, .int a4), (5, .int a5)]) : W p l e rmM_rounded s m args below meth c H locs 0 0 (MQ below (va_Ql (fun r u => (r, u) = fM_rounded_26 a1 a2 a4 a5 s0 σ) (mw_E D ad A) A) args s 0 0 A) (F0 m 26 ls [.int s0]) := by
  obtain ⟨hx, hb, hr, hml, hown, hts, hlocks⟩ := id C
  refine lv_if_ge (tgt := 32) hx hb dM_rounded_26 (by decide) (fun h1 => ?_) (fun h1 => ?_)
  · rw [(show fM_rounded_26 a1 a2 a4 a5 s0 σ = fM_rounded_32 a1 a2 a4 a5 σ by rw [fM_rounded_26, if_pos h1])]
    exact kM_rounded_32 C hK hA a1 a2 a4 a5 σ hM (lv_sub hl [0, 1, 2, 3, 4] rfl)
  · refine lv_iinc (v := a5 + (-1)) (lv' := [(5, .int (a5 + (-1))), (0, .ref (ad 0)), (1, .int a1), (2, .int a2), (4, .int a4)]) hx hb dM_rounded_29 hl (k := 4) rfl rfl (by decide) rfl (fun ls hl => ?_)
    rw [(show fM_rounded_26 a1 a2 a4 a5 s0 σ = fM_rounded_32 a1 a2 a4 (a5 + (-1)) σ by rw [fM_rounded_26, if_neg h1])]
    exact kM_rounded_32 C hK hA a1 a2 a4 (a5 + (-1)) σ hM (lv_sub hl [1, 2, 3, 4, 0] rfl)
set_option maxHeartbeats 4000000 in
set_option maxRecDepth 100000 in
theorem kM_rounded_14 {p : Program} {l : Launch} {e : Env} {s : State} {m : MethodId} {args : Array Value} {below : List Frame} {meth : Method} {c : Code} (C : pw_C p s m args meth c cM_rounded 13 (some .long) "BitNumbersModel") {D : va_G} {ad : Nat → Nat} {A : Nat → Prop} (hK : va_K D clM (tyA ad) s) (hA : ∀ q, s.heap.size ≤ q → A q) (a1 : Int32) (a2 : Int32) (a4 : Int32) (a5 : Int32) (σ : MS) {H : Heap} {locs : List Loc} (hM : mw D ad A s.heap H locs σ) {ls : Array Slot} (hl : lv_has ls 13 [(0, .ref (ad 0)), (1, .int a1), (2, .int a2), (4, .int a4), (5, .int a5)]) : W p l e rmM_rounded s m args below meth c H locs 0 0 (MQ below (va_Ql (fun r u => (r, u) = fM_rounded_14 a1 a2 a4 a5 σ) (mw_E D ad A) A) args s 0 0 A) (F0 m 14 ls []) := by
  obtain ⟨hx, hb, hr, hml, hown, hts, hlocks⟩ := id C
  refine lv_aload_n hx hb dM_rounded_14 rfl (lv_at hl 0 rfl) ?_
  refine lv_lconst (v := 1) hx hb dM_rounded_15 (by decide) ?_
  refine lv_iload hx hb dM_rounded_16 (lv_at hl 3 rfl) ?_
  refine lv_iconst (v := 1) hx hb dM_rounded_18 (by decide) ?_
  refine lv_isub hx hb dM_rounded_19 ?_
  refine lv_lshl (v := bn_shl 1 (a4 - 1)) hx hb dM_rounded_20 rfl ?_
  refine lv_iload hx hb dM_rounded_21 (lv_at hl 4 rfl) ?_
  refine mw_calli (F := fM_order (bn_shl 1 (a4 - 1)) a5 σ) (va_runV (As := [.long (bn_shl 1 (a4 - 1)), .int a5]) (rest := []) ⟨hx, hb, hml, hown, hts⟩ (qM_order l D ad (bn_shl 1 (a4 - 1)) a5 σ H.size) (cwV 2 hts (gV w_679 w_681 w_10 w_34 w_682) rfl rfl rfl (by decide +kernel) ⟨Nat.le_of_ble_eq_true rfl, Nat.le_of_ble_eq_true rfl⟩) (mw_preV hK hM) rfl rfl hl.1 rfl (lv_room (Nat.le_of_ble_eq_true rfl)) dM_rounded_23 ⟨Nat.zero_le _, Nat.zero_le _⟩) hM hA (fun H locs hM => ?_)
  rw [(show fM_rounded_14 a1 a2 a4 a5 σ = fM_rounded_26 a1 a2 a4 a5 ((fM_order (bn_shl 1 (a4 - 1)) a5 σ).1) ((fM_order (bn_shl 1 (a4 - 1)) a5 σ).2) by rw [fM_rounded_14])]
  exact kM_rounded_26 C hK hA a1 a2 a4 a5 ((fM_order (bn_shl 1 (a4 - 1)) a5 σ).1) ((fM_order (bn_shl 1 (a4 - 1)) a5 σ).2) hM (lv_sub hl [0, 1, 2, 3, 4] rfl)
set_option maxHeartbeats 4000000 in
set_option maxRecDepth 100000 in
theorem kM_rounded_6 {p : Program} {l : Launch} {e : Env} {s : State} {m : MethodId} {args : Array Value} {below : List Frame} {meth : Method} {c : Code} (C : pw_C p s m args meth c cM_rounded 13 (some .long) "BitNumbersModel") {D : va_G} {ad : Nat → Nat} {A : Nat → Prop} (hK : va_K D clM (tyA ad) s) (hA : ∀ q, s.heap.size ≤ q → A q) (a1 : Int32) (a2 : Int32) (a3 : Int32) (a4 : Int32) (σ : MS) {H : Heap} {locs : List Loc} (hM : mw D ad A s.heap H locs σ) {ls : Array Slot} (hl : lv_has ls 13 [(0, .ref (ad 0)), (1, .int a1), (2, .int a2), (3, .int a3), (4, .int a4)]) : W p l e rmM_rounded s m args below meth c H locs 0 0 (MQ below (va_Ql (fun r u => (r, u) = fM_rounded_6 a1 a2 a3 a4 σ) (mw_E D ad A) A) args s 0 0 A) (F0 m 6 ls []) := by
  obtain ⟨hx, hb, hr, hml, hown, hts, hlocks⟩ := id C
  refine lv_iload_n hx hb dM_rounded_6 rfl (lv_at hl 3 rfl) ?_
  refine lv_iload hx hb dM_rounded_7 (lv_at hl 4 rfl) ?_
  refine lv_isub hx hb dM_rounded_9 ?_
  refine lv_iconst (v := 1) hx hb dM_rounded_10 (by decide) ?_
  refine lv_iadd hx hb dM_rounded_11 ?_
  refine lv_istore (lv' := [(5, .int ((a3 - a4) + 1)), (0, .ref (ad 0)), (1, .int a1), (2, .int a2), (3, .int a3), (4, .int a4)]) hx hb dM_rounded_12 hl (by decide) rfl (fun ls hl => ?_)
  rw [(show fM_rounded_6 a1 a2 a3 a4 σ = fM_rounded_14 a1 a2 a4 ((a3 - a4) + 1) σ by rw [fM_rounded_6])]
  exact kM_rounded_14 C hK hA a1 a2 a4 ((a3 - a4) + 1) σ hM (lv_sub hl [1, 2, 3, 5, 0] rfl)
set_option maxHeartbeats 4000000 in
set_option maxRecDepth 100000 in
theorem kM_rounded_0 {p : Program} {l : Launch} {e : Env} {s : State} {m : MethodId} {args : Array Value} {below : List Frame} {meth : Method} {c : Code} (C : pw_C p s m args meth c cM_rounded 13 (some .long) "BitNumbersModel") {D : va_G} {ad : Nat → Nat} {A : Nat → Prop} (hK : va_K D clM (tyA ad) s) (hA : ∀ q, s.heap.size ≤ q → A q) (a1 : Int32) (a2 : Int32) (a3 : Int32) (σ : MS) {H : Heap} {locs : List Loc} (hM : mw D ad A s.heap H locs σ) {ls : Array Slot} (hl : lv_has ls 13 [(0, .ref (ad 0)), (1, .int a1), (2, .int a2), (3, .int a3)]) : W p l e rmM_rounded s m args below meth c H locs 0 0 (MQ below (va_Ql (fun r u => (r, u) = fM_rounded a1 a2 a3 σ) (mw_E D ad A) A) args s 0 0 A) (F0 m 0 ls []) := by
  obtain ⟨hx, hb, hr, hml, hown, hts, hlocks⟩ := id C
  refine lv_iload_n hx hb dM_rounded_0 rfl (lv_at hl 1 rfl) ?_
  refine pw_call (va_runS (As := [.int a1]) (rest := []) ⟨hx, hb, hml, hown, hts⟩ (qM_precision l a1) (va_cwS 1 hts (gS w_597 w_598 w_34 w_599) rfl rfl rfl (by decide +kernel) ⟨Nat.le_of_ble_eq_true rfl, Nat.le_of_ble_eq_true rfl⟩) ⟨pw_bT, fun U hU hW => ⟨rfl, trivial⟩⟩ rfl rfl hl.1 rfl (lv_room (Nat.le_of_ble_eq_true rfl)) dM_rounded_1 ⟨Nat.zero_le _, Nat.zero_le _⟩) ?_
  refine lv_istore (lv' := [(4, .int (fM_precision a1)), (0, .ref (ad 0)), (1, .int a1), (2, .int a2), (3, .int a3)]) hx hb dM_rounded_4 hl (by decide) rfl (fun ls hl => ?_)
  rw [(show fM_rounded a1 a2 a3 σ = fM_rounded_6 a1 a2 a3 (fM_precision a1) σ by rw [fM_rounded])]
  exact kM_rounded_6 C hK hA a1 a2 a3 (fM_precision a1) σ hM (lv_sub hl [1, 2, 3, 4, 0] rfl)
set_option maxHeartbeats 4000000 in
set_option maxRecDepth 100000 in
theorem qM_rounded (l : Launch) (D : va_G) (ad : Nat → Nat) (a1 : Int32) (a2 : Int32) (a3 : Int32) (σ : MS) (sz : Nat) : Met l yM_rounded wsM_rounded rmM_rounded (va_Pc [.ref (ad 0), .int a1, .int a2, .int a3] (mw_B D ad σ sz)) (va_Ql (fun r u => (r, u) = fM_rounded a1 a2 a3 σ) (mw_E D ad (va_A (mw_c ad σ) sz)) (va_A (mw_c ad σ) sz)) 0 0 (va_A (mw_c ad σ) sz) := by
  refine Met.ofW (cc := cM_rounded) (maxL := 13) (ret := (some .long)) (by decide) rfl ?_
  intro p e s m args below meth c s₁ B hml hv
  obtain ⟨rfl, hsz, hP, hK, hD⟩ := hv
  have hts0 := atoms_spec (ws := wsM_rounded) B.pre
  have hts := fun (w : Cond) (h : w ∈ aw) => hts0 w (List.mem_cons_of_mem _ h)
  have hown : s.vm.findClass "BitNumbersModel" = some m.cls := findClass_of_methodNamed B.named
  subst hsz
  have hl := lv_entry ([.ref (ad 0), .int a1, .int a2, .int a3]) (n := 13) (Nat.le_of_ble_eq_true rfl)
  rw [lg_entry_eq]
  generalize (lg_sl ([.ref (ad 0), .int a1, .int a2, .int a3]) ++ List.replicate (13 - (lg_sl ([.ref (ad 0), .int a1, .int a2, .int a3])).length) Slot.unset).toArray = ls at hl ⊢
  exact kM_rounded_0 ⟨B.exec, B.bytes, B.returns, hml, hown, hts, B.notSynchronized⟩ hK (fun q h => Or.inr h) a1 a2 a3 σ ⟨hP, hD.self, va_S.rf⟩ hl

set_option maxHeartbeats 4000000 in
set_option maxRecDepth 100000 in
theorem kM_bound_9 {p : Program} {l : Launch} {e : Env} {s : State} {m : MethodId} {args : Array Value} {below : List Frame} {meth : Method} {c : Code} (C : pw_C p s m args meth c cM_bound 5 (some .long) "BitNumbersModel") {D : va_G} {ad : Nat → Nat} {A : Nat → Prop} (hK : va_K D clM (tyA ad) s) (hA : ∀ q, s.heap.size ≤ q → A q) (a3 : Int64) (σ : MS) {H : Heap} {locs : List Loc} (hM : mw D ad A s.heap H locs σ) {ls : Array Slot} (hl : lv_has ls 5 [(3, .long a3)]) : W p l e rmM_bound s m args below meth c H locs 0 0 (MQ below (va_Ql (fun r u => (r, u) = fM_bound_9 a3 σ) (mw_E D ad A) A) args s 0 0 A) (F0 m 9 ls []) := by
  obtain ⟨hx, hb, hr, hml, hown, hts, hlocks⟩ := id C
  refine lv_lload_n hx hb dM_bound_9 rfl (lv_at hl 0 rfl) ?_
  exact W.lret (v := a3) hx hb hr (fun t ht hW => ⟨⟨a3, σ, rfl, by rw [(show fM_bound_9 a3 σ = (a3, σ) by rw [fM_bound_9])], by rw [ht]; exact hM.1, va_K.moved hW.alike hK, hM.2.1⟩, hM.2.2.F ht⟩) hM.2.2.2.2 dM_bound_10
set_option maxHeartbeats 4000000 in
set_option maxRecDepth 100000 in
theorem kM_bound_0 {p : Program} {l : Launch} {e : Env} {s : State} {m : MethodId} {args : Array Value} {below : List Frame} {meth : Method} {c : Code} (C : pw_C p s m args meth c cM_bound 5 (some .long) "BitNumbersModel") {D : va_G} {ad : Nat → Nat} {A : Nat → Prop} (hK : va_K D clM (tyA ad) s) (hA : ∀ q, s.heap.size ≤ q → A q) (a1 : Int32) (a2 : Int32) (a3 : Int64) (σ : MS) {H : Heap} {locs : List Loc} (hM : mw D ad A s.heap H locs σ) {ls : Array Slot} (hl : lv_has ls 5 [(0, .ref (ad 0)), (1, .int a1), (2, .int a2), (3, .long a3)]) : W p l e rmM_bound s m args below meth c H locs 0 0 (MQ below (va_Ql (fun r u => (r, u) = fM_bound a1 a2 a3 σ) (mw_E D ad A) A) args s 0 0 A) (F0 m 0 ls []) := by
  obtain ⟨hx, hb, hr, hml, hown, hts, hlocks⟩ := id C
  refine lv_iload_n hx hb dM_bound_0 rfl (lv_at hl 1 rfl) ?_
  refine lv_if_ne (tgt := 9) hx hb dM_bound_1 (by decide) (fun h1 => ?_) (fun h1 => ?_)
  · rw [(show fM_bound a1 a2 a3 σ = fM_bound_9 a3 σ by rw [fM_bound, if_neg h1])]
    exact kM_bound_9 C hK hA a3 σ hM (lv_sub hl [3] rfl)
  · refine lv_aload_n hx hb dM_bound_4 rfl (lv_at hl 0 rfl) ?_
    refine lv_iload_n hx hb dM_bound_5 rfl (lv_at hl 2 rfl) ?_
    refine mw_put (v := .int a2) (ty := .int) (σ' := ms_set_trap σ a2) hx hb hts hown hK hM 1 (by decide) (hts _ w_488) rfl (by decide +kernel) rfl rfl (mw_pt_trap _ _ _) dM_bound_6 (fun H locs hM => ?_)
    rw [(show fM_bound a1 a2 a3 σ = fM_bound_9 a3 (ms_set_trap σ a2) by rw [fM_bound, if_pos h1])]
    exact kM_bound_9 C hK hA a3 (ms_set_trap σ a2) hM (lv_sub hl [3] rfl)
set_option maxHeartbeats 4000000 in
set_option maxRecDepth 100000 in
theorem qM_bound (l : Launch) (D : va_G) (ad : Nat → Nat) (a1 : Int32) (a2 : Int32) (a3 : Int64) (σ : MS) (sz : Nat) : Met l yM_bound wsM_bound rmM_bound (va_Pc [.ref (ad 0), .int a1, .int a2, .long a3] (mw_B D ad σ sz)) (va_Ql (fun r u => (r, u) = fM_bound a1 a2 a3 σ) (mw_E D ad (va_A (mw_c ad σ) sz)) (va_A (mw_c ad σ) sz)) 0 0 (va_A (mw_c ad σ) sz) := by
  refine Met.ofW (cc := cM_bound) (maxL := 5) (ret := (some .long)) (by decide) rfl ?_
  intro p e s m args below meth c s₁ B hml hv
  obtain ⟨rfl, hsz, hP, hK, hD⟩ := hv
  have hts0 := atoms_spec (ws := wsM_bound) B.pre
  have hts := fun (w : Cond) (h : w ∈ aw) => hts0 w (List.mem_cons_of_mem _ h)
  have hown : s.vm.findClass "BitNumbersModel" = some m.cls := findClass_of_methodNamed B.named
  subst hsz
  have hl := lv_entry ([.ref (ad 0), .int a1, .int a2, .long a3]) (n := 5) (Nat.le_of_ble_eq_true rfl)
  rw [lg_entry_eq]
  generalize (lg_sl ([.ref (ad 0), .int a1, .int a2, .long a3]) ++ List.replicate (5 - (lg_sl ([.ref (ad 0), .int a1, .int a2, .long a3])).length) Slot.unset).toArray = ls at hl ⊢
  exact kM_bound_0 ⟨B.exec, B.bytes, B.returns, hml, hown, hts, B.notSynchronized⟩ hK (fun q h => Or.inr h) a1 a2 a3 σ ⟨hP, hD.self, va_S.rf⟩ hl

set_option maxHeartbeats 4000000 in
set_option maxRecDepth 100000 in
theorem kM_trap_0 {p : Program} {l : Launch} {e : Env} {s : State} {m : MethodId} {args : Array Value} {below : List Frame} {meth : Method} {c : Code} (C : pw_C p s m args meth c cM_trap 1 (some .int) "BitNumbersModel") {D : va_G} {ad : Nat → Nat} {A : Nat → Prop} (hK : va_K D clM (tyA ad) s) (hA : ∀ q, s.heap.size ≤ q → A q) (σ : MS) {H : Heap} {locs : List Loc} (hM : mw D ad A s.heap H locs σ) {ls : Array Slot} (hl : lv_has ls 1 [(0, .ref (ad 0))]) : W p l e rmM_trap s m args below meth c H locs 0 0 (MQ below (va_Qi (fun r u => (r, u) = fM_trap σ) (mw_E D ad A) A) args s 0 0 A) (F0 m 0 ls []) := by
  obtain ⟨hx, hb, hr, hml, hown, hts, hlocks⟩ := id C
  refine lv_aload_n hx hb dM_trap_0 rfl (lv_at hl 0 rfl) ?_
  refine lv_iconst (v := 0) hx hb dM_trap_1 (by decide) ?_
  refine mw_put (v := .int 0) (ty := .int) (σ' := ms_set_thrown σ 0) hx hb hts hown hK hM 0 (by decide) (hts _ w_487) rfl (by decide +kernel) rfl rfl (mw_pt_thrown _ _ _) dM_trap_2 (fun H locs hM => ?_)
  refine lv_aload_n hx hb dM_trap_5 rfl (lv_at hl 0 rfl) ?_
  refine mw_get (v := .int (ms_trap (ms_set_thrown σ 0))) hx hb hts hown hK hM 1 (by decide) (hts _ w_488) (mw_fd_trap _ _) dM_trap_6 ?_
  exact W.iret (v := ms_trap (ms_set_thrown σ 0)) hx hb hr (fun t ht hW => ⟨⟨ms_trap (ms_set_thrown σ 0), ms_set_thrown σ 0, rfl, by rw [(show fM_trap σ = (ms_trap (ms_set_thrown σ 0), ms_set_thrown σ 0) by rw [fM_trap])], by rw [ht]; exact hM.1, va_K.moved hW.alike hK, hM.2.1⟩, hM.2.2.F ht⟩) hM.2.2.2.2 dM_trap_9
set_option maxHeartbeats 4000000 in
set_option maxRecDepth 100000 in
theorem qM_trap (l : Launch) (D : va_G) (ad : Nat → Nat)  (σ : MS) (sz : Nat) : Met l yM_trap wsM_trap rmM_trap (va_Pc [.ref (ad 0)] (mw_B D ad σ sz)) (va_Qi (fun r u => (r, u) = fM_trap σ) (mw_E D ad (va_A (mw_c ad σ) sz)) (va_A (mw_c ad σ) sz)) 0 0 (va_A (mw_c ad σ) sz) := by
  refine Met.ofW (cc := cM_trap) (maxL := 1) (ret := (some .int)) (by decide) rfl ?_
  intro p e s m args below meth c s₁ B hml hv
  obtain ⟨rfl, hsz, hP, hK, hD⟩ := hv
  have hts0 := atoms_spec (ws := wsM_trap) B.pre
  have hts := fun (w : Cond) (h : w ∈ aw) => hts0 w (List.mem_cons_of_mem _ h)
  have hown : s.vm.findClass "BitNumbersModel" = some m.cls := findClass_of_methodNamed B.named
  subst hsz
  have hl := lv_entry ([.ref (ad 0)]) (n := 1) (Nat.le_of_ble_eq_true rfl)
  rw [lg_entry_eq]
  generalize (lg_sl ([.ref (ad 0)]) ++ List.replicate (1 - (lg_sl ([.ref (ad 0)])).length) Slot.unset).toArray = ls at hl ⊢
  exact kM_trap_0 ⟨B.exec, B.bytes, B.returns, hml, hown, hts, B.notSynchronized⟩ hK (fun q h => Or.inr h) σ ⟨hP, hD.self, va_S.rf⟩ hl

