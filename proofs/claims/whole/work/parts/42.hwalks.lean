def fM_clearRows_2 : Nat → Int32 → MS → MS
  | 0, _, σ => σ
  | n + 1, a1, σ =>
    (if 320 ≤ a1 then σ else (fM_clearRows_2 n (a1 + 1) (ms_set_other (ms_set_row σ (upd (ms_row σ) a1.toNatClampNeg 0)) (upd (ms_other (ms_set_row σ (upd (ms_row σ) a1.toNatClampNeg 0))) a1.toNatClampNeg 0))))
def fM_clearRows (σ : MS) : MS :=
  (fM_clearRows_2 321 0 σ)
def fM_compareRows_4 : Nat → Int32 → MS → Int32 × MS
  | 0, _, σ => (0, σ)
  | n + 1, a1, σ =>
    (if a1 < 0 then (0, σ) else (if (ms_row σ a1.toNatClampNeg) = (ms_other σ a1.toNatClampNeg) then (fM_compareRows_4 n (a1 + (-1)) σ) else (if (ms_other σ a1.toNatClampNeg) ≤ (ms_row σ a1.toNatClampNeg) then (1, σ) else ((-1), σ))))
def fM_compareRows (σ : MS) : Int32 × MS :=
  (fM_compareRows_4 321 319 σ)
def fM_addRows_42 (K : Int32 → Int32 → MS → MS) (a1 : Int32) (a2 : Int32) (σ : MS) : MS :=
  (K a1 (a2 + 1) σ)
def fM_addRows_27 (K : Int32 → Int32 → MS → MS) (a2 : Int32) (a3 : Int32) (σ : MS) : MS :=
  (fM_addRows_42 K (a3 >>> (16 &&& 31)) a2 (ms_set_row σ (upd (ms_row σ) a2.toNatClampNeg (a3 &&& 65535))))
def fM_addRows_4 : Nat → Int32 → Int32 → MS → MS
  | 0, _, _, σ => σ
  | n + 1, a1, a2, σ =>
    (if 320 ≤ a2 then σ else (fM_addRows_27 (fM_addRows_4 n) a2 (((ms_row σ a2.toNatClampNeg) + (ms_other σ a2.toNatClampNeg)) + a1) σ))
def fM_addRows (σ : MS) : MS :=
  (fM_addRows_4 321 0 0 σ)
def fM_subtractRows_69 (K : Int32 → Int32 → Int32 → MS → MS) (a1 : Int32) (a3 : Int32) (s0 : Int32) (σ : MS) : MS :=
  (K a1 s0 (a3 + 1) σ)
def fM_subtractRows_48 (K : Int32 → Int32 → Int32 → MS → MS) (a1 : Int32) (a3 : Int32) (a4 : Int32) (σ : MS) : MS :=
  (if 0 ≤ a4 then (fM_subtractRows_69 K a1 a3 0 (ms_set_row σ (upd (ms_row σ) a3.toNatClampNeg (a4 &&& 65535)))) else (fM_subtractRows_69 K a1 a3 1 (ms_set_row σ (upd (ms_row σ) a3.toNatClampNeg (a4 &&& 65535)))))
def fM_subtractRows_44 (K : Int32 → Int32 → Int32 → MS → MS) (a1 : Int32) (a2 : Int32) (a3 : Int32) (s0 : Int32) (σ : MS) : MS :=
  (fM_subtractRows_48 K a1 a3 (s0 - a2) σ)
def fM_subtractRows_4 : Nat → Int32 → Int32 → Int32 → MS → MS
  | 0, _, _, _, σ => σ
  | n + 1, a1, a2, a3, σ =>
    (if 320 ≤ a3 then σ else (if a1 = 0 then (fM_subtractRows_44 (fM_subtractRows_4 n) a1 a2 a3 ((ms_row σ a3.toNatClampNeg) - (ms_other σ a3.toNatClampNeg)) σ) else (fM_subtractRows_44 (fM_subtractRows_4 n) a1 a2 a3 ((ms_other σ a3.toNatClampNeg) - (ms_row σ a3.toNatClampNeg)) σ)))
def fM_subtractRows (a1 : Int32) (σ : MS) : MS :=
  (fM_subtractRows_4 321 a1 0 0 σ)
def fM_measure_12 : Nat → MS → MS
  | 0, σ => σ
  | n + 1, σ =>
    (if (ms_held σ) ≤ 0 then σ else (if (ms_row σ ((ms_held σ) - 1).toNatClampNeg) = 0 then (fM_measure_12 n (ms_set_held σ ((ms_held σ) - 1))) else σ))
def fM_measure (σ : MS) : MS :=
  (fM_measure_12 321 (ms_set_held (ms_set_mode σ 0) 320))
def fM_highestOfRow (σ : MS) : Int32 × MS :=
  (((16 * ((ms_held σ) - 1)) + (fM_highest ((ms_row σ ((ms_held σ) - 1).toNatClampNeg).toInt64))) + (ms_base σ), σ)
def fM_multiply_109 (K : Int64 → Int64 → Int32 → Int64 → Int32 → MS → MS) (a1 : Int64) (a3 : Int64) (a5 : Int32) (a6 : Int64) (a8 : Int32) (σ : MS) : MS :=
  (K a1 a3 a5 a6 (a8 + 1) σ)
def fM_multiply_85 (K : Int64 → Int64 → Int32 → Int64 → Int32 → MS → MS) (a1 : Int64) (a3 : Int64) (a5 : Int32) (a8 : Int32) (a9 : Int64) (σ : MS) : MS :=
  (fM_multiply_109 K a1 a3 a5 (bn_sar a9 16) a8 (ms_set_factor σ (upd (ms_factor σ) (a5 + a8).toNatClampNeg ((a9 &&& 65535).toInt32))))
def fM_multiply_39 : Nat → (Int64 → Int64 → Int32 → MS → MS) → Int64 → Int64 → Int32 → Int64 → Int32 → MS → MS
  | 0, _, _, _, _, _, _, σ => σ
  | n + 1, K, a1, a3, a5, a6, a8, σ =>
    (if 4 ≤ a8 then (K a1 a3 (a5 + 1) (ms_set_factor σ (upd (ms_factor σ) (a5 + 4).toNatClampNeg a6.toInt32))) else (fM_multiply_85 (fM_multiply_39 n K) a1 a3 a5 a8 (((((bn_shr a1 (16 * a5)) &&& 65535) * ((bn_shr a3 (16 * a8)) &&& 65535)) + ((ms_factor σ (a5 + a8).toNatClampNeg).toInt64)) + a6) σ))
def fM_multiply_27 : Nat → Int64 → Int64 → Int32 → MS → MS
  | 0, _, _, _, σ => σ
  | n + 1, a1, a3, a5, σ =>
    (if 4 ≤ a5 then σ else (fM_multiply_39 5 (fM_multiply_27 n) a1 a3 a5 0 0 σ))
def fM_multiply_3 : Nat → Int64 → Int64 → Int32 → MS → MS
  | 0, _, _, _, σ => σ
  | n + 1, a1, a3, a5, σ =>
    (if 16 ≤ a5 then (fM_multiply_27 5 a1 a3 0 σ) else (fM_multiply_3 n a1 a3 (a5 + 1) (ms_set_factor σ (upd (ms_factor σ) a5.toNatClampNeg 0))))
def fM_multiply (a1 : Int64) (a3 : Int64) (σ : MS) : MS :=
  (fM_multiply_3 17 a1 a3 0 σ)
def fM_shifted_58 (a4 : Int32) (a5 : Int32) (s0 : Int32) (σ : MS) : Int32 × MS :=
  (((a5 <<< (a4 &&& 31)) ||| (s0 >>> ((16 - a4) &&& 31))) &&& 65535, σ)
def fM_shifted_57 (a4 : Int32) (a5 : Int32) (σ : MS) : Int32 × MS :=
  (fM_shifted_58 a4 a5 0 σ)
def fM_shifted_33 (a3 : Int32) (a4 : Int32) (s0 : Int32) (σ : MS) : Int32 × MS :=
  (if a3 < 1 then (fM_shifted_57 a4 s0 σ) else (if 17 ≤ a3 then (fM_shifted_57 a4 s0 σ) else (fM_shifted_58 a4 s0 (ms_factor σ (a3 - 1).toNatClampNeg) σ)))
def fM_shifted_32 (a3 : Int32) (a4 : Int32) (σ : MS) : Int32 × MS :=
  (fM_shifted_33 a3 a4 0 σ)
def fM_shifted_13 (a3 : Int32) (a4 : Int32) (σ : MS) : Int32 × MS :=
  (if a3 < 0 then (fM_shifted_32 a3 a4 σ) else (if 16 ≤ a3 then (fM_shifted_32 a3 a4 σ) else (fM_shifted_33 a3 a4 (ms_factor σ a3.toNatClampNeg) σ)))
def fM_shifted_7 (a1 : Int32) (a3 : Int32) (σ : MS) : Int32 × MS :=
  (fM_shifted_13 a3 (a1 - a1 / 16 * 16) σ)
def fM_shifted (a1 : Int32) (a2 : Int32) (σ : MS) : Int32 × MS :=
  (fM_shifted_7 a1 (a2 - (a1 / 16)) σ)
def fM_compareFactor_74 (K : Int64 → Int32 → Int32 → Int32 → MS → Int32 × MS) (a1 : Int64) (a3 : Int32) (a4 : Int32) (a6 : Int32) (a7 : Int32) (a8 : Int32) (σ : MS) : Int32 × MS :=
  (if a7 = a8 then (K a1 a3 a4 (a6 + (-1)) σ) else (if a8 ≤ a7 then (1, σ) else ((-1), σ)))
def fM_compareFactor_67 (K : Int64 → Int32 → Int32 → Int32 → MS → Int32 × MS) (a1 : Int64) (a3 : Int32) (a4 : Int32) (a6 : Int32) (a7 : Int32) (s0 : Int32) (s1 : Int64) (σ : MS) : Int32 × MS :=
  (fM_compareFactor_74 K a1 a3 a4 a6 a7 (fM_digit s1 s0 a6) σ)
def fM_compareFactor_57 (K : Int64 → Int32 → Int32 → Int32 → MS → Int32 × MS) (a1 : Int64) (a3 : Int32) (a4 : Int32) (a6 : Int32) (a7 : Int32) (σ : MS) : Int32 × MS :=
  (if a3 ≤ 0 then (fM_compareFactor_67 K a1 a3 a4 a6 a7 0 a1 σ) else (fM_compareFactor_67 K a1 a3 a4 a6 a7 a3 a1 σ))
def fM_compareFactor_55 (K : Int64 → Int32 → Int32 → Int32 → MS → Int32 × MS) (a1 : Int64) (a3 : Int32) (a4 : Int32) (a6 : Int32) (s0 : Int32) (σ : MS) : Int32 × MS :=
  (fM_compareFactor_57 K a1 a3 a4 a6 s0 σ)
def fM_compareFactor_42 : Nat → Int64 → Int32 → Int32 → Int32 → MS → Int32 × MS
  | 0, _, _, _, _, σ => (0, σ)
  | n + 1, a1, a3, a4, a6, σ =>
    (if a6 < 0 then (0, σ) else (fM_compareFactor_55 (fM_compareFactor_42 n) a1 a3 a4 a6 ((fM_shifted a4 a6 σ).1) ((fM_shifted a4 a6 σ).2)))
def fM_compareFactor_38 (a1 : Int64) (a3 : Int32) (a4 : Int32) (a5 : Int32) (σ : MS) : Int32 × MS :=
  (fM_compareFactor_42 ((a5.toInt + 2).toNat + 1) a1 a3 a4 a5 σ)
def fM_compareFactor_35 (a1 : Int64) (a3 : Int32) (a4 : Int32) (s0 : Int32) (s1 : Int32) (σ : MS) : Int32 × MS :=
  (fM_compareFactor_38 a1 a3 a4 (s1 + s0) σ)
def fM_compareFactor_10 (a1 : Int64) (a3 : Int32) (s0 : Int32) (σ : MS) : Int32 × MS :=
  (if a3 ≤ 0 then (fM_compareFactor_35 a1 a3 s0 0 ((s0 + 144) / 16) σ) else (fM_compareFactor_35 a1 a3 s0 ((a3 / 16) + 5) ((s0 + 144) / 16) σ))
def fM_compareFactor (a1 : Int64) (a3 : Int32) (σ : MS) : Int32 × MS :=
  (if 0 ≤ a3 then (fM_compareFactor_10 a1 a3 0 σ) else (fM_compareFactor_10 a1 a3 (-a3) σ))
def fM_set_row_3 : Nat → Int64 → Int32 → Int32 → MS → MS
  | 0, _, _, _, σ => σ
  | n + 1, a1, a3, a4, σ =>
    (if 320 ≤ a4 then σ else (fM_set_row_3 n a1 a3 (a4 + 1) (ms_set_row σ (upd (ms_row σ) a4.toNatClampNeg (fM_digit a1 a3 a4)))))
def fM_set_row (a1 : Int64) (a3 : Int32) (σ : MS) : MS :=
  (fM_set_row_3 321 a1 a3 0 σ)
def fM_set_other_3 : Nat → Int64 → Int32 → Int32 → MS → MS
  | 0, _, _, _, σ => σ
  | n + 1, a1, a3, a4, σ =>
    (if 320 ≤ a4 then σ else (fM_set_other_3 n a1 a3 (a4 + 1) (ms_set_other σ (upd (ms_other σ) a4.toNatClampNeg (fM_digit a1 a3 a4)))))
def fM_set_other (a1 : Int64) (a3 : Int32) (σ : MS) : MS :=
  (fM_set_other_3 321 a1 a3 0 σ)
set_option maxHeartbeats 4000000 in
set_option maxRecDepth 100000 in
theorem kM_clearRows_2 {p : Program} {l : Launch} {e : Env} {s : State} {m : MethodId} {args : Array Value} {below : List Frame} {meth : Method} {c : Code} (C : pw_C p s m args meth c cM_clearRows 2 none "BitNumbersModel") {D : va_G} {ad : Nat → Nat} {A : Nat → Prop} (hK : va_K D clM (tyA ad) s) (hA : ∀ q, s.heap.size ≤ q → A q) : ∀ (n : Nat) (a1 : Int32) (σ : MS) (hI : pw_I a1 n 320) {H : Heap} {locs : List Loc} (hM : mw D ad A s.heap H locs σ) {ls : Array Slot} (hl : lv_has ls 2 [(0, .ref (ad 0)), (1, .int a1)]), W p l e rmM_clearRows s m args below meth c H locs 0 0 (MQ below (va_Qv (fun u => u = fM_clearRows_2 n a1 σ) (mw_E D ad A) A) args s 0 0 A) (F0 m 2 ls []) := by
  obtain ⟨hx, hb, hr, hml, hown, hts, hlocks⟩ := id C
  intro n
  induction n with
  | zero =>
    intro a1 σ hI
    exact absurd hI pw_I_zero
  | succ n ih =>
    intro a1 σ hI H locs hM ls hl
    refine lv_iload_n hx hb dM_clearRows_2 rfl (lv_at hl 1 rfl) ?_
    refine lv_sipush (v := 320) hx hb dM_clearRows_3 (by decide) ?_
    refine lv_icmp_ge (tgt := 29) hx hb dM_clearRows_6 (by decide) (fun h1 => ?_) (fun h1 => ?_)
    · exact W.vret hx hb hr (fun t ht hW => ⟨⟨σ, rfl, by rw [(show fM_clearRows_2 (n + 1) a1 σ = σ by rw [fM_clearRows_2, if_pos h1])], by rw [ht]; exact hM.1, va_K.moved hW.alike hK, hM.2.1⟩, hM.2.2.F ht⟩) hM.2.2.2.2 dM_clearRows_29
    · refine lv_aload_n hx hb dM_clearRows_9 rfl (lv_at hl 0 rfl) ?_
      refine mw_get (v := .ref (ad 3)) hx hb hts hown hK hM 5 (by decide) (hts _ w_492) (mw_fd_row _ _) dM_clearRows_10 ?_
      refine lv_iload_n hx hb dM_clearRows_13 rfl (lv_at hl 1 rfl) ?_
      refine lv_iconst (v := 0) hx hb dM_clearRows_14 (by decide) ?_
      refine mw_iast (σ' := ms_set_row σ (upd (ms_row σ) a1.toNatClampNeg 0)) hx hb hK hM 3 (mw_ar_row _ _) (pw_B_in (pw_I_body hI h1) (by decide)) (mw_st_row _ _ _) dM_clearRows_15 (fun H locs hM => ?_)
      refine lv_aload_n hx hb dM_clearRows_16 rfl (lv_at hl 0 rfl) ?_
      refine mw_get (v := .ref (ad 4)) hx hb hts hown hK hM 6 (by decide) (hts _ w_493) (mw_fd_other _ _) dM_clearRows_17 ?_
      refine lv_iload_n hx hb dM_clearRows_20 rfl (lv_at hl 1 rfl) ?_
      refine lv_iconst (v := 0) hx hb dM_clearRows_21 (by decide) ?_
      refine mw_iast (σ' := ms_set_other (ms_set_row σ (upd (ms_row σ) a1.toNatClampNeg 0)) (upd (ms_other (ms_set_row σ (upd (ms_row σ) a1.toNatClampNeg 0))) a1.toNatClampNeg 0)) hx hb hK hM 4 (mw_ar_other _ _) (pw_B_in (pw_I_body hI h1) (by decide)) (mw_st_other _ _ _) dM_clearRows_22 (fun H locs hM => ?_)
      refine lv_iinc (v := a1 + 1) (lv' := [(1, .int (a1 + 1)), (0, .ref (ad 0))]) hx hb dM_clearRows_23 hl (k := 1) rfl rfl (by decide) rfl (fun ls hl => ?_)
      refine lv_goto (tgt := 2) hx hb dM_clearRows_26 (by decide) ?_
      rw [(show fM_clearRows_2 (n + 1) a1 σ = fM_clearRows_2 n (a1 + 1) (ms_set_other (ms_set_row σ (upd (ms_row σ) a1.toNatClampNeg 0)) (upd (ms_other (ms_set_row σ (upd (ms_row σ) a1.toNatClampNeg 0))) a1.toNatClampNeg 0)) by rw [fM_clearRows_2, if_neg h1])]
      exact ih (a1 + 1) (ms_set_other (ms_set_row σ (upd (ms_row σ) a1.toNatClampNeg 0)) (upd (ms_other (ms_set_row σ (upd (ms_row σ) a1.toNatClampNeg 0))) a1.toNatClampNeg 0)) (pw_B_next (pw_I_body hI h1)) hM (lv_sub hl [1, 0] rfl)
set_option maxHeartbeats 4000000 in
set_option maxRecDepth 100000 in
theorem kM_clearRows_0 {p : Program} {l : Launch} {e : Env} {s : State} {m : MethodId} {args : Array Value} {below : List Frame} {meth : Method} {c : Code} (C : pw_C p s m args meth c cM_clearRows 2 none "BitNumbersModel") {D : va_G} {ad : Nat → Nat} {A : Nat → Prop} (hK : va_K D clM (tyA ad) s) (hA : ∀ q, s.heap.size ≤ q → A q) (σ : MS) {H : Heap} {locs : List Loc} (hM : mw D ad A s.heap H locs σ) {ls : Array Slot} (hl : lv_has ls 2 [(0, .ref (ad 0))]) : W p l e rmM_clearRows s m args below meth c H locs 0 0 (MQ below (va_Qv (fun u => u = fM_clearRows σ) (mw_E D ad A) A) args s 0 0 A) (F0 m 0 ls []) := by
  obtain ⟨hx, hb, hr, hml, hown, hts, hlocks⟩ := id C
  refine lv_iconst (v := 0) hx hb dM_clearRows_0 (by decide) ?_
  refine lv_istore_n (lv' := [(1, .int 0), (0, .ref (ad 0))]) hx hb dM_clearRows_1 rfl hl (by decide) rfl (fun ls hl => ?_)
  rw [(show fM_clearRows σ = fM_clearRows_2 321 0 σ by rw [fM_clearRows])]
  exact kM_clearRows_2 C hK hA 321 0 σ (⟨0, by decide, by decide, by decide⟩ : pw_I 0 321 320) hM (lv_sub hl [1, 0] rfl)
set_option maxHeartbeats 4000000 in
set_option maxRecDepth 100000 in
theorem qM_clearRows (l : Launch) (D : va_G) (ad : Nat → Nat)  (σ : MS) (sz : Nat) : Met l yM_clearRows wsM_clearRows rmM_clearRows (va_Pc [.ref (ad 0)] (mw_B D ad σ sz)) (va_Qv (fun u => u = fM_clearRows σ) (mw_E D ad (va_A (mw_c ad σ) sz)) (va_A (mw_c ad σ) sz)) 0 0 (va_A (mw_c ad σ) sz) := by
  refine Met.ofW (cc := cM_clearRows) (maxL := 2) (ret := none) (by decide) rfl ?_
  intro p e s m args below meth c s₁ B hml hv
  obtain ⟨rfl, hsz, hP, hK, hD⟩ := hv
  have hts0 := atoms_spec (ws := wsM_clearRows) B.pre
  have hts := fun (w : Cond) (h : w ∈ aw) => hts0 w (List.mem_cons_of_mem _ h)
  have hown : s.vm.findClass "BitNumbersModel" = some m.cls := findClass_of_methodNamed B.named
  subst hsz
  have hl := lv_entry ([.ref (ad 0)]) (n := 2) (Nat.le_of_ble_eq_true rfl)
  rw [lg_entry_eq]
  generalize (lg_sl ([.ref (ad 0)]) ++ List.replicate (2 - (lg_sl ([.ref (ad 0)])).length) Slot.unset).toArray = ls at hl ⊢
  exact kM_clearRows_0 ⟨B.exec, B.bytes, B.returns, hml, hown, hts, B.notSynchronized⟩ hK (fun q h => Or.inr h) σ ⟨hP, hD.self, va_S.rf⟩ hl

set_option maxHeartbeats 4000000 in
set_option maxRecDepth 100000 in
theorem kM_compareRows_4 {p : Program} {l : Launch} {e : Env} {s : State} {m : MethodId} {args : Array Value} {below : List Frame} {meth : Method} {c : Code} (C : pw_C p s m args meth c cM_compareRows 2 (some .int) "BitNumbersModel") {D : va_G} {ad : Nat → Nat} {A : Nat → Prop} (hK : va_K D clM (tyA ad) s) (hA : ∀ q, s.heap.size ≤ q → A q) : ∀ (n : Nat) (a1 : Int32) (σ : MS) (hI : pw_V a1 n 321) {H : Heap} {locs : List Loc} (hM : mw D ad A s.heap H locs σ) {ls : Array Slot} (hl : lv_has ls 2 [(0, .ref (ad 0)), (1, .int a1)]), W p l e rmM_compareRows s m args below meth c H locs 0 0 (MQ below (va_Qi (fun r u => (r, u) = fM_compareRows_4 n a1 σ) (mw_E D ad A) A) args s 0 0 A) (F0 m 4 ls []) := by
  obtain ⟨hx, hb, hr, hml, hown, hts, hlocks⟩ := id C
  intro n
  induction n with
  | zero =>
    intro a1 σ hI
    exact absurd hI pw_V_zero
  | succ n ih =>
    intro a1 σ hI H locs hM ls hl
    refine lv_iload_n hx hb dM_compareRows_4 rfl (lv_at hl 1 rfl) ?_
    refine lv_if_lt (tgt := 50) hx hb dM_compareRows_5 (by decide) (fun h1 => ?_) (fun h1 => ?_)
    · refine lv_iconst (v := 0) hx hb dM_compareRows_50 (by decide) ?_
      exact W.iret (v := 0) hx hb hr (fun t ht hW => ⟨⟨0, σ, rfl, by rw [(show fM_compareRows_4 (n + 1) a1 σ = (0, σ) by rw [fM_compareRows_4, if_pos h1])], by rw [ht]; exact hM.1, va_K.moved hW.alike hK, hM.2.1⟩, hM.2.2.F ht⟩) hM.2.2.2.2 dM_compareRows_51
    · refine lv_aload_n hx hb dM_compareRows_8 rfl (lv_at hl 0 rfl) ?_
      refine mw_get (v := .ref (ad 3)) hx hb hts hown hK hM 5 (by decide) (hts _ w_492) (mw_fd_row _ _) dM_compareRows_9 ?_
      refine lv_iload_n hx hb dM_compareRows_12 rfl (lv_at hl 1 rfl) ?_
      refine mw_iald hx hb hK hM 3 (mw_ar_row _ _) (pw_Vin hI h1) dM_compareRows_13 ?_
      refine lv_aload_n hx hb dM_compareRows_14 rfl (lv_at hl 0 rfl) ?_
      refine mw_get (v := .ref (ad 4)) hx hb hts hown hK hM 6 (by decide) (hts _ w_493) (mw_fd_other _ _) dM_compareRows_15 ?_
      refine lv_iload_n hx hb dM_compareRows_18 rfl (lv_at hl 1 rfl) ?_
      refine mw_iald hx hb hK hM 4 (mw_ar_other _ _) (pw_Vin hI h1) dM_compareRows_19 ?_
      refine lv_icmp_eq (tgt := 44) hx hb dM_compareRows_20 (by decide) (fun h2 => ?_) (fun h2 => ?_)
      · refine lv_iinc (v := a1 + (-1)) (lv' := [(1, .int (a1 + (-1))), (0, .ref (ad 0))]) hx hb dM_compareRows_44 hl (k := 1) rfl rfl (by decide) rfl (fun ls hl => ?_)
        refine lv_goto (tgt := 4) hx hb dM_compareRows_47 (by decide) ?_
        rw [(show fM_compareRows_4 (n + 1) a1 σ = fM_compareRows_4 n (a1 + (-1)) σ by rw [fM_compareRows_4, if_neg h1, if_pos h2])]
        exact ih (a1 + (-1)) σ (pw_VB_next (pw_V_body hI h1)) hM (lv_sub hl [1, 0] rfl)
      · refine lv_aload_n hx hb dM_compareRows_23 rfl (lv_at hl 0 rfl) ?_
        refine mw_get (v := .ref (ad 3)) hx hb hts hown hK hM 5 (by decide) (hts _ w_492) (mw_fd_row _ _) dM_compareRows_24 ?_
        refine lv_iload_n hx hb dM_compareRows_27 rfl (lv_at hl 1 rfl) ?_
        refine mw_iald hx hb hK hM 3 (mw_ar_row _ _) (pw_Vin hI h1) dM_compareRows_28 ?_
        refine lv_aload_n hx hb dM_compareRows_29 rfl (lv_at hl 0 rfl) ?_
        refine mw_get (v := .ref (ad 4)) hx hb hts hown hK hM 6 (by decide) (hts _ w_493) (mw_fd_other _ _) dM_compareRows_30 ?_
        refine lv_iload_n hx hb dM_compareRows_33 rfl (lv_at hl 1 rfl) ?_
        refine mw_iald hx hb hK hM 4 (mw_ar_other _ _) (pw_Vin hI h1) dM_compareRows_34 ?_
        refine lv_icmp_ge (tgt := 42) hx hb dM_compareRows_35 (by decide) (fun h3 => ?_) (fun h3 => ?_)
        · refine lv_iconst (v := 1) hx hb dM_compareRows_42 (by decide) ?_
          exact W.iret (v := 1) hx hb hr (fun t ht hW => ⟨⟨1, σ, rfl, by rw [(show fM_compareRows_4 (n + 1) a1 σ = (1, σ) by rw [fM_compareRows_4, if_neg h1, if_neg h2, if_pos h3])], by rw [ht]; exact hM.1, va_K.moved hW.alike hK, hM.2.1⟩, hM.2.2.F ht⟩) hM.2.2.2.2 dM_compareRows_43
        · refine lv_iconst (v := (-1)) hx hb dM_compareRows_38 (by decide) ?_
          refine lv_goto (tgt := 43) hx hb dM_compareRows_39 (by decide) ?_
          exact W.iret (v := (-1)) hx hb hr (fun t ht hW => ⟨⟨(-1), σ, rfl, by rw [(show fM_compareRows_4 (n + 1) a1 σ = ((-1), σ) by rw [fM_compareRows_4, if_neg h1, if_neg h2, if_neg h3])], by rw [ht]; exact hM.1, va_K.moved hW.alike hK, hM.2.1⟩, hM.2.2.F ht⟩) hM.2.2.2.2 dM_compareRows_43
set_option maxHeartbeats 4000000 in
set_option maxRecDepth 100000 in
theorem kM_compareRows_0 {p : Program} {l : Launch} {e : Env} {s : State} {m : MethodId} {args : Array Value} {below : List Frame} {meth : Method} {c : Code} (C : pw_C p s m args meth c cM_compareRows 2 (some .int) "BitNumbersModel") {D : va_G} {ad : Nat → Nat} {A : Nat → Prop} (hK : va_K D clM (tyA ad) s) (hA : ∀ q, s.heap.size ≤ q → A q) (σ : MS) {H : Heap} {locs : List Loc} (hM : mw D ad A s.heap H locs σ) {ls : Array Slot} (hl : lv_has ls 2 [(0, .ref (ad 0))]) : W p l e rmM_compareRows s m args below meth c H locs 0 0 (MQ below (va_Qi (fun r u => (r, u) = fM_compareRows σ) (mw_E D ad A) A) args s 0 0 A) (F0 m 0 ls []) := by
  obtain ⟨hx, hb, hr, hml, hown, hts, hlocks⟩ := id C
  refine lv_sipush (v := 319) hx hb dM_compareRows_0 (by decide) ?_
  refine lv_istore_n (lv' := [(1, .int 319), (0, .ref (ad 0))]) hx hb dM_compareRows_3 rfl hl (by decide) rfl (fun ls hl => ?_)
  rw [(show fM_compareRows σ = fM_compareRows_4 321 319 σ by rw [fM_compareRows])]
  exact kM_compareRows_4 C hK hA 321 319 σ (⟨by decide, by decide, by decide⟩ : pw_V 319 321 321) hM (lv_sub hl [1, 0] rfl)
set_option maxHeartbeats 4000000 in
set_option maxRecDepth 100000 in
theorem qM_compareRows (l : Launch) (D : va_G) (ad : Nat → Nat)  (σ : MS) (sz : Nat) : Met l yM_compareRows wsM_compareRows rmM_compareRows (va_Pc [.ref (ad 0)] (mw_B D ad σ sz)) (va_Qi (fun r u => (r, u) = fM_compareRows σ) (mw_E D ad (va_A (mw_c ad σ) sz)) (va_A (mw_c ad σ) sz)) 0 0 (va_A (mw_c ad σ) sz) := by
  refine Met.ofW (cc := cM_compareRows) (maxL := 2) (ret := (some .int)) (by decide) rfl ?_
  intro p e s m args below meth c s₁ B hml hv
  obtain ⟨rfl, hsz, hP, hK, hD⟩ := hv
  have hts0 := atoms_spec (ws := wsM_compareRows) B.pre
  have hts := fun (w : Cond) (h : w ∈ aw) => hts0 w (List.mem_cons_of_mem _ h)
  have hown : s.vm.findClass "BitNumbersModel" = some m.cls := findClass_of_methodNamed B.named
  subst hsz
  have hl := lv_entry ([.ref (ad 0)]) (n := 2) (Nat.le_of_ble_eq_true rfl)
  rw [lg_entry_eq]
  generalize (lg_sl ([.ref (ad 0)]) ++ List.replicate (2 - (lg_sl ([.ref (ad 0)])).length) Slot.unset).toArray = ls at hl ⊢
  exact kM_compareRows_0 ⟨B.exec, B.bytes, B.returns, hml, hown, hts, B.notSynchronized⟩ hK (fun q h => Or.inr h) σ ⟨hP, hD.self, va_S.rf⟩ hl

set_option maxHeartbeats 4000000 in
set_option maxRecDepth 100000 in
theorem kM_addRows_42 {p : Program} {l : Launch} {e : Env} {s : State} {m : MethodId} {args : Array Value} {below : List Frame} {meth : Method} {c : Code} (C : pw_C p s m args meth c cM_addRows 4 none "BitNumbersModel") {D : va_G} {ad : Nat → Nat} {A : Nat → Prop} (hK : va_K D clM (tyA ad) s) (hA : ∀ q, s.heap.size ≤ q → A q) (a1 : Int32) (a2 : Int32) (σ : MS) {H : Heap} {locs : List Loc} (hM : mw D ad A s.heap H locs σ) {n : Nat} (K : Int32 → Int32 → MS → MS) (hI : pw_B a2 n 320) (hQ : ∀ (b1 : Int32) (b2 : Int32) (σ : MS) (hI : pw_I b2 n 320) {H : Heap} {locs : List Loc} (hM : mw D ad A s.heap H locs σ) {ls : Array Slot} (hl : lv_has ls 4 [(0, .ref (ad 0)), (1, .int b1), (2, .int b2)]), W p l e rmM_addRows s m args below meth c H locs 0 0 (MQ below (va_Qv (fun u => u = K b1 b2 σ) (mw_E D ad A) A) args s 0 0 A) (F0 m 4 ls [])) {ls : Array Slot} (hl : lv_has ls 4 [(0, .ref (ad 0)), (1, .int a1), (2, .int a2)]) : W p l e rmM_addRows s m args below meth c H locs 0 0 (MQ below (va_Qv (fun u => u = fM_addRows_42 K a1 a2 σ) (mw_E D ad A) A) args s 0 0 A) (F0 m 42 ls []) := by
  obtain ⟨hx, hb, hr, hml, hown, hts, hlocks⟩ := id C
  refine lv_iinc (v := a2 + 1) (lv' := [(2, .int (a2 + 1)), (0, .ref (ad 0)), (1, .int a1)]) hx hb dM_addRows_42 hl (k := 2) rfl rfl (by decide) rfl (fun ls hl => ?_)
  refine lv_goto (tgt := 4) hx hb dM_addRows_45 (by decide) ?_
  rw [(show fM_addRows_42 K a1 a2 σ = K a1 (a2 + 1) σ by rw [fM_addRows_42])]
  exact hQ a1 (a2 + 1) σ (pw_B_next hI) hM (lv_sub hl [1, 2, 0] rfl)
set_option maxHeartbeats 4000000 in
set_option maxRecDepth 100000 in
theorem kM_addRows_27 {p : Program} {l : Launch} {e : Env} {s : State} {m : MethodId} {args : Array Value} {below : List Frame} {meth : Method} {c : Code} (C : pw_C p s m args meth c cM_addRows 4 none "BitNumbersModel") {D : va_G} {ad : Nat → Nat} {A : Nat → Prop} (hK : va_K D clM (tyA ad) s) (hA : ∀ q, s.heap.size ≤ q → A q) (a2 : Int32) (a3 : Int32) (σ : MS) {H : Heap} {locs : List Loc} (hM : mw D ad A s.heap H locs σ) {n : Nat} (K : Int32 → Int32 → MS → MS) (hI : pw_B a2 n 320) (hQ : ∀ (b1 : Int32) (b2 : Int32) (σ : MS) (hI : pw_I b2 n 320) {H : Heap} {locs : List Loc} (hM : mw D ad A s.heap H locs σ) {ls : Array Slot} (hl : lv_has ls 4 [(0, .ref (ad 0)), (1, .int b1), (2, .int b2)]), W p l e rmM_addRows s m args below meth c H locs 0 0 (MQ below (va_Qv (fun u => u = K b1 b2 σ) (mw_E D ad A) A) args s 0 0 A) (F0 m 4 ls [])) {ls : Array Slot} (hl : lv_has ls 4 [(0, .ref (ad 0)), (2, .int a2), (3, .int a3)]) : W p l e rmM_addRows s m args below meth c H locs 0 0 (MQ below (va_Qv (fun u => u = fM_addRows_27 K a2 a3 σ) (mw_E D ad A) A) args s 0 0 A) (F0 m 27 ls []) := by
  obtain ⟨hx, hb, hr, hml, hown, hts, hlocks⟩ := id C
  refine lv_aload_n hx hb dM_addRows_27 rfl (lv_at hl 0 rfl) ?_
  refine mw_get (v := .ref (ad 3)) hx hb hts hown hK hM 5 (by decide) (hts _ w_492) (mw_fd_row _ _) dM_addRows_28 ?_
  refine lv_iload_n hx hb dM_addRows_31 rfl (lv_at hl 1 rfl) ?_
  refine lv_iload_n hx hb dM_addRows_32 rfl (lv_at hl 2 rfl) ?_
  refine lv_ldc hx hb hown (hts _ w_686) dM_addRows_33 ?_
  refine lv_iand hx hb dM_addRows_35 ?_
  refine mw_iast (σ' := ms_set_row σ (upd (ms_row σ) a2.toNatClampNeg (a3 &&& 65535))) hx hb hK hM 3 (mw_ar_row _ _) (pw_B_in hI (by decide)) (mw_st_row _ _ _) dM_addRows_36 (fun H locs hM => ?_)
  refine lv_iload_n hx hb dM_addRows_37 rfl (lv_at hl 2 rfl) ?_
  refine lv_bipush (v := 16) hx hb dM_addRows_38 (by decide) ?_
  refine lv_ishr hx hb dM_addRows_40 ?_
  refine lv_istore_n (lv' := [(1, .int (a3 >>> (16 &&& 31))), (0, .ref (ad 0)), (2, .int a2), (3, .int a3)]) hx hb dM_addRows_41 rfl hl (by decide) rfl (fun ls hl => ?_)
  rw [(show fM_addRows_27 K a2 a3 σ = fM_addRows_42 K (a3 >>> (16 &&& 31)) a2 (ms_set_row σ (upd (ms_row σ) a2.toNatClampNeg (a3 &&& 65535))) by rw [fM_addRows_27])]
  exact kM_addRows_42 C hK hA (a3 >>> (16 &&& 31)) a2 (ms_set_row σ (upd (ms_row σ) a2.toNatClampNeg (a3 &&& 65535))) hM K hI hQ (lv_sub hl [1, 0, 2] rfl)
set_option maxHeartbeats 4000000 in
set_option maxRecDepth 100000 in
theorem kM_addRows_4 {p : Program} {l : Launch} {e : Env} {s : State} {m : MethodId} {args : Array Value} {below : List Frame} {meth : Method} {c : Code} (C : pw_C p s m args meth c cM_addRows 4 none "BitNumbersModel") {D : va_G} {ad : Nat → Nat} {A : Nat → Prop} (hK : va_K D clM (tyA ad) s) (hA : ∀ q, s.heap.size ≤ q → A q) : ∀ (n : Nat) (a1 : Int32) (a2 : Int32) (σ : MS) (hI : pw_I a2 n 320) {H : Heap} {locs : List Loc} (hM : mw D ad A s.heap H locs σ) {ls : Array Slot} (hl : lv_has ls 4 [(0, .ref (ad 0)), (1, .int a1), (2, .int a2)]), W p l e rmM_addRows s m args below meth c H locs 0 0 (MQ below (va_Qv (fun u => u = fM_addRows_4 n a1 a2 σ) (mw_E D ad A) A) args s 0 0 A) (F0 m 4 ls []) := by
  obtain ⟨hx, hb, hr, hml, hown, hts, hlocks⟩ := id C
  intro n
  induction n with
  | zero =>
    intro a1 a2 σ hI
    exact absurd hI pw_I_zero
  | succ n ih =>
    intro a1 a2 σ hI H locs hM ls hl
    refine lv_iload_n hx hb dM_addRows_4 rfl (lv_at hl 2 rfl) ?_
    refine lv_sipush (v := 320) hx hb dM_addRows_5 (by decide) ?_
    refine lv_icmp_ge (tgt := 48) hx hb dM_addRows_8 (by decide) (fun h1 => ?_) (fun h1 => ?_)
    · exact W.vret hx hb hr (fun t ht hW => ⟨⟨σ, rfl, by rw [(show fM_addRows_4 (n + 1) a1 a2 σ = σ by rw [fM_addRows_4, if_pos h1])], by rw [ht]; exact hM.1, va_K.moved hW.alike hK, hM.2.1⟩, hM.2.2.F ht⟩) hM.2.2.2.2 dM_addRows_48
    · refine lv_aload_n hx hb dM_addRows_11 rfl (lv_at hl 0 rfl) ?_
      refine mw_get (v := .ref (ad 3)) hx hb hts hown hK hM 5 (by decide) (hts _ w_492) (mw_fd_row _ _) dM_addRows_12 ?_
      refine lv_iload_n hx hb dM_addRows_15 rfl (lv_at hl 2 rfl) ?_
      refine mw_iald hx hb hK hM 3 (mw_ar_row _ _) (pw_B_in (pw_I_body hI h1) (by decide)) dM_addRows_16 ?_
      refine lv_aload_n hx hb dM_addRows_17 rfl (lv_at hl 0 rfl) ?_
      refine mw_get (v := .ref (ad 4)) hx hb hts hown hK hM 6 (by decide) (hts _ w_493) (mw_fd_other _ _) dM_addRows_18 ?_
      refine lv_iload_n hx hb dM_addRows_21 rfl (lv_at hl 2 rfl) ?_
      refine mw_iald hx hb hK hM 4 (mw_ar_other _ _) (pw_B_in (pw_I_body hI h1) (by decide)) dM_addRows_22 ?_
      refine lv_iadd hx hb dM_addRows_23 ?_
      refine lv_iload_n hx hb dM_addRows_24 rfl (lv_at hl 1 rfl) ?_
      refine lv_iadd hx hb dM_addRows_25 ?_
      refine lv_istore_n (lv' := [(3, .int (((ms_row σ a2.toNatClampNeg) + (ms_other σ a2.toNatClampNeg)) + a1)), (0, .ref (ad 0)), (1, .int a1), (2, .int a2)]) hx hb dM_addRows_26 rfl hl (by decide) rfl (fun ls hl => ?_)
      rw [(show fM_addRows_4 (n + 1) a1 a2 σ = fM_addRows_27 (fM_addRows_4 n) a2 (((ms_row σ a2.toNatClampNeg) + (ms_other σ a2.toNatClampNeg)) + a1) σ by rw [fM_addRows_4, if_neg h1])]
      exact kM_addRows_27 C hK hA a2 (((ms_row σ a2.toNatClampNeg) + (ms_other σ a2.toNatClampNeg)) + a1) σ hM (fM_addRows_4 n) (pw_I_body hI h1) (fun b1 b2 τ hI _ _ hM _ hl => ih b1 b2 τ hI hM hl) (lv_sub hl [1, 3, 0] rfl)
set_option maxHeartbeats 4000000 in
set_option maxRecDepth 100000 in
theorem kM_addRows_0 {p : Program} {l : Launch} {e : Env} {s : State} {m : MethodId} {args : Array Value} {below : List Frame} {meth : Method} {c : Code} (C : pw_C p s m args meth c cM_addRows 4 none "BitNumbersModel") {D : va_G} {ad : Nat → Nat} {A : Nat → Prop} (hK : va_K D clM (tyA ad) s) (hA : ∀ q, s.heap.size ≤ q → A q) (σ : MS) {H : Heap} {locs : List Loc} (hM : mw D ad A s.heap H locs σ) {ls : Array Slot} (hl : lv_has ls 4 [(0, .ref (ad 0))]) : W p l e rmM_addRows s m args below meth c H locs 0 0 (MQ below (va_Qv (fun u => u = fM_addRows σ) (mw_E D ad A) A) args s 0 0 A) (F0 m 0 ls []) := by
  obtain ⟨hx, hb, hr, hml, hown, hts, hlocks⟩ := id C
  refine lv_iconst (v := 0) hx hb dM_addRows_0 (by decide) ?_
  refine lv_istore_n (lv' := [(1, .int 0), (0, .ref (ad 0))]) hx hb dM_addRows_1 rfl hl (by decide) rfl (fun ls hl => ?_)
  refine lv_iconst (v := 0) hx hb dM_addRows_2 (by decide) ?_
  refine lv_istore_n (lv' := [(2, .int 0), (1, .int 0), (0, .ref (ad 0))]) hx hb dM_addRows_3 rfl hl (by decide) rfl (fun ls hl => ?_)
  rw [(show fM_addRows σ = fM_addRows_4 321 0 0 σ by rw [fM_addRows])]
  exact kM_addRows_4 C hK hA 321 0 0 σ (⟨0, by decide, by decide, by decide⟩ : pw_I 0 321 320) hM (lv_sub hl [2, 1, 0] rfl)
set_option maxHeartbeats 4000000 in
set_option maxRecDepth 100000 in
theorem qM_addRows (l : Launch) (D : va_G) (ad : Nat → Nat)  (σ : MS) (sz : Nat) : Met l yM_addRows wsM_addRows rmM_addRows (va_Pc [.ref (ad 0)] (mw_B D ad σ sz)) (va_Qv (fun u => u = fM_addRows σ) (mw_E D ad (va_A (mw_c ad σ) sz)) (va_A (mw_c ad σ) sz)) 0 0 (va_A (mw_c ad σ) sz) := by
  refine Met.ofW (cc := cM_addRows) (maxL := 4) (ret := none) (by decide) rfl ?_
  intro p e s m args below meth c s₁ B hml hv
  obtain ⟨rfl, hsz, hP, hK, hD⟩ := hv
  have hts0 := atoms_spec (ws := wsM_addRows) B.pre
  have hts := fun (w : Cond) (h : w ∈ aw) => hts0 w (List.mem_cons_of_mem _ h)
  have hown : s.vm.findClass "BitNumbersModel" = some m.cls := findClass_of_methodNamed B.named
  subst hsz
  have hl := lv_entry ([.ref (ad 0)]) (n := 4) (Nat.le_of_ble_eq_true rfl)
  rw [lg_entry_eq]
  generalize (lg_sl ([.ref (ad 0)]) ++ List.replicate (4 - (lg_sl ([.ref (ad 0)])).length) Slot.unset).toArray = ls at hl ⊢
  exact kM_addRows_0 ⟨B.exec, B.bytes, B.returns, hml, hown, hts, B.notSynchronized⟩ hK (fun q h => Or.inr h) σ ⟨hP, hD.self, va_S.rf⟩ hl

set_option maxHeartbeats 4000000 in
set_option maxRecDepth 100000 in
theorem kM_subtractRows_69 {p : Program} {l : Launch} {e : Env} {s : State} {m : MethodId} {args : Array Value} {below : List Frame} {meth : Method} {c : Code} (C : pw_C p s m args meth c cM_subtractRows 5 none "BitNumbersModel") {D : va_G} {ad : Nat → Nat} {A : Nat → Prop} (hK : va_K D clM (tyA ad) s) (hA : ∀ q, s.heap.size ≤ q → A q) (a1 : Int32) (a3 : Int32) (s0 : Int32) (σ : MS) (hzs0 : s0 = 0 ∨ s0 = 1) {H : Heap} {locs : List Loc} (hM : mw D ad A s.heap H locs σ) {n : Nat} (K : Int32 → Int32 → Int32 → MS → MS) (hI : pw_B a3 n 320) (hQ : ∀ (b1 : Int32) (b2 : Int32) (b3 : Int32) (σ : MS) (hz2 : b2 = 0 ∨ b2 = 1) (hI : pw_I b3 n 320) {H : Heap} {locs : List Loc} (hM : mw D ad A s.heap H locs σ) {ls : Array Slot} (hl : lv_has ls 5 [(0, .ref (ad 0)), (1, .int b1), (2, .int b2), (3, .int b3)]), W p l e rmM_subtractRows s m args below meth c H locs 0 0 (MQ below (va_Qv (fun u => u = K b1 b2 b3 σ) (mw_E D ad A) A) args s 0 0 A) (F0 m 4 ls [])) {ls : Array Slot} (hl : lv_has ls 5 [(0, .ref (ad 0)), (1, .int a1), (3, .int a3)]) : W p l e rmM_subtractRows s m args below meth c H locs 0 0 (MQ below (va_Qv (fun u => u = fM_subtractRows_69 K a1 a3 s0 σ) (mw_E D ad A) A) args s 0 0 A) (F0 m 69 ls [.int s0]) := by
  obtain ⟨hx, hb, hr, hml, hown, hts, hlocks⟩ := id C
  refine lv_istore_n (lv' := [(2, .int s0), (0, .ref (ad 0)), (1, .int a1), (3, .int a3)]) hx hb dM_subtractRows_69 rfl hl (by decide) rfl (fun ls hl => ?_)
  refine lv_iinc (v := a3 + 1) (lv' := [(3, .int (a3 + 1)), (2, .int s0), (0, .ref (ad 0)), (1, .int a1)]) hx hb dM_subtractRows_70 hl (k := 3) rfl rfl (by decide) rfl (fun ls hl => ?_)
  refine lv_goto (tgt := 4) hx hb dM_subtractRows_73 (by decide) ?_
  rw [(show fM_subtractRows_69 K a1 a3 s0 σ = K a1 s0 (a3 + 1) σ by rw [fM_subtractRows_69])]
  exact hQ a1 s0 (a3 + 1) σ hzs0 (pw_B_next hI) hM (lv_sub hl [2, 3, 1, 0] rfl)
set_option maxHeartbeats 4000000 in
set_option maxRecDepth 100000 in
theorem kM_subtractRows_48 {p : Program} {l : Launch} {e : Env} {s : State} {m : MethodId} {args : Array Value} {below : List Frame} {meth : Method} {c : Code} (C : pw_C p s m args meth c cM_subtractRows 5 none "BitNumbersModel") {D : va_G} {ad : Nat → Nat} {A : Nat → Prop} (hK : va_K D clM (tyA ad) s) (hA : ∀ q, s.heap.size ≤ q → A q) (a1 : Int32) (a3 : Int32) (a4 : Int32) (σ : MS) {H : Heap} {locs : List Loc} (hM : mw D ad A s.heap H locs σ) {n : Nat} (K : Int32 → Int32 → Int32 → MS → MS) (hI : pw_B a3 n 320) (hQ : ∀ (b1 : Int32) (b2 : Int32) (b3 : Int32) (σ : MS) (hz2 : b2 = 0 ∨ b2 = 1) (hI : pw_I b3 n 320) {H : Heap} {locs : List Loc} (hM : mw D ad A s.heap H locs σ) {ls : Array Slot} (hl : lv_has ls 5 [(0, .ref (ad 0)), (1, .int b1), (2, .int b2), (3, .int b3)]), W p l e rmM_subtractRows s m args below meth c H locs 0 0 (MQ below (va_Qv (fun u => u = K b1 b2 b3 σ) (mw_E D ad A) A) args s 0 0 A) (F0 m 4 ls [])) {ls : Array Slot} (hl : lv_has ls 5 [(0, .ref (ad 0)), (1, .int a1), (3, .int a3), (4, .int a4)]) : W p l e rmM_subtractRows s m args below meth c H locs 0 0 (MQ below (va_Qv (fun u => u = fM_subtractRows_48 K a1 a3 a4 σ) (mw_E D ad A) A) args s 0 0 A) (F0 m 48 ls []) := by
  obtain ⟨hx, hb, hr, hml, hown, hts, hlocks⟩ := id C
  refine lv_aload_n hx hb dM_subtractRows_48 rfl (lv_at hl 0 rfl) ?_
  refine mw_get (v := .ref (ad 3)) hx hb hts hown hK hM 5 (by decide) (hts _ w_492) (mw_fd_row _ _) dM_subtractRows_49 ?_
  refine lv_iload_n hx hb dM_subtractRows_52 rfl (lv_at hl 2 rfl) ?_
  refine lv_iload hx hb dM_subtractRows_53 (lv_at hl 3 rfl) ?_
  refine lv_ldc hx hb hown (hts _ w_686) dM_subtractRows_55 ?_
  refine lv_iand hx hb dM_subtractRows_57 ?_
  refine mw_iast (σ' := ms_set_row σ (upd (ms_row σ) a3.toNatClampNeg (a4 &&& 65535))) hx hb hK hM 3 (mw_ar_row _ _) (pw_B_in hI (by decide)) (mw_st_row _ _ _) dM_subtractRows_58 (fun H locs hM => ?_)
  refine lv_iload hx hb dM_subtractRows_59 (lv_at hl 3 rfl) ?_
  refine lv_if_ge (tgt := 68) hx hb dM_subtractRows_61 (by decide) (fun h1 => ?_) (fun h1 => ?_)
  · refine lv_iconst (v := 0) hx hb dM_subtractRows_68 (by decide) ?_
    rw [(show fM_subtractRows_48 K a1 a3 a4 σ = fM_subtractRows_69 K a1 a3 0 (ms_set_row σ (upd (ms_row σ) a3.toNatClampNeg (a4 &&& 65535))) by rw [fM_subtractRows_48, if_pos h1])]
    exact kM_subtractRows_69 C hK hA a1 a3 0 (ms_set_row σ (upd (ms_row σ) a3.toNatClampNeg (a4 &&& 65535))) (Or.inl rfl) hM K hI hQ (lv_sub hl [0, 1, 2] rfl)
  · refine lv_iconst (v := 1) hx hb dM_subtractRows_64 (by decide) ?_
    refine lv_goto (tgt := 69) hx hb dM_subtractRows_65 (by decide) ?_
    rw [(show fM_subtractRows_48 K a1 a3 a4 σ = fM_subtractRows_69 K a1 a3 1 (ms_set_row σ (upd (ms_row σ) a3.toNatClampNeg (a4 &&& 65535))) by rw [fM_subtractRows_48, if_neg h1])]
    exact kM_subtractRows_69 C hK hA a1 a3 1 (ms_set_row σ (upd (ms_row σ) a3.toNatClampNeg (a4 &&& 65535))) (Or.inr rfl) hM K hI hQ (lv_sub hl [0, 1, 2] rfl)
set_option maxHeartbeats 4000000 in
set_option maxRecDepth 100000 in
theorem kM_subtractRows_44 {p : Program} {l : Launch} {e : Env} {s : State} {m : MethodId} {args : Array Value} {below : List Frame} {meth : Method} {c : Code} (C : pw_C p s m args meth c cM_subtractRows 5 none "BitNumbersModel") {D : va_G} {ad : Nat → Nat} {A : Nat → Prop} (hK : va_K D clM (tyA ad) s) (hA : ∀ q, s.heap.size ≤ q → A q) (a1 : Int32) (a2 : Int32) (a3 : Int32) (s0 : Int32) (σ : MS) (hz2 : a2 = 0 ∨ a2 = 1) {H : Heap} {locs : List Loc} (hM : mw D ad A s.heap H locs σ) {n : Nat} (K : Int32 → Int32 → Int32 → MS → MS) (hI : pw_B a3 n 320) (hQ : ∀ (b1 : Int32) (b2 : Int32) (b3 : Int32) (σ : MS) (hz2 : b2 = 0 ∨ b2 = 1) (hI : pw_I b3 n 320) {H : Heap} {locs : List Loc} (hM : mw D ad A s.heap H locs σ) {ls : Array Slot} (hl : lv_has ls 5 [(0, .ref (ad 0)), (1, .int b1), (2, .int b2), (3, .int b3)]), W p l e rmM_subtractRows s m args below meth c H locs 0 0 (MQ below (va_Qv (fun u => u = K b1 b2 b3 σ) (mw_E D ad A) A) args s 0 0 A) (F0 m 4 ls [])) {ls : Array Slot} (hl : lv_has ls 5 [(0, .ref (ad 0)), (1, .int a1), (2, .int a2), (3, .int a3)]) : W p l e rmM_subtractRows s m args below meth c H locs 0 0 (MQ below (va_Qv (fun u => u = fM_subtractRows_44 K a1 a2 a3 s0 σ) (mw_E D ad A) A) args s 0 0 A) (F0 m 44 ls [.int s0]) := by
  obtain ⟨hx, hb, hr, hml, hown, hts, hlocks⟩ := id C
  refine lv_iload_n hx hb dM_subtractRows_44 rfl (lv_at hl 2 rfl) ?_
  refine lv_isub hx hb dM_subtractRows_45 ?_
  refine lv_istore (lv' := [(4, .int (s0 - a2)), (0, .ref (ad 0)), (1, .int a1), (2, .int a2), (3, .int a3)]) hx hb dM_subtractRows_46 hl (by decide) rfl (fun ls hl => ?_)
  rw [(show fM_subtractRows_44 K a1 a2 a3 s0 σ = fM_subtractRows_48 K a1 a3 (s0 - a2) σ by rw [fM_subtractRows_44])]
  exact kM_subtractRows_48 C hK hA a1 a3 (s0 - a2) σ hM K hI hQ (lv_sub hl [1, 2, 4, 0] rfl)
set_option maxHeartbeats 4000000 in
set_option maxRecDepth 100000 in
theorem kM_subtractRows_4 {p : Program} {l : Launch} {e : Env} {s : State} {m : MethodId} {args : Array Value} {below : List Frame} {meth : Method} {c : Code} (C : pw_C p s m args meth c cM_subtractRows 5 none "BitNumbersModel") {D : va_G} {ad : Nat → Nat} {A : Nat → Prop} (hK : va_K D clM (tyA ad) s) (hA : ∀ q, s.heap.size ≤ q → A q) : ∀ (n : Nat) (a1 : Int32) (a2 : Int32) (a3 : Int32) (σ : MS) (hz2 : a2 = 0 ∨ a2 = 1) (hI : pw_I a3 n 320) {H : Heap} {locs : List Loc} (hM : mw D ad A s.heap H locs σ) {ls : Array Slot} (hl : lv_has ls 5 [(0, .ref (ad 0)), (1, .int a1), (2, .int a2), (3, .int a3)]), W p l e rmM_subtractRows s m args below meth c H locs 0 0 (MQ below (va_Qv (fun u => u = fM_subtractRows_4 n a1 a2 a3 σ) (mw_E D ad A) A) args s 0 0 A) (F0 m 4 ls []) := by
  obtain ⟨hx, hb, hr, hml, hown, hts, hlocks⟩ := id C
  intro n
  induction n with
  | zero =>
    intro a1 a2 a3 σ hz2 hI
    exact absurd hI pw_I_zero
  | succ n ih =>
    intro a1 a2 a3 σ hz2 hI H locs hM ls hl
    refine lv_iload_n hx hb dM_subtractRows_4 rfl (lv_at hl 3 rfl) ?_
    refine lv_sipush (v := 320) hx hb dM_subtractRows_5 (by decide) ?_
    refine lv_icmp_ge (tgt := 76) hx hb dM_subtractRows_8 (by decide) (fun h1 => ?_) (fun h1 => ?_)
    · exact W.vret hx hb hr (fun t ht hW => ⟨⟨σ, rfl, by rw [(show fM_subtractRows_4 (n + 1) a1 a2 a3 σ = σ by rw [fM_subtractRows_4, if_pos h1])], by rw [ht]; exact hM.1, va_K.moved hW.alike hK, hM.2.1⟩, hM.2.2.F ht⟩) hM.2.2.2.2 dM_subtractRows_76
    · refine lv_iload_n hx hb dM_subtractRows_11 rfl (lv_at hl 1 rfl) ?_
      refine lv_if_eq (tgt := 31) hx hb dM_subtractRows_12 (by decide) (fun h2 => ?_) (fun h2 => ?_)
      · refine lv_aload_n hx hb dM_subtractRows_31 rfl (lv_at hl 0 rfl) ?_
        refine mw_get (v := .ref (ad 3)) hx hb hts hown hK hM 5 (by decide) (hts _ w_492) (mw_fd_row _ _) dM_subtractRows_32 ?_
        refine lv_iload_n hx hb dM_subtractRows_35 rfl (lv_at hl 3 rfl) ?_
        refine mw_iald hx hb hK hM 3 (mw_ar_row _ _) (pw_B_in (pw_I_body hI h1) (by decide)) dM_subtractRows_36 ?_
        refine lv_aload_n hx hb dM_subtractRows_37 rfl (lv_at hl 0 rfl) ?_
        refine mw_get (v := .ref (ad 4)) hx hb hts hown hK hM 6 (by decide) (hts _ w_493) (mw_fd_other _ _) dM_subtractRows_38 ?_
        refine lv_iload_n hx hb dM_subtractRows_41 rfl (lv_at hl 3 rfl) ?_
        refine mw_iald hx hb hK hM 4 (mw_ar_other _ _) (pw_B_in (pw_I_body hI h1) (by decide)) dM_subtractRows_42 ?_
        refine lv_isub hx hb dM_subtractRows_43 ?_
        rw [(show fM_subtractRows_4 (n + 1) a1 a2 a3 σ = fM_subtractRows_44 (fM_subtractRows_4 n) a1 a2 a3 ((ms_row σ a3.toNatClampNeg) - (ms_other σ a3.toNatClampNeg)) σ by rw [fM_subtractRows_4, if_neg h1, if_pos h2])]
        exact kM_subtractRows_44 C hK hA a1 a2 a3 ((ms_row σ a3.toNatClampNeg) - (ms_other σ a3.toNatClampNeg)) σ hz2 hM (fM_subtractRows_4 n) (pw_I_body hI h1) (fun b1 b2 b3 τ z2 hI _ _ hM _ hl => ih b1 b2 b3 τ z2 hI hM hl) (lv_sub hl [0, 1, 2, 3] rfl)
      · refine lv_aload_n hx hb dM_subtractRows_15 rfl (lv_at hl 0 rfl) ?_
        refine mw_get (v := .ref (ad 4)) hx hb hts hown hK hM 6 (by decide) (hts _ w_493) (mw_fd_other _ _) dM_subtractRows_16 ?_
        refine lv_iload_n hx hb dM_subtractRows_19 rfl (lv_at hl 3 rfl) ?_
        refine mw_iald hx hb hK hM 4 (mw_ar_other _ _) (pw_B_in (pw_I_body hI h1) (by decide)) dM_subtractRows_20 ?_
        refine lv_aload_n hx hb dM_subtractRows_21 rfl (lv_at hl 0 rfl) ?_
        refine mw_get (v := .ref (ad 3)) hx hb hts hown hK hM 5 (by decide) (hts _ w_492) (mw_fd_row _ _) dM_subtractRows_22 ?_
        refine lv_iload_n hx hb dM_subtractRows_25 rfl (lv_at hl 3 rfl) ?_
        refine mw_iald hx hb hK hM 3 (mw_ar_row _ _) (pw_B_in (pw_I_body hI h1) (by decide)) dM_subtractRows_26 ?_
        refine lv_isub hx hb dM_subtractRows_27 ?_
        refine lv_goto (tgt := 44) hx hb dM_subtractRows_28 (by decide) ?_
        rw [(show fM_subtractRows_4 (n + 1) a1 a2 a3 σ = fM_subtractRows_44 (fM_subtractRows_4 n) a1 a2 a3 ((ms_other σ a3.toNatClampNeg) - (ms_row σ a3.toNatClampNeg)) σ by rw [fM_subtractRows_4, if_neg h1, if_neg h2])]
        exact kM_subtractRows_44 C hK hA a1 a2 a3 ((ms_other σ a3.toNatClampNeg) - (ms_row σ a3.toNatClampNeg)) σ hz2 hM (fM_subtractRows_4 n) (pw_I_body hI h1) (fun b1 b2 b3 τ z2 hI _ _ hM _ hl => ih b1 b2 b3 τ z2 hI hM hl) (lv_sub hl [0, 1, 2, 3] rfl)
set_option maxHeartbeats 4000000 in
set_option maxRecDepth 100000 in
theorem kM_subtractRows_0 {p : Program} {l : Launch} {e : Env} {s : State} {m : MethodId} {args : Array Value} {below : List Frame} {meth : Method} {c : Code} (C : pw_C p s m args meth c cM_subtractRows 5 none "BitNumbersModel") {D : va_G} {ad : Nat → Nat} {A : Nat → Prop} (hK : va_K D clM (tyA ad) s) (hA : ∀ q, s.heap.size ≤ q → A q) (a1 : Int32) (σ : MS) {H : Heap} {locs : List Loc} (hM : mw D ad A s.heap H locs σ) {ls : Array Slot} (hl : lv_has ls 5 [(0, .ref (ad 0)), (1, .int a1)]) : W p l e rmM_subtractRows s m args below meth c H locs 0 0 (MQ below (va_Qv (fun u => u = fM_subtractRows a1 σ) (mw_E D ad A) A) args s 0 0 A) (F0 m 0 ls []) := by
  obtain ⟨hx, hb, hr, hml, hown, hts, hlocks⟩ := id C
  refine lv_iconst (v := 0) hx hb dM_subtractRows_0 (by decide) ?_
  refine lv_istore_n (lv' := [(2, .int 0), (0, .ref (ad 0)), (1, .int a1)]) hx hb dM_subtractRows_1 rfl hl (by decide) rfl (fun ls hl => ?_)
  refine lv_iconst (v := 0) hx hb dM_subtractRows_2 (by decide) ?_
  refine lv_istore_n (lv' := [(3, .int 0), (2, .int 0), (0, .ref (ad 0)), (1, .int a1)]) hx hb dM_subtractRows_3 rfl hl (by decide) rfl (fun ls hl => ?_)
  rw [(show fM_subtractRows a1 σ = fM_subtractRows_4 321 a1 0 0 σ by rw [fM_subtractRows])]
  exact kM_subtractRows_4 C hK hA 321 a1 0 0 σ (Or.inl rfl) (⟨0, by decide, by decide, by decide⟩ : pw_I 0 321 320) hM (lv_sub hl [2, 3, 1, 0] rfl)
set_option maxHeartbeats 4000000 in
set_option maxRecDepth 100000 in
theorem qM_subtractRows (l : Launch) (D : va_G) (ad : Nat → Nat) (a1 : Int32) (σ : MS) (sz : Nat) : Met l yM_subtractRows wsM_subtractRows rmM_subtractRows (va_Pc [.ref (ad 0), .int a1] (mw_B D ad σ sz)) (va_Qv (fun u => u = fM_subtractRows a1 σ) (mw_E D ad (va_A (mw_c ad σ) sz)) (va_A (mw_c ad σ) sz)) 0 0 (va_A (mw_c ad σ) sz) := by
  refine Met.ofW (cc := cM_subtractRows) (maxL := 5) (ret := none) (by decide) rfl ?_
  intro p e s m args below meth c s₁ B hml hv
  obtain ⟨rfl, hsz, hP, hK, hD⟩ := hv
  have hts0 := atoms_spec (ws := wsM_subtractRows) B.pre
  have hts := fun (w : Cond) (h : w ∈ aw) => hts0 w (List.mem_cons_of_mem _ h)
  have hown : s.vm.findClass "BitNumbersModel" = some m.cls := findClass_of_methodNamed B.named
  subst hsz
  have hl := lv_entry ([.ref (ad 0), .int a1]) (n := 5) (Nat.le_of_ble_eq_true rfl)
  rw [lg_entry_eq]
  generalize (lg_sl ([.ref (ad 0), .int a1]) ++ List.replicate (5 - (lg_sl ([.ref (ad 0), .int a1])).length) Slot.unset).toArray = ls at hl ⊢
  exact kM_subtractRows_0 ⟨B.exec, B.bytes, B.returns, hml, hown, hts, B.notSynchronized⟩ hK (fun q h => Or.inr h) a1 σ ⟨hP, hD.self, va_S.rf⟩ hl

set_option maxHeartbeats 4000000 in
set_option maxRecDepth 100000 in
theorem kM_measure_12 {p : Program} {l : Launch} {e : Env} {s : State} {m : MethodId} {args : Array Value} {below : List Frame} {meth : Method} {c : Code} (C : pw_C p s m args meth c cM_measure 1 none "BitNumbersModel") {D : va_G} {ad : Nat → Nat} {A : Nat → Prop} (hK : va_K D clM (tyA ad) s) (hA : ∀ q, s.heap.size ≤ q → A q) : ∀ (n : Nat) (σ : MS) (hI : pw_hd σ n) {H : Heap} {locs : List Loc} (hM : mw D ad A s.heap H locs σ) {ls : Array Slot} (hl : lv_has ls 1 [(0, .ref (ad 0))]), W p l e rmM_measure s m args below meth c H locs 0 0 (MQ below (va_Qv (fun u => u = fM_measure_12 n σ) (mw_E D ad A) A) args s 0 0 A) (F0 m 12 ls []) := by
  obtain ⟨hx, hb, hr, hml, hown, hts, hlocks⟩ := id C
  intro n
  induction n with
  | zero =>
    intro σ hI
    exact absurd hI pw_hd_zero
  | succ n ih =>
    intro σ hI H locs hM ls hl
    refine lv_aload_n hx hb dM_measure_12 rfl (lv_at hl 0 rfl) ?_
    refine mw_get (v := .int (ms_held σ)) hx hb hts hown hK hM 9 (by decide) (hts _ w_496) (mw_fd_held _ _) dM_measure_13 ?_
    refine lv_if_le (tgt := 46) hx hb dM_measure_16 (by decide) (fun h1 => ?_) (fun h1 => ?_)
    · exact W.vret hx hb hr (fun t ht hW => ⟨⟨σ, rfl, by rw [(show fM_measure_12 (n + 1) σ = σ by rw [fM_measure_12, if_pos h1])], by rw [ht]; exact hM.1, va_K.moved hW.alike hK, hM.2.1⟩, hM.2.2.F ht⟩) hM.2.2.2.2 dM_measure_46
    · refine lv_aload_n hx hb dM_measure_19 rfl (lv_at hl 0 rfl) ?_
      refine mw_get (v := .ref (ad 3)) hx hb hts hown hK hM 5 (by decide) (hts _ w_492) (mw_fd_row _ _) dM_measure_20 ?_
      refine lv_aload_n hx hb dM_measure_23 rfl (lv_at hl 0 rfl) ?_
      refine mw_get (v := .int (ms_held σ)) hx hb hts hown hK hM 9 (by decide) (hts _ w_496) (mw_fd_held _ _) dM_measure_24 ?_
      refine lv_iconst (v := 1) hx hb dM_measure_27 (by decide) ?_
      refine lv_isub hx hb dM_measure_28 ?_
      refine mw_iald hx hb hK hM 3 (mw_ar_row _ _) (pw_hin (pw_hd_body hI h1)) dM_measure_29 ?_
      refine lv_if_ne (tgt := 46) hx hb dM_measure_30 (by decide) (fun h2 => ?_) (fun h2 => ?_)
      · exact W.vret hx hb hr (fun t ht hW => ⟨⟨σ, rfl, by rw [(show fM_measure_12 (n + 1) σ = σ by rw [fM_measure_12, if_neg h1, if_neg h2])], by rw [ht]; exact hM.1, va_K.moved hW.alike hK, hM.2.1⟩, hM.2.2.F ht⟩) hM.2.2.2.2 dM_measure_46
      · refine lv_aload_n hx hb dM_measure_33 rfl (lv_at hl 0 rfl) ?_
        refine lv_dup hx hb dM_measure_34 rfl ?_
        refine mw_get (v := .int (ms_held σ)) hx hb hts hown hK hM 9 (by decide) (hts _ w_496) (mw_fd_held _ _) dM_measure_35 ?_
        refine lv_iconst (v := 1) hx hb dM_measure_38 (by decide) ?_
        refine lv_isub hx hb dM_measure_39 ?_
        refine mw_put (v := .int ((ms_held σ) - 1)) (ty := .int) (σ' := ms_set_held σ ((ms_held σ) - 1)) hx hb hts hown hK hM 9 (by decide) (hts _ w_496) rfl (by decide +kernel) rfl rfl (mw_pt_held _ _ _) dM_measure_40 (fun H locs hM => ?_)
        refine lv_goto (tgt := 12) hx hb dM_measure_43 (by decide) ?_
        rw [(show fM_measure_12 (n + 1) σ = fM_measure_12 n (ms_set_held σ ((ms_held σ) - 1)) by rw [fM_measure_12, if_neg h1, if_pos h2])]
        exact ih (ms_set_held σ ((ms_held σ) - 1)) (pw_hb_next (pw_hd_body hI h1)) hM (lv_sub hl [0] rfl)
set_option maxHeartbeats 4000000 in
set_option maxRecDepth 100000 in
theorem kM_measure_0 {p : Program} {l : Launch} {e : Env} {s : State} {m : MethodId} {args : Array Value} {below : List Frame} {meth : Method} {c : Code} (C : pw_C p s m args meth c cM_measure 1 none "BitNumbersModel") {D : va_G} {ad : Nat → Nat} {A : Nat → Prop} (hK : va_K D clM (tyA ad) s) (hA : ∀ q, s.heap.size ≤ q → A q) (σ : MS) {H : Heap} {locs : List Loc} (hM : mw D ad A s.heap H locs σ) {ls : Array Slot} (hl : lv_has ls 1 [(0, .ref (ad 0))]) : W p l e rmM_measure s m args below meth c H locs 0 0 (MQ below (va_Qv (fun u => u = fM_measure σ) (mw_E D ad A) A) args s 0 0 A) (F0 m 0 ls []) := by
  obtain ⟨hx, hb, hr, hml, hown, hts, hlocks⟩ := id C
  refine lv_aload_n hx hb dM_measure_0 rfl (lv_at hl 0 rfl) ?_
  refine lv_iconst (v := 0) hx hb dM_measure_1 (by decide) ?_
  refine mw_put (v := .int 0) (ty := .int) (σ' := ms_set_mode σ 0) hx hb hts hown hK hM 10 (by decide) (hts _ w_497) rfl (by decide +kernel) rfl rfl (mw_pt_mode _ _ _) dM_measure_2 (fun H locs hM => ?_)
  refine lv_aload_n hx hb dM_measure_5 rfl (lv_at hl 0 rfl) ?_
  refine lv_sipush (v := 320) hx hb dM_measure_6 (by decide) ?_
  refine mw_put (v := .int 320) (ty := .int) (σ' := ms_set_held (ms_set_mode σ 0) 320) hx hb hts hown hK hM 9 (by decide) (hts _ w_496) rfl (by decide +kernel) rfl rfl (mw_pt_held _ _ _) dM_measure_9 (fun H locs hM => ?_)
  rw [(show fM_measure σ = fM_measure_12 321 (ms_set_held (ms_set_mode σ 0) 320) by rw [fM_measure])]
  exact kM_measure_12 C hK hA 321 (ms_set_held (ms_set_mode σ 0) 320) (⟨320, rfl, by decide, rfl⟩ : pw_hd (ms_set_held (ms_set_mode σ 0) 320) 321) hM (lv_sub hl [0] rfl)
set_option maxHeartbeats 4000000 in
set_option maxRecDepth 100000 in
theorem qM_measure (l : Launch) (D : va_G) (ad : Nat → Nat)  (σ : MS) (sz : Nat) : Met l yM_measure wsM_measure rmM_measure (va_Pc [.ref (ad 0)] (mw_B D ad σ sz)) (va_Qv (fun u => u = fM_measure σ) (mw_E D ad (va_A (mw_c ad σ) sz)) (va_A (mw_c ad σ) sz)) 0 0 (va_A (mw_c ad σ) sz) := by
  refine Met.ofW (cc := cM_measure) (maxL := 1) (ret := none) (by decide) rfl ?_
  intro p e s m args below meth c s₁ B hml hv
  obtain ⟨rfl, hsz, hP, hK, hD⟩ := hv
  have hts0 := atoms_spec (ws := wsM_measure) B.pre
  have hts := fun (w : Cond) (h : w ∈ aw) => hts0 w (List.mem_cons_of_mem _ h)
  have hown : s.vm.findClass "BitNumbersModel" = some m.cls := findClass_of_methodNamed B.named
  subst hsz
  have hl := lv_entry ([.ref (ad 0)]) (n := 1) (Nat.le_of_ble_eq_true rfl)
  rw [lg_entry_eq]
  generalize (lg_sl ([.ref (ad 0)]) ++ List.replicate (1 - (lg_sl ([.ref (ad 0)])).length) Slot.unset).toArray = ls at hl ⊢
  exact kM_measure_0 ⟨B.exec, B.bytes, B.returns, hml, hown, hts, B.notSynchronized⟩ hK (fun q h => Or.inr h) σ ⟨hP, hD.self, va_S.rf⟩ hl

set_option maxHeartbeats 4000000 in
set_option maxRecDepth 100000 in
theorem kM_highestOfRow_0 {p : Program} {l : Launch} {e : Env} {s : State} {m : MethodId} {args : Array Value} {below : List Frame} {meth : Method} {c : Code} (C : pw_C p s m args meth c cM_highestOfRow 1 (some .int) "BitNumbersModel") {D : va_G} {ad : Nat → Nat} {A : Nat → Prop} (hK : va_K D clM (tyA ad) s) (hA : ∀ q, s.heap.size ≤ q → A q) (σ : MS) (hh : vp_in (ms_held σ - 1) 320) (hz : (ms_row σ (ms_held σ - 1).toNatClampNeg).toInt64 ≠ 0) {H : Heap} {locs : List Loc} (hM : mw D ad A s.heap H locs σ) {ls : Array Slot} (hl : lv_has ls 1 [(0, .ref (ad 0))]) : W p l e rmM_highestOfRow s m args below meth c H locs 0 0 (MQ below (va_Qi (fun r u => (r, u) = fM_highestOfRow σ) (mw_E D ad A) A) args s 0 0 A) (F0 m 0 ls []) := by
  obtain ⟨hx, hb, hr, hml, hown, hts, hlocks⟩ := id C
  refine lv_bipush (v := 16) hx hb dM_highestOfRow_0 (by decide) ?_
  refine lv_aload_n hx hb dM_highestOfRow_2 rfl (lv_at hl 0 rfl) ?_
  refine mw_get (v := .int (ms_held σ)) hx hb hts hown hK hM 9 (by decide) (hts _ w_496) (mw_fd_held _ _) dM_highestOfRow_3 ?_
  refine lv_iconst (v := 1) hx hb dM_highestOfRow_6 (by decide) ?_
  refine lv_isub hx hb dM_highestOfRow_7 ?_
  refine lv_imul hx hb dM_highestOfRow_8 ?_
  refine lv_aload_n hx hb dM_highestOfRow_9 rfl (lv_at hl 0 rfl) ?_
  refine mw_get (v := .ref (ad 3)) hx hb hts hown hK hM 5 (by decide) (hts _ w_492) (mw_fd_row _ _) dM_highestOfRow_10 ?_
  refine lv_aload_n hx hb dM_highestOfRow_13 rfl (lv_at hl 0 rfl) ?_
  refine mw_get (v := .int (ms_held σ)) hx hb hts hown hK hM 9 (by decide) (hts _ w_496) (mw_fd_held _ _) dM_highestOfRow_14 ?_
  refine lv_iconst (v := 1) hx hb dM_highestOfRow_17 (by decide) ?_
  refine lv_isub hx hb dM_highestOfRow_18 ?_
  refine mw_iald hx hb hK hM 3 (mw_ar_row _ _) (hh) dM_highestOfRow_19 ?_
  refine lv_i2l hx hb dM_highestOfRow_20 rfl ?_
  refine pw_call (va_runS (As := [.long ((ms_row σ ((ms_held σ) - 1).toNatClampNeg).toInt64)]) (rest := [.int (16 * ((ms_held σ) - 1))]) ⟨hx, hb, hml, hown, hts⟩ (qM_highest l ((ms_row σ ((ms_held σ) - 1).toNatClampNeg).toInt64) hz) (va_cwS 1 hts (gS w_672 w_673 w_34 w_674) rfl rfl rfl (by decide +kernel) ⟨Nat.le_of_ble_eq_true rfl, Nat.le_of_ble_eq_true rfl⟩) ⟨pw_bT, fun U hU hW => ⟨rfl, trivial⟩⟩ rfl rfl hl.1 rfl (lv_room (Nat.le_of_ble_eq_true rfl)) dM_highestOfRow_21 ⟨Nat.zero_le _, Nat.zero_le _⟩) ?_
  refine lv_iadd hx hb dM_highestOfRow_24 ?_
  refine lv_aload_n hx hb dM_highestOfRow_25 rfl (lv_at hl 0 rfl) ?_
  refine mw_get (v := .int (ms_base σ)) hx hb hts hown hK hM 8 (by decide) (hts _ w_495) (mw_fd_base _ _) dM_highestOfRow_26 ?_
  refine lv_iadd hx hb dM_highestOfRow_29 ?_
  exact W.iret (v := ((16 * ((ms_held σ) - 1)) + (fM_highest ((ms_row σ ((ms_held σ) - 1).toNatClampNeg).toInt64))) + (ms_base σ)) hx hb hr (fun t ht hW => ⟨⟨((16 * ((ms_held σ) - 1)) + (fM_highest ((ms_row σ ((ms_held σ) - 1).toNatClampNeg).toInt64))) + (ms_base σ), σ, rfl, by rw [(show fM_highestOfRow σ = (((16 * ((ms_held σ) - 1)) + (fM_highest ((ms_row σ ((ms_held σ) - 1).toNatClampNeg).toInt64))) + (ms_base σ), σ) by rw [fM_highestOfRow])], by rw [ht]; exact hM.1, va_K.moved hW.alike hK, hM.2.1⟩, hM.2.2.F ht⟩) hM.2.2.2.2 dM_highestOfRow_30
set_option maxHeartbeats 4000000 in
set_option maxRecDepth 100000 in
theorem qM_highestOfRow (l : Launch) (D : va_G) (ad : Nat → Nat)  (σ : MS) (sz : Nat) (hh : vp_in (ms_held σ - 1) 320) (hz : (ms_row σ (ms_held σ - 1).toNatClampNeg).toInt64 ≠ 0) : Met l yM_highestOfRow wsM_highestOfRow rmM_highestOfRow (va_Pc [.ref (ad 0)] (mw_B D ad σ sz)) (va_Qi (fun r u => (r, u) = fM_highestOfRow σ) (mw_E D ad (va_A (mw_c ad σ) sz)) (va_A (mw_c ad σ) sz)) 0 0 (va_A (mw_c ad σ) sz) := by
  refine Met.ofW (cc := cM_highestOfRow) (maxL := 1) (ret := (some .int)) (by decide) rfl ?_
  intro p e s m args below meth c s₁ B hml hv
  obtain ⟨rfl, hsz, hP, hK, hD⟩ := hv
  have hts0 := atoms_spec (ws := wsM_highestOfRow) B.pre
  have hts := fun (w : Cond) (h : w ∈ aw) => hts0 w (List.mem_cons_of_mem _ h)
  have hown : s.vm.findClass "BitNumbersModel" = some m.cls := findClass_of_methodNamed B.named
  subst hsz
  have hl := lv_entry ([.ref (ad 0)]) (n := 1) (Nat.le_of_ble_eq_true rfl)
  rw [lg_entry_eq]
  generalize (lg_sl ([.ref (ad 0)]) ++ List.replicate (1 - (lg_sl ([.ref (ad 0)])).length) Slot.unset).toArray = ls at hl ⊢
  exact kM_highestOfRow_0 ⟨B.exec, B.bytes, B.returns, hml, hown, hts, B.notSynchronized⟩ hK (fun q h => Or.inr h) σ hh hz ⟨hP, hD.self, va_S.rf⟩ hl

set_option maxHeartbeats 4000000 in
set_option maxRecDepth 100000 in
theorem kM_multiply_109 {p : Program} {l : Launch} {e : Env} {s : State} {m : MethodId} {args : Array Value} {below : List Frame} {meth : Method} {c : Code} (C : pw_C p s m args meth c cM_multiply 11 none "BitNumbersModel") {D : va_G} {ad : Nat → Nat} {A : Nat → Prop} (hK : va_K D clM (tyA ad) s) (hA : ∀ q, s.heap.size ≤ q → A q) (a1 : Int64) (a3 : Int64) (a5 : Int32) (a6 : Int64) (a8 : Int32) (σ : MS) {H : Heap} {locs : List Loc} (hM : mw D ad A s.heap H locs σ) {n n0 : Nat} (K : Int64 → Int64 → Int32 → Int64 → Int32 → MS → MS) (hI : pw_B a8 n 4) (hIo : pw_B a5 n0 4) (hQ : ∀ (b1 : Int64) (b3 : Int64) (b5 : Int32) (b6 : Int64) (b8 : Int32) (σ : MS) (hIo : pw_B b5 n0 4) (hI : pw_I b8 n 4) {H : Heap} {locs : List Loc} (hM : mw D ad A s.heap H locs σ) {ls : Array Slot} (hl : lv_has ls 11 [(0, .ref (ad 0)), (1, .long b1), (3, .long b3), (5, .int b5), (6, .long b6), (8, .int b8)]), W p l e rmM_multiply s m args below meth c H locs 0 0 (MQ below (va_Qv (fun u => u = K b1 b3 b5 b6 b8 σ) (mw_E D ad A) A) args s 0 0 A) (F0 m 39 ls [])) {ls : Array Slot} (hl : lv_has ls 11 [(0, .ref (ad 0)), (1, .long a1), (3, .long a3), (5, .int a5), (6, .long a6), (8, .int a8)]) : W p l e rmM_multiply s m args below meth c H locs 0 0 (MQ below (va_Qv (fun u => u = fM_multiply_109 K a1 a3 a5 a6 a8 σ) (mw_E D ad A) A) args s 0 0 A) (F0 m 109 ls []) := by
  obtain ⟨hx, hb, hr, hml, hown, hts, hlocks⟩ := id C
  refine lv_iinc (v := a8 + 1) (lv' := [(8, .int (a8 + 1)), (0, .ref (ad 0)), (1, .long a1), (3, .long a3), (5, .int a5), (6, .long a6)]) hx hb dM_multiply_109 hl (k := 5) rfl rfl (by decide) rfl (fun ls hl => ?_)
  refine lv_goto (tgt := 39) hx hb dM_multiply_112 (by decide) ?_
  rw [(show fM_multiply_109 K a1 a3 a5 a6 a8 σ = K a1 a3 a5 a6 (a8 + 1) σ by rw [fM_multiply_109])]
  exact hQ a1 a3 a5 a6 (a8 + 1) σ hIo (pw_B_next hI) hM (lv_sub hl [1, 2, 3, 4, 5, 0] rfl)
set_option maxHeartbeats 4000000 in
set_option maxRecDepth 100000 in
theorem kM_multiply_85 {p : Program} {l : Launch} {e : Env} {s : State} {m : MethodId} {args : Array Value} {below : List Frame} {meth : Method} {c : Code} (C : pw_C p s m args meth c cM_multiply 11 none "BitNumbersModel") {D : va_G} {ad : Nat → Nat} {A : Nat → Prop} (hK : va_K D clM (tyA ad) s) (hA : ∀ q, s.heap.size ≤ q → A q) (a1 : Int64) (a3 : Int64) (a5 : Int32) (a8 : Int32) (a9 : Int64) (σ : MS) {H : Heap} {locs : List Loc} (hM : mw D ad A s.heap H locs σ) {n n0 : Nat} (K : Int64 → Int64 → Int32 → Int64 → Int32 → MS → MS) (hI : pw_B a8 n 4) (hIo : pw_B a5 n0 4) (hQ : ∀ (b1 : Int64) (b3 : Int64) (b5 : Int32) (b6 : Int64) (b8 : Int32) (σ : MS) (hIo : pw_B b5 n0 4) (hI : pw_I b8 n 4) {H : Heap} {locs : List Loc} (hM : mw D ad A s.heap H locs σ) {ls : Array Slot} (hl : lv_has ls 11 [(0, .ref (ad 0)), (1, .long b1), (3, .long b3), (5, .int b5), (6, .long b6), (8, .int b8)]), W p l e rmM_multiply s m args below meth c H locs 0 0 (MQ below (va_Qv (fun u => u = K b1 b3 b5 b6 b8 σ) (mw_E D ad A) A) args s 0 0 A) (F0 m 39 ls [])) {ls : Array Slot} (hl : lv_has ls 11 [(0, .ref (ad 0)), (1, .long a1), (3, .long a3), (5, .int a5), (8, .int a8), (9, .long a9)]) : W p l e rmM_multiply s m args below meth c H locs 0 0 (MQ below (va_Qv (fun u => u = fM_multiply_85 K a1 a3 a5 a8 a9 σ) (mw_E D ad A) A) args s 0 0 A) (F0 m 85 ls []) := by
  obtain ⟨hx, hb, hr, hml, hown, hts, hlocks⟩ := id C
  refine lv_aload_n hx hb dM_multiply_85 rfl (lv_at hl 0 rfl) ?_
  refine mw_get (v := .ref (ad 5)) hx hb hts hown hK hM 7 (by decide) (hts _ w_494) (mw_fd_factor _ _) dM_multiply_86 ?_
  refine lv_iload hx hb dM_multiply_89 (lv_at hl 3 rfl) ?_
  refine lv_iload hx hb dM_multiply_91 (lv_at hl 4 rfl) ?_
  refine lv_iadd hx hb dM_multiply_93 ?_
  refine lv_lload hx hb dM_multiply_94 (lv_at hl 5 rfl) ?_
  refine lv_ldc2 hx hb hown (hts _ w_691) dM_multiply_96 ?_
  refine lv_land hx hb dM_multiply_99 ?_
  refine lv_l2i hx hb dM_multiply_100 rfl ?_
  refine mw_iast (σ' := ms_set_factor σ (upd (ms_factor σ) (a5 + a8).toNatClampNeg ((a9 &&& 65535).toInt32))) hx hb hK hM 5 (mw_ar_factor _ _) (pw_ij hIo hI) (mw_st_factor _ _ _) dM_multiply_101 (fun H locs hM => ?_)
  refine lv_lload hx hb dM_multiply_102 (lv_at hl 5 rfl) ?_
  refine lv_bipush (v := 16) hx hb dM_multiply_104 (by decide) ?_
  refine lv_lshr (v := bn_sar a9 16) hx hb dM_multiply_106 rfl ?_
  refine lv_lstore (lv' := [(6, .long (bn_sar a9 16)), (0, .ref (ad 0)), (1, .long a1), (3, .long a3), (5, .int a5), (8, .int a8), (9, .long a9)]) hx hb dM_multiply_107 hl (by decide) rfl (fun ls hl => ?_)
  rw [(show fM_multiply_85 K a1 a3 a5 a8 a9 σ = fM_multiply_109 K a1 a3 a5 (bn_sar a9 16) a8 (ms_set_factor σ (upd (ms_factor σ) (a5 + a8).toNatClampNeg ((a9 &&& 65535).toInt32))) by rw [fM_multiply_85])]
  exact kM_multiply_109 C hK hA a1 a3 a5 (bn_sar a9 16) a8 (ms_set_factor σ (upd (ms_factor σ) (a5 + a8).toNatClampNeg ((a9 &&& 65535).toInt32))) hM K hI hIo hQ (lv_sub hl [1, 2, 3, 4, 0, 5] rfl)
set_option maxHeartbeats 4000000 in
set_option maxRecDepth 100000 in
theorem kM_multiply_39 {p : Program} {l : Launch} {e : Env} {s : State} {m : MethodId} {args : Array Value} {below : List Frame} {meth : Method} {c : Code} (C : pw_C p s m args meth c cM_multiply 11 none "BitNumbersModel") {D : va_G} {ad : Nat → Nat} {A : Nat → Prop} (hK : va_K D clM (tyA ad) s) (hA : ∀ q, s.heap.size ≤ q → A q) {n0 : Nat} (K : Int64 → Int64 → Int32 → MS → MS) (hQ : ∀ (b1 : Int64) (b3 : Int64) (b5 : Int32) (σ : MS) (hI : pw_I b5 n0 4) {H : Heap} {locs : List Loc} (hM : mw D ad A s.heap H locs σ) {ls : Array Slot} (hl : lv_has ls 11 [(0, .ref (ad 0)), (1, .long b1), (3, .long b3), (5, .int b5)]), W p l e rmM_multiply s m args below meth c H locs 0 0 (MQ below (va_Qv (fun u => u = K b1 b3 b5 σ) (mw_E D ad A) A) args s 0 0 A) (F0 m 27 ls [])) : ∀ (n : Nat) (a1 : Int64) (a3 : Int64) (a5 : Int32) (a6 : Int64) (a8 : Int32) (σ : MS) (hIo : pw_B a5 n0 4) (hI : pw_I a8 n 4) {H : Heap} {locs : List Loc} (hM : mw D ad A s.heap H locs σ) {ls : Array Slot} (hl : lv_has ls 11 [(0, .ref (ad 0)), (1, .long a1), (3, .long a3), (5, .int a5), (6, .long a6), (8, .int a8)]), W p l e rmM_multiply s m args below meth c H locs 0 0 (MQ below (va_Qv (fun u => u = fM_multiply_39 n K a1 a3 a5 a6 a8 σ) (mw_E D ad A) A) args s 0 0 A) (F0 m 39 ls []) := by
  obtain ⟨hx, hb, hr, hml, hown, hts, hlocks⟩ := id C
  intro n
  induction n with
  | zero =>
    intro a1 a3 a5 a6 a8 σ hIo hI
    exact absurd hI pw_I_zero
  | succ n ih =>
    intro a1 a3 a5 a6 a8 σ hIo hI H locs hM ls hl
    refine lv_iload hx hb dM_multiply_39 (lv_at hl 5 rfl) ?_
    refine lv_iconst (v := 4) hx hb dM_multiply_41 (by decide) ?_
    refine lv_icmp_ge (tgt := 115) hx hb dM_multiply_42 (by decide) (fun h1 => ?_) (fun h1 => ?_)
    · refine lv_aload_n hx hb dM_multiply_115 rfl (lv_at hl 0 rfl) ?_
      refine mw_get (v := .ref (ad 5)) hx hb hts hown hK hM 7 (by decide) (hts _ w_494) (mw_fd_factor _ _) dM_multiply_116 ?_
      refine lv_iload hx hb dM_multiply_119 (lv_at hl 3 rfl) ?_
      refine lv_iconst (v := 4) hx hb dM_multiply_121 (by decide) ?_
      refine lv_iadd hx hb dM_multiply_122 ?_
      refine lv_lload hx hb dM_multiply_123 (lv_at hl 4 rfl) ?_
      refine lv_l2i hx hb dM_multiply_125 rfl ?_
      refine mw_iast (σ' := ms_set_factor σ (upd (ms_factor σ) (a5 + 4).toNatClampNeg a6.toInt32)) hx hb hK hM 5 (mw_ar_factor _ _) (pw_i4 hIo) (mw_st_factor _ _ _) dM_multiply_126 (fun H locs hM => ?_)
      refine lv_iinc (v := a5 + 1) (lv' := [(5, .int (a5 + 1)), (0, .ref (ad 0)), (1, .long a1), (3, .long a3), (6, .long a6), (8, .int a8)]) hx hb dM_multiply_127 hl (k := 3) rfl rfl (by decide) rfl (fun ls hl => ?_)
      refine lv_goto (tgt := 27) hx hb dM_multiply_130 (by decide) ?_
      rw [(show fM_multiply_39 (n + 1) K a1 a3 a5 a6 a8 σ = K a1 a3 (a5 + 1) (ms_set_factor σ (upd (ms_factor σ) (a5 + 4).toNatClampNeg a6.toInt32)) by rw [fM_multiply_39, if_pos h1])]
      exact hQ a1 a3 (a5 + 1) (ms_set_factor σ (upd (ms_factor σ) (a5 + 4).toNatClampNeg a6.toInt32)) (pw_B_next hIo) hM (lv_sub hl [1, 2, 3, 0] rfl)
    · refine lv_lload_n hx hb dM_multiply_45 rfl (lv_at hl 1 rfl) ?_
      refine lv_bipush (v := 16) hx hb dM_multiply_46 (by decide) ?_
      refine lv_iload hx hb dM_multiply_48 (lv_at hl 3 rfl) ?_
      refine lv_imul hx hb dM_multiply_50 ?_
      refine lv_lushr (v := bn_shr a1 (16 * a5)) hx hb dM_multiply_51 rfl ?_
      refine lv_ldc2 hx hb hown (hts _ w_691) dM_multiply_52 ?_
      refine lv_land hx hb dM_multiply_55 ?_
      refine lv_lload_n hx hb dM_multiply_56 rfl (lv_at hl 2 rfl) ?_
      refine lv_bipush (v := 16) hx hb dM_multiply_57 (by decide) ?_
      refine lv_iload hx hb dM_multiply_59 (lv_at hl 5 rfl) ?_
      refine lv_imul hx hb dM_multiply_61 ?_
      refine lv_lushr (v := bn_shr a3 (16 * a8)) hx hb dM_multiply_62 rfl ?_
      refine lv_ldc2 hx hb hown (hts _ w_691) dM_multiply_63 ?_
      refine lv_land hx hb dM_multiply_66 ?_
      refine lv_lmul hx hb dM_multiply_67 ?_
      refine lv_aload_n hx hb dM_multiply_68 rfl (lv_at hl 0 rfl) ?_
      refine mw_get (v := .ref (ad 5)) hx hb hts hown hK hM 7 (by decide) (hts _ w_494) (mw_fd_factor _ _) dM_multiply_69 ?_
      refine lv_iload hx hb dM_multiply_72 (lv_at hl 3 rfl) ?_
      refine lv_iload hx hb dM_multiply_74 (lv_at hl 5 rfl) ?_
      refine lv_iadd hx hb dM_multiply_76 ?_
      refine mw_iald hx hb hK hM 5 (mw_ar_factor _ _) (pw_ij hIo (pw_I_body hI h1)) dM_multiply_77 ?_
      refine lv_i2l hx hb dM_multiply_78 rfl ?_
      refine lv_ladd hx hb dM_multiply_79 ?_
      refine lv_lload hx hb dM_multiply_80 (lv_at hl 4 rfl) ?_
      refine lv_ladd hx hb dM_multiply_82 ?_
      refine lv_lstore (lv' := [(9, .long (((((bn_shr a1 (16 * a5)) &&& 65535) * ((bn_shr a3 (16 * a8)) &&& 65535)) + ((ms_factor σ (a5 + a8).toNatClampNeg).toInt64)) + a6)), (0, .ref (ad 0)), (1, .long a1), (3, .long a3), (5, .int a5), (6, .long a6), (8, .int a8)]) hx hb dM_multiply_83 hl (by decide) rfl (fun ls hl => ?_)
      rw [(show fM_multiply_39 (n + 1) K a1 a3 a5 a6 a8 σ = fM_multiply_85 (fM_multiply_39 n K) a1 a3 a5 a8 (((((bn_shr a1 (16 * a5)) &&& 65535) * ((bn_shr a3 (16 * a8)) &&& 65535)) + ((ms_factor σ (a5 + a8).toNatClampNeg).toInt64)) + a6) σ by rw [fM_multiply_39, if_neg h1])]
      exact kM_multiply_85 C hK hA a1 a3 a5 a8 (((((bn_shr a1 (16 * a5)) &&& 65535) * ((bn_shr a3 (16 * a8)) &&& 65535)) + ((ms_factor σ (a5 + a8).toNatClampNeg).toInt64)) + a6) σ hM (fM_multiply_39 n K) (pw_I_body hI h1) hIo (fun b1 b3 b5 b6 b8 τ hIo hI _ _ hM _ hl => ih b1 b3 b5 b6 b8 τ hIo hI hM hl) (lv_sub hl [1, 2, 3, 4, 6, 0] rfl)
set_option maxHeartbeats 4000000 in
set_option maxRecDepth 100000 in
theorem kM_multiply_27 {p : Program} {l : Launch} {e : Env} {s : State} {m : MethodId} {args : Array Value} {below : List Frame} {meth : Method} {c : Code} (C : pw_C p s m args meth c cM_multiply 11 none "BitNumbersModel") {D : va_G} {ad : Nat → Nat} {A : Nat → Prop} (hK : va_K D clM (tyA ad) s) (hA : ∀ q, s.heap.size ≤ q → A q) : ∀ (n : Nat) (a1 : Int64) (a3 : Int64) (a5 : Int32) (σ : MS) (hI : pw_I a5 n 4) {H : Heap} {locs : List Loc} (hM : mw D ad A s.heap H locs σ) {ls : Array Slot} (hl : lv_has ls 11 [(0, .ref (ad 0)), (1, .long a1), (3, .long a3), (5, .int a5)]), W p l e rmM_multiply s m args below meth c H locs 0 0 (MQ below (va_Qv (fun u => u = fM_multiply_27 n a1 a3 a5 σ) (mw_E D ad A) A) args s 0 0 A) (F0 m 27 ls []) := by
  obtain ⟨hx, hb, hr, hml, hown, hts, hlocks⟩ := id C
  intro n
  induction n with
  | zero =>
    intro a1 a3 a5 σ hI
    exact absurd hI pw_I_zero
  | succ n ih =>
    intro a1 a3 a5 σ hI H locs hM ls hl
    refine lv_iload hx hb dM_multiply_27 (lv_at hl 3 rfl) ?_
    refine lv_iconst (v := 4) hx hb dM_multiply_29 (by decide) ?_
    refine lv_icmp_ge (tgt := 133) hx hb dM_multiply_30 (by decide) (fun h1 => ?_) (fun h1 => ?_)
    · exact W.vret hx hb hr (fun t ht hW => ⟨⟨σ, rfl, by rw [(show fM_multiply_27 (n + 1) a1 a3 a5 σ = σ by rw [fM_multiply_27, if_pos h1])], by rw [ht]; exact hM.1, va_K.moved hW.alike hK, hM.2.1⟩, hM.2.2.F ht⟩) hM.2.2.2.2 dM_multiply_133
    · refine lv_lconst (v := 0) hx hb dM_multiply_33 (by decide) ?_
      refine lv_lstore (lv' := [(6, .long 0), (0, .ref (ad 0)), (1, .long a1), (3, .long a3), (5, .int a5)]) hx hb dM_multiply_34 hl (by decide) rfl (fun ls hl => ?_)
      refine lv_iconst (v := 0) hx hb dM_multiply_36 (by decide) ?_
      refine lv_istore (lv' := [(8, .int 0), (6, .long 0), (0, .ref (ad 0)), (1, .long a1), (3, .long a3), (5, .int a5)]) hx hb dM_multiply_37 hl (by decide) rfl (fun ls hl => ?_)
      rw [(show fM_multiply_27 (n + 1) a1 a3 a5 σ = fM_multiply_39 5 (fM_multiply_27 n) a1 a3 a5 0 0 σ by rw [fM_multiply_27, if_neg h1])]
      exact kM_multiply_39 C hK hA (fM_multiply_27 n) (fun b1 b3 b5 τ hI _ _ hM _ hl => ih b1 b3 b5 τ hI hM hl) 5 a1 a3 a5 0 0 σ (pw_I_body hI h1) (⟨0, by decide, by decide, by decide⟩ : pw_I 0 5 4) hM (lv_sub hl [2, 3, 4, 5, 1, 0] rfl)
set_option maxHeartbeats 4000000 in
set_option maxRecDepth 100000 in
theorem kM_multiply_3 {p : Program} {l : Launch} {e : Env} {s : State} {m : MethodId} {args : Array Value} {below : List Frame} {meth : Method} {c : Code} (C : pw_C p s m args meth c cM_multiply 11 none "BitNumbersModel") {D : va_G} {ad : Nat → Nat} {A : Nat → Prop} (hK : va_K D clM (tyA ad) s) (hA : ∀ q, s.heap.size ≤ q → A q) : ∀ (n : Nat) (a1 : Int64) (a3 : Int64) (a5 : Int32) (σ : MS) (hI : pw_I a5 n 16) {H : Heap} {locs : List Loc} (hM : mw D ad A s.heap H locs σ) {ls : Array Slot} (hl : lv_has ls 11 [(0, .ref (ad 0)), (1, .long a1), (3, .long a3), (5, .int a5)]), W p l e rmM_multiply s m args below meth c H locs 0 0 (MQ below (va_Qv (fun u => u = fM_multiply_3 n a1 a3 a5 σ) (mw_E D ad A) A) args s 0 0 A) (F0 m 3 ls []) := by
  obtain ⟨hx, hb, hr, hml, hown, hts, hlocks⟩ := id C
  intro n
  induction n with
  | zero =>
    intro a1 a3 a5 σ hI
    exact absurd hI pw_I_zero
  | succ n ih =>
    intro a1 a3 a5 σ hI H locs hM ls hl
    refine lv_iload hx hb dM_multiply_3 (lv_at hl 3 rfl) ?_
    refine lv_bipush (v := 16) hx hb dM_multiply_5 (by decide) ?_
    refine lv_icmp_ge (tgt := 24) hx hb dM_multiply_7 (by decide) (fun h1 => ?_) (fun h1 => ?_)
    · refine lv_iconst (v := 0) hx hb dM_multiply_24 (by decide) ?_
      refine lv_istore (lv' := [(5, .int 0), (0, .ref (ad 0)), (1, .long a1), (3, .long a3)]) hx hb dM_multiply_25 hl (by decide) rfl (fun ls hl => ?_)
      rw [(show fM_multiply_3 (n + 1) a1 a3 a5 σ = fM_multiply_27 5 a1 a3 0 σ by rw [fM_multiply_3, if_pos h1])]
      exact kM_multiply_27 C hK hA 5 a1 a3 0 σ (⟨0, by decide, by decide, by decide⟩ : pw_I 0 5 4) hM (lv_sub hl [1, 2, 3, 0] rfl)
    · refine lv_aload_n hx hb dM_multiply_10 rfl (lv_at hl 0 rfl) ?_
      refine mw_get (v := .ref (ad 5)) hx hb hts hown hK hM 7 (by decide) (hts _ w_494) (mw_fd_factor _ _) dM_multiply_11 ?_
      refine lv_iload hx hb dM_multiply_14 (lv_at hl 3 rfl) ?_
      refine lv_iconst (v := 0) hx hb dM_multiply_16 (by decide) ?_
      refine mw_iast (σ' := ms_set_factor σ (upd (ms_factor σ) a5.toNatClampNeg 0)) hx hb hK hM 5 (mw_ar_factor _ _) (pw_B_in (pw_I_body hI h1) (by decide)) (mw_st_factor _ _ _) dM_multiply_17 (fun H locs hM => ?_)
      refine lv_iinc (v := a5 + 1) (lv' := [(5, .int (a5 + 1)), (0, .ref (ad 0)), (1, .long a1), (3, .long a3)]) hx hb dM_multiply_18 hl (k := 3) rfl rfl (by decide) rfl (fun ls hl => ?_)
      refine lv_goto (tgt := 3) hx hb dM_multiply_21 (by decide) ?_
      rw [(show fM_multiply_3 (n + 1) a1 a3 a5 σ = fM_multiply_3 n a1 a3 (a5 + 1) (ms_set_factor σ (upd (ms_factor σ) a5.toNatClampNeg 0)) by rw [fM_multiply_3, if_neg h1])]
      exact ih a1 a3 (a5 + 1) (ms_set_factor σ (upd (ms_factor σ) a5.toNatClampNeg 0)) (pw_B_next (pw_I_body hI h1)) hM (lv_sub hl [1, 2, 3, 0] rfl)
set_option maxHeartbeats 4000000 in
set_option maxRecDepth 100000 in
theorem kM_multiply_0 {p : Program} {l : Launch} {e : Env} {s : State} {m : MethodId} {args : Array Value} {below : List Frame} {meth : Method} {c : Code} (C : pw_C p s m args meth c cM_multiply 11 none "BitNumbersModel") {D : va_G} {ad : Nat → Nat} {A : Nat → Prop} (hK : va_K D clM (tyA ad) s) (hA : ∀ q, s.heap.size ≤ q → A q) (a1 : Int64) (a3 : Int64) (σ : MS) {H : Heap} {locs : List Loc} (hM : mw D ad A s.heap H locs σ) {ls : Array Slot} (hl : lv_has ls 11 [(0, .ref (ad 0)), (1, .long a1), (3, .long a3)]) : W p l e rmM_multiply s m args below meth c H locs 0 0 (MQ below (va_Qv (fun u => u = fM_multiply a1 a3 σ) (mw_E D ad A) A) args s 0 0 A) (F0 m 0 ls []) := by
  obtain ⟨hx, hb, hr, hml, hown, hts, hlocks⟩ := id C
  refine lv_iconst (v := 0) hx hb dM_multiply_0 (by decide) ?_
  refine lv_istore (lv' := [(5, .int 0), (0, .ref (ad 0)), (1, .long a1), (3, .long a3)]) hx hb dM_multiply_1 hl (by decide) rfl (fun ls hl => ?_)
  rw [(show fM_multiply a1 a3 σ = fM_multiply_3 17 a1 a3 0 σ by rw [fM_multiply])]
  exact kM_multiply_3 C hK hA 17 a1 a3 0 σ (⟨0, by decide, by decide, by decide⟩ : pw_I 0 17 16) hM (lv_sub hl [1, 2, 3, 0] rfl)
set_option maxHeartbeats 4000000 in
set_option maxRecDepth 100000 in
theorem qM_multiply (l : Launch) (D : va_G) (ad : Nat → Nat) (a1 : Int64) (a3 : Int64) (σ : MS) (sz : Nat) : Met l yM_multiply wsM_multiply rmM_multiply (va_Pc [.ref (ad 0), .long a1, .long a3] (mw_B D ad σ sz)) (va_Qv (fun u => u = fM_multiply a1 a3 σ) (mw_E D ad (va_A (mw_c ad σ) sz)) (va_A (mw_c ad σ) sz)) 0 0 (va_A (mw_c ad σ) sz) := by
  refine Met.ofW (cc := cM_multiply) (maxL := 11) (ret := none) (by decide) rfl ?_
  intro p e s m args below meth c s₁ B hml hv
  obtain ⟨rfl, hsz, hP, hK, hD⟩ := hv
  have hts0 := atoms_spec (ws := wsM_multiply) B.pre
  have hts := fun (w : Cond) (h : w ∈ aw) => hts0 w (List.mem_cons_of_mem _ h)
  have hown : s.vm.findClass "BitNumbersModel" = some m.cls := findClass_of_methodNamed B.named
  subst hsz
  have hl := lv_entry ([.ref (ad 0), .long a1, .long a3]) (n := 11) (Nat.le_of_ble_eq_true rfl)
  rw [lg_entry_eq]
  generalize (lg_sl ([.ref (ad 0), .long a1, .long a3]) ++ List.replicate (11 - (lg_sl ([.ref (ad 0), .long a1, .long a3])).length) Slot.unset).toArray = ls at hl ⊢
  exact kM_multiply_0 ⟨B.exec, B.bytes, B.returns, hml, hown, hts, B.notSynchronized⟩ hK (fun q h => Or.inr h) a1 a3 σ ⟨hP, hD.self, va_S.rf⟩ hl

set_option maxHeartbeats 4000000 in
set_option maxRecDepth 100000 in
theorem kM_shifted_58 {p : Program} {l : Launch} {e : Env} {s : State} {m : MethodId} {args : Array Value} {below : List Frame} {meth : Method} {c : Code} (C : pw_C p s m args meth c cM_shifted 7 (some .int) "BitNumbersModel") {D : va_G} {ad : Nat → Nat} {A : Nat → Prop} (hK : va_K D clM (tyA ad) s) (hA : ∀ q, s.heap.size ≤ q → A q) (a4 : Int32) (a5 : Int32) (s0 : Int32) (σ : MS) {H : Heap} {locs : List Loc} (hM : mw D ad A s.heap H locs σ) {ls : Array Slot} (hl : lv_has ls 7 [(4, .int a4), (5, .int a5)]) : W p l e rmM_shifted s m args below meth c H locs 0 0 (MQ below (va_Qi (fun r u => (r, u) = fM_shifted_58 a4 a5 s0 σ) (mw_E D ad A) A) args s 0 0 A) (F0 m 58 ls [.int s0]) := by
  obtain ⟨hx, hb, hr, hml, hown, hts, hlocks⟩ := id C
  refine lv_istore (lv' := [(6, .int s0), (4, .int a4), (5, .int a5)]) hx hb dM_shifted_58 hl (by decide) rfl (fun ls hl => ?_)
  refine lv_iload hx hb dM_shifted_60 (lv_at hl 2 rfl) ?_
  refine lv_iload hx hb dM_shifted_62 (lv_at hl 1 rfl) ?_
  refine lv_ishl hx hb dM_shifted_64 ?_
  refine lv_iload hx hb dM_shifted_65 (lv_at hl 0 rfl) ?_
  refine lv_bipush (v := 16) hx hb dM_shifted_67 (by decide) ?_
  refine lv_iload hx hb dM_shifted_69 (lv_at hl 1 rfl) ?_
  refine lv_isub hx hb dM_shifted_71 ?_
  refine lv_ishr hx hb dM_shifted_72 ?_
  refine lv_ior hx hb dM_shifted_73 ?_
  refine lv_ldc hx hb hown (hts _ w_686) dM_shifted_74 ?_
  refine lv_iand hx hb dM_shifted_76 ?_
  exact W.iret (v := ((a5 <<< (a4 &&& 31)) ||| (s0 >>> ((16 - a4) &&& 31))) &&& 65535) hx hb hr (fun t ht hW => ⟨⟨((a5 <<< (a4 &&& 31)) ||| (s0 >>> ((16 - a4) &&& 31))) &&& 65535, σ, rfl, by rw [(show fM_shifted_58 a4 a5 s0 σ = (((a5 <<< (a4 &&& 31)) ||| (s0 >>> ((16 - a4) &&& 31))) &&& 65535, σ) by rw [fM_shifted_58])], by rw [ht]; exact hM.1, va_K.moved hW.alike hK, hM.2.1⟩, hM.2.2.F ht⟩) hM.2.2.2.2 dM_shifted_77
set_option maxHeartbeats 4000000 in
set_option maxRecDepth 100000 in
theorem kM_shifted_57 {p : Program} {l : Launch} {e : Env} {s : State} {m : MethodId} {args : Array Value} {below : List Frame} {meth : Method} {c : Code} (C : pw_C p s m args meth c cM_shifted 7 (some .int) "BitNumbersModel") {D : va_G} {ad : Nat → Nat} {A : Nat → Prop} (hK : va_K D clM (tyA ad) s) (hA : ∀ q, s.heap.size ≤ q → A q) (a4 : Int32) (a5 : Int32) (σ : MS) {H : Heap} {locs : List Loc} (hM : mw D ad A s.heap H locs σ) {ls : Array Slot} (hl : lv_has ls 7 [(4, .int a4), (5, .int a5)]) : W p l e rmM_shifted s m args below meth c H locs 0 0 (MQ below (va_Qi (fun r u => (r, u) = fM_shifted_57 a4 a5 σ) (mw_E D ad A) A) args s 0 0 A) (F0 m 57 ls []) := by
  obtain ⟨hx, hb, hr, hml, hown, hts, hlocks⟩ := id C
  refine lv_iconst (v := 0) hx hb dM_shifted_57 (by decide) ?_
  rw [(show fM_shifted_57 a4 a5 σ = fM_shifted_58 a4 a5 0 σ by rw [fM_shifted_57])]
  exact kM_shifted_58 C hK hA a4 a5 0 σ hM (lv_sub hl [0, 1] rfl)
set_option maxHeartbeats 4000000 in
set_option maxRecDepth 100000 in
theorem kM_shifted_33 {p : Program} {l : Launch} {e : Env} {s : State} {m : MethodId} {args : Array Value} {below : List Frame} {meth : Method} {c : Code} (C : pw_C p s m args meth c cM_shifted 7 (some .int) "BitNumbersModel") {D : va_G} {ad : Nat → Nat} {A : Nat → Prop} (hK : va_K D clM (tyA ad) s) (hA : ∀ q, s.heap.size ≤ q → A q) (a3 : Int32) (a4 : Int32) (s0 : Int32) (σ : MS) {H : Heap} {locs : List Loc} (hM : mw D ad A s.heap H locs σ) {ls : Array Slot} (hl : lv_has ls 7 [(0, .ref (ad 0)), (3, .int a3), (4, .int a4)]) : W p l e rmM_shifted s m args below meth c H locs 0 0 (MQ below (va_Qi (fun r u => (r, u) = fM_shifted_33 a3 a4 s0 σ) (mw_E D ad A) A) args s 0 0 A) (F0 m 33 ls [.int s0]) := by
  obtain ⟨hx, hb, hr, hml, hown, hts, hlocks⟩ := id C
  refine lv_istore (lv' := [(5, .int s0), (0, .ref (ad 0)), (3, .int a3), (4, .int a4)]) hx hb dM_shifted_33 hl (by decide) rfl (fun ls hl => ?_)
  refine lv_iload_n hx hb dM_shifted_35 rfl (lv_at hl 2 rfl) ?_
  refine lv_iconst (v := 1) hx hb dM_shifted_36 (by decide) ?_
  refine lv_icmp_lt (tgt := 57) hx hb dM_shifted_37 (by decide) (fun h1 => ?_) (fun h1 => ?_)
  · rw [(show fM_shifted_33 a3 a4 s0 σ = fM_shifted_57 a4 s0 σ by rw [fM_shifted_33, if_pos h1])]
    exact kM_shifted_57 C hK hA a4 s0 σ hM (lv_sub hl [3, 0] rfl)
  · refine lv_iload_n hx hb dM_shifted_40 rfl (lv_at hl 2 rfl) ?_
    refine lv_bipush (v := 17) hx hb dM_shifted_41 (by decide) ?_
    refine lv_icmp_ge (tgt := 57) hx hb dM_shifted_43 (by decide) (fun h2 => ?_) (fun h2 => ?_)
    · rw [(show fM_shifted_33 a3 a4 s0 σ = fM_shifted_57 a4 s0 σ by rw [fM_shifted_33, if_neg h1, if_pos h2])]
      exact kM_shifted_57 C hK hA a4 s0 σ hM (lv_sub hl [3, 0] rfl)
    · refine lv_aload_n hx hb dM_shifted_46 rfl (lv_at hl 1 rfl) ?_
      refine mw_get (v := .ref (ad 5)) hx hb hts hown hK hM 7 (by decide) (hts _ w_494) (mw_fd_factor _ _) dM_shifted_47 ?_
      refine lv_iload_n hx hb dM_shifted_50 rfl (lv_at hl 2 rfl) ?_
      refine lv_iconst (v := 1) hx hb dM_shifted_51 (by decide) ?_
      refine lv_isub hx hb dM_shifted_52 ?_
      refine mw_iald hx hb hK hM 5 (mw_ar_factor _ _) (pw_shin h1 h2) dM_shifted_53 ?_
      refine lv_goto (tgt := 58) hx hb dM_shifted_54 (by decide) ?_
      rw [(show fM_shifted_33 a3 a4 s0 σ = fM_shifted_58 a4 s0 (ms_factor σ (a3 - 1).toNatClampNeg) σ by rw [fM_shifted_33, if_neg h1, if_neg h2])]
      exact kM_shifted_58 C hK hA a4 s0 (ms_factor σ (a3 - 1).toNatClampNeg) σ hM (lv_sub hl [3, 0] rfl)
set_option maxHeartbeats 4000000 in
set_option maxRecDepth 100000 in
theorem kM_shifted_32 {p : Program} {l : Launch} {e : Env} {s : State} {m : MethodId} {args : Array Value} {below : List Frame} {meth : Method} {c : Code} (C : pw_C p s m args meth c cM_shifted 7 (some .int) "BitNumbersModel") {D : va_G} {ad : Nat → Nat} {A : Nat → Prop} (hK : va_K D clM (tyA ad) s) (hA : ∀ q, s.heap.size ≤ q → A q) (a3 : Int32) (a4 : Int32) (σ : MS) {H : Heap} {locs : List Loc} (hM : mw D ad A s.heap H locs σ) {ls : Array Slot} (hl : lv_has ls 7 [(0, .ref (ad 0)), (3, .int a3), (4, .int a4)]) : W p l e rmM_shifted s m args below meth c H locs 0 0 (MQ below (va_Qi (fun r u => (r, u) = fM_shifted_32 a3 a4 σ) (mw_E D ad A) A) args s 0 0 A) (F0 m 32 ls []) := by
  obtain ⟨hx, hb, hr, hml, hown, hts, hlocks⟩ := id C
  refine lv_iconst (v := 0) hx hb dM_shifted_32 (by decide) ?_
  rw [(show fM_shifted_32 a3 a4 σ = fM_shifted_33 a3 a4 0 σ by rw [fM_shifted_32])]
  exact kM_shifted_33 C hK hA a3 a4 0 σ hM (lv_sub hl [0, 1, 2] rfl)
set_option maxHeartbeats 4000000 in
set_option maxRecDepth 100000 in
theorem kM_shifted_13 {p : Program} {l : Launch} {e : Env} {s : State} {m : MethodId} {args : Array Value} {below : List Frame} {meth : Method} {c : Code} (C : pw_C p s m args meth c cM_shifted 7 (some .int) "BitNumbersModel") {D : va_G} {ad : Nat → Nat} {A : Nat → Prop} (hK : va_K D clM (tyA ad) s) (hA : ∀ q, s.heap.size ≤ q → A q) (a3 : Int32) (a4 : Int32) (σ : MS) {H : Heap} {locs : List Loc} (hM : mw D ad A s.heap H locs σ) {ls : Array Slot} (hl : lv_has ls 7 [(0, .ref (ad 0)), (3, .int a3), (4, .int a4)]) : W p l e rmM_shifted s m args below meth c H locs 0 0 (MQ below (va_Qi (fun r u => (r, u) = fM_shifted_13 a3 a4 σ) (mw_E D ad A) A) args s 0 0 A) (F0 m 13 ls []) := by
  obtain ⟨hx, hb, hr, hml, hown, hts, hlocks⟩ := id C
  refine lv_iload_n hx hb dM_shifted_13 rfl (lv_at hl 1 rfl) ?_
  refine lv_if_lt (tgt := 32) hx hb dM_shifted_14 (by decide) (fun h1 => ?_) (fun h1 => ?_)
  · rw [(show fM_shifted_13 a3 a4 σ = fM_shifted_32 a3 a4 σ by rw [fM_shifted_13, if_pos h1])]
    exact kM_shifted_32 C hK hA a3 a4 σ hM (lv_sub hl [0, 1, 2] rfl)
  · refine lv_iload_n hx hb dM_shifted_17 rfl (lv_at hl 1 rfl) ?_
    refine lv_bipush (v := 16) hx hb dM_shifted_18 (by decide) ?_
    refine lv_icmp_ge (tgt := 32) hx hb dM_shifted_20 (by decide) (fun h2 => ?_) (fun h2 => ?_)
    · rw [(show fM_shifted_13 a3 a4 σ = fM_shifted_32 a3 a4 σ by rw [fM_shifted_13, if_neg h1, if_pos h2])]
      exact kM_shifted_32 C hK hA a3 a4 σ hM (lv_sub hl [0, 1, 2] rfl)
    · refine lv_aload_n hx hb dM_shifted_23 rfl (lv_at hl 0 rfl) ?_
      refine mw_get (v := .ref (ad 5)) hx hb hts hown hK hM 7 (by decide) (hts _ w_494) (mw_fd_factor _ _) dM_shifted_24 ?_
      refine lv_iload_n hx hb dM_shifted_27 rfl (lv_at hl 1 rfl) ?_
      refine mw_iald hx hb hK hM 5 (mw_ar_factor _ _) (pw_vi (pw_l1 h1) (pw_u1 h2 rfl)) dM_shifted_28 ?_
      refine lv_goto (tgt := 33) hx hb dM_shifted_29 (by decide) ?_
      rw [(show fM_shifted_13 a3 a4 σ = fM_shifted_33 a3 a4 (ms_factor σ a3.toNatClampNeg) σ by rw [fM_shifted_13, if_neg h1, if_neg h2])]
      exact kM_shifted_33 C hK hA a3 a4 (ms_factor σ a3.toNatClampNeg) σ hM (lv_sub hl [0, 1, 2] rfl)
set_option maxHeartbeats 4000000 in
set_option maxRecDepth 100000 in
theorem kM_shifted_7 {p : Program} {l : Launch} {e : Env} {s : State} {m : MethodId} {args : Array Value} {below : List Frame} {meth : Method} {c : Code} (C : pw_C p s m args meth c cM_shifted 7 (some .int) "BitNumbersModel") {D : va_G} {ad : Nat → Nat} {A : Nat → Prop} (hK : va_K D clM (tyA ad) s) (hA : ∀ q, s.heap.size ≤ q → A q) (a1 : Int32) (a3 : Int32) (σ : MS) {H : Heap} {locs : List Loc} (hM : mw D ad A s.heap H locs σ) {ls : Array Slot} (hl : lv_has ls 7 [(0, .ref (ad 0)), (1, .int a1), (3, .int a3)]) : W p l e rmM_shifted s m args below meth c H locs 0 0 (MQ below (va_Qi (fun r u => (r, u) = fM_shifted_7 a1 a3 σ) (mw_E D ad A) A) args s 0 0 A) (F0 m 7 ls []) := by
  obtain ⟨hx, hb, hr, hml, hown, hts, hlocks⟩ := id C
  refine lv_iload_n hx hb dM_shifted_7 rfl (lv_at hl 1 rfl) ?_
  refine lv_bipush (v := 16) hx hb dM_shifted_8 (by decide) ?_
  refine lv_irem hx hb dM_shifted_10 (by decide) ?_
  refine lv_istore (lv' := [(4, .int (a1 - a1 / 16 * 16)), (0, .ref (ad 0)), (1, .int a1), (3, .int a3)]) hx hb dM_shifted_11 hl (by decide) rfl (fun ls hl => ?_)
  rw [(show fM_shifted_7 a1 a3 σ = fM_shifted_13 a3 (a1 - a1 / 16 * 16) σ by rw [fM_shifted_7])]
  exact kM_shifted_13 C hK hA a3 (a1 - a1 / 16 * 16) σ hM (lv_sub hl [1, 3, 0] rfl)
set_option maxHeartbeats 4000000 in
set_option maxRecDepth 100000 in
theorem kM_shifted_0 {p : Program} {l : Launch} {e : Env} {s : State} {m : MethodId} {args : Array Value} {below : List Frame} {meth : Method} {c : Code} (C : pw_C p s m args meth c cM_shifted 7 (some .int) "BitNumbersModel") {D : va_G} {ad : Nat → Nat} {A : Nat → Prop} (hK : va_K D clM (tyA ad) s) (hA : ∀ q, s.heap.size ≤ q → A q) (a1 : Int32) (a2 : Int32) (σ : MS) {H : Heap} {locs : List Loc} (hM : mw D ad A s.heap H locs σ) {ls : Array Slot} (hl : lv_has ls 7 [(0, .ref (ad 0)), (1, .int a1), (2, .int a2)]) : W p l e rmM_shifted s m args below meth c H locs 0 0 (MQ below (va_Qi (fun r u => (r, u) = fM_shifted a1 a2 σ) (mw_E D ad A) A) args s 0 0 A) (F0 m 0 ls []) := by
  obtain ⟨hx, hb, hr, hml, hown, hts, hlocks⟩ := id C
  refine lv_iload_n hx hb dM_shifted_0 rfl (lv_at hl 2 rfl) ?_
  refine lv_iload_n hx hb dM_shifted_1 rfl (lv_at hl 1 rfl) ?_
  refine lv_bipush (v := 16) hx hb dM_shifted_2 (by decide) ?_
  refine lv_idiv hx hb dM_shifted_4 (by decide) ?_
  refine lv_isub hx hb dM_shifted_5 ?_
  refine lv_istore_n (lv' := [(3, .int (a2 - (a1 / 16))), (0, .ref (ad 0)), (1, .int a1), (2, .int a2)]) hx hb dM_shifted_6 rfl hl (by decide) rfl (fun ls hl => ?_)
  rw [(show fM_shifted a1 a2 σ = fM_shifted_7 a1 (a2 - (a1 / 16)) σ by rw [fM_shifted])]
  exact kM_shifted_7 C hK hA a1 (a2 - (a1 / 16)) σ hM (lv_sub hl [1, 2, 0] rfl)
set_option maxHeartbeats 4000000 in
set_option maxRecDepth 100000 in
theorem qM_shifted (l : Launch) (D : va_G) (ad : Nat → Nat) (a1 : Int32) (a2 : Int32) (σ : MS) (sz : Nat) : Met l yM_shifted wsM_shifted rmM_shifted (va_Pc [.ref (ad 0), .int a1, .int a2] (mw_B D ad σ sz)) (va_Qi (fun r u => (r, u) = fM_shifted a1 a2 σ) (mw_E D ad (va_A (mw_c ad σ) sz)) (va_A (mw_c ad σ) sz)) 0 0 (va_A (mw_c ad σ) sz) := by
  refine Met.ofW (cc := cM_shifted) (maxL := 7) (ret := (some .int)) (by decide) rfl ?_
  intro p e s m args below meth c s₁ B hml hv
  obtain ⟨rfl, hsz, hP, hK, hD⟩ := hv
  have hts0 := atoms_spec (ws := wsM_shifted) B.pre
  have hts := fun (w : Cond) (h : w ∈ aw) => hts0 w (List.mem_cons_of_mem _ h)
  have hown : s.vm.findClass "BitNumbersModel" = some m.cls := findClass_of_methodNamed B.named
  subst hsz
  have hl := lv_entry ([.ref (ad 0), .int a1, .int a2]) (n := 7) (Nat.le_of_ble_eq_true rfl)
  rw [lg_entry_eq]
  generalize (lg_sl ([.ref (ad 0), .int a1, .int a2]) ++ List.replicate (7 - (lg_sl ([.ref (ad 0), .int a1, .int a2])).length) Slot.unset).toArray = ls at hl ⊢
  exact kM_shifted_0 ⟨B.exec, B.bytes, B.returns, hml, hown, hts, B.notSynchronized⟩ hK (fun q h => Or.inr h) a1 a2 σ ⟨hP, hD.self, va_S.rf⟩ hl

set_option maxHeartbeats 4000000 in
set_option maxRecDepth 100000 in
theorem kM_compareFactor_74 {p : Program} {l : Launch} {e : Env} {s : State} {m : MethodId} {args : Array Value} {below : List Frame} {meth : Method} {c : Code} (C : pw_C p s m args meth c cM_compareFactor 9 (some .int) "BitNumbersModel") {D : va_G} {ad : Nat → Nat} {A : Nat → Prop} (hK : va_K D clM (tyA ad) s) (hA : ∀ q, s.heap.size ≤ q → A q) (a1 : Int64) (a3 : Int32) (a4 : Int32) (a6 : Int32) (a7 : Int32) (a8 : Int32) (σ : MS) {H : Heap} {locs : List Loc} (hM : mw D ad A s.heap H locs σ) {n : Nat} (K : Int64 → Int32 → Int32 → Int32 → MS → Int32 × MS) (hI : pw_UB a6 n) (hQ : ∀ (b1 : Int64) (b3 : Int32) (b4 : Int32) (b6 : Int32) (σ : MS) (hI : pw_U b6 n) {H : Heap} {locs : List Loc} (hM : mw D ad A s.heap H locs σ) {ls : Array Slot} (hl : lv_has ls 9 [(0, .ref (ad 0)), (1, .long b1), (3, .int b3), (4, .int b4), (6, .int b6)]), W p l e rmM_compareFactor s m args below meth c H locs 0 0 (MQ below (va_Qi (fun r u => (r, u) = K b1 b3 b4 b6 σ) (mw_E D ad A) A) args s 0 0 A) (F0 m 42 ls [])) {ls : Array Slot} (hl : lv_has ls 9 [(0, .ref (ad 0)), (1, .long a1), (3, .int a3), (4, .int a4), (6, .int a6), (7, .int a7), (8, .int a8)]) : W p l e rmM_compareFactor s m args below meth c H locs 0 0 (MQ below (va_Qi (fun r u => (r, u) = fM_compareFactor_74 K a1 a3 a4 a6 a7 a8 σ) (mw_E D ad A) A) args s 0 0 A) (F0 m 74 ls []) := by
  obtain ⟨hx, hb, hr, hml, hown, hts, hlocks⟩ := id C
  refine lv_iload hx hb dM_compareFactor_74 (lv_at hl 5 rfl) ?_
  refine lv_iload hx hb dM_compareFactor_76 (lv_at hl 6 rfl) ?_
  refine lv_icmp_eq (tgt := 94) hx hb dM_compareFactor_78 (by decide) (fun h1 => ?_) (fun h1 => ?_)
  · refine lv_iinc (v := a6 + (-1)) (lv' := [(6, .int (a6 + (-1))), (0, .ref (ad 0)), (1, .long a1), (3, .int a3), (4, .int a4), (7, .int a7), (8, .int a8)]) hx hb dM_compareFactor_94 hl (k := 4) rfl rfl (by decide) rfl (fun ls hl => ?_)
    refine lv_goto (tgt := 42) hx hb dM_compareFactor_97 (by decide) ?_
    rw [(show fM_compareFactor_74 K a1 a3 a4 a6 a7 a8 σ = K a1 a3 a4 (a6 + (-1)) σ by rw [fM_compareFactor_74, if_pos h1])]
    exact hQ a1 a3 a4 (a6 + (-1)) σ (pw_UB_next hI) hM (lv_sub hl [1, 2, 3, 4, 0] rfl)
  · refine lv_iload hx hb dM_compareFactor_81 (lv_at hl 5 rfl) ?_
    refine lv_iload hx hb dM_compareFactor_83 (lv_at hl 6 rfl) ?_
    refine lv_icmp_ge (tgt := 92) hx hb dM_compareFactor_85 (by decide) (fun h2 => ?_) (fun h2 => ?_)
    · refine lv_iconst (v := 1) hx hb dM_compareFactor_92 (by decide) ?_
      exact W.iret (v := 1) hx hb hr (fun t ht hW => ⟨⟨1, σ, rfl, by rw [(show fM_compareFactor_74 K a1 a3 a4 a6 a7 a8 σ = (1, σ) by rw [fM_compareFactor_74, if_neg h1, if_pos h2])], by rw [ht]; exact hM.1, va_K.moved hW.alike hK, hM.2.1⟩, hM.2.2.F ht⟩) hM.2.2.2.2 dM_compareFactor_93
    · refine lv_iconst (v := (-1)) hx hb dM_compareFactor_88 (by decide) ?_
      refine lv_goto (tgt := 93) hx hb dM_compareFactor_89 (by decide) ?_
      exact W.iret (v := (-1)) hx hb hr (fun t ht hW => ⟨⟨(-1), σ, rfl, by rw [(show fM_compareFactor_74 K a1 a3 a4 a6 a7 a8 σ = ((-1), σ) by rw [fM_compareFactor_74, if_neg h1, if_neg h2])], by rw [ht]; exact hM.1, va_K.moved hW.alike hK, hM.2.1⟩, hM.2.2.F ht⟩) hM.2.2.2.2 dM_compareFactor_93
set_option maxHeartbeats 4000000 in
set_option maxRecDepth 100000 in
theorem kM_compareFactor_67 {p : Program} {l : Launch} {e : Env} {s : State} {m : MethodId} {args : Array Value} {below : List Frame} {meth : Method} {c : Code} (C : pw_C p s m args meth c cM_compareFactor 9 (some .int) "BitNumbersModel") {D : va_G} {ad : Nat → Nat} {A : Nat → Prop} (hK : va_K D clM (tyA ad) s) (hA : ∀ q, s.heap.size ≤ q → A q) (a1 : Int64) (a3 : Int32) (a4 : Int32) (a6 : Int32) (a7 : Int32) (s0 : Int32) (s1 : Int64) (σ : MS) {H : Heap} {locs : List Loc} (hM : mw D ad A s.heap H locs σ) {n : Nat} (K : Int64 → Int32 → Int32 → Int32 → MS → Int32 × MS) (hI : pw_UB a6 n) (hQ : ∀ (b1 : Int64) (b3 : Int32) (b4 : Int32) (b6 : Int32) (σ : MS) (hI : pw_U b6 n) {H : Heap} {locs : List Loc} (hM : mw D ad A s.heap H locs σ) {ls : Array Slot} (hl : lv_has ls 9 [(0, .ref (ad 0)), (1, .long b1), (3, .int b3), (4, .int b4), (6, .int b6)]), W p l e rmM_compareFactor s m args below meth c H locs 0 0 (MQ below (va_Qi (fun r u => (r, u) = K b1 b3 b4 b6 σ) (mw_E D ad A) A) args s 0 0 A) (F0 m 42 ls [])) {ls : Array Slot} (hl : lv_has ls 9 [(0, .ref (ad 0)), (1, .long a1), (3, .int a3), (4, .int a4), (6, .int a6), (7, .int a7)]) : W p l e rmM_compareFactor s m args below meth c H locs 0 0 (MQ below (va_Qi (fun r u => (r, u) = fM_compareFactor_67 K a1 a3 a4 a6 a7 s0 s1 σ) (mw_E D ad A) A) args s 0 0 A) (F0 m 67 ls [.int s0, .long s1]) := by
  obtain ⟨hx, hb, hr, hml, hown, hts, hlocks⟩ := id C
  refine lv_iload hx hb dM_compareFactor_67 (lv_at hl 4 rfl) ?_
  refine pw_call (va_runS (As := [.long s1, .int s0, .int a6]) (rest := []) ⟨hx, hb, hml, hown, hts⟩ (qM_digit l s1 s0 a6) (va_cwS 3 hts (gS w_683 w_684 w_34 w_685) rfl rfl rfl (by decide +kernel) ⟨Nat.le_of_ble_eq_true rfl, Nat.le_of_ble_eq_true rfl⟩) ⟨pw_bT, fun U hU hW => ⟨rfl, trivial⟩⟩ rfl rfl hl.1 rfl (lv_room (Nat.le_of_ble_eq_true rfl)) dM_compareFactor_69 ⟨Nat.zero_le _, Nat.zero_le _⟩) ?_
  refine lv_istore (lv' := [(8, .int (fM_digit s1 s0 a6)), (0, .ref (ad 0)), (1, .long a1), (3, .int a3), (4, .int a4), (6, .int a6), (7, .int a7)]) hx hb dM_compareFactor_72 hl (by decide) rfl (fun ls hl => ?_)
  rw [(show fM_compareFactor_67 K a1 a3 a4 a6 a7 s0 s1 σ = fM_compareFactor_74 K a1 a3 a4 a6 a7 (fM_digit s1 s0 a6) σ by rw [fM_compareFactor_67])]
  exact kM_compareFactor_74 C hK hA a1 a3 a4 a6 a7 (fM_digit s1 s0 a6) σ hM K hI hQ (lv_sub hl [1, 2, 3, 4, 5, 6, 0] rfl)
set_option maxHeartbeats 4000000 in
set_option maxRecDepth 100000 in
theorem kM_compareFactor_57 {p : Program} {l : Launch} {e : Env} {s : State} {m : MethodId} {args : Array Value} {below : List Frame} {meth : Method} {c : Code} (C : pw_C p s m args meth c cM_compareFactor 9 (some .int) "BitNumbersModel") {D : va_G} {ad : Nat → Nat} {A : Nat → Prop} (hK : va_K D clM (tyA ad) s) (hA : ∀ q, s.heap.size ≤ q → A q) (a1 : Int64) (a3 : Int32) (a4 : Int32) (a6 : Int32) (a7 : Int32) (σ : MS) {H : Heap} {locs : List Loc} (hM : mw D ad A s.heap H locs σ) {n : Nat} (K : Int64 → Int32 → Int32 → Int32 → MS → Int32 × MS) (hI : pw_UB a6 n) (hQ : ∀ (b1 : Int64) (b3 : Int32) (b4 : Int32) (b6 : Int32) (σ : MS) (hI : pw_U b6 n) {H : Heap} {locs : List Loc} (hM : mw D ad A s.heap H locs σ) {ls : Array Slot} (hl : lv_has ls 9 [(0, .ref (ad 0)), (1, .long b1), (3, .int b3), (4, .int b4), (6, .int b6)]), W p l e rmM_compareFactor s m args below meth c H locs 0 0 (MQ below (va_Qi (fun r u => (r, u) = K b1 b3 b4 b6 σ) (mw_E D ad A) A) args s 0 0 A) (F0 m 42 ls [])) {ls : Array Slot} (hl : lv_has ls 9 [(0, .ref (ad 0)), (1, .long a1), (3, .int a3), (4, .int a4), (6, .int a6), (7, .int a7)]) : W p l e rmM_compareFactor s m args below meth c H locs 0 0 (MQ below (va_Qi (fun r u => (r, u) = fM_compareFactor_57 K a1 a3 a4 a6 a7 σ) (mw_E D ad A) A) args s 0 0 A) (F0 m 57 ls []) := by
  obtain ⟨hx, hb, hr, hml, hown, hts, hlocks⟩ := id C
  refine lv_lload_n hx hb dM_compareFactor_57 rfl (lv_at hl 1 rfl) ?_
  refine lv_iload_n hx hb dM_compareFactor_58 rfl (lv_at hl 2 rfl) ?_
  refine lv_if_le (tgt := 66) hx hb dM_compareFactor_59 (by decide) (fun h1 => ?_) (fun h1 => ?_)
  · refine lv_iconst (v := 0) hx hb dM_compareFactor_66 (by decide) ?_
    rw [(show fM_compareFactor_57 K a1 a3 a4 a6 a7 σ = fM_compareFactor_67 K a1 a3 a4 a6 a7 0 a1 σ by rw [fM_compareFactor_57, if_pos h1])]
    exact kM_compareFactor_67 C hK hA a1 a3 a4 a6 a7 0 a1 σ hM K hI hQ (lv_sub hl [0, 1, 2, 3, 4, 5] rfl)
  · refine lv_iload_n hx hb dM_compareFactor_62 rfl (lv_at hl 2 rfl) ?_
    refine lv_goto (tgt := 67) hx hb dM_compareFactor_63 (by decide) ?_
    rw [(show fM_compareFactor_57 K a1 a3 a4 a6 a7 σ = fM_compareFactor_67 K a1 a3 a4 a6 a7 a3 a1 σ by rw [fM_compareFactor_57, if_neg h1])]
    exact kM_compareFactor_67 C hK hA a1 a3 a4 a6 a7 a3 a1 σ hM K hI hQ (lv_sub hl [0, 1, 2, 3, 4, 5] rfl)
set_option maxHeartbeats 4000000 in
set_option maxRecDepth 100000 in
theorem kM_compareFactor_55 {p : Program} {l : Launch} {e : Env} {s : State} {m : MethodId} {args : Array Value} {below : List Frame} {meth : Method} {c : Code} (C : pw_C p s m args meth c cM_compareFactor 9 (some .int) "BitNumbersModel") {D : va_G} {ad : Nat → Nat} {A : Nat → Prop} (hK : va_K D clM (tyA ad) s) (hA : ∀ q, s.heap.size ≤ q → A q) (a1 : Int64) (a3 : Int32) (a4 : Int32) (a6 : Int32) (s0 : Int32) (σ : MS) {H : Heap} {locs : List Loc} (hM : mw D ad A s.heap H locs σ) {n : Nat} (K : Int64 → Int32 → Int32 → Int32 → MS → Int32 × MS) (hI : pw_UB a6 n) (hQ : ∀ (b1 : Int64) (b3 : Int32) (b4 : Int32) (b6 : Int32) (σ : MS) (hI : pw_U b6 n) {H : Heap} {locs : List Loc} (hM : mw D ad A s.heap H locs σ) {ls : Array Slot} (hl : lv_has ls 9 [(0, .ref (ad 0)), (1, .long b1), (3, .int b3), (4, .int b4), (6, .int b6)]), W p l e rmM_compareFactor s m args below meth c H locs 0 0 (MQ below (va_Qi (fun r u => (r, u) = K b1 b3 b4 b6 σ) (mw_E D ad A) A) args s 0 0 A) (F0 m 42 ls [])) {ls : Array Slot} (hl : lv_has ls 9 [(0, .ref (ad 0)), (1, .long a1), (3, .int a3), (4, .int a4), (6, .int a6)]) : W p l e rmM_compareFactor s m args below meth c H locs 0 0 (MQ below (va_Qi (fun r u => (r, u) = fM_compareFactor_55 K a1 a3 a4 a6 s0 σ) (mw_E D ad A) A) args s 0 0 A) (F0 m 55 ls [.int s0]) := by
  obtain ⟨hx, hb, hr, hml, hown, hts, hlocks⟩ := id C
  refine lv_istore (lv' := [(7, .int s0), (0, .ref (ad 0)), (1, .long a1), (3, .int a3), (4, .int a4), (6, .int a6)]) hx hb dM_compareFactor_55 hl (by decide) rfl (fun ls hl => ?_)
  rw [(show fM_compareFactor_55 K a1 a3 a4 a6 s0 σ = fM_compareFactor_57 K a1 a3 a4 a6 s0 σ by rw [fM_compareFactor_55])]
  exact kM_compareFactor_57 C hK hA a1 a3 a4 a6 s0 σ hM K hI hQ (lv_sub hl [1, 2, 3, 4, 5, 0] rfl)
set_option maxHeartbeats 4000000 in
set_option maxRecDepth 100000 in
theorem kM_compareFactor_42 {p : Program} {l : Launch} {e : Env} {s : State} {m : MethodId} {args : Array Value} {below : List Frame} {meth : Method} {c : Code} (C : pw_C p s m args meth c cM_compareFactor 9 (some .int) "BitNumbersModel") {D : va_G} {ad : Nat → Nat} {A : Nat → Prop} (hK : va_K D clM (tyA ad) s) (hA : ∀ q, s.heap.size ≤ q → A q) : ∀ (n : Nat) (a1 : Int64) (a3 : Int32) (a4 : Int32) (a6 : Int32) (σ : MS) (hI : pw_U a6 n) {H : Heap} {locs : List Loc} (hM : mw D ad A s.heap H locs σ) {ls : Array Slot} (hl : lv_has ls 9 [(0, .ref (ad 0)), (1, .long a1), (3, .int a3), (4, .int a4), (6, .int a6)]), W p l e rmM_compareFactor s m args below meth c H locs 0 0 (MQ below (va_Qi (fun r u => (r, u) = fM_compareFactor_42 n a1 a3 a4 a6 σ) (mw_E D ad A) A) args s 0 0 A) (F0 m 42 ls []) := by
  obtain ⟨hx, hb, hr, hml, hown, hts, hlocks⟩ := id C
  intro n
  induction n with
  | zero =>
    intro a1 a3 a4 a6 σ hI
    exact absurd hI pw_U_zero
  | succ n ih =>
    intro a1 a3 a4 a6 σ hI H locs hM ls hl
    refine lv_iload hx hb dM_compareFactor_42 (lv_at hl 4 rfl) ?_
    refine lv_if_lt (tgt := 100) hx hb dM_compareFactor_44 (by decide) (fun h1 => ?_) (fun h1 => ?_)
    · refine lv_iconst (v := 0) hx hb dM_compareFactor_100 (by decide) ?_
      exact W.iret (v := 0) hx hb hr (fun t ht hW => ⟨⟨0, σ, rfl, by rw [(show fM_compareFactor_42 (n + 1) a1 a3 a4 a6 σ = (0, σ) by rw [fM_compareFactor_42, if_pos h1])], by rw [ht]; exact hM.1, va_K.moved hW.alike hK, hM.2.1⟩, hM.2.2.F ht⟩) hM.2.2.2.2 dM_compareFactor_101
    · refine lv_aload_n hx hb dM_compareFactor_47 rfl (lv_at hl 0 rfl) ?_
      refine lv_iload hx hb dM_compareFactor_48 (lv_at hl 3 rfl) ?_
      refine lv_iload hx hb dM_compareFactor_50 (lv_at hl 4 rfl) ?_
      refine mw_calli (F := fM_shifted a4 a6 σ) (va_runV (As := [.int a4, .int a6]) (rest := []) ⟨hx, hb, hml, hown, hts⟩ (qM_shifted l D ad a4 a6 σ H.size) (cwV 2 hts (gV w_696 w_698 w_13 w_34 w_699) rfl rfl rfl (by decide +kernel) ⟨Nat.le_of_ble_eq_true rfl, Nat.le_of_ble_eq_true rfl⟩) (mw_preV hK hM) rfl rfl hl.1 rfl (lv_room (Nat.le_of_ble_eq_true rfl)) dM_compareFactor_52 ⟨Nat.zero_le _, Nat.zero_le _⟩) hM hA (fun H locs hM => ?_)
      rw [(show fM_compareFactor_42 (n + 1) a1 a3 a4 a6 σ = fM_compareFactor_55 (fM_compareFactor_42 n) a1 a3 a4 a6 ((fM_shifted a4 a6 σ).1) ((fM_shifted a4 a6 σ).2) by rw [fM_compareFactor_42, if_neg h1])]
      exact kM_compareFactor_55 C hK hA a1 a3 a4 a6 ((fM_shifted a4 a6 σ).1) ((fM_shifted a4 a6 σ).2) hM (fM_compareFactor_42 n) (pw_U_body hI h1) (fun b1 b3 b4 b6 τ hI _ _ hM _ hl => ih b1 b3 b4 b6 τ hI hM hl) (lv_sub hl [0, 1, 2, 3, 4] rfl)
set_option maxHeartbeats 4000000 in
set_option maxRecDepth 100000 in
theorem kM_compareFactor_38 {p : Program} {l : Launch} {e : Env} {s : State} {m : MethodId} {args : Array Value} {below : List Frame} {meth : Method} {c : Code} (C : pw_C p s m args meth c cM_compareFactor 9 (some .int) "BitNumbersModel") {D : va_G} {ad : Nat → Nat} {A : Nat → Prop} (hK : va_K D clM (tyA ad) s) (hA : ∀ q, s.heap.size ≤ q → A q) (a1 : Int64) (a3 : Int32) (a4 : Int32) (a5 : Int32) (σ : MS) {H : Heap} {locs : List Loc} (hM : mw D ad A s.heap H locs σ) {ls : Array Slot} (hl : lv_has ls 9 [(0, .ref (ad 0)), (1, .long a1), (3, .int a3), (4, .int a4), (5, .int a5)]) : W p l e rmM_compareFactor s m args below meth c H locs 0 0 (MQ below (va_Qi (fun r u => (r, u) = fM_compareFactor_38 a1 a3 a4 a5 σ) (mw_E D ad A) A) args s 0 0 A) (F0 m 38 ls []) := by
  obtain ⟨hx, hb, hr, hml, hown, hts, hlocks⟩ := id C
  refine lv_iload hx hb dM_compareFactor_38 (lv_at hl 4 rfl) ?_
  refine lv_istore (lv' := [(6, .int a5), (0, .ref (ad 0)), (1, .long a1), (3, .int a3), (4, .int a4), (5, .int a5)]) hx hb dM_compareFactor_40 hl (by decide) rfl (fun ls hl => ?_)
  rw [(show fM_compareFactor_38 a1 a3 a4 a5 σ = fM_compareFactor_42 ((a5.toInt + 2).toNat + 1) a1 a3 a4 a5 σ by rw [fM_compareFactor_38])]
  exact kM_compareFactor_42 C hK hA ((a5.toInt + 2).toNat + 1) a1 a3 a4 a5 σ (pw_U_init a5 : pw_U a5 ((a5.toInt + 2).toNat + 1)) hM (lv_sub hl [1, 2, 3, 4, 0] rfl)
set_option maxHeartbeats 4000000 in
set_option maxRecDepth 100000 in
theorem kM_compareFactor_35 {p : Program} {l : Launch} {e : Env} {s : State} {m : MethodId} {args : Array Value} {below : List Frame} {meth : Method} {c : Code} (C : pw_C p s m args meth c cM_compareFactor 9 (some .int) "BitNumbersModel") {D : va_G} {ad : Nat → Nat} {A : Nat → Prop} (hK : va_K D clM (tyA ad) s) (hA : ∀ q, s.heap.size ≤ q → A q) (a1 : Int64) (a3 : Int32) (a4 : Int32) (s0 : Int32) (s1 : Int32) (σ : MS) {H : Heap} {locs : List Loc} (hM : mw D ad A s.heap H locs σ) {ls : Array Slot} (hl : lv_has ls 9 [(0, .ref (ad 0)), (1, .long a1), (3, .int a3), (4, .int a4)]) : W p l e rmM_compareFactor s m args below meth c H locs 0 0 (MQ below (va_Qi (fun r u => (r, u) = fM_compareFactor_35 a1 a3 a4 s0 s1 σ) (mw_E D ad A) A) args s 0 0 A) (F0 m 35 ls [.int s0, .int s1]) := by
  obtain ⟨hx, hb, hr, hml, hown, hts, hlocks⟩ := id C
  refine lv_iadd hx hb dM_compareFactor_35 ?_
  refine lv_istore (lv' := [(5, .int (s1 + s0)), (0, .ref (ad 0)), (1, .long a1), (3, .int a3), (4, .int a4)]) hx hb dM_compareFactor_36 hl (by decide) rfl (fun ls hl => ?_)
  rw [(show fM_compareFactor_35 a1 a3 a4 s0 s1 σ = fM_compareFactor_38 a1 a3 a4 (s1 + s0) σ by rw [fM_compareFactor_35])]
  exact kM_compareFactor_38 C hK hA a1 a3 a4 (s1 + s0) σ hM (lv_sub hl [1, 2, 3, 4, 0] rfl)
set_option maxHeartbeats 4000000 in
set_option maxRecDepth 100000 in
theorem kM_compareFactor_10 {p : Program} {l : Launch} {e : Env} {s : State} {m : MethodId} {args : Array Value} {below : List Frame} {meth : Method} {c : Code} (C : pw_C p s m args meth c cM_compareFactor 9 (some .int) "BitNumbersModel") {D : va_G} {ad : Nat → Nat} {A : Nat → Prop} (hK : va_K D clM (tyA ad) s) (hA : ∀ q, s.heap.size ≤ q → A q) (a1 : Int64) (a3 : Int32) (s0 : Int32) (σ : MS) {H : Heap} {locs : List Loc} (hM : mw D ad A s.heap H locs σ) {ls : Array Slot} (hl : lv_has ls 9 [(0, .ref (ad 0)), (1, .long a1), (3, .int a3)]) : W p l e rmM_compareFactor s m args below meth c H locs 0 0 (MQ below (va_Qi (fun r u => (r, u) = fM_compareFactor_10 a1 a3 s0 σ) (mw_E D ad A) A) args s 0 0 A) (F0 m 10 ls [.int s0]) := by
  obtain ⟨hx, hb, hr, hml, hown, hts, hlocks⟩ := id C
  refine lv_istore (lv' := [(4, .int s0), (0, .ref (ad 0)), (1, .long a1), (3, .int a3)]) hx hb dM_compareFactor_10 hl (by decide) rfl (fun ls hl => ?_)
  refine lv_iload hx hb dM_compareFactor_12 (lv_at hl 0 rfl) ?_
  refine lv_sipush (v := 144) hx hb dM_compareFactor_14 (by decide) ?_
  refine lv_iadd hx hb dM_compareFactor_17 ?_
  refine lv_bipush (v := 16) hx hb dM_compareFactor_18 (by decide) ?_
  refine lv_idiv hx hb dM_compareFactor_20 (by decide) ?_
  refine lv_iload_n hx hb dM_compareFactor_21 rfl (lv_at hl 3 rfl) ?_
  refine lv_if_le (tgt := 34) hx hb dM_compareFactor_22 (by decide) (fun h1 => ?_) (fun h1 => ?_)
  · refine lv_iconst (v := 0) hx hb dM_compareFactor_34 (by decide) ?_
    rw [(show fM_compareFactor_10 a1 a3 s0 σ = fM_compareFactor_35 a1 a3 s0 0 ((s0 + 144) / 16) σ by rw [fM_compareFactor_10, if_pos h1])]
    exact kM_compareFactor_35 C hK hA a1 a3 s0 0 ((s0 + 144) / 16) σ hM (lv_sub hl [1, 2, 3, 0] rfl)
  · refine lv_iload_n hx hb dM_compareFactor_25 rfl (lv_at hl 3 rfl) ?_
    refine lv_bipush (v := 16) hx hb dM_compareFactor_26 (by decide) ?_
    refine lv_idiv hx hb dM_compareFactor_28 (by decide) ?_
    refine lv_iconst (v := 5) hx hb dM_compareFactor_29 (by decide) ?_
    refine lv_iadd hx hb dM_compareFactor_30 ?_
    refine lv_goto (tgt := 35) hx hb dM_compareFactor_31 (by decide) ?_
    rw [(show fM_compareFactor_10 a1 a3 s0 σ = fM_compareFactor_35 a1 a3 s0 ((a3 / 16) + 5) ((s0 + 144) / 16) σ by rw [fM_compareFactor_10, if_neg h1])]
    exact kM_compareFactor_35 C hK hA a1 a3 s0 ((a3 / 16) + 5) ((s0 + 144) / 16) σ hM (lv_sub hl [1, 2, 3, 0] rfl)
set_option maxHeartbeats 4000000 in
set_option maxRecDepth 100000 in
theorem kM_compareFactor_0 {p : Program} {l : Launch} {e : Env} {s : State} {m : MethodId} {args : Array Value} {below : List Frame} {meth : Method} {c : Code} (C : pw_C p s m args meth c cM_compareFactor 9 (some .int) "BitNumbersModel") {D : va_G} {ad : Nat → Nat} {A : Nat → Prop} (hK : va_K D clM (tyA ad) s) (hA : ∀ q, s.heap.size ≤ q → A q) (a1 : Int64) (a3 : Int32) (σ : MS) {H : Heap} {locs : List Loc} (hM : mw D ad A s.heap H locs σ) {ls : Array Slot} (hl : lv_has ls 9 [(0, .ref (ad 0)), (1, .long a1), (3, .int a3)]) : W p l e rmM_compareFactor s m args below meth c H locs 0 0 (MQ below (va_Qi (fun r u => (r, u) = fM_compareFactor a1 a3 σ) (mw_E D ad A) A) args s 0 0 A) (F0 m 0 ls []) := by
  obtain ⟨hx, hb, hr, hml, hown, hts, hlocks⟩ := id C
  refine lv_iload_n hx hb dM_compareFactor_0 rfl (lv_at hl 2 rfl) ?_
  refine lv_if_ge (tgt := 9) hx hb dM_compareFactor_1 (by decide) (fun h1 => ?_) (fun h1 => ?_)
  · refine lv_iconst (v := 0) hx hb dM_compareFactor_9 (by decide) ?_
    rw [(show fM_compareFactor a1 a3 σ = fM_compareFactor_10 a1 a3 0 σ by rw [fM_compareFactor, if_pos h1])]
    exact kM_compareFactor_10 C hK hA a1 a3 0 σ hM (lv_sub hl [0, 1, 2] rfl)
  · refine lv_iload_n hx hb dM_compareFactor_4 rfl (lv_at hl 2 rfl) ?_
    refine lv_ineg hx hb dM_compareFactor_5 ?_
    refine lv_goto (tgt := 10) hx hb dM_compareFactor_6 (by decide) ?_
    rw [(show fM_compareFactor a1 a3 σ = fM_compareFactor_10 a1 a3 (-a3) σ by rw [fM_compareFactor, if_neg h1])]
    exact kM_compareFactor_10 C hK hA a1 a3 (-a3) σ hM (lv_sub hl [0, 1, 2] rfl)
set_option maxHeartbeats 4000000 in
set_option maxRecDepth 100000 in
theorem qM_compareFactor (l : Launch) (D : va_G) (ad : Nat → Nat) (a1 : Int64) (a3 : Int32) (σ : MS) (sz : Nat) : Met l yM_compareFactor wsM_compareFactor rmM_compareFactor (va_Pc [.ref (ad 0), .long a1, .int a3] (mw_B D ad σ sz)) (va_Qi (fun r u => (r, u) = fM_compareFactor a1 a3 σ) (mw_E D ad (va_A (mw_c ad σ) sz)) (va_A (mw_c ad σ) sz)) 0 0 (va_A (mw_c ad σ) sz) := by
  refine Met.ofW (cc := cM_compareFactor) (maxL := 9) (ret := (some .int)) (by decide) rfl ?_
  intro p e s m args below meth c s₁ B hml hv
  obtain ⟨rfl, hsz, hP, hK, hD⟩ := hv
  have hts0 := atoms_spec (ws := wsM_compareFactor) B.pre
  have hts := fun (w : Cond) (h : w ∈ aw) => hts0 w (List.mem_cons_of_mem _ h)
  have hown : s.vm.findClass "BitNumbersModel" = some m.cls := findClass_of_methodNamed B.named
  subst hsz
  have hl := lv_entry ([.ref (ad 0), .long a1, .int a3]) (n := 9) (Nat.le_of_ble_eq_true rfl)
  rw [lg_entry_eq]
  generalize (lg_sl ([.ref (ad 0), .long a1, .int a3]) ++ List.replicate (9 - (lg_sl ([.ref (ad 0), .long a1, .int a3])).length) Slot.unset).toArray = ls at hl ⊢
  exact kM_compareFactor_0 ⟨B.exec, B.bytes, B.returns, hml, hown, hts, B.notSynchronized⟩ hK (fun q h => Or.inr h) a1 a3 σ ⟨hP, hD.self, va_S.rf⟩ hl

set_option maxHeartbeats 4000000 in
set_option maxRecDepth 100000 in
theorem kM_set_row_3 {p : Program} {l : Launch} {e : Env} {s : State} {m : MethodId} {args : Array Value} {below : List Frame} {meth : Method} {c : Code} (C : pw_C p s m args meth c cM_set_row 5 none "BitNumbersModel") {D : va_G} {ad : Nat → Nat} {A : Nat → Prop} (hK : va_K D clM (tyA ad) s) (hA : ∀ q, s.heap.size ≤ q → A q) : ∀ (n : Nat) (a1 : Int64) (a3 : Int32) (a4 : Int32) (σ : MS) (hI : pw_I a4 n 320) {H : Heap} {locs : List Loc} (hM : mw D ad A s.heap H locs σ) {ls : Array Slot} (hl : lv_has ls 5 [(0, .ref (ad 3)), (1, .long a1), (3, .int a3), (4, .int a4)]), W p l e rmM_set_row s m args below meth c H locs 0 0 (MQ below (va_Qv (fun u => u = fM_set_row_3 n a1 a3 a4 σ) (mw_E D ad A) A) args s 0 0 A) (F0 m 3 ls []) := by
  obtain ⟨hx, hb, hr, hml, hown, hts, hlocks⟩ := id C
  intro n
  induction n with
  | zero =>
    intro a1 a3 a4 σ hI
    exact absurd hI pw_I_zero
  | succ n ih =>
    intro a1 a3 a4 σ hI H locs hM ls hl
    refine lv_iload hx hb dM_set_row_3 (lv_at hl 3 rfl) ?_
    refine lv_sipush (v := 320) hx hb dM_set_row_5 (by decide) ?_
    refine lv_icmp_ge (tgt := 28) hx hb dM_set_row_8 (by decide) (fun h1 => ?_) (fun h1 => ?_)
    · exact W.vret hx hb hr (fun t ht hW => ⟨⟨σ, rfl, by rw [(show fM_set_row_3 (n + 1) a1 a3 a4 σ = σ by rw [fM_set_row_3, if_pos h1])], by rw [ht]; exact hM.1, va_K.moved hW.alike hK, hM.2.1⟩, hM.2.2.F ht⟩) hM.2.2.2.2 dM_set_row_28
    · refine lv_aload_n hx hb dM_set_row_11 rfl (lv_at hl 0 rfl) ?_
      refine lv_iload hx hb dM_set_row_12 (lv_at hl 3 rfl) ?_
      refine lv_lload_n hx hb dM_set_row_14 rfl (lv_at hl 1 rfl) ?_
      refine lv_iload_n hx hb dM_set_row_15 rfl (lv_at hl 2 rfl) ?_
      refine lv_iload hx hb dM_set_row_16 (lv_at hl 3 rfl) ?_
      refine pw_call (va_runS (As := [.long a1, .int a3, .int a4]) (rest := [.int a4, .ref (ad 3)]) ⟨hx, hb, hml, hown, hts⟩ (qM_digit l a1 a3 a4) (va_cwS 3 hts (gS w_683 w_684 w_34 w_685) rfl rfl rfl (by decide +kernel) ⟨Nat.le_of_ble_eq_true rfl, Nat.le_of_ble_eq_true rfl⟩) ⟨pw_bT, fun U hU hW => ⟨rfl, trivial⟩⟩ rfl rfl hl.1 rfl (lv_room (Nat.le_of_ble_eq_true rfl)) dM_set_row_18 ⟨Nat.zero_le _, Nat.zero_le _⟩) ?_
      refine mw_iast (σ' := ms_set_row σ (upd (ms_row σ) a4.toNatClampNeg (fM_digit a1 a3 a4))) hx hb hK hM 3 (mw_ar_row _ _) (pw_B_in (pw_I_body hI h1) (by decide)) (mw_st_row _ _ _) dM_set_row_21 (fun H locs hM => ?_)
      refine lv_iinc (v := a4 + 1) (lv' := [(4, .int (a4 + 1)), (0, .ref (ad 3)), (1, .long a1), (3, .int a3)]) hx hb dM_set_row_22 hl (k := 3) rfl rfl (by decide) rfl (fun ls hl => ?_)
      refine lv_goto (tgt := 3) hx hb dM_set_row_25 (by decide) ?_
      rw [(show fM_set_row_3 (n + 1) a1 a3 a4 σ = fM_set_row_3 n a1 a3 (a4 + 1) (ms_set_row σ (upd (ms_row σ) a4.toNatClampNeg (fM_digit a1 a3 a4))) by rw [fM_set_row_3, if_neg h1])]
      exact ih a1 a3 (a4 + 1) (ms_set_row σ (upd (ms_row σ) a4.toNatClampNeg (fM_digit a1 a3 a4))) (pw_B_next (pw_I_body hI h1)) hM (lv_sub hl [1, 2, 3, 0] rfl)
set_option maxHeartbeats 4000000 in
set_option maxRecDepth 100000 in
theorem kM_set_row_0 {p : Program} {l : Launch} {e : Env} {s : State} {m : MethodId} {args : Array Value} {below : List Frame} {meth : Method} {c : Code} (C : pw_C p s m args meth c cM_set_row 5 none "BitNumbersModel") {D : va_G} {ad : Nat → Nat} {A : Nat → Prop} (hK : va_K D clM (tyA ad) s) (hA : ∀ q, s.heap.size ≤ q → A q) (a1 : Int64) (a3 : Int32) (σ : MS) {H : Heap} {locs : List Loc} (hM : mw D ad A s.heap H locs σ) {ls : Array Slot} (hl : lv_has ls 5 [(0, .ref (ad 3)), (1, .long a1), (3, .int a3)]) : W p l e rmM_set_row s m args below meth c H locs 0 0 (MQ below (va_Qv (fun u => u = fM_set_row a1 a3 σ) (mw_E D ad A) A) args s 0 0 A) (F0 m 0 ls []) := by
  obtain ⟨hx, hb, hr, hml, hown, hts, hlocks⟩ := id C
  refine lv_iconst (v := 0) hx hb dM_set_row_0 (by decide) ?_
  refine lv_istore (lv' := [(4, .int 0), (0, .ref (ad 3)), (1, .long a1), (3, .int a3)]) hx hb dM_set_row_1 hl (by decide) rfl (fun ls hl => ?_)
  rw [(show fM_set_row a1 a3 σ = fM_set_row_3 321 a1 a3 0 σ by rw [fM_set_row])]
  exact kM_set_row_3 C hK hA 321 a1 a3 0 σ (⟨0, by decide, by decide, by decide⟩ : pw_I 0 321 320) hM (lv_sub hl [1, 2, 3, 0] rfl)
set_option maxHeartbeats 4000000 in
set_option maxRecDepth 100000 in
theorem qM_set_row (l : Launch) (D : va_G) (ad : Nat → Nat) (a1 : Int64) (a3 : Int32) (σ : MS) (sz : Nat) : Met l yM_set_row wsM_set_row rmM_set_row (va_Pc [.ref (ad 3), .long a1, .int a3] (mw_B D ad σ sz)) (va_Qv (fun u => u = fM_set_row a1 a3 σ) (mw_E D ad (va_A (mw_c ad σ) sz)) (va_A (mw_c ad σ) sz)) 0 0 (va_A (mw_c ad σ) sz) := by
  refine Met.ofW (cc := cM_set_row) (maxL := 5) (ret := none) (by decide) rfl ?_
  intro p e s m args below meth c s₁ B hml hv
  obtain ⟨rfl, hsz, hP, hK, hD⟩ := hv
  have hts0 := atoms_spec (ws := wsM_set_row) B.pre
  have hts := fun (w : Cond) (h : w ∈ aw) => hts0 w (List.mem_cons_of_mem _ h)
  have hown : s.vm.findClass "BitNumbersModel" = some m.cls := findClass_of_methodNamed B.named
  subst hsz
  have hl := lv_entry ([.ref (ad 3), .long a1, .int a3]) (n := 5) (Nat.le_of_ble_eq_true rfl)
  rw [lg_entry_eq]
  generalize (lg_sl ([.ref (ad 3), .long a1, .int a3]) ++ List.replicate (5 - (lg_sl ([.ref (ad 3), .long a1, .int a3])).length) Slot.unset).toArray = ls at hl ⊢
  exact kM_set_row_0 ⟨B.exec, B.bytes, B.returns, hml, hown, hts, B.notSynchronized⟩ hK (fun q h => Or.inr h) a1 a3 σ ⟨hP, hD.self, va_S.rf⟩ hl

set_option maxHeartbeats 4000000 in
set_option maxRecDepth 100000 in
theorem kM_set_other_3 {p : Program} {l : Launch} {e : Env} {s : State} {m : MethodId} {args : Array Value} {below : List Frame} {meth : Method} {c : Code} (C : pw_C p s m args meth c cM_set_other 5 none "BitNumbersModel") {D : va_G} {ad : Nat → Nat} {A : Nat → Prop} (hK : va_K D clM (tyA ad) s) (hA : ∀ q, s.heap.size ≤ q → A q) : ∀ (n : Nat) (a1 : Int64) (a3 : Int32) (a4 : Int32) (σ : MS) (hI : pw_I a4 n 320) {H : Heap} {locs : List Loc} (hM : mw D ad A s.heap H locs σ) {ls : Array Slot} (hl : lv_has ls 5 [(0, .ref (ad 4)), (1, .long a1), (3, .int a3), (4, .int a4)]), W p l e rmM_set_other s m args below meth c H locs 0 0 (MQ below (va_Qv (fun u => u = fM_set_other_3 n a1 a3 a4 σ) (mw_E D ad A) A) args s 0 0 A) (F0 m 3 ls []) := by
  obtain ⟨hx, hb, hr, hml, hown, hts, hlocks⟩ := id C
  intro n
  induction n with
  | zero =>
    intro a1 a3 a4 σ hI
    exact absurd hI pw_I_zero
  | succ n ih =>
    intro a1 a3 a4 σ hI H locs hM ls hl
    refine lv_iload hx hb dM_set_other_3 (lv_at hl 3 rfl) ?_
    refine lv_sipush (v := 320) hx hb dM_set_other_5 (by decide) ?_
    refine lv_icmp_ge (tgt := 28) hx hb dM_set_other_8 (by decide) (fun h1 => ?_) (fun h1 => ?_)
    · exact W.vret hx hb hr (fun t ht hW => ⟨⟨σ, rfl, by rw [(show fM_set_other_3 (n + 1) a1 a3 a4 σ = σ by rw [fM_set_other_3, if_pos h1])], by rw [ht]; exact hM.1, va_K.moved hW.alike hK, hM.2.1⟩, hM.2.2.F ht⟩) hM.2.2.2.2 dM_set_other_28
    · refine lv_aload_n hx hb dM_set_other_11 rfl (lv_at hl 0 rfl) ?_
      refine lv_iload hx hb dM_set_other_12 (lv_at hl 3 rfl) ?_
      refine lv_lload_n hx hb dM_set_other_14 rfl (lv_at hl 1 rfl) ?_
      refine lv_iload_n hx hb dM_set_other_15 rfl (lv_at hl 2 rfl) ?_
      refine lv_iload hx hb dM_set_other_16 (lv_at hl 3 rfl) ?_
      refine pw_call (va_runS (As := [.long a1, .int a3, .int a4]) (rest := [.int a4, .ref (ad 4)]) ⟨hx, hb, hml, hown, hts⟩ (qM_digit l a1 a3 a4) (va_cwS 3 hts (gS w_683 w_684 w_34 w_685) rfl rfl rfl (by decide +kernel) ⟨Nat.le_of_ble_eq_true rfl, Nat.le_of_ble_eq_true rfl⟩) ⟨pw_bT, fun U hU hW => ⟨rfl, trivial⟩⟩ rfl rfl hl.1 rfl (lv_room (Nat.le_of_ble_eq_true rfl)) dM_set_other_18 ⟨Nat.zero_le _, Nat.zero_le _⟩) ?_
      refine mw_iast (σ' := ms_set_other σ (upd (ms_other σ) a4.toNatClampNeg (fM_digit a1 a3 a4))) hx hb hK hM 4 (mw_ar_other _ _) (pw_B_in (pw_I_body hI h1) (by decide)) (mw_st_other _ _ _) dM_set_other_21 (fun H locs hM => ?_)
      refine lv_iinc (v := a4 + 1) (lv' := [(4, .int (a4 + 1)), (0, .ref (ad 4)), (1, .long a1), (3, .int a3)]) hx hb dM_set_other_22 hl (k := 3) rfl rfl (by decide) rfl (fun ls hl => ?_)
      refine lv_goto (tgt := 3) hx hb dM_set_other_25 (by decide) ?_
      rw [(show fM_set_other_3 (n + 1) a1 a3 a4 σ = fM_set_other_3 n a1 a3 (a4 + 1) (ms_set_other σ (upd (ms_other σ) a4.toNatClampNeg (fM_digit a1 a3 a4))) by rw [fM_set_other_3, if_neg h1])]
      exact ih a1 a3 (a4 + 1) (ms_set_other σ (upd (ms_other σ) a4.toNatClampNeg (fM_digit a1 a3 a4))) (pw_B_next (pw_I_body hI h1)) hM (lv_sub hl [1, 2, 3, 0] rfl)
set_option maxHeartbeats 4000000 in
set_option maxRecDepth 100000 in
theorem kM_set_other_0 {p : Program} {l : Launch} {e : Env} {s : State} {m : MethodId} {args : Array Value} {below : List Frame} {meth : Method} {c : Code} (C : pw_C p s m args meth c cM_set_other 5 none "BitNumbersModel") {D : va_G} {ad : Nat → Nat} {A : Nat → Prop} (hK : va_K D clM (tyA ad) s) (hA : ∀ q, s.heap.size ≤ q → A q) (a1 : Int64) (a3 : Int32) (σ : MS) {H : Heap} {locs : List Loc} (hM : mw D ad A s.heap H locs σ) {ls : Array Slot} (hl : lv_has ls 5 [(0, .ref (ad 4)), (1, .long a1), (3, .int a3)]) : W p l e rmM_set_other s m args below meth c H locs 0 0 (MQ below (va_Qv (fun u => u = fM_set_other a1 a3 σ) (mw_E D ad A) A) args s 0 0 A) (F0 m 0 ls []) := by
  obtain ⟨hx, hb, hr, hml, hown, hts, hlocks⟩ := id C
  refine lv_iconst (v := 0) hx hb dM_set_other_0 (by decide) ?_
  refine lv_istore (lv' := [(4, .int 0), (0, .ref (ad 4)), (1, .long a1), (3, .int a3)]) hx hb dM_set_other_1 hl (by decide) rfl (fun ls hl => ?_)
  rw [(show fM_set_other a1 a3 σ = fM_set_other_3 321 a1 a3 0 σ by rw [fM_set_other])]
  exact kM_set_other_3 C hK hA 321 a1 a3 0 σ (⟨0, by decide, by decide, by decide⟩ : pw_I 0 321 320) hM (lv_sub hl [1, 2, 3, 0] rfl)
set_option maxHeartbeats 4000000 in
set_option maxRecDepth 100000 in
theorem qM_set_other (l : Launch) (D : va_G) (ad : Nat → Nat) (a1 : Int64) (a3 : Int32) (σ : MS) (sz : Nat) : Met l yM_set_other wsM_set_other rmM_set_other (va_Pc [.ref (ad 4), .long a1, .int a3] (mw_B D ad σ sz)) (va_Qv (fun u => u = fM_set_other a1 a3 σ) (mw_E D ad (va_A (mw_c ad σ) sz)) (va_A (mw_c ad σ) sz)) 0 0 (va_A (mw_c ad σ) sz) := by
  refine Met.ofW (cc := cM_set_other) (maxL := 5) (ret := none) (by decide) rfl ?_
  intro p e s m args below meth c s₁ B hml hv
  obtain ⟨rfl, hsz, hP, hK, hD⟩ := hv
  have hts0 := atoms_spec (ws := wsM_set_other) B.pre
  have hts := fun (w : Cond) (h : w ∈ aw) => hts0 w (List.mem_cons_of_mem _ h)
  have hown : s.vm.findClass "BitNumbersModel" = some m.cls := findClass_of_methodNamed B.named
  subst hsz
  have hl := lv_entry ([.ref (ad 4), .long a1, .int a3]) (n := 5) (Nat.le_of_ble_eq_true rfl)
  rw [lg_entry_eq]
  generalize (lg_sl ([.ref (ad 4), .long a1, .int a3]) ++ List.replicate (5 - (lg_sl ([.ref (ad 4), .long a1, .int a3])).length) Slot.unset).toArray = ls at hl ⊢
  exact kM_set_other_0 ⟨B.exec, B.bytes, B.returns, hml, hown, hts, B.notSynchronized⟩ hK (fun q h => Or.inr h) a1 a3 σ ⟨hP, hD.self, va_S.rf⟩ hl

