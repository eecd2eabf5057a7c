set_option maxHeartbeats 4000000 in
set_option maxRecDepth 100000 in
theorem kConversions_isTowardsZero_35 {p : Program} {l : Launch} {e : Env} {s : State} {m : MethodId} {args : Array Value} {below : List Frame} {meth : Method} {c : Code} (C : pw_C p s m args meth c cConversions_isTowardsZero 1 (some .boolean) "BitNumbers$Conversions")  {ls : Array Slot} (hl : lv_has ls 1 []) : W p l e rmConversions_isTowardsZero s m args below meth c s.heap [] 0 0 (MQ below (k2_QcV (.int (fConversions_isTowardsZero_35))) args s 0 0 (fun _ => False)) (F0 m 35 ls []) := by
  obtain ⟨hx, hb, hr, hml, hown, hts, hlocks⟩ := id C
  refine lv_iconst (v := 1) hx hb dConversions_isTowardsZero_35 (by decide) ?_
  refine lv_goto (tgt := 40) hx hb dConversions_isTowardsZero_36 (by decide) ?_
  exact W.zret hx hb hr (pw_nz (Or.inr rfl)) (fun t ht _ => ⟨by rw [(show fConversions_isTowardsZero_35 = 1 by rw [fConversions_isTowardsZero_35])], ht⟩) (fun q h => nomatch h) dConversions_isTowardsZero_40
set_option maxHeartbeats 4000000 in
set_option maxRecDepth 100000 in
theorem kConversions_isTowardsZero_28 {p : Program} {l : Launch} {e : Env} {s : State} {m : MethodId} {args : Array Value} {below : List Frame} {meth : Method} {c : Code} (C : pw_C p s m args meth c cConversions_isTowardsZero 1 (some .boolean) "BitNumbers$Conversions") (a0 : Int32) {ls : Array Slot} (hl : lv_has ls 1 [(0, .int a0)]) : W p l e rmConversions_isTowardsZero s m args below meth c s.heap [] 0 0 (MQ below (k2_QcV (.int (fConversions_isTowardsZero_28 a0))) args s 0 0 (fun _ => False)) (F0 m 28 ls []) := by
  obtain ⟨hx, hb, hr, hml, hown, hts, hlocks⟩ := id C
  refine lv_iload_n hx hb dConversions_isTowardsZero_28 rfl (lv_at hl 0 rfl) ?_
  refine lv_sipush (v := 200) hx hb dConversions_isTowardsZero_29 (by decide) ?_
  refine lv_icmp_lt (tgt := 39) hx hb dConversions_isTowardsZero_32 (by decide) (fun h1 => ?_) (fun h1 => ?_)
  · refine lv_iconst (v := 0) hx hb dConversions_isTowardsZero_39 (by decide) ?_
    exact W.zret hx hb hr (pw_nz (Or.inl rfl)) (fun t ht _ => ⟨by rw [(show fConversions_isTowardsZero_28 a0 = 0 by rw [fConversions_isTowardsZero_28, if_pos h1])], ht⟩) (fun q h => nomatch h) dConversions_isTowardsZero_40
  · rw [(show fConversions_isTowardsZero_28 a0 = fConversions_isTowardsZero_35 by rw [fConversions_isTowardsZero_28, if_neg h1])]
    exact kConversions_isTowardsZero_35 C (lv_sub hl [] rfl)
set_option maxHeartbeats 4000000 in
set_option maxRecDepth 100000 in
theorem kConversions_isTowardsZero_14 {p : Program} {l : Launch} {e : Env} {s : State} {m : MethodId} {args : Array Value} {below : List Frame} {meth : Method} {c : Code} (C : pw_C p s m args meth c cConversions_isTowardsZero 1 (some .boolean) "BitNumbers$Conversions") (a0 : Int32) {ls : Array Slot} (hl : lv_has ls 1 [(0, .int a0)]) : W p l e rmConversions_isTowardsZero s m args below meth c s.heap [] 0 0 (MQ below (k2_QcV (.int (fConversions_isTowardsZero_14 a0))) args s 0 0 (fun _ => False)) (F0 m 14 ls []) := by
  obtain ⟨hx, hb, hr, hml, hown, hts, hlocks⟩ := id C
  refine lv_iload_n hx hb dConversions_isTowardsZero_14 rfl (lv_at hl 0 rfl) ?_
  refine lv_sipush (v := 173) hx hb dConversions_isTowardsZero_15 (by decide) ?_
  refine lv_icmp_le (tgt := 28) hx hb dConversions_isTowardsZero_18 (by decide) (fun h1 => ?_) (fun h1 => ?_)
  · rw [(show fConversions_isTowardsZero_14 a0 = fConversions_isTowardsZero_28 a0 by rw [fConversions_isTowardsZero_14, if_pos h1])]
    exact kConversions_isTowardsZero_28 C a0 (lv_sub hl [0] rfl)
  · refine lv_iload_n hx hb dConversions_isTowardsZero_21 rfl (lv_at hl 0 rfl) ?_
    refine lv_sipush (v := 178) hx hb dConversions_isTowardsZero_22 (by decide) ?_
    refine lv_icmp_lt (tgt := 35) hx hb dConversions_isTowardsZero_25 (by decide) (fun h2 => ?_) (fun h2 => ?_)
    · rw [(show fConversions_isTowardsZero_14 a0 = fConversions_isTowardsZero_35 by rw [fConversions_isTowardsZero_14, if_neg h1, if_pos h2])]
      exact kConversions_isTowardsZero_35 C (lv_sub hl [] rfl)
    · rw [(show fConversions_isTowardsZero_14 a0 = fConversions_isTowardsZero_28 a0 by rw [fConversions_isTowardsZero_14, if_neg h1, if_neg h2])]
      exact kConversions_isTowardsZero_28 C a0 (lv_sub hl [0] rfl)
set_option maxHeartbeats 4000000 in
set_option maxRecDepth 100000 in
theorem kConversions_isTowardsZero_0 {p : Program} {l : Launch} {e : Env} {s : State} {m : MethodId} {args : Array Value} {below : List Frame} {meth : Method} {c : Code} (C : pw_C p s m args meth c cConversions_isTowardsZero 1 (some .boolean) "BitNumbers$Conversions") (a0 : Int32) {ls : Array Slot} (hl : lv_has ls 1 [(0, .int a0)]) : W p l e rmConversions_isTowardsZero s m args below meth c s.heap [] 0 0 (MQ below (k2_QcV (.int (fConversions_isTowardsZero a0))) args s 0 0 (fun _ => False)) (F0 m 0 ls []) := by
  obtain ⟨hx, hb, hr, hml, hown, hts, hlocks⟩ := id C
  refine lv_iload_n hx hb dConversions_isTowardsZero_0 rfl (lv_at hl 0 rfl) ?_
  refine lv_sipush (v := 167) hx hb dConversions_isTowardsZero_1 (by decide) ?_
  refine lv_icmp_le (tgt := 14) hx hb dConversions_isTowardsZero_4 (by decide) (fun h1 => ?_) (fun h1 => ?_)
  · rw [(show fConversions_isTowardsZero a0 = fConversions_isTowardsZero_14 a0 by rw [fConversions_isTowardsZero, if_pos h1])]
    exact kConversions_isTowardsZero_14 C a0 (lv_sub hl [0] rfl)
  · refine lv_iload_n hx hb dConversions_isTowardsZero_7 rfl (lv_at hl 0 rfl) ?_
    refine lv_sipush (v := 172) hx hb dConversions_isTowardsZero_8 (by decide) ?_
    refine lv_icmp_lt (tgt := 35) hx hb dConversions_isTowardsZero_11 (by decide) (fun h2 => ?_) (fun h2 => ?_)
    · rw [(show fConversions_isTowardsZero a0 = fConversions_isTowardsZero_35 by rw [fConversions_isTowardsZero, if_neg h1, if_pos h2])]
      exact kConversions_isTowardsZero_35 C (lv_sub hl [] rfl)
    · rw [(show fConversions_isTowardsZero a0 = fConversions_isTowardsZero_14 a0 by rw [fConversions_isTowardsZero, if_neg h1, if_neg h2])]
      exact kConversions_isTowardsZero_14 C a0 (lv_sub hl [0] rfl)
set_option maxHeartbeats 4000000 in
set_option maxRecDepth 100000 in
theorem qConversions_isTowardsZero (l : Launch) (a0 : Int32) : Met l yConversions_isTowardsZero wsConversions_isTowardsZero rmConversions_isTowardsZero (va_Pc [.int a0] (fun _ => True)) (k2_QcV (.int (fConversions_isTowardsZero a0))) 0 0 (fun _ => False) := by
  refine Met.ofW (cc := cConversions_isTowardsZero) (maxL := 1) (ret := (some .boolean)) (by decide) rfl ?_
  intro p e s m args below meth c s₁ B hml hv
  obtain ⟨rfl, hG⟩ := hv
  have hts0 := atoms_spec (ws := wsConversions_isTowardsZero) B.pre
  have hts := fun (w : Cond) (h : w ∈ aw) => hts0 w (List.mem_cons_of_mem _ h)
  have hown : s.vm.findClass "BitNumbers$Conversions" = some m.cls := findClass_of_methodNamed B.named
  have hl := lv_entry ([.int a0]) (n := 1) (Nat.le_of_ble_eq_true rfl)
  rw [lg_entry_eq]
  generalize (lg_sl ([.int a0]) ++ List.replicate (1 - (lg_sl ([.int a0])).length) Slot.unset).toArray = ls at hl ⊢
  exact kConversions_isTowardsZero_0 ⟨B.exec, B.bytes, B.returns, hml, hown, hts, B.notSynchronized⟩ a0 hl

set_option maxHeartbeats 4000000 in
set_option maxRecDepth 100000 in
theorem kFormat_isNone_0 {p : Program} {l : Launch} {e : Env} {s : State} {m : MethodId} {args : Array Value} {below : List Frame} {meth : Method} {c : Code} {ad td : Nat → Nat} (C : pw_C p s m args meth c cFormat_isNone 3 (some .boolean) "BitNumbers$Format") (hG : pw_G (fun _ => False) ad td s s.heap) (a0 : Nat) (a1 : Int64) (hk0 : a0 < 2) {ls : Array Slot} (hl : lv_has ls 3 [(0, .ref (ad a0)), (1, .long a1)]) : W p l e rmFormat_isNone s m args below meth c s.heap [] 0 0 (MQ below (k2_QcV (.int (fFormat_isNone a0 a1))) args s 0 0 (fun _ => False)) (F0 m 0 ls []) := by
  obtain ⟨hx, hb, hr, hml, hown, hts, hlocks⟩ := id C
  have hS : va_S (fun _ => False) s.heap s.heap [] := va_S.rf
  refine lv_lload_n hx hb dFormat_isNone_0 rfl (lv_at hl 1 rfl) ?_
  refine lv_aload_n hx hb dFormat_isNone_1 rfl (lv_at hl 0 rfl) ?_
  refine va_getX hx hb hG.2.1.2.2.2.1 hk0 hS hown (hts _ w_808) (fun _ h9 => h9) dFormat_isNone_2 ?_
  refine lv_ldc2 hx hb hown (hts _ w_157) dFormat_isNone_5 ?_
  refine lv_lxor hx hb dFormat_isNone_8 ?_
  refine lv_land hx hb dFormat_isNone_9 ?_
  refine lv_aload_n hx hb dFormat_isNone_10 rfl (lv_at hl 0 rfl) ?_
  refine va_getX hx hb hG.2.1.2.2.2.2.2.1 hk0 hS hown (hts _ w_809) (fun _ h9 => h9) dFormat_isNone_11 ?_
  refine W.lcmp hx hb dFormat_isNone_14 ?_
  refine lv_if_le (tgt := 22) hx hb dFormat_isNone_15 (by decide) (fun h1 => ?_) (fun h1 => ?_)
  · have h1 : (a1 &&& ((fm_signBit a0) ^^^ (-1))) ≤ (fm_infinite a0) := (lg_cmp_le _ _).mp h1
    refine lv_iconst (v := 0) hx hb dFormat_isNone_22 (by decide) ?_
    exact W.zret hx hb hr (pw_nz (Or.inl rfl)) (fun t ht _ => ⟨by rw [(show fFormat_isNone a0 a1 = 0 by rw [fFormat_isNone, if_pos h1])], ht⟩) (fun q h => nomatch h) dFormat_isNone_23
  · have h1 : ¬ ((a1 &&& ((fm_signBit a0) ^^^ (-1))) ≤ (fm_infinite a0)) := fun w => h1 ((lg_cmp_le _ _).mpr w)
    refine lv_iconst (v := 1) hx hb dFormat_isNone_18 (by decide) ?_
    refine lv_goto (tgt := 23) hx hb dFormat_isNone_19 (by decide) ?_
    exact W.zret hx hb hr (pw_nz (Or.inr rfl)) (fun t ht _ => ⟨by rw [(show fFormat_isNone a0 a1 = 1 by rw [fFormat_isNone, if_neg h1])], ht⟩) (fun q h => nomatch h) dFormat_isNone_23
set_option maxHeartbeats 4000000 in
set_option maxRecDepth 100000 in
theorem qFormat_isNone (l : Launch) (ad td : Nat → Nat) (a0 : Nat) (a1 : Int64) (hk0 : a0 < 2) : Met l yFormat_isNone wsFormat_isNone rmFormat_isNone (va_Pc [.ref (ad a0), .long a1] (fun U => pw_G (fun _ => False) ad td U U.heap)) (k2_QcV (.int (fFormat_isNone a0 a1))) 0 0 (fun _ => False) := by
  refine Met.ofW (cc := cFormat_isNone) (maxL := 3) (ret := (some .boolean)) (by decide) rfl ?_
  intro p e s m args below meth c s₁ B hml hv
  obtain ⟨rfl, hG⟩ := hv
  have hts0 := atoms_spec (ws := wsFormat_isNone) B.pre
  have hts := fun (w : Cond) (h : w ∈ aw) => hts0 w (List.mem_cons_of_mem _ h)
  have hown : s.vm.findClass "BitNumbers$Format" = some m.cls := findClass_of_methodNamed B.named
  have hl := lv_entry ([.ref (ad a0), .long a1]) (n := 3) (Nat.le_of_ble_eq_true rfl)
  rw [lg_entry_eq]
  generalize (lg_sl ([.ref (ad a0), .long a1]) ++ List.replicate (3 - (lg_sl ([.ref (ad a0), .long a1])).length) Slot.unset).toArray = ls at hl ⊢
  exact kFormat_isNone_0 ⟨B.exec, B.bytes, B.returns, hml, hown, hts, B.notSynchronized⟩ hG a0 a1 hk0 hl

set_option maxHeartbeats 4000000 in
set_option maxRecDepth 100000 in
theorem kConversions_isSigned_38 {p : Program} {l : Launch} {e : Env} {s : State} {m : MethodId} {args : Array Value} {below : List Frame} {meth : Method} {c : Code} (C : pw_C p s m args meth c cConversions_isSigned 2 (some .boolean) "BitNumbers$Conversions") (a1 : Int32) (hz1 : a1 = 0 ∨ a1 = 1) {ls : Array Slot} (hl : lv_has ls 2 [(1, .int a1)]) : W p l e rmConversions_isSigned s m args below meth c s.heap [] 0 0 (MQ below (k2_QcV (.int (fConversions_isSigned_38 a1))) args s 0 0 (fun _ => False)) (F0 m 38 ls []) := by
  obtain ⟨hx, hb, hr, hml, hown, hts, hlocks⟩ := id C
  refine lv_iload_n hx hb dConversions_isSigned_38 rfl (lv_at hl 0 rfl) ?_
  exact W.zret hx hb hr (pw_nz hz1) (fun t ht _ => ⟨by rw [(show fConversions_isSigned_38 a1 = a1 by rw [fConversions_isSigned_38])], ht⟩) (fun q h => nomatch h) dConversions_isSigned_39
set_option maxHeartbeats 4000000 in
set_option maxRecDepth 100000 in
theorem kConversions_isSigned_11 {p : Program} {l : Launch} {e : Env} {s : State} {m : MethodId} {args : Array Value} {below : List Frame} {meth : Method} {c : Code} (C : pw_C p s m args meth c cConversions_isSigned 2 (some .boolean) "BitNumbers$Conversions") (a0 : Int32) (s0 : Int32) (hzs0 : s0 = 0 ∨ s0 = 1) {ls : Array Slot} (hl : lv_has ls 2 [(0, .int a0)]) : W p l e rmConversions_isSigned s m args below meth c s.heap [] 0 0 (MQ below (k2_QcV (.int (fConversions_isSigned_11 a0 s0))) args s 0 0 (fun _ => False)) (F0 m 11 ls [.int s0]) := by
  obtain ⟨hx, hb, hr, hml, hown, hts, hlocks⟩ := id C
  refine lv_istore_n (lv' := [(1, .int s0), (0, .int a0)]) hx hb dConversions_isSigned_11 rfl hl (by decide) rfl (fun ls hl => ?_)
  refine lv_iload_n hx hb dConversions_isSigned_12 rfl (lv_at hl 1 rfl) ?_
  refine lv_sipush (v := 182) hx hb dConversions_isSigned_13 (by decide) ?_
  refine lv_icmp_le (tgt := 38) hx hb dConversions_isSigned_16 (by decide) (fun h1 => ?_) (fun h1 => ?_)
  · rw [(show fConversions_isSigned_11 a0 s0 = fConversions_isSigned_38 s0 by rw [fConversions_isSigned_11, if_pos h1])]
    exact kConversions_isSigned_38 C s0 hzs0 (lv_sub hl [0] rfl)
  · refine lv_iload_n hx hb dConversions_isSigned_19 rfl (lv_at hl 1 rfl) ?_
    refine lv_sipush (v := 187) hx hb dConversions_isSigned_20 (by decide) ?_
    refine lv_icmp_ge (tgt := 38) hx hb dConversions_isSigned_23 (by decide) (fun h2 => ?_) (fun h2 => ?_)
    · rw [(show fConversions_isSigned_11 a0 s0 = fConversions_isSigned_38 s0 by rw [fConversions_isSigned_11, if_neg h1, if_pos h2])]
      exact kConversions_isSigned_38 C s0 hzs0 (lv_sub hl [0] rfl)
    · refine lv_iload_n hx hb dConversions_isSigned_26 rfl (lv_at hl 0 rfl) ?_
      refine lv_if_ne (tgt := 34) hx hb dConversions_isSigned_27 (by decide) (fun h3 => ?_) (fun h3 => ?_)
      · refine lv_iconst (v := 0) hx hb dConversions_isSigned_34 (by decide) ?_
        refine lv_goto (tgt := 39) hx hb dConversions_isSigned_35 (by decide) ?_
        exact W.zret hx hb hr (pw_nz (Or.inl rfl)) (fun t ht _ => ⟨by rw [(show fConversions_isSigned_11 a0 s0 = 0 by rw [fConversions_isSigned_11, if_neg h1, if_neg h2, if_neg h3])], ht⟩) (fun q h => nomatch h) dConversions_isSigned_39
      · refine lv_iconst (v := 1) hx hb dConversions_isSigned_30 (by decide) ?_
        refine lv_goto (tgt := 39) hx hb dConversions_isSigned_31 (by decide) ?_
        exact W.zret hx hb hr (pw_nz (Or.inr rfl)) (fun t ht _ => ⟨by rw [(show fConversions_isSigned_11 a0 s0 = 1 by rw [fConversions_isSigned_11, if_neg h1, if_neg h2, if_pos h3])], ht⟩) (fun q h => nomatch h) dConversions_isSigned_39
set_option maxHeartbeats 4000000 in
set_option maxRecDepth 100000 in
theorem kConversions_isSigned_0 {p : Program} {l : Launch} {e : Env} {s : State} {m : MethodId} {args : Array Value} {below : List Frame} {meth : Method} {c : Code} (C : pw_C p s m args meth c cConversions_isSigned 2 (some .boolean) "BitNumbers$Conversions") (a0 : Int32) {ls : Array Slot} (hl : lv_has ls 2 [(0, .int a0)]) : W p l e rmConversions_isSigned s m args below meth c s.heap [] 0 0 (MQ below (k2_QcV (.int (fConversions_isSigned a0))) args s 0 0 (fun _ => False)) (F0 m 0 ls []) := by
  obtain ⟨hx, hb, hr, hml, hown, hts, hlocks⟩ := id C
  refine lv_iload_n hx hb dConversions_isSigned_0 rfl (lv_at hl 0 rfl) ?_
  refine lv_iconst (v := 2) hx hb dConversions_isSigned_1 (by decide) ?_
  refine lv_irem hx hb dConversions_isSigned_2 (by decide) ?_
  refine lv_if_ne (tgt := 10) hx hb dConversions_isSigned_3 (by decide) (fun h1 => ?_) (fun h1 => ?_)
  · refine lv_iconst (v := 0) hx hb dConversions_isSigned_10 (by decide) ?_
    rw [(show fConversions_isSigned a0 = fConversions_isSigned_11 a0 0 by rw [fConversions_isSigned, if_neg h1])]
    exact kConversions_isSigned_11 C a0 0 (Or.inl rfl) (lv_sub hl [0] rfl)
  · refine lv_iconst (v := 1) hx hb dConversions_isSigned_6 (by decide) ?_
    refine lv_goto (tgt := 11) hx hb dConversions_isSigned_7 (by decide) ?_
    rw [(show fConversions_isSigned a0 = fConversions_isSigned_11 a0 1 by rw [fConversions_isSigned, if_pos h1])]
    exact kConversions_isSigned_11 C a0 1 (Or.inr rfl) (lv_sub hl [0] rfl)
set_option maxHeartbeats 4000000 in
set_option maxRecDepth 100000 in
theorem qConversions_isSigned (l : Launch) (a0 : Int32) : Met l yConversions_isSigned wsConversions_isSigned rmConversions_isSigned (va_Pc [.int a0] (fun _ => True)) (k2_QcV (.int (fConversions_isSigned a0))) 0 0 (fun _ => False) := by
  refine Met.ofW (cc := cConversions_isSigned) (maxL := 2) (ret := (some .boolean)) (by decide) rfl ?_
  intro p e s m args below meth c s₁ B hml hv
  obtain ⟨rfl, hG⟩ := hv
  have hts0 := atoms_spec (ws := wsConversions_isSigned) B.pre
  have hts := fun (w : Cond) (h : w ∈ aw) => hts0 w (List.mem_cons_of_mem _ h)
  have hown : s.vm.findClass "BitNumbers$Conversions" = some m.cls := findClass_of_methodNamed B.named
  have hl := lv_entry ([.int a0]) (n := 2) (Nat.le_of_ble_eq_true rfl)
  rw [lg_entry_eq]
  generalize (lg_sl ([.int a0]) ++ List.replicate (2 - (lg_sl ([.int a0])).length) Slot.unset).toArray = ls at hl ⊢
  exact kConversions_isSigned_0 ⟨B.exec, B.bytes, B.returns, hml, hown, hts, B.notSynchronized⟩ a0 hl

set_option maxHeartbeats 4000000 in
set_option maxRecDepth 100000 in
theorem kFormat_isNegative_0 {p : Program} {l : Launch} {e : Env} {s : State} {m : MethodId} {args : Array Value} {below : List Frame} {meth : Method} {c : Code} {ad td : Nat → Nat} (C : pw_C p s m args meth c cFormat_isNegative 3 (some .boolean) "BitNumbers$Format") (hG : pw_G (fun _ => False) ad td s s.heap) (a0 : Nat) (a1 : Int64) (hk0 : a0 < 2) {ls : Array Slot} (hl : lv_has ls 3 [(0, .ref (ad a0)), (1, .long a1)]) : W p l e rmFormat_isNegative s m args below meth c s.heap [] 0 0 (MQ below (k2_QcV (.int (fFormat_isNegative a0 a1))) args s 0 0 (fun _ => False)) (F0 m 0 ls []) := by
  obtain ⟨hx, hb, hr, hml, hown, hts, hlocks⟩ := id C
  have hS : va_S (fun _ => False) s.heap s.heap [] := va_S.rf
  refine lv_lload_n hx hb dFormat_isNegative_0 rfl (lv_at hl 1 rfl) ?_
  refine lv_aload_n hx hb dFormat_isNegative_1 rfl (lv_at hl 0 rfl) ?_
  refine va_getX hx hb hG.2.1.2.2.2.1 hk0 hS hown (hts _ w_808) (fun _ h9 => h9) dFormat_isNegative_2 ?_
  refine lv_land hx hb dFormat_isNegative_5 ?_
  refine lv_lconst (v := 0) hx hb dFormat_isNegative_6 (by decide) ?_
  refine W.lcmp hx hb dFormat_isNegative_7 ?_
  refine lv_if_eq (tgt := 15) hx hb dFormat_isNegative_8 (by decide) (fun h1 => ?_) (fun h1 => ?_)
  · have h1 : (a1 &&& (fm_signBit a0)) = 0 := (lg_cmp_eq _ _).mp h1
    refine lv_iconst (v := 0) hx hb dFormat_isNegative_15 (by decide) ?_
    exact W.zret hx hb hr (pw_nz (Or.inl rfl)) (fun t ht _ => ⟨by rw [(show fFormat_isNegative a0 a1 = 0 by rw [fFormat_isNegative, if_pos h1])], ht⟩) (fun q h => nomatch h) dFormat_isNegative_16
  · have h1 : ¬ ((a1 &&& (fm_signBit a0)) = 0) := fun w => h1 ((lg_cmp_eq _ _).mpr w)
    refine lv_iconst (v := 1) hx hb dFormat_isNegative_11 (by decide) ?_
    refine lv_goto (tgt := 16) hx hb dFormat_isNegative_12 (by decide) ?_
    exact W.zret hx hb hr (pw_nz (Or.inr rfl)) (fun t ht _ => ⟨by rw [(show fFormat_isNegative a0 a1 = 1 by rw [fFormat_isNegative, if_neg h1])], ht⟩) (fun q h => nomatch h) dFormat_isNegative_16
set_option maxHeartbeats 4000000 in
set_option maxRecDepth 100000 in
theorem qFormat_isNegative (l : Launch) (ad td : Nat → Nat) (a0 : Nat) (a1 : Int64) (hk0 : a0 < 2) : Met l yFormat_isNegative wsFormat_isNegative rmFormat_isNegative (va_Pc [.ref (ad a0), .long a1] (fun U => pw_G (fun _ => False) ad td U U.heap)) (k2_QcV (.int (fFormat_isNegative a0 a1))) 0 0 (fun _ => False) := by
  refine Met.ofW (cc := cFormat_isNegative) (maxL := 3) (ret := (some .boolean)) (by decide) rfl ?_
  intro p e s m args below meth c s₁ B hml hv
  obtain ⟨rfl, hG⟩ := hv
  have hts0 := atoms_spec (ws := wsFormat_isNegative) B.pre
  have hts := fun (w : Cond) (h : w ∈ aw) => hts0 w (List.mem_cons_of_mem _ h)
  have hown : s.vm.findClass "BitNumbers$Format" = some m.cls := findClass_of_methodNamed B.named
  have hl := lv_entry ([.ref (ad a0), .long a1]) (n := 3) (Nat.le_of_ble_eq_true rfl)
  rw [lg_entry_eq]
  generalize (lg_sl ([.ref (ad a0), .long a1]) ++ List.replicate (3 - (lg_sl ([.ref (ad a0), .long a1])).length) Slot.unset).toArray = ls at hl ⊢
  exact kFormat_isNegative_0 ⟨B.exec, B.bytes, B.returns, hml, hown, hts, B.notSynchronized⟩ hG a0 a1 hk0 hl

set_option maxHeartbeats 4000000 in
set_option maxRecDepth 100000 in
theorem kWhole_width_0 {p : Program} {l : Launch} {e : Env} {s : State} {m : MethodId} {args : Array Value} {below : List Frame} {meth : Method} {c : Code} (C : pw_C p s m args meth c cWhole_width 1 (some .int) "BitNumbers$Whole") (a0 : Int32) {ls : Array Slot} (hl : lv_has ls 1 [(0, .int a0)]) : W p l e rmWhole_width s m args below meth c s.heap [] 0 0 (MQ below (k2_QcV (.int (fWhole_width a0))) args s 0 0 (fun _ => False)) (F0 m 0 ls []) := by
  obtain ⟨hx, hb, hr, hml, hown, hts, hlocks⟩ := id C
  refine lv_iload_n hx hb dWhole_width_0 rfl (lv_at hl 0 rfl) ?_
  refine lv_if_ne (tgt := 9) hx hb dWhole_width_1 (by decide) (fun h1 => ?_) (fun h1 => ?_)
  · refine lv_bipush (v := 64) hx hb dWhole_width_9 (by decide) ?_
    exact W.iret hx hb hr (fun t ht _ => ⟨by rw [(show fWhole_width a0 = 64 by rw [fWhole_width, if_neg h1])], ht⟩) (fun q h => nomatch h) dWhole_width_11
  · refine lv_bipush (v := 32) hx hb dWhole_width_4 (by decide) ?_
    refine lv_goto (tgt := 11) hx hb dWhole_width_6 (by decide) ?_
    exact W.iret hx hb hr (fun t ht _ => ⟨by rw [(show fWhole_width a0 = 32 by rw [fWhole_width, if_pos h1])], ht⟩) (fun q h => nomatch h) dWhole_width_11
set_option maxHeartbeats 4000000 in
set_option maxRecDepth 100000 in
theorem qWhole_width (l : Launch) (a0 : Int32) : Met l yWhole_width wsWhole_width rmWhole_width (va_Pc [.int a0] (fun _ => True)) (k2_QcV (.int (fWhole_width a0))) 0 0 (fun _ => False) := by
  refine Met.ofW (cc := cWhole_width) (maxL := 1) (ret := (some .int)) (by decide) rfl ?_
  intro p e s m args below meth c s₁ B hml hv
  obtain ⟨rfl, hG⟩ := hv
  have hts0 := atoms_spec (ws := wsWhole_width) B.pre
  have hts := fun (w : Cond) (h : w ∈ aw) => hts0 w (List.mem_cons_of_mem _ h)
  have hown : s.vm.findClass "BitNumbers$Whole" = some m.cls := findClass_of_methodNamed B.named
  have hl := lv_entry ([.int a0]) (n := 1) (Nat.le_of_ble_eq_true rfl)
  rw [lg_entry_eq]
  generalize (lg_sl ([.int a0]) ++ List.replicate (1 - (lg_sl ([.int a0])).length) Slot.unset).toArray = ls at hl ⊢
  exact kWhole_width_0 ⟨B.exec, B.bytes, B.returns, hml, hown, hts, B.notSynchronized⟩ a0 hl

set_option maxHeartbeats 4000000 in
set_option maxRecDepth 100000 in
theorem kWhole_greatest_19 {p : Program} {l : Launch} {e : Env} {s : State} {m : MethodId} {args : Array Value} {below : List Frame} {meth : Method} {c : Code} (C : pw_C p s m args meth c cWhole_greatest 2 (some .long) "BitNumbers$Whole") (s0 : Int32) (s1 : Int32) (s2 : Int64) (hzs0 : s0 = 0 ∨ s0 = 1) {ls : Array Slot} (hl : lv_has ls 2 []) : W p l e rmWhole_greatest s m args below meth c s.heap [] 0 0 (MQ below (k2_QcV (.long (fWhole_greatest_19 s0 s1 s2))) args s 0 0 (fun _ => False)) (F0 m 19 ls [.int s0, .int s1, .long s2]) := by
  obtain ⟨hx, hb, hr, hml, hown, hts, hlocks⟩ := id C
  refine lv_iadd hx hb dWhole_greatest_19 ?_
  refine lv_lushr (v := bn_shr s2 (s1 + s0)) hx hb dWhole_greatest_20 rfl ?_
  exact W.lret hx hb hr (fun t ht _ => ⟨by rw [(show fWhole_greatest_19 s0 s1 s2 = bn_shr s2 (s1 + s0) by rw [fWhole_greatest_19])], ht⟩) (fun q h => nomatch h) dWhole_greatest_21
set_option maxHeartbeats 4000000 in
set_option maxRecDepth 100000 in
theorem kWhole_greatest_0 {p : Program} {l : Launch} {e : Env} {s : State} {m : MethodId} {args : Array Value} {below : List Frame} {meth : Method} {c : Code} (C : pw_C p s m args meth c cWhole_greatest 2 (some .long) "BitNumbers$Whole") (a0 : Int32) (a1 : Int32) {ls : Array Slot} (hl : lv_has ls 2 [(0, .int a0), (1, .int a1)]) : W p l e rmWhole_greatest s m args below meth c s.heap [] 0 0 (MQ below (k2_QcV (.long (fWhole_greatest a0 a1))) args s 0 0 (fun _ => False)) (F0 m 0 ls []) := by
  obtain ⟨hx, hb, hr, hml, hown, hts, hlocks⟩ := id C
  refine lv_ldc2 hx hb hown (hts _ w_291) dWhole_greatest_0 ?_
  refine lv_bipush (v := 64) hx hb dWhole_greatest_3 (by decide) ?_
  refine lv_iload_n hx hb dWhole_greatest_5 rfl (lv_at hl 0 rfl) ?_
  refine pw_call (va_runS (As := [.int a0]) (rest := [.int 64, .long (-1)]) ⟨hx, hb, hml, hown, hts⟩ (qWhole_width l a0) (va_cwS 1 hts (gS w_292 w_293 w_35 w_294) rfl rfl rfl (by decide +kernel) ⟨Nat.le_of_ble_eq_true rfl, Nat.le_of_ble_eq_true rfl⟩) ⟨pw_bT, fun U hU hW => ⟨rfl, trivial⟩⟩ rfl rfl hl.1 rfl (lv_room (Nat.le_of_ble_eq_true rfl)) dWhole_greatest_6 ⟨Nat.zero_le _, Nat.zero_le _⟩) ?_
  refine lv_isub hx hb dWhole_greatest_9 ?_
  refine lv_iload_n hx hb dWhole_greatest_10 rfl (lv_at hl 1 rfl) ?_
  refine lv_if_eq (tgt := 18) hx hb dWhole_greatest_11 (by decide) (fun h1 => ?_) (fun h1 => ?_)
  · refine lv_iconst (v := 0) hx hb dWhole_greatest_18 (by decide) ?_
    rw [(show fWhole_greatest a0 a1 = fWhole_greatest_19 0 (64 - (fWhole_width a0)) (-1) by rw [fWhole_greatest, if_pos h1])]
    exact kWhole_greatest_19 C 0 (64 - (fWhole_width a0)) (-1) (Or.inl rfl) (lv_sub hl [] rfl)
  · refine lv_iconst (v := 1) hx hb dWhole_greatest_14 (by decide) ?_
    refine lv_goto (tgt := 19) hx hb dWhole_greatest_15 (by decide) ?_
    rw [(show fWhole_greatest a0 a1 = fWhole_greatest_19 1 (64 - (fWhole_width a0)) (-1) by rw [fWhole_greatest, if_neg h1])]
    exact kWhole_greatest_19 C 1 (64 - (fWhole_width a0)) (-1) (Or.inr rfl) (lv_sub hl [] rfl)
set_option maxHeartbeats 4000000 in
set_option maxRecDepth 100000 in
theorem qWhole_greatest (l : Launch) (a0 : Int32) (a1 : Int32) : Met l yWhole_greatest wsWhole_greatest rmWhole_greatest (va_Pc [.int a0, .int a1] (fun _ => True)) (k2_QcV (.long (fWhole_greatest a0 a1))) 0 0 (fun _ => False) := by
  refine Met.ofW (cc := cWhole_greatest) (maxL := 2) (ret := (some .long)) (by decide) rfl ?_
  intro p e s m args below meth c s₁ B hml hv
  obtain ⟨rfl, hG⟩ := hv
  have hts0 := atoms_spec (ws := wsWhole_greatest) B.pre
  have hts := fun (w : Cond) (h : w ∈ aw) => hts0 w (List.mem_cons_of_mem _ h)
  have hown : s.vm.findClass "BitNumbers$Whole" = some m.cls := findClass_of_methodNamed B.named
  have hl := lv_entry ([.int a0, .int a1]) (n := 2) (Nat.le_of_ble_eq_true rfl)
  rw [lg_entry_eq]
  generalize (lg_sl ([.int a0, .int a1]) ++ List.replicate (2 - (lg_sl ([.int a0, .int a1])).length) Slot.unset).toArray = ls at hl ⊢
  exact kWhole_greatest_0 ⟨B.exec, B.bytes, B.returns, hml, hown, hts, B.notSynchronized⟩ a0 a1 hl

set_option maxHeartbeats 4000000 in
set_option maxRecDepth 100000 in
theorem kConversions_limit_0 {p : Program} {l : Launch} {e : Env} {s : State} {m : MethodId} {args : Array Value} {below : List Frame} {meth : Method} {c : Code} {ad td : Nat → Nat} (C : pw_C p s m args meth c cConversions_limit 5 (some .long) "BitNumbers$Conversions") (hG : pw_G (fun _ => False) ad td s s.heap) (a0 : Nat) (a1 : Int64) (a3 : Int32) (a4 : Int32) (hk0 : a0 < 2) {ls : Array Slot} (hl : lv_has ls 5 [(0, .ref (ad a0)), (1, .long a1), (3, .int a3), (4, .int a4)]) : W p l e rmConversions_limit s m args below meth c s.heap [] 0 0 (MQ below (k2_QcV (.long (fConversions_limit a0 a1 a3 a4))) args s 0 0 (fun _ => False)) (F0 m 0 ls []) := by
  obtain ⟨hx, hb, hr, hml, hown, hts, hlocks⟩ := id C
  have hS : va_S (fun _ => False) s.heap s.heap [] := va_S.rf
  refine lv_aload_n hx hb dConversions_limit_0 rfl (lv_at hl 0 rfl) ?_
  refine lv_lload_n hx hb dConversions_limit_1 rfl (lv_at hl 1 rfl) ?_
  refine pw_call (va_runV (As := [.long a1]) (rest := []) ⟨hx, hb, hml, hown, hts⟩ (qFormat_isNegative l ad td a0 a1 hk0) (cwV 1 hts (gV w_314 w_142 w_143 w_44 w_144) rfl rfl rfl (by decide +kernel) ⟨Nat.le_of_ble_eq_true rfl, Nat.le_of_ble_eq_true rfl⟩) ⟨pw_bG, va_recvE hG.1 hk0 hS, fun U hU hW => ⟨rfl, (hG.at hU hW)⟩⟩ rfl rfl hl.1 rfl (lv_room (Nat.le_of_ble_eq_true rfl)) dConversions_limit_2 ⟨Nat.zero_le _, Nat.zero_le _⟩) ?_
  refine lv_if_ne (tgt := 15) hx hb dConversions_limit_5 (by decide) (fun h1 => ?_) (fun h1 => ?_)
  · refine lv_iload hx hb dConversions_limit_15 (lv_at hl 3 rfl) ?_
    refine lv_if_eq (tgt := 30) hx hb dConversions_limit_17 (by decide) (fun h2 => ?_) (fun h2 => ?_)
    · refine lv_lconst (v := 0) hx hb dConversions_limit_30 (by decide) ?_
      exact W.lret hx hb hr (fun t ht _ => ⟨by rw [(show fConversions_limit a0 a1 a3 a4 = 0 by rw [fConversions_limit, if_neg h1, if_pos h2])], ht⟩) (fun q h => nomatch h) dConversions_limit_31
    · refine lv_iload_n hx hb dConversions_limit_20 rfl (lv_at hl 2 rfl) ?_
      refine lv_iconst (v := 1) hx hb dConversions_limit_21 (by decide) ?_
      refine pw_call (va_runS (As := [.int a3, .int 1]) (rest := []) ⟨hx, hb, hml, hown, hts⟩ (qWhole_greatest l a3 1) (va_cwS 2 hts (gS w_315 w_289 w_35 w_290) rfl rfl rfl (by decide +kernel) ⟨Nat.le_of_ble_eq_true rfl, Nat.le_of_ble_eq_true rfl⟩) ⟨pw_bT, fun U hU hW => ⟨rfl, trivial⟩⟩ rfl rfl hl.1 rfl (lv_room (Nat.le_of_ble_eq_true rfl)) dConversions_limit_22 ⟨Nat.zero_le _, Nat.zero_le _⟩) ?_
      refine lv_lconst (v := 1) hx hb dConversions_limit_25 (by decide) ?_
      refine lv_ladd hx hb dConversions_limit_26 ?_
      refine lv_goto (tgt := 31) hx hb dConversions_limit_27 (by decide) ?_
      exact W.lret hx hb hr (fun t ht _ => ⟨by rw [(show fConversions_limit a0 a1 a3 a4 = (fWhole_greatest a3 1) + 1 by rw [fConversions_limit, if_neg h1, if_neg h2])], ht⟩) (fun q h => nomatch h) dConversions_limit_31
  · refine lv_iload_n hx hb dConversions_limit_8 rfl (lv_at hl 2 rfl) ?_
    refine lv_iload hx hb dConversions_limit_9 (lv_at hl 3 rfl) ?_
    refine pw_call (va_runS (As := [.int a3, .int a4]) (rest := []) ⟨hx, hb, hml, hown, hts⟩ (qWhole_greatest l a3 a4) (va_cwS 2 hts (gS w_315 w_289 w_35 w_290) rfl rfl rfl (by decide +kernel) ⟨Nat.le_of_ble_eq_true rfl, Nat.le_of_ble_eq_true rfl⟩) ⟨pw_bT, fun U hU hW => ⟨rfl, trivial⟩⟩ rfl rfl hl.1 rfl (lv_room (Nat.le_of_ble_eq_true rfl)) dConversions_limit_11 ⟨Nat.zero_le _, Nat.zero_le _⟩) ?_
    exact W.lret hx hb hr (fun t ht _ => ⟨by rw [(show fConversions_limit a0 a1 a3 a4 = fWhole_greatest a3 a4 by rw [fConversions_limit, if_pos h1])], ht⟩) (fun q h => nomatch h) dConversions_limit_14
set_option maxHeartbeats 4000000 in
set_option maxRecDepth 100000 in
theorem qConversions_limit (l : Launch) (ad td : Nat → Nat) (a0 : Nat) (a1 : Int64) (a3 : Int32) (a4 : Int32) (hk0 : a0 < 2) : Met l yConversions_limit wsConversions_limit rmConversions_limit (va_Pc [.ref (ad a0), .long a1, .int a3, .int a4] (fun U => pw_G (fun _ => False) ad td U U.heap)) (k2_QcV (.long (fConversions_limit a0 a1 a3 a4))) 0 0 (fun _ => False) := by
  refine Met.ofW (cc := cConversions_limit) (maxL := 5) (ret := (some .long)) (by decide) rfl ?_
  intro p e s m args below meth c s₁ B hml hv
  obtain ⟨rfl, hG⟩ := hv
  have hts0 := atoms_spec (ws := wsConversions_limit) B.pre
  have hts := fun (w : Cond) (h : w ∈ aw) => hts0 w (List.mem_cons_of_mem _ h)
  have hown : s.vm.findClass "BitNumbers$Conversions" = some m.cls := findClass_of_methodNamed B.named
  have hl := lv_entry ([.ref (ad a0), .long a1, .int a3, .int a4]) (n := 5) (Nat.le_of_ble_eq_true rfl)
  rw [lg_entry_eq]
  generalize (lg_sl ([.ref (ad a0), .long a1, .int a3, .int a4]) ++ List.replicate (5 - (lg_sl ([.ref (ad a0), .long a1, .int a3, .int a4])).length) Slot.unset).toArray = ls at hl ⊢
  exact kConversions_limit_0 ⟨B.exec, B.bytes, B.returns, hml, hown, hts, B.notSynchronized⟩ hG a0 a1 a3 a4 hk0 hl

set_option maxHeartbeats 4000000 in
set_option maxRecDepth 100000 in
theorem kFormat_exponent_0 {p : Program} {l : Launch} {e : Env} {s : State} {m : MethodId} {args : Array Value} {below : List Frame} {meth : Method} {c : Code} {ad td : Nat → Nat} (C : pw_C p s m args meth c cFormat_exponent 3 (some .int) "BitNumbers$Format") (hG : pw_G (fun _ => False) ad td s s.heap) (a0 : Nat) (a1 : Int64) (hk0 : a0 < 2) {ls : Array Slot} (hl : lv_has ls 3 [(0, .ref (ad a0)), (1, .long a1)]) : W p l e rmFormat_exponent s m args below meth c s.heap [] 0 0 (MQ below (k2_QcV (.int (fFormat_exponent a0 a1))) args s 0 0 (fun _ => False)) (F0 m 0 ls []) := by
  obtain ⟨hx, hb, hr, hml, hown, hts, hlocks⟩ := id C
  have hS : va_S (fun _ => False) s.heap s.heap [] := va_S.rf
  refine lv_lload_n hx hb dFormat_exponent_0 rfl (lv_at hl 1 rfl) ?_
  refine lv_aload_n hx hb dFormat_exponent_1 rfl (lv_at hl 0 rfl) ?_
  refine va_getX hx hb hG.2.1.1 hk0 hS hown (hts _ w_811) (fun _ h9 => h9) dFormat_exponent_2 ?_
  refine lv_iconst (v := 1) hx hb dFormat_exponent_5 (by decide) ?_
  refine lv_isub hx hb dFormat_exponent_6 ?_
  refine lv_lushr (v := bn_shr a1 ((fm_places a0) - 1)) hx hb dFormat_exponent_7 rfl ?_
  refine lv_l2i hx hb dFormat_exponent_8 rfl ?_
  refine lv_aload_n hx hb dFormat_exponent_9 rfl (lv_at hl 0 rfl) ?_
  refine va_getX hx hb hG.2.1.2.1 hk0 hS hown (hts _ w_812) (fun _ h9 => h9) dFormat_exponent_10 ?_
  refine lv_iand hx hb dFormat_exponent_13 ?_
  exact W.iret hx hb hr (fun t ht _ => ⟨by rw [(show fFormat_exponent a0 a1 = ((bn_shr a1 ((fm_places a0) - 1)).toInt32) &&& (fm_greatestExponent a0) by rw [fFormat_exponent])], ht⟩) (fun q h => nomatch h) dFormat_exponent_14
set_option maxHeartbeats 4000000 in
set_option maxRecDepth 100000 in
theorem qFormat_exponent (l : Launch) (ad td : Nat → Nat) (a0 : Nat) (a1 : Int64) (hk0 : a0 < 2) : Met l yFormat_exponent wsFormat_exponent rmFormat_exponent (va_Pc [.ref (ad a0), .long a1] (fun U => pw_G (fun _ => False) ad td U U.heap)) (k2_QcV (.int (fFormat_exponent a0 a1))) 0 0 (fun _ => False) := by
  refine Met.ofW (cc := cFormat_exponent) (maxL := 3) (ret := (some .int)) (by decide) rfl ?_
  intro p e s m args below meth c s₁ B hml hv
  obtain ⟨rfl, hG⟩ := hv
  have hts0 := atoms_spec (ws := wsFormat_exponent) B.pre
  have hts := fun (w : Cond) (h : w ∈ aw) => hts0 w (List.mem_cons_of_mem _ h)
  have hown : s.vm.findClass "BitNumbers$Format" = some m.cls := findClass_of_methodNamed B.named
  have hl := lv_entry ([.ref (ad a0), .long a1]) (n := 3) (Nat.le_of_ble_eq_true rfl)
  rw [lg_entry_eq]
  generalize (lg_sl ([.ref (ad a0), .long a1]) ++ List.replicate (3 - (lg_sl ([.ref (ad a0), .long a1])).length) Slot.unset).toArray = ls at hl ⊢
  exact kFormat_exponent_0 ⟨B.exec, B.bytes, B.returns, hml, hown, hts, B.notSynchronized⟩ hG a0 a1 hk0 hl

