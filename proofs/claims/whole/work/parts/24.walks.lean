set_option maxHeartbeats 4000000 in
set_option maxRecDepth 100000 in
theorem kFormat_significand_9 {p : Program} {l : Launch} {e : Env} {s : State} {m : MethodId} {args : Array Value} {below : List Frame} {meth : Method} {c : Code} {ad td : Nat → Nat} (C : pw_C p s m args meth c cFormat_significand 5 (some .long) "BitNumbers$Format") (hG : pw_G (fun _ => False) ad td s s.heap) (a0 : Nat) (a1 : Int64) (a3 : Int64) (hk0 : a0 < 2) {ls : Array Slot} (hl : lv_has ls 5 [(0, .ref (ad a0)), (1, .long a1), (3, .long a3)]) : W p l e rmFormat_significand s m args below meth c s.heap [] 0 0 (MQ below (k2_QcV (.long (fFormat_significand_9 a0 a1 a3))) args s 0 0 (fun _ => False)) (F0 m 9 ls []) := by
  obtain ⟨hx, hb, hr, hml, hown, hts, hlocks⟩ := id C
  have hS : va_S (fun _ => False) s.heap s.heap [] := va_S.rf
  refine lv_aload_n hx hb dFormat_significand_9 rfl (lv_at hl 0 rfl) ?_
  refine lv_lload_n hx hb dFormat_significand_10 rfl (lv_at hl 1 rfl) ?_
  refine pw_call (va_runV (As := [.long a1]) (rest := []) ⟨hx, hb, hml, hown, hts⟩ (qFormat_exponent l ad td a0 a1 hk0) (cwV 1 hts (gV w_166 w_146 w_147 w_44 w_148) rfl rfl rfl (by decide +kernel) ⟨Nat.le_of_ble_eq_true rfl, Nat.le_of_ble_eq_true rfl⟩) ⟨pw_bG, va_recvE hG.1 hk0 hS, fun U hU hW => ⟨rfl, (hG.at hU hW)⟩⟩ rfl rfl hl.1 rfl (lv_room (Nat.le_of_ble_eq_true rfl)) dFormat_significand_11 ⟨Nat.zero_le _, Nat.zero_le _⟩) ?_
  refine lv_if_ne (tgt := 21) hx hb dFormat_significand_14 (by decide) (fun h1 => ?_) (fun h1 => ?_)
  · refine lv_aload_n hx hb dFormat_significand_21 rfl (lv_at hl 0 rfl) ?_
    refine va_getX hx hb hG.2.1.2.2.2.2.1 hk0 hS hown (hts _ w_810) (fun _ h9 => h9) dFormat_significand_22 ?_
    refine lv_lload_n hx hb dFormat_significand_25 rfl (lv_at hl 2 rfl) ?_
    refine lv_lor hx hb dFormat_significand_26 ?_
    exact W.lret hx hb hr (fun t ht _ => ⟨by rw [(show fFormat_significand_9 a0 a1 a3 = (fm_leadingBit a0) ||| a3 by rw [fFormat_significand_9, if_neg h1])], ht⟩) (fun q h => nomatch h) dFormat_significand_27
  · refine lv_lload_n hx hb dFormat_significand_17 rfl (lv_at hl 2 rfl) ?_
    refine lv_goto (tgt := 27) hx hb dFormat_significand_18 (by decide) ?_
    exact W.lret hx hb hr (fun t ht _ => ⟨by rw [(show fFormat_significand_9 a0 a1 a3 = a3 by rw [fFormat_significand_9, if_pos h1])], ht⟩) (fun q h => nomatch h) dFormat_significand_27
set_option maxHeartbeats 4000000 in
set_option maxRecDepth 100000 in
theorem kFormat_significand_0 {p : Program} {l : Launch} {e : Env} {s : State} {m : MethodId} {args : Array Value} {below : List Frame} {meth : Method} {c : Code} {ad td : Nat → Nat} (C : pw_C p s m args meth c cFormat_significand 5 (some .long) "BitNumbers$Format") (hG : pw_G (fun _ => False) ad td s s.heap) (a0 : Nat) (a1 : Int64) (hk0 : a0 < 2) {ls : Array Slot} (hl : lv_has ls 5 [(0, .ref (ad a0)), (1, .long a1)]) : W p l e rmFormat_significand s m args below meth c s.heap [] 0 0 (MQ below (k2_QcV (.long (fFormat_significand a0 a1))) args s 0 0 (fun _ => False)) (F0 m 0 ls []) := by
  obtain ⟨hx, hb, hr, hml, hown, hts, hlocks⟩ := id C
  have hS : va_S (fun _ => False) s.heap s.heap [] := va_S.rf
  refine lv_lload_n hx hb dFormat_significand_0 rfl (lv_at hl 1 rfl) ?_
  refine lv_aload_n hx hb dFormat_significand_1 rfl (lv_at hl 0 rfl) ?_
  refine va_getX hx hb hG.2.1.2.2.2.2.1 hk0 hS hown (hts _ w_810) (fun _ h9 => h9) dFormat_significand_2 ?_
  refine lv_lconst (v := 1) hx hb dFormat_significand_5 (by decide) ?_
  refine lv_lsub hx hb dFormat_significand_6 ?_
  refine lv_land hx hb dFormat_significand_7 ?_
  refine lv_lstore_n (lv' := [(3, .long (a1 &&& ((fm_leadingBit a0) - 1))), (0, .ref (ad a0)), (1, .long a1)]) hx hb dFormat_significand_8 rfl hl (by decide) rfl (fun ls hl => ?_)
  rw [(show fFormat_significand a0 a1 = fFormat_significand_9 a0 a1 (a1 &&& ((fm_leadingBit a0) - 1)) by rw [fFormat_significand])]
  exact kFormat_significand_9 C hG a0 a1 (a1 &&& ((fm_leadingBit a0) - 1)) hk0 (lv_sub hl [1, 2, 0] rfl)
set_option maxHeartbeats 4000000 in
set_option maxRecDepth 100000 in
theorem qFormat_significand (l : Launch) (ad td : Nat → Nat) (a0 : Nat) (a1 : Int64) (hk0 : a0 < 2) : Met l yFormat_significand wsFormat_significand rmFormat_significand (va_Pc [.ref (ad a0), .long a1] (fun U => pw_G (fun _ => False) ad td U U.heap)) (k2_QcV (.long (fFormat_significand a0 a1))) 0 0 (fun _ => False) := by
  refine Met.ofW (cc := cFormat_significand) (maxL := 5) (ret := (some .long)) (by decide) rfl ?_
  intro p e s m args below meth c s₁ B hml hv
  obtain ⟨rfl, hG⟩ := hv
  have hts0 := atoms_spec (ws := wsFormat_significand) B.pre
  have hts := fun (w : Cond) (h : w ∈ aw) => hts0 w (List.mem_cons_of_mem _ h)
  have hown : s.vm.findClass "BitNumbers$Format" = some m.cls := findClass_of_methodNamed B.named
  have hl := lv_entry ([.ref (ad a0), .long a1]) (n := 5) (Nat.le_of_ble_eq_true rfl)
  rw [lg_entry_eq]
  generalize (lg_sl ([.ref (ad a0), .long a1]) ++ List.replicate (5 - (lg_sl ([.ref (ad a0), .long a1])).length) Slot.unset).toArray = ls at hl ⊢
  exact kFormat_significand_0 ⟨B.exec, B.bytes, B.returns, hml, hown, hts, B.notSynchronized⟩ hG a0 a1 hk0 hl


set_option maxHeartbeats 4000000 in
set_option maxRecDepth 100000 in
theorem kFormat_scale_0 {p : Program} {l : Launch} {e : Env} {s : State} {m : MethodId} {args : Array Value} {below : List Frame} {meth : Method} {c : Code} {ad td : Nat → Nat} (C : pw_C p s m args meth c cFormat_scale 3 (some .int) "BitNumbers$Format") (hG : pw_G (fun _ => False) ad td s s.heap) (a0 : Nat) (a1 : Int64) (hk0 : a0 < 2) {ls : Array Slot} (hl : lv_has ls 3 [(0, .ref (ad a0)), (1, .long a1)]) : W p l e rmFormat_scale s m args below meth c s.heap [] 0 0 (MQ below (k2_QcV (.int (fFormat_scale a0 a1))) args s 0 0 (fun _ => False)) (F0 m 0 ls []) := by
  obtain ⟨hx, hb, hr, hml, hown, hts, hlocks⟩ := id C
  have hS : va_S (fun _ => False) s.heap s.heap [] := va_S.rf
  refine lv_aload_n hx hb dFormat_scale_0 rfl (lv_at hl 0 rfl) ?_
  refine va_getX hx hb hG.2.1.2.2.1 hk0 hS hown (hts _ w_813) (fun _ h9 => h9) dFormat_scale_1 ?_
  refine lv_aload_n hx hb dFormat_scale_4 rfl (lv_at hl 0 rfl) ?_
  refine lv_lload_n hx hb dFormat_scale_5 rfl (lv_at hl 1 rfl) ?_
  refine pw_call (va_runV (As := [.long a1]) (rest := [.int (fm_leastScale a0)]) ⟨hx, hb, hml, hown, hts⟩ (qFormat_exponent l ad td a0 a1 hk0) (cwV 1 hts (gV w_166 w_146 w_147 w_44 w_148) rfl rfl rfl (by decide +kernel) ⟨Nat.le_of_ble_eq_true rfl, Nat.le_of_ble_eq_true rfl⟩) ⟨pw_bG, va_recvE hG.1 hk0 hS, fun U hU hW => ⟨rfl, (hG.at hU hW)⟩⟩ rfl rfl hl.1 rfl (lv_room (Nat.le_of_ble_eq_true rfl)) dFormat_scale_6 ⟨Nat.zero_le _, Nat.zero_le _⟩) ?_
  refine lv_iconst (v := 1) hx hb dFormat_scale_9 (by decide) ?_
  refine pw_mmax hx hb (by rw [hml]; exact hl.1.symm) hown (hts _ w_327) (hts _ w_328) (hts _ w_45) (hts _ w_329) (Nat.le_of_ble_eq_true rfl) (Nat.le_of_ble_eq_true rfl) (Nat.zero_le _) (Nat.zero_le _) dFormat_scale_10 ?_
  refine lv_iadd hx hb dFormat_scale_13 ?_
  refine lv_iconst (v := 1) hx hb dFormat_scale_14 (by decide) ?_
  refine lv_isub hx hb dFormat_scale_15 ?_
  exact W.iret hx hb hr (fun t ht _ => ⟨by rw [(show fFormat_scale a0 a1 = ((fm_leastScale a0) + (fMath_max (fFormat_exponent a0 a1) 1)) - 1 by rw [fFormat_scale])], ht⟩) (fun q h => nomatch h) dFormat_scale_16
set_option maxHeartbeats 4000000 in
set_option maxRecDepth 100000 in
theorem qFormat_scale (l : Launch) (ad td : Nat → Nat) (a0 : Nat) (a1 : Int64) (hk0 : a0 < 2) : Met l yFormat_scale wsFormat_scale rmFormat_scale (va_Pc [.ref (ad a0), .long a1] (fun U => pw_G (fun _ => False) ad td U U.heap)) (k2_QcV (.int (fFormat_scale a0 a1))) 0 0 (fun _ => False) := by
  refine Met.ofW (cc := cFormat_scale) (maxL := 3) (ret := (some .int)) (by decide) rfl ?_
  intro p e s m args below meth c s₁ B hml hv
  obtain ⟨rfl, hG⟩ := hv
  have hts0 := atoms_spec (ws := wsFormat_scale) B.pre
  have hts := fun (w : Cond) (h : w ∈ aw) => hts0 w (List.mem_cons_of_mem _ h)
  have hown : s.vm.findClass "BitNumbers$Format" = some m.cls := findClass_of_methodNamed B.named
  have hl := lv_entry ([.ref (ad a0), .long a1]) (n := 3) (Nat.le_of_ble_eq_true rfl)
  rw [lg_entry_eq]
  generalize (lg_sl ([.ref (ad a0), .long a1]) ++ List.replicate (3 - (lg_sl ([.ref (ad a0), .long a1])).length) Slot.unset).toArray = ls at hl ⊢
  exact kFormat_scale_0 ⟨B.exec, B.bytes, B.returns, hml, hown, hts, B.notSynchronized⟩ hG a0 a1 hk0 hl

set_option maxHeartbeats 4000000 in
set_option maxRecDepth 100000 in
theorem kLong_bitCount_55 {p : Program} {l : Launch} {e : Env} {s : State} {m : MethodId} {args : Array Value} {below : List Frame} {meth : Method} {c : Code} (C : pw_C p s m args meth c cLong_bitCount 2 (some .int) "java/lang/Long") (a0 : Int64) {ls : Array Slot} (hl : lv_has ls 2 [(0, .long a0)]) : W p l e rmLong_bitCount s m args below meth c s.heap [] 0 0 (MQ below (k2_QcV (.int (fLong_bitCount_55 a0))) args s 0 0 (fun _ => False)) (F0 m 55 ls []) := by
  obtain ⟨hx, hb, hr, hml, hown, hts, hlocks⟩ := id C
  refine lv_lload_n hx hb dLong_bitCount_55 rfl (lv_at hl 0 rfl) ?_
  refine lv_l2i hx hb dLong_bitCount_56 rfl ?_
  refine lv_bipush (v := 127) hx hb dLong_bitCount_57 (by decide) ?_
  refine lv_iand hx hb dLong_bitCount_59 ?_
  exact W.iret hx hb hr (fun t ht _ => ⟨by rw [(show fLong_bitCount_55 a0 = a0.toInt32 &&& 127 by rw [fLong_bitCount_55])], ht⟩) (fun q h => nomatch h) dLong_bitCount_60
set_option maxHeartbeats 4000000 in
set_option maxRecDepth 100000 in
theorem kLong_bitCount_48 {p : Program} {l : Launch} {e : Env} {s : State} {m : MethodId} {args : Array Value} {below : List Frame} {meth : Method} {c : Code} (C : pw_C p s m args meth c cLong_bitCount 2 (some .int) "java/lang/Long") (a0 : Int64) {ls : Array Slot} (hl : lv_has ls 2 [(0, .long a0)]) : W p l e rmLong_bitCount s m args below meth c s.heap [] 0 0 (MQ below (k2_QcV (.int (fLong_bitCount_48 a0))) args s 0 0 (fun _ => False)) (F0 m 48 ls []) := by
  obtain ⟨hx, hb, hr, hml, hown, hts, hlocks⟩ := id C
  refine lv_lload_n hx hb dLong_bitCount_48 rfl (lv_at hl 0 rfl) ?_
  refine lv_lload_n hx hb dLong_bitCount_49 rfl (lv_at hl 0 rfl) ?_
  refine lv_bipush (v := 32) hx hb dLong_bitCount_50 (by decide) ?_
  refine lv_lushr (v := bn_shr a0 32) hx hb dLong_bitCount_52 rfl ?_
  refine lv_ladd hx hb dLong_bitCount_53 ?_
  refine lv_lstore_n (lv' := [(0, .long (a0 + (bn_shr a0 32)))]) hx hb dLong_bitCount_54 rfl hl (by decide) rfl (fun ls hl => ?_)
  rw [(show fLong_bitCount_48 a0 = fLong_bitCount_55 (a0 + (bn_shr a0 32)) by rw [fLong_bitCount_48])]
  exact kLong_bitCount_55 C (a0 + (bn_shr a0 32)) (lv_sub hl [0] rfl)
set_option maxHeartbeats 4000000 in
set_option maxRecDepth 100000 in
theorem kLong_bitCount_41 {p : Program} {l : Launch} {e : Env} {s : State} {m : MethodId} {args : Array Value} {below : List Frame} {meth : Method} {c : Code} (C : pw_C p s m args meth c cLong_bitCount 2 (some .int) "java/lang/Long") (a0 : Int64) {ls : Array Slot} (hl : lv_has ls 2 [(0, .long a0)]) : W p l e rmLong_bitCount s m args below meth c s.heap [] 0 0 (MQ below (k2_QcV (.int (fLong_bitCount_41 a0))) args s 0 0 (fun _ => False)) (F0 m 41 ls []) := by
  obtain ⟨hx, hb, hr, hml, hown, hts, hlocks⟩ := id C
  refine lv_lload_n hx hb dLong_bitCount_41 rfl (lv_at hl 0 rfl) ?_
  refine lv_lload_n hx hb dLong_bitCount_42 rfl (lv_at hl 0 rfl) ?_
  refine lv_bipush (v := 16) hx hb dLong_bitCount_43 (by decide) ?_
  refine lv_lushr (v := bn_shr a0 16) hx hb dLong_bitCount_45 rfl ?_
  refine lv_ladd hx hb dLong_bitCount_46 ?_
  refine lv_lstore_n (lv' := [(0, .long (a0 + (bn_shr a0 16)))]) hx hb dLong_bitCount_47 rfl hl (by decide) rfl (fun ls hl => ?_)
  rw [(show fLong_bitCount_41 a0 = fLong_bitCount_48 (a0 + (bn_shr a0 16)) by rw [fLong_bitCount_41])]
  exact kLong_bitCount_48 C (a0 + (bn_shr a0 16)) (lv_sub hl [0] rfl)
set_option maxHeartbeats 4000000 in
set_option maxRecDepth 100000 in
theorem kLong_bitCount_34 {p : Program} {l : Launch} {e : Env} {s : State} {m : MethodId} {args : Array Value} {below : List Frame} {meth : Method} {c : Code} (C : pw_C p s m args meth c cLong_bitCount 2 (some .int) "java/lang/Long") (a0 : Int64) {ls : Array Slot} (hl : lv_has ls 2 [(0, .long a0)]) : W p l e rmLong_bitCount s m args below meth c s.heap [] 0 0 (MQ below (k2_QcV (.int (fLong_bitCount_34 a0))) args s 0 0 (fun _ => False)) (F0 m 34 ls []) := by
  obtain ⟨hx, hb, hr, hml, hown, hts, hlocks⟩ := id C
  refine lv_lload_n hx hb dLong_bitCount_34 rfl (lv_at hl 0 rfl) ?_
  refine lv_lload_n hx hb dLong_bitCount_35 rfl (lv_at hl 0 rfl) ?_
  refine lv_bipush (v := 8) hx hb dLong_bitCount_36 (by decide) ?_
  refine lv_lushr (v := bn_shr a0 8) hx hb dLong_bitCount_38 rfl ?_
  refine lv_ladd hx hb dLong_bitCount_39 ?_
  refine lv_lstore_n (lv' := [(0, .long (a0 + (bn_shr a0 8)))]) hx hb dLong_bitCount_40 rfl hl (by decide) rfl (fun ls hl => ?_)
  rw [(show fLong_bitCount_34 a0 = fLong_bitCount_41 (a0 + (bn_shr a0 8)) by rw [fLong_bitCount_34])]
  exact kLong_bitCount_41 C (a0 + (bn_shr a0 8)) (lv_sub hl [0] rfl)
set_option maxHeartbeats 4000000 in
set_option maxRecDepth 100000 in
theorem kLong_bitCount_24 {p : Program} {l : Launch} {e : Env} {s : State} {m : MethodId} {args : Array Value} {below : List Frame} {meth : Method} {c : Code} (C : pw_C p s m args meth c cLong_bitCount 2 (some .int) "java/lang/Long") (a0 : Int64) {ls : Array Slot} (hl : lv_has ls 2 [(0, .long a0)]) : W p l e rmLong_bitCount s m args below meth c s.heap [] 0 0 (MQ below (k2_QcV (.int (fLong_bitCount_24 a0))) args s 0 0 (fun _ => False)) (F0 m 24 ls []) := by
  obtain ⟨hx, hb, hr, hml, hown, hts, hlocks⟩ := id C
  refine lv_lload_n hx hb dLong_bitCount_24 rfl (lv_at hl 0 rfl) ?_
  refine lv_lload_n hx hb dLong_bitCount_25 rfl (lv_at hl 0 rfl) ?_
  refine lv_iconst (v := 4) hx hb dLong_bitCount_26 (by decide) ?_
  refine lv_lushr (v := bn_shr a0 4) hx hb dLong_bitCount_27 rfl ?_
  refine lv_ladd hx hb dLong_bitCount_28 ?_
  refine lv_ldc2 hx hb hown (hts _ w_338) dLong_bitCount_29 ?_
  refine lv_land hx hb dLong_bitCount_32 ?_
  refine lv_lstore_n (lv' := [(0, .long ((a0 + (bn_shr a0 4)) &&& 1085102592571150095))]) hx hb dLong_bitCount_33 rfl hl (by decide) rfl (fun ls hl => ?_)
  rw [(show fLong_bitCount_24 a0 = fLong_bitCount_34 ((a0 + (bn_shr a0 4)) &&& 1085102592571150095) by rw [fLong_bitCount_24])]
  exact kLong_bitCount_34 C ((a0 + (bn_shr a0 4)) &&& 1085102592571150095) (lv_sub hl [0] rfl)
set_option maxHeartbeats 4000000 in
set_option maxRecDepth 100000 in
theorem kLong_bitCount_10 {p : Program} {l : Launch} {e : Env} {s : State} {m : MethodId} {args : Array Value} {below : List Frame} {meth : Method} {c : Code} (C : pw_C p s m args meth c cLong_bitCount 2 (some .int) "java/lang/Long") (a0 : Int64) {ls : Array Slot} (hl : lv_has ls 2 [(0, .long a0)]) : W p l e rmLong_bitCount s m args below meth c s.heap [] 0 0 (MQ below (k2_QcV (.int (fLong_bitCount_10 a0))) args s 0 0 (fun _ => False)) (F0 m 10 ls []) := by
  obtain ⟨hx, hb, hr, hml, hown, hts, hlocks⟩ := id C
  refine lv_lload_n hx hb dLong_bitCount_10 rfl (lv_at hl 0 rfl) ?_
  refine lv_ldc2 hx hb hown (hts _ w_337) dLong_bitCount_11 ?_
  refine lv_land hx hb dLong_bitCount_14 ?_
  refine lv_lload_n hx hb dLong_bitCount_15 rfl (lv_at hl 0 rfl) ?_
  refine lv_iconst (v := 2) hx hb dLong_bitCount_16 (by decide) ?_
  refine lv_lushr (v := bn_shr a0 2) hx hb dLong_bitCount_17 rfl ?_
  refine lv_ldc2 hx hb hown (hts _ w_337) dLong_bitCount_18 ?_
  refine lv_land hx hb dLong_bitCount_21 ?_
  refine lv_ladd hx hb dLong_bitCount_22 ?_
  refine lv_lstore_n (lv' := [(0, .long ((a0 &&& 3689348814741910323) + ((bn_shr a0 2) &&& 3689348814741910323)))]) hx hb dLong_bitCount_23 rfl hl (by decide) rfl (fun ls hl => ?_)
  rw [(show fLong_bitCount_10 a0 = fLong_bitCount_24 ((a0 &&& 3689348814741910323) + ((bn_shr a0 2) &&& 3689348814741910323)) by rw [fLong_bitCount_10])]
  exact kLong_bitCount_24 C ((a0 &&& 3689348814741910323) + ((bn_shr a0 2) &&& 3689348814741910323)) (lv_sub hl [0] rfl)
set_option maxHeartbeats 4000000 in
set_option maxRecDepth 100000 in
theorem kLong_bitCount_0 {p : Program} {l : Launch} {e : Env} {s : State} {m : MethodId} {args : Array Value} {below : List Frame} {meth : Method} {c : Code} (C : pw_C p s m args meth c cLong_bitCount 2 (some .int) "java/lang/Long") (a0 : Int64) {ls : Array Slot} (hl : lv_has ls 2 [(0, .long a0)]) : W p l e rmLong_bitCount s m args below meth c s.heap [] 0 0 (MQ below (k2_QcV (.int (fLong_bitCount a0))) args s 0 0 (fun _ => False)) (F0 m 0 ls []) := by
  obtain ⟨hx, hb, hr, hml, hown, hts, hlocks⟩ := id C
  refine lv_lload_n hx hb dLong_bitCount_0 rfl (lv_at hl 0 rfl) ?_
  refine lv_lload_n hx hb dLong_bitCount_1 rfl (lv_at hl 0 rfl) ?_
  refine lv_iconst (v := 1) hx hb dLong_bitCount_2 (by decide) ?_
  refine lv_lushr (v := bn_shr a0 1) hx hb dLong_bitCount_3 rfl ?_
  refine lv_ldc2 hx hb hown (hts _ w_336) dLong_bitCount_4 ?_
  refine lv_land hx hb dLong_bitCount_7 ?_
  refine lv_lsub hx hb dLong_bitCount_8 ?_
  refine lv_lstore_n (lv' := [(0, .long (a0 - ((bn_shr a0 1) &&& 6148914691236517205)))]) hx hb dLong_bitCount_9 rfl hl (by decide) rfl (fun ls hl => ?_)
  rw [(show fLong_bitCount a0 = fLong_bitCount_10 (a0 - ((bn_shr a0 1) &&& 6148914691236517205)) by rw [fLong_bitCount])]
  exact kLong_bitCount_10 C (a0 - ((bn_shr a0 1) &&& 6148914691236517205)) (lv_sub hl [0] rfl)
set_option maxHeartbeats 4000000 in
set_option maxRecDepth 100000 in
theorem qLong_bitCount (l : Launch) (a0 : Int64) : Met l yLong_bitCount wsLong_bitCount rmLong_bitCount (va_Pc [.long a0] (fun _ => True)) (k2_QcV (.int (fLong_bitCount a0))) 0 0 (fun _ => False) := by
  refine Met.ofW (cc := cLong_bitCount) (maxL := 2) (ret := (some .int)) (by decide) rfl ?_
  intro p e s m args below meth c s₁ B hml hv
  obtain ⟨rfl, hG⟩ := hv
  have hts0 := atoms_spec (ws := wsLong_bitCount) B.pre
  have hts := fun (w : Cond) (h : w ∈ aw) => hts0 w (List.mem_cons_of_mem _ h)
  have hown : s.vm.findClass "java/lang/Long" = some m.cls := findClass_of_methodNamed B.named
  have hl := lv_entry ([.long a0]) (n := 2) (Nat.le_of_ble_eq_true rfl)
  rw [lg_entry_eq]
  generalize (lg_sl ([.long a0]) ++ List.replicate (2 - (lg_sl ([.long a0])).length) Slot.unset).toArray = ls at hl ⊢
  exact kLong_bitCount_0 ⟨B.exec, B.bytes, B.returns, hml, hown, hts, B.notSynchronized⟩ a0 hl

set_option maxHeartbeats 4000000 in
set_option maxRecDepth 100000 in
theorem kWhole_length_19 {p : Program} {l : Launch} {e : Env} {s : State} {m : MethodId} {args : Array Value} {below : List Frame} {meth : Method} {c : Code} (C : pw_C p s m args meth c cWhole_length 5 (some .int) "BitNumbers$Whole") (a2 : Int64) (a4 : Int32) {n : Nat} (K : Int64 → Int32 → Int32) (hI : pw_DB a4 n) (hK : ∀ (b2 : Int64) (b4 : Int32) (hI : pw_D b4 n) {ls : Array Slot} (hl : lv_has ls 5 [(2, .long b2), (4, .int b4)]), W p l e rmWhole_length s m args below meth c s.heap [] 0 0 (MQ below (k2_QcV (.int (K b2 b4))) args s 0 0 (fun _ => False)) (F0 m 5 ls [])) {ls : Array Slot} (hl : lv_has ls 5 [(2, .long a2), (4, .int a4)]) : W p l e rmWhole_length s m args below meth c s.heap [] 0 0 (MQ below (k2_QcV (.int (fWhole_length_19 K a2 a4))) args s 0 0 (fun _ => False)) (F0 m 19 ls []) := by
  obtain ⟨hx, hb, hr, hml, hown, hts, hlocks⟩ := id C
  refine lv_iload hx hb dWhole_length_19 (lv_at hl 1 rfl) ?_
  refine lv_iconst (v := 2) hx hb dWhole_length_21 (by decide) ?_
  refine lv_imul hx hb dWhole_length_22 ?_
  refine lv_istore (lv' := [(4, .int (a4 * 2)), (2, .long a2)]) hx hb dWhole_length_23 hl (by decide) rfl (fun ls hl => ?_)
  refine lv_goto (tgt := 5) hx hb dWhole_length_25 (by decide) ?_
  rw [(show fWhole_length_19 K a2 a4 = K a2 (a4 * 2) by rw [fWhole_length_19])]
  exact hK a2 (a4 * 2) (pw_DB_next hI) (lv_sub hl [1, 0] rfl)
set_option maxHeartbeats 4000000 in
set_option maxRecDepth 100000 in
theorem kWhole_length_5 {p : Program} {l : Launch} {e : Env} {s : State} {m : MethodId} {args : Array Value} {below : List Frame} {meth : Method} {c : Code} (C : pw_C p s m args meth c cWhole_length 5 (some .int) "BitNumbers$Whole") : ∀ (n : Nat) (a2 : Int64) (a4 : Int32) (hI : pw_D a4 n) {ls : Array Slot} (hl : lv_has ls 5 [(2, .long a2), (4, .int a4)]), W p l e rmWhole_length s m args below meth c s.heap [] 0 0 (MQ below (k2_QcV (.int (fWhole_length_5 n a2 a4))) args s 0 0 (fun _ => False)) (F0 m 5 ls []) := by
  obtain ⟨hx, hb, hr, hml, hown, hts, hlocks⟩ := id C
  intro n
  induction n with
  | zero =>
    intro a2 a4 hI
    exact absurd hI pw_D_zero
  | succ n ih =>
    intro a2 a4 hI ls hl
    refine lv_iload hx hb dWhole_length_5 (lv_at hl 1 rfl) ?_
    refine lv_bipush (v := 64) hx hb dWhole_length_7 (by decide) ?_
    refine lv_icmp_ge (tgt := 28) hx hb dWhole_length_9 (by decide) (fun h1 => ?_) (fun h1 => ?_)
    · refine lv_lload_n hx hb dWhole_length_28 rfl (lv_at hl 0 rfl) ?_
      refine pw_call (va_runS (As := [.long a2]) (rest := []) ⟨hx, hb, hml, hown, hts⟩ (qLong_bitCount l a2) (va_cwS 1 hts (gS w_333 w_334 w_46 w_335) rfl rfl rfl (by decide +kernel) ⟨Nat.le_of_ble_eq_true rfl, Nat.le_of_ble_eq_true rfl⟩) ⟨pw_bT, fun U hU hW => ⟨rfl, trivial⟩⟩ rfl rfl hl.1 rfl (lv_room (Nat.le_of_ble_eq_true rfl)) dWhole_length_29 ⟨Nat.zero_le _, Nat.zero_le _⟩) ?_
      exact W.iret hx hb hr (fun t ht _ => ⟨by rw [(show fWhole_length_5 (n + 1) a2 a4 = fLong_bitCount a2 by rw [fWhole_length_5, if_pos h1])], ht⟩) (fun q h => nomatch h) dWhole_length_32
    · refine lv_lload_n hx hb dWhole_length_12 rfl (lv_at hl 0 rfl) ?_
      refine lv_lload_n hx hb dWhole_length_13 rfl (lv_at hl 0 rfl) ?_
      refine lv_iload hx hb dWhole_length_14 (lv_at hl 1 rfl) ?_
      refine lv_lushr (v := bn_shr a2 a4) hx hb dWhole_length_16 rfl ?_
      refine lv_lor hx hb dWhole_length_17 ?_
      refine lv_lstore_n (lv' := [(2, .long (a2 ||| (bn_shr a2 a4))), (4, .int a4)]) hx hb dWhole_length_18 rfl hl (by decide) rfl (fun ls hl => ?_)
      rw [(show fWhole_length_5 (n + 1) a2 a4 = fWhole_length_19 (fWhole_length_5 n) (a2 ||| (bn_shr a2 a4)) a4 by rw [fWhole_length_5, if_neg h1])]
      exact kWhole_length_19 C (a2 ||| (bn_shr a2 a4)) a4 (fWhole_length_5 n) (pw_D_body hI h1) (fun b2 b4 hI _ hl => ih b2 b4 hI hl) (lv_sub hl [0, 1] rfl)
set_option maxHeartbeats 4000000 in
set_option maxRecDepth 100000 in
theorem kWhole_length_0 {p : Program} {l : Launch} {e : Env} {s : State} {m : MethodId} {args : Array Value} {below : List Frame} {meth : Method} {c : Code} (C : pw_C p s m args meth c cWhole_length 5 (some .int) "BitNumbers$Whole") (a0 : Int64) {ls : Array Slot} (hl : lv_has ls 5 [(0, .long a0)]) : W p l e rmWhole_length s m args below meth c s.heap [] 0 0 (MQ below (k2_QcV (.int (fWhole_length a0))) args s 0 0 (fun _ => False)) (F0 m 0 ls []) := by
  obtain ⟨hx, hb, hr, hml, hown, hts, hlocks⟩ := id C
  refine lv_lload_n hx hb dWhole_length_0 rfl (lv_at hl 0 rfl) ?_
  refine lv_lstore_n (lv' := [(2, .long a0), (0, .long a0)]) hx hb dWhole_length_1 rfl hl (by decide) rfl (fun ls hl => ?_)
  refine lv_iconst (v := 1) hx hb dWhole_length_2 (by decide) ?_
  refine lv_istore (lv' := [(4, .int 1), (2, .long a0), (0, .long a0)]) hx hb dWhole_length_3 hl (by decide) rfl (fun ls hl => ?_)
  rw [(show fWhole_length a0 = fWhole_length_5 7 a0 1 by rw [fWhole_length])]
  exact kWhole_length_5 C 7 a0 1 (pw_D_init : pw_D 1 7) (lv_sub hl [1, 0] rfl)
set_option maxHeartbeats 4000000 in
set_option maxRecDepth 100000 in
theorem qWhole_length (l : Launch) (a0 : Int64) : Met l yWhole_length wsWhole_length rmWhole_length (va_Pc [.long a0] (fun _ => True)) (k2_QcV (.int (fWhole_length a0))) 0 0 (fun _ => False) := by
  refine Met.ofW (cc := cWhole_length) (maxL := 5) (ret := (some .int)) (by decide) rfl ?_
  intro p e s m args below meth c s₁ B hml hv
  obtain ⟨rfl, hG⟩ := hv
  have hts0 := atoms_spec (ws := wsWhole_length) B.pre
  have hts := fun (w : Cond) (h : w ∈ aw) => hts0 w (List.mem_cons_of_mem _ h)
  have hown : s.vm.findClass "BitNumbers$Whole" = some m.cls := findClass_of_methodNamed B.named
  have hl := lv_entry ([.long a0]) (n := 5) (Nat.le_of_ble_eq_true rfl)
  rw [lg_entry_eq]
  generalize (lg_sl ([.long a0]) ++ List.replicate (5 - (lg_sl ([.long a0])).length) Slot.unset).toArray = ls at hl ⊢
  exact kWhole_length_0 ⟨B.exec, B.bytes, B.returns, hml, hown, hts, B.notSynchronized⟩ a0 hl

set_option maxHeartbeats 4000000 in
set_option maxRecDepth 100000 in
theorem kConversions_wholePart_0 {p : Program} {l : Launch} {e : Env} {s : State} {m : MethodId} {args : Array Value} {below : List Frame} {meth : Method} {c : Code} (C : pw_C p s m args meth c cConversions_wholePart 3 (some .long) "BitNumbers$Conversions") (a0 : Int64) (a2 : Int32) {ls : Array Slot} (hl : lv_has ls 3 [(0, .long a0), (2, .int a2)]) : W p l e rmConversions_wholePart s m args below meth c s.heap [] 0 0 (MQ below (k2_QcV (.long (fConversions_wholePart a0 a2))) args s 0 0 (fun _ => False)) (F0 m 0 ls []) := by
  obtain ⟨hx, hb, hr, hml, hown, hts, hlocks⟩ := id C
  refine lv_iload_n hx hb dConversions_wholePart_0 rfl (lv_at hl 1 rfl) ?_
  refine lv_if_lt (tgt := 8) hx hb dConversions_wholePart_1 (by decide) (fun h1 => ?_) (fun h1 => ?_)
  · refine lv_iload_n hx hb dConversions_wholePart_8 rfl (lv_at hl 1 rfl) ?_
    refine lv_bipush (v := (-63)) hx hb dConversions_wholePart_9 (by decide) ?_
    refine lv_icmp_ge (tgt := 18) hx hb dConversions_wholePart_11 (by decide) (fun h2 => ?_) (fun h2 => ?_)
    · refine lv_lload_n hx hb dConversions_wholePart_18 rfl (lv_at hl 0 rfl) ?_
      refine lv_iload_n hx hb dConversions_wholePart_19 rfl (lv_at hl 1 rfl) ?_
      refine lv_ineg hx hb dConversions_wholePart_20 ?_
      refine lv_lushr (v := bn_shr a0 (-a2)) hx hb dConversions_wholePart_21 rfl ?_
      exact W.lret hx hb hr (fun t ht _ => ⟨by rw [(show fConversions_wholePart a0 a2 = bn_shr a0 (-a2) by rw [fConversions_wholePart, if_pos h1, if_pos h2])], ht⟩) (fun q h => nomatch h) dConversions_wholePart_22
    · refine lv_lconst (v := 0) hx hb dConversions_wholePart_14 (by decide) ?_
      refine lv_goto (tgt := 22) hx hb dConversions_wholePart_15 (by decide) ?_
      exact W.lret hx hb hr (fun t ht _ => ⟨by rw [(show fConversions_wholePart a0 a2 = 0 by rw [fConversions_wholePart, if_pos h1, if_neg h2])], ht⟩) (fun q h => nomatch h) dConversions_wholePart_22
  · refine lv_lload_n hx hb dConversions_wholePart_4 rfl (lv_at hl 0 rfl) ?_
    refine lv_iload_n hx hb dConversions_wholePart_5 rfl (lv_at hl 1 rfl) ?_
    refine lv_lshl (v := bn_shl a0 a2) hx hb dConversions_wholePart_6 rfl ?_
    exact W.lret hx hb hr (fun t ht _ => ⟨by rw [(show fConversions_wholePart a0 a2 = bn_shl a0 a2 by rw [fConversions_wholePart, if_neg h1])], ht⟩) (fun q h => nomatch h) dConversions_wholePart_7
set_option maxHeartbeats 4000000 in
set_option maxRecDepth 100000 in
theorem qConversions_wholePart (l : Launch) (a0 : Int64) (a2 : Int32) : Met l yConversions_wholePart wsConversions_wholePart rmConversions_wholePart (va_Pc [.long a0, .int a2] (fun _ => True)) (k2_QcV (.long (fConversions_wholePart a0 a2))) 0 0 (fun _ => False) := by
  refine Met.ofW (cc := cConversions_wholePart) (maxL := 3) (ret := (some .long)) (by decide) rfl ?_
  intro p e s m args below meth c s₁ B hml hv
  obtain ⟨rfl, hG⟩ := hv
  have hts0 := atoms_spec (ws := wsConversions_wholePart) B.pre
  have hts := fun (w : Cond) (h : w ∈ aw) => hts0 w (List.mem_cons_of_mem _ h)
  have hown : s.vm.findClass "BitNumbers$Conversions" = some m.cls := findClass_of_methodNamed B.named
  have hl := lv_entry ([.long a0, .int a2]) (n := 3) (Nat.le_of_ble_eq_true rfl)
  rw [lg_entry_eq]
  generalize (lg_sl ([.long a0, .int a2]) ++ List.replicate (3 - (lg_sl ([.long a0, .int a2])).length) Slot.unset).toArray = ls at hl ⊢
  exact kConversions_wholePart_0 ⟨B.exec, B.bytes, B.returns, hml, hown, hts, B.notSynchronized⟩ a0 a2 hl

set_option maxHeartbeats 4000000 in
set_option maxRecDepth 100000 in
theorem kLong_compare_0 {p : Program} {l : Launch} {e : Env} {s : State} {m : MethodId} {args : Array Value} {below : List Frame} {meth : Method} {c : Code} (C : pw_C p s m args meth c cLong_compare 4 (some .int) "java/lang/Long") (a0 : Int64) (a2 : Int64) {ls : Array Slot} (hl : lv_has ls 4 [(0, .long a0), (2, .long a2)]) : W p l e rmLong_compare s m args below meth c s.heap [] 0 0 (MQ below (k2_QcV (.int (fLong_compare a0 a2))) args s 0 0 (fun _ => False)) (F0 m 0 ls []) := by
  obtain ⟨hx, hb, hr, hml, hown, hts, hlocks⟩ := id C
  refine lv_lload_n hx hb dLong_compare_0 rfl (lv_at hl 0 rfl) ?_
  refine lv_lload_n hx hb dLong_compare_1 rfl (lv_at hl 1 rfl) ?_
  refine W.lcmp hx hb dLong_compare_2 ?_
  refine lv_if_ge (tgt := 10) hx hb dLong_compare_3 (by decide) (fun h1 => ?_) (fun h1 => ?_)
  · have h1 : a2 ≤ a0 := (lg_cmp_ge _ _).mp h1
    refine lv_lload_n hx hb dLong_compare_10 rfl (lv_at hl 0 rfl) ?_
    refine lv_lload_n hx hb dLong_compare_11 rfl (lv_at hl 1 rfl) ?_
    refine W.lcmp hx hb dLong_compare_12 ?_
    refine lv_if_ne (tgt := 20) hx hb dLong_compare_13 (by decide) (fun h2 => ?_) (fun h2 => ?_)
    · have h2 : ¬ (a0 = a2) := fun w => h2 ((lg_cmp_eq _ _).mpr w)
      refine lv_iconst (v := 1) hx hb dLong_compare_20 (by decide) ?_
      exact W.iret hx hb hr (fun t ht _ => ⟨by rw [(show fLong_compare a0 a2 = 1 by rw [fLong_compare, if_pos h1, if_neg h2])], ht⟩) (fun q h => nomatch h) dLong_compare_21
    · have h2 : a0 = a2 := (lg_cmp_eq _ _).mp h2
      refine lv_iconst (v := 0) hx hb dLong_compare_16 (by decide) ?_
      refine lv_goto (tgt := 21) hx hb dLong_compare_17 (by decide) ?_
      exact W.iret hx hb hr (fun t ht _ => ⟨by rw [(show fLong_compare a0 a2 = 0 by rw [fLong_compare, if_pos h1, if_pos h2])], ht⟩) (fun q h => nomatch h) dLong_compare_21
  · have h1 : ¬ (a2 ≤ a0) := fun w => h1 ((lg_cmp_ge _ _).mpr w)
    refine lv_iconst (v := (-1)) hx hb dLong_compare_6 (by decide) ?_
    refine lv_goto (tgt := 21) hx hb dLong_compare_7 (by decide) ?_
    exact W.iret hx hb hr (fun t ht _ => ⟨by rw [(show fLong_compare a0 a2 = (-1) by rw [fLong_compare, if_neg h1])], ht⟩) (fun q h => nomatch h) dLong_compare_21
set_option maxHeartbeats 4000000 in
set_option maxRecDepth 100000 in
theorem qLong_compare (l : Launch) (a0 : Int64) (a2 : Int64) : Met l yLong_compare wsLong_compare rmLong_compare (va_Pc [.long a0, .long a2] (fun _ => True)) (k2_QcV (.int (fLong_compare a0 a2))) 0 0 (fun _ => False) := by
  refine Met.ofW (cc := cLong_compare) (maxL := 4) (ret := (some .int)) (by decide) rfl ?_
  intro p e s m args below meth c s₁ B hml hv
  obtain ⟨rfl, hG⟩ := hv
  have hts0 := atoms_spec (ws := wsLong_compare) B.pre
  have hts := fun (w : Cond) (h : w ∈ aw) => hts0 w (List.mem_cons_of_mem _ h)
  have hown : s.vm.findClass "java/lang/Long" = some m.cls := findClass_of_methodNamed B.named
  have hl := lv_entry ([.long a0, .long a2]) (n := 4) (Nat.le_of_ble_eq_true rfl)
  rw [lg_entry_eq]
  generalize (lg_sl ([.long a0, .long a2]) ++ List.replicate (4 - (lg_sl ([.long a0, .long a2])).length) Slot.unset).toArray = ls at hl ⊢
  exact kLong_compare_0 ⟨B.exec, B.bytes, B.returns, hml, hown, hts, B.notSynchronized⟩ a0 a2 hl

set_option maxHeartbeats 4000000 in
set_option maxRecDepth 100000 in
theorem kWhole_orderWithoutSign_0 {p : Program} {l : Launch} {e : Env} {s : State} {m : MethodId} {args : Array Value} {below : List Frame} {meth : Method} {c : Code} (C : pw_C p s m args meth c cWhole_orderWithoutSign 4 (some .int) "BitNumbers$Whole") (a0 : Int64) (a2 : Int64) {ls : Array Slot} (hl : lv_has ls 4 [(0, .long a0), (2, .long a2)]) : W p l e rmWhole_orderWithoutSign s m args below meth c s.heap [] 0 0 (MQ below (k2_QcV (.int (fWhole_orderWithoutSign a0 a2))) args s 0 0 (fun _ => False)) (F0 m 0 ls []) := by
  obtain ⟨hx, hb, hr, hml, hown, hts, hlocks⟩ := id C
  refine lv_lload_n hx hb dWhole_orderWithoutSign_0 rfl (lv_at hl 0 rfl) ?_
  refine lv_ldc2 hx hb hown (hts _ w_345) dWhole_orderWithoutSign_1 ?_
  refine lv_lxor hx hb dWhole_orderWithoutSign_4 ?_
  refine lv_lload_n hx hb dWhole_orderWithoutSign_5 rfl (lv_at hl 1 rfl) ?_
  refine lv_ldc2 hx hb hown (hts _ w_345) dWhole_orderWithoutSign_6 ?_
  refine lv_lxor hx hb dWhole_orderWithoutSign_9 ?_
  refine pw_call (va_runS (As := [.long (a0 ^^^ (-9223372036854775808)), .long (a2 ^^^ (-9223372036854775808))]) (rest := []) ⟨hx, hb, hml, hown, hts⟩ (qLong_compare l (a0 ^^^ (-9223372036854775808)) (a2 ^^^ (-9223372036854775808))) (va_cwS 2 hts (gS w_346 w_347 w_46 w_348) rfl rfl rfl (by decide +kernel) ⟨Nat.le_of_ble_eq_true rfl, Nat.le_of_ble_eq_true rfl⟩) ⟨pw_bT, fun U hU hW => ⟨rfl, trivial⟩⟩ rfl rfl hl.1 rfl (lv_room (Nat.le_of_ble_eq_true rfl)) dWhole_orderWithoutSign_10 ⟨Nat.zero_le _, Nat.zero_le _⟩) ?_
  exact W.iret hx hb hr (fun t ht _ => ⟨by rw [(show fWhole_orderWithoutSign a0 a2 = fLong_compare (a0 ^^^ (-9223372036854775808)) (a2 ^^^ (-9223372036854775808)) by rw [fWhole_orderWithoutSign])], ht⟩) (fun q h => nomatch h) dWhole_orderWithoutSign_13
set_option maxHeartbeats 4000000 in
set_option maxRecDepth 100000 in
theorem qWhole_orderWithoutSign (l : Launch) (a0 : Int64) (a2 : Int64) : Met l yWhole_orderWithoutSign wsWhole_orderWithoutSign rmWhole_orderWithoutSign (va_Pc [.long a0, .long a2] (fun _ => True)) (k2_QcV (.int (fWhole_orderWithoutSign a0 a2))) 0 0 (fun _ => False) := by
  refine Met.ofW (cc := cWhole_orderWithoutSign) (maxL := 4) (ret := (some .int)) (by decide) rfl ?_
  intro p e s m args below meth c s₁ B hml hv
  obtain ⟨rfl, hG⟩ := hv
  have hts0 := atoms_spec (ws := wsWhole_orderWithoutSign) B.pre
  have hts := fun (w : Cond) (h : w ∈ aw) => hts0 w (List.mem_cons_of_mem _ h)
  have hown : s.vm.findClass "BitNumbers$Whole" = some m.cls := findClass_of_methodNamed B.named
  have hl := lv_entry ([.long a0, .long a2]) (n := 4) (Nat.le_of_ble_eq_true rfl)
  rw [lg_entry_eq]
  generalize (lg_sl ([.long a0, .long a2]) ++ List.replicate (4 - (lg_sl ([.long a0, .long a2])).length) Slot.unset).toArray = ls at hl ⊢
  exact kWhole_orderWithoutSign_0 ⟨B.exec, B.bytes, B.returns, hml, hown, hts, B.notSynchronized⟩ a0 a2 hl

set_option maxHeartbeats 4000000 in
set_option maxRecDepth 100000 in
theorem kConversions_fits_14 {p : Program} {l : Launch} {e : Env} {s : State} {m : MethodId} {args : Array Value} {below : List Frame} {meth : Method} {c : Code} {ad td : Nat → Nat} (C : pw_C p s m args meth c cConversions_fits 8 (some .boolean) "BitNumbers$Conversions") (hG : pw_G (fun _ => False) ad td s s.heap) (a3 : Int64) (a5 : Int64) (a7 : Int32) {ls : Array Slot} (hl : lv_has ls 8 [(3, .long a3), (5, .long a5), (7, .int a7)]) : W p l e rmConversions_fits s m args below meth c s.heap [] 0 0 (MQ below (k2_QcV (.int (fConversions_fits_14 a3 a5 a7))) args s 0 0 (fun _ => False)) (F0 m 14 ls []) := by
  obtain ⟨hx, hb, hr, hml, hown, hts, hlocks⟩ := id C
  have hS : va_S (fun _ => False) s.heap s.heap [] := va_S.rf
  refine lv_iload hx hb dConversions_fits_14 (lv_at hl 2 rfl) ?_
  refine lv_bipush (v := 64) hx hb dConversions_fits_16 (by decide) ?_
  refine lv_lload hx hb dConversions_fits_18 (lv_at hl 1 rfl) ?_
  refine pw_call (va_runS (As := [.long a5]) (rest := [.int 64, .int a7]) ⟨hx, hb, hml, hown, hts⟩ (qWhole_length l a5) (va_cwS 1 hts (gS w_330 w_331 w_35 w_332) rfl rfl rfl (by decide +kernel) ⟨Nat.le_of_ble_eq_true rfl, Nat.le_of_ble_eq_true rfl⟩) ⟨pw_bT, fun U hU hW => ⟨rfl, trivial⟩⟩ rfl rfl hl.1 rfl (lv_room (Nat.le_of_ble_eq_true rfl)) dConversions_fits_20 ⟨Nat.zero_le _, Nat.zero_le _⟩) ?_
  refine lv_isub hx hb dConversions_fits_23 ?_
  refine lv_icmp_le (tgt := 29) hx hb dConversions_fits_24 (by decide) (fun h1 => ?_) (fun h1 => ?_)
  · refine lv_lload hx hb dConversions_fits_29 (lv_at hl 1 rfl) ?_
    refine lv_iload hx hb dConversions_fits_31 (lv_at hl 2 rfl) ?_
    refine pw_call (va_runS (As := [.long a5, .int a7]) (rest := []) ⟨hx, hb, hml, hown, hts⟩ (qConversions_wholePart l a5 a7) (va_cwS 2 hts (gS w_339 w_340 w_42 w_341) rfl rfl rfl (by decide +kernel) ⟨Nat.le_of_ble_eq_true rfl, Nat.le_of_ble_eq_true rfl⟩) ⟨pw_bT, fun U hU hW => ⟨rfl, trivial⟩⟩ rfl rfl hl.1 rfl (lv_room (Nat.le_of_ble_eq_true rfl)) dConversions_fits_33 ⟨Nat.zero_le _, Nat.zero_le _⟩) ?_
    refine lv_lload_n hx hb dConversions_fits_36 rfl (lv_at hl 0 rfl) ?_
    refine pw_call (va_runS (As := [.long (fConversions_wholePart a5 a7), .long a3]) (rest := []) ⟨hx, hb, hml, hown, hts⟩ (qWhole_orderWithoutSign l (fConversions_wholePart a5 a7) a3) (va_cwS 2 hts (gS w_342 w_343 w_35 w_344) rfl rfl rfl (by decide +kernel) ⟨Nat.le_of_ble_eq_true rfl, Nat.le_of_ble_eq_true rfl⟩) ⟨pw_bT, fun U hU hW => ⟨rfl, trivial⟩⟩ rfl rfl hl.1 rfl (lv_room (Nat.le_of_ble_eq_true rfl)) dConversions_fits_37 ⟨Nat.zero_le _, Nat.zero_le _⟩) ?_
    refine lv_if_gt (tgt := 47) hx hb dConversions_fits_40 (by decide) (fun h2 => ?_) (fun h2 => ?_)
    · refine lv_iconst (v := 0) hx hb dConversions_fits_47 (by decide) ?_
      exact W.zret hx hb hr (pw_nz (Or.inl rfl)) (fun t ht _ => ⟨by rw [(show fConversions_fits_14 a3 a5 a7 = 0 by rw [fConversions_fits_14, if_pos h1, if_pos h2])], ht⟩) (fun q h => nomatch h) dConversions_fits_48
    · refine lv_iconst (v := 1) hx hb dConversions_fits_43 (by decide) ?_
      refine lv_goto (tgt := 48) hx hb dConversions_fits_44 (by decide) ?_
      exact W.zret hx hb hr (pw_nz (Or.inr rfl)) (fun t ht _ => ⟨by rw [(show fConversions_fits_14 a3 a5 a7 = 1 by rw [fConversions_fits_14, if_pos h1, if_neg h2])], ht⟩) (fun q h => nomatch h) dConversions_fits_48
  · refine lv_iconst (v := 0) hx hb dConversions_fits_27 (by decide) ?_
    exact W.zret hx hb hr (pw_nz (Or.inl rfl)) (fun t ht _ => ⟨by rw [(show fConversions_fits_14 a3 a5 a7 = 0 by rw [fConversions_fits_14, if_neg h1])], ht⟩) (fun q h => nomatch h) dConversions_fits_28
set_option maxHeartbeats 4000000 in
set_option maxRecDepth 100000 in
theorem kConversions_fits_7 {p : Program} {l : Launch} {e : Env} {s : State} {m : MethodId} {args : Array Value} {below : List Frame} {meth : Method} {c : Code} {ad td : Nat → Nat} (C : pw_C p s m args meth c cConversions_fits 8 (some .boolean) "BitNumbers$Conversions") (hG : pw_G (fun _ => False) ad td s s.heap) (a0 : Nat) (a1 : Int64) (a3 : Int64) (a5 : Int64) (hk0 : a0 < 2) {ls : Array Slot} (hl : lv_has ls 8 [(0, .ref (ad a0)), (1, .long a1), (3, .long a3), (5, .long a5)]) : W p l e rmConversions_fits s m args below meth c s.heap [] 0 0 (MQ below (k2_QcV (.int (fConversions_fits_7 a0 a1 a3 a5))) args s 0 0 (fun _ => False)) (F0 m 7 ls []) := by
  obtain ⟨hx, hb, hr, hml, hown, hts, hlocks⟩ := id C
  have hS : va_S (fun _ => False) s.heap s.heap [] := va_S.rf
  refine lv_aload_n hx hb dConversions_fits_7 rfl (lv_at hl 0 rfl) ?_
  refine lv_lload_n hx hb dConversions_fits_8 rfl (lv_at hl 1 rfl) ?_
  refine pw_call (va_runV (As := [.long a1]) (rest := []) ⟨hx, hb, hml, hown, hts⟩ (qFormat_scale l ad td a0 a1 hk0) (cwV 1 hts (gV w_323 w_324 w_325 w_44 w_326) rfl rfl rfl (by decide +kernel) ⟨Nat.le_of_ble_eq_true rfl, Nat.le_of_ble_eq_true rfl⟩) ⟨pw_bG, va_recvE hG.1 hk0 hS, fun U hU hW => ⟨rfl, (hG.at hU hW)⟩⟩ rfl rfl hl.1 rfl (lv_room (Nat.le_of_ble_eq_true rfl)) dConversions_fits_9 ⟨Nat.zero_le _, Nat.zero_le _⟩) ?_
  refine lv_istore (lv' := [(7, .int (fFormat_scale a0 a1)), (0, .ref (ad a0)), (1, .long a1), (3, .long a3), (5, .long a5)]) hx hb dConversions_fits_12 hl (by decide) rfl (fun ls hl => ?_)
  rw [(show fConversions_fits_7 a0 a1 a3 a5 = fConversions_fits_14 a3 a5 (fFormat_scale a0 a1) by rw [fConversions_fits_7])]
  exact kConversions_fits_14 C hG a3 a5 (fFormat_scale a0 a1) (lv_sub hl [3, 4, 0] rfl)
set_option maxHeartbeats 4000000 in
set_option maxRecDepth 100000 in
theorem kConversions_fits_0 {p : Program} {l : Launch} {e : Env} {s : State} {m : MethodId} {args : Array Value} {below : List Frame} {meth : Method} {c : Code} {ad td : Nat → Nat} (C : pw_C p s m args meth c cConversions_fits 8 (some .boolean) "BitNumbers$Conversions") (hG : pw_G (fun _ => False) ad td s s.heap) (a0 : Nat) (a1 : Int64) (a3 : Int64) (hk0 : a0 < 2) {ls : Array Slot} (hl : lv_has ls 8 [(0, .ref (ad a0)), (1, .long a1), (3, .long a3)]) : W p l e rmConversions_fits s m args below meth c s.heap [] 0 0 (MQ below (k2_QcV (.int (fConversions_fits a0 a1 a3))) args s 0 0 (fun _ => False)) (F0 m 0 ls []) := by
  obtain ⟨hx, hb, hr, hml, hown, hts, hlocks⟩ := id C
  have hS : va_S (fun _ => False) s.heap s.heap [] := va_S.rf
  refine lv_aload_n hx hb dConversions_fits_0 rfl (lv_at hl 0 rfl) ?_
  refine lv_lload_n hx hb dConversions_fits_1 rfl (lv_at hl 1 rfl) ?_
  refine pw_call (va_runV (As := [.long a1]) (rest := []) ⟨hx, hb, hml, hown, hts⟩ (qFormat_significand l ad td a0 a1 hk0) (cwV 1 hts (gV w_319 w_320 w_321 w_44 w_322) rfl rfl rfl (by decide +kernel) ⟨Nat.le_of_ble_eq_true rfl, Nat.le_of_ble_eq_true rfl⟩) ⟨pw_bG, va_recvE hG.1 hk0 hS, fun U hU hW => ⟨rfl, (hG.at hU hW)⟩⟩ rfl rfl hl.1 rfl (lv_room (Nat.le_of_ble_eq_true rfl)) dConversions_fits_2 ⟨Nat.zero_le _, Nat.zero_le _⟩) ?_
  refine lv_lstore (lv' := [(5, .long (fFormat_significand a0 a1)), (0, .ref (ad a0)), (1, .long a1), (3, .long a3)]) hx hb dConversions_fits_5 hl (by decide) rfl (fun ls hl => ?_)
  rw [(show fConversions_fits a0 a1 a3 = fConversions_fits_7 a0 a1 a3 (fFormat_significand a0 a1) by rw [fConversions_fits])]
  exact kConversions_fits_7 C hG a0 a1 a3 (fFormat_significand a0 a1) hk0 (lv_sub hl [1, 2, 3, 0] rfl)
set_option maxHeartbeats 4000000 in
set_option maxRecDepth 100000 in
theorem qConversions_fits (l : Launch) (ad td : Nat → Nat) (a0 : Nat) (a1 : Int64) (a3 : Int64) (hk0 : a0 < 2) : Met l yConversions_fits wsConversions_fits rmConversions_fits (va_Pc [.ref (ad a0), .long a1, .long a3] (fun U => pw_G (fun _ => False) ad td U U.heap)) (k2_QcV (.int (fConversions_fits a0 a1 a3))) 0 0 (fun _ => False) := by
  refine Met.ofW (cc := cConversions_fits) (maxL := 8) (ret := (some .boolean)) (by decide) rfl ?_
  intro p e s m args below meth c s₁ B hml hv
  obtain ⟨rfl, hG⟩ := hv
  have hts0 := atoms_spec (ws := wsConversions_fits) B.pre
  have hts := fun (w : Cond) (h : w ∈ aw) => hts0 w (List.mem_cons_of_mem _ h)
  have hown : s.vm.findClass "BitNumbers$Conversions" = some m.cls := findClass_of_methodNamed B.named
  have hl := lv_entry ([.ref (ad a0), .long a1, .long a3]) (n := 8) (Nat.le_of_ble_eq_true rfl)
  rw [lg_entry_eq]
  generalize (lg_sl ([.ref (ad a0), .long a1, .long a3]) ++ List.replicate (8 - (lg_sl ([.ref (ad a0), .long a1, .long a3])).length) Slot.unset).toArray = ls at hl ⊢
  exact kConversions_fits_0 ⟨B.exec, B.bytes, B.returns, hml, hown, hts, B.notSynchronized⟩ hG a0 a1 a3 hk0 hl

set_option maxHeartbeats 4000000 in
set_option maxRecDepth 100000 in
theorem kConversions_trapOf_0 {p : Program} {l : Launch} {e : Env} {s : State} {m : MethodId} {args : Array Value} {below : List Frame} {meth : Method} {c : Code} {ad td : Nat → Nat} (C : pw_C p s m args meth c cConversions_trapOf 5 (some .int) "BitNumbers$Conversions") (hG : pw_G (fun _ => False) ad td s s.heap) (a0 : Int32) (a1 : Nat) (a2 : Int32) (a3 : Int64) (hk1 : a1 < 2) {ls : Array Slot} (hl : lv_has ls 5 [(0, .int a0), (1, .ref (ad a1)), (2, .int a2), (3, .long a3)]) : W p l e rmConversions_trapOf s m args below meth c s.heap [] 0 0 (MQ below (k2_QcV (.int (fConversions_trapOf a0 a1 a2 a3))) args s 0 0 (fun _ => False)) (F0 m 0 ls []) := by
  obtain ⟨hx, hb, hr, hml, hown, hts, hlocks⟩ := id C
  have hS : va_S (fun _ => False) s.heap s.heap [] := va_S.rf
  refine lv_aload_n hx hb dConversions_trapOf_0 rfl (lv_at hl 1 rfl) ?_
  refine lv_lload_n hx hb dConversions_trapOf_1 rfl (lv_at hl 3 rfl) ?_
  refine pw_call (va_runV (As := [.long a3]) (rest := []) ⟨hx, hb, hml, hown, hts⟩ (qFormat_isNone l ad td a1 a3 hk1) (cwV 1 hts (gV w_307 w_154 w_155 w_44 w_156) rfl rfl rfl (by decide +kernel) ⟨Nat.le_of_ble_eq_true rfl, Nat.le_of_ble_eq_true rfl⟩) ⟨pw_bG, va_recvE hG.1 hk1 hS, fun U hU hW => ⟨rfl, (hG.at hU hW)⟩⟩ rfl rfl hl.1 rfl (lv_room (Nat.le_of_ble_eq_true rfl)) dConversions_trapOf_2 ⟨Nat.zero_le _, Nat.zero_le _⟩) ?_
  refine lv_if_eq (tgt := 10) hx hb dConversions_trapOf_5 (by decide) (fun h1 => ?_) (fun h1 => ?_)
  · refine lv_aload_n hx hb dConversions_trapOf_10 rfl (lv_at hl 1 rfl) ?_
    refine lv_lload_n hx hb dConversions_trapOf_11 rfl (lv_at hl 3 rfl) ?_
    refine lv_aload_n hx hb dConversions_trapOf_12 rfl (lv_at hl 1 rfl) ?_
    refine lv_lload_n hx hb dConversions_trapOf_13 rfl (lv_at hl 3 rfl) ?_
    refine lv_iload_n hx hb dConversions_trapOf_14 rfl (lv_at hl 2 rfl) ?_
    refine lv_iload_n hx hb dConversions_trapOf_15 rfl (lv_at hl 0 rfl) ?_
    refine pw_call (va_runS (As := [.int a0]) (rest := [.int a2, .long a3, .ref (ad a1), .long a3, .ref (ad a1)]) ⟨hx, hb, hml, hown, hts⟩ (qConversions_isSigned l a0) (va_cwS 1 hts (gS w_308 w_309 w_42 w_310) rfl rfl rfl (by decide +kernel) ⟨Nat.le_of_ble_eq_true rfl, Nat.le_of_ble_eq_true rfl⟩) ⟨pw_bT, fun U hU hW => ⟨rfl, trivial⟩⟩ rfl rfl hl.1 rfl (lv_room (Nat.le_of_ble_eq_true rfl)) dConversions_trapOf_16 ⟨Nat.zero_le _, Nat.zero_le _⟩) ?_
    refine pw_call (va_runS (As := [.ref (ad a1), .long a3, .int a2, .int (fConversions_isSigned a0)]) (rest := [.long a3, .ref (ad a1)]) ⟨hx, hb, hml, hown, hts⟩ (qConversions_limit l ad td a1 a3 a2 (fConversions_isSigned a0) hk1) (va_cwS 4 hts (gS w_311 w_312 w_42 w_313) rfl rfl rfl (by decide +kernel) ⟨Nat.le_of_ble_eq_true rfl, Nat.le_of_ble_eq_true rfl⟩) ⟨pw_bG, fun U hU hW => ⟨rfl, (hG.at hU hW)⟩⟩ rfl rfl hl.1 rfl (lv_room (Nat.le_of_ble_eq_true rfl)) dConversions_trapOf_19 ⟨Nat.zero_le _, Nat.zero_le _⟩) ?_
    refine pw_call (va_runS (As := [.ref (ad a1), .long a3, .long (fConversions_limit a1 a3 a2 (fConversions_isSigned a0))]) (rest := []) ⟨hx, hb, hml, hown, hts⟩ (qConversions_fits l ad td a1 a3 (fConversions_limit a1 a3 a2 (fConversions_isSigned a0)) hk1) (va_cwS 3 hts (gS w_316 w_317 w_42 w_318) rfl rfl rfl (by decide +kernel) ⟨Nat.le_of_ble_eq_true rfl, Nat.le_of_ble_eq_true rfl⟩) ⟨pw_bG, fun U hU hW => ⟨rfl, (hG.at hU hW)⟩⟩ rfl rfl hl.1 rfl (lv_room (Nat.le_of_ble_eq_true rfl)) dConversions_trapOf_22 ⟨Nat.zero_le _, Nat.zero_le _⟩) ?_
    refine lv_if_eq (tgt := 32) hx hb dConversions_trapOf_25 (by decide) (fun h2 => ?_) (fun h2 => ?_)
    · refine lv_iconst (v := 2) hx hb dConversions_trapOf_32 (by decide) ?_
      exact W.iret hx hb hr (fun t ht _ => ⟨by rw [(show fConversions_trapOf a0 a1 a2 a3 = 2 by rw [fConversions_trapOf, if_pos h1, if_pos h2])], ht⟩) (fun q h => nomatch h) dConversions_trapOf_33
    · refine lv_iconst (v := 0) hx hb dConversions_trapOf_28 (by decide) ?_
      refine lv_goto (tgt := 33) hx hb dConversions_trapOf_29 (by decide) ?_
      exact W.iret hx hb hr (fun t ht _ => ⟨by rw [(show fConversions_trapOf a0 a1 a2 a3 = 0 by rw [fConversions_trapOf, if_pos h1, if_neg h2])], ht⟩) (fun q h => nomatch h) dConversions_trapOf_33
  · refine lv_iconst (v := 3) hx hb dConversions_trapOf_8 (by decide) ?_
    exact W.iret hx hb hr (fun t ht _ => ⟨by rw [(show fConversions_trapOf a0 a1 a2 a3 = 3 by rw [fConversions_trapOf, if_neg h1])], ht⟩) (fun q h => nomatch h) dConversions_trapOf_9
set_option maxHeartbeats 4000000 in
set_option maxRecDepth 100000 in
theorem qConversions_trapOf (l : Launch) (ad td : Nat → Nat) (a0 : Int32) (a1 : Nat) (a2 : Int32) (a3 : Int64) (hk1 : a1 < 2) : Met l yConversions_trapOf wsConversions_trapOf rmConversions_trapOf (va_Pc [.int a0, .ref (ad a1), .int a2, .long a3] (fun U => pw_G (fun _ => False) ad td U U.heap)) (k2_QcV (.int (fConversions_trapOf a0 a1 a2 a3))) 0 0 (fun _ => False) := by
  refine Met.ofW (cc := cConversions_trapOf) (maxL := 5) (ret := (some .int)) (by decide) rfl ?_
  intro p e s m args below meth c s₁ B hml hv
  obtain ⟨rfl, hG⟩ := hv
  have hts0 := atoms_spec (ws := wsConversions_trapOf) B.pre
  have hts := fun (w : Cond) (h : w ∈ aw) => hts0 w (List.mem_cons_of_mem _ h)
  have hown : s.vm.findClass "BitNumbers$Conversions" = some m.cls := findClass_of_methodNamed B.named
  have hl := lv_entry ([.int a0, .ref (ad a1), .int a2, .long a3]) (n := 5) (Nat.le_of_ble_eq_true rfl)
  rw [lg_entry_eq]
  generalize (lg_sl ([.int a0, .ref (ad a1), .int a2, .long a3]) ++ List.replicate (5 - (lg_sl ([.int a0, .ref (ad a1), .int a2, .long a3])).length) Slot.unset).toArray = ls at hl ⊢
  exact kConversions_trapOf_0 ⟨B.exec, B.bytes, B.returns, hml, hown, hts, B.notSynchronized⟩ hG a0 a1 a2 a3 hk1 hl

set_option maxHeartbeats 4000000 in
set_option maxRecDepth 100000 in
theorem kFormat_of_0 {p : Program} {l : Launch} {e : Env} {s : State} {m : MethodId} {args : Array Value} {below : List Frame} {meth : Method} {c : Code} {ad td : Nat → Nat} (C : pw_C p s m args meth c cFormat_of 1 (some (.object "BitNumbers$Format")) "BitNumbers$Format") (hG : pw_G (fun _ => False) ad td s s.heap) (a0 : Int32) {ls : Array Slot} (hl : lv_has ls 1 [(0, .int a0)]) : W p l e rmFormat_of s m args below meth c s.heap [] 0 0 (MQ below (k2_QcV (.ref (ad (fFormat_of a0)))) args s 0 0 (fun _ => False)) (F0 m 0 ls []) := by
  obtain ⟨hx, hb, hr, hml, hown, hts, hlocks⟩ := id C
  have hS : va_S (fun _ => False) s.heap s.heap [] := va_S.rf
  refine lv_iload_n hx hb dFormat_of_0 rfl (lv_at hl 0 rfl) ?_
  refine lv_iconst (v := 2) hx hb dFormat_of_1 (by decide) ?_
  refine lv_icmp_ne (tgt := 11) hx hb dFormat_of_2 (by decide) (fun h1 => ?_) (fun h1 => ?_)
  · refine va_gets hx hb (hG.1.1 1 (by decide)).1 hS hown (hts _ w_139) (fun _ h9 => h9) dFormat_of_11 ?_
    exact W.aret (v := .ref (ad 1)) hx hb hr (Or.inl ⟨_, rfl⟩) (Or.inr ⟨_, rfl⟩) (fun t ht _ => ⟨by rw [(show fFormat_of a0 = 1 by rw [fFormat_of, if_neg h1])], ht⟩) (fun q h => nomatch h) dFormat_of_14
  · refine va_gets hx hb (hG.1.1 0 (by decide)).1 hS hown (hts _ w_137) (fun _ h9 => h9) dFormat_of_5 ?_
    refine lv_goto (tgt := 14) hx hb dFormat_of_8 (by decide) ?_
    exact W.aret (v := .ref (ad 0)) hx hb hr (Or.inl ⟨_, rfl⟩) (Or.inr ⟨_, rfl⟩) (fun t ht _ => ⟨by rw [(show fFormat_of a0 = 0 by rw [fFormat_of, if_pos h1])], ht⟩) (fun q h => nomatch h) dFormat_of_14
set_option maxHeartbeats 4000000 in
set_option maxRecDepth 100000 in
theorem qFormat_of (l : Launch) (ad td : Nat → Nat) (a0 : Int32) : Met l yFormat_of wsFormat_of rmFormat_of (va_Pc [.int a0] (fun U => pw_G (fun _ => False) ad td U U.heap)) (k2_QcV (.ref (ad (fFormat_of a0)))) 0 0 (fun _ => False) := by
  refine Met.ofW (cc := cFormat_of) (maxL := 1) (ret := (some (.object "BitNumbers$Format"))) (by decide) rfl ?_
  intro p e s m args below meth c s₁ B hml hv
  obtain ⟨rfl, hG⟩ := hv
  have hts0 := atoms_spec (ws := wsFormat_of) B.pre
  have hts := fun (w : Cond) (h : w ∈ aw) => hts0 w (List.mem_cons_of_mem _ h)
  have hown : s.vm.findClass "BitNumbers$Format" = some m.cls := findClass_of_methodNamed B.named
  have hl := lv_entry ([.int a0]) (n := 1) (Nat.le_of_ble_eq_true rfl)
  rw [lg_entry_eq]
  generalize (lg_sl ([.int a0]) ++ List.replicate (1 - (lg_sl ([.int a0])).length) Slot.unset).toArray = ls at hl ⊢
  exact kFormat_of_0 ⟨B.exec, B.bytes, B.returns, hml, hown, hts, B.notSynchronized⟩ hG a0 hl

set_option maxHeartbeats 4000000 in
set_option maxRecDepth 100000 in
theorem kConversions_towardsZero_50 {p : Program} {l : Launch} {e : Env} {s : State} {m : MethodId} {args : Array Value} {below : List Frame} {meth : Method} {c : Code} {ad td : Nat → Nat} (C : pw_C p s m args meth c cConversions_towardsZero 9 (some .long) "BitNumbers$Conversions") (hG : pw_G (fun _ => False) ad td s s.heap) (a1 : Nat) (a3 : Int64) (s0 : Int64) (hk1 : a1 < 2) {ls : Array Slot} (hl : lv_has ls 9 [(1, .ref (ad a1)), (3, .long a3)]) : W p l e rmConversions_towardsZero s m args below meth c s.heap [] 0 0 (MQ below (k2_QcV (.long (fConversions_towardsZero_50 a1 a3 s0))) args s 0 0 (fun _ => False)) (F0 m 50 ls [.long s0]) := by
  obtain ⟨hx, hb, hr, hml, hown, hts, hlocks⟩ := id C
  have hS : va_S (fun _ => False) s.heap s.heap [] := va_S.rf
  refine lv_lstore (lv' := [(7, .long s0), (1, .ref (ad a1)), (3, .long a3)]) hx hb dConversions_towardsZero_50 hl (by decide) rfl (fun ls hl => ?_)
  refine lv_aload_n hx hb dConversions_towardsZero_52 rfl (lv_at hl 1 rfl) ?_
  refine lv_lload_n hx hb dConversions_towardsZero_53 rfl (lv_at hl 2 rfl) ?_
  refine pw_call (va_runV (As := [.long a3]) (rest := []) ⟨hx, hb, hml, hown, hts⟩ (qFormat_isNegative l ad td a1 a3 hk1) (cwV 1 hts (gV w_314 w_142 w_143 w_44 w_144) rfl rfl rfl (by decide +kernel) ⟨Nat.le_of_ble_eq_true rfl, Nat.le_of_ble_eq_true rfl⟩) ⟨pw_bG, va_recvE hG.1 hk1 hS, fun U hU hW => ⟨rfl, (hG.at hU hW)⟩⟩ rfl rfl hl.1 rfl (lv_room (Nat.le_of_ble_eq_true rfl)) dConversions_towardsZero_54 ⟨Nat.zero_le _, Nat.zero_le _⟩) ?_
  refine lv_if_eq (tgt := 66) hx hb dConversions_towardsZero_57 (by decide) (fun h1 => ?_) (fun h1 => ?_)
  · refine lv_lload hx hb dConversions_towardsZero_66 (lv_at hl 0 rfl) ?_
    exact W.lret hx hb hr (fun t ht _ => ⟨by rw [(show fConversions_towardsZero_50 a1 a3 s0 = s0 by rw [fConversions_towardsZero_50, if_pos h1])], ht⟩) (fun q h => nomatch h) dConversions_towardsZero_68
  · refine lv_lload hx hb dConversions_towardsZero_60 (lv_at hl 0 rfl) ?_
    refine lv_lneg hx hb dConversions_towardsZero_62 ?_
    refine lv_goto (tgt := 68) hx hb dConversions_towardsZero_63 (by decide) ?_
    exact W.lret hx hb hr (fun t ht _ => ⟨by rw [(show fConversions_towardsZero_50 a1 a3 s0 = -s0 by rw [fConversions_towardsZero_50, if_neg h1])], ht⟩) (fun q h => nomatch h) dConversions_towardsZero_68
set_option maxHeartbeats 4000000 in
set_option maxRecDepth 100000 in
theorem kConversions_towardsZero_22 {p : Program} {l : Launch} {e : Env} {s : State} {m : MethodId} {args : Array Value} {below : List Frame} {meth : Method} {c : Code} {ad td : Nat → Nat} (C : pw_C p s m args meth c cConversions_towardsZero 9 (some .long) "BitNumbers$Conversions") (hG : pw_G (fun _ => False) ad td s s.heap) (a1 : Nat) (a3 : Int64) (a5 : Int64) (hk1 : a1 < 2) {ls : Array Slot} (hl : lv_has ls 9 [(1, .ref (ad a1)), (3, .long a3), (5, .long a5)]) : W p l e rmConversions_towardsZero s m args below meth c s.heap [] 0 0 (MQ below (k2_QcV (.long (fConversions_towardsZero_22 a1 a3 a5))) args s 0 0 (fun _ => False)) (F0 m 22 ls []) := by
  obtain ⟨hx, hb, hr, hml, hown, hts, hlocks⟩ := id C
  have hS : va_S (fun _ => False) s.heap s.heap [] := va_S.rf
  refine lv_aload_n hx hb dConversions_towardsZero_22 rfl (lv_at hl 0 rfl) ?_
  refine lv_lload_n hx hb dConversions_towardsZero_23 rfl (lv_at hl 1 rfl) ?_
  refine lv_lload hx hb dConversions_towardsZero_24 (lv_at hl 2 rfl) ?_
  refine pw_call (va_runS (As := [.ref (ad a1), .long a3, .long a5]) (rest := []) ⟨hx, hb, hml, hown, hts⟩ (qConversions_fits l ad td a1 a3 a5 hk1) (va_cwS 3 hts (gS w_316 w_317 w_42 w_318) rfl rfl rfl (by decide +kernel) ⟨Nat.le_of_ble_eq_true rfl, Nat.le_of_ble_eq_true rfl⟩) ⟨pw_bG, fun U hU hW => ⟨rfl, (hG.at hU hW)⟩⟩ rfl rfl hl.1 rfl (lv_room (Nat.le_of_ble_eq_true rfl)) dConversions_towardsZero_26 ⟨Nat.zero_le _, Nat.zero_le _⟩) ?_
  refine lv_if_eq (tgt := 48) hx hb dConversions_towardsZero_29 (by decide) (fun h1 => ?_) (fun h1 => ?_)
  · refine lv_lload hx hb dConversions_towardsZero_48 (lv_at hl 2 rfl) ?_
    rw [(show fConversions_towardsZero_22 a1 a3 a5 = fConversions_towardsZero_50 a1 a3 a5 by rw [fConversions_towardsZero_22, if_pos h1])]
    exact kConversions_towardsZero_50 C hG a1 a3 a5 hk1 (lv_sub hl [0, 1] rfl)
  · refine lv_aload_n hx hb dConversions_towardsZero_32 rfl (lv_at hl 0 rfl) ?_
    refine lv_lload_n hx hb dConversions_towardsZero_33 rfl (lv_at hl 1 rfl) ?_
    refine pw_call (va_runV (As := [.long a3]) (rest := []) ⟨hx, hb, hml, hown, hts⟩ (qFormat_significand l ad td a1 a3 hk1) (cwV 1 hts (gV w_319 w_320 w_321 w_44 w_322) rfl rfl rfl (by decide +kernel) ⟨Nat.le_of_ble_eq_true rfl, Nat.le_of_ble_eq_true rfl⟩) ⟨pw_bG, va_recvE hG.1 hk1 hS, fun U hU hW => ⟨rfl, (hG.at hU hW)⟩⟩ rfl rfl hl.1 rfl (lv_room (Nat.le_of_ble_eq_true rfl)) dConversions_towardsZero_34 ⟨Nat.zero_le _, Nat.zero_le _⟩) ?_
    refine lv_aload_n hx hb dConversions_towardsZero_37 rfl (lv_at hl 0 rfl) ?_
    refine lv_lload_n hx hb dConversions_towardsZero_38 rfl (lv_at hl 1 rfl) ?_
    refine pw_call (va_runV (As := [.long a3]) (rest := [.long (fFormat_significand a1 a3)]) ⟨hx, hb, hml, hown, hts⟩ (qFormat_scale l ad td a1 a3 hk1) (cwV 1 hts (gV w_323 w_324 w_325 w_44 w_326) rfl rfl rfl (by decide +kernel) ⟨Nat.le_of_ble_eq_true rfl, Nat.le_of_ble_eq_true rfl⟩) ⟨pw_bG, va_recvE hG.1 hk1 hS, fun U hU hW => ⟨rfl, (hG.at hU hW)⟩⟩ rfl rfl hl.1 rfl (lv_room (Nat.le_of_ble_eq_true rfl)) dConversions_towardsZero_39 ⟨Nat.zero_le _, Nat.zero_le _⟩) ?_
    refine pw_call (va_runS (As := [.long (fFormat_significand a1 a3), .int (fFormat_scale a1 a3)]) (rest := []) ⟨hx, hb, hml, hown, hts⟩ (qConversions_wholePart l (fFormat_significand a1 a3) (fFormat_scale a1 a3)) (va_cwS 2 hts (gS w_339 w_340 w_42 w_341) rfl rfl rfl (by decide +kernel) ⟨Nat.le_of_ble_eq_true rfl, Nat.le_of_ble_eq_true rfl⟩) ⟨pw_bT, fun U hU hW => ⟨rfl, trivial⟩⟩ rfl rfl hl.1 rfl (lv_room (Nat.le_of_ble_eq_true rfl)) dConversions_towardsZero_42 ⟨Nat.zero_le _, Nat.zero_le _⟩) ?_
    refine lv_goto (tgt := 50) hx hb dConversions_towardsZero_45 (by decide) ?_
    rw [(show fConversions_towardsZero_22 a1 a3 a5 = fConversions_towardsZero_50 a1 a3 (fConversions_wholePart (fFormat_significand a1 a3) (fFormat_scale a1 a3)) by rw [fConversions_towardsZero_22, if_neg h1])]
    exact kConversions_towardsZero_50 C hG a1 a3 (fConversions_wholePart (fFormat_significand a1 a3) (fFormat_scale a1 a3)) hk1 (lv_sub hl [0, 1] rfl)
set_option maxHeartbeats 4000000 in
set_option maxRecDepth 100000 in
theorem kConversions_towardsZero_0 {p : Program} {l : Launch} {e : Env} {s : State} {m : MethodId} {args : Array Value} {below : List Frame} {meth : Method} {c : Code} {ad td : Nat → Nat} (C : pw_C p s m args meth c cConversions_towardsZero 9 (some .long) "BitNumbers$Conversions") (hG : pw_G (fun _ => False) ad td s s.heap) (a0 : Int32) (a1 : Nat) (a2 : Int32) (a3 : Int64) (hk1 : a1 < 2) {ls : Array Slot} (hl : lv_has ls 9 [(0, .int a0), (1, .ref (ad a1)), (2, .int a2), (3, .long a3)]) : W p l e rmConversions_towardsZero s m args below meth c s.heap [] 0 0 (MQ below (k2_QcV (.long (fConversions_towardsZero a0 a1 a2 a3))) args s 0 0 (fun _ => False)) (F0 m 0 ls []) := by
  obtain ⟨hx, hb, hr, hml, hown, hts, hlocks⟩ := id C
  have hS : va_S (fun _ => False) s.heap s.heap [] := va_S.rf
  refine lv_aload_n hx hb dConversions_towardsZero_0 rfl (lv_at hl 1 rfl) ?_
  refine lv_lload_n hx hb dConversions_towardsZero_1 rfl (lv_at hl 3 rfl) ?_
  refine pw_call (va_runV (As := [.long a3]) (rest := []) ⟨hx, hb, hml, hown, hts⟩ (qFormat_isNone l ad td a1 a3 hk1) (cwV 1 hts (gV w_307 w_154 w_155 w_44 w_156) rfl rfl rfl (by decide +kernel) ⟨Nat.le_of_ble_eq_true rfl, Nat.le_of_ble_eq_true rfl⟩) ⟨pw_bG, va_recvE hG.1 hk1 hS, fun U hU hW => ⟨rfl, (hG.at hU hW)⟩⟩ rfl rfl hl.1 rfl (lv_room (Nat.le_of_ble_eq_true rfl)) dConversions_towardsZero_2 ⟨Nat.zero_le _, Nat.zero_le _⟩) ?_
  refine lv_if_eq (tgt := 10) hx hb dConversions_towardsZero_5 (by decide) (fun h1 => ?_) (fun h1 => ?_)
  · refine lv_aload_n hx hb dConversions_towardsZero_10 rfl (lv_at hl 1 rfl) ?_
    refine lv_lload_n hx hb dConversions_towardsZero_11 rfl (lv_at hl 3 rfl) ?_
    refine lv_iload_n hx hb dConversions_towardsZero_12 rfl (lv_at hl 2 rfl) ?_
    refine lv_iload_n hx hb dConversions_towardsZero_13 rfl (lv_at hl 0 rfl) ?_
    refine pw_call (va_runS (As := [.int a0]) (rest := [.int a2, .long a3, .ref (ad a1)]) ⟨hx, hb, hml, hown, hts⟩ (qConversions_isSigned l a0) (va_cwS 1 hts (gS w_308 w_309 w_42 w_310) rfl rfl rfl (by decide +kernel) ⟨Nat.le_of_ble_eq_true rfl, Nat.le_of_ble_eq_true rfl⟩) ⟨pw_bT, fun U hU hW => ⟨rfl, trivial⟩⟩ rfl rfl hl.1 rfl (lv_room (Nat.le_of_ble_eq_true rfl)) dConversions_towardsZero_14 ⟨Nat.zero_le _, Nat.zero_le _⟩) ?_
    refine pw_call (va_runS (As := [.ref (ad a1), .long a3, .int a2, .int (fConversions_isSigned a0)]) (rest := []) ⟨hx, hb, hml, hown, hts⟩ (qConversions_limit l ad td a1 a3 a2 (fConversions_isSigned a0) hk1) (va_cwS 4 hts (gS w_311 w_312 w_42 w_313) rfl rfl rfl (by decide +kernel) ⟨Nat.le_of_ble_eq_true rfl, Nat.le_of_ble_eq_true rfl⟩) ⟨pw_bG, fun U hU hW => ⟨rfl, (hG.at hU hW)⟩⟩ rfl rfl hl.1 rfl (lv_room (Nat.le_of_ble_eq_true rfl)) dConversions_towardsZero_17 ⟨Nat.zero_le _, Nat.zero_le _⟩) ?_
    refine lv_lstore (lv' := [(5, .long (fConversions_limit a1 a3 a2 (fConversions_isSigned a0))), (0, .int a0), (1, .ref (ad a1)), (2, .int a2), (3, .long a3)]) hx hb dConversions_towardsZero_20 hl (by decide) rfl (fun ls hl => ?_)
    rw [(show fConversions_towardsZero a0 a1 a2 a3 = fConversions_towardsZero_22 a1 a3 (fConversions_limit a1 a3 a2 (fConversions_isSigned a0)) by rw [fConversions_towardsZero, if_pos h1])]
    exact kConversions_towardsZero_22 C hG a1 a3 (fConversions_limit a1 a3 a2 (fConversions_isSigned a0)) hk1 (lv_sub hl [2, 4, 0] rfl)
  · refine lv_lconst (v := 0) hx hb dConversions_towardsZero_8 (by decide) ?_
    exact W.lret hx hb hr (fun t ht _ => ⟨by rw [(show fConversions_towardsZero a0 a1 a2 a3 = 0 by rw [fConversions_towardsZero, if_neg h1])], ht⟩) (fun q h => nomatch h) dConversions_towardsZero_9
set_option maxHeartbeats 4000000 in
set_option maxRecDepth 100000 in
theorem qConversions_towardsZero (l : Launch) (ad td : Nat → Nat) (a0 : Int32) (a1 : Nat) (a2 : Int32) (a3 : Int64) (hk1 : a1 < 2) : Met l yConversions_towardsZero wsConversions_towardsZero rmConversions_towardsZero (va_Pc [.int a0, .ref (ad a1), .int a2, .long a3] (fun U => pw_G (fun _ => False) ad td U U.heap)) (k2_QcV (.long (fConversions_towardsZero a0 a1 a2 a3))) 0 0 (fun _ => False) := by
  refine Met.ofW (cc := cConversions_towardsZero) (maxL := 9) (ret := (some .long)) (by decide) rfl ?_
  intro p e s m args below meth c s₁ B hml hv
  obtain ⟨rfl, hG⟩ := hv
  have hts0 := atoms_spec (ws := wsConversions_towardsZero) B.pre
  have hts := fun (w : Cond) (h : w ∈ aw) => hts0 w (List.mem_cons_of_mem _ h)
  have hown : s.vm.findClass "BitNumbers$Conversions" = some m.cls := findClass_of_methodNamed B.named
  have hl := lv_entry ([.int a0, .ref (ad a1), .int a2, .long a3]) (n := 9) (Nat.le_of_ble_eq_true rfl)
  rw [lg_entry_eq]
  generalize (lg_sl ([.int a0, .ref (ad a1), .int a2, .long a3]) ++ List.replicate (9 - (lg_sl ([.int a0, .ref (ad a1), .int a2, .long a3])).length) Slot.unset).toArray = ls at hl ⊢
  exact kConversions_towardsZero_0 ⟨B.exec, B.bytes, B.returns, hml, hown, hts, B.notSynchronized⟩ hG a0 a1 a2 a3 hk1 hl

set_option maxHeartbeats 4000000 in
set_option maxRecDepth 100000 in
theorem kWhole_withSign_0 {p : Program} {l : Launch} {e : Env} {s : State} {m : MethodId} {args : Array Value} {below : List Frame} {meth : Method} {c : Code} (C : pw_C p s m args meth c cWhole_withSign 3 (some .long) "BitNumbers$Whole") (a0 : Int32) (a1 : Int64) {ls : Array Slot} (hl : lv_has ls 3 [(0, .int a0), (1, .long a1)]) : W p l e rmWhole_withSign s m args below meth c s.heap [] 0 0 (MQ below (k2_QcV (.long (fWhole_withSign a0 a1))) args s 0 0 (fun _ => False)) (F0 m 0 ls []) := by
  obtain ⟨hx, hb, hr, hml, hown, hts, hlocks⟩ := id C
  refine lv_iload_n hx hb dWhole_withSign_0 rfl (lv_at hl 0 rfl) ?_
  refine lv_if_ne (tgt := 10) hx hb dWhole_withSign_1 (by decide) (fun h1 => ?_) (fun h1 => ?_)
  · refine lv_lload_n hx hb dWhole_withSign_10 rfl (lv_at hl 1 rfl) ?_
    exact W.lret hx hb hr (fun t ht _ => ⟨by rw [(show fWhole_withSign a0 a1 = a1 by rw [fWhole_withSign, if_neg h1])], ht⟩) (fun q h => nomatch h) dWhole_withSign_11
  · refine lv_lload_n hx hb dWhole_withSign_4 rfl (lv_at hl 1 rfl) ?_
    refine lv_l2i hx hb dWhole_withSign_5 rfl ?_
    refine lv_i2l hx hb dWhole_withSign_6 rfl ?_
    refine lv_goto (tgt := 11) hx hb dWhole_withSign_7 (by decide) ?_
    exact W.lret hx hb hr (fun t ht _ => ⟨by rw [(show fWhole_withSign a0 a1 = a1.toInt32.toInt64 by rw [fWhole_withSign, if_pos h1])], ht⟩) (fun q h => nomatch h) dWhole_withSign_11
set_option maxHeartbeats 4000000 in
set_option maxRecDepth 100000 in
theorem qWhole_withSign (l : Launch) (a0 : Int32) (a1 : Int64) : Met l yWhole_withSign wsWhole_withSign rmWhole_withSign (va_Pc [.int a0, .long a1] (fun _ => True)) (k2_QcV (.long (fWhole_withSign a0 a1))) 0 0 (fun _ => False) := by
  refine Met.ofW (cc := cWhole_withSign) (maxL := 3) (ret := (some .long)) (by decide) rfl ?_
  intro p e s m args below meth c s₁ B hml hv
  obtain ⟨rfl, hG⟩ := hv
  have hts0 := atoms_spec (ws := wsWhole_withSign) B.pre
  have hts := fun (w : Cond) (h : w ∈ aw) => hts0 w (List.mem_cons_of_mem _ h)
  have hown : s.vm.findClass "BitNumbers$Whole" = some m.cls := findClass_of_methodNamed B.named
  have hl := lv_entry ([.int a0, .long a1]) (n := 3) (Nat.le_of_ble_eq_true rfl)
  rw [lg_entry_eq]
  generalize (lg_sl ([.int a0, .long a1]) ++ List.replicate (3 - (lg_sl ([.int a0, .long a1])).length) Slot.unset).toArray = ls at hl ⊢
  exact kWhole_withSign_0 ⟨B.exec, B.bytes, B.returns, hml, hown, hts, B.notSynchronized⟩ a0 a1 hl

set_option maxHeartbeats 4000000 in
set_option maxRecDepth 100000 in
theorem kFormat_isInfinite_0 {p : Program} {l : Launch} {e : Env} {s : State} {m : MethodId} {args : Array Value} {below : List Frame} {meth : Method} {c : Code} {ad td : Nat → Nat} (C : pw_C p s m args meth c cFormat_isInfinite 3 (some .boolean) "BitNumbers$Format") (hG : pw_G (fun _ => False) ad td s s.heap) (a0 : Nat) (a1 : Int64) (hk0 : a0 < 2) {ls : Array Slot} (hl : lv_has ls 3 [(0, .ref (ad a0)), (1, .long a1)]) : W p l e rmFormat_isInfinite s m args below meth c s.heap [] 0 0 (MQ below (k2_QcV (.int (fFormat_isInfinite a0 a1))) args s 0 0 (fun _ => False)) (F0 m 0 ls []) := by
  obtain ⟨hx, hb, hr, hml, hown, hts, hlocks⟩ := id C
  have hS : va_S (fun _ => False) s.heap s.heap [] := va_S.rf
  refine lv_lload_n hx hb dFormat_isInfinite_0 rfl (lv_at hl 1 rfl) ?_
  refine lv_aload_n hx hb dFormat_isInfinite_1 rfl (lv_at hl 0 rfl) ?_
  refine va_getX hx hb hG.2.1.2.2.2.1 hk0 hS hown (hts _ w_808) (fun _ h9 => h9) dFormat_isInfinite_2 ?_
  refine lv_ldc2 hx hb hown (hts _ w_157) dFormat_isInfinite_5 ?_
  refine lv_lxor hx hb dFormat_isInfinite_8 ?_
  refine lv_land hx hb dFormat_isInfinite_9 ?_
  refine lv_aload_n hx hb dFormat_isInfinite_10 rfl (lv_at hl 0 rfl) ?_
  refine va_getX hx hb hG.2.1.2.2.2.2.2.1 hk0 hS hown (hts _ w_809) (fun _ h9 => h9) dFormat_isInfinite_11 ?_
  refine W.lcmp hx hb dFormat_isInfinite_14 ?_
  refine lv_if_ne (tgt := 22) hx hb dFormat_isInfinite_15 (by decide) (fun h1 => ?_) (fun h1 => ?_)
  · have h1 : ¬ ((a1 &&& ((fm_signBit a0) ^^^ (-1))) = (fm_infinite a0)) := fun w => h1 ((lg_cmp_eq _ _).mpr w)
    refine lv_iconst (v := 0) hx hb dFormat_isInfinite_22 (by decide) ?_
    exact W.zret hx hb hr (pw_nz (Or.inl rfl)) (fun t ht _ => ⟨by rw [(show fFormat_isInfinite a0 a1 = 0 by rw [fFormat_isInfinite, if_neg h1])], ht⟩) (fun q h => nomatch h) dFormat_isInfinite_23
  · have h1 : (a1 &&& ((fm_signBit a0) ^^^ (-1))) = (fm_infinite a0) := (lg_cmp_eq _ _).mp h1
    refine lv_iconst (v := 1) hx hb dFormat_isInfinite_18 (by decide) ?_
    refine lv_goto (tgt := 23) hx hb dFormat_isInfinite_19 (by decide) ?_
    exact W.zret hx hb hr (pw_nz (Or.inr rfl)) (fun t ht _ => ⟨by rw [(show fFormat_isInfinite a0 a1 = 1 by rw [fFormat_isInfinite, if_pos h1])], ht⟩) (fun q h => nomatch h) dFormat_isInfinite_23
set_option maxHeartbeats 4000000 in
set_option maxRecDepth 100000 in
theorem qFormat_isInfinite (l : Launch) (ad td : Nat → Nat) (a0 : Nat) (a1 : Int64) (hk0 : a0 < 2) : Met l yFormat_isInfinite wsFormat_isInfinite rmFormat_isInfinite (va_Pc [.ref (ad a0), .long a1] (fun U => pw_G (fun _ => False) ad td U U.heap)) (k2_QcV (.int (fFormat_isInfinite a0 a1))) 0 0 (fun _ => False) := by
  refine Met.ofW (cc := cFormat_isInfinite) (maxL := 3) (ret := (some .boolean)) (by decide) rfl ?_
  intro p e s m args below meth c s₁ B hml hv
  obtain ⟨rfl, hG⟩ := hv
  have hts0 := atoms_spec (ws := wsFormat_isInfinite) B.pre
  have hts := fun (w : Cond) (h : w ∈ aw) => hts0 w (List.mem_cons_of_mem _ h)
  have hown : s.vm.findClass "BitNumbers$Format" = some m.cls := findClass_of_methodNamed B.named
  have hl := lv_entry ([.ref (ad a0), .long a1]) (n := 3) (Nat.le_of_ble_eq_true rfl)
  rw [lg_entry_eq]
  generalize (lg_sl ([.ref (ad a0), .long a1]) ++ List.replicate (3 - (lg_sl ([.ref (ad a0), .long a1])).length) Slot.unset).toArray = ls at hl ⊢
  exact kFormat_isInfinite_0 ⟨B.exec, B.bytes, B.returns, hml, hown, hts, B.notSynchronized⟩ hG a0 a1 hk0 hl

