set_option maxHeartbeats 4000000 in
set_option maxRecDepth 100000 in
theorem kFormat_signed_0 {p : Program} {l : Launch} {e : Env} {s : State} {m : MethodId} {args : Array Value} {below : List Frame} {meth : Method} {c : Code} {ad td : Nat → Nat} (C : pw_C p s m args meth c cFormat_signed 4 (some .long) "BitNumbers$Format") (hG : pw_G (fun _ => False) ad td s s.heap) (a0 : Nat) (a1 : Int32) (a2 : Int64) (hk0 : a0 < 2) {ls : Array Slot} (hl : lv_has ls 4 [(0, .ref (ad a0)), (1, .int a1), (2, .long a2)]) : W p l e rmFormat_signed s m args below meth c s.heap [] 0 0 (MQ below (k2_QcV (.long (fFormat_signed a0 a1 a2))) args s 0 0 (fun _ => False)) (F0 m 0 ls []) := by
  obtain ⟨hx, hb, hr, hml, hown, hts, hlocks⟩ := id C
  have hS : va_S (fun _ => False) s.heap s.heap [] := va_S.rf
  refine lv_iload_n hx hb dFormat_signed_0 rfl (lv_at hl 1 rfl) ?_
  refine lv_if_eq (tgt := 13) hx hb dFormat_signed_1 (by decide) (fun h1 => ?_) (fun h1 => ?_)
  · refine lv_lload_n hx hb dFormat_signed_13 rfl (lv_at hl 2 rfl) ?_
    exact W.lret hx hb hr (fun t ht _ => ⟨by rw [(show fFormat_signed a0 a1 a2 = a2 by rw [fFormat_signed, if_pos h1])], ht⟩) (fun q h => nomatch h) dFormat_signed_14
  · refine lv_lload_n hx hb dFormat_signed_4 rfl (lv_at hl 2 rfl) ?_
    refine lv_aload_n hx hb dFormat_signed_5 rfl (lv_at hl 0 rfl) ?_
    refine va_getX hx hb hG.2.1.2.2.2.1 hk0 hS hown (hts _ w_808) (fun _ h9 => h9) dFormat_signed_6 ?_
    refine lv_lor hx hb dFormat_signed_9 ?_
    refine lv_goto (tgt := 14) hx hb dFormat_signed_10 (by decide) ?_
    exact W.lret hx hb hr (fun t ht _ => ⟨by rw [(show fFormat_signed a0 a1 a2 = a2 ||| (fm_signBit a0) by rw [fFormat_signed, if_neg h1])], ht⟩) (fun q h => nomatch h) dFormat_signed_14
set_option maxHeartbeats 4000000 in
set_option maxRecDepth 100000 in
theorem qFormat_signed (l : Launch) (ad td : Nat → Nat) (a0 : Nat) (a1 : Int32) (a2 : Int64) (hk0 : a0 < 2) : Met l yFormat_signed wsFormat_signed rmFormat_signed (va_Pc [.ref (ad a0), .int a1, .long a2] (fun U => pw_G (fun _ => False) ad td U U.heap)) (k2_QcV (.long (fFormat_signed a0 a1 a2))) 0 0 (fun _ => False) := by
  refine Met.ofW (cc := cFormat_signed) (maxL := 4) (ret := (some .long)) (by decide) rfl ?_
  intro p e s m args below meth c s₁ B hml hv
  obtain ⟨rfl, hG⟩ := hv
  have hts0 := atoms_spec (ws := wsFormat_signed) B.pre
  have hts := fun (w : Cond) (h : w ∈ aw) => hts0 w (List.mem_cons_of_mem _ h)
  have hown : s.vm.findClass "BitNumbers$Format" = some m.cls := findClass_of_methodNamed B.named
  have hl := lv_entry ([.ref (ad a0), .int a1, .long a2]) (n := 4) (Nat.le_of_ble_eq_true rfl)
  rw [lg_entry_eq]
  generalize (lg_sl ([.ref (ad a0), .int a1, .long a2]) ++ List.replicate (4 - (lg_sl ([.ref (ad a0), .int a1, .long a2])).length) Slot.unset).toArray = ls at hl ⊢
  exact kFormat_signed_0 ⟨B.exec, B.bytes, B.returns, hml, hown, hts, B.notSynchronized⟩ hG a0 a1 a2 hk0 hl

set_option maxHeartbeats 4000000 in
set_option maxRecDepth 100000 in
theorem kFormat_nearest_67 {p : Program} {l : Launch} {e : Env} {s : State} {m : MethodId} {args : Array Value} {below : List Frame} {meth : Method} {c : Code} {ad td : Nat → Nat} (C : pw_C p s m args meth c cFormat_nearest 10 (some .long) "BitNumbers$Format") (hG : pw_G (fun _ => False) ad td s s.heap) (a3 : Int64) (s0 : Int32) (hzs0 : s0 = 0 ∨ s0 = 1) {ls : Array Slot} (hl : lv_has ls 10 [(3, .long a3)]) : W p l e rmFormat_nearest s m args below meth c s.heap [] 0 0 (MQ below (k2_QcV (.long (fFormat_nearest_67 a3 s0))) args s 0 0 (fun _ => False)) (F0 m 67 ls [.int s0]) := by
  obtain ⟨hx, hb, hr, hml, hown, hts, hlocks⟩ := id C
  have hS : va_S (fun _ => False) s.heap s.heap [] := va_S.rf
  refine lv_istore (lv' := [(9, .int s0), (3, .long a3)]) hx hb dFormat_nearest_67 hl (by decide) rfl (fun ls hl => ?_)
  refine lv_iload hx hb dFormat_nearest_69 (lv_at hl 0 rfl) ?_
  refine lv_if_eq (tgt := 80) hx hb dFormat_nearest_71 (by decide) (fun h1 => ?_) (fun h1 => ?_)
  · refine lv_lload_n hx hb dFormat_nearest_80 rfl (lv_at hl 1 rfl) ?_
    exact W.lret hx hb hr (fun t ht _ => ⟨by rw [(show fFormat_nearest_67 a3 s0 = a3 by rw [fFormat_nearest_67, if_pos h1])], ht⟩) (fun q h => nomatch h) dFormat_nearest_81
  · refine lv_lload_n hx hb dFormat_nearest_74 rfl (lv_at hl 1 rfl) ?_
    refine lv_lconst (v := 1) hx hb dFormat_nearest_75 (by decide) ?_
    refine lv_ladd hx hb dFormat_nearest_76 ?_
    refine lv_goto (tgt := 81) hx hb dFormat_nearest_77 (by decide) ?_
    exact W.lret hx hb hr (fun t ht _ => ⟨by rw [(show fFormat_nearest_67 a3 s0 = a3 + 1 by rw [fFormat_nearest_67, if_neg h1])], ht⟩) (fun q h => nomatch h) dFormat_nearest_81
set_option maxHeartbeats 4000000 in
set_option maxRecDepth 100000 in
theorem kFormat_nearest_66 {p : Program} {l : Launch} {e : Env} {s : State} {m : MethodId} {args : Array Value} {below : List Frame} {meth : Method} {c : Code} {ad td : Nat → Nat} (C : pw_C p s m args meth c cFormat_nearest 10 (some .long) "BitNumbers$Format") (hG : pw_G (fun _ => False) ad td s s.heap) (a3 : Int64) {ls : Array Slot} (hl : lv_has ls 10 [(3, .long a3)]) : W p l e rmFormat_nearest s m args below meth c s.heap [] 0 0 (MQ below (k2_QcV (.long (fFormat_nearest_66 a3))) args s 0 0 (fun _ => False)) (F0 m 66 ls []) := by
  obtain ⟨hx, hb, hr, hml, hown, hts, hlocks⟩ := id C
  have hS : va_S (fun _ => False) s.heap s.heap [] := va_S.rf
  refine lv_iconst (v := 0) hx hb dFormat_nearest_66 (by decide) ?_
  rw [(show fFormat_nearest_66 a3 = fFormat_nearest_67 a3 0 by rw [fFormat_nearest_66])]
  exact kFormat_nearest_67 C hG a3 0 (Or.inl rfl) (lv_sub hl [0] rfl)
set_option maxHeartbeats 4000000 in
set_option maxRecDepth 100000 in
theorem kFormat_nearest_62 {p : Program} {l : Launch} {e : Env} {s : State} {m : MethodId} {args : Array Value} {below : List Frame} {meth : Method} {c : Code} {ad td : Nat → Nat} (C : pw_C p s m args meth c cFormat_nearest 10 (some .long) "BitNumbers$Format") (hG : pw_G (fun _ => False) ad td s s.heap) (a3 : Int64) {ls : Array Slot} (hl : lv_has ls 10 [(3, .long a3)]) : W p l e rmFormat_nearest s m args below meth c s.heap [] 0 0 (MQ below (k2_QcV (.long (fFormat_nearest_62 a3))) args s 0 0 (fun _ => False)) (F0 m 62 ls []) := by
  obtain ⟨hx, hb, hr, hml, hown, hts, hlocks⟩ := id C
  have hS : va_S (fun _ => False) s.heap s.heap [] := va_S.rf
  refine lv_iconst (v := 1) hx hb dFormat_nearest_62 (by decide) ?_
  refine lv_goto (tgt := 67) hx hb dFormat_nearest_63 (by decide) ?_
  rw [(show fFormat_nearest_62 a3 = fFormat_nearest_67 a3 1 by rw [fFormat_nearest_62])]
  exact kFormat_nearest_67 C hG a3 1 (Or.inr rfl) (lv_sub hl [0] rfl)
set_option maxHeartbeats 4000000 in
set_option maxRecDepth 100000 in
theorem kFormat_nearest_38 {p : Program} {l : Launch} {e : Env} {s : State} {m : MethodId} {args : Array Value} {below : List Frame} {meth : Method} {c : Code} {ad td : Nat → Nat} (C : pw_C p s m args meth c cFormat_nearest 10 (some .long) "BitNumbers$Format") (hG : pw_G (fun _ => False) ad td s s.heap) (a3 : Int64) (a5 : Int64) (a7 : Int64) {ls : Array Slot} (hl : lv_has ls 10 [(3, .long a3), (5, .long a5), (7, .long a7)]) : W p l e rmFormat_nearest s m args below meth c s.heap [] 0 0 (MQ below (k2_QcV (.long (fFormat_nearest_38 a3 a5 a7))) args s 0 0 (fun _ => False)) (F0 m 38 ls []) := by
  obtain ⟨hx, hb, hr, hml, hown, hts, hlocks⟩ := id C
  have hS : va_S (fun _ => False) s.heap s.heap [] := va_S.rf
  refine lv_lload hx hb dFormat_nearest_38 (lv_at hl 1 rfl) ?_
  refine lv_lload hx hb dFormat_nearest_40 (lv_at hl 2 rfl) ?_
  refine W.lcmp hx hb dFormat_nearest_42 ?_
  refine lv_if_gt (tgt := 62) hx hb dFormat_nearest_43 (by decide) (fun h1 => ?_) (fun h1 => ?_)
  · have h1 : a7 < a5 := (lg_cmp_gt _ _).mp h1
    rw [(show fFormat_nearest_38 a3 a5 a7 = fFormat_nearest_62 a3 by rw [fFormat_nearest_38, if_pos h1])]
    exact kFormat_nearest_62 C hG a3 (lv_sub hl [0] rfl)
  · have h1 : ¬ (a7 < a5) := fun w => h1 ((lg_cmp_gt _ _).mpr w)
    refine lv_lload hx hb dFormat_nearest_46 (lv_at hl 1 rfl) ?_
    refine lv_lload hx hb dFormat_nearest_48 (lv_at hl 2 rfl) ?_
    refine W.lcmp hx hb dFormat_nearest_50 ?_
    refine lv_if_ne (tgt := 66) hx hb dFormat_nearest_51 (by decide) (fun h2 => ?_) (fun h2 => ?_)
    · have h2 : ¬ (a5 = a7) := fun w => h2 ((lg_cmp_eq _ _).mpr w)
      rw [(show fFormat_nearest_38 a3 a5 a7 = fFormat_nearest_66 a3 by rw [fFormat_nearest_38, if_neg h1, if_neg h2])]
      exact kFormat_nearest_66 C hG a3 (lv_sub hl [0] rfl)
    · have h2 : a5 = a7 := (lg_cmp_eq _ _).mp h2
      refine lv_lload_n hx hb dFormat_nearest_54 rfl (lv_at hl 0 rfl) ?_
      refine lv_lconst (v := 1) hx hb dFormat_nearest_55 (by decide) ?_
      refine lv_land hx hb dFormat_nearest_56 ?_
      refine lv_lconst (v := 0) hx hb dFormat_nearest_57 (by decide) ?_
      refine W.lcmp hx hb dFormat_nearest_58 ?_
      refine lv_if_eq (tgt := 66) hx hb dFormat_nearest_59 (by decide) (fun h3 => ?_) (fun h3 => ?_)
      · have h3 : (a3 &&& 1) = 0 := (lg_cmp_eq _ _).mp h3
        rw [(show fFormat_nearest_38 a3 a5 a7 = fFormat_nearest_66 a3 by rw [fFormat_nearest_38, if_neg h1, if_pos h2, if_pos h3])]
        exact kFormat_nearest_66 C hG a3 (lv_sub hl [0] rfl)
      · have h3 : ¬ ((a3 &&& 1) = 0) := fun w => h3 ((lg_cmp_eq _ _).mpr w)
        rw [(show fFormat_nearest_38 a3 a5 a7 = fFormat_nearest_62 a3 by rw [fFormat_nearest_38, if_neg h1, if_pos h2, if_neg h3])]
        exact kFormat_nearest_62 C hG a3 (lv_sub hl [0] rfl)
set_option maxHeartbeats 4000000 in
set_option maxRecDepth 100000 in
theorem kFormat_nearest_31 {p : Program} {l : Launch} {e : Env} {s : State} {m : MethodId} {args : Array Value} {below : List Frame} {meth : Method} {c : Code} {ad td : Nat → Nat} (C : pw_C p s m args meth c cFormat_nearest 10 (some .long) "BitNumbers$Format") (hG : pw_G (fun _ => False) ad td s s.heap) (a2 : Int32) (a3 : Int64) (a5 : Int64) {ls : Array Slot} (hl : lv_has ls 10 [(2, .int a2), (3, .long a3), (5, .long a5)]) : W p l e rmFormat_nearest s m args below meth c s.heap [] 0 0 (MQ below (k2_QcV (.long (fFormat_nearest_31 a2 a3 a5))) args s 0 0 (fun _ => False)) (F0 m 31 ls []) := by
  obtain ⟨hx, hb, hr, hml, hown, hts, hlocks⟩ := id C
  have hS : va_S (fun _ => False) s.heap s.heap [] := va_S.rf
  refine lv_lconst (v := 1) hx hb dFormat_nearest_31 (by decide) ?_
  refine lv_iload_n hx hb dFormat_nearest_32 rfl (lv_at hl 0 rfl) ?_
  refine lv_iconst (v := 1) hx hb dFormat_nearest_33 (by decide) ?_
  refine lv_isub hx hb dFormat_nearest_34 ?_
  refine lv_lshl (v := bn_shl 1 (a2 - 1)) hx hb dFormat_nearest_35 rfl ?_
  refine lv_lstore (lv' := [(7, .long (bn_shl 1 (a2 - 1))), (2, .int a2), (3, .long a3), (5, .long a5)]) hx hb dFormat_nearest_36 hl (by decide) rfl (fun ls hl => ?_)
  rw [(show fFormat_nearest_31 a2 a3 a5 = fFormat_nearest_38 a3 a5 (bn_shl 1 (a2 - 1)) by rw [fFormat_nearest_31])]
  exact kFormat_nearest_38 C hG a3 a5 (bn_shl 1 (a2 - 1)) (lv_sub hl [2, 3, 0] rfl)
set_option maxHeartbeats 4000000 in
set_option maxRecDepth 100000 in
theorem kFormat_nearest_24 {p : Program} {l : Launch} {e : Env} {s : State} {m : MethodId} {args : Array Value} {below : List Frame} {meth : Method} {c : Code} {ad td : Nat → Nat} (C : pw_C p s m args meth c cFormat_nearest 10 (some .long) "BitNumbers$Format") (hG : pw_G (fun _ => False) ad td s s.heap) (a0 : Int64) (a2 : Int32) (a3 : Int64) {ls : Array Slot} (hl : lv_has ls 10 [(0, .long a0), (2, .int a2), (3, .long a3)]) : W p l e rmFormat_nearest s m args below meth c s.heap [] 0 0 (MQ below (k2_QcV (.long (fFormat_nearest_24 a0 a2 a3))) args s 0 0 (fun _ => False)) (F0 m 24 ls []) := by
  obtain ⟨hx, hb, hr, hml, hown, hts, hlocks⟩ := id C
  have hS : va_S (fun _ => False) s.heap s.heap [] := va_S.rf
  refine lv_lload_n hx hb dFormat_nearest_24 rfl (lv_at hl 0 rfl) ?_
  refine lv_lload_n hx hb dFormat_nearest_25 rfl (lv_at hl 2 rfl) ?_
  refine lv_iload_n hx hb dFormat_nearest_26 rfl (lv_at hl 1 rfl) ?_
  refine lv_lshl (v := bn_shl a3 a2) hx hb dFormat_nearest_27 rfl ?_
  refine lv_lsub hx hb dFormat_nearest_28 ?_
  refine lv_lstore (lv' := [(5, .long (a0 - (bn_shl a3 a2))), (0, .long a0), (2, .int a2), (3, .long a3)]) hx hb dFormat_nearest_29 hl (by decide) rfl (fun ls hl => ?_)
  rw [(show fFormat_nearest_24 a0 a2 a3 = fFormat_nearest_31 a2 a3 (a0 - (bn_shl a3 a2)) by rw [fFormat_nearest_24])]
  exact kFormat_nearest_31 C hG a2 a3 (a0 - (bn_shl a3 a2)) (lv_sub hl [2, 3, 0] rfl)
set_option maxHeartbeats 4000000 in
set_option maxRecDepth 100000 in
theorem kFormat_nearest_10 {p : Program} {l : Launch} {e : Env} {s : State} {m : MethodId} {args : Array Value} {below : List Frame} {meth : Method} {c : Code} {ad td : Nat → Nat} (C : pw_C p s m args meth c cFormat_nearest 10 (some .long) "BitNumbers$Format") (hG : pw_G (fun _ => False) ad td s s.heap) (a0 : Int64) (a2 : Int32) {ls : Array Slot} (hl : lv_has ls 10 [(0, .long a0), (2, .int a2)]) : W p l e rmFormat_nearest s m args below meth c s.heap [] 0 0 (MQ below (k2_QcV (.long (fFormat_nearest_10 a0 a2))) args s 0 0 (fun _ => False)) (F0 m 10 ls []) := by
  obtain ⟨hx, hb, hr, hml, hown, hts, hlocks⟩ := id C
  have hS : va_S (fun _ => False) s.heap s.heap [] := va_S.rf
  refine lv_iload_n hx hb dFormat_nearest_10 rfl (lv_at hl 1 rfl) ?_
  refine lv_if_gt (tgt := 18) hx hb dFormat_nearest_11 (by decide) (fun h1 => ?_) (fun h1 => ?_)
  · refine lv_lconst (v := 0) hx hb dFormat_nearest_18 (by decide) ?_
    exact W.lret hx hb hr (fun t ht _ => ⟨by rw [(show fFormat_nearest_10 a0 a2 = 0 by rw [fFormat_nearest_10, if_pos h1])], ht⟩) (fun q h => nomatch h) dFormat_nearest_19
  · refine lv_lload_n hx hb dFormat_nearest_14 rfl (lv_at hl 0 rfl) ?_
    refine lv_goto (tgt := 19) hx hb dFormat_nearest_15 (by decide) ?_
    exact W.lret hx hb hr (fun t ht _ => ⟨by rw [(show fFormat_nearest_10 a0 a2 = a0 by rw [fFormat_nearest_10, if_neg h1])], ht⟩) (fun q h => nomatch h) dFormat_nearest_19
set_option maxHeartbeats 4000000 in
set_option maxRecDepth 100000 in
theorem kFormat_nearest_0 {p : Program} {l : Launch} {e : Env} {s : State} {m : MethodId} {args : Array Value} {below : List Frame} {meth : Method} {c : Code} {ad td : Nat → Nat} (C : pw_C p s m args meth c cFormat_nearest 10 (some .long) "BitNumbers$Format") (hG : pw_G (fun _ => False) ad td s s.heap) (a0 : Int64) (a2 : Int32) {ls : Array Slot} (hl : lv_has ls 10 [(0, .long a0), (2, .int a2)]) : W p l e rmFormat_nearest s m args below meth c s.heap [] 0 0 (MQ below (k2_QcV (.long (fFormat_nearest a0 a2))) args s 0 0 (fun _ => False)) (F0 m 0 ls []) := by
  obtain ⟨hx, hb, hr, hml, hown, hts, hlocks⟩ := id C
  have hS : va_S (fun _ => False) s.heap s.heap [] := va_S.rf
  refine lv_iload_n hx hb dFormat_nearest_0 rfl (lv_at hl 1 rfl) ?_
  refine lv_if_le (tgt := 10) hx hb dFormat_nearest_1 (by decide) (fun h1 => ?_) (fun h1 => ?_)
  · rw [(show fFormat_nearest a0 a2 = fFormat_nearest_10 a0 a2 by rw [fFormat_nearest, if_pos h1])]
    exact kFormat_nearest_10 C hG a0 a2 (lv_sub hl [0, 1] rfl)
  · refine lv_iload_n hx hb dFormat_nearest_4 rfl (lv_at hl 1 rfl) ?_
    refine lv_bipush (v := 63) hx hb dFormat_nearest_5 (by decide) ?_
    refine lv_icmp_le (tgt := 20) hx hb dFormat_nearest_7 (by decide) (fun h2 => ?_) (fun h2 => ?_)
    · refine lv_lload_n hx hb dFormat_nearest_20 rfl (lv_at hl 0 rfl) ?_
      refine lv_iload_n hx hb dFormat_nearest_21 rfl (lv_at hl 1 rfl) ?_
      refine lv_lushr (v := bn_shr a0 a2) hx hb dFormat_nearest_22 rfl ?_
      refine lv_lstore_n (lv' := [(3, .long (bn_shr a0 a2)), (0, .long a0), (2, .int a2)]) hx hb dFormat_nearest_23 rfl hl (by decide) rfl (fun ls hl => ?_)
      rw [(show fFormat_nearest a0 a2 = fFormat_nearest_24 a0 a2 (bn_shr a0 a2) by rw [fFormat_nearest, if_neg h1, if_pos h2])]
      exact kFormat_nearest_24 C hG a0 a2 (bn_shr a0 a2) (lv_sub hl [1, 2, 0] rfl)
    · rw [(show fFormat_nearest a0 a2 = fFormat_nearest_10 a0 a2 by rw [fFormat_nearest, if_neg h1, if_neg h2])]
      exact kFormat_nearest_10 C hG a0 a2 (lv_sub hl [0, 1] rfl)
set_option maxHeartbeats 4000000 in
set_option maxRecDepth 100000 in
theorem qFormat_nearest (l : Launch) (ad td : Nat → Nat) (a0 : Int64) (a2 : Int32) : Met l yFormat_nearest wsFormat_nearest rmFormat_nearest (va_Pc [.long a0, .int a2] (fun U => pw_G (fun _ => False) ad td U U.heap)) (k2_QcV (.long (fFormat_nearest a0 a2))) 0 0 (fun _ => False) := by
  refine Met.ofW (cc := cFormat_nearest) (maxL := 10) (ret := (some .long)) (by decide) rfl ?_
  intro p e s m args below meth c s₁ B hml hv
  obtain ⟨rfl, hG⟩ := hv
  have hts0 := atoms_spec (ws := wsFormat_nearest) B.pre
  have hts := fun (w : Cond) (h : w ∈ aw) => hts0 w (List.mem_cons_of_mem _ h)
  have hown : s.vm.findClass "BitNumbers$Format" = some m.cls := findClass_of_methodNamed B.named
  have hl := lv_entry ([.long a0, .int a2]) (n := 10) (Nat.le_of_ble_eq_true rfl)
  rw [lg_entry_eq]
  generalize (lg_sl ([.long a0, .int a2]) ++ List.replicate (10 - (lg_sl ([.long a0, .int a2])).length) Slot.unset).toArray = ls at hl ⊢
  exact kFormat_nearest_0 ⟨B.exec, B.bytes, B.returns, hml, hown, hts, B.notSynchronized⟩ hG a0 a2 hl

set_option maxHeartbeats 4000000 in
set_option maxRecDepth 100000 in
theorem kFormat_rounded_96 {p : Program} {l : Launch} {e : Env} {s : State} {m : MethodId} {args : Array Value} {below : List Frame} {meth : Method} {c : Code} {ad td : Nat → Nat} (C : pw_C p s m args meth c cFormat_rounded 11 (some .long) "BitNumbers$Format") (hG : pw_G (fun _ => False) ad td s s.heap) (a0 : Nat) (a1 : Int32) (a7 : Int32) (a9 : Int64) (hk0 : a0 < 2) {ls : Array Slot} (hl : lv_has ls 11 [(0, .ref (ad a0)), (1, .int a1), (7, .int a7), (9, .long a9)]) : W p l e rmFormat_rounded s m args below meth c s.heap [] 0 0 (MQ below (k2_QcV (.long (fFormat_rounded_96 a0 a1 a7 a9))) args s 0 0 (fun _ => False)) (F0 m 96 ls []) := by
  obtain ⟨hx, hb, hr, hml, hown, hts, hlocks⟩ := id C
  have hS : va_S (fun _ => False) s.heap s.heap [] := va_S.rf
  refine lv_aload_n hx hb dFormat_rounded_96 rfl (lv_at hl 0 rfl) ?_
  refine lv_iload_n hx hb dFormat_rounded_97 rfl (lv_at hl 1 rfl) ?_
  refine lv_iload hx hb dFormat_rounded_98 (lv_at hl 2 rfl) ?_
  refine lv_i2l hx hb dFormat_rounded_100 rfl ?_
  refine lv_aload_n hx hb dFormat_rounded_101 rfl (lv_at hl 0 rfl) ?_
  refine va_getX hx hb hG.2.1.1 hk0 hS hown (hts _ w_811) (fun _ h9 => h9) dFormat_rounded_102 ?_
  refine lv_iconst (v := 1) hx hb dFormat_rounded_105 (by decide) ?_
  refine lv_isub hx hb dFormat_rounded_106 ?_
  refine lv_lshl (v := bn_shl a7.toInt64 ((fm_places a0) - 1)) hx hb dFormat_rounded_107 rfl ?_
  refine lv_lload hx hb dFormat_rounded_108 (lv_at hl 3 rfl) ?_
  refine lv_ladd hx hb dFormat_rounded_110 ?_
  refine pw_call (va_runV (As := [.int a1, .long ((bn_shl a7.toInt64 ((fm_places a0) - 1)) + a9)]) (rest := []) ⟨hx, hb, hml, hown, hts⟩ (qFormat_signed l ad td a0 a1 ((bn_shl a7.toInt64 ((fm_places a0) - 1)) + a9) hk0) (cwV 2 hts (gV w_421 w_403 w_404 w_44 w_405) rfl rfl rfl (by decide +kernel) ⟨Nat.le_of_ble_eq_true rfl, Nat.le_of_ble_eq_true rfl⟩) ⟨pw_bG, va_recvE hG.1 hk0 hS, fun U hU hW => ⟨rfl, (hG.at hU hW)⟩⟩ rfl rfl hl.1 rfl (lv_room (Nat.le_of_ble_eq_true rfl)) dFormat_rounded_111 ⟨Nat.zero_le _, Nat.zero_le _⟩) ?_
  exact W.lret hx hb hr (fun t ht _ => ⟨by rw [(show fFormat_rounded_96 a0 a1 a7 a9 = fFormat_signed a0 a1 ((bn_shl a7.toInt64 ((fm_places a0) - 1)) + a9) by rw [fFormat_rounded_96])], ht⟩) (fun q h => nomatch h) dFormat_rounded_114
set_option maxHeartbeats 4000000 in
set_option maxRecDepth 100000 in
theorem kFormat_rounded_94 {p : Program} {l : Launch} {e : Env} {s : State} {m : MethodId} {args : Array Value} {below : List Frame} {meth : Method} {c : Code} {ad td : Nat → Nat} (C : pw_C p s m args meth c cFormat_rounded 11 (some .long) "BitNumbers$Format") (hG : pw_G (fun _ => False) ad td s s.heap) (a0 : Nat) (a1 : Int32) (a7 : Int32) (s0 : Int64) (hk0 : a0 < 2) {ls : Array Slot} (hl : lv_has ls 11 [(0, .ref (ad a0)), (1, .int a1), (7, .int a7)]) : W p l e rmFormat_rounded s m args below meth c s.heap [] 0 0 (MQ below (k2_QcV (.long (fFormat_rounded_94 a0 a1 a7 s0))) args s 0 0 (fun _ => False)) (F0 m 94 ls [.long s0]) := by
  obtain ⟨hx, hb, hr, hml, hown, hts, hlocks⟩ := id C
  have hS : va_S (fun _ => False) s.heap s.heap [] := va_S.rf
  refine lv_lstore (lv' := [(9, .long s0), (0, .ref (ad a0)), (1, .int a1), (7, .int a7)]) hx hb dFormat_rounded_94 hl (by decide) rfl (fun ls hl => ?_)
  rw [(show fFormat_rounded_94 a0 a1 a7 s0 = fFormat_rounded_96 a0 a1 a7 s0 by rw [fFormat_rounded_94])]
  exact kFormat_rounded_96 C hG a0 a1 a7 s0 hk0 (lv_sub hl [1, 2, 3, 0] rfl)
set_option maxHeartbeats 4000000 in
set_option maxRecDepth 100000 in
theorem kFormat_rounded_75 {p : Program} {l : Launch} {e : Env} {s : State} {m : MethodId} {args : Array Value} {below : List Frame} {meth : Method} {c : Code} {ad td : Nat → Nat} (C : pw_C p s m args meth c cFormat_rounded 11 (some .long) "BitNumbers$Format") (hG : pw_G (fun _ => False) ad td s s.heap) (a0 : Nat) (a1 : Int32) (a2 : Int64) (a7 : Int32) (a8 : Int32) (hk0 : a0 < 2) {ls : Array Slot} (hl : lv_has ls 11 [(0, .ref (ad a0)), (1, .int a1), (2, .long a2), (7, .int a7), (8, .int a8)]) : W p l e rmFormat_rounded s m args below meth c s.heap [] 0 0 (MQ below (k2_QcV (.long (fFormat_rounded_75 a0 a1 a2 a7 a8))) args s 0 0 (fun _ => False)) (F0 m 75 ls []) := by
  obtain ⟨hx, hb, hr, hml, hown, hts, hlocks⟩ := id C
  have hS : va_S (fun _ => False) s.heap s.heap [] := va_S.rf
  refine lv_iload hx hb dFormat_rounded_75 (lv_at hl 4 rfl) ?_
  refine lv_if_ge (tgt := 88) hx hb dFormat_rounded_77 (by decide) (fun h1 => ?_) (fun h1 => ?_)
  · refine lv_lload_n hx hb dFormat_rounded_88 rfl (lv_at hl 2 rfl) ?_
    refine lv_iload hx hb dFormat_rounded_89 (lv_at hl 4 rfl) ?_
    refine pw_call (va_runS (As := [.long a2, .int a8]) (rest := []) ⟨hx, hb, hml, hown, hts⟩ (qFormat_nearest l ad td a2 a8) (va_cwS 2 hts (gS w_423 w_415 w_44 w_416) rfl rfl rfl (by decide +kernel) ⟨Nat.le_of_ble_eq_true rfl, Nat.le_of_ble_eq_true rfl⟩) ⟨pw_bG, fun U hU hW => ⟨rfl, (hG.at hU hW)⟩⟩ rfl rfl hl.1 rfl (lv_room (Nat.le_of_ble_eq_true rfl)) dFormat_rounded_91 ⟨Nat.zero_le _, Nat.zero_le _⟩) ?_
    rw [(show fFormat_rounded_75 a0 a1 a2 a7 a8 = fFormat_rounded_94 a0 a1 a7 (fFormat_nearest a2 a8) by rw [fFormat_rounded_75, if_pos h1])]
    exact kFormat_rounded_94 C hG a0 a1 a7 (fFormat_nearest a2 a8) hk0 (lv_sub hl [0, 1, 3] rfl)
  · refine lv_lload_n hx hb dFormat_rounded_80 rfl (lv_at hl 2 rfl) ?_
    refine lv_iload hx hb dFormat_rounded_81 (lv_at hl 4 rfl) ?_
    refine lv_ineg hx hb dFormat_rounded_83 ?_
    refine lv_lshl (v := bn_shl a2 (-a8)) hx hb dFormat_rounded_84 rfl ?_
    refine lv_goto (tgt := 94) hx hb dFormat_rounded_85 (by decide) ?_
    rw [(show fFormat_rounded_75 a0 a1 a2 a7 a8 = fFormat_rounded_94 a0 a1 a7 (bn_shl a2 (-a8)) by rw [fFormat_rounded_75, if_neg h1])]
    exact kFormat_rounded_94 C hG a0 a1 a7 (bn_shl a2 (-a8)) hk0 (lv_sub hl [0, 1, 3] rfl)
set_option maxHeartbeats 4000000 in
set_option maxRecDepth 100000 in
theorem kFormat_rounded_47 {p : Program} {l : Launch} {e : Env} {s : State} {m : MethodId} {args : Array Value} {below : List Frame} {meth : Method} {c : Code} {ad td : Nat → Nat} (C : pw_C p s m args meth c cFormat_rounded 11 (some .long) "BitNumbers$Format") (hG : pw_G (fun _ => False) ad td s s.heap) (a0 : Nat) (a1 : Int32) (a2 : Int64) (a4 : Int32) (a6 : Int32) (a7 : Int32) (hk0 : a0 < 2) {ls : Array Slot} (hl : lv_has ls 11 [(0, .ref (ad a0)), (1, .int a1), (2, .long a2), (4, .int a4), (6, .int a6), (7, .int a7)]) : W p l e rmFormat_rounded s m args below meth c s.heap [] 0 0 (MQ below (k2_QcV (.long (fFormat_rounded_47 a0 a1 a2 a4 a6 a7))) args s 0 0 (fun _ => False)) (F0 m 47 ls []) := by
  obtain ⟨hx, hb, hr, hml, hown, hts, hlocks⟩ := id C
  have hS : va_S (fun _ => False) s.heap s.heap [] := va_S.rf
  refine lv_iload hx hb dFormat_rounded_47 (lv_at hl 5 rfl) ?_
  refine lv_aload_n hx hb dFormat_rounded_49 rfl (lv_at hl 0 rfl) ?_
  refine va_getX hx hb hG.2.1.2.1 hk0 hS hown (hts _ w_812) (fun _ h9 => h9) dFormat_rounded_50 ?_
  refine lv_iconst (v := 1) hx hb dFormat_rounded_53 (by decide) ?_
  refine lv_isub hx hb dFormat_rounded_54 ?_
  refine lv_icmp_lt (tgt := 68) hx hb dFormat_rounded_55 (by decide) (fun h1 => ?_) (fun h1 => ?_)
  · refine lv_iload hx hb dFormat_rounded_68 (lv_at hl 4 rfl) ?_
    refine lv_iload hx hb dFormat_rounded_70 (lv_at hl 3 rfl) ?_
    refine lv_isub hx hb dFormat_rounded_72 ?_
    refine lv_istore (lv' := [(8, .int (a6 - a4)), (0, .ref (ad a0)), (1, .int a1), (2, .long a2), (4, .int a4), (6, .int a6), (7, .int a7)]) hx hb dFormat_rounded_73 hl (by decide) rfl (fun ls hl => ?_)
    rw [(show fFormat_rounded_47 a0 a1 a2 a4 a6 a7 = fFormat_rounded_75 a0 a1 a2 a7 (a6 - a4) by rw [fFormat_rounded_47, if_pos h1])]
    exact kFormat_rounded_75 C hG a0 a1 a2 a7 (a6 - a4) hk0 (lv_sub hl [1, 2, 3, 6, 0] rfl)
  · refine lv_aload_n hx hb dFormat_rounded_58 rfl (lv_at hl 0 rfl) ?_
    refine lv_iload_n hx hb dFormat_rounded_59 rfl (lv_at hl 1 rfl) ?_
    refine lv_aload_n hx hb dFormat_rounded_60 rfl (lv_at hl 0 rfl) ?_
    refine va_getX hx hb hG.2.1.2.2.2.2.2.1 hk0 hS hown (hts _ w_809) (fun _ h9 => h9) dFormat_rounded_61 ?_
    refine pw_call (va_runV (As := [.int a1, .long (fm_infinite a0)]) (rest := []) ⟨hx, hb, hml, hown, hts⟩ (qFormat_signed l ad td a0 a1 (fm_infinite a0) hk0) (cwV 2 hts (gV w_421 w_403 w_404 w_44 w_405) rfl rfl rfl (by decide +kernel) ⟨Nat.le_of_ble_eq_true rfl, Nat.le_of_ble_eq_true rfl⟩) ⟨pw_bG, va_recvE hG.1 hk0 hS, fun U hU hW => ⟨rfl, (hG.at hU hW)⟩⟩ rfl rfl hl.1 rfl (lv_room (Nat.le_of_ble_eq_true rfl)) dFormat_rounded_64 ⟨Nat.zero_le _, Nat.zero_le _⟩) ?_
    exact W.lret hx hb hr (fun t ht _ => ⟨by rw [(show fFormat_rounded_47 a0 a1 a2 a4 a6 a7 = fFormat_signed a0 a1 (fm_infinite a0) by rw [fFormat_rounded_47, if_neg h1])], ht⟩) (fun q h => nomatch h) dFormat_rounded_67
set_option maxHeartbeats 4000000 in
set_option maxRecDepth 100000 in
theorem kFormat_rounded_38 {p : Program} {l : Launch} {e : Env} {s : State} {m : MethodId} {args : Array Value} {below : List Frame} {meth : Method} {c : Code} {ad td : Nat → Nat} (C : pw_C p s m args meth c cFormat_rounded 11 (some .long) "BitNumbers$Format") (hG : pw_G (fun _ => False) ad td s s.heap) (a0 : Nat) (a1 : Int32) (a2 : Int64) (a4 : Int32) (a6 : Int32) (hk0 : a0 < 2) {ls : Array Slot} (hl : lv_has ls 11 [(0, .ref (ad a0)), (1, .int a1), (2, .long a2), (4, .int a4), (6, .int a6)]) : W p l e rmFormat_rounded s m args below meth c s.heap [] 0 0 (MQ below (k2_QcV (.long (fFormat_rounded_38 a0 a1 a2 a4 a6))) args s 0 0 (fun _ => False)) (F0 m 38 ls []) := by
  obtain ⟨hx, hb, hr, hml, hown, hts, hlocks⟩ := id C
  have hS : va_S (fun _ => False) s.heap s.heap [] := va_S.rf
  refine lv_iload hx hb dFormat_rounded_38 (lv_at hl 4 rfl) ?_
  refine lv_aload_n hx hb dFormat_rounded_40 rfl (lv_at hl 0 rfl) ?_
  refine va_getX hx hb hG.2.1.2.2.1 hk0 hS hown (hts _ w_813) (fun _ h9 => h9) dFormat_rounded_41 ?_
  refine lv_isub hx hb dFormat_rounded_44 ?_
  refine lv_istore (lv' := [(7, .int (a6 - (fm_leastScale a0))), (0, .ref (ad a0)), (1, .int a1), (2, .long a2), (4, .int a4), (6, .int a6)]) hx hb dFormat_rounded_45 hl (by decide) rfl (fun ls hl => ?_)
  rw [(show fFormat_rounded_38 a0 a1 a2 a4 a6 = fFormat_rounded_47 a0 a1 a2 a4 a6 (a6 - (fm_leastScale a0)) by rw [fFormat_rounded_38])]
  exact kFormat_rounded_47 C hG a0 a1 a2 a4 a6 (a6 - (fm_leastScale a0)) hk0 (lv_sub hl [1, 2, 3, 4, 5, 0] rfl)
set_option maxHeartbeats 4000000 in
set_option maxRecDepth 100000 in
theorem kFormat_rounded_19 {p : Program} {l : Launch} {e : Env} {s : State} {m : MethodId} {args : Array Value} {below : List Frame} {meth : Method} {c : Code} {ad td : Nat → Nat} (C : pw_C p s m args meth c cFormat_rounded 11 (some .long) "BitNumbers$Format") (hG : pw_G (fun _ => False) ad td s s.heap) (a0 : Nat) (a1 : Int32) (a2 : Int64) (a4 : Int32) (a5 : Int32) (hk0 : a0 < 2) {ls : Array Slot} (hl : lv_has ls 11 [(0, .ref (ad a0)), (1, .int a1), (2, .long a2), (4, .int a4), (5, .int a5)]) : W p l e rmFormat_rounded s m args below meth c s.heap [] 0 0 (MQ below (k2_QcV (.long (fFormat_rounded_19 a0 a1 a2 a4 a5))) args s 0 0 (fun _ => False)) (F0 m 19 ls []) := by
  obtain ⟨hx, hb, hr, hml, hown, hts, hlocks⟩ := id C
  have hS : va_S (fun _ => False) s.heap s.heap [] := va_S.rf
  refine lv_iload hx hb dFormat_rounded_19 (lv_at hl 3 rfl) ?_
  refine lv_iload hx hb dFormat_rounded_21 (lv_at hl 4 rfl) ?_
  refine lv_iadd hx hb dFormat_rounded_23 ?_
  refine lv_aload_n hx hb dFormat_rounded_24 rfl (lv_at hl 0 rfl) ?_
  refine va_getX hx hb hG.2.1.1 hk0 hS hown (hts _ w_811) (fun _ h9 => h9) dFormat_rounded_25 ?_
  refine lv_isub hx hb dFormat_rounded_28 ?_
  refine lv_aload_n hx hb dFormat_rounded_29 rfl (lv_at hl 0 rfl) ?_
  refine va_getX hx hb hG.2.1.2.2.1 hk0 hS hown (hts _ w_813) (fun _ h9 => h9) dFormat_rounded_30 ?_
  refine pw_mmax hx hb (by rw [hml]; exact hl.1.symm) hown (hts _ w_327) (hts _ w_328) (hts _ w_45) (hts _ w_329) (Nat.le_of_ble_eq_true rfl) (Nat.le_of_ble_eq_true rfl) (Nat.zero_le _) (Nat.zero_le _) dFormat_rounded_33 ?_
  refine lv_istore (lv' := [(6, .int (fMath_max ((a4 + a5) - (fm_places a0)) (fm_leastScale a0))), (0, .ref (ad a0)), (1, .int a1), (2, .long a2), (4, .int a4), (5, .int a5)]) hx hb dFormat_rounded_36 hl (by decide) rfl (fun ls hl => ?_)
  rw [(show fFormat_rounded_19 a0 a1 a2 a4 a5 = fFormat_rounded_38 a0 a1 a2 a4 (fMath_max ((a4 + a5) - (fm_places a0)) (fm_leastScale a0)) by rw [fFormat_rounded_19])]
  exact kFormat_rounded_38 C hG a0 a1 a2 a4 (fMath_max ((a4 + a5) - (fm_places a0)) (fm_leastScale a0)) hk0 (lv_sub hl [1, 2, 3, 4, 0] rfl)
set_option maxHeartbeats 4000000 in
set_option maxRecDepth 100000 in
theorem kFormat_rounded_0 {p : Program} {l : Launch} {e : Env} {s : State} {m : MethodId} {args : Array Value} {below : List Frame} {meth : Method} {c : Code} {ad td : Nat → Nat} (C : pw_C p s m args meth c cFormat_rounded 11 (some .long) "BitNumbers$Format") (hG : pw_G (fun _ => False) ad td s s.heap) (a0 : Nat) (a1 : Int32) (a2 : Int64) (a4 : Int32) (hk0 : a0 < 2) {ls : Array Slot} (hl : lv_has ls 11 [(0, .ref (ad a0)), (1, .int a1), (2, .long a2), (4, .int a4)]) : W p l e rmFormat_rounded s m args below meth c s.heap [] 0 0 (MQ below (k2_QcV (.long (fFormat_rounded a0 a1 a2 a4))) args s 0 0 (fun _ => False)) (F0 m 0 ls []) := by
  obtain ⟨hx, hb, hr, hml, hown, hts, hlocks⟩ := id C
  have hS : va_S (fun _ => False) s.heap s.heap [] := va_S.rf
  refine lv_lload_n hx hb dFormat_rounded_0 rfl (lv_at hl 2 rfl) ?_
  refine lv_lconst (v := 0) hx hb dFormat_rounded_1 (by decide) ?_
  refine W.lcmp hx hb dFormat_rounded_2 ?_
  refine lv_if_ne (tgt := 13) hx hb dFormat_rounded_3 (by decide) (fun h1 => ?_) (fun h1 => ?_)
  · have h1 : ¬ (a2 = 0) := fun w => h1 ((lg_cmp_eq _ _).mpr w)
    refine lv_lload_n hx hb dFormat_rounded_13 rfl (lv_at hl 2 rfl) ?_
    refine pw_call (va_runS (As := [.long a2]) (rest := []) ⟨hx, hb, hml, hown, hts⟩ (qWhole_length l a2) (va_cwS 1 hts (gS w_422 w_331 w_35 w_332) rfl rfl rfl (by decide +kernel) ⟨Nat.le_of_ble_eq_true rfl, Nat.le_of_ble_eq_true rfl⟩) ⟨pw_bT, fun U hU hW => ⟨rfl, trivial⟩⟩ rfl rfl hl.1 rfl (lv_room (Nat.le_of_ble_eq_true rfl)) dFormat_rounded_14 ⟨Nat.zero_le _, Nat.zero_le _⟩) ?_
    refine lv_istore (lv' := [(5, .int (fWhole_length a2)), (0, .ref (ad a0)), (1, .int a1), (2, .long a2), (4, .int a4)]) hx hb dFormat_rounded_17 hl (by decide) rfl (fun ls hl => ?_)
    rw [(show fFormat_rounded a0 a1 a2 a4 = fFormat_rounded_19 a0 a1 a2 a4 (fWhole_length a2) by rw [fFormat_rounded, if_neg h1])]
    exact kFormat_rounded_19 C hG a0 a1 a2 a4 (fWhole_length a2) hk0 (lv_sub hl [1, 2, 3, 4, 0] rfl)
  · have h1 : a2 = 0 := (lg_cmp_eq _ _).mp h1
    refine lv_aload_n hx hb dFormat_rounded_6 rfl (lv_at hl 0 rfl) ?_
    refine lv_iload_n hx hb dFormat_rounded_7 rfl (lv_at hl 1 rfl) ?_
    refine lv_lconst (v := 0) hx hb dFormat_rounded_8 (by decide) ?_
    refine pw_call (va_runV (As := [.int a1, .long 0]) (rest := []) ⟨hx, hb, hml, hown, hts⟩ (qFormat_signed l ad td a0 a1 0 hk0) (cwV 2 hts (gV w_421 w_403 w_404 w_44 w_405) rfl rfl rfl (by decide +kernel) ⟨Nat.le_of_ble_eq_true rfl, Nat.le_of_ble_eq_true rfl⟩) ⟨pw_bG, va_recvE hG.1 hk0 hS, fun U hU hW => ⟨rfl, (hG.at hU hW)⟩⟩ rfl rfl hl.1 rfl (lv_room (Nat.le_of_ble_eq_true rfl)) dFormat_rounded_9 ⟨Nat.zero_le _, Nat.zero_le _⟩) ?_
    exact W.lret hx hb hr (fun t ht _ => ⟨by rw [(show fFormat_rounded a0 a1 a2 a4 = fFormat_signed a0 a1 0 by rw [fFormat_rounded, if_pos h1])], ht⟩) (fun q h => nomatch h) dFormat_rounded_12
set_option maxHeartbeats 4000000 in
set_option maxRecDepth 100000 in
theorem qFormat_rounded (l : Launch) (ad td : Nat → Nat) (a0 : Nat) (a1 : Int32) (a2 : Int64) (a4 : Int32) (hk0 : a0 < 2) : Met l yFormat_rounded wsFormat_rounded rmFormat_rounded (va_Pc [.ref (ad a0), .int a1, .long a2, .int a4] (fun U => pw_G (fun _ => False) ad td U U.heap)) (k2_QcV (.long (fFormat_rounded a0 a1 a2 a4))) 0 0 (fun _ => False) := by
  refine Met.ofW (cc := cFormat_rounded) (maxL := 11) (ret := (some .long)) (by decide) rfl ?_
  intro p e s m args below meth c s₁ B hml hv
  obtain ⟨rfl, hG⟩ := hv
  have hts0 := atoms_spec (ws := wsFormat_rounded) B.pre
  have hts := fun (w : Cond) (h : w ∈ aw) => hts0 w (List.mem_cons_of_mem _ h)
  have hown : s.vm.findClass "BitNumbers$Format" = some m.cls := findClass_of_methodNamed B.named
  have hl := lv_entry ([.ref (ad a0), .int a1, .long a2, .int a4]) (n := 11) (Nat.le_of_ble_eq_true rfl)
  rw [lg_entry_eq]
  generalize (lg_sl ([.ref (ad a0), .int a1, .long a2, .int a4]) ++ List.replicate (11 - (lg_sl ([.ref (ad a0), .int a1, .long a2, .int a4])).length) Slot.unset).toArray = ls at hl ⊢
  exact kFormat_rounded_0 ⟨B.exec, B.bytes, B.returns, hml, hown, hts, B.notSynchronized⟩ hG a0 a1 a2 a4 hk0 hl

set_option maxHeartbeats 4000000 in
set_option maxRecDepth 100000 in
theorem kConversions_otherFormat_0 {p : Program} {l : Launch} {e : Env} {s : State} {m : MethodId} {args : Array Value} {below : List Frame} {meth : Method} {c : Code} {ad td : Nat → Nat} (C : pw_C p s m args meth c cConversions_otherFormat 4 (some .long) "BitNumbers$Conversions") (hG : pw_G (fun _ => False) ad td s s.heap) (a0 : Nat) (a1 : Nat) (a2 : Int64) (hk0 : a0 < 2) (hk1 : a1 < 2) {ls : Array Slot} (hl : lv_has ls 4 [(0, .ref (ad a0)), (1, .ref (ad a1)), (2, .long a2)]) : W p l e rmConversions_otherFormat s m args below meth c s.heap [] 0 0 (MQ below (k2_QcV (.long (fConversions_otherFormat a0 a1 a2))) args s 0 0 (fun _ => False)) (F0 m 0 ls []) := by
  obtain ⟨hx, hb, hr, hml, hown, hts, hlocks⟩ := id C
  have hS : va_S (fun _ => False) s.heap s.heap [] := va_S.rf
  refine lv_aload_n hx hb dConversions_otherFormat_0 rfl (lv_at hl 0 rfl) ?_
  refine lv_lload_n hx hb dConversions_otherFormat_1 rfl (lv_at hl 2 rfl) ?_
  refine pw_call (va_runV (As := [.long a2]) (rest := []) ⟨hx, hb, hml, hown, hts⟩ (qFormat_isNone l ad td a0 a2 hk0) (cwV 1 hts (gV w_307 w_154 w_155 w_44 w_156) rfl rfl rfl (by decide +kernel) ⟨Nat.le_of_ble_eq_true rfl, Nat.le_of_ble_eq_true rfl⟩) ⟨pw_bG, va_recvE hG.1 hk0 hS, fun U hU hW => ⟨rfl, (hG.at hU hW)⟩⟩ rfl rfl hl.1 rfl (lv_room (Nat.le_of_ble_eq_true rfl)) dConversions_otherFormat_2 ⟨Nat.zero_le _, Nat.zero_le _⟩) ?_
  refine lv_if_eq (tgt := 13) hx hb dConversions_otherFormat_5 (by decide) (fun h1 => ?_) (fun h1 => ?_)
  · refine lv_aload_n hx hb dConversions_otherFormat_13 rfl (lv_at hl 0 rfl) ?_
    refine lv_lload_n hx hb dConversions_otherFormat_14 rfl (lv_at hl 2 rfl) ?_
    refine pw_call (va_runV (As := [.long a2]) (rest := []) ⟨hx, hb, hml, hown, hts⟩ (qFormat_isInfinite l ad td a0 a2 hk0) (cwV 1 hts (gV w_472 w_159 w_160 w_44 w_161) rfl rfl rfl (by decide +kernel) ⟨Nat.le_of_ble_eq_true rfl, Nat.le_of_ble_eq_true rfl⟩) ⟨pw_bG, va_recvE hG.1 hk0 hS, fun U hU hW => ⟨rfl, (hG.at hU hW)⟩⟩ rfl rfl hl.1 rfl (lv_room (Nat.le_of_ble_eq_true rfl)) dConversions_otherFormat_15 ⟨Nat.zero_le _, Nat.zero_le _⟩) ?_
    refine lv_if_eq (tgt := 35) hx hb dConversions_otherFormat_18 (by decide) (fun h2 => ?_) (fun h2 => ?_)
    · refine lv_aload_n hx hb dConversions_otherFormat_35 rfl (lv_at hl 1 rfl) ?_
      refine lv_aload_n hx hb dConversions_otherFormat_36 rfl (lv_at hl 0 rfl) ?_
      refine lv_lload_n hx hb dConversions_otherFormat_37 rfl (lv_at hl 2 rfl) ?_
      refine pw_call (va_runV (As := [.long a2]) (rest := [.ref (ad a1)]) ⟨hx, hb, hml, hown, hts⟩ (qFormat_isNegative l ad td a0 a2 hk0) (cwV 1 hts (gV w_314 w_142 w_143 w_44 w_144) rfl rfl rfl (by decide +kernel) ⟨Nat.le_of_ble_eq_true rfl, Nat.le_of_ble_eq_true rfl⟩) ⟨pw_bG, va_recvE hG.1 hk0 hS, fun U hU hW => ⟨rfl, (hG.at hU hW)⟩⟩ rfl rfl hl.1 rfl (lv_room (Nat.le_of_ble_eq_true rfl)) dConversions_otherFormat_38 ⟨Nat.zero_le _, Nat.zero_le _⟩) ?_
      refine lv_aload_n hx hb dConversions_otherFormat_41 rfl (lv_at hl 0 rfl) ?_
      refine lv_lload_n hx hb dConversions_otherFormat_42 rfl (lv_at hl 2 rfl) ?_
      refine pw_call (va_runV (As := [.long a2]) (rest := [.int (fFormat_isNegative a0 a2), .ref (ad a1)]) ⟨hx, hb, hml, hown, hts⟩ (qFormat_significand l ad td a0 a2 hk0) (cwV 1 hts (gV w_319 w_320 w_321 w_44 w_322) rfl rfl rfl (by decide +kernel) ⟨Nat.le_of_ble_eq_true rfl, Nat.le_of_ble_eq_true rfl⟩) ⟨pw_bG, va_recvE hG.1 hk0 hS, fun U hU hW => ⟨rfl, (hG.at hU hW)⟩⟩ rfl rfl hl.1 rfl (lv_room (Nat.le_of_ble_eq_true rfl)) dConversions_otherFormat_43 ⟨Nat.zero_le _, Nat.zero_le _⟩) ?_
      refine lv_aload_n hx hb dConversions_otherFormat_46 rfl (lv_at hl 0 rfl) ?_
      refine lv_lload_n hx hb dConversions_otherFormat_47 rfl (lv_at hl 2 rfl) ?_
      refine pw_call (va_runV (As := [.long a2]) (rest := [.long (fFormat_significand a0 a2), .int (fFormat_isNegative a0 a2), .ref (ad a1)]) ⟨hx, hb, hml, hown, hts⟩ (qFormat_scale l ad td a0 a2 hk0) (cwV 1 hts (gV w_323 w_324 w_325 w_44 w_326) rfl rfl rfl (by decide +kernel) ⟨Nat.le_of_ble_eq_true rfl, Nat.le_of_ble_eq_true rfl⟩) ⟨pw_bG, va_recvE hG.1 hk0 hS, fun U hU hW => ⟨rfl, (hG.at hU hW)⟩⟩ rfl rfl hl.1 rfl (lv_room (Nat.le_of_ble_eq_true rfl)) dConversions_otherFormat_48 ⟨Nat.zero_le _, Nat.zero_le _⟩) ?_
      refine pw_call (va_runV (As := [.int (fFormat_isNegative a0 a2), .long (fFormat_significand a0 a2), .int (fFormat_scale a0 a2)]) (rest := []) ⟨hx, hb, hml, hown, hts⟩ (qFormat_rounded l ad td a1 (fFormat_isNegative a0 a2) (fFormat_significand a0 a2) (fFormat_scale a0 a2) hk1) (cwV 3 hts (gV w_474 w_418 w_419 w_44 w_420) rfl rfl rfl (by decide +kernel) ⟨Nat.le_of_ble_eq_true rfl, Nat.le_of_ble_eq_true rfl⟩) ⟨pw_bG, va_recvE hG.1 hk1 hS, fun U hU hW => ⟨rfl, (hG.at hU hW)⟩⟩ rfl rfl hl.1 rfl (lv_room (Nat.le_of_ble_eq_true rfl)) dConversions_otherFormat_51 ⟨Nat.zero_le _, Nat.zero_le _⟩) ?_
      exact W.lret hx hb hr (fun t ht _ => ⟨by rw [(show fConversions_otherFormat a0 a1 a2 = fFormat_rounded a1 (fFormat_isNegative a0 a2) (fFormat_significand a0 a2) (fFormat_scale a0 a2) by rw [fConversions_otherFormat, if_pos h1, if_pos h2])], ht⟩) (fun q h => nomatch h) dConversions_otherFormat_54
    · refine lv_aload_n hx hb dConversions_otherFormat_21 rfl (lv_at hl 1 rfl) ?_
      refine lv_aload_n hx hb dConversions_otherFormat_22 rfl (lv_at hl 0 rfl) ?_
      refine lv_lload_n hx hb dConversions_otherFormat_23 rfl (lv_at hl 2 rfl) ?_
      refine pw_call (va_runV (As := [.long a2]) (rest := [.ref (ad a1)]) ⟨hx, hb, hml, hown, hts⟩ (qFormat_isNegative l ad td a0 a2 hk0) (cwV 1 hts (gV w_314 w_142 w_143 w_44 w_144) rfl rfl rfl (by decide +kernel) ⟨Nat.le_of_ble_eq_true rfl, Nat.le_of_ble_eq_true rfl⟩) ⟨pw_bG, va_recvE hG.1 hk0 hS, fun U hU hW => ⟨rfl, (hG.at hU hW)⟩⟩ rfl rfl hl.1 rfl (lv_room (Nat.le_of_ble_eq_true rfl)) dConversions_otherFormat_24 ⟨Nat.zero_le _, Nat.zero_le _⟩) ?_
      refine lv_aload_n hx hb dConversions_otherFormat_27 rfl (lv_at hl 1 rfl) ?_
      refine va_getX hx hb hG.2.1.2.2.2.2.2.1 hk1 hS hown (hts _ w_819) (fun _ h9 => h9) dConversions_otherFormat_28 ?_
      refine pw_call (va_runV (As := [.int (fFormat_isNegative a0 a2), .long (fm_infinite a1)]) (rest := []) ⟨hx, hb, hml, hown, hts⟩ (qFormat_signed l ad td a1 (fFormat_isNegative a0 a2) (fm_infinite a1) hk1) (cwV 2 hts (gV w_473 w_403 w_404 w_44 w_405) rfl rfl rfl (by decide +kernel) ⟨Nat.le_of_ble_eq_true rfl, Nat.le_of_ble_eq_true rfl⟩) ⟨pw_bG, va_recvE hG.1 hk1 hS, fun U hU hW => ⟨rfl, (hG.at hU hW)⟩⟩ rfl rfl hl.1 rfl (lv_room (Nat.le_of_ble_eq_true rfl)) dConversions_otherFormat_31 ⟨Nat.zero_le _, Nat.zero_le _⟩) ?_
      exact W.lret hx hb hr (fun t ht _ => ⟨by rw [(show fConversions_otherFormat a0 a1 a2 = fFormat_signed a1 (fFormat_isNegative a0 a2) (fm_infinite a1) by rw [fConversions_otherFormat, if_pos h1, if_neg h2])], ht⟩) (fun q h => nomatch h) dConversions_otherFormat_34
  · refine lv_aload_n hx hb dConversions_otherFormat_8 rfl (lv_at hl 1 rfl) ?_
    refine va_getX hx hb hG.2.1.2.2.2.2.2.2 hk1 hS hown (hts _ w_818) (fun _ h9 => h9) dConversions_otherFormat_9 ?_
    exact W.lret hx hb hr (fun t ht _ => ⟨by rw [(show fConversions_otherFormat a0 a1 a2 = fm_none a1 by rw [fConversions_otherFormat, if_neg h1])], ht⟩) (fun q h => nomatch h) dConversions_otherFormat_12
set_option maxHeartbeats 4000000 in
set_option maxRecDepth 100000 in
theorem qConversions_otherFormat (l : Launch) (ad td : Nat → Nat) (a0 : Nat) (a1 : Nat) (a2 : Int64) (hk0 : a0 < 2) (hk1 : a1 < 2) : Met l yConversions_otherFormat wsConversions_otherFormat rmConversions_otherFormat (va_Pc [.ref (ad a0), .ref (ad a1), .long a2] (fun U => pw_G (fun _ => False) ad td U U.heap)) (k2_QcV (.long (fConversions_otherFormat a0 a1 a2))) 0 0 (fun _ => False) := by
  refine Met.ofW (cc := cConversions_otherFormat) (maxL := 4) (ret := (some .long)) (by decide) rfl ?_
  intro p e s m args below meth c s₁ B hml hv
  obtain ⟨rfl, hG⟩ := hv
  have hts0 := atoms_spec (ws := wsConversions_otherFormat) B.pre
  have hts := fun (w : Cond) (h : w ∈ aw) => hts0 w (List.mem_cons_of_mem _ h)
  have hown : s.vm.findClass "BitNumbers$Conversions" = some m.cls := findClass_of_methodNamed B.named
  have hl := lv_entry ([.ref (ad a0), .ref (ad a1), .long a2]) (n := 4) (Nat.le_of_ble_eq_true rfl)
  rw [lg_entry_eq]
  generalize (lg_sl ([.ref (ad a0), .ref (ad a1), .long a2]) ++ List.replicate (4 - (lg_sl ([.ref (ad a0), .ref (ad a1), .long a2])).length) Slot.unset).toArray = ls at hl ⊢
  exact kConversions_otherFormat_0 ⟨B.exec, B.bytes, B.returns, hml, hown, hts, B.notSynchronized⟩ hG a0 a1 a2 hk0 hk1 hl

set_option maxHeartbeats 4000000 in
set_option maxRecDepth 100000 in
theorem kConversions_fromWhole_49 {p : Program} {l : Launch} {e : Env} {s : State} {m : MethodId} {args : Array Value} {below : List Frame} {meth : Method} {c : Code} {ad td : Nat → Nat} (C : pw_C p s m args meth c cConversions_fromWhole 8 (some .long) "BitNumbers$Conversions") (hG : pw_G (fun _ => False) ad td s s.heap) (s0 : Int64) (s1 : Int32) (s2 : Nat) (hzs1 : s1 = 0 ∨ s1 = 1) (hks2 : s2 < 2) {ls : Array Slot} (hl : lv_has ls 8 []) : W p l e rmConversions_fromWhole s m args below meth c s.heap [] 0 0 (MQ below (k2_QcV (.long (fConversions_fromWhole_49 s0 s1 s2))) args s 0 0 (fun _ => False)) (F0 m 49 ls [.long s0, .int s1, .ref (ad s2)]) := by
  obtain ⟨hx, hb, hr, hml, hown, hts, hlocks⟩ := id C
  have hS : va_S (fun _ => False) s.heap s.heap [] := va_S.rf
  refine lv_iconst (v := 0) hx hb dConversions_fromWhole_49 (by decide) ?_
  refine pw_call (va_runV (As := [.int s1, .long s0, .int 0]) (rest := []) ⟨hx, hb, hml, hown, hts⟩ (qFormat_rounded l ad td s2 s1 s0 0 hks2) (cwV 3 hts (gV w_474 w_418 w_419 w_44 w_420) rfl rfl rfl (by decide +kernel) ⟨Nat.le_of_ble_eq_true rfl, Nat.le_of_ble_eq_true rfl⟩) ⟨pw_bG, va_recvE hG.1 hks2 hS, fun U hU hW => ⟨rfl, (hG.at hU hW)⟩⟩ rfl rfl hl.1 rfl (lv_room (Nat.le_of_ble_eq_true rfl)) dConversions_fromWhole_50 ⟨Nat.zero_le _, Nat.zero_le _⟩) ?_
  exact W.lret hx hb hr (fun t ht _ => ⟨by rw [(show fConversions_fromWhole_49 s0 s1 s2 = fFormat_rounded s2 s1 s0 0 by rw [fConversions_fromWhole_49])], ht⟩) (fun q h => nomatch h) dConversions_fromWhole_53
set_option maxHeartbeats 4000000 in
set_option maxRecDepth 100000 in
theorem kConversions_fromWhole_31 {p : Program} {l : Launch} {e : Env} {s : State} {m : MethodId} {args : Array Value} {below : List Frame} {meth : Method} {c : Code} {ad td : Nat → Nat} (C : pw_C p s m args meth c cConversions_fromWhole 8 (some .long) "BitNumbers$Conversions") (hG : pw_G (fun _ => False) ad td s s.heap) (a2 : Nat) (a5 : Int64) (s0 : Int32) (hk2 : a2 < 2) (hzs0 : s0 = 0 ∨ s0 = 1) {ls : Array Slot} (hl : lv_has ls 8 [(2, .ref (ad a2)), (5, .long a5)]) : W p l e rmConversions_fromWhole s m args below meth c s.heap [] 0 0 (MQ below (k2_QcV (.long (fConversions_fromWhole_31 a2 a5 s0))) args s 0 0 (fun _ => False)) (F0 m 31 ls [.int s0]) := by
  obtain ⟨hx, hb, hr, hml, hown, hts, hlocks⟩ := id C
  have hS : va_S (fun _ => False) s.heap s.heap [] := va_S.rf
  refine lv_istore (lv' := [(7, .int s0), (2, .ref (ad a2)), (5, .long a5)]) hx hb dConversions_fromWhole_31 hl (by decide) rfl (fun ls hl => ?_)
  refine lv_aload_n hx hb dConversions_fromWhole_33 rfl (lv_at hl 1 rfl) ?_
  refine lv_iload hx hb dConversions_fromWhole_34 (lv_at hl 0 rfl) ?_
  refine lv_iload hx hb dConversions_fromWhole_36 (lv_at hl 0 rfl) ?_
  refine lv_if_eq (tgt := 47) hx hb dConversions_fromWhole_38 (by decide) (fun h1 => ?_) (fun h1 => ?_)
  · refine lv_lload hx hb dConversions_fromWhole_47 (lv_at hl 2 rfl) ?_
    rw [(show fConversions_fromWhole_31 a2 a5 s0 = fConversions_fromWhole_49 a5 s0 a2 by rw [fConversions_fromWhole_31, if_pos h1])]
    exact kConversions_fromWhole_49 C hG a5 s0 a2 hzs0 hk2 (lv_sub hl [] rfl)
  · refine lv_lload hx hb dConversions_fromWhole_41 (lv_at hl 2 rfl) ?_
    refine lv_lneg hx hb dConversions_fromWhole_43 ?_
    refine lv_goto (tgt := 49) hx hb dConversions_fromWhole_44 (by decide) ?_
    rw [(show fConversions_fromWhole_31 a2 a5 s0 = fConversions_fromWhole_49 (-a5) s0 a2 by rw [fConversions_fromWhole_31, if_neg h1])]
    exact kConversions_fromWhole_49 C hG (-a5) s0 a2 hzs0 hk2 (lv_sub hl [] rfl)
set_option maxHeartbeats 4000000 in
set_option maxRecDepth 100000 in
theorem kConversions_fromWhole_30 {p : Program} {l : Launch} {e : Env} {s : State} {m : MethodId} {args : Array Value} {below : List Frame} {meth : Method} {c : Code} {ad td : Nat → Nat} (C : pw_C p s m args meth c cConversions_fromWhole 8 (some .long) "BitNumbers$Conversions") (hG : pw_G (fun _ => False) ad td s s.heap) (a2 : Nat) (a5 : Int64) (hk2 : a2 < 2) {ls : Array Slot} (hl : lv_has ls 8 [(2, .ref (ad a2)), (5, .long a5)]) : W p l e rmConversions_fromWhole s m args below meth c s.heap [] 0 0 (MQ below (k2_QcV (.long (fConversions_fromWhole_30 a2 a5))) args s 0 0 (fun _ => False)) (F0 m 30 ls []) := by
  obtain ⟨hx, hb, hr, hml, hown, hts, hlocks⟩ := id C
  have hS : va_S (fun _ => False) s.heap s.heap [] := va_S.rf
  refine lv_iconst (v := 0) hx hb dConversions_fromWhole_30 (by decide) ?_
  rw [(show fConversions_fromWhole_30 a2 a5 = fConversions_fromWhole_31 a2 a5 0 by rw [fConversions_fromWhole_30])]
  exact kConversions_fromWhole_31 C hG a2 a5 0 hk2 (Or.inl rfl) (lv_sub hl [0, 1] rfl)
set_option maxHeartbeats 4000000 in
set_option maxRecDepth 100000 in
theorem kConversions_fromWhole_13 {p : Program} {l : Launch} {e : Env} {s : State} {m : MethodId} {args : Array Value} {below : List Frame} {meth : Method} {c : Code} {ad td : Nat → Nat} (C : pw_C p s m args meth c cConversions_fromWhole 8 (some .long) "BitNumbers$Conversions") (hG : pw_G (fun _ => False) ad td s s.heap) (a0 : Int32) (a2 : Nat) (s0 : Int64) (hk2 : a2 < 2) {ls : Array Slot} (hl : lv_has ls 8 [(0, .int a0), (2, .ref (ad a2))]) : W p l e rmConversions_fromWhole s m args below meth c s.heap [] 0 0 (MQ below (k2_QcV (.long (fConversions_fromWhole_13 a0 a2 s0))) args s 0 0 (fun _ => False)) (F0 m 13 ls [.long s0]) := by
  obtain ⟨hx, hb, hr, hml, hown, hts, hlocks⟩ := id C
  have hS : va_S (fun _ => False) s.heap s.heap [] := va_S.rf
  refine lv_lstore (lv' := [(5, .long s0), (0, .int a0), (2, .ref (ad a2))]) hx hb dConversions_fromWhole_13 hl (by decide) rfl (fun ls hl => ?_)
  refine lv_iload_n hx hb dConversions_fromWhole_15 rfl (lv_at hl 1 rfl) ?_
  refine lv_if_eq (tgt := 30) hx hb dConversions_fromWhole_16 (by decide) (fun h1 => ?_) (fun h1 => ?_)
  · rw [(show fConversions_fromWhole_13 a0 a2 s0 = fConversions_fromWhole_30 a2 s0 by rw [fConversions_fromWhole_13, if_pos h1])]
    exact kConversions_fromWhole_30 C hG a2 s0 hk2 (lv_sub hl [2, 0] rfl)
  · refine lv_lload hx hb dConversions_fromWhole_19 (lv_at hl 0 rfl) ?_
    refine lv_lconst (v := 0) hx hb dConversions_fromWhole_21 (by decide) ?_
    refine W.lcmp hx hb dConversions_fromWhole_22 ?_
    refine lv_if_ge (tgt := 30) hx hb dConversions_fromWhole_23 (by decide) (fun h2 => ?_) (fun h2 => ?_)
    · have h2 : 0 ≤ s0 := (lg_cmp_ge _ _).mp h2
      rw [(show fConversions_fromWhole_13 a0 a2 s0 = fConversions_fromWhole_30 a2 s0 by rw [fConversions_fromWhole_13, if_neg h1, if_pos h2])]
      exact kConversions_fromWhole_30 C hG a2 s0 hk2 (lv_sub hl [2, 0] rfl)
    · have h2 : ¬ (0 ≤ s0) := fun w => h2 ((lg_cmp_ge _ _).mpr w)
      refine lv_iconst (v := 1) hx hb dConversions_fromWhole_26 (by decide) ?_
      refine lv_goto (tgt := 31) hx hb dConversions_fromWhole_27 (by decide) ?_
      rw [(show fConversions_fromWhole_13 a0 a2 s0 = fConversions_fromWhole_31 a2 s0 1 by rw [fConversions_fromWhole_13, if_neg h1, if_neg h2])]
      exact kConversions_fromWhole_31 C hG a2 s0 1 hk2 (Or.inr rfl) (lv_sub hl [2, 0] rfl)
set_option maxHeartbeats 4000000 in
set_option maxRecDepth 100000 in
theorem kConversions_fromWhole_0 {p : Program} {l : Launch} {e : Env} {s : State} {m : MethodId} {args : Array Value} {below : List Frame} {meth : Method} {c : Code} {ad td : Nat → Nat} (C : pw_C p s m args meth c cConversions_fromWhole 8 (some .long) "BitNumbers$Conversions") (hG : pw_G (fun _ => False) ad td s s.heap) (a0 : Int32) (a1 : Int32) (a2 : Nat) (a3 : Int64) (hk2 : a2 < 2) {ls : Array Slot} (hl : lv_has ls 8 [(0, .int a0), (1, .int a1), (2, .ref (ad a2)), (3, .long a3)]) : W p l e rmConversions_fromWhole s m args below meth c s.heap [] 0 0 (MQ below (k2_QcV (.long (fConversions_fromWhole a0 a1 a2 a3))) args s 0 0 (fun _ => False)) (F0 m 0 ls []) := by
  obtain ⟨hx, hb, hr, hml, hown, hts, hlocks⟩ := id C
  have hS : va_S (fun _ => False) s.heap s.heap [] := va_S.rf
  refine lv_iload_n hx hb dConversions_fromWhole_0 rfl (lv_at hl 0 rfl) ?_
  refine lv_if_eq (tgt := 12) hx hb dConversions_fromWhole_1 (by decide) (fun h1 => ?_) (fun h1 => ?_)
  · refine lv_lload_n hx hb dConversions_fromWhole_12 rfl (lv_at hl 3 rfl) ?_
    rw [(show fConversions_fromWhole a0 a1 a2 a3 = fConversions_fromWhole_13 a0 a2 a3 by rw [fConversions_fromWhole, if_pos h1])]
    exact kConversions_fromWhole_13 C hG a0 a2 a3 hk2 (lv_sub hl [0, 2] rfl)
  · refine lv_iload_n hx hb dConversions_fromWhole_4 rfl (lv_at hl 1 rfl) ?_
    refine lv_lload_n hx hb dConversions_fromWhole_5 rfl (lv_at hl 3 rfl) ?_
    refine pw_call (va_runS (As := [.int a1, .long a3]) (rest := []) ⟨hx, hb, hml, hown, hts⟩ (qWhole_withSign l a1 a3) (va_cwS 2 hts (gS w_468 w_297 w_35 w_298) rfl rfl rfl (by decide +kernel) ⟨Nat.le_of_ble_eq_true rfl, Nat.le_of_ble_eq_true rfl⟩) ⟨pw_bT, fun U hU hW => ⟨rfl, trivial⟩⟩ rfl rfl hl.1 rfl (lv_room (Nat.le_of_ble_eq_true rfl)) dConversions_fromWhole_6 ⟨Nat.zero_le _, Nat.zero_le _⟩) ?_
    refine lv_goto (tgt := 13) hx hb dConversions_fromWhole_9 (by decide) ?_
    rw [(show fConversions_fromWhole a0 a1 a2 a3 = fConversions_fromWhole_13 a0 a2 (fWhole_withSign a1 a3) by rw [fConversions_fromWhole, if_neg h1])]
    exact kConversions_fromWhole_13 C hG a0 a2 (fWhole_withSign a1 a3) hk2 (lv_sub hl [0, 2] rfl)
set_option maxHeartbeats 4000000 in
set_option maxRecDepth 100000 in
theorem qConversions_fromWhole (l : Launch) (ad td : Nat → Nat) (a0 : Int32) (a1 : Int32) (a2 : Nat) (a3 : Int64) (hk2 : a2 < 2) : Met l yConversions_fromWhole wsConversions_fromWhole rmConversions_fromWhole (va_Pc [.int a0, .int a1, .ref (ad a2), .long a3] (fun U => pw_G (fun _ => False) ad td U U.heap)) (k2_QcV (.long (fConversions_fromWhole a0 a1 a2 a3))) 0 0 (fun _ => False) := by
  refine Met.ofW (cc := cConversions_fromWhole) (maxL := 8) (ret := (some .long)) (by decide) rfl ?_
  intro p e s m args below meth c s₁ B hml hv
  obtain ⟨rfl, hG⟩ := hv
  have hts0 := atoms_spec (ws := wsConversions_fromWhole) B.pre
  have hts := fun (w : Cond) (h : w ∈ aw) => hts0 w (List.mem_cons_of_mem _ h)
  have hown : s.vm.findClass "BitNumbers$Conversions" = some m.cls := findClass_of_methodNamed B.named
  have hl := lv_entry ([.int a0, .int a1, .ref (ad a2), .long a3]) (n := 8) (Nat.le_of_ble_eq_true rfl)
  rw [lg_entry_eq]
  generalize (lg_sl ([.int a0, .int a1, .ref (ad a2), .long a3]) ++ List.replicate (8 - (lg_sl ([.int a0, .int a1, .ref (ad a2), .long a3])).length) Slot.unset).toArray = ls at hl ⊢
  exact kConversions_fromWhole_0 ⟨B.exec, B.bytes, B.returns, hml, hown, hts, B.notSynchronized⟩ hG a0 a1 a2 a3 hk2 hl

set_option maxHeartbeats 4000000 in
set_option maxRecDepth 100000 in
theorem kConversions_lowestWithSign_0 {p : Program} {l : Launch} {e : Env} {s : State} {m : MethodId} {args : Array Value} {below : List Frame} {meth : Method} {c : Code} (C : pw_C p s m args meth c cConversions_lowestWithSign 3 (some .long) "BitNumbers$Conversions") (a0 : Int32) (a1 : Int64) {ls : Array Slot} (hl : lv_has ls 3 [(0, .int a0), (1, .long a1)]) : W p l e rmConversions_lowestWithSign s m args below meth c s.heap [] 0 0 (MQ below (k2_QcV (.long (fConversions_lowestWithSign a0 a1))) args s 0 0 (fun _ => False)) (F0 m 0 ls []) := by
  obtain ⟨hx, hb, hr, hml, hown, hts, hlocks⟩ := id C
  refine lv_iload_n hx hb dConversions_lowestWithSign_0 rfl (lv_at hl 0 rfl) ?_
  by_cases h1 : a0 = 192
  · refine lv_tableIn (tgt := 32) hx hb dConversions_lowestWithSign_1 (by rw [h1]; decide) (by rw [h1]; decide) (off := 31) (by rw [h1]; rfl) (by decide) ?_
    refine lv_lload_n hx hb dConversions_lowestWithSign_32 rfl (lv_at hl 1 rfl) ?_
    refine lv_l2i hx hb dConversions_lowestWithSign_33 rfl ?_
    refine lv_i2b hx hb dConversions_lowestWithSign_34 rfl ?_
    refine lv_i2l hx hb dConversions_lowestWithSign_35 rfl ?_
    exact W.lret hx hb hr (fun t ht _ => ⟨by rw [(show fConversions_lowestWithSign a0 a1 = a1.toInt32.toInt8.toInt32.toInt64 by rw [fConversions_lowestWithSign, if_pos h1])], ht⟩) (fun q h => nomatch h) dConversions_lowestWithSign_36
  by_cases h2 : a0 = 193
  · refine lv_tableIn (tgt := 37) hx hb dConversions_lowestWithSign_1 (by rw [h2]; decide) (by rw [h2]; decide) (off := 36) (by rw [h2]; rfl) (by decide) ?_
    refine lv_lload_n hx hb dConversions_lowestWithSign_37 rfl (lv_at hl 1 rfl) ?_
    refine lv_l2i hx hb dConversions_lowestWithSign_38 rfl ?_
    refine lv_i2s hx hb dConversions_lowestWithSign_39 rfl ?_
    refine lv_i2l hx hb dConversions_lowestWithSign_40 rfl ?_
    exact W.lret hx hb hr (fun t ht _ => ⟨by rw [(show fConversions_lowestWithSign a0 a1 = a1.toInt32.toInt16.toInt32.toInt64 by rw [fConversions_lowestWithSign, if_neg h1, if_pos h2])], ht⟩) (fun q h => nomatch h) dConversions_lowestWithSign_41
  by_cases h3 : a0 = 194
  · refine lv_tableIn (tgt := 32) hx hb dConversions_lowestWithSign_1 (by rw [h3]; decide) (by rw [h3]; decide) (off := 31) (by rw [h3]; rfl) (by decide) ?_
    refine lv_lload_n hx hb dConversions_lowestWithSign_32 rfl (lv_at hl 1 rfl) ?_
    refine lv_l2i hx hb dConversions_lowestWithSign_33 rfl ?_
    refine lv_i2b hx hb dConversions_lowestWithSign_34 rfl ?_
    refine lv_i2l hx hb dConversions_lowestWithSign_35 rfl ?_
    exact W.lret hx hb hr (fun t ht _ => ⟨by rw [(show fConversions_lowestWithSign a0 a1 = a1.toInt32.toInt8.toInt32.toInt64 by rw [fConversions_lowestWithSign, if_neg h1, if_neg h2, if_pos h3])], ht⟩) (fun q h => nomatch h) dConversions_lowestWithSign_36
  by_cases h4 : a0 = 195
  · refine lv_tableIn (tgt := 37) hx hb dConversions_lowestWithSign_1 (by rw [h4]; decide) (by rw [h4]; decide) (off := 36) (by rw [h4]; rfl) (by decide) ?_
    refine lv_lload_n hx hb dConversions_lowestWithSign_37 rfl (lv_at hl 1 rfl) ?_
    refine lv_l2i hx hb dConversions_lowestWithSign_38 rfl ?_
    refine lv_i2s hx hb dConversions_lowestWithSign_39 rfl ?_
    refine lv_i2l hx hb dConversions_lowestWithSign_40 rfl ?_
    exact W.lret hx hb hr (fun t ht _ => ⟨by rw [(show fConversions_lowestWithSign a0 a1 = a1.toInt32.toInt16.toInt32.toInt64 by rw [fConversions_lowestWithSign, if_neg h1, if_neg h2, if_neg h3, if_pos h4])], ht⟩) (fun q h => nomatch h) dConversions_lowestWithSign_41
  refine pw_tableD (tgt := 42) hx hb dConversions_lowestWithSign_1 ?_ (by decide) ?_
  · have th1 := lv_neT h1 (a := 192) (by decide)
    have th2 := lv_neT h2 (a := 193) (by decide)
    have th3 := lv_neT h3 (a := 194) (by decide)
    have th4 := lv_neT h4 (a := 195) (by decide)
    exact (show a0.toInt < 192 ∨ 195 < a0.toInt by omega).elim Or.inl (fun q => Or.inr (Or.inl q))
  refine lv_lload_n hx hb dConversions_lowestWithSign_42 rfl (lv_at hl 1 rfl) ?_
  refine lv_l2i hx hb dConversions_lowestWithSign_43 rfl ?_
  refine lv_i2l hx hb dConversions_lowestWithSign_44 rfl ?_
  exact W.lret hx hb hr (fun t ht _ => ⟨by rw [(show fConversions_lowestWithSign a0 a1 = a1.toInt32.toInt64 by rw [fConversions_lowestWithSign, if_neg h1, if_neg h2, if_neg h3, if_neg h4])], ht⟩) (fun q h => nomatch h) dConversions_lowestWithSign_45
set_option maxHeartbeats 4000000 in
set_option maxRecDepth 100000 in
theorem qConversions_lowestWithSign (l : Launch) (a0 : Int32) (a1 : Int64) : Met l yConversions_lowestWithSign wsConversions_lowestWithSign rmConversions_lowestWithSign (va_Pc [.int a0, .long a1] (fun _ => True)) (k2_QcV (.long (fConversions_lowestWithSign a0 a1))) 0 0 (fun _ => False) := by
  refine Met.ofW (cc := cConversions_lowestWithSign) (maxL := 3) (ret := (some .long)) (by decide) rfl ?_
  intro p e s m args below meth c s₁ B hml hv
  obtain ⟨rfl, hG⟩ := hv
  have hts0 := atoms_spec (ws := wsConversions_lowestWithSign) B.pre
  have hts := fun (w : Cond) (h : w ∈ aw) => hts0 w (List.mem_cons_of_mem _ h)
  have hown : s.vm.findClass "BitNumbers$Conversions" = some m.cls := findClass_of_methodNamed B.named
  have hl := lv_entry ([.int a0, .long a1]) (n := 3) (Nat.le_of_ble_eq_true rfl)
  rw [lg_entry_eq]
  generalize (lg_sl ([.int a0, .long a1]) ++ List.replicate (3 - (lg_sl ([.int a0, .long a1])).length) Slot.unset).toArray = ls at hl ⊢
  exact kConversions_lowestWithSign_0 ⟨B.exec, B.bytes, B.returns, hml, hown, hts, B.notSynchronized⟩ a0 a1 hl

set_option maxHeartbeats 4000000 in
set_option maxRecDepth 100000 in
theorem kConversions_result_75 {p : Program} {l : Launch} {e : Env} {s : State} {m : MethodId} {args : Array Value} {below : List Frame} {meth : Method} {c : Code} {ad td : Nat → Nat} (C : pw_C p s m args meth c cConversions_result 5 (some .long) "BitNumbers$Conversions") (hG : pw_G (fun _ => False) ad td s s.heap) (a1 : Int32) (a2 : Int32) (a3 : Int64) {ls : Array Slot} (hl : lv_has ls 5 [(1, .int a1), (2, .int a2), (3, .long a3)]) : W p l e rmConversions_result s m args below meth c s.heap [] 0 0 (MQ below (k2_QcV (.long (fConversions_result_75 a1 a2 a3))) args s 0 0 (fun _ => False)) (F0 m 75 ls []) := by
  obtain ⟨hx, hb, hr, hml, hown, hts, hlocks⟩ := id C
  have hS : va_S (fun _ => False) s.heap s.heap [] := va_S.rf
  refine lv_iload_n hx hb dConversions_result_75 rfl (lv_at hl 0 rfl) ?_
  refine pw_call (va_runS (As := [.int a1]) (rest := []) ⟨hx, hb, hml, hown, hts⟩ (qFormat_of l ad td a1) (va_cwS 1 hts (gS w_464 w_135 w_44 w_136) rfl rfl rfl (by decide +kernel) ⟨Nat.le_of_ble_eq_true rfl, Nat.le_of_ble_eq_true rfl⟩) ⟨pw_bG, fun U hU hW => ⟨rfl, (hG.at hU hW)⟩⟩ rfl rfl hl.1 rfl (lv_room (Nat.le_of_ble_eq_true rfl)) dConversions_result_76 ⟨Nat.zero_le _, Nat.zero_le _⟩) ?_
  refine lv_iload_n hx hb dConversions_result_79 rfl (lv_at hl 1 rfl) ?_
  refine pw_call (va_runS (As := [.int a2]) (rest := [.ref (ad (fFormat_of a1))]) ⟨hx, hb, hml, hown, hts⟩ (qFormat_of l ad td a2) (va_cwS 1 hts (gS w_464 w_135 w_44 w_136) rfl rfl rfl (by decide +kernel) ⟨Nat.le_of_ble_eq_true rfl, Nat.le_of_ble_eq_true rfl⟩) ⟨pw_bG, fun U hU hW => ⟨rfl, (hG.at hU hW)⟩⟩ rfl rfl hl.1 rfl (lv_room (Nat.le_of_ble_eq_true rfl)) dConversions_result_80 ⟨Nat.zero_le _, Nat.zero_le _⟩) ?_
  refine lv_lload_n hx hb dConversions_result_83 rfl (lv_at hl 2 rfl) ?_
  refine pw_call (va_runS (As := [.ref (ad (fFormat_of a1)), .ref (ad (fFormat_of a2)), .long a3]) (rest := []) ⟨hx, hb, hml, hown, hts⟩ (qConversions_otherFormat l ad td (fFormat_of a1) (fFormat_of a2) a3 (rFormat_of a1) (rFormat_of a2)) (va_cwS 3 hts (gS w_469 w_470 w_42 w_471) rfl rfl rfl (by decide +kernel) ⟨Nat.le_of_ble_eq_true rfl, Nat.le_of_ble_eq_true rfl⟩) ⟨pw_bG, fun U hU hW => ⟨rfl, (hG.at hU hW)⟩⟩ rfl rfl hl.1 rfl (lv_room (Nat.le_of_ble_eq_true rfl)) dConversions_result_84 ⟨Nat.zero_le _, Nat.zero_le _⟩) ?_
  exact W.lret hx hb hr (fun t ht _ => ⟨by rw [(show fConversions_result_75 a1 a2 a3 = fConversions_otherFormat (fFormat_of a1) (fFormat_of a2) a3 by rw [fConversions_result_75])], ht⟩) (fun q h => nomatch h) dConversions_result_87
set_option maxHeartbeats 4000000 in
set_option maxRecDepth 100000 in
theorem kConversions_result_48 {p : Program} {l : Launch} {e : Env} {s : State} {m : MethodId} {args : Array Value} {below : List Frame} {meth : Method} {c : Code} {ad td : Nat → Nat} (C : pw_C p s m args meth c cConversions_result 5 (some .long) "BitNumbers$Conversions") (hG : pw_G (fun _ => False) ad td s s.heap) (a0 : Int32) (a1 : Int32) (a2 : Int32) (a3 : Int64) {ls : Array Slot} (hl : lv_has ls 5 [(0, .int a0), (1, .int a1), (2, .int a2), (3, .long a3)]) : W p l e rmConversions_result s m args below meth c s.heap [] 0 0 (MQ below (k2_QcV (.long (fConversions_result_48 a0 a1 a2 a3))) args s 0 0 (fun _ => False)) (F0 m 48 ls []) := by
  obtain ⟨hx, hb, hr, hml, hown, hts, hlocks⟩ := id C
  have hS : va_S (fun _ => False) s.heap s.heap [] := va_S.rf
  refine lv_iload_n hx hb dConversions_result_48 rfl (lv_at hl 0 rfl) ?_
  refine lv_sipush (v := 172) hx hb dConversions_result_49 (by decide) ?_
  refine lv_icmp_ne (tgt := 61) hx hb dConversions_result_52 (by decide) (fun h1 => ?_) (fun h1 => ?_)
  · refine lv_iload_n hx hb dConversions_result_61 rfl (lv_at hl 0 rfl) ?_
    refine lv_sipush (v := 182) hx hb dConversions_result_62 (by decide) ?_
    refine lv_icmp_eq (tgt := 75) hx hb dConversions_result_65 (by decide) (fun h2 => ?_) (fun h2 => ?_)
    · rw [(show fConversions_result_48 a0 a1 a2 a3 = fConversions_result_75 a1 a2 a3 by rw [fConversions_result_48, if_neg h1, if_pos h2])]
      exact kConversions_result_75 C hG a1 a2 a3 (lv_sub hl [1, 2, 3] rfl)
    · refine lv_iload_n hx hb dConversions_result_68 rfl (lv_at hl 0 rfl) ?_
      refine lv_sipush (v := 187) hx hb dConversions_result_69 (by decide) ?_
      refine lv_icmp_ne (tgt := 88) hx hb dConversions_result_72 (by decide) (fun h3 => ?_) (fun h3 => ?_)
      · refine lv_iload_n hx hb dConversions_result_88 rfl (lv_at hl 0 rfl) ?_
        refine lv_sipush (v := 188) hx hb dConversions_result_89 (by decide) ?_
        refine lv_icmp_ge (tgt := 109) hx hb dConversions_result_92 (by decide) (fun h4 => ?_) (fun h4 => ?_)
        · refine lv_iload_n hx hb dConversions_result_109 rfl (lv_at hl 0 rfl) ?_
          refine lv_lload_n hx hb dConversions_result_110 rfl (lv_at hl 3 rfl) ?_
          refine pw_call (va_runS (As := [.int a0, .long a3]) (rest := []) ⟨hx, hb, hml, hown, hts⟩ (qConversions_lowestWithSign l a0 a3) (va_cwS 2 hts (gS w_478 w_479 w_42 w_480) rfl rfl rfl (by decide +kernel) ⟨Nat.le_of_ble_eq_true rfl, Nat.le_of_ble_eq_true rfl⟩) ⟨pw_bT, fun U hU hW => ⟨rfl, trivial⟩⟩ rfl rfl hl.1 rfl (lv_room (Nat.le_of_ble_eq_true rfl)) dConversions_result_111 ⟨Nat.zero_le _, Nat.zero_le _⟩) ?_
          exact W.lret hx hb hr (fun t ht _ => ⟨by rw [(show fConversions_result_48 a0 a1 a2 a3 = fConversions_lowestWithSign a0 a3 by rw [fConversions_result_48, if_neg h1, if_neg h2, if_neg h3, if_pos h4])], ht⟩) (fun q h => nomatch h) dConversions_result_114
        · refine lv_iload_n hx hb dConversions_result_95 rfl (lv_at hl 0 rfl) ?_
          refine pw_call (va_runS (As := [.int a0]) (rest := []) ⟨hx, hb, hml, hown, hts⟩ (qConversions_isSigned l a0) (va_cwS 1 hts (gS w_308 w_309 w_42 w_310) rfl rfl rfl (by decide +kernel) ⟨Nat.le_of_ble_eq_true rfl, Nat.le_of_ble_eq_true rfl⟩) ⟨pw_bT, fun U hU hW => ⟨rfl, trivial⟩⟩ rfl rfl hl.1 rfl (lv_room (Nat.le_of_ble_eq_true rfl)) dConversions_result_96 ⟨Nat.zero_le _, Nat.zero_le _⟩) ?_
          refine lv_iload_n hx hb dConversions_result_99 rfl (lv_at hl 1 rfl) ?_
          refine lv_iload_n hx hb dConversions_result_100 rfl (lv_at hl 2 rfl) ?_
          refine pw_call (va_runS (As := [.int a2]) (rest := [.int a1, .int (fConversions_isSigned a0)]) ⟨hx, hb, hml, hown, hts⟩ (qFormat_of l ad td a2) (va_cwS 1 hts (gS w_464 w_135 w_44 w_136) rfl rfl rfl (by decide +kernel) ⟨Nat.le_of_ble_eq_true rfl, Nat.le_of_ble_eq_true rfl⟩) ⟨pw_bG, fun U hU hW => ⟨rfl, (hG.at hU hW)⟩⟩ rfl rfl hl.1 rfl (lv_room (Nat.le_of_ble_eq_true rfl)) dConversions_result_101 ⟨Nat.zero_le _, Nat.zero_le _⟩) ?_
          refine lv_lload_n hx hb dConversions_result_104 rfl (lv_at hl 3 rfl) ?_
          refine pw_call (va_runS (As := [.int (fConversions_isSigned a0), .int a1, .ref (ad (fFormat_of a2)), .long a3]) (rest := []) ⟨hx, hb, hml, hown, hts⟩ (qConversions_fromWhole l ad td (fConversions_isSigned a0) a1 (fFormat_of a2) a3 (rFormat_of a2)) (va_cwS 4 hts (gS w_475 w_476 w_42 w_477) rfl rfl rfl (by decide +kernel) ⟨Nat.le_of_ble_eq_true rfl, Nat.le_of_ble_eq_true rfl⟩) ⟨pw_bG, fun U hU hW => ⟨rfl, (hG.at hU hW)⟩⟩ rfl rfl hl.1 rfl (lv_room (Nat.le_of_ble_eq_true rfl)) dConversions_result_105 ⟨Nat.zero_le _, Nat.zero_le _⟩) ?_
          exact W.lret hx hb hr (fun t ht _ => ⟨by rw [(show fConversions_result_48 a0 a1 a2 a3 = fConversions_fromWhole (fConversions_isSigned a0) a1 (fFormat_of a2) a3 by rw [fConversions_result_48, if_neg h1, if_neg h2, if_neg h3, if_neg h4])], ht⟩) (fun q h => nomatch h) dConversions_result_108
      · rw [(show fConversions_result_48 a0 a1 a2 a3 = fConversions_result_75 a1 a2 a3 by rw [fConversions_result_48, if_neg h1, if_neg h2, if_pos h3])]
        exact kConversions_result_75 C hG a1 a2 a3 (lv_sub hl [1, 2, 3] rfl)
  · refine lv_iload_n hx hb dConversions_result_55 rfl (lv_at hl 1 rfl) ?_
    refine lv_lload_n hx hb dConversions_result_56 rfl (lv_at hl 3 rfl) ?_
    refine pw_call (va_runS (As := [.int a1, .long a3]) (rest := []) ⟨hx, hb, hml, hown, hts⟩ (qWhole_withSign l a1 a3) (va_cwS 2 hts (gS w_468 w_297 w_35 w_298) rfl rfl rfl (by decide +kernel) ⟨Nat.le_of_ble_eq_true rfl, Nat.le_of_ble_eq_true rfl⟩) ⟨pw_bT, fun U hU hW => ⟨rfl, trivial⟩⟩ rfl rfl hl.1 rfl (lv_room (Nat.le_of_ble_eq_true rfl)) dConversions_result_57 ⟨Nat.zero_le _, Nat.zero_le _⟩) ?_
    exact W.lret hx hb hr (fun t ht _ => ⟨by rw [(show fConversions_result_48 a0 a1 a2 a3 = fWhole_withSign a1 a3 by rw [fConversions_result_48, if_pos h1])], ht⟩) (fun q h => nomatch h) dConversions_result_60
set_option maxHeartbeats 4000000 in
set_option maxRecDepth 100000 in
theorem kConversions_result_46 {p : Program} {l : Launch} {e : Env} {s : State} {m : MethodId} {args : Array Value} {below : List Frame} {meth : Method} {c : Code} {ad td : Nat → Nat} (C : pw_C p s m args meth c cConversions_result 5 (some .long) "BitNumbers$Conversions") (hG : pw_G (fun _ => False) ad td s s.heap) (a3 : Int64) {ls : Array Slot} (hl : lv_has ls 5 [(3, .long a3)]) : W p l e rmConversions_result s m args below meth c s.heap [] 0 0 (MQ below (k2_QcV (.long (fConversions_result_46 a3))) args s 0 0 (fun _ => False)) (F0 m 46 ls []) := by
  obtain ⟨hx, hb, hr, hml, hown, hts, hlocks⟩ := id C
  have hS : va_S (fun _ => False) s.heap s.heap [] := va_S.rf
  refine lv_lload_n hx hb dConversions_result_46 rfl (lv_at hl 0 rfl) ?_
  exact W.lret hx hb hr (fun t ht _ => ⟨by rw [(show fConversions_result_46 a3 = a3 by rw [fConversions_result_46])], ht⟩) (fun q h => nomatch h) dConversions_result_47
set_option maxHeartbeats 4000000 in
set_option maxRecDepth 100000 in
theorem kConversions_result_0 {p : Program} {l : Launch} {e : Env} {s : State} {m : MethodId} {args : Array Value} {below : List Frame} {meth : Method} {c : Code} {ad td : Nat → Nat} (C : pw_C p s m args meth c cConversions_result 5 (some .long) "BitNumbers$Conversions") (hG : pw_G (fun _ => False) ad td s s.heap) (a0 : Int32) (a1 : Int32) (a2 : Int32) (a3 : Int64) {ls : Array Slot} (hl : lv_has ls 5 [(0, .int a0), (1, .int a1), (2, .int a2), (3, .long a3)]) : W p l e rmConversions_result s m args below meth c s.heap [] 0 0 (MQ below (k2_QcV (.long (fConversions_result a0 a1 a2 a3))) args s 0 0 (fun _ => False)) (F0 m 0 ls []) := by
  obtain ⟨hx, hb, hr, hml, hown, hts, hlocks⟩ := id C
  have hS : va_S (fun _ => False) s.heap s.heap [] := va_S.rf
  refine lv_iload_n hx hb dConversions_result_0 rfl (lv_at hl 0 rfl) ?_
  refine pw_call (va_runS (As := [.int a0]) (rest := []) ⟨hx, hb, hml, hown, hts⟩ (qConversions_isTowardsZero l a0) (va_cwS 1 hts (gS w_463 w_300 w_42 w_301) rfl rfl rfl (by decide +kernel) ⟨Nat.le_of_ble_eq_true rfl, Nat.le_of_ble_eq_true rfl⟩) ⟨pw_bT, fun U hU hW => ⟨rfl, trivial⟩⟩ rfl rfl hl.1 rfl (lv_room (Nat.le_of_ble_eq_true rfl)) dConversions_result_1 ⟨Nat.zero_le _, Nat.zero_le _⟩) ?_
  refine lv_if_eq (tgt := 18) hx hb dConversions_result_4 (by decide) (fun h1 => ?_) (fun h1 => ?_)
  · refine lv_iload_n hx hb dConversions_result_18 rfl (lv_at hl 0 rfl) ?_
    refine lv_sipush (v := 167) hx hb dConversions_result_19 (by decide) ?_
    refine lv_icmp_eq (tgt := 46) hx hb dConversions_result_22 (by decide) (fun h2 => ?_) (fun h2 => ?_)
    · rw [(show fConversions_result a0 a1 a2 a3 = fConversions_result_46 a3 by rw [fConversions_result, if_pos h1, if_pos h2])]
      exact kConversions_result_46 C hG a3 (lv_sub hl [3] rfl)
    · refine lv_iload_n hx hb dConversions_result_25 rfl (lv_at hl 0 rfl) ?_
      refine lv_sipush (v := 173) hx hb dConversions_result_26 (by decide) ?_
      refine lv_icmp_eq (tgt := 46) hx hb dConversions_result_29 (by decide) (fun h3 => ?_) (fun h3 => ?_)
      · rw [(show fConversions_result a0 a1 a2 a3 = fConversions_result_46 a3 by rw [fConversions_result, if_pos h1, if_neg h2, if_pos h3])]
        exact kConversions_result_46 C hG a3 (lv_sub hl [3] rfl)
      · refine lv_iload_n hx hb dConversions_result_32 rfl (lv_at hl 0 rfl) ?_
        refine lv_sipush (v := 188) hx hb dConversions_result_33 (by decide) ?_
        refine lv_icmp_lt (tgt := 48) hx hb dConversions_result_36 (by decide) (fun h4 => ?_) (fun h4 => ?_)
        · rw [(show fConversions_result a0 a1 a2 a3 = fConversions_result_48 a0 a1 a2 a3 by rw [fConversions_result, if_pos h1, if_neg h2, if_neg h3, if_pos h4])]
          exact kConversions_result_48 C hG a0 a1 a2 a3 (lv_sub hl [0, 1, 2, 3] rfl)
        · refine lv_iload_n hx hb dConversions_result_39 rfl (lv_at hl 0 rfl) ?_
          refine lv_sipush (v := 191) hx hb dConversions_result_40 (by decide) ?_
          refine lv_icmp_gt (tgt := 48) hx hb dConversions_result_43 (by decide) (fun h5 => ?_) (fun h5 => ?_)
          · rw [(show fConversions_result a0 a1 a2 a3 = fConversions_result_48 a0 a1 a2 a3 by rw [fConversions_result, if_pos h1, if_neg h2, if_neg h3, if_neg h4, if_pos h5])]
            exact kConversions_result_48 C hG a0 a1 a2 a3 (lv_sub hl [0, 1, 2, 3] rfl)
          · rw [(show fConversions_result a0 a1 a2 a3 = fConversions_result_46 a3 by rw [fConversions_result, if_pos h1, if_neg h2, if_neg h3, if_neg h4, if_neg h5])]
            exact kConversions_result_46 C hG a3 (lv_sub hl [3] rfl)
  · refine lv_iload_n hx hb dConversions_result_7 rfl (lv_at hl 0 rfl) ?_
    refine lv_iload_n hx hb dConversions_result_8 rfl (lv_at hl 1 rfl) ?_
    refine pw_call (va_runS (As := [.int a1]) (rest := [.int a0]) ⟨hx, hb, hml, hown, hts⟩ (qFormat_of l ad td a1) (va_cwS 1 hts (gS w_464 w_135 w_44 w_136) rfl rfl rfl (by decide +kernel) ⟨Nat.le_of_ble_eq_true rfl, Nat.le_of_ble_eq_true rfl⟩) ⟨pw_bG, fun U hU hW => ⟨rfl, (hG.at hU hW)⟩⟩ rfl rfl hl.1 rfl (lv_room (Nat.le_of_ble_eq_true rfl)) dConversions_result_9 ⟨Nat.zero_le _, Nat.zero_le _⟩) ?_
    refine lv_iload_n hx hb dConversions_result_12 rfl (lv_at hl 2 rfl) ?_
    refine lv_lload_n hx hb dConversions_result_13 rfl (lv_at hl 3 rfl) ?_
    refine pw_call (va_runS (As := [.int a0, .ref (ad (fFormat_of a1)), .int a2, .long a3]) (rest := []) ⟨hx, hb, hml, hown, hts⟩ (qConversions_towardsZero l ad td a0 (fFormat_of a1) a2 a3 (rFormat_of a1)) (va_cwS 4 hts (gS w_465 w_466 w_42 w_467) rfl rfl rfl (by decide +kernel) ⟨Nat.le_of_ble_eq_true rfl, Nat.le_of_ble_eq_true rfl⟩) ⟨pw_bG, fun U hU hW => ⟨rfl, (hG.at hU hW)⟩⟩ rfl rfl hl.1 rfl (lv_room (Nat.le_of_ble_eq_true rfl)) dConversions_result_14 ⟨Nat.zero_le _, Nat.zero_le _⟩) ?_
    exact W.lret hx hb hr (fun t ht _ => ⟨by rw [(show fConversions_result a0 a1 a2 a3 = fConversions_towardsZero a0 (fFormat_of a1) a2 a3 by rw [fConversions_result, if_neg h1])], ht⟩) (fun q h => nomatch h) dConversions_result_17
set_option maxHeartbeats 4000000 in
set_option maxRecDepth 100000 in
theorem qConversions_result (l : Launch) (ad td : Nat → Nat) (a0 : Int32) (a1 : Int32) (a2 : Int32) (a3 : Int64) : Met l yConversions_result wsConversions_result rmConversions_result (va_Pc [.int a0, .int a1, .int a2, .long a3] (fun U => pw_G (fun _ => False) ad td U U.heap)) (k2_QcV (.long (fConversions_result a0 a1 a2 a3))) 0 0 (fun _ => False) := by
  refine Met.ofW (cc := cConversions_result) (maxL := 5) (ret := (some .long)) (by decide) rfl ?_
  intro p e s m args below meth c s₁ B hml hv
  obtain ⟨rfl, hG⟩ := hv
  have hts0 := atoms_spec (ws := wsConversions_result) B.pre
  have hts := fun (w : Cond) (h : w ∈ aw) => hts0 w (List.mem_cons_of_mem _ h)
  have hown : s.vm.findClass "BitNumbers$Conversions" = some m.cls := findClass_of_methodNamed B.named
  have hl := lv_entry ([.int a0, .int a1, .int a2, .long a3]) (n := 5) (Nat.le_of_ble_eq_true rfl)
  rw [lg_entry_eq]
  generalize (lg_sl ([.int a0, .int a1, .int a2, .long a3]) ++ List.replicate (5 - (lg_sl ([.int a0, .int a1, .int a2, .long a3])).length) Slot.unset).toArray = ls at hl ⊢
  exact kConversions_result_0 ⟨B.exec, B.bytes, B.returns, hml, hown, hts, B.notSynchronized⟩ hG a0 a1 a2 a3 hl

set_option maxHeartbeats 4000000 in
set_option maxRecDepth 100000 in
theorem kFormat_magnitude_0 {p : Program} {l : Launch} {e : Env} {s : State} {m : MethodId} {args : Array Value} {below : List Frame} {meth : Method} {c : Code} {ad td : Nat → Nat} (C : pw_C p s m args meth c cFormat_magnitude 3 (some .long) "BitNumbers$Format") (hG : pw_G (fun _ => False) ad td s s.heap) (a0 : Nat) (a1 : Int64) (hk0 : a0 < 2) {ls : Array Slot} (hl : lv_has ls 3 [(0, .ref (ad a0)), (1, .long a1)]) : W p l e rmFormat_magnitude s m args below meth c s.heap [] 0 0 (MQ below (k2_QcV (.long (fFormat_magnitude a0 a1))) args s 0 0 (fun _ => False)) (F0 m 0 ls []) := by
  obtain ⟨hx, hb, hr, hml, hown, hts, hlocks⟩ := id C
  have hS : va_S (fun _ => False) s.heap s.heap [] := va_S.rf
  refine lv_lload_n hx hb dFormat_magnitude_0 rfl (lv_at hl 1 rfl) ?_
  refine lv_aload_n hx hb dFormat_magnitude_1 rfl (lv_at hl 0 rfl) ?_
  refine va_getX hx hb hG.2.1.2.2.2.1 hk0 hS hown (hts _ w_808) (fun _ h9 => h9) dFormat_magnitude_2 ?_
  refine lv_ldc2 hx hb hown (hts _ w_157) dFormat_magnitude_5 ?_
  refine lv_lxor hx hb dFormat_magnitude_8 ?_
  refine lv_land hx hb dFormat_magnitude_9 ?_
  exact W.lret hx hb hr (fun t ht _ => ⟨by rw [(show fFormat_magnitude a0 a1 = a1 &&& ((fm_signBit a0) ^^^ (-1)) by rw [fFormat_magnitude])], ht⟩) (fun q h => nomatch h) dFormat_magnitude_10
set_option maxHeartbeats 4000000 in
set_option maxRecDepth 100000 in
theorem qFormat_magnitude (l : Launch) (ad td : Nat → Nat) (a0 : Nat) (a1 : Int64) (hk0 : a0 < 2) : Met l yFormat_magnitude wsFormat_magnitude rmFormat_magnitude (va_Pc [.ref (ad a0), .long a1] (fun U => pw_G (fun _ => False) ad td U U.heap)) (k2_QcV (.long (fFormat_magnitude a0 a1))) 0 0 (fun _ => False) := by
  refine Met.ofW (cc := cFormat_magnitude) (maxL := 3) (ret := (some .long)) (by decide) rfl ?_
  intro p e s m args below meth c s₁ B hml hv
  obtain ⟨rfl, hG⟩ := hv
  have hts0 := atoms_spec (ws := wsFormat_magnitude) B.pre
  have hts := fun (w : Cond) (h : w ∈ aw) => hts0 w (List.mem_cons_of_mem _ h)
  have hown : s.vm.findClass "BitNumbers$Format" = some m.cls := findClass_of_methodNamed B.named
  have hl := lv_entry ([.ref (ad a0), .long a1]) (n := 3) (Nat.le_of_ble_eq_true rfl)
  rw [lg_entry_eq]
  generalize (lg_sl ([.ref (ad a0), .long a1]) ++ List.replicate (3 - (lg_sl ([.ref (ad a0), .long a1])).length) Slot.unset).toArray = ls at hl ⊢
  exact kFormat_magnitude_0 ⟨B.exec, B.bytes, B.returns, hml, hown, hts, B.notSynchronized⟩ hG a0 a1 hk0 hl

set_option maxHeartbeats 4000000 in
set_option maxRecDepth 100000 in
theorem kFloating_number_6 {p : Program} {l : Launch} {e : Env} {s : State} {m : MethodId} {args : Array Value} {below : List Frame} {meth : Method} {c : Code} {ad td : Nat → Nat} (C : pw_C p s m args meth c cFloating_number 5 (some .long) "BitNumbers$Floating") (hG : pw_G (fun _ => False) ad td s s.heap) (a0 : Nat) (a1 : Int64) (a3 : Int64) (hk0 : a0 < 2) {ls : Array Slot} (hl : lv_has ls 5 [(0, .ref (ad a0)), (1, .long a1), (3, .long a3)]) : W p l e rmFloating_number s m args below meth c s.heap [] 0 0 (MQ below (k2_QcV (.long (fFloating_number_6 a0 a1 a3))) args s 0 0 (fun _ => False)) (F0 m 6 ls []) := by
  obtain ⟨hx, hb, hr, hml, hown, hts, hlocks⟩ := id C
  have hS : va_S (fun _ => False) s.heap s.heap [] := va_S.rf
  refine lv_aload_n hx hb dFloating_number_6 rfl (lv_at hl 0 rfl) ?_
  refine lv_lload_n hx hb dFloating_number_7 rfl (lv_at hl 1 rfl) ?_
  refine pw_call (va_runV (As := [.long a1]) (rest := []) ⟨hx, hb, hml, hown, hts⟩ (qFormat_isNegative l ad td a0 a1 hk0) (cwV 1 hts (gV w_383 w_142 w_143 w_44 w_144) rfl rfl rfl (by decide +kernel) ⟨Nat.le_of_ble_eq_true rfl, Nat.le_of_ble_eq_true rfl⟩) ⟨pw_bG, va_recvE hG.1 hk0 hS, fun U hU hW => ⟨rfl, (hG.at hU hW)⟩⟩ rfl rfl hl.1 rfl (lv_room (Nat.le_of_ble_eq_true rfl)) dFloating_number_8 ⟨Nat.zero_le _, Nat.zero_le _⟩) ?_
  refine lv_if_eq (tgt := 19) hx hb dFloating_number_11 (by decide) (fun h1 => ?_) (fun h1 => ?_)
  · refine lv_lload_n hx hb dFloating_number_19 rfl (lv_at hl 2 rfl) ?_
    exact W.lret hx hb hr (fun t ht _ => ⟨by rw [(show fFloating_number_6 a0 a1 a3 = a3 by rw [fFloating_number_6, if_pos h1])], ht⟩) (fun q h => nomatch h) dFloating_number_20
  · refine lv_lload_n hx hb dFloating_number_14 rfl (lv_at hl 2 rfl) ?_
    refine lv_lneg hx hb dFloating_number_15 ?_
    refine lv_goto (tgt := 20) hx hb dFloating_number_16 (by decide) ?_
    exact W.lret hx hb hr (fun t ht _ => ⟨by rw [(show fFloating_number_6 a0 a1 a3 = -a3 by rw [fFloating_number_6, if_neg h1])], ht⟩) (fun q h => nomatch h) dFloating_number_20
set_option maxHeartbeats 4000000 in
set_option maxRecDepth 100000 in
theorem kFloating_number_0 {p : Program} {l : Launch} {e : Env} {s : State} {m : MethodId} {args : Array Value} {below : List Frame} {meth : Method} {c : Code} {ad td : Nat → Nat} (C : pw_C p s m args meth c cFloating_number 5 (some .long) "BitNumbers$Floating") (hG : pw_G (fun _ => False) ad td s s.heap) (a0 : Nat) (a1 : Int64) (hk0 : a0 < 2) {ls : Array Slot} (hl : lv_has ls 5 [(0, .ref (ad a0)), (1, .long a1)]) : W p l e rmFloating_number s m args below meth c s.heap [] 0 0 (MQ below (k2_QcV (.long (fFloating_number a0 a1))) args s 0 0 (fun _ => False)) (F0 m 0 ls []) := by
  obtain ⟨hx, hb, hr, hml, hown, hts, hlocks⟩ := id C
  have hS : va_S (fun _ => False) s.heap s.heap [] := va_S.rf
  refine lv_aload_n hx hb dFloating_number_0 rfl (lv_at hl 0 rfl) ?_
  refine lv_lload_n hx hb dFloating_number_1 rfl (lv_at hl 1 rfl) ?_
  refine pw_call (va_runV (As := [.long a1]) (rest := []) ⟨hx, hb, hml, hown, hts⟩ (qFormat_magnitude l ad td a0 a1 hk0) (cwV 1 hts (gV w_379 w_380 w_381 w_44 w_382) rfl rfl rfl (by decide +kernel) ⟨Nat.le_of_ble_eq_true rfl, Nat.le_of_ble_eq_true rfl⟩) ⟨pw_bG, va_recvE hG.1 hk0 hS, fun U hU hW => ⟨rfl, (hG.at hU hW)⟩⟩ rfl rfl hl.1 rfl (lv_room (Nat.le_of_ble_eq_true rfl)) dFloating_number_2 ⟨Nat.zero_le _, Nat.zero_le _⟩) ?_
  refine lv_lstore_n (lv' := [(3, .long (fFormat_magnitude a0 a1)), (0, .ref (ad a0)), (1, .long a1)]) hx hb dFloating_number_5 rfl hl (by decide) rfl (fun ls hl => ?_)
  rw [(show fFloating_number a0 a1 = fFloating_number_6 a0 a1 (fFormat_magnitude a0 a1) by rw [fFloating_number])]
  exact kFloating_number_6 C hG a0 a1 (fFormat_magnitude a0 a1) hk0 (lv_sub hl [1, 2, 0] rfl)
set_option maxHeartbeats 4000000 in
set_option maxRecDepth 100000 in
theorem qFloating_number (l : Launch) (ad td : Nat → Nat) (a0 : Nat) (a1 : Int64) (hk0 : a0 < 2) : Met l yFloating_number wsFloating_number rmFloating_number (va_Pc [.ref (ad a0), .long a1] (fun U => pw_G (fun _ => False) ad td U U.heap)) (k2_QcV (.long (fFloating_number a0 a1))) 0 0 (fun _ => False) := by
  refine Met.ofW (cc := cFloating_number) (maxL := 5) (ret := (some .long)) (by decide) rfl ?_
  intro p e s m args below meth c s₁ B hml hv
  obtain ⟨rfl, hG⟩ := hv
  have hts0 := atoms_spec (ws := wsFloating_number) B.pre
  have hts := fun (w : Cond) (h : w ∈ aw) => hts0 w (List.mem_cons_of_mem _ h)
  have hown : s.vm.findClass "BitNumbers$Floating" = some m.cls := findClass_of_methodNamed B.named
  have hl := lv_entry ([.ref (ad a0), .long a1]) (n := 5) (Nat.le_of_ble_eq_true rfl)
  rw [lg_entry_eq]
  generalize (lg_sl ([.ref (ad a0), .long a1]) ++ List.replicate (5 - (lg_sl ([.ref (ad a0), .long a1])).length) Slot.unset).toArray = ls at hl ⊢
  exact kFloating_number_0 ⟨B.exec, B.bytes, B.returns, hml, hown, hts, B.notSynchronized⟩ hG a0 a1 hk0 hl

set_option maxHeartbeats 4000000 in
set_option maxRecDepth 100000 in
theorem kFloating_test_44 {p : Program} {l : Launch} {e : Env} {s : State} {m : MethodId} {args : Array Value} {below : List Frame} {meth : Method} {c : Code} {ad td : Nat → Nat} (C : pw_C p s m args meth c cFloating_test 7 (some .boolean) "BitNumbers$Floating") (hG : pw_G (fun _ => False) ad td s s.heap) (a0 : Int32) (a6 : Int32) {ls : Array Slot} (hl : lv_has ls 7 [(0, .int a0), (6, .int a6)]) : W p l e rmFloating_test s m args below meth c s.heap [] 0 0 (MQ below (k2_QcV (.int (fFloating_test_44 a0 a6))) args s 0 0 (fun _ => False)) (F0 m 44 ls []) := by
  obtain ⟨hx, hb, hr, hml, hown, hts, hlocks⟩ := id C
  have hS : va_S (fun _ => False) s.heap s.heap [] := va_S.rf
  refine lv_iload_n hx hb dFloating_test_44 rfl (lv_at hl 0 rfl) ?_
  by_cases h1 : a0 = 0
  · refine lv_tableIn (tgt := 84) hx hb dFloating_test_45 (by rw [h1]; decide) (by rw [h1]; decide) (off := 39) (by rw [h1]; rfl) (by decide) ?_
    refine lv_iload hx hb dFloating_test_84 (lv_at hl 1 rfl) ?_
    refine lv_if_ne (tgt := 93) hx hb dFloating_test_86 (by decide) (fun h2 => ?_) (fun h2 => ?_)
    · refine lv_iconst (v := 0) hx hb dFloating_test_93 (by decide) ?_
      exact W.zret hx hb hr (pw_nz (Or.inl rfl)) (fun t ht _ => ⟨by rw [(show fFloating_test_44 a0 a6 = 0 by rw [fFloating_test_44, if_pos h1, if_neg h2])], ht⟩) (fun q h => nomatch h) dFloating_test_94
    · refine lv_iconst (v := 1) hx hb dFloating_test_89 (by decide) ?_
      refine lv_goto (tgt := 94) hx hb dFloating_test_90 (by decide) ?_
      exact W.zret hx hb hr (pw_nz (Or.inr rfl)) (fun t ht _ => ⟨by rw [(show fFloating_test_44 a0 a6 = 1 by rw [fFloating_test_44, if_pos h1, if_pos h2])], ht⟩) (fun q h => nomatch h) dFloating_test_94
  by_cases h3 : a0 = 1
  · refine lv_tableIn (tgt := 95) hx hb dFloating_test_45 (by rw [h3]; decide) (by rw [h3]; decide) (off := 50) (by rw [h3]; rfl) (by decide) ?_
    refine lv_iload hx hb dFloating_test_95 (lv_at hl 1 rfl) ?_
    refine lv_if_eq (tgt := 104) hx hb dFloating_test_97 (by decide) (fun h4 => ?_) (fun h4 => ?_)
    · refine lv_iconst (v := 0) hx hb dFloating_test_104 (by decide) ?_
      exact W.zret hx hb hr (pw_nz (Or.inl rfl)) (fun t ht _ => ⟨by rw [(show fFloating_test_44 a0 a6 = 0 by rw [fFloating_test_44, if_neg h1, if_pos h3, if_pos h4])], ht⟩) (fun q h => nomatch h) dFloating_test_105
    · refine lv_iconst (v := 1) hx hb dFloating_test_100 (by decide) ?_
      refine lv_goto (tgt := 105) hx hb dFloating_test_101 (by decide) ?_
      exact W.zret hx hb hr (pw_nz (Or.inr rfl)) (fun t ht _ => ⟨by rw [(show fFloating_test_44 a0 a6 = 1 by rw [fFloating_test_44, if_neg h1, if_pos h3, if_neg h4])], ht⟩) (fun q h => nomatch h) dFloating_test_105
  by_cases h5 : a0 = 2
  · refine lv_tableIn (tgt := 106) hx hb dFloating_test_45 (by rw [h5]; decide) (by rw [h5]; decide) (off := 61) (by rw [h5]; rfl) (by decide) ?_
    refine lv_iload hx hb dFloating_test_106 (lv_at hl 1 rfl) ?_
    refine lv_if_ge (tgt := 115) hx hb dFloating_test_108 (by decide) (fun h6 => ?_) (fun h6 => ?_)
    · refine lv_iconst (v := 0) hx hb dFloating_test_115 (by decide) ?_
      exact W.zret hx hb hr (pw_nz (Or.inl rfl)) (fun t ht _ => ⟨by rw [(show fFloating_test_44 a0 a6 = 0 by rw [fFloating_test_44, if_neg h1, if_neg h3, if_pos h5, if_pos h6])], ht⟩) (fun q h => nomatch h) dFloating_test_116
    · refine lv_iconst (v := 1) hx hb dFloating_test_111 (by decide) ?_
      refine lv_goto (tgt := 116) hx hb dFloating_test_112 (by decide) ?_
      exact W.zret hx hb hr (pw_nz (Or.inr rfl)) (fun t ht _ => ⟨by rw [(show fFloating_test_44 a0 a6 = 1 by rw [fFloating_test_44, if_neg h1, if_neg h3, if_pos h5, if_neg h6])], ht⟩) (fun q h => nomatch h) dFloating_test_116
  by_cases h7 : a0 = 3
  · refine lv_tableIn (tgt := 117) hx hb dFloating_test_45 (by rw [h7]; decide) (by rw [h7]; decide) (off := 72) (by rw [h7]; rfl) (by decide) ?_
    refine lv_iload hx hb dFloating_test_117 (lv_at hl 1 rfl) ?_
    refine lv_if_le (tgt := 126) hx hb dFloating_test_119 (by decide) (fun h8 => ?_) (fun h8 => ?_)
    · refine lv_iconst (v := 0) hx hb dFloating_test_126 (by decide) ?_
      exact W.zret hx hb hr (pw_nz (Or.inl rfl)) (fun t ht _ => ⟨by rw [(show fFloating_test_44 a0 a6 = 0 by rw [fFloating_test_44, if_neg h1, if_neg h3, if_neg h5, if_pos h7, if_pos h8])], ht⟩) (fun q h => nomatch h) dFloating_test_127
    · refine lv_iconst (v := 1) hx hb dFloating_test_122 (by decide) ?_
      refine lv_goto (tgt := 127) hx hb dFloating_test_123 (by decide) ?_
      exact W.zret hx hb hr (pw_nz (Or.inr rfl)) (fun t ht _ => ⟨by rw [(show fFloating_test_44 a0 a6 = 1 by rw [fFloating_test_44, if_neg h1, if_neg h3, if_neg h5, if_pos h7, if_neg h8])], ht⟩) (fun q h => nomatch h) dFloating_test_127
  by_cases h9 : a0 = 4
  · refine lv_tableIn (tgt := 128) hx hb dFloating_test_45 (by rw [h9]; decide) (by rw [h9]; decide) (off := 83) (by rw [h9]; rfl) (by decide) ?_
    refine lv_iload hx hb dFloating_test_128 (lv_at hl 1 rfl) ?_
    refine lv_if_gt (tgt := 137) hx hb dFloating_test_130 (by decide) (fun h10 => ?_) (fun h10 => ?_)
    · refine lv_iconst (v := 0) hx hb dFloating_test_137 (by decide) ?_
      exact W.zret hx hb hr (pw_nz (Or.inl rfl)) (fun t ht _ => ⟨by rw [(show fFloating_test_44 a0 a6 = 0 by rw [fFloating_test_44, if_neg h1, if_neg h3, if_neg h5, if_neg h7, if_pos h9, if_pos h10])], ht⟩) (fun q h => nomatch h) dFloating_test_138
    · refine lv_iconst (v := 1) hx hb dFloating_test_133 (by decide) ?_
      refine lv_goto (tgt := 138) hx hb dFloating_test_134 (by decide) ?_
      exact W.zret hx hb hr (pw_nz (Or.inr rfl)) (fun t ht _ => ⟨by rw [(show fFloating_test_44 a0 a6 = 1 by rw [fFloating_test_44, if_neg h1, if_neg h3, if_neg h5, if_neg h7, if_pos h9, if_neg h10])], ht⟩) (fun q h => nomatch h) dFloating_test_138
  by_cases h11 : a0 = 5
  · refine lv_tableIn (tgt := 139) hx hb dFloating_test_45 (by rw [h11]; decide) (by rw [h11]; decide) (off := 94) (by rw [h11]; rfl) (by decide) ?_
    refine lv_iload hx hb dFloating_test_139 (lv_at hl 1 rfl) ?_
    refine lv_if_lt (tgt := 148) hx hb dFloating_test_141 (by decide) (fun h12 => ?_) (fun h12 => ?_)
    · refine lv_iconst (v := 0) hx hb dFloating_test_148 (by decide) ?_
      exact W.zret hx hb hr (pw_nz (Or.inl rfl)) (fun t ht _ => ⟨by rw [(show fFloating_test_44 a0 a6 = 0 by rw [fFloating_test_44, if_neg h1, if_neg h3, if_neg h5, if_neg h7, if_neg h9, if_pos h11, if_pos h12])], ht⟩) (fun q h => nomatch h) dFloating_test_149
    · refine lv_iconst (v := 1) hx hb dFloating_test_144 (by decide) ?_
      refine lv_goto (tgt := 149) hx hb dFloating_test_145 (by decide) ?_
      exact W.zret hx hb hr (pw_nz (Or.inr rfl)) (fun t ht _ => ⟨by rw [(show fFloating_test_44 a0 a6 = 1 by rw [fFloating_test_44, if_neg h1, if_neg h3, if_neg h5, if_neg h7, if_neg h9, if_pos h11, if_neg h12])], ht⟩) (fun q h => nomatch h) dFloating_test_149
  refine pw_tableD (tgt := 150) hx hb dFloating_test_45 ?_ (by decide) ?_
  · have th1 := lv_neT h1 (a := 0) (by decide)
    have th3 := lv_neT h3 (a := 1) (by decide)
    have th5 := lv_neT h5 (a := 2) (by decide)
    have th7 := lv_neT h7 (a := 3) (by decide)
    have th9 := lv_neT h9 (a := 4) (by decide)
    have th11 := lv_neT h11 (a := 5) (by decide)
    exact (show a0.toInt < 0 ∨ 5 < a0.toInt by omega).elim Or.inl (fun q => Or.inr (Or.inl q))
  refine lv_iconst (v := 0) hx hb dFloating_test_150 (by decide) ?_
  exact W.zret hx hb hr (pw_nz (Or.inl rfl)) (fun t ht _ => ⟨by rw [(show fFloating_test_44 a0 a6 = 0 by rw [fFloating_test_44, if_neg h1, if_neg h3, if_neg h5, if_neg h7, if_neg h9, if_neg h11])], ht⟩) (fun q h => nomatch h) dFloating_test_151
set_option maxHeartbeats 4000000 in
set_option maxRecDepth 100000 in
theorem kFloating_test_17 {p : Program} {l : Launch} {e : Env} {s : State} {m : MethodId} {args : Array Value} {below : List Frame} {meth : Method} {c : Code} {ad td : Nat → Nat} (C : pw_C p s m args meth c cFloating_test 7 (some .boolean) "BitNumbers$Floating") (hG : pw_G (fun _ => False) ad td s s.heap) (a0 : Int32) {ls : Array Slot} (hl : lv_has ls 7 [(0, .int a0)]) : W p l e rmFloating_test s m args below meth c s.heap [] 0 0 (MQ below (k2_QcV (.int (fFloating_test_17 a0))) args s 0 0 (fun _ => False)) (F0 m 17 ls []) := by
  obtain ⟨hx, hb, hr, hml, hown, hts, hlocks⟩ := id C
  have hS : va_S (fun _ => False) s.heap s.heap [] := va_S.rf
  refine lv_iload_n hx hb dFloating_test_17 rfl (lv_at hl 0 rfl) ?_
  refine lv_iconst (v := 1) hx hb dFloating_test_18 (by decide) ?_
  refine lv_icmp_ne (tgt := 26) hx hb dFloating_test_19 (by decide) (fun h1 => ?_) (fun h1 => ?_)
  · refine lv_iconst (v := 0) hx hb dFloating_test_26 (by decide) ?_
    exact W.zret hx hb hr (pw_nz (Or.inl rfl)) (fun t ht _ => ⟨by rw [(show fFloating_test_17 a0 = 0 by rw [fFloating_test_17, if_neg h1])], ht⟩) (fun q h => nomatch h) dFloating_test_27
  · refine lv_iconst (v := 1) hx hb dFloating_test_22 (by decide) ?_
    refine lv_goto (tgt := 27) hx hb dFloating_test_23 (by decide) ?_
    exact W.zret hx hb hr (pw_nz (Or.inr rfl)) (fun t ht _ => ⟨by rw [(show fFloating_test_17 a0 = 1 by rw [fFloating_test_17, if_pos h1])], ht⟩) (fun q h => nomatch h) dFloating_test_27
set_option maxHeartbeats 4000000 in
set_option maxRecDepth 100000 in
theorem kFloating_test_0 {p : Program} {l : Launch} {e : Env} {s : State} {m : MethodId} {args : Array Value} {below : List Frame} {meth : Method} {c : Code} {ad td : Nat → Nat} (C : pw_C p s m args meth c cFloating_test 7 (some .boolean) "BitNumbers$Floating") (hG : pw_G (fun _ => False) ad td s s.heap) (a0 : Int32) (a1 : Nat) (a2 : Int64) (a4 : Int64) (hk1 : a1 < 2) {ls : Array Slot} (hl : lv_has ls 7 [(0, .int a0), (1, .ref (ad a1)), (2, .long a2), (4, .long a4)]) : W p l e rmFloating_test s m args below meth c s.heap [] 0 0 (MQ below (k2_QcV (.int (fFloating_test a0 a1 a2 a4))) args s 0 0 (fun _ => False)) (F0 m 0 ls []) := by
  obtain ⟨hx, hb, hr, hml, hown, hts, hlocks⟩ := id C
  have hS : va_S (fun _ => False) s.heap s.heap [] := va_S.rf
  refine lv_aload_n hx hb dFloating_test_0 rfl (lv_at hl 1 rfl) ?_
  refine lv_lload_n hx hb dFloating_test_1 rfl (lv_at hl 2 rfl) ?_
  refine pw_call (va_runV (As := [.long a2]) (rest := []) ⟨hx, hb, hml, hown, hts⟩ (qFormat_isNone l ad td a1 a2 hk1) (cwV 1 hts (gV w_375 w_154 w_155 w_44 w_156) rfl rfl rfl (by decide +kernel) ⟨Nat.le_of_ble_eq_true rfl, Nat.le_of_ble_eq_true rfl⟩) ⟨pw_bG, va_recvE hG.1 hk1 hS, fun U hU hW => ⟨rfl, (hG.at hU hW)⟩⟩ rfl rfl hl.1 rfl (lv_room (Nat.le_of_ble_eq_true rfl)) dFloating_test_2 ⟨Nat.zero_le _, Nat.zero_le _⟩) ?_
  refine lv_if_ne (tgt := 17) hx hb dFloating_test_5 (by decide) (fun h1 => ?_) (fun h1 => ?_)
  · rw [(show fFloating_test a0 a1 a2 a4 = fFloating_test_17 a0 by rw [fFloating_test, if_neg h1])]
    exact kFloating_test_17 C hG a0 (lv_sub hl [0] rfl)
  · refine lv_aload_n hx hb dFloating_test_8 rfl (lv_at hl 1 rfl) ?_
    refine lv_lload hx hb dFloating_test_9 (lv_at hl 3 rfl) ?_
    refine pw_call (va_runV (As := [.long a4]) (rest := []) ⟨hx, hb, hml, hown, hts⟩ (qFormat_isNone l ad td a1 a4 hk1) (cwV 1 hts (gV w_375 w_154 w_155 w_44 w_156) rfl rfl rfl (by decide +kernel) ⟨Nat.le_of_ble_eq_true rfl, Nat.le_of_ble_eq_true rfl⟩) ⟨pw_bG, va_recvE hG.1 hk1 hS, fun U hU hW => ⟨rfl, (hG.at hU hW)⟩⟩ rfl rfl hl.1 rfl (lv_room (Nat.le_of_ble_eq_true rfl)) dFloating_test_11 ⟨Nat.zero_le _, Nat.zero_le _⟩) ?_
    refine lv_if_eq (tgt := 28) hx hb dFloating_test_14 (by decide) (fun h2 => ?_) (fun h2 => ?_)
    · refine lv_aload_n hx hb dFloating_test_28 rfl (lv_at hl 1 rfl) ?_
      refine lv_lload_n hx hb dFloating_test_29 rfl (lv_at hl 2 rfl) ?_
      refine pw_call (va_runS (As := [.ref (ad a1), .long a2]) (rest := []) ⟨hx, hb, hml, hown, hts⟩ (qFloating_number l ad td a1 a2 hk1) (va_cwS 2 hts (gS w_376 w_377 w_48 w_378) rfl rfl rfl (by decide +kernel) ⟨Nat.le_of_ble_eq_true rfl, Nat.le_of_ble_eq_true rfl⟩) ⟨pw_bG, fun U hU hW => ⟨rfl, (hG.at hU hW)⟩⟩ rfl rfl hl.1 rfl (lv_room (Nat.le_of_ble_eq_true rfl)) dFloating_test_30 ⟨Nat.zero_le _, Nat.zero_le _⟩) ?_
      refine lv_aload_n hx hb dFloating_test_33 rfl (lv_at hl 1 rfl) ?_
      refine lv_lload hx hb dFloating_test_34 (lv_at hl 3 rfl) ?_
      refine pw_call (va_runS (As := [.ref (ad a1), .long a4]) (rest := [.long (fFloating_number a1 a2)]) ⟨hx, hb, hml, hown, hts⟩ (qFloating_number l ad td a1 a4 hk1) (va_cwS 2 hts (gS w_376 w_377 w_48 w_378) rfl rfl rfl (by decide +kernel) ⟨Nat.le_of_ble_eq_true rfl, Nat.le_of_ble_eq_true rfl⟩) ⟨pw_bG, fun U hU hW => ⟨rfl, (hG.at hU hW)⟩⟩ rfl rfl hl.1 rfl (lv_room (Nat.le_of_ble_eq_true rfl)) dFloating_test_36 ⟨Nat.zero_le _, Nat.zero_le _⟩) ?_
      refine pw_call (va_runS (As := [.long (fFloating_number a1 a2), .long (fFloating_number a1 a4)]) (rest := []) ⟨hx, hb, hml, hown, hts⟩ (qLong_compare l (fFloating_number a1 a2) (fFloating_number a1 a4)) (va_cwS 2 hts (gS w_384 w_347 w_46 w_348) rfl rfl rfl (by decide +kernel) ⟨Nat.le_of_ble_eq_true rfl, Nat.le_of_ble_eq_true rfl⟩) ⟨pw_bT, fun U hU hW => ⟨rfl, trivial⟩⟩ rfl rfl hl.1 rfl (lv_room (Nat.le_of_ble_eq_true rfl)) dFloating_test_39 ⟨Nat.zero_le _, Nat.zero_le _⟩) ?_
      refine lv_istore (lv' := [(6, .int (fLong_compare (fFloating_number a1 a2) (fFloating_number a1 a4))), (0, .int a0), (1, .ref (ad a1)), (2, .long a2), (4, .long a4)]) hx hb dFloating_test_42 hl (by decide) rfl (fun ls hl => ?_)
      rw [(show fFloating_test a0 a1 a2 a4 = fFloating_test_44 a0 (fLong_compare (fFloating_number a1 a2) (fFloating_number a1 a4)) by rw [fFloating_test, if_pos h1, if_pos h2])]
      exact kFloating_test_44 C hG a0 (fLong_compare (fFloating_number a1 a2) (fFloating_number a1 a4)) (lv_sub hl [1, 0] rfl)
    · rw [(show fFloating_test a0 a1 a2 a4 = fFloating_test_17 a0 by rw [fFloating_test, if_pos h1, if_neg h2])]
      exact kFloating_test_17 C hG a0 (lv_sub hl [0] rfl)
set_option maxHeartbeats 4000000 in
set_option maxRecDepth 100000 in
theorem qFloating_test (l : Launch) (ad td : Nat → Nat) (a0 : Int32) (a1 : Nat) (a2 : Int64) (a4 : Int64) (hk1 : a1 < 2) : Met l yFloating_test wsFloating_test rmFloating_test (va_Pc [.int a0, .ref (ad a1), .long a2, .long a4] (fun U => pw_G (fun _ => False) ad td U U.heap)) (k2_QcV (.int (fFloating_test a0 a1 a2 a4))) 0 0 (fun _ => False) := by
  refine Met.ofW (cc := cFloating_test) (maxL := 7) (ret := (some .boolean)) (by decide) rfl ?_
  intro p e s m args below meth c s₁ B hml hv
  obtain ⟨rfl, hG⟩ := hv
  have hts0 := atoms_spec (ws := wsFloating_test) B.pre
  have hts := fun (w : Cond) (h : w ∈ aw) => hts0 w (List.mem_cons_of_mem _ h)
  have hown : s.vm.findClass "BitNumbers$Floating" = some m.cls := findClass_of_methodNamed B.named
  have hl := lv_entry ([.int a0, .ref (ad a1), .long a2, .long a4]) (n := 7) (Nat.le_of_ble_eq_true rfl)
  rw [lg_entry_eq]
  generalize (lg_sl ([.int a0, .ref (ad a1), .long a2, .long a4]) ++ List.replicate (7 - (lg_sl ([.int a0, .ref (ad a1), .long a2, .long a4])).length) Slot.unset).toArray = ls at hl ⊢
  exact kFloating_test_0 ⟨B.exec, B.bytes, B.returns, hml, hown, hts, B.notSynchronized⟩ hG a0 a1 a2 a4 hk1 hl


set_option maxHeartbeats 4000000 in
set_option maxRecDepth 100000 in
theorem kFloating_wholeNumber_132 {p : Program} {l : Launch} {e : Env} {s : State} {m : MethodId} {args : Array Value} {below : List Frame} {meth : Method} {c : Code} {ad td : Nat → Nat} (C : pw_C p s m args meth c cFloating_wholeNumber 13 (some .long) "BitNumbers$Floating") (hG : pw_G (fun _ => False) ad td s s.heap) (s0 : Int64) (s1 : Int32) (s2 : Nat) (hzs1 : s1 = 0 ∨ s1 = 1) (hks2 : s2 < 2) {ls : Array Slot} (hl : lv_has ls 13 []) : W p l e rmFloating_wholeNumber s m args below meth c s.heap [] 0 0 (MQ below (k2_QcV (.long (fFloating_wholeNumber_132 s0 s1 s2))) args s 0 0 (fun _ => False)) (F0 m 132 ls [.long s0, .int s1, .ref (ad s2)]) := by
  obtain ⟨hx, hb, hr, hml, hown, hts, hlocks⟩ := id C
  have hS : va_S (fun _ => False) s.heap s.heap [] := va_S.rf
  refine lv_iconst (v := 0) hx hb dFloating_wholeNumber_132 (by decide) ?_
  refine pw_call (va_runV (As := [.int s1, .long s0, .int 0]) (rest := []) ⟨hx, hb, hml, hown, hts⟩ (qFormat_rounded l ad td s2 s1 s0 0 hks2) (cwV 3 hts (gV w_417 w_418 w_419 w_44 w_420) rfl rfl rfl (by decide +kernel) ⟨Nat.le_of_ble_eq_true rfl, Nat.le_of_ble_eq_true rfl⟩) ⟨pw_bG, va_recvE hG.1 hks2 hS, fun U hU hW => ⟨rfl, (hG.at hU hW)⟩⟩ rfl rfl hl.1 rfl (lv_room (Nat.le_of_ble_eq_true rfl)) dFloating_wholeNumber_133 ⟨Nat.zero_le _, Nat.zero_le _⟩) ?_
  exact W.lret hx hb hr (fun t ht _ => ⟨by rw [(show fFloating_wholeNumber_132 s0 s1 s2 = fFormat_rounded s2 s1 s0 0 by rw [fFloating_wholeNumber_132])], ht⟩) (fun q h => nomatch h) dFloating_wholeNumber_136
set_option maxHeartbeats 4000000 in
set_option maxRecDepth 100000 in
theorem kFloating_wholeNumber_130 {p : Program} {l : Launch} {e : Env} {s : State} {m : MethodId} {args : Array Value} {below : List Frame} {meth : Method} {c : Code} {ad td : Nat → Nat} (C : pw_C p s m args meth c cFloating_wholeNumber 13 (some .long) "BitNumbers$Floating") (hG : pw_G (fun _ => False) ad td s s.heap) (a9 : Int64) (s0 : Int32) (s1 : Nat) (hzs0 : s0 = 0 ∨ s0 = 1) (hks1 : s1 < 2) {ls : Array Slot} (hl : lv_has ls 13 [(9, .long a9)]) : W p l e rmFloating_wholeNumber s m args below meth c s.heap [] 0 0 (MQ below (k2_QcV (.long (fFloating_wholeNumber_130 a9 s0 s1))) args s 0 0 (fun _ => False)) (F0 m 130 ls [.int s0, .ref (ad s1)]) := by
  obtain ⟨hx, hb, hr, hml, hown, hts, hlocks⟩ := id C
  have hS : va_S (fun _ => False) s.heap s.heap [] := va_S.rf
  refine lv_lload hx hb dFloating_wholeNumber_130 (lv_at hl 0 rfl) ?_
  rw [(show fFloating_wholeNumber_130 a9 s0 s1 = fFloating_wholeNumber_132 a9 s0 s1 by rw [fFloating_wholeNumber_130])]
  exact kFloating_wholeNumber_132 C hG a9 s0 s1 hzs0 hks1 (lv_sub hl [] rfl)
set_option maxHeartbeats 4000000 in
set_option maxRecDepth 100000 in
theorem kFloating_wholeNumber_108 {p : Program} {l : Launch} {e : Env} {s : State} {m : MethodId} {args : Array Value} {below : List Frame} {meth : Method} {c : Code} {ad td : Nat → Nat} (C : pw_C p s m args meth c cFloating_wholeNumber 13 (some .long) "BitNumbers$Floating") (hG : pw_G (fun _ => False) ad td s s.heap) (a1 : Nat) (a5 : Int32) (a9 : Int64) (a11 : Int32) (s0 : Int32) (hk1 : a1 < 2) (hz5 : a5 = 0 ∨ a5 = 1) (hz11 : a11 = 0 ∨ a11 = 1) (hzs0 : s0 = 0 ∨ s0 = 1) {ls : Array Slot} (hl : lv_has ls 13 [(1, .ref (ad a1)), (5, .int a5), (9, .long a9), (11, .int a11)]) : W p l e rmFloating_wholeNumber s m args below meth c s.heap [] 0 0 (MQ below (k2_QcV (.long (fFloating_wholeNumber_108 a1 a5 a9 a11 s0))) args s 0 0 (fun _ => False)) (F0 m 108 ls [.int s0]) := by
  obtain ⟨hx, hb, hr, hml, hown, hts, hlocks⟩ := id C
  have hS : va_S (fun _ => False) s.heap s.heap [] := va_S.rf
  refine lv_istore (lv' := [(12, .int s0), (1, .ref (ad a1)), (5, .int a5), (9, .long a9), (11, .int a11)]) hx hb dFloating_wholeNumber_108 hl (by decide) rfl (fun ls hl => ?_)
  refine lv_aload_n hx hb dFloating_wholeNumber_110 rfl (lv_at hl 1 rfl) ?_
  refine lv_iload hx hb dFloating_wholeNumber_111 (lv_at hl 2 rfl) ?_
  refine lv_iload hx hb dFloating_wholeNumber_113 (lv_at hl 4 rfl) ?_
  refine lv_if_eq (tgt := 130) hx hb dFloating_wholeNumber_115 (by decide) (fun h1 => ?_) (fun h1 => ?_)
  · rw [(show fFloating_wholeNumber_108 a1 a5 a9 a11 s0 = fFloating_wholeNumber_130 a9 a5 a1 by rw [fFloating_wholeNumber_108, if_pos h1])]
    exact kFloating_wholeNumber_130 C hG a9 a5 a1 hz5 hk1 (lv_sub hl [3] rfl)
  · refine lv_iload hx hb dFloating_wholeNumber_118 (lv_at hl 0 rfl) ?_
    refine lv_if_eq (tgt := 130) hx hb dFloating_wholeNumber_120 (by decide) (fun h2 => ?_) (fun h2 => ?_)
    · rw [(show fFloating_wholeNumber_108 a1 a5 a9 a11 s0 = fFloating_wholeNumber_130 a9 a5 a1 by rw [fFloating_wholeNumber_108, if_neg h1, if_pos h2])]
      exact kFloating_wholeNumber_130 C hG a9 a5 a1 hz5 hk1 (lv_sub hl [3] rfl)
    · refine lv_lload hx hb dFloating_wholeNumber_123 (lv_at hl 3 rfl) ?_
      refine lv_lconst (v := 1) hx hb dFloating_wholeNumber_125 (by decide) ?_
      refine lv_ladd hx hb dFloating_wholeNumber_126 ?_
      refine lv_goto (tgt := 132) hx hb dFloating_wholeNumber_127 (by decide) ?_
      rw [(show fFloating_wholeNumber_108 a1 a5 a9 a11 s0 = fFloating_wholeNumber_132 (a9 + 1) a5 a1 by rw [fFloating_wholeNumber_108, if_neg h1, if_neg h2])]
      exact kFloating_wholeNumber_132 C hG (a9 + 1) a5 a1 hz5 hk1 (lv_sub hl [] rfl)
set_option maxHeartbeats 4000000 in
set_option maxRecDepth 100000 in
theorem kFloating_wholeNumber_107 {p : Program} {l : Launch} {e : Env} {s : State} {m : MethodId} {args : Array Value} {below : List Frame} {meth : Method} {c : Code} {ad td : Nat → Nat} (C : pw_C p s m args meth c cFloating_wholeNumber 13 (some .long) "BitNumbers$Floating") (hG : pw_G (fun _ => False) ad td s s.heap) (a1 : Nat) (a5 : Int32) (a9 : Int64) (a11 : Int32) (hk1 : a1 < 2) (hz5 : a5 = 0 ∨ a5 = 1) (hz11 : a11 = 0 ∨ a11 = 1) {ls : Array Slot} (hl : lv_has ls 13 [(1, .ref (ad a1)), (5, .int a5), (9, .long a9), (11, .int a11)]) : W p l e rmFloating_wholeNumber s m args below meth c s.heap [] 0 0 (MQ below (k2_QcV (.long (fFloating_wholeNumber_107 a1 a5 a9 a11))) args s 0 0 (fun _ => False)) (F0 m 107 ls []) := by
  obtain ⟨hx, hb, hr, hml, hown, hts, hlocks⟩ := id C
  have hS : va_S (fun _ => False) s.heap s.heap [] := va_S.rf
  refine lv_iconst (v := 0) hx hb dFloating_wholeNumber_107 (by decide) ?_
  rw [(show fFloating_wholeNumber_107 a1 a5 a9 a11 = fFloating_wholeNumber_108 a1 a5 a9 a11 0 by rw [fFloating_wholeNumber_107])]
  exact kFloating_wholeNumber_108 C hG a1 a5 a9 a11 0 hk1 hz5 hz11 (Or.inl rfl) (lv_sub hl [0, 1, 2, 3] rfl)
set_option maxHeartbeats 4000000 in
set_option maxRecDepth 100000 in
theorem kFloating_wholeNumber_103 {p : Program} {l : Launch} {e : Env} {s : State} {m : MethodId} {args : Array Value} {below : List Frame} {meth : Method} {c : Code} {ad td : Nat → Nat} (C : pw_C p s m args meth c cFloating_wholeNumber 13 (some .long) "BitNumbers$Floating") (hG : pw_G (fun _ => False) ad td s s.heap) (a1 : Nat) (a5 : Int32) (a9 : Int64) (a11 : Int32) (hk1 : a1 < 2) (hz5 : a5 = 0 ∨ a5 = 1) (hz11 : a11 = 0 ∨ a11 = 1) {ls : Array Slot} (hl : lv_has ls 13 [(1, .ref (ad a1)), (5, .int a5), (9, .long a9), (11, .int a11)]) : W p l e rmFloating_wholeNumber s m args below meth c s.heap [] 0 0 (MQ below (k2_QcV (.long (fFloating_wholeNumber_103 a1 a5 a9 a11))) args s 0 0 (fun _ => False)) (F0 m 103 ls []) := by
  obtain ⟨hx, hb, hr, hml, hown, hts, hlocks⟩ := id C
  have hS : va_S (fun _ => False) s.heap s.heap [] := va_S.rf
  refine lv_iconst (v := 1) hx hb dFloating_wholeNumber_103 (by decide) ?_
  refine lv_goto (tgt := 108) hx hb dFloating_wholeNumber_104 (by decide) ?_
  rw [(show fFloating_wholeNumber_103 a1 a5 a9 a11 = fFloating_wholeNumber_108 a1 a5 a9 a11 1 by rw [fFloating_wholeNumber_103])]
  exact kFloating_wholeNumber_108 C hG a1 a5 a9 a11 1 hk1 hz5 hz11 (Or.inr rfl) (lv_sub hl [0, 1, 2, 3] rfl)
set_option maxHeartbeats 4000000 in
set_option maxRecDepth 100000 in
theorem kFloating_wholeNumber_93 {p : Program} {l : Launch} {e : Env} {s : State} {m : MethodId} {args : Array Value} {below : List Frame} {meth : Method} {c : Code} {ad td : Nat → Nat} (C : pw_C p s m args meth c cFloating_wholeNumber 13 (some .long) "BitNumbers$Floating") (hG : pw_G (fun _ => False) ad td s s.heap) (a0 : Int32) (a1 : Nat) (a5 : Int32) (a9 : Int64) (a11 : Int32) (hk1 : a1 < 2) (hz5 : a5 = 0 ∨ a5 = 1) (hz11 : a11 = 0 ∨ a11 = 1) {ls : Array Slot} (hl : lv_has ls 13 [(0, .int a0), (1, .ref (ad a1)), (5, .int a5), (9, .long a9), (11, .int a11)]) : W p l e rmFloating_wholeNumber s m args below meth c s.heap [] 0 0 (MQ below (k2_QcV (.long (fFloating_wholeNumber_93 a0 a1 a5 a9 a11))) args s 0 0 (fun _ => False)) (F0 m 93 ls []) := by
  obtain ⟨hx, hb, hr, hml, hown, hts, hlocks⟩ := id C
  have hS : va_S (fun _ => False) s.heap s.heap [] := va_S.rf
  refine lv_iload_n hx hb dFloating_wholeNumber_93 rfl (lv_at hl 0 rfl) ?_
  refine lv_iconst (v := 3) hx hb dFloating_wholeNumber_94 (by decide) ?_
  refine lv_icmp_ne (tgt := 107) hx hb dFloating_wholeNumber_95 (by decide) (fun h1 => ?_) (fun h1 => ?_)
  · rw [(show fFloating_wholeNumber_93 a0 a1 a5 a9 a11 = fFloating_wholeNumber_107 a1 a5 a9 a11 by rw [fFloating_wholeNumber_93, if_neg h1])]
    exact kFloating_wholeNumber_107 C hG a1 a5 a9 a11 hk1 hz5 hz11 (lv_sub hl [1, 2, 3, 4] rfl)
  · refine lv_iload hx hb dFloating_wholeNumber_98 (lv_at hl 2 rfl) ?_
    refine lv_if_eq (tgt := 107) hx hb dFloating_wholeNumber_100 (by decide) (fun h2 => ?_) (fun h2 => ?_)
    · rw [(show fFloating_wholeNumber_93 a0 a1 a5 a9 a11 = fFloating_wholeNumber_107 a1 a5 a9 a11 by rw [fFloating_wholeNumber_93, if_pos h1, if_pos h2])]
      exact kFloating_wholeNumber_107 C hG a1 a5 a9 a11 hk1 hz5 hz11 (lv_sub hl [1, 2, 3, 4] rfl)
    · rw [(show fFloating_wholeNumber_93 a0 a1 a5 a9 a11 = fFloating_wholeNumber_103 a1 a5 a9 a11 by rw [fFloating_wholeNumber_93, if_pos h1, if_neg h2])]
      exact kFloating_wholeNumber_103 C hG a1 a5 a9 a11 hk1 hz5 hz11 (lv_sub hl [1, 2, 3, 4] rfl)
set_option maxHeartbeats 4000000 in
set_option maxRecDepth 100000 in
theorem kFloating_wholeNumber_81 {p : Program} {l : Launch} {e : Env} {s : State} {m : MethodId} {args : Array Value} {below : List Frame} {meth : Method} {c : Code} {ad td : Nat → Nat} (C : pw_C p s m args meth c cFloating_wholeNumber 13 (some .long) "BitNumbers$Floating") (hG : pw_G (fun _ => False) ad td s s.heap) (a0 : Int32) (a1 : Nat) (a5 : Int32) (a9 : Int64) (s0 : Int32) (hk1 : a1 < 2) (hz5 : a5 = 0 ∨ a5 = 1) (hzs0 : s0 = 0 ∨ s0 = 1) {ls : Array Slot} (hl : lv_has ls 13 [(0, .int a0), (1, .ref (ad a1)), (5, .int a5), (9, .long a9)]) : W p l e rmFloating_wholeNumber s m args below meth c s.heap [] 0 0 (MQ below (k2_QcV (.long (fFloating_wholeNumber_81 a0 a1 a5 a9 s0))) args s 0 0 (fun _ => False)) (F0 m 81 ls [.int s0]) := by
  obtain ⟨hx, hb, hr, hml, hown, hts, hlocks⟩ := id C
  have hS : va_S (fun _ => False) s.heap s.heap [] := va_S.rf
  refine lv_istore (lv' := [(11, .int s0), (0, .int a0), (1, .ref (ad a1)), (5, .int a5), (9, .long a9)]) hx hb dFloating_wholeNumber_81 hl (by decide) rfl (fun ls hl => ?_)
  refine lv_iload_n hx hb dFloating_wholeNumber_83 rfl (lv_at hl 1 rfl) ?_
  refine lv_iconst (v := 2) hx hb dFloating_wholeNumber_84 (by decide) ?_
  refine lv_icmp_ne (tgt := 93) hx hb dFloating_wholeNumber_85 (by decide) (fun h1 => ?_) (fun h1 => ?_)
  · rw [(show fFloating_wholeNumber_81 a0 a1 a5 a9 s0 = fFloating_wholeNumber_93 a0 a1 a5 a9 s0 by rw [fFloating_wholeNumber_81, if_neg h1])]
    exact kFloating_wholeNumber_93 C hG a0 a1 a5 a9 s0 hk1 hz5 hzs0 (lv_sub hl [1, 2, 3, 4, 0] rfl)
  · refine lv_iload hx hb dFloating_wholeNumber_88 (lv_at hl 3 rfl) ?_
    refine lv_if_eq (tgt := 103) hx hb dFloating_wholeNumber_90 (by decide) (fun h2 => ?_) (fun h2 => ?_)
    · rw [(show fFloating_wholeNumber_81 a0 a1 a5 a9 s0 = fFloating_wholeNumber_103 a1 a5 a9 s0 by rw [fFloating_wholeNumber_81, if_pos h1, if_pos h2])]
      exact kFloating_wholeNumber_103 C hG a1 a5 a9 s0 hk1 hz5 hzs0 (lv_sub hl [2, 3, 4, 0] rfl)
    · rw [(show fFloating_wholeNumber_81 a0 a1 a5 a9 s0 = fFloating_wholeNumber_93 a0 a1 a5 a9 s0 by rw [fFloating_wholeNumber_81, if_pos h1, if_neg h2])]
      exact kFloating_wholeNumber_93 C hG a0 a1 a5 a9 s0 hk1 hz5 hzs0 (lv_sub hl [1, 2, 3, 4, 0] rfl)
set_option maxHeartbeats 4000000 in
set_option maxRecDepth 100000 in
theorem kFloating_wholeNumber_65 {p : Program} {l : Launch} {e : Env} {s : State} {m : MethodId} {args : Array Value} {below : List Frame} {meth : Method} {c : Code} {ad td : Nat → Nat} (C : pw_C p s m args meth c cFloating_wholeNumber 13 (some .long) "BitNumbers$Floating") (hG : pw_G (fun _ => False) ad td s s.heap) (a0 : Int32) (a1 : Nat) (a5 : Int32) (a6 : Int64) (a8 : Int32) (a9 : Int64) (hk1 : a1 < 2) (hz5 : a5 = 0 ∨ a5 = 1) {ls : Array Slot} (hl : lv_has ls 13 [(0, .int a0), (1, .ref (ad a1)), (5, .int a5), (6, .long a6), (8, .int a8), (9, .long a9)]) : W p l e rmFloating_wholeNumber s m args below meth c s.heap [] 0 0 (MQ below (k2_QcV (.long (fFloating_wholeNumber_65 a0 a1 a5 a6 a8 a9))) args s 0 0 (fun _ => False)) (F0 m 65 ls []) := by
  obtain ⟨hx, hb, hr, hml, hown, hts, hlocks⟩ := id C
  have hS : va_S (fun _ => False) s.heap s.heap [] := va_S.rf
  refine lv_lload hx hb dFloating_wholeNumber_65 (lv_at hl 5 rfl) ?_
  refine lv_iload hx hb dFloating_wholeNumber_67 (lv_at hl 4 rfl) ?_
  refine lv_lshl (v := bn_shl a9 a8) hx hb dFloating_wholeNumber_69 rfl ?_
  refine lv_lload hx hb dFloating_wholeNumber_70 (lv_at hl 3 rfl) ?_
  refine W.lcmp hx hb dFloating_wholeNumber_72 ?_
  refine lv_if_eq (tgt := 80) hx hb dFloating_wholeNumber_73 (by decide) (fun h1 => ?_) (fun h1 => ?_)
  · have h1 : (bn_shl a9 a8) = a6 := (lg_cmp_eq _ _).mp h1
    refine lv_iconst (v := 0) hx hb dFloating_wholeNumber_80 (by decide) ?_
    rw [(show fFloating_wholeNumber_65 a0 a1 a5 a6 a8 a9 = fFloating_wholeNumber_81 a0 a1 a5 a9 0 by rw [fFloating_wholeNumber_65, if_pos h1])]
    exact kFloating_wholeNumber_81 C hG a0 a1 a5 a9 0 hk1 hz5 (Or.inl rfl) (lv_sub hl [0, 1, 2, 5] rfl)
  · have h1 : ¬ ((bn_shl a9 a8) = a6) := fun w => h1 ((lg_cmp_eq _ _).mpr w)
    refine lv_iconst (v := 1) hx hb dFloating_wholeNumber_76 (by decide) ?_
    refine lv_goto (tgt := 81) hx hb dFloating_wholeNumber_77 (by decide) ?_
    rw [(show fFloating_wholeNumber_65 a0 a1 a5 a6 a8 a9 = fFloating_wholeNumber_81 a0 a1 a5 a9 1 by rw [fFloating_wholeNumber_65, if_neg h1])]
    exact kFloating_wholeNumber_81 C hG a0 a1 a5 a9 1 hk1 hz5 (Or.inr rfl) (lv_sub hl [0, 1, 2, 5] rfl)
set_option maxHeartbeats 4000000 in
set_option maxRecDepth 100000 in
theorem kFloating_wholeNumber_58 {p : Program} {l : Launch} {e : Env} {s : State} {m : MethodId} {args : Array Value} {below : List Frame} {meth : Method} {c : Code} {ad td : Nat → Nat} (C : pw_C p s m args meth c cFloating_wholeNumber 13 (some .long) "BitNumbers$Floating") (hG : pw_G (fun _ => False) ad td s s.heap) (a0 : Int32) (a1 : Nat) (a5 : Int32) (a6 : Int64) (a8 : Int32) (hk1 : a1 < 2) (hz5 : a5 = 0 ∨ a5 = 1) {ls : Array Slot} (hl : lv_has ls 13 [(0, .int a0), (1, .ref (ad a1)), (5, .int a5), (6, .long a6), (8, .int a8)]) : W p l e rmFloating_wholeNumber s m args below meth c s.heap [] 0 0 (MQ below (k2_QcV (.long (fFloating_wholeNumber_58 a0 a1 a5 a6 a8))) args s 0 0 (fun _ => False)) (F0 m 58 ls []) := by
  obtain ⟨hx, hb, hr, hml, hown, hts, hlocks⟩ := id C
  have hS : va_S (fun _ => False) s.heap s.heap [] := va_S.rf
  refine lv_lload hx hb dFloating_wholeNumber_58 (lv_at hl 3 rfl) ?_
  refine lv_iload hx hb dFloating_wholeNumber_60 (lv_at hl 4 rfl) ?_
  refine lv_lushr (v := bn_shr a6 a8) hx hb dFloating_wholeNumber_62 rfl ?_
  refine lv_lstore (lv' := [(9, .long (bn_shr a6 a8)), (0, .int a0), (1, .ref (ad a1)), (5, .int a5), (6, .long a6), (8, .int a8)]) hx hb dFloating_wholeNumber_63 hl (by decide) rfl (fun ls hl => ?_)
  rw [(show fFloating_wholeNumber_58 a0 a1 a5 a6 a8 = fFloating_wholeNumber_65 a0 a1 a5 a6 a8 (bn_shr a6 a8) by rw [fFloating_wholeNumber_58])]
  exact kFloating_wholeNumber_65 C hG a0 a1 a5 a6 a8 (bn_shr a6 a8) hk1 hz5 (lv_sub hl [1, 2, 3, 4, 5, 0] rfl)
set_option maxHeartbeats 4000000 in
set_option maxRecDepth 100000 in
theorem kFloating_wholeNumber_29 {p : Program} {l : Launch} {e : Env} {s : State} {m : MethodId} {args : Array Value} {below : List Frame} {meth : Method} {c : Code} {ad td : Nat → Nat} (C : pw_C p s m args meth c cFloating_wholeNumber 13 (some .long) "BitNumbers$Floating") (hG : pw_G (fun _ => False) ad td s s.heap) (a0 : Int32) (a1 : Nat) (a4 : Int32) (a5 : Int32) (a6 : Int64) (hk1 : a1 < 2) (hz5 : a5 = 0 ∨ a5 = 1) {ls : Array Slot} (hl : lv_has ls 13 [(0, .int a0), (1, .ref (ad a1)), (4, .int a4), (5, .int a5), (6, .long a6)]) : W p l e rmFloating_wholeNumber s m args below meth c s.heap [] 0 0 (MQ below (k2_QcV (.long (fFloating_wholeNumber_29 a0 a1 a4 a5 a6))) args s 0 0 (fun _ => False)) (F0 m 29 ls []) := by
  obtain ⟨hx, hb, hr, hml, hown, hts, hlocks⟩ := id C
  have hS : va_S (fun _ => False) s.heap s.heap [] := va_S.rf
  refine lv_iload_n hx hb dFloating_wholeNumber_29 rfl (lv_at hl 0 rfl) ?_
  refine lv_iconst (v := 5) hx hb dFloating_wholeNumber_30 (by decide) ?_
  refine lv_icmp_ne (tgt := 49) hx hb dFloating_wholeNumber_31 (by decide) (fun h1 => ?_) (fun h1 => ?_)
  · refine lv_iload hx hb dFloating_wholeNumber_49 (lv_at hl 2 rfl) ?_
    refine lv_bipush (v := 63) hx hb dFloating_wholeNumber_51 (by decide) ?_
    refine pw_mmin hx hb (by rw [hml]; exact hl.1.symm) hown (hts _ w_424) (hts _ w_425) (hts _ w_45) (hts _ w_426) (Nat.le_of_ble_eq_true rfl) (Nat.le_of_ble_eq_true rfl) (Nat.zero_le _) (Nat.zero_le _) dFloating_wholeNumber_53 ?_
    refine lv_istore (lv' := [(8, .int (fMath_min a4 63)), (0, .int a0), (1, .ref (ad a1)), (4, .int a4), (5, .int a5), (6, .long a6)]) hx hb dFloating_wholeNumber_56 hl (by decide) rfl (fun ls hl => ?_)
    rw [(show fFloating_wholeNumber_29 a0 a1 a4 a5 a6 = fFloating_wholeNumber_58 a0 a1 a5 a6 (fMath_min a4 63) by rw [fFloating_wholeNumber_29, if_neg h1])]
    exact kFloating_wholeNumber_58 C hG a0 a1 a5 a6 (fMath_min a4 63) hk1 hz5 (lv_sub hl [1, 2, 4, 5, 0] rfl)
  · refine lv_aload_n hx hb dFloating_wholeNumber_34 rfl (lv_at hl 1 rfl) ?_
    refine lv_iload hx hb dFloating_wholeNumber_35 (lv_at hl 3 rfl) ?_
    refine lv_lload hx hb dFloating_wholeNumber_37 (lv_at hl 4 rfl) ?_
    refine lv_iload hx hb dFloating_wholeNumber_39 (lv_at hl 2 rfl) ?_
    refine pw_call (va_runS (As := [.long a6, .int a4]) (rest := [.int a5, .ref (ad a1)]) ⟨hx, hb, hml, hown, hts⟩ (qFormat_nearest l ad td a6 a4) (va_cwS 2 hts (gS w_414 w_415 w_44 w_416) rfl rfl rfl (by decide +kernel) ⟨Nat.le_of_ble_eq_true rfl, Nat.le_of_ble_eq_true rfl⟩) ⟨pw_bG, fun U hU hW => ⟨rfl, (hG.at hU hW)⟩⟩ rfl rfl hl.1 rfl (lv_room (Nat.le_of_ble_eq_true rfl)) dFloating_wholeNumber_41 ⟨Nat.zero_le _, Nat.zero_le _⟩) ?_
    refine lv_iconst (v := 0) hx hb dFloating_wholeNumber_44 (by decide) ?_
    refine pw_call (va_runV (As := [.int a5, .long (fFormat_nearest a6 a4), .int 0]) (rest := []) ⟨hx, hb, hml, hown, hts⟩ (qFormat_rounded l ad td a1 a5 (fFormat_nearest a6 a4) 0 hk1) (cwV 3 hts (gV w_417 w_418 w_419 w_44 w_420) rfl rfl rfl (by decide +kernel) ⟨Nat.le_of_ble_eq_true rfl, Nat.le_of_ble_eq_true rfl⟩) ⟨pw_bG, va_recvE hG.1 hk1 hS, fun U hU hW => ⟨rfl, (hG.at hU hW)⟩⟩ rfl rfl hl.1 rfl (lv_room (Nat.le_of_ble_eq_true rfl)) dFloating_wholeNumber_45 ⟨Nat.zero_le _, Nat.zero_le _⟩) ?_
    exact W.lret hx hb hr (fun t ht _ => ⟨by rw [(show fFloating_wholeNumber_29 a0 a1 a4 a5 a6 = fFormat_rounded a1 a5 (fFormat_nearest a6 a4) 0 by rw [fFloating_wholeNumber_29, if_pos h1])], ht⟩) (fun q h => nomatch h) dFloating_wholeNumber_48
set_option maxHeartbeats 4000000 in
set_option maxRecDepth 100000 in
theorem kFloating_wholeNumber_22 {p : Program} {l : Launch} {e : Env} {s : State} {m : MethodId} {args : Array Value} {below : List Frame} {meth : Method} {c : Code} {ad td : Nat → Nat} (C : pw_C p s m args meth c cFloating_wholeNumber 13 (some .long) "BitNumbers$Floating") (hG : pw_G (fun _ => False) ad td s s.heap) (a0 : Int32) (a1 : Nat) (a2 : Int64) (a4 : Int32) (a5 : Int32) (hk1 : a1 < 2) (hz5 : a5 = 0 ∨ a5 = 1) {ls : Array Slot} (hl : lv_has ls 13 [(0, .int a0), (1, .ref (ad a1)), (2, .long a2), (4, .int a4), (5, .int a5)]) : W p l e rmFloating_wholeNumber s m args below meth c s.heap [] 0 0 (MQ below (k2_QcV (.long (fFloating_wholeNumber_22 a0 a1 a2 a4 a5))) args s 0 0 (fun _ => False)) (F0 m 22 ls []) := by
  obtain ⟨hx, hb, hr, hml, hown, hts, hlocks⟩ := id C
  have hS : va_S (fun _ => False) s.heap s.heap [] := va_S.rf
  refine lv_aload_n hx hb dFloating_wholeNumber_22 rfl (lv_at hl 1 rfl) ?_
  refine lv_lload_n hx hb dFloating_wholeNumber_23 rfl (lv_at hl 2 rfl) ?_
  refine pw_call (va_runV (As := [.long a2]) (rest := []) ⟨hx, hb, hml, hown, hts⟩ (qFormat_significand l ad td a1 a2 hk1) (cwV 1 hts (gV w_413 w_320 w_321 w_44 w_322) rfl rfl rfl (by decide +kernel) ⟨Nat.le_of_ble_eq_true rfl, Nat.le_of_ble_eq_true rfl⟩) ⟨pw_bG, va_recvE hG.1 hk1 hS, fun U hU hW => ⟨rfl, (hG.at hU hW)⟩⟩ rfl rfl hl.1 rfl (lv_room (Nat.le_of_ble_eq_true rfl)) dFloating_wholeNumber_24 ⟨Nat.zero_le _, Nat.zero_le _⟩) ?_
  refine lv_lstore (lv' := [(6, .long (fFormat_significand a1 a2)), (0, .int a0), (1, .ref (ad a1)), (2, .long a2), (4, .int a4), (5, .int a5)]) hx hb dFloating_wholeNumber_27 hl (by decide) rfl (fun ls hl => ?_)
  rw [(show fFloating_wholeNumber_22 a0 a1 a2 a4 a5 = fFloating_wholeNumber_29 a0 a1 a4 a5 (fFormat_significand a1 a2) by rw [fFloating_wholeNumber_22])]
  exact kFloating_wholeNumber_29 C hG a0 a1 a4 a5 (fFormat_significand a1 a2) hk1 hz5 (lv_sub hl [1, 2, 4, 5, 0] rfl)
set_option maxHeartbeats 4000000 in
set_option maxRecDepth 100000 in
theorem kFloating_wholeNumber_8 {p : Program} {l : Launch} {e : Env} {s : State} {m : MethodId} {args : Array Value} {below : List Frame} {meth : Method} {c : Code} {ad td : Nat → Nat} (C : pw_C p s m args meth c cFloating_wholeNumber 13 (some .long) "BitNumbers$Floating") (hG : pw_G (fun _ => False) ad td s s.heap) (a0 : Int32) (a1 : Nat) (a2 : Int64) (a4 : Int32) (hk1 : a1 < 2) {ls : Array Slot} (hl : lv_has ls 13 [(0, .int a0), (1, .ref (ad a1)), (2, .long a2), (4, .int a4)]) : W p l e rmFloating_wholeNumber s m args below meth c s.heap [] 0 0 (MQ below (k2_QcV (.long (fFloating_wholeNumber_8 a0 a1 a2 a4))) args s 0 0 (fun _ => False)) (F0 m 8 ls []) := by
  obtain ⟨hx, hb, hr, hml, hown, hts, hlocks⟩ := id C
  have hS : va_S (fun _ => False) s.heap s.heap [] := va_S.rf
  refine lv_iload hx hb dFloating_wholeNumber_8 (lv_at hl 3 rfl) ?_
  refine lv_if_gt (tgt := 15) hx hb dFloating_wholeNumber_10 (by decide) (fun h1 => ?_) (fun h1 => ?_)
  · refine lv_aload_n hx hb dFloating_wholeNumber_15 rfl (lv_at hl 1 rfl) ?_
    refine lv_lload_n hx hb dFloating_wholeNumber_16 rfl (lv_at hl 2 rfl) ?_
    refine pw_call (va_runV (As := [.long a2]) (rest := []) ⟨hx, hb, hml, hown, hts⟩ (qFormat_isNegative l ad td a1 a2 hk1) (cwV 1 hts (gV w_383 w_142 w_143 w_44 w_144) rfl rfl rfl (by decide +kernel) ⟨Nat.le_of_ble_eq_true rfl, Nat.le_of_ble_eq_true rfl⟩) ⟨pw_bG, va_recvE hG.1 hk1 hS, fun U hU hW => ⟨rfl, (hG.at hU hW)⟩⟩ rfl rfl hl.1 rfl (lv_room (Nat.le_of_ble_eq_true rfl)) dFloating_wholeNumber_17 ⟨Nat.zero_le _, Nat.zero_le _⟩) ?_
    refine lv_istore (lv' := [(5, .int (fFormat_isNegative a1 a2)), (0, .int a0), (1, .ref (ad a1)), (2, .long a2), (4, .int a4)]) hx hb dFloating_wholeNumber_20 hl (by decide) rfl (fun ls hl => ?_)
    rw [(show fFloating_wholeNumber_8 a0 a1 a2 a4 = fFloating_wholeNumber_22 a0 a1 a2 a4 (fFormat_isNegative a1 a2) by rw [fFloating_wholeNumber_8, if_pos h1])]
    exact kFloating_wholeNumber_22 C hG a0 a1 a2 a4 (fFormat_isNegative a1 a2) hk1 (zFormat_isNegative a1 a2) (lv_sub hl [1, 2, 3, 4, 0] rfl)
  · refine lv_lload_n hx hb dFloating_wholeNumber_13 rfl (lv_at hl 2 rfl) ?_
    exact W.lret hx hb hr (fun t ht _ => ⟨by rw [(show fFloating_wholeNumber_8 a0 a1 a2 a4 = a2 by rw [fFloating_wholeNumber_8, if_neg h1])], ht⟩) (fun q h => nomatch h) dFloating_wholeNumber_14
set_option maxHeartbeats 4000000 in
set_option maxRecDepth 100000 in
theorem kFloating_wholeNumber_0 {p : Program} {l : Launch} {e : Env} {s : State} {m : MethodId} {args : Array Value} {below : List Frame} {meth : Method} {c : Code} {ad td : Nat → Nat} (C : pw_C p s m args meth c cFloating_wholeNumber 13 (some .long) "BitNumbers$Floating") (hG : pw_G (fun _ => False) ad td s s.heap) (a0 : Int32) (a1 : Nat) (a2 : Int64) (hk1 : a1 < 2) {ls : Array Slot} (hl : lv_has ls 13 [(0, .int a0), (1, .ref (ad a1)), (2, .long a2)]) : W p l e rmFloating_wholeNumber s m args below meth c s.heap [] 0 0 (MQ below (k2_QcV (.long (fFloating_wholeNumber a0 a1 a2))) args s 0 0 (fun _ => False)) (F0 m 0 ls []) := by
  obtain ⟨hx, hb, hr, hml, hown, hts, hlocks⟩ := id C
  have hS : va_S (fun _ => False) s.heap s.heap [] := va_S.rf
  refine lv_aload_n hx hb dFloating_wholeNumber_0 rfl (lv_at hl 1 rfl) ?_
  refine lv_lload_n hx hb dFloating_wholeNumber_1 rfl (lv_at hl 2 rfl) ?_
  refine pw_call (va_runV (As := [.long a2]) (rest := []) ⟨hx, hb, hml, hown, hts⟩ (qFormat_scale l ad td a1 a2 hk1) (cwV 1 hts (gV w_412 w_324 w_325 w_44 w_326) rfl rfl rfl (by decide +kernel) ⟨Nat.le_of_ble_eq_true rfl, Nat.le_of_ble_eq_true rfl⟩) ⟨pw_bG, va_recvE hG.1 hk1 hS, fun U hU hW => ⟨rfl, (hG.at hU hW)⟩⟩ rfl rfl hl.1 rfl (lv_room (Nat.le_of_ble_eq_true rfl)) dFloating_wholeNumber_2 ⟨Nat.zero_le _, Nat.zero_le _⟩) ?_
  refine lv_ineg hx hb dFloating_wholeNumber_5 ?_
  refine lv_istore (lv' := [(4, .int (-(fFormat_scale a1 a2))), (0, .int a0), (1, .ref (ad a1)), (2, .long a2)]) hx hb dFloating_wholeNumber_6 hl (by decide) rfl (fun ls hl => ?_)
  rw [(show fFloating_wholeNumber a0 a1 a2 = fFloating_wholeNumber_8 a0 a1 a2 (-(fFormat_scale a1 a2)) by rw [fFloating_wholeNumber])]
  exact kFloating_wholeNumber_8 C hG a0 a1 a2 (-(fFormat_scale a1 a2)) hk1 (lv_sub hl [1, 2, 3, 0] rfl)
set_option maxHeartbeats 4000000 in
set_option maxRecDepth 100000 in
theorem qFloating_wholeNumber (l : Launch) (ad td : Nat → Nat) (a0 : Int32) (a1 : Nat) (a2 : Int64) (hk1 : a1 < 2) : Met l yFloating_wholeNumber wsFloating_wholeNumber rmFloating_wholeNumber (va_Pc [.int a0, .ref (ad a1), .long a2] (fun U => pw_G (fun _ => False) ad td U U.heap)) (k2_QcV (.long (fFloating_wholeNumber a0 a1 a2))) 0 0 (fun _ => False) := by
  refine Met.ofW (cc := cFloating_wholeNumber) (maxL := 13) (ret := (some .long)) (by decide) rfl ?_
  intro p e s m args below meth c s₁ B hml hv
  obtain ⟨rfl, hG⟩ := hv
  have hts0 := atoms_spec (ws := wsFloating_wholeNumber) B.pre
  have hts := fun (w : Cond) (h : w ∈ aw) => hts0 w (List.mem_cons_of_mem _ h)
  have hown : s.vm.findClass "BitNumbers$Floating" = some m.cls := findClass_of_methodNamed B.named
  have hl := lv_entry ([.int a0, .ref (ad a1), .long a2]) (n := 13) (Nat.le_of_ble_eq_true rfl)
  rw [lg_entry_eq]
  generalize (lg_sl ([.int a0, .ref (ad a1), .long a2]) ++ List.replicate (13 - (lg_sl ([.int a0, .ref (ad a1), .long a2])).length) Slot.unset).toArray = ls at hl ⊢
  exact kFloating_wholeNumber_0 ⟨B.exec, B.bytes, B.returns, hml, hown, hts, B.notSynchronized⟩ hG a0 a1 a2 hk1 hl

set_option maxHeartbeats 4000000 in
set_option maxRecDepth 100000 in
theorem kFormat_isZero_0 {p : Program} {l : Launch} {e : Env} {s : State} {m : MethodId} {args : Array Value} {below : List Frame} {meth : Method} {c : Code} {ad td : Nat → Nat} (C : pw_C p s m args meth c cFormat_isZero 3 (some .boolean) "BitNumbers$Format") (hG : pw_G (fun _ => False) ad td s s.heap) (a0 : Nat) (a1 : Int64) (hk0 : a0 < 2) {ls : Array Slot} (hl : lv_has ls 3 [(0, .ref (ad a0)), (1, .long a1)]) : W p l e rmFormat_isZero s m args below meth c s.heap [] 0 0 (MQ below (k2_QcV (.int (fFormat_isZero a0 a1))) args s 0 0 (fun _ => False)) (F0 m 0 ls []) := by
  obtain ⟨hx, hb, hr, hml, hown, hts, hlocks⟩ := id C
  have hS : va_S (fun _ => False) s.heap s.heap [] := va_S.rf
  refine lv_lload_n hx hb dFormat_isZero_0 rfl (lv_at hl 1 rfl) ?_
  refine lv_aload_n hx hb dFormat_isZero_1 rfl (lv_at hl 0 rfl) ?_
  refine va_getX hx hb hG.2.1.2.2.2.1 hk0 hS hown (hts _ w_808) (fun _ h9 => h9) dFormat_isZero_2 ?_
  refine lv_ldc2 hx hb hown (hts _ w_157) dFormat_isZero_5 ?_
  refine lv_lxor hx hb dFormat_isZero_8 ?_
  refine lv_land hx hb dFormat_isZero_9 ?_
  refine lv_lconst (v := 0) hx hb dFormat_isZero_10 (by decide) ?_
  refine W.lcmp hx hb dFormat_isZero_11 ?_
  refine lv_if_ne (tgt := 19) hx hb dFormat_isZero_12 (by decide) (fun h1 => ?_) (fun h1 => ?_)
  · have h1 : ¬ ((a1 &&& ((fm_signBit a0) ^^^ (-1))) = 0) := fun w => h1 ((lg_cmp_eq _ _).mpr w)
    refine lv_iconst (v := 0) hx hb dFormat_isZero_19 (by decide) ?_
    exact W.zret hx hb hr (pw_nz (Or.inl rfl)) (fun t ht _ => ⟨by rw [(show fFormat_isZero a0 a1 = 0 by rw [fFormat_isZero, if_neg h1])], ht⟩) (fun q h => nomatch h) dFormat_isZero_20
  · have h1 : (a1 &&& ((fm_signBit a0) ^^^ (-1))) = 0 := (lg_cmp_eq _ _).mp h1
    refine lv_iconst (v := 1) hx hb dFormat_isZero_15 (by decide) ?_
    refine lv_goto (tgt := 20) hx hb dFormat_isZero_16 (by decide) ?_
    exact W.zret hx hb hr (pw_nz (Or.inr rfl)) (fun t ht _ => ⟨by rw [(show fFormat_isZero a0 a1 = 1 by rw [fFormat_isZero, if_pos h1])], ht⟩) (fun q h => nomatch h) dFormat_isZero_20
set_option maxHeartbeats 4000000 in
set_option maxRecDepth 100000 in
theorem qFormat_isZero (l : Launch) (ad td : Nat → Nat) (a0 : Nat) (a1 : Int64) (hk0 : a0 < 2) : Met l yFormat_isZero wsFormat_isZero rmFormat_isZero (va_Pc [.ref (ad a0), .long a1] (fun U => pw_G (fun _ => False) ad td U U.heap)) (k2_QcV (.int (fFormat_isZero a0 a1))) 0 0 (fun _ => False) := by
  refine Met.ofW (cc := cFormat_isZero) (maxL := 3) (ret := (some .boolean)) (by decide) rfl ?_
  intro p e s m args below meth c s₁ B hml hv
  obtain ⟨rfl, hG⟩ := hv
  have hts0 := atoms_spec (ws := wsFormat_isZero) B.pre
  have hts := fun (w : Cond) (h : w ∈ aw) => hts0 w (List.mem_cons_of_mem _ h)
  have hown : s.vm.findClass "BitNumbers$Format" = some m.cls := findClass_of_methodNamed B.named
  have hl := lv_entry ([.ref (ad a0), .long a1]) (n := 3) (Nat.le_of_ble_eq_true rfl)
  rw [lg_entry_eq]
  generalize (lg_sl ([.ref (ad a0), .long a1]) ++ List.replicate (3 - (lg_sl ([.ref (ad a0), .long a1])).length) Slot.unset).toArray = ls at hl ⊢
  exact kFormat_isZero_0 ⟨B.exec, B.bytes, B.returns, hml, hown, hts, B.notSynchronized⟩ hG a0 a1 hk0 hl

set_option maxHeartbeats 4000000 in
set_option maxRecDepth 100000 in
theorem kFloating_lift_0 {p : Program} {l : Launch} {e : Env} {s : State} {m : MethodId} {args : Array Value} {below : List Frame} {meth : Method} {c : Code} (C : pw_C p s m args meth c cFloating_lift 2 (some .int) "BitNumbers$Floating") (a0 : Int64) {ls : Array Slot} (hl : lv_has ls 2 [(0, .long a0)]) : W p l e rmFloating_lift s m args below meth c s.heap [] 0 0 (MQ below (k2_QcV (.int (fFloating_lift a0))) args s 0 0 (fun _ => False)) (F0 m 0 ls []) := by
  obtain ⟨hx, hb, hr, hml, hown, hts, hlocks⟩ := id C
  refine lv_bipush (v := 62) hx hb dFloating_lift_0 (by decide) ?_
  refine lv_lload_n hx hb dFloating_lift_2 rfl (lv_at hl 0 rfl) ?_
  refine pw_call (va_runS (As := [.long a0]) (rest := [.int 62]) ⟨hx, hb, hml, hown, hts⟩ (qWhole_length l a0) (va_cwS 1 hts (gS w_435 w_331 w_35 w_332) rfl rfl rfl (by decide +kernel) ⟨Nat.le_of_ble_eq_true rfl, Nat.le_of_ble_eq_true rfl⟩) ⟨pw_bT, fun U hU hW => ⟨rfl, trivial⟩⟩ rfl rfl hl.1 rfl (lv_room (Nat.le_of_ble_eq_true rfl)) dFloating_lift_3 ⟨Nat.zero_le _, Nat.zero_le _⟩) ?_
  refine lv_isub hx hb dFloating_lift_6 ?_
  exact W.iret hx hb hr (fun t ht _ => ⟨by rw [(show fFloating_lift a0 = 62 - (fWhole_length a0) by rw [fFloating_lift])], ht⟩) (fun q h => nomatch h) dFloating_lift_7
set_option maxHeartbeats 4000000 in
set_option maxRecDepth 100000 in
theorem qFloating_lift (l : Launch) (a0 : Int64) : Met l yFloating_lift wsFloating_lift rmFloating_lift (va_Pc [.long a0] (fun _ => True)) (k2_QcV (.int (fFloating_lift a0))) 0 0 (fun _ => False) := by
  refine Met.ofW (cc := cFloating_lift) (maxL := 2) (ret := (some .int)) (by decide) rfl ?_
  intro p e s m args below meth c s₁ B hml hv
  obtain ⟨rfl, hG⟩ := hv
  have hts0 := atoms_spec (ws := wsFloating_lift) B.pre
  have hts := fun (w : Cond) (h : w ∈ aw) => hts0 w (List.mem_cons_of_mem _ h)
  have hown : s.vm.findClass "BitNumbers$Floating" = some m.cls := findClass_of_methodNamed B.named
  have hl := lv_entry ([.long a0]) (n := 2) (Nat.le_of_ble_eq_true rfl)
  rw [lg_entry_eq]
  generalize (lg_sl ([.long a0]) ++ List.replicate (2 - (lg_sl ([.long a0])).length) Slot.unset).toArray = ls at hl ⊢
  exact kFloating_lift_0 ⟨B.exec, B.bytes, B.returns, hml, hown, hts, B.notSynchronized⟩ a0 hl

