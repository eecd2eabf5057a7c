set_option maxHeartbeats 4000000 in
set_option maxRecDepth 100000 in
theorem kFormat_kind_0 {p : Program} {l : Launch} {e : Env} {s : State} {m : MethodId} {args : Array Value} {below : List Frame} {meth : Method} {c : Code} {ad td : Nat → Nat} (C : pw_C p s m args meth c cFormat_kind 3 (some .int) "BitNumbers$Format") (hG : pw_G (fun _ => False) ad td s s.heap) (a0 : Nat) (a1 : Int64) (hk0 : a0 < 2) {ls : Array Slot} (hl : lv_has ls 3 [(0, .ref (ad a0)), (1, .long a1)]) : W p l e rmFormat_kind s m args below meth c s.heap [] 0 0 (MQ below (k2_QcV (.int (fFormat_kind a0 a1))) args s 0 0 (fun _ => False)) (F0 m 0 ls []) := by
  obtain ⟨hx, hb, hr, hml, hown, hts, hlocks⟩ := id C
  have hS : va_S (fun _ => False) s.heap s.heap [] := va_S.rf
  refine lv_aload_n hx hb dFormat_kind_0 rfl (lv_at hl 0 rfl) ?_
  refine lv_lload_n hx hb dFormat_kind_1 rfl (lv_at hl 1 rfl) ?_
  refine pw_call (va_runV (As := [.long a1]) (rest := []) ⟨hx, hb, hml, hown, hts⟩ (qFormat_isNone l ad td a0 a1 hk0) (cwV 1 hts (gV w_153 w_154 w_155 w_44 w_156) rfl rfl rfl (by decide +kernel) ⟨Nat.le_of_ble_eq_true rfl, Nat.le_of_ble_eq_true rfl⟩) ⟨pw_bG, va_recvE hG.1 hk0 hS, fun U hU hW => ⟨rfl, (hG.at hU hW)⟩⟩ rfl rfl hl.1 rfl (lv_room (Nat.le_of_ble_eq_true rfl)) dFormat_kind_2 ⟨Nat.zero_le _, Nat.zero_le _⟩) ?_
  refine lv_if_eq (tgt := 10) hx hb dFormat_kind_5 (by decide) (fun h1 => ?_) (fun h1 => ?_)
  · refine lv_aload_n hx hb dFormat_kind_10 rfl (lv_at hl 0 rfl) ?_
    refine lv_lload_n hx hb dFormat_kind_11 rfl (lv_at hl 1 rfl) ?_
    refine pw_call (va_runV (As := [.long a1]) (rest := []) ⟨hx, hb, hml, hown, hts⟩ (qFormat_isInfinite l ad td a0 a1 hk0) (cwV 1 hts (gV w_158 w_159 w_160 w_44 w_161) rfl rfl rfl (by decide +kernel) ⟨Nat.le_of_ble_eq_true rfl, Nat.le_of_ble_eq_true rfl⟩) ⟨pw_bG, va_recvE hG.1 hk0 hS, fun U hU hW => ⟨rfl, (hG.at hU hW)⟩⟩ rfl rfl hl.1 rfl (lv_room (Nat.le_of_ble_eq_true rfl)) dFormat_kind_12 ⟨Nat.zero_le _, Nat.zero_le _⟩) ?_
    refine lv_if_eq (tgt := 20) hx hb dFormat_kind_15 (by decide) (fun h2 => ?_) (fun h2 => ?_)
    · refine lv_aload_n hx hb dFormat_kind_20 rfl (lv_at hl 0 rfl) ?_
      refine lv_lload_n hx hb dFormat_kind_21 rfl (lv_at hl 1 rfl) ?_
      refine pw_call (va_runV (As := [.long a1]) (rest := []) ⟨hx, hb, hml, hown, hts⟩ (qFormat_isZero l ad td a0 a1 hk0) (cwV 1 hts (gV w_162 w_163 w_164 w_44 w_165) rfl rfl rfl (by decide +kernel) ⟨Nat.le_of_ble_eq_true rfl, Nat.le_of_ble_eq_true rfl⟩) ⟨pw_bG, va_recvE hG.1 hk0 hS, fun U hU hW => ⟨rfl, (hG.at hU hW)⟩⟩ rfl rfl hl.1 rfl (lv_room (Nat.le_of_ble_eq_true rfl)) dFormat_kind_22 ⟨Nat.zero_le _, Nat.zero_le _⟩) ?_
      refine lv_if_eq (tgt := 30) hx hb dFormat_kind_25 (by decide) (fun h3 => ?_) (fun h3 => ?_)
      · refine lv_aload_n hx hb dFormat_kind_30 rfl (lv_at hl 0 rfl) ?_
        refine lv_lload_n hx hb dFormat_kind_31 rfl (lv_at hl 1 rfl) ?_
        refine pw_call (va_runV (As := [.long a1]) (rest := []) ⟨hx, hb, hml, hown, hts⟩ (qFormat_exponent l ad td a0 a1 hk0) (cwV 1 hts (gV w_166 w_146 w_147 w_44 w_148) rfl rfl rfl (by decide +kernel) ⟨Nat.le_of_ble_eq_true rfl, Nat.le_of_ble_eq_true rfl⟩) ⟨pw_bG, va_recvE hG.1 hk0 hS, fun U hU hW => ⟨rfl, (hG.at hU hW)⟩⟩ rfl rfl hl.1 rfl (lv_room (Nat.le_of_ble_eq_true rfl)) dFormat_kind_32 ⟨Nat.zero_le _, Nat.zero_le _⟩) ?_
        refine lv_if_ne (tgt := 42) hx hb dFormat_kind_35 (by decide) (fun h4 => ?_) (fun h4 => ?_)
        · refine lv_iconst (v := 2) hx hb dFormat_kind_42 (by decide) ?_
          exact W.iret hx hb hr (fun t ht _ => ⟨by rw [(show fFormat_kind a0 a1 = 2 by rw [fFormat_kind, if_pos h1, if_pos h2, if_pos h3, if_neg h4])], ht⟩) (fun q h => nomatch h) dFormat_kind_43
        · refine lv_iconst (v := 1) hx hb dFormat_kind_38 (by decide) ?_
          refine lv_goto (tgt := 43) hx hb dFormat_kind_39 (by decide) ?_
          exact W.iret hx hb hr (fun t ht _ => ⟨by rw [(show fFormat_kind a0 a1 = 1 by rw [fFormat_kind, if_pos h1, if_pos h2, if_pos h3, if_pos h4])], ht⟩) (fun q h => nomatch h) dFormat_kind_43
      · refine lv_iconst (v := 0) hx hb dFormat_kind_28 (by decide) ?_
        exact W.iret hx hb hr (fun t ht _ => ⟨by rw [(show fFormat_kind a0 a1 = 0 by rw [fFormat_kind, if_pos h1, if_pos h2, if_neg h3])], ht⟩) (fun q h => nomatch h) dFormat_kind_29
    · refine lv_iconst (v := 3) hx hb dFormat_kind_18 (by decide) ?_
      exact W.iret hx hb hr (fun t ht _ => ⟨by rw [(show fFormat_kind a0 a1 = 3 by rw [fFormat_kind, if_pos h1, if_neg h2])], ht⟩) (fun q h => nomatch h) dFormat_kind_19
  · refine lv_iconst (v := 4) hx hb dFormat_kind_8 (by decide) ?_
    exact W.iret hx hb hr (fun t ht _ => ⟨by rw [(show fFormat_kind a0 a1 = 4 by rw [fFormat_kind, if_neg h1])], ht⟩) (fun q h => nomatch h) dFormat_kind_9
set_option maxHeartbeats 4000000 in
set_option maxRecDepth 100000 in
theorem qFormat_kind (l : Launch) (ad td : Nat → Nat) (a0 : Nat) (a1 : Int64) (hk0 : a0 < 2) : Met l yFormat_kind wsFormat_kind rmFormat_kind (va_Pc [.ref (ad a0), .long a1] (fun U => pw_G (fun _ => False) ad td U U.heap)) (k2_QcV (.int (fFormat_kind a0 a1))) 0 0 (fun _ => False) := by
  refine Met.ofW (cc := cFormat_kind) (maxL := 3) (ret := (some .int)) (by decide) rfl ?_
  intro p e s m args below meth c s₁ B hml hv
  obtain ⟨rfl, hG⟩ := hv
  have hts0 := atoms_spec (ws := wsFormat_kind) B.pre
  have hts := fun (w : Cond) (h : w ∈ aw) => hts0 w (List.mem_cons_of_mem _ h)
  have hown : s.vm.findClass "BitNumbers$Format" = some m.cls := findClass_of_methodNamed B.named
  have hl := lv_entry ([.ref (ad a0), .long a1]) (n := 3) (Nat.le_of_ble_eq_true rfl)
  rw [lg_entry_eq]
  generalize (lg_sl ([.ref (ad a0), .long a1]) ++ List.replicate (3 - (lg_sl ([.ref (ad a0), .long a1])).length) Slot.unset).toArray = ls at hl ⊢
  exact kFormat_kind_0 ⟨B.exec, B.bytes, B.returns, hml, hown, hts, B.notSynchronized⟩ hG a0 a1 hk0 hl

set_option maxHeartbeats 4000000 in
set_option maxRecDepth 100000 in
theorem kOperators_exists_34 {p : Program} {l : Launch} {e : Env} {s : State} {m : MethodId} {args : Array Value} {below : List Frame} {meth : Method} {c : Code} {ad td : Nat → Nat} (C : pw_C p s m args meth c cOperators_exists 1 (some .boolean) "BitNumbers$Operators") (hG : pw_G (fun _ => False) ad td s s.heap)  {ls : Array Slot} (hl : lv_has ls 1 []) : W p l e rmOperators_exists s m args below meth c s.heap [] 0 0 (MQ below (k2_QcV (.int (fOperators_exists_34))) args s 0 0 (fun _ => False)) (F0 m 34 ls []) := by
  obtain ⟨hx, hb, hr, hml, hown, hts, hlocks⟩ := id C
  have hS : va_S (fun _ => False) s.heap s.heap [] := va_S.rf
  refine lv_iconst (v := 0) hx hb dOperators_exists_34 (by decide) ?_
  exact W.zret hx hb hr (pw_nz (Or.inl rfl)) (fun t ht _ => ⟨by rw [(show fOperators_exists_34 = 0 by rw [fOperators_exists_34])], ht⟩) (fun q h => nomatch h) dOperators_exists_35
set_option maxHeartbeats 4000000 in
set_option maxRecDepth 100000 in
theorem kOperators_exists_30 {p : Program} {l : Launch} {e : Env} {s : State} {m : MethodId} {args : Array Value} {below : List Frame} {meth : Method} {c : Code} {ad td : Nat → Nat} (C : pw_C p s m args meth c cOperators_exists 1 (some .boolean) "BitNumbers$Operators") (hG : pw_G (fun _ => False) ad td s s.heap)  {ls : Array Slot} (hl : lv_has ls 1 []) : W p l e rmOperators_exists s m args below meth c s.heap [] 0 0 (MQ below (k2_QcV (.int (fOperators_exists_30))) args s 0 0 (fun _ => False)) (F0 m 30 ls []) := by
  obtain ⟨hx, hb, hr, hml, hown, hts, hlocks⟩ := id C
  have hS : va_S (fun _ => False) s.heap s.heap [] := va_S.rf
  refine lv_iconst (v := 1) hx hb dOperators_exists_30 (by decide) ?_
  refine lv_goto (tgt := 35) hx hb dOperators_exists_31 (by decide) ?_
  exact W.zret hx hb hr (pw_nz (Or.inr rfl)) (fun t ht _ => ⟨by rw [(show fOperators_exists_30 = 1 by rw [fOperators_exists_30])], ht⟩) (fun q h => nomatch h) dOperators_exists_35
set_option maxHeartbeats 4000000 in
set_option maxRecDepth 100000 in
theorem kOperators_exists_16 {p : Program} {l : Launch} {e : Env} {s : State} {m : MethodId} {args : Array Value} {below : List Frame} {meth : Method} {c : Code} {ad td : Nat → Nat} (C : pw_C p s m args meth c cOperators_exists 1 (some .boolean) "BitNumbers$Operators") (hG : pw_G (fun _ => False) ad td s s.heap) (a0 : Int32) {ls : Array Slot} (hl : lv_has ls 1 [(0, .int a0)]) : W p l e rmOperators_exists s m args below meth c s.heap [] 0 0 (MQ below (k2_QcV (.int (fOperators_exists_16 a0))) args s 0 0 (fun _ => False)) (F0 m 16 ls []) := by
  obtain ⟨hx, hb, hr, hml, hown, hts, hlocks⟩ := id C
  have hS : va_S (fun _ => False) s.heap s.heap [] := va_S.rf
  refine lv_iload_n hx hb dOperators_exists_16 rfl (lv_at hl 0 rfl) ?_
  refine lv_sipush (v := 200) hx hb dOperators_exists_17 (by decide) ?_
  refine lv_icmp_lt (tgt := 34) hx hb dOperators_exists_20 (by decide) (fun h1 => ?_) (fun h1 => ?_)
  · rw [(show fOperators_exists_16 a0 = fOperators_exists_34 by rw [fOperators_exists_16, if_pos h1])]
    exact kOperators_exists_34 C hG (lv_sub hl [] rfl)
  · refine lv_iload_n hx hb dOperators_exists_23 rfl (lv_at hl 0 rfl) ?_
    refine lv_sipush (v := 207) hx hb dOperators_exists_24 (by decide) ?_
    refine lv_icmp_gt (tgt := 34) hx hb dOperators_exists_27 (by decide) (fun h2 => ?_) (fun h2 => ?_)
    · rw [(show fOperators_exists_16 a0 = fOperators_exists_34 by rw [fOperators_exists_16, if_neg h1, if_pos h2])]
      exact kOperators_exists_34 C hG (lv_sub hl [] rfl)
    · rw [(show fOperators_exists_16 a0 = fOperators_exists_30 by rw [fOperators_exists_16, if_neg h1, if_neg h2])]
      exact kOperators_exists_30 C hG (lv_sub hl [] rfl)
set_option maxHeartbeats 4000000 in
set_option maxRecDepth 100000 in
theorem kOperators_exists_0 {p : Program} {l : Launch} {e : Env} {s : State} {m : MethodId} {args : Array Value} {below : List Frame} {meth : Method} {c : Code} {ad td : Nat → Nat} (C : pw_C p s m args meth c cOperators_exists 1 (some .boolean) "BitNumbers$Operators") (hG : pw_G (fun _ => False) ad td s s.heap) (a0 : Int32) {ls : Array Slot} (hl : lv_has ls 1 [(0, .int a0)]) : W p l e rmOperators_exists s m args below meth c s.heap [] 0 0 (MQ below (k2_QcV (.int (fOperators_exists a0))) args s 0 0 (fun _ => False)) (F0 m 0 ls []) := by
  obtain ⟨hx, hb, hr, hml, hown, hts, hlocks⟩ := id C
  have hS : va_S (fun _ => False) s.heap s.heap [] := va_S.rf
  refine lv_iload_n hx hb dOperators_exists_0 rfl (lv_at hl 0 rfl) ?_
  refine va_gets hx hb hG.2.2.2.1 hS hown (hts _ w_95) (fun _ h9 => h9) dOperators_exists_1 ?_
  refine lv_iconst (v := 0) hx hb dOperators_exists_4 (by decide) ?_
  refine va_ti hx hb (hG.2.2.1 0 (by decide)) hS (by unfold vp_in; decide) rfl dOperators_exists_5 ?_
  refine lv_icmp_lt (tgt := 16) hx hb dOperators_exists_6 (by decide) (fun h1 => ?_) (fun h1 => ?_)
  · rw [(show fOperators_exists a0 = fOperators_exists_16 a0 by rw [fOperators_exists, if_pos h1])]
    exact kOperators_exists_16 C hG a0 (lv_sub hl [0] rfl)
  · refine lv_iload_n hx hb dOperators_exists_9 rfl (lv_at hl 0 rfl) ?_
    refine lv_sipush (v := 196) hx hb dOperators_exists_10 (by decide) ?_
    refine lv_icmp_le (tgt := 30) hx hb dOperators_exists_13 (by decide) (fun h2 => ?_) (fun h2 => ?_)
    · rw [(show fOperators_exists a0 = fOperators_exists_30 by rw [fOperators_exists, if_neg h1, if_pos h2])]
      exact kOperators_exists_30 C hG (lv_sub hl [] rfl)
    · rw [(show fOperators_exists a0 = fOperators_exists_16 a0 by rw [fOperators_exists, if_neg h1, if_neg h2])]
      exact kOperators_exists_16 C hG a0 (lv_sub hl [0] rfl)
set_option maxHeartbeats 4000000 in
set_option maxRecDepth 100000 in
theorem qOperators_exists (l : Launch) (ad td : Nat → Nat) (a0 : Int32) : Met l yOperators_exists wsOperators_exists rmOperators_exists (va_Pc [.int a0] (fun U => pw_G (fun _ => False) ad td U U.heap)) (k2_QcV (.int (fOperators_exists a0))) 0 0 (fun _ => False) := by
  refine Met.ofW (cc := cOperators_exists) (maxL := 1) (ret := (some .boolean)) (by decide) rfl ?_
  intro p e s m args below meth c s₁ B hml hv
  obtain ⟨rfl, hG⟩ := hv
  have hts0 := atoms_spec (ws := wsOperators_exists) B.pre
  have hts := fun (w : Cond) (h : w ∈ aw) => hts0 w (List.mem_cons_of_mem _ h)
  have hown : s.vm.findClass "BitNumbers$Operators" = some m.cls := findClass_of_methodNamed B.named
  have hl := lv_entry ([.int a0]) (n := 1) (Nat.le_of_ble_eq_true rfl)
  rw [lg_entry_eq]
  generalize (lg_sl ([.int a0]) ++ List.replicate (1 - (lg_sl ([.int a0])).length) Slot.unset).toArray = ls at hl ⊢
  exact kOperators_exists_0 ⟨B.exec, B.bytes, B.returns, hml, hown, hts, B.notSynchronized⟩ hG a0 hl

set_option maxHeartbeats 4000000 in
set_option maxRecDepth 100000 in
theorem kOperators_family_23 {p : Program} {l : Launch} {e : Env} {s : State} {m : MethodId} {args : Array Value} {below : List Frame} {meth : Method} {c : Code} {ad td : Nat → Nat} (C : pw_C p s m args meth c cOperators_family 3 (some .int) "BitNumbers$Operators") (hG : pw_G (fun _ => False) ad td s s.heap) (a0 : Int32) (a1 : Int32) (a2 : Int32) {n : Nat} (K : Int32 → Int32 → Int32 → Int32) (hI : pw_B a2 n 9) (hK : ∀ (b0 : Int32) (b1 : Int32) (b2 : Int32) (hI : pw_I b2 n 9) {ls : Array Slot} (hl : lv_has ls 3 [(0, .int b0), (1, .int b1), (2, .int b2)]), W p l e rmOperators_family s m args below meth c s.heap [] 0 0 (MQ below (k2_QcV (.int (K b0 b1 b2))) args s 0 0 (fun _ => False)) (F0 m 4 ls [])) {ls : Array Slot} (hl : lv_has ls 3 [(0, .int a0), (1, .int a1), (2, .int a2)]) : W p l e rmOperators_family s m args below meth c s.heap [] 0 0 (MQ below (k2_QcV (.int (fOperators_family_23 K a0 a1 a2))) args s 0 0 (fun _ => False)) (F0 m 23 ls []) := by
  obtain ⟨hx, hb, hr, hml, hown, hts, hlocks⟩ := id C
  have hS : va_S (fun _ => False) s.heap s.heap [] := va_S.rf
  refine lv_iinc (v := a2 + 1) (lv' := [(2, .int (a2 + 1)), (0, .int a0), (1, .int a1)]) hx hb dOperators_family_23 hl (k := 2) rfl rfl (by decide) rfl (fun ls hl => ?_)
  refine lv_goto (tgt := 4) hx hb dOperators_family_26 (by decide) ?_
  rw [(show fOperators_family_23 K a0 a1 a2 = K a0 a1 (a2 + 1) by rw [fOperators_family_23])]
  exact hK a0 a1 (a2 + 1) (pw_B_next hI) (lv_sub hl [1, 2, 0] rfl)
set_option maxHeartbeats 4000000 in
set_option maxRecDepth 100000 in
theorem kOperators_family_4 {p : Program} {l : Launch} {e : Env} {s : State} {m : MethodId} {args : Array Value} {below : List Frame} {meth : Method} {c : Code} {ad td : Nat → Nat} (C : pw_C p s m args meth c cOperators_family 3 (some .int) "BitNumbers$Operators") (hG : pw_G (fun _ => False) ad td s s.heap) : ∀ (n : Nat) (a0 : Int32) (a1 : Int32) (a2 : Int32) (hI : pw_I a2 n 9) {ls : Array Slot} (hl : lv_has ls 3 [(0, .int a0), (1, .int a1), (2, .int a2)]), W p l e rmOperators_family s m args below meth c s.heap [] 0 0 (MQ below (k2_QcV (.int (fOperators_family_4 n a0 a1 a2))) args s 0 0 (fun _ => False)) (F0 m 4 ls []) := by
  obtain ⟨hx, hb, hr, hml, hown, hts, hlocks⟩ := id C
  have hS : va_S (fun _ => False) s.heap s.heap [] := va_S.rf
  intro n
  induction n with
  | zero =>
    intro a0 a1 a2 hI
    exact absurd hI pw_I_zero
  | succ n ih =>
    intro a0 a1 a2 hI ls hl
    refine lv_iload_n hx hb dOperators_family_4 rfl (lv_at hl 2 rfl) ?_
    refine va_gets hx hb hG.2.2.2.1 hS hown (hts _ w_95) (fun _ h9 => h9) dOperators_family_5 ?_
    refine va_tlen hx hb (hG.2.2.1 0 (by decide)) hS (v := 9) (by decide) dOperators_family_8 ?_
    refine lv_icmp_ge (tgt := 29) hx hb dOperators_family_9 (by decide) (fun h1 => ?_) (fun h1 => ?_)
    · refine lv_iload_n hx hb dOperators_family_29 rfl (lv_at hl 1 rfl) ?_
      exact W.iret hx hb hr (fun t ht _ => ⟨by rw [(show fOperators_family_4 (n + 1) a0 a1 a2 = a1 by rw [fOperators_family_4, if_pos h1])], ht⟩) (fun q h => nomatch h) dOperators_family_30
    · refine lv_iload_n hx hb dOperators_family_12 rfl (lv_at hl 0 rfl) ?_
      refine va_gets hx hb hG.2.2.2.1 hS hown (hts _ w_95) (fun _ h9 => h9) dOperators_family_13 ?_
      refine lv_iload_n hx hb dOperators_family_16 rfl (lv_at hl 2 rfl) ?_
      refine va_ti hx hb (hG.2.2.1 0 (by decide)) hS (pw_B_in (pw_I_body hI h1) (by decide)) rfl dOperators_family_17 ?_
      refine lv_icmp_lt (tgt := 23) hx hb dOperators_family_18 (by decide) (fun h2 => ?_) (fun h2 => ?_)
      · rw [(show fOperators_family_4 (n + 1) a0 a1 a2 = fOperators_family_23 (fOperators_family_4 n) a0 a1 a2 by rw [fOperators_family_4, if_neg h1, if_pos h2])]
        exact kOperators_family_23 C hG a0 a1 a2 (fOperators_family_4 n) (pw_I_body hI h1) (fun b0 b1 b2 hI _ hl => ih b0 b1 b2 hI hl) (lv_sub hl [0, 1, 2] rfl)
      · refine lv_iload_n hx hb dOperators_family_21 rfl (lv_at hl 2 rfl) ?_
        refine lv_istore_n (lv' := [(1, .int a2), (0, .int a0), (2, .int a2)]) hx hb dOperators_family_22 rfl hl (by decide) rfl (fun ls hl => ?_)
        rw [(show fOperators_family_4 (n + 1) a0 a1 a2 = fOperators_family_23 (fOperators_family_4 n) a0 a2 a2 by rw [fOperators_family_4, if_neg h1, if_neg h2])]
        exact kOperators_family_23 C hG a0 a2 a2 (fOperators_family_4 n) (pw_I_body hI h1) (fun b0 b1 b2 hI _ hl => ih b0 b1 b2 hI hl) (lv_sub hl [1, 0, 2] rfl)
set_option maxHeartbeats 4000000 in
set_option maxRecDepth 100000 in
theorem kOperators_family_0 {p : Program} {l : Launch} {e : Env} {s : State} {m : MethodId} {args : Array Value} {below : List Frame} {meth : Method} {c : Code} {ad td : Nat → Nat} (C : pw_C p s m args meth c cOperators_family 3 (some .int) "BitNumbers$Operators") (hG : pw_G (fun _ => False) ad td s s.heap) (a0 : Int32) {ls : Array Slot} (hl : lv_has ls 3 [(0, .int a0)]) : W p l e rmOperators_family s m args below meth c s.heap [] 0 0 (MQ below (k2_QcV (.int (fOperators_family a0))) args s 0 0 (fun _ => False)) (F0 m 0 ls []) := by
  obtain ⟨hx, hb, hr, hml, hown, hts, hlocks⟩ := id C
  have hS : va_S (fun _ => False) s.heap s.heap [] := va_S.rf
  refine lv_iconst (v := 0) hx hb dOperators_family_0 (by decide) ?_
  refine lv_istore_n (lv' := [(1, .int 0), (0, .int a0)]) hx hb dOperators_family_1 rfl hl (by decide) rfl (fun ls hl => ?_)
  refine lv_iconst (v := 1) hx hb dOperators_family_2 (by decide) ?_
  refine lv_istore_n (lv' := [(2, .int 1), (1, .int 0), (0, .int a0)]) hx hb dOperators_family_3 rfl hl (by decide) rfl (fun ls hl => ?_)
  rw [(show fOperators_family a0 = fOperators_family_4 9 a0 0 1 by rw [fOperators_family])]
  exact kOperators_family_4 C hG 9 a0 0 1 (⟨1, by decide, by decide, by decide⟩ : pw_I 1 9 9) (lv_sub hl [2, 1, 0] rfl)
set_option maxHeartbeats 4000000 in
set_option maxRecDepth 100000 in
theorem qOperators_family (l : Launch) (ad td : Nat → Nat) (a0 : Int32) : Met l yOperators_family wsOperators_family rmOperators_family (va_Pc [.int a0] (fun U => pw_G (fun _ => False) ad td U U.heap)) (k2_QcV (.int (fOperators_family a0))) 0 0 (fun _ => False) := by
  refine Met.ofW (cc := cOperators_family) (maxL := 3) (ret := (some .int)) (by decide) rfl ?_
  intro p e s m args below meth c s₁ B hml hv
  obtain ⟨rfl, hG⟩ := hv
  have hts0 := atoms_spec (ws := wsOperators_family) B.pre
  have hts := fun (w : Cond) (h : w ∈ aw) => hts0 w (List.mem_cons_of_mem _ h)
  have hown : s.vm.findClass "BitNumbers$Operators" = some m.cls := findClass_of_methodNamed B.named
  have hl := lv_entry ([.int a0]) (n := 3) (Nat.le_of_ble_eq_true rfl)
  rw [lg_entry_eq]
  generalize (lg_sl ([.int a0]) ++ List.replicate (3 - (lg_sl ([.int a0])).length) Slot.unset).toArray = ls at hl ⊢
  exact kOperators_family_0 ⟨B.exec, B.bytes, B.returns, hml, hown, hts, B.notSynchronized⟩ hG a0 hl

set_option maxHeartbeats 4000000 in
set_option maxRecDepth 100000 in
theorem kOperators_operands_5 {p : Program} {l : Launch} {e : Env} {s : State} {m : MethodId} {args : Array Value} {below : List Frame} {meth : Method} {c : Code} {ad td : Nat → Nat} (C : pw_C p s m args meth c cOperators_operands 2 (some .int) "BitNumbers$Operators") (hG : pw_G (fun _ => False) ad td s s.heap) (a0 : Int32) (a1 : Int32) (hp1 : vp_in a1 9) {ls : Array Slot} (hl : lv_has ls 2 [(0, .int a0), (1, .int a1)]) : W p l e rmOperators_operands s m args below meth c s.heap [] 0 0 (MQ below (k2_QcV (.int (fOperators_operands_5 a0 a1))) args s 0 0 (fun _ => False)) (F0 m 5 ls []) := by
  obtain ⟨hx, hb, hr, hml, hown, hts, hlocks⟩ := id C
  have hS : va_S (fun _ => False) s.heap s.heap [] := va_S.rf
  refine lv_iload_n hx hb dOperators_operands_5 rfl (lv_at hl 0 rfl) ?_
  refine va_gets hx hb hG.2.2.2.1 hS hown (hts _ w_95) (fun _ h9 => h9) dOperators_operands_6 ?_
  refine lv_iload_n hx hb dOperators_operands_9 rfl (lv_at hl 1 rfl) ?_
  refine va_ti hx hb (hG.2.2.1 0 (by decide)) hS (hp1) rfl dOperators_operands_10 ?_
  refine lv_isub hx hb dOperators_operands_11 ?_
  refine va_gets hx hb hG.2.2.2.2.1 hS hown (hts _ w_103) (fun _ h9 => h9) dOperators_operands_12 ?_
  refine lv_iload_n hx hb dOperators_operands_15 rfl (lv_at hl 1 rfl) ?_
  refine va_ti hx hb (hG.2.2.1 1 (by decide)) hS (hp1) rfl dOperators_operands_16 ?_
  refine lv_icmp_ge (tgt := 24) hx hb dOperators_operands_17 (by decide) (fun h1 => ?_) (fun h1 => ?_)
  · refine lv_iconst (v := 2) hx hb dOperators_operands_24 (by decide) ?_
    exact W.iret hx hb hr (fun t ht _ => ⟨by rw [(show fOperators_operands_5 a0 a1 = 2 by rw [fOperators_operands_5, if_pos h1])], ht⟩) (fun q h => nomatch h) dOperators_operands_25
  · refine lv_iconst (v := 1) hx hb dOperators_operands_20 (by decide) ?_
    refine lv_goto (tgt := 25) hx hb dOperators_operands_21 (by decide) ?_
    exact W.iret hx hb hr (fun t ht _ => ⟨by rw [(show fOperators_operands_5 a0 a1 = 1 by rw [fOperators_operands_5, if_neg h1])], ht⟩) (fun q h => nomatch h) dOperators_operands_25
set_option maxHeartbeats 4000000 in
set_option maxRecDepth 100000 in
theorem kOperators_operands_0 {p : Program} {l : Launch} {e : Env} {s : State} {m : MethodId} {args : Array Value} {below : List Frame} {meth : Method} {c : Code} {ad td : Nat → Nat} (C : pw_C p s m args meth c cOperators_operands 2 (some .int) "BitNumbers$Operators") (hG : pw_G (fun _ => False) ad td s s.heap) (a0 : Int32) {ls : Array Slot} (hl : lv_has ls 2 [(0, .int a0)]) : W p l e rmOperators_operands s m args below meth c s.heap [] 0 0 (MQ below (k2_QcV (.int (fOperators_operands a0))) args s 0 0 (fun _ => False)) (F0 m 0 ls []) := by
  obtain ⟨hx, hb, hr, hml, hown, hts, hlocks⟩ := id C
  have hS : va_S (fun _ => False) s.heap s.heap [] := va_S.rf
  refine lv_iload_n hx hb dOperators_operands_0 rfl (lv_at hl 0 rfl) ?_
  refine pw_call (va_runS (As := [.int a0]) (rest := []) ⟨hx, hb, hml, hown, hts⟩ (qOperators_family l ad td a0) (va_cwS 1 hts (gS w_100 w_101 w_40 w_102) rfl rfl rfl (by decide +kernel) ⟨Nat.le_of_ble_eq_true rfl, Nat.le_of_ble_eq_true rfl⟩) ⟨pw_bG, fun U hU hW => ⟨rfl, (hG.at hU hW)⟩⟩ rfl rfl hl.1 rfl (lv_room (Nat.le_of_ble_eq_true rfl)) dOperators_operands_1 ⟨Nat.zero_le _, Nat.zero_le _⟩) ?_
  refine lv_istore_n (lv' := [(1, .int (fOperators_family a0)), (0, .int a0)]) hx hb dOperators_operands_4 rfl hl (by decide) rfl (fun ls hl => ?_)
  rw [(show fOperators_operands a0 = fOperators_operands_5 a0 (fOperators_family a0) by rw [fOperators_operands])]
  exact kOperators_operands_5 C hG a0 (fOperators_family a0) (fam_in a0) (lv_sub hl [1, 0] rfl)
set_option maxHeartbeats 4000000 in
set_option maxRecDepth 100000 in
theorem qOperators_operands (l : Launch) (ad td : Nat → Nat) (a0 : Int32) : Met l yOperators_operands wsOperators_operands rmOperators_operands (va_Pc [.int a0] (fun U => pw_G (fun _ => False) ad td U U.heap)) (k2_QcV (.int (fOperators_operands a0))) 0 0 (fun _ => False) := by
  refine Met.ofW (cc := cOperators_operands) (maxL := 2) (ret := (some .int)) (by decide) rfl ?_
  intro p e s m args below meth c s₁ B hml hv
  obtain ⟨rfl, hG⟩ := hv
  have hts0 := atoms_spec (ws := wsOperators_operands) B.pre
  have hts := fun (w : Cond) (h : w ∈ aw) => hts0 w (List.mem_cons_of_mem _ h)
  have hown : s.vm.findClass "BitNumbers$Operators" = some m.cls := findClass_of_methodNamed B.named
  have hl := lv_entry ([.int a0]) (n := 2) (Nat.le_of_ble_eq_true rfl)
  rw [lg_entry_eq]
  generalize (lg_sl ([.int a0]) ++ List.replicate (2 - (lg_sl ([.int a0])).length) Slot.unset).toArray = ls at hl ⊢
  exact kOperators_operands_0 ⟨B.exec, B.bytes, B.returns, hml, hown, hts, B.notSynchronized⟩ hG a0 hl

set_option maxHeartbeats 4000000 in
set_option maxRecDepth 100000 in
theorem kOperators_typeIn_25 {p : Program} {l : Launch} {e : Env} {s : State} {m : MethodId} {args : Array Value} {below : List Frame} {meth : Method} {c : Code} {ad td : Nat → Nat} (C : pw_C p s m args meth c cOperators_typeIn 3 (some .int) "BitNumbers$Operators") (hG : pw_G (fun _ => False) ad td s s.heap)  {ls : Array Slot} (hl : lv_has ls 3 []) : W p l e rmOperators_typeIn s m args below meth c s.heap [] 0 0 (MQ below (k2_QcV (.int (fOperators_typeIn_25))) args s 0 0 (fun _ => False)) (F0 m 25 ls []) := by
  obtain ⟨hx, hb, hr, hml, hown, hts, hlocks⟩ := id C
  have hS : va_S (fun _ => False) s.heap s.heap [] := va_S.rf
  refine lv_iconst (v := (-1)) hx hb dOperators_typeIn_25 (by decide) ?_
  exact W.iret hx hb hr (fun t ht _ => ⟨by rw [(show fOperators_typeIn_25 = (-1) by rw [fOperators_typeIn_25])], ht⟩) (fun q h => nomatch h) dOperators_typeIn_26
set_option maxHeartbeats 4000000 in
set_option maxRecDepth 100000 in
theorem kOperators_typeIn_9 {p : Program} {l : Launch} {e : Env} {s : State} {m : MethodId} {args : Array Value} {below : List Frame} {meth : Method} {c : Code} {ad td : Nat → Nat} (C : pw_C p s m args meth c cOperators_typeIn 3 (some .int) "BitNumbers$Operators") (hG : pw_G (fun _ => False) ad td s s.heap) (a0 : Nat) (a2 : Int32) (hk0 : a0 < 4) {ls : Array Slot} (hl : lv_has ls 3 [(0, .ref (td a0)), (2, .int a2)]) : W p l e rmOperators_typeIn s m args below meth c s.heap [] 0 0 (MQ below (k2_QcV (.int (fOperators_typeIn_9 a0 a2))) args s 0 0 (fun _ => False)) (F0 m 9 ls []) := by
  obtain ⟨hx, hb, hr, hml, hown, hts, hlocks⟩ := id C
  have hS : va_S (fun _ => False) s.heap s.heap [] := va_S.rf
  refine lv_iload_n hx hb dOperators_typeIn_9 rfl (lv_at hl 1 rfl) ?_
  refine lv_if_lt (tgt := 25) hx hb dOperators_typeIn_10 (by decide) (fun h1 => ?_) (fun h1 => ?_)
  · rw [(show fOperators_typeIn_9 a0 a2 = fOperators_typeIn_25 by rw [fOperators_typeIn_9, if_pos h1])]
    exact kOperators_typeIn_25 C hG (lv_sub hl [] rfl)
  · refine lv_iload_n hx hb dOperators_typeIn_13 rfl (lv_at hl 1 rfl) ?_
    refine lv_aload_n hx hb dOperators_typeIn_14 rfl (lv_at hl 0 rfl) ?_
    refine va_tlen hx hb (hG.2.2.1 a0 hk0) hS (v := tb_len32 a0) rfl dOperators_typeIn_15 ?_
    refine lv_icmp_ge (tgt := 25) hx hb dOperators_typeIn_16 (by decide) (fun h2 => ?_) (fun h2 => ?_)
    · rw [(show fOperators_typeIn_9 a0 a2 = fOperators_typeIn_25 by rw [fOperators_typeIn_9, if_neg h1, if_pos h2])]
      exact kOperators_typeIn_25 C hG (lv_sub hl [] rfl)
    · refine lv_aload_n hx hb dOperators_typeIn_19 rfl (lv_at hl 0 rfl) ?_
      refine lv_iload_n hx hb dOperators_typeIn_20 rfl (lv_at hl 1 rfl) ?_
      refine va_ti hx hb (hG.2.2.1 a0 hk0) hS (tb_in hk0 h1 h2) rfl dOperators_typeIn_21 ?_
      refine lv_goto (tgt := 26) hx hb dOperators_typeIn_22 (by decide) ?_
      exact W.iret hx hb hr (fun t ht _ => ⟨by rw [(show fOperators_typeIn_9 a0 a2 = tb a0 a2.toNatClampNeg by rw [fOperators_typeIn_9, if_neg h1, if_neg h2])], ht⟩) (fun q h => nomatch h) dOperators_typeIn_26
set_option maxHeartbeats 4000000 in
set_option maxRecDepth 100000 in
theorem kOperators_typeIn_0 {p : Program} {l : Launch} {e : Env} {s : State} {m : MethodId} {args : Array Value} {below : List Frame} {meth : Method} {c : Code} {ad td : Nat → Nat} (C : pw_C p s m args meth c cOperators_typeIn 3 (some .int) "BitNumbers$Operators") (hG : pw_G (fun _ => False) ad td s s.heap) (a0 : Nat) (a1 : Int32) (hk0 : a0 < 4) {ls : Array Slot} (hl : lv_has ls 3 [(0, .ref (td a0)), (1, .int a1)]) : W p l e rmOperators_typeIn s m args below meth c s.heap [] 0 0 (MQ below (k2_QcV (.int (fOperators_typeIn a0 a1))) args s 0 0 (fun _ => False)) (F0 m 0 ls []) := by
  obtain ⟨hx, hb, hr, hml, hown, hts, hlocks⟩ := id C
  have hS : va_S (fun _ => False) s.heap s.heap [] := va_S.rf
  refine lv_iload_n hx hb dOperators_typeIn_0 rfl (lv_at hl 1 rfl) ?_
  refine va_gets hx hb hG.2.2.2.1 hS hown (hts _ w_95) (fun _ h9 => h9) dOperators_typeIn_1 ?_
  refine lv_bipush (v := 8) hx hb dOperators_typeIn_4 (by decide) ?_
  refine va_ti hx hb (hG.2.2.1 0 (by decide)) hS (by unfold vp_in; decide) rfl dOperators_typeIn_6 ?_
  refine lv_isub hx hb dOperators_typeIn_7 ?_
  refine lv_istore_n (lv' := [(2, .int (a1 - (tb 0 (8 : Int32).toNatClampNeg))), (0, .ref (td a0)), (1, .int a1)]) hx hb dOperators_typeIn_8 rfl hl (by decide) rfl (fun ls hl => ?_)
  rw [(show fOperators_typeIn a0 a1 = fOperators_typeIn_9 a0 (a1 - (tb 0 (8 : Int32).toNatClampNeg)) by rw [fOperators_typeIn])]
  exact kOperators_typeIn_9 C hG a0 (a1 - (tb 0 (8 : Int32).toNatClampNeg)) hk0 (lv_sub hl [1, 0] rfl)
set_option maxHeartbeats 4000000 in
set_option maxRecDepth 100000 in
theorem qOperators_typeIn (l : Launch) (ad td : Nat → Nat) (a0 : Nat) (a1 : Int32) (hk0 : a0 < 4) : Met l yOperators_typeIn wsOperators_typeIn rmOperators_typeIn (va_Pc [.ref (td a0), .int a1] (fun U => pw_G (fun _ => False) ad td U U.heap)) (k2_QcV (.int (fOperators_typeIn a0 a1))) 0 0 (fun _ => False) := by
  refine Met.ofW (cc := cOperators_typeIn) (maxL := 3) (ret := (some .int)) (by decide) rfl ?_
  intro p e s m args below meth c s₁ B hml hv
  obtain ⟨rfl, hG⟩ := hv
  have hts0 := atoms_spec (ws := wsOperators_typeIn) B.pre
  have hts := fun (w : Cond) (h : w ∈ aw) => hts0 w (List.mem_cons_of_mem _ h)
  have hown : s.vm.findClass "BitNumbers$Operators" = some m.cls := findClass_of_methodNamed B.named
  have hl := lv_entry ([.ref (td a0), .int a1]) (n := 3) (Nat.le_of_ble_eq_true rfl)
  rw [lg_entry_eq]
  generalize (lg_sl ([.ref (td a0), .int a1]) ++ List.replicate (3 - (lg_sl ([.ref (td a0), .int a1])).length) Slot.unset).toArray = ls at hl ⊢
  exact kOperators_typeIn_0 ⟨B.exec, B.bytes, B.returns, hml, hown, hts, B.notSynchronized⟩ hG a0 a1 hk0 hl

set_option maxHeartbeats 4000000 in
set_option maxRecDepth 100000 in
theorem kOperators_operandType_5 {p : Program} {l : Launch} {e : Env} {s : State} {m : MethodId} {args : Array Value} {below : List Frame} {meth : Method} {c : Code} {ad td : Nat → Nat} (C : pw_C p s m args meth c cOperators_operandType 2 (some .int) "BitNumbers$Operators") (hG : pw_G (fun _ => False) ad td s s.heap) (a0 : Int32) (a1 : Int32) {ls : Array Slot} (hl : lv_has ls 2 [(0, .int a0), (1, .int a1)]) : W p l e rmOperators_operandType s m args below meth c s.heap [] 0 0 (MQ below (k2_QcV (.int (fOperators_operandType_5 a0 a1))) args s 0 0 (fun _ => False)) (F0 m 5 ls []) := by
  obtain ⟨hx, hb, hr, hml, hown, hts, hlocks⟩ := id C
  have hS : va_S (fun _ => False) s.heap s.heap [] := va_S.rf
  refine lv_iload_n hx hb dOperators_operandType_5 rfl (lv_at hl 1 rfl) ?_
  refine lv_bipush (v := 8) hx hb dOperators_operandType_6 (by decide) ?_
  refine lv_icmp_ge (tgt := 17) hx hb dOperators_operandType_8 (by decide) (fun h1 => ?_) (fun h1 => ?_)
  · refine va_gets hx hb hG.2.2.2.2.2.1 hS hown (hts _ w_108) (fun _ h9 => h9) dOperators_operandType_17 ?_
    refine lv_iload_n hx hb dOperators_operandType_20 rfl (lv_at hl 0 rfl) ?_
    refine pw_call (va_runS (As := [.ref (td 2), .int a0]) (rest := []) ⟨hx, hb, hml, hown, hts⟩ (qOperators_typeIn l ad td 2 a0 (by decide)) (va_cwS 2 hts (gS w_110 w_111 w_40 w_112) rfl rfl rfl (by decide +kernel) ⟨Nat.le_of_ble_eq_true rfl, Nat.le_of_ble_eq_true rfl⟩) ⟨pw_bG, fun U hU hW => ⟨rfl, (hG.at hU hW)⟩⟩ rfl rfl hl.1 rfl (lv_room (Nat.le_of_ble_eq_true rfl)) dOperators_operandType_21 ⟨Nat.zero_le _, Nat.zero_le _⟩) ?_
    exact W.iret hx hb hr (fun t ht _ => ⟨by rw [(show fOperators_operandType_5 a0 a1 = fOperators_typeIn 2 a0 by rw [fOperators_operandType_5, if_pos h1])], ht⟩) (fun q h => nomatch h) dOperators_operandType_24
  · refine lv_iload_n hx hb dOperators_operandType_11 rfl (lv_at hl 1 rfl) ?_
    refine lv_iconst (v := 4) hx hb dOperators_operandType_12 (by decide) ?_
    refine lv_irem hx hb dOperators_operandType_13 (by decide) ?_
    refine lv_goto (tgt := 24) hx hb dOperators_operandType_14 (by decide) ?_
    exact W.iret hx hb hr (fun t ht _ => ⟨by rw [(show fOperators_operandType_5 a0 a1 = a1 - a1 / 4 * 4 by rw [fOperators_operandType_5, if_neg h1])], ht⟩) (fun q h => nomatch h) dOperators_operandType_24
set_option maxHeartbeats 4000000 in
set_option maxRecDepth 100000 in
theorem kOperators_operandType_0 {p : Program} {l : Launch} {e : Env} {s : State} {m : MethodId} {args : Array Value} {below : List Frame} {meth : Method} {c : Code} {ad td : Nat → Nat} (C : pw_C p s m args meth c cOperators_operandType 2 (some .int) "BitNumbers$Operators") (hG : pw_G (fun _ => False) ad td s s.heap) (a0 : Int32) {ls : Array Slot} (hl : lv_has ls 2 [(0, .int a0)]) : W p l e rmOperators_operandType s m args below meth c s.heap [] 0 0 (MQ below (k2_QcV (.int (fOperators_operandType a0))) args s 0 0 (fun _ => False)) (F0 m 0 ls []) := by
  obtain ⟨hx, hb, hr, hml, hown, hts, hlocks⟩ := id C
  have hS : va_S (fun _ => False) s.heap s.heap [] := va_S.rf
  refine lv_iload_n hx hb dOperators_operandType_0 rfl (lv_at hl 0 rfl) ?_
  refine pw_call (va_runS (As := [.int a0]) (rest := []) ⟨hx, hb, hml, hown, hts⟩ (qOperators_family l ad td a0) (va_cwS 1 hts (gS w_100 w_101 w_40 w_102) rfl rfl rfl (by decide +kernel) ⟨Nat.le_of_ble_eq_true rfl, Nat.le_of_ble_eq_true rfl⟩) ⟨pw_bG, fun U hU hW => ⟨rfl, (hG.at hU hW)⟩⟩ rfl rfl hl.1 rfl (lv_room (Nat.le_of_ble_eq_true rfl)) dOperators_operandType_1 ⟨Nat.zero_le _, Nat.zero_le _⟩) ?_
  refine lv_istore_n (lv' := [(1, .int (fOperators_family a0)), (0, .int a0)]) hx hb dOperators_operandType_4 rfl hl (by decide) rfl (fun ls hl => ?_)
  rw [(show fOperators_operandType a0 = fOperators_operandType_5 a0 (fOperators_family a0) by rw [fOperators_operandType])]
  exact kOperators_operandType_5 C hG a0 (fOperators_family a0) (lv_sub hl [1, 0] rfl)
set_option maxHeartbeats 4000000 in
set_option maxRecDepth 100000 in
theorem qOperators_operandType (l : Launch) (ad td : Nat → Nat) (a0 : Int32) : Met l yOperators_operandType wsOperators_operandType rmOperators_operandType (va_Pc [.int a0] (fun U => pw_G (fun _ => False) ad td U U.heap)) (k2_QcV (.int (fOperators_operandType a0))) 0 0 (fun _ => False) := by
  refine Met.ofW (cc := cOperators_operandType) (maxL := 2) (ret := (some .int)) (by decide) rfl ?_
  intro p e s m args below meth c s₁ B hml hv
  obtain ⟨rfl, hG⟩ := hv
  have hts0 := atoms_spec (ws := wsOperators_operandType) B.pre
  have hts := fun (w : Cond) (h : w ∈ aw) => hts0 w (List.mem_cons_of_mem _ h)
  have hown : s.vm.findClass "BitNumbers$Operators" = some m.cls := findClass_of_methodNamed B.named
  have hl := lv_entry ([.int a0]) (n := 2) (Nat.le_of_ble_eq_true rfl)
  rw [lg_entry_eq]
  generalize (lg_sl ([.int a0]) ++ List.replicate (2 - (lg_sl ([.int a0])).length) Slot.unset).toArray = ls at hl ⊢
  exact kOperators_operandType_0 ⟨B.exec, B.bytes, B.returns, hml, hown, hts, B.notSynchronized⟩ hG a0 hl

set_option maxHeartbeats 4000000 in
set_option maxRecDepth 100000 in
theorem kOperators_resultType_5 {p : Program} {l : Launch} {e : Env} {s : State} {m : MethodId} {args : Array Value} {below : List Frame} {meth : Method} {c : Code} {ad td : Nat → Nat} (C : pw_C p s m args meth c cOperators_resultType 2 (some .int) "BitNumbers$Operators") (hG : pw_G (fun _ => False) ad td s s.heap) (a0 : Int32) (a1 : Int32) {ls : Array Slot} (hl : lv_has ls 2 [(0, .int a0), (1, .int a1)]) : W p l e rmOperators_resultType s m args below meth c s.heap [] 0 0 (MQ below (k2_QcV (.int (fOperators_resultType_5 a0 a1))) args s 0 0 (fun _ => False)) (F0 m 5 ls []) := by
  obtain ⟨hx, hb, hr, hml, hown, hts, hlocks⟩ := id C
  have hS : va_S (fun _ => False) s.heap s.heap [] := va_S.rf
  refine lv_iload_n hx hb dOperators_resultType_5 rfl (lv_at hl 1 rfl) ?_
  refine lv_iconst (v := 4) hx hb dOperators_resultType_6 (by decide) ?_
  refine lv_icmp_ge (tgt := 12) hx hb dOperators_resultType_7 (by decide) (fun h1 => ?_) (fun h1 => ?_)
  · refine lv_iload_n hx hb dOperators_resultType_12 rfl (lv_at hl 1 rfl) ?_
    refine lv_bipush (v := 8) hx hb dOperators_resultType_13 (by decide) ?_
    refine lv_icmp_ge (tgt := 24) hx hb dOperators_resultType_15 (by decide) (fun h2 => ?_) (fun h2 => ?_)
    · refine va_gets hx hb hG.2.2.2.2.2.2 hS hown (hts _ w_116) (fun _ h9 => h9) dOperators_resultType_24 ?_
      refine lv_iload_n hx hb dOperators_resultType_27 rfl (lv_at hl 0 rfl) ?_
      refine pw_call (va_runS (As := [.ref (td 3), .int a0]) (rest := []) ⟨hx, hb, hml, hown, hts⟩ (qOperators_typeIn l ad td 3 a0 (by decide)) (va_cwS 2 hts (gS w_110 w_111 w_40 w_112) rfl rfl rfl (by decide +kernel) ⟨Nat.le_of_ble_eq_true rfl, Nat.le_of_ble_eq_true rfl⟩) ⟨pw_bG, fun U hU hW => ⟨rfl, (hG.at hU hW)⟩⟩ rfl rfl hl.1 rfl (lv_room (Nat.le_of_ble_eq_true rfl)) dOperators_resultType_28 ⟨Nat.zero_le _, Nat.zero_le _⟩) ?_
      exact W.iret hx hb hr (fun t ht _ => ⟨by rw [(show fOperators_resultType_5 a0 a1 = fOperators_typeIn 3 a0 by rw [fOperators_resultType_5, if_pos h1, if_pos h2])], ht⟩) (fun q h => nomatch h) dOperators_resultType_31
    · refine lv_iload_n hx hb dOperators_resultType_18 rfl (lv_at hl 1 rfl) ?_
      refine lv_iconst (v := 4) hx hb dOperators_resultType_19 (by decide) ?_
      refine lv_irem hx hb dOperators_resultType_20 (by decide) ?_
      refine lv_goto (tgt := 31) hx hb dOperators_resultType_21 (by decide) ?_
      exact W.iret hx hb hr (fun t ht _ => ⟨by rw [(show fOperators_resultType_5 a0 a1 = a1 - a1 / 4 * 4 by rw [fOperators_resultType_5, if_pos h1, if_neg h2])], ht⟩) (fun q h => nomatch h) dOperators_resultType_31
  · refine lv_iconst (v := 0) hx hb dOperators_resultType_10 (by decide) ?_
    exact W.iret hx hb hr (fun t ht _ => ⟨by rw [(show fOperators_resultType_5 a0 a1 = 0 by rw [fOperators_resultType_5, if_neg h1])], ht⟩) (fun q h => nomatch h) dOperators_resultType_11
set_option maxHeartbeats 4000000 in
set_option maxRecDepth 100000 in
theorem kOperators_resultType_0 {p : Program} {l : Launch} {e : Env} {s : State} {m : MethodId} {args : Array Value} {below : List Frame} {meth : Method} {c : Code} {ad td : Nat → Nat} (C : pw_C p s m args meth c cOperators_resultType 2 (some .int) "BitNumbers$Operators") (hG : pw_G (fun _ => False) ad td s s.heap) (a0 : Int32) {ls : Array Slot} (hl : lv_has ls 2 [(0, .int a0)]) : W p l e rmOperators_resultType s m args below meth c s.heap [] 0 0 (MQ below (k2_QcV (.int (fOperators_resultType a0))) args s 0 0 (fun _ => False)) (F0 m 0 ls []) := by
  obtain ⟨hx, hb, hr, hml, hown, hts, hlocks⟩ := id C
  have hS : va_S (fun _ => False) s.heap s.heap [] := va_S.rf
  refine lv_iload_n hx hb dOperators_resultType_0 rfl (lv_at hl 0 rfl) ?_
  refine pw_call (va_runS (As := [.int a0]) (rest := []) ⟨hx, hb, hml, hown, hts⟩ (qOperators_family l ad td a0) (va_cwS 1 hts (gS w_100 w_101 w_40 w_102) rfl rfl rfl (by decide +kernel) ⟨Nat.le_of_ble_eq_true rfl, Nat.le_of_ble_eq_true rfl⟩) ⟨pw_bG, fun U hU hW => ⟨rfl, (hG.at hU hW)⟩⟩ rfl rfl hl.1 rfl (lv_room (Nat.le_of_ble_eq_true rfl)) dOperators_resultType_1 ⟨Nat.zero_le _, Nat.zero_le _⟩) ?_
  refine lv_istore_n (lv' := [(1, .int (fOperators_family a0)), (0, .int a0)]) hx hb dOperators_resultType_4 rfl hl (by decide) rfl (fun ls hl => ?_)
  rw [(show fOperators_resultType a0 = fOperators_resultType_5 a0 (fOperators_family a0) by rw [fOperators_resultType])]
  exact kOperators_resultType_5 C hG a0 (fOperators_family a0) (lv_sub hl [1, 0] rfl)
set_option maxHeartbeats 4000000 in
set_option maxRecDepth 100000 in
theorem qOperators_resultType (l : Launch) (ad td : Nat → Nat) (a0 : Int32) : Met l yOperators_resultType wsOperators_resultType rmOperators_resultType (va_Pc [.int a0] (fun U => pw_G (fun _ => False) ad td U U.heap)) (k2_QcV (.int (fOperators_resultType a0))) 0 0 (fun _ => False) := by
  refine Met.ofW (cc := cOperators_resultType) (maxL := 2) (ret := (some .int)) (by decide) rfl ?_
  intro p e s m args below meth c s₁ B hml hv
  obtain ⟨rfl, hG⟩ := hv
  have hts0 := atoms_spec (ws := wsOperators_resultType) B.pre
  have hts := fun (w : Cond) (h : w ∈ aw) => hts0 w (List.mem_cons_of_mem _ h)
  have hown : s.vm.findClass "BitNumbers$Operators" = some m.cls := findClass_of_methodNamed B.named
  have hl := lv_entry ([.int a0]) (n := 2) (Nat.le_of_ble_eq_true rfl)
  rw [lg_entry_eq]
  generalize (lg_sl ([.int a0]) ++ List.replicate (2 - (lg_sl ([.int a0])).length) Slot.unset).toArray = ls at hl ⊢
  exact kOperators_resultType_0 ⟨B.exec, B.bytes, B.returns, hml, hown, hts, B.notSynchronized⟩ hG a0 hl

set_option maxHeartbeats 4000000 in
set_option maxRecDepth 100000 in
theorem kWhole_withoutSign_0 {p : Program} {l : Launch} {e : Env} {s : State} {m : MethodId} {args : Array Value} {below : List Frame} {meth : Method} {c : Code} (C : pw_C p s m args meth c cWhole_withoutSign 3 (some .long) "BitNumbers$Whole") (a0 : Int32) (a1 : Int64) {ls : Array Slot} (hl : lv_has ls 3 [(0, .int a0), (1, .long a1)]) : W p l e rmWhole_withoutSign s m args below meth c s.heap [] 0 0 (MQ below (k2_QcV (.long (fWhole_withoutSign a0 a1))) args s 0 0 (fun _ => False)) (F0 m 0 ls []) := by
  obtain ⟨hx, hb, hr, hml, hown, hts, hlocks⟩ := id C
  refine lv_iload_n hx hb dWhole_withoutSign_0 rfl (lv_at hl 0 rfl) ?_
  refine lv_if_ne (tgt := 12) hx hb dWhole_withoutSign_1 (by decide) (fun h1 => ?_) (fun h1 => ?_)
  · refine lv_lload_n hx hb dWhole_withoutSign_12 rfl (lv_at hl 1 rfl) ?_
    exact W.lret hx hb hr (fun t ht _ => ⟨by rw [(show fWhole_withoutSign a0 a1 = a1 by rw [fWhole_withoutSign, if_neg h1])], ht⟩) (fun q h => nomatch h) dWhole_withoutSign_13
  · refine lv_lload_n hx hb dWhole_withoutSign_4 rfl (lv_at hl 1 rfl) ?_
    refine lv_ldc2 hx hb hown (hts _ w_83) dWhole_withoutSign_5 ?_
    refine lv_land hx hb dWhole_withoutSign_8 ?_
    refine lv_goto (tgt := 13) hx hb dWhole_withoutSign_9 (by decide) ?_
    exact W.lret hx hb hr (fun t ht _ => ⟨by rw [(show fWhole_withoutSign a0 a1 = a1 &&& 4294967295 by rw [fWhole_withoutSign, if_pos h1])], ht⟩) (fun q h => nomatch h) dWhole_withoutSign_13
set_option maxHeartbeats 4000000 in
set_option maxRecDepth 100000 in
theorem qWhole_withoutSign (l : Launch) (a0 : Int32) (a1 : Int64) : Met l yWhole_withoutSign wsWhole_withoutSign rmWhole_withoutSign (va_Pc [.int a0, .long a1] (fun _ => True)) (k2_QcV (.long (fWhole_withoutSign a0 a1))) 0 0 (fun _ => False) := by
  refine Met.ofW (cc := cWhole_withoutSign) (maxL := 3) (ret := (some .long)) (by decide) rfl ?_
  intro p e s m args below meth c s₁ B hml hv
  obtain ⟨rfl, hG⟩ := hv
  have hts0 := atoms_spec (ws := wsWhole_withoutSign) B.pre
  have hts := fun (w : Cond) (h : w ∈ aw) => hts0 w (List.mem_cons_of_mem _ h)
  have hown : s.vm.findClass "BitNumbers$Whole" = some m.cls := findClass_of_methodNamed B.named
  have hl := lv_entry ([.int a0, .long a1]) (n := 3) (Nat.le_of_ble_eq_true rfl)
  rw [lg_entry_eq]
  generalize (lg_sl ([.int a0, .long a1]) ++ List.replicate (3 - (lg_sl ([.int a0, .long a1])).length) Slot.unset).toArray = ls at hl ⊢
  exact kWhole_withoutSign_0 ⟨B.exec, B.bytes, B.returns, hml, hown, hts, B.notSynchronized⟩ a0 a1 hl

set_option maxHeartbeats 4000000 in
set_option maxRecDepth 100000 in
theorem kWhole_trapOf_67 {p : Program} {l : Launch} {e : Env} {s : State} {m : MethodId} {args : Array Value} {below : List Frame} {meth : Method} {c : Code} (C : pw_C p s m args meth c cWhole_trapOf 9 (some .int) "BitNumbers$Whole") (s0 : Int32) (hzs0 : s0 = 0 ∨ s0 = 1) {ls : Array Slot} (hl : lv_has ls 9 []) : W p l e rmWhole_trapOf s m args below meth c s.heap [] 0 0 (MQ below (k2_QcV (.int (fWhole_trapOf_67 s0))) args s 0 0 (fun _ => False)) (F0 m 67 ls [.int s0]) := by
  obtain ⟨hx, hb, hr, hml, hown, hts, hlocks⟩ := id C
  refine lv_istore (lv' := [(8, .int s0)]) hx hb dWhole_trapOf_67 hl (by decide) rfl (fun ls hl => ?_)
  refine lv_iload hx hb dWhole_trapOf_69 (lv_at hl 0 rfl) ?_
  refine lv_if_eq (tgt := 78) hx hb dWhole_trapOf_71 (by decide) (fun h1 => ?_) (fun h1 => ?_)
  · refine lv_iconst (v := 0) hx hb dWhole_trapOf_78 (by decide) ?_
    exact W.iret hx hb hr (fun t ht _ => ⟨by rw [(show fWhole_trapOf_67 s0 = 0 by rw [fWhole_trapOf_67, if_pos h1])], ht⟩) (fun q h => nomatch h) dWhole_trapOf_79
  · refine lv_iconst (v := 2) hx hb dWhole_trapOf_74 (by decide) ?_
    refine lv_goto (tgt := 79) hx hb dWhole_trapOf_75 (by decide) ?_
    exact W.iret hx hb hr (fun t ht _ => ⟨by rw [(show fWhole_trapOf_67 s0 = 2 by rw [fWhole_trapOf_67, if_neg h1])], ht⟩) (fun q h => nomatch h) dWhole_trapOf_79
set_option maxHeartbeats 4000000 in
set_option maxRecDepth 100000 in
theorem kWhole_trapOf_66 {p : Program} {l : Launch} {e : Env} {s : State} {m : MethodId} {args : Array Value} {below : List Frame} {meth : Method} {c : Code} (C : pw_C p s m args meth c cWhole_trapOf 9 (some .int) "BitNumbers$Whole")  {ls : Array Slot} (hl : lv_has ls 9 []) : W p l e rmWhole_trapOf s m args below meth c s.heap [] 0 0 (MQ below (k2_QcV (.int (fWhole_trapOf_66))) args s 0 0 (fun _ => False)) (F0 m 66 ls []) := by
  obtain ⟨hx, hb, hr, hml, hown, hts, hlocks⟩ := id C
  refine lv_iconst (v := 0) hx hb dWhole_trapOf_66 (by decide) ?_
  rw [(show fWhole_trapOf_66 = fWhole_trapOf_67 0 by rw [fWhole_trapOf_66])]
  exact kWhole_trapOf_67 C 0 (Or.inl rfl) (lv_sub hl [] rfl)
set_option maxHeartbeats 4000000 in
set_option maxRecDepth 100000 in
theorem kWhole_trapOf_36 {p : Program} {l : Launch} {e : Env} {s : State} {m : MethodId} {args : Array Value} {below : List Frame} {meth : Method} {c : Code} (C : pw_C p s m args meth c cWhole_trapOf 9 (some .int) "BitNumbers$Whole") (a0 : Int32) (a1 : Int32) (a2 : Int64) (a4 : Int64) (a6 : Int64) {ls : Array Slot} (hl : lv_has ls 9 [(0, .int a0), (1, .int a1), (2, .long a2), (4, .long a4), (6, .long a6)]) : W p l e rmWhole_trapOf s m args below meth c s.heap [] 0 0 (MQ below (k2_QcV (.int (fWhole_trapOf_36 a0 a1 a2 a4 a6))) args s 0 0 (fun _ => False)) (F0 m 36 ls []) := by
  obtain ⟨hx, hb, hr, hml, hown, hts, hlocks⟩ := id C
  refine lv_iload_n hx hb dWhole_trapOf_36 rfl (lv_at hl 0 rfl) ?_
  refine lv_bipush (v := 6) hx hb dWhole_trapOf_37 (by decide) ?_
  refine lv_icmp_ne (tgt := 66) hx hb dWhole_trapOf_39 (by decide) (fun h1 => ?_) (fun h1 => ?_)
  · rw [(show fWhole_trapOf_36 a0 a1 a2 a4 a6 = fWhole_trapOf_66 by rw [fWhole_trapOf_36, if_neg h1])]
    exact kWhole_trapOf_66 C (lv_sub hl [] rfl)
  · refine lv_lload_n hx hb dWhole_trapOf_42 rfl (lv_at hl 2 rfl) ?_
    refine lv_lload hx hb dWhole_trapOf_43 (lv_at hl 4 rfl) ?_
    refine W.lcmp hx hb dWhole_trapOf_45 ?_
    refine lv_if_ne (tgt := 66) hx hb dWhole_trapOf_46 (by decide) (fun h2 => ?_) (fun h2 => ?_)
    · have h2 : ¬ (a2 = a6) := fun w => h2 ((lg_cmp_eq _ _).mpr w)
      rw [(show fWhole_trapOf_36 a0 a1 a2 a4 a6 = fWhole_trapOf_66 by rw [fWhole_trapOf_36, if_pos h1, if_neg h2])]
      exact kWhole_trapOf_66 C (lv_sub hl [] rfl)
    · have h2 : a2 = a6 := (lg_cmp_eq _ _).mp h2
      refine lv_iload_n hx hb dWhole_trapOf_49 rfl (lv_at hl 1 rfl) ?_
      refine lv_lload hx hb dWhole_trapOf_50 (lv_at hl 3 rfl) ?_
      refine pw_call (va_runS (As := [.int a1, .long a4]) (rest := []) ⟨hx, hb, hml, hown, hts⟩ (qWhole_withSign l a1 a4) (va_cwS 2 hts (gS w_296 w_297 w_35 w_298) rfl rfl rfl (by decide +kernel) ⟨Nat.le_of_ble_eq_true rfl, Nat.le_of_ble_eq_true rfl⟩) ⟨pw_bT, fun U hU hW => ⟨rfl, trivial⟩⟩ rfl rfl hl.1 rfl (lv_room (Nat.le_of_ble_eq_true rfl)) dWhole_trapOf_52 ⟨Nat.zero_le _, Nat.zero_le _⟩) ?_
      refine lv_ldc2 hx hb hown (hts _ w_291) dWhole_trapOf_55 ?_
      refine W.lcmp hx hb dWhole_trapOf_58 ?_
      refine lv_if_ne (tgt := 66) hx hb dWhole_trapOf_59 (by decide) (fun h3 => ?_) (fun h3 => ?_)
      · have h3 : ¬ ((fWhole_withSign a1 a4) = (-1)) := fun w => h3 ((lg_cmp_eq _ _).mpr w)
        rw [(show fWhole_trapOf_36 a0 a1 a2 a4 a6 = fWhole_trapOf_66 by rw [fWhole_trapOf_36, if_pos h1, if_pos h2, if_neg h3])]
        exact kWhole_trapOf_66 C (lv_sub hl [] rfl)
      · have h3 : (fWhole_withSign a1 a4) = (-1) := (lg_cmp_eq _ _).mp h3
        refine lv_iconst (v := 1) hx hb dWhole_trapOf_62 (by decide) ?_
        refine lv_goto (tgt := 67) hx hb dWhole_trapOf_63 (by decide) ?_
        rw [(show fWhole_trapOf_36 a0 a1 a2 a4 a6 = fWhole_trapOf_67 1 by rw [fWhole_trapOf_36, if_pos h1, if_pos h2, if_pos h3])]
        exact kWhole_trapOf_67 C 1 (Or.inr rfl) (lv_sub hl [] rfl)
set_option maxHeartbeats 4000000 in
set_option maxRecDepth 100000 in
theorem kWhole_trapOf_12 {p : Program} {l : Launch} {e : Env} {s : State} {m : MethodId} {args : Array Value} {below : List Frame} {meth : Method} {c : Code} (C : pw_C p s m args meth c cWhole_trapOf 9 (some .int) "BitNumbers$Whole")  {ls : Array Slot} (hl : lv_has ls 9 []) : W p l e rmWhole_trapOf s m args below meth c s.heap [] 0 0 (MQ below (k2_QcV (.int (fWhole_trapOf_12))) args s 0 0 (fun _ => False)) (F0 m 12 ls []) := by
  obtain ⟨hx, hb, hr, hml, hown, hts, hlocks⟩ := id C
  refine lv_iconst (v := 0) hx hb dWhole_trapOf_12 (by decide) ?_
  exact W.iret hx hb hr (fun t ht _ => ⟨by rw [(show fWhole_trapOf_12 = 0 by rw [fWhole_trapOf_12])], ht⟩) (fun q h => nomatch h) dWhole_trapOf_13
set_option maxHeartbeats 4000000 in
set_option maxRecDepth 100000 in
theorem kWhole_trapOf_0 {p : Program} {l : Launch} {e : Env} {s : State} {m : MethodId} {args : Array Value} {below : List Frame} {meth : Method} {c : Code} (C : pw_C p s m args meth c cWhole_trapOf 9 (some .int) "BitNumbers$Whole") (a0 : Int32) (a1 : Int32) (a2 : Int64) (a4 : Int64) {ls : Array Slot} (hl : lv_has ls 9 [(0, .int a0), (1, .int a1), (2, .long a2), (4, .long a4)]) : W p l e rmWhole_trapOf s m args below meth c s.heap [] 0 0 (MQ below (k2_QcV (.int (fWhole_trapOf a0 a1 a2 a4))) args s 0 0 (fun _ => False)) (F0 m 0 ls []) := by
  obtain ⟨hx, hb, hr, hml, hown, hts, hlocks⟩ := id C
  refine lv_iload_n hx hb dWhole_trapOf_0 rfl (lv_at hl 0 rfl) ?_
  refine lv_bipush (v := 6) hx hb dWhole_trapOf_1 (by decide) ?_
  refine lv_icmp_lt (tgt := 12) hx hb dWhole_trapOf_3 (by decide) (fun h1 => ?_) (fun h1 => ?_)
  · rw [(show fWhole_trapOf a0 a1 a2 a4 = fWhole_trapOf_12 by rw [fWhole_trapOf, if_pos h1])]
    exact kWhole_trapOf_12 C (lv_sub hl [] rfl)
  · refine lv_iload_n hx hb dWhole_trapOf_6 rfl (lv_at hl 0 rfl) ?_
    refine lv_bipush (v := 9) hx hb dWhole_trapOf_7 (by decide) ?_
    refine lv_icmp_le (tgt := 14) hx hb dWhole_trapOf_9 (by decide) (fun h2 => ?_) (fun h2 => ?_)
    · refine lv_lload hx hb dWhole_trapOf_14 (lv_at hl 3 rfl) ?_
      refine lv_lconst (v := 0) hx hb dWhole_trapOf_16 (by decide) ?_
      refine W.lcmp hx hb dWhole_trapOf_17 ?_
      refine lv_if_ne (tgt := 23) hx hb dWhole_trapOf_18 (by decide) (fun h3 => ?_) (fun h3 => ?_)
      · have h3 : ¬ (a4 = 0) := fun w => h3 ((lg_cmp_eq _ _).mpr w)
        refine lv_iload_n hx hb dWhole_trapOf_23 rfl (lv_at hl 1 rfl) ?_
        refine lv_iload_n hx hb dWhole_trapOf_24 rfl (lv_at hl 1 rfl) ?_
        refine lv_iconst (v := 1) hx hb dWhole_trapOf_25 (by decide) ?_
        refine pw_call (va_runS (As := [.int a1, .int 1]) (rest := [.int a1]) ⟨hx, hb, hml, hown, hts⟩ (qWhole_greatest l a1 1) (va_cwS 2 hts (gS w_288 w_289 w_35 w_290) rfl rfl rfl (by decide +kernel) ⟨Nat.le_of_ble_eq_true rfl, Nat.le_of_ble_eq_true rfl⟩) ⟨pw_bT, fun U hU hW => ⟨rfl, trivial⟩⟩ rfl rfl hl.1 rfl (lv_room (Nat.le_of_ble_eq_true rfl)) dWhole_trapOf_26 ⟨Nat.zero_le _, Nat.zero_le _⟩) ?_
        refine lv_lconst (v := 1) hx hb dWhole_trapOf_29 (by decide) ?_
        refine lv_ladd hx hb dWhole_trapOf_30 ?_
        refine pw_call (va_runS (As := [.int a1, .long ((fWhole_greatest a1 1) + 1)]) (rest := []) ⟨hx, hb, hml, hown, hts⟩ (qWhole_withoutSign l a1 ((fWhole_greatest a1 1) + 1)) (va_cwS 2 hts (gS w_295 w_81 w_35 w_82) rfl rfl rfl (by decide +kernel) ⟨Nat.le_of_ble_eq_true rfl, Nat.le_of_ble_eq_true rfl⟩) ⟨pw_bT, fun U hU hW => ⟨rfl, trivial⟩⟩ rfl rfl hl.1 rfl (lv_room (Nat.le_of_ble_eq_true rfl)) dWhole_trapOf_31 ⟨Nat.zero_le _, Nat.zero_le _⟩) ?_
        refine lv_lstore (lv' := [(6, .long (fWhole_withoutSign a1 ((fWhole_greatest a1 1) + 1))), (0, .int a0), (1, .int a1), (2, .long a2), (4, .long a4)]) hx hb dWhole_trapOf_34 hl (by decide) rfl (fun ls hl => ?_)
        rw [(show fWhole_trapOf a0 a1 a2 a4 = fWhole_trapOf_36 a0 a1 a2 a4 (fWhole_withoutSign a1 ((fWhole_greatest a1 1) + 1)) by rw [fWhole_trapOf, if_neg h1, if_pos h2, if_neg h3])]
        exact kWhole_trapOf_36 C a0 a1 a2 a4 (fWhole_withoutSign a1 ((fWhole_greatest a1 1) + 1)) (lv_sub hl [1, 2, 3, 4, 0] rfl)
      · have h3 : a4 = 0 := (lg_cmp_eq _ _).mp h3
        refine lv_iconst (v := 1) hx hb dWhole_trapOf_21 (by decide) ?_
        exact W.iret hx hb hr (fun t ht _ => ⟨by rw [(show fWhole_trapOf a0 a1 a2 a4 = 1 by rw [fWhole_trapOf, if_neg h1, if_pos h2, if_pos h3])], ht⟩) (fun q h => nomatch h) dWhole_trapOf_22
    · rw [(show fWhole_trapOf a0 a1 a2 a4 = fWhole_trapOf_12 by rw [fWhole_trapOf, if_neg h1, if_neg h2])]
      exact kWhole_trapOf_12 C (lv_sub hl [] rfl)
set_option maxHeartbeats 4000000 in
set_option maxRecDepth 100000 in
theorem qWhole_trapOf (l : Launch) (a0 : Int32) (a1 : Int32) (a2 : Int64) (a4 : Int64) : Met l yWhole_trapOf wsWhole_trapOf rmWhole_trapOf (va_Pc [.int a0, .int a1, .long a2, .long a4] (fun _ => True)) (k2_QcV (.int (fWhole_trapOf a0 a1 a2 a4))) 0 0 (fun _ => False) := by
  refine Met.ofW (cc := cWhole_trapOf) (maxL := 9) (ret := (some .int)) (by decide) rfl ?_
  intro p e s m args below meth c s₁ B hml hv
  obtain ⟨rfl, hG⟩ := hv
  have hts0 := atoms_spec (ws := wsWhole_trapOf) B.pre
  have hts := fun (w : Cond) (h : w ∈ aw) => hts0 w (List.mem_cons_of_mem _ h)
  have hown : s.vm.findClass "BitNumbers$Whole" = some m.cls := findClass_of_methodNamed B.named
  have hl := lv_entry ([.int a0, .int a1, .long a2, .long a4]) (n := 9) (Nat.le_of_ble_eq_true rfl)
  rw [lg_entry_eq]
  generalize (lg_sl ([.int a0, .int a1, .long a2, .long a4]) ++ List.replicate (9 - (lg_sl ([.int a0, .int a1, .long a2, .long a4])).length) Slot.unset).toArray = ls at hl ⊢
  exact kWhole_trapOf_0 ⟨B.exec, B.bytes, B.returns, hml, hown, hts, B.notSynchronized⟩ a0 a1 a2 a4 hl

set_option maxHeartbeats 4000000 in
set_option maxRecDepth 100000 in
theorem kOperators_trapOf_76 {p : Program} {l : Launch} {e : Env} {s : State} {m : MethodId} {args : Array Value} {below : List Frame} {meth : Method} {c : Code} {ad td : Nat → Nat} (C : pw_C p s m args meth c cOperators_trapOf 7 (some .int) "BitNumbers$Operators") (hG : pw_G (fun _ => False) ad td s s.heap)  {ls : Array Slot} (hl : lv_has ls 7 []) : W p l e rmOperators_trapOf s m args below meth c s.heap [] 0 0 (MQ below (k2_QcV (.int (fOperators_trapOf_76))) args s 0 0 (fun _ => False)) (F0 m 76 ls []) := by
  obtain ⟨hx, hb, hr, hml, hown, hts, hlocks⟩ := id C
  have hS : va_S (fun _ => False) s.heap s.heap [] := va_S.rf
  refine lv_iconst (v := 0) hx hb dOperators_trapOf_76 (by decide) ?_
  exact W.iret hx hb hr (fun t ht _ => ⟨by rw [(show fOperators_trapOf_76 = 0 by rw [fOperators_trapOf_76])], ht⟩) (fun q h => nomatch h) dOperators_trapOf_77
set_option maxHeartbeats 4000000 in
set_option maxRecDepth 100000 in
theorem kOperators_trapOf_24 {p : Program} {l : Launch} {e : Env} {s : State} {m : MethodId} {args : Array Value} {below : List Frame} {meth : Method} {c : Code} {ad td : Nat → Nat} (C : pw_C p s m args meth c cOperators_trapOf 7 (some .int) "BitNumbers$Operators") (hG : pw_G (fun _ => False) ad td s s.heap) (a0 : Int32) (a1 : Int64) (a3 : Int64) (a5 : Int32) (a6 : Int32) (hp5 : vp_in a5 9) {ls : Array Slot} (hl : lv_has ls 7 [(0, .int a0), (1, .long a1), (3, .long a3), (5, .int a5), (6, .int a6)]) : W p l e rmOperators_trapOf s m args below meth c s.heap [] 0 0 (MQ below (k2_QcV (.int (fOperators_trapOf_24 a0 a1 a3 a5 a6))) args s 0 0 (fun _ => False)) (F0 m 24 ls []) := by
  obtain ⟨hx, hb, hr, hml, hown, hts, hlocks⟩ := id C
  have hS : va_S (fun _ => False) s.heap s.heap [] := va_S.rf
  refine lv_iload_n hx hb dOperators_trapOf_24 rfl (lv_at hl 0 rfl) ?_
  refine va_gets hx hb hG.2.2.2.1 hS hown (hts _ w_95) (fun _ h9 => h9) dOperators_trapOf_25 ?_
  refine lv_iload hx hb dOperators_trapOf_28 (lv_at hl 3 rfl) ?_
  refine va_ti hx hb (hG.2.2.1 0 (by decide)) hS (hp5) rfl dOperators_trapOf_30 ?_
  refine lv_isub hx hb dOperators_trapOf_31 ?_
  refine lv_iload hx hb dOperators_trapOf_32 (lv_at hl 4 rfl) ?_
  refine lv_lload_n hx hb dOperators_trapOf_34 rfl (lv_at hl 1 rfl) ?_
  refine lv_lload_n hx hb dOperators_trapOf_35 rfl (lv_at hl 2 rfl) ?_
  refine pw_call (va_runS (As := [.int (a0 - (tb 0 a5.toNatClampNeg)), .int a6, .long a1, .long a3]) (rest := []) ⟨hx, hb, hml, hown, hts⟩ (qWhole_trapOf l (a0 - (tb 0 a5.toNatClampNeg)) a6 a1 a3) (va_cwS 4 hts (gS w_285 w_286 w_35 w_287) rfl rfl rfl (by decide +kernel) ⟨Nat.le_of_ble_eq_true rfl, Nat.le_of_ble_eq_true rfl⟩) ⟨pw_bT, fun U hU hW => ⟨rfl, trivial⟩⟩ rfl rfl hl.1 rfl (lv_room (Nat.le_of_ble_eq_true rfl)) dOperators_trapOf_36 ⟨Nat.zero_le _, Nat.zero_le _⟩) ?_
  exact W.iret hx hb hr (fun t ht _ => ⟨by rw [(show fOperators_trapOf_24 a0 a1 a3 a5 a6 = fWhole_trapOf (a0 - (tb 0 a5.toNatClampNeg)) a6 a1 a3 by rw [fOperators_trapOf_24])], ht⟩) (fun q h => nomatch h) dOperators_trapOf_39
set_option maxHeartbeats 4000000 in
set_option maxRecDepth 100000 in
theorem kOperators_trapOf_12 {p : Program} {l : Launch} {e : Env} {s : State} {m : MethodId} {args : Array Value} {below : List Frame} {meth : Method} {c : Code} {ad td : Nat → Nat} (C : pw_C p s m args meth c cOperators_trapOf 7 (some .int) "BitNumbers$Operators") (hG : pw_G (fun _ => False) ad td s s.heap) (a0 : Int32) (a1 : Int64) (a3 : Int64) (a5 : Int32) (a6 : Int32) (hp5 : vp_in a5 9) {ls : Array Slot} (hl : lv_has ls 7 [(0, .int a0), (1, .long a1), (3, .long a3), (5, .int a5), (6, .int a6)]) : W p l e rmOperators_trapOf s m args below meth c s.heap [] 0 0 (MQ below (k2_QcV (.int (fOperators_trapOf_12 a0 a1 a3 a5 a6))) args s 0 0 (fun _ => False)) (F0 m 12 ls []) := by
  obtain ⟨hx, hb, hr, hml, hown, hts, hlocks⟩ := id C
  have hS : va_S (fun _ => False) s.heap s.heap [] := va_S.rf
  refine lv_iload hx hb dOperators_trapOf_12 (lv_at hl 3 rfl) ?_
  refine lv_iconst (v := 4) hx hb dOperators_trapOf_14 (by decide) ?_
  refine lv_icmp_eq (tgt := 24) hx hb dOperators_trapOf_15 (by decide) (fun h1 => ?_) (fun h1 => ?_)
  · rw [(show fOperators_trapOf_12 a0 a1 a3 a5 a6 = fOperators_trapOf_24 a0 a1 a3 a5 a6 by rw [fOperators_trapOf_12, if_pos h1])]
    exact kOperators_trapOf_24 C hG a0 a1 a3 a5 a6 hp5 (lv_sub hl [0, 1, 2, 3, 4] rfl)
  · refine lv_iload hx hb dOperators_trapOf_18 (lv_at hl 3 rfl) ?_
    refine lv_iconst (v := 5) hx hb dOperators_trapOf_20 (by decide) ?_
    refine lv_icmp_ne (tgt := 40) hx hb dOperators_trapOf_21 (by decide) (fun h2 => ?_) (fun h2 => ?_)
    · refine lv_iload hx hb dOperators_trapOf_40 (lv_at hl 3 rfl) ?_
      refine lv_bipush (v := 8) hx hb dOperators_trapOf_42 (by decide) ?_
      refine lv_icmp_ne (tgt := 76) hx hb dOperators_trapOf_44 (by decide) (fun h3 => ?_) (fun h3 => ?_)
      · rw [(show fOperators_trapOf_12 a0 a1 a3 a5 a6 = fOperators_trapOf_76 by rw [fOperators_trapOf_12, if_neg h1, if_neg h2, if_neg h3])]
        exact kOperators_trapOf_76 C hG (lv_sub hl [] rfl)
      · refine lv_iload_n hx hb dOperators_trapOf_47 rfl (lv_at hl 0 rfl) ?_
        refine lv_sipush (v := 200) hx hb dOperators_trapOf_48 (by decide) ?_
        refine lv_icmp_ge (tgt := 76) hx hb dOperators_trapOf_51 (by decide) (fun h4 => ?_) (fun h4 => ?_)
        · rw [(show fOperators_trapOf_12 a0 a1 a3 a5 a6 = fOperators_trapOf_76 by rw [fOperators_trapOf_12, if_neg h1, if_neg h2, if_pos h3, if_pos h4])]
          exact kOperators_trapOf_76 C hG (lv_sub hl [] rfl)
        · refine lv_iload_n hx hb dOperators_trapOf_54 rfl (lv_at hl 0 rfl) ?_
          refine pw_call (va_runS (As := [.int a0]) (rest := []) ⟨hx, hb, hml, hown, hts⟩ (qConversions_isTowardsZero l a0) (va_cwS 1 hts (gS w_299 w_300 w_42 w_301) rfl rfl rfl (by decide +kernel) ⟨Nat.le_of_ble_eq_true rfl, Nat.le_of_ble_eq_true rfl⟩) ⟨pw_bT, fun U hU hW => ⟨rfl, trivial⟩⟩ rfl rfl hl.1 rfl (lv_room (Nat.le_of_ble_eq_true rfl)) dOperators_trapOf_55 ⟨Nat.zero_le _, Nat.zero_le _⟩) ?_
          refine lv_if_eq (tgt := 76) hx hb dOperators_trapOf_58 (by decide) (fun h5 => ?_) (fun h5 => ?_)
          · rw [(show fOperators_trapOf_12 a0 a1 a3 a5 a6 = fOperators_trapOf_76 by rw [fOperators_trapOf_12, if_neg h1, if_neg h2, if_pos h3, if_neg h4, if_pos h5])]
            exact kOperators_trapOf_76 C hG (lv_sub hl [] rfl)
          · refine lv_iload_n hx hb dOperators_trapOf_61 rfl (lv_at hl 0 rfl) ?_
            refine lv_iload hx hb dOperators_trapOf_62 (lv_at hl 4 rfl) ?_
            refine pw_call (va_runS (As := [.int a6]) (rest := [.int a0]) ⟨hx, hb, hml, hown, hts⟩ (qFormat_of l ad td a6) (va_cwS 1 hts (gS w_302 w_135 w_44 w_136) rfl rfl rfl (by decide +kernel) ⟨Nat.le_of_ble_eq_true rfl, Nat.le_of_ble_eq_true rfl⟩) ⟨pw_bG, fun U hU hW => ⟨rfl, (hG.at hU hW)⟩⟩ rfl rfl hl.1 rfl (lv_room (Nat.le_of_ble_eq_true rfl)) dOperators_trapOf_64 ⟨Nat.zero_le _, Nat.zero_le _⟩) ?_
            refine lv_iload_n hx hb dOperators_trapOf_67 rfl (lv_at hl 0 rfl) ?_
            refine pw_call (va_runS (As := [.int a0]) (rest := [.ref (ad (fFormat_of a6)), .int a0]) ⟨hx, hb, hml, hown, hts⟩ (qOperators_resultType l ad td a0) (va_cwS 1 hts (gS w_303 w_114 w_40 w_115) rfl rfl rfl (by decide +kernel) ⟨Nat.le_of_ble_eq_true rfl, Nat.le_of_ble_eq_true rfl⟩) ⟨pw_bG, fun U hU hW => ⟨rfl, (hG.at hU hW)⟩⟩ rfl rfl hl.1 rfl (lv_room (Nat.le_of_ble_eq_true rfl)) dOperators_trapOf_68 ⟨Nat.zero_le _, Nat.zero_le _⟩) ?_
            refine lv_lload_n hx hb dOperators_trapOf_71 rfl (lv_at hl 1 rfl) ?_
            refine pw_call (va_runS (As := [.int a0, .ref (ad (fFormat_of a6)), .int (fOperators_resultType a0), .long a1]) (rest := []) ⟨hx, hb, hml, hown, hts⟩ (qConversions_trapOf l ad td a0 (fFormat_of a6) (fOperators_resultType a0) a1 (rFormat_of a6)) (va_cwS 4 hts (gS w_304 w_305 w_42 w_306) rfl rfl rfl (by decide +kernel) ⟨Nat.le_of_ble_eq_true rfl, Nat.le_of_ble_eq_true rfl⟩) ⟨pw_bG, fun U hU hW => ⟨rfl, (hG.at hU hW)⟩⟩ rfl rfl hl.1 rfl (lv_room (Nat.le_of_ble_eq_true rfl)) dOperators_trapOf_72 ⟨Nat.zero_le _, Nat.zero_le _⟩) ?_
            exact W.iret hx hb hr (fun t ht _ => ⟨by rw [(show fOperators_trapOf_12 a0 a1 a3 a5 a6 = fConversions_trapOf a0 (fFormat_of a6) (fOperators_resultType a0) a1 by rw [fOperators_trapOf_12, if_neg h1, if_neg h2, if_pos h3, if_neg h4, if_neg h5])], ht⟩) (fun q h => nomatch h) dOperators_trapOf_75
    · rw [(show fOperators_trapOf_12 a0 a1 a3 a5 a6 = fOperators_trapOf_24 a0 a1 a3 a5 a6 by rw [fOperators_trapOf_12, if_neg h1, if_pos h2])]
      exact kOperators_trapOf_24 C hG a0 a1 a3 a5 a6 hp5 (lv_sub hl [0, 1, 2, 3, 4] rfl)
set_option maxHeartbeats 4000000 in
set_option maxRecDepth 100000 in
theorem kOperators_trapOf_6 {p : Program} {l : Launch} {e : Env} {s : State} {m : MethodId} {args : Array Value} {below : List Frame} {meth : Method} {c : Code} {ad td : Nat → Nat} (C : pw_C p s m args meth c cOperators_trapOf 7 (some .int) "BitNumbers$Operators") (hG : pw_G (fun _ => False) ad td s s.heap) (a0 : Int32) (a1 : Int64) (a3 : Int64) (a5 : Int32) (hp5 : vp_in a5 9) {ls : Array Slot} (hl : lv_has ls 7 [(0, .int a0), (1, .long a1), (3, .long a3), (5, .int a5)]) : W p l e rmOperators_trapOf s m args below meth c s.heap [] 0 0 (MQ below (k2_QcV (.int (fOperators_trapOf_6 a0 a1 a3 a5))) args s 0 0 (fun _ => False)) (F0 m 6 ls []) := by
  obtain ⟨hx, hb, hr, hml, hown, hts, hlocks⟩ := id C
  have hS : va_S (fun _ => False) s.heap s.heap [] := va_S.rf
  refine lv_iload_n hx hb dOperators_trapOf_6 rfl (lv_at hl 0 rfl) ?_
  refine pw_call (va_runS (As := [.int a0]) (rest := []) ⟨hx, hb, hml, hown, hts⟩ (qOperators_operandType l ad td a0) (va_cwS 1 hts (gS w_284 w_106 w_40 w_107) rfl rfl rfl (by decide +kernel) ⟨Nat.le_of_ble_eq_true rfl, Nat.le_of_ble_eq_true rfl⟩) ⟨pw_bG, fun U hU hW => ⟨rfl, (hG.at hU hW)⟩⟩ rfl rfl hl.1 rfl (lv_room (Nat.le_of_ble_eq_true rfl)) dOperators_trapOf_7 ⟨Nat.zero_le _, Nat.zero_le _⟩) ?_
  refine lv_istore (lv' := [(6, .int (fOperators_operandType a0)), (0, .int a0), (1, .long a1), (3, .long a3), (5, .int a5)]) hx hb dOperators_trapOf_10 hl (by decide) rfl (fun ls hl => ?_)
  rw [(show fOperators_trapOf_6 a0 a1 a3 a5 = fOperators_trapOf_12 a0 a1 a3 a5 (fOperators_operandType a0) by rw [fOperators_trapOf_6])]
  exact kOperators_trapOf_12 C hG a0 a1 a3 a5 (fOperators_operandType a0) hp5 (lv_sub hl [1, 2, 3, 4, 0] rfl)
set_option maxHeartbeats 4000000 in
set_option maxRecDepth 100000 in
theorem kOperators_trapOf_0 {p : Program} {l : Launch} {e : Env} {s : State} {m : MethodId} {args : Array Value} {below : List Frame} {meth : Method} {c : Code} {ad td : Nat → Nat} (C : pw_C p s m args meth c cOperators_trapOf 7 (some .int) "BitNumbers$Operators") (hG : pw_G (fun _ => False) ad td s s.heap) (a0 : Int32) (a1 : Int64) (a3 : Int64) {ls : Array Slot} (hl : lv_has ls 7 [(0, .int a0), (1, .long a1), (3, .long a3)]) : W p l e rmOperators_trapOf s m args below meth c s.heap [] 0 0 (MQ below (k2_QcV (.int (fOperators_trapOf a0 a1 a3))) args s 0 0 (fun _ => False)) (F0 m 0 ls []) := by
  obtain ⟨hx, hb, hr, hml, hown, hts, hlocks⟩ := id C
  have hS : va_S (fun _ => False) s.heap s.heap [] := va_S.rf
  refine lv_iload_n hx hb dOperators_trapOf_0 rfl (lv_at hl 0 rfl) ?_
  refine pw_call (va_runS (As := [.int a0]) (rest := []) ⟨hx, hb, hml, hown, hts⟩ (qOperators_family l ad td a0) (va_cwS 1 hts (gS w_100 w_101 w_40 w_102) rfl rfl rfl (by decide +kernel) ⟨Nat.le_of_ble_eq_true rfl, Nat.le_of_ble_eq_true rfl⟩) ⟨pw_bG, fun U hU hW => ⟨rfl, (hG.at hU hW)⟩⟩ rfl rfl hl.1 rfl (lv_room (Nat.le_of_ble_eq_true rfl)) dOperators_trapOf_1 ⟨Nat.zero_le _, Nat.zero_le _⟩) ?_
  refine lv_istore (lv' := [(5, .int (fOperators_family a0)), (0, .int a0), (1, .long a1), (3, .long a3)]) hx hb dOperators_trapOf_4 hl (by decide) rfl (fun ls hl => ?_)
  rw [(show fOperators_trapOf a0 a1 a3 = fOperators_trapOf_6 a0 a1 a3 (fOperators_family a0) by rw [fOperators_trapOf])]
  exact kOperators_trapOf_6 C hG a0 a1 a3 (fOperators_family a0) (fam_in a0) (lv_sub hl [1, 2, 3, 0] rfl)
set_option maxHeartbeats 4000000 in
set_option maxRecDepth 100000 in
theorem qOperators_trapOf (l : Launch) (ad td : Nat → Nat) (a0 : Int32) (a1 : Int64) (a3 : Int64) : Met l yOperators_trapOf wsOperators_trapOf rmOperators_trapOf (va_Pc [.int a0, .long a1, .long a3] (fun U => pw_G (fun _ => False) ad td U U.heap)) (k2_QcV (.int (fOperators_trapOf a0 a1 a3))) 0 0 (fun _ => False) := by
  refine Met.ofW (cc := cOperators_trapOf) (maxL := 7) (ret := (some .int)) (by decide) rfl ?_
  intro p e s m args below meth c s₁ B hml hv
  obtain ⟨rfl, hG⟩ := hv
  have hts0 := atoms_spec (ws := wsOperators_trapOf) B.pre
  have hts := fun (w : Cond) (h : w ∈ aw) => hts0 w (List.mem_cons_of_mem _ h)
  have hown : s.vm.findClass "BitNumbers$Operators" = some m.cls := findClass_of_methodNamed B.named
  have hl := lv_entry ([.int a0, .long a1, .long a3]) (n := 7) (Nat.le_of_ble_eq_true rfl)
  rw [lg_entry_eq]
  generalize (lg_sl ([.int a0, .long a1, .long a3]) ++ List.replicate (7 - (lg_sl ([.int a0, .long a1, .long a3])).length) Slot.unset).toArray = ls at hl ⊢
  exact kOperators_trapOf_0 ⟨B.exec, B.bytes, B.returns, hml, hown, hts, B.notSynchronized⟩ hG a0 a1 a3 hl

set_option maxHeartbeats 4000000 in
set_option maxRecDepth 100000 in
theorem kWhole_test_24 {p : Program} {l : Launch} {e : Env} {s : State} {m : MethodId} {args : Array Value} {below : List Frame} {meth : Method} {c : Code} (C : pw_C p s m args meth c cWhole_test 8 (some .boolean) "BitNumbers$Whole") (a0 : Int32) (a2 : Int64) (a4 : Int64) (a6 : Int32) (a7 : Int32) {ls : Array Slot} (hl : lv_has ls 8 [(0, .int a0), (2, .long a2), (4, .long a4), (6, .int a6), (7, .int a7)]) : W p l e rmWhole_test s m args below meth c s.heap [] 0 0 (MQ below (k2_QcV (.int (fWhole_test_24 a0 a2 a4 a6 a7))) args s 0 0 (fun _ => False)) (F0 m 24 ls []) := by
  obtain ⟨hx, hb, hr, hml, hown, hts, hlocks⟩ := id C
  refine lv_iload_n hx hb dWhole_test_24 rfl (lv_at hl 0 rfl) ?_
  by_cases h1 : a0 = 0
  · refine lv_tableIn (tgt := 84) hx hb dWhole_test_25 (by rw [h1]; decide) (by rw [h1]; decide) (off := 59) (by rw [h1]; rfl) (by decide) ?_
    refine lv_lload_n hx hb dWhole_test_84 rfl (lv_at hl 1 rfl) ?_
    refine lv_lconst (v := 0) hx hb dWhole_test_85 (by decide) ?_
    refine W.lcmp hx hb dWhole_test_86 ?_
    refine lv_if_ne (tgt := 94) hx hb dWhole_test_87 (by decide) (fun h2 => ?_) (fun h2 => ?_)
    · have h2 : ¬ (a2 = 0) := fun w => h2 ((lg_cmp_eq _ _).mpr w)
      refine lv_iconst (v := 0) hx hb dWhole_test_94 (by decide) ?_
      exact W.zret hx hb hr (pw_nz (Or.inl rfl)) (fun t ht _ => ⟨by rw [(show fWhole_test_24 a0 a2 a4 a6 a7 = 0 by rw [fWhole_test_24, if_pos h1, if_neg h2])], ht⟩) (fun q h => nomatch h) dWhole_test_95
    · have h2 : a2 = 0 := (lg_cmp_eq _ _).mp h2
      refine lv_iconst (v := 1) hx hb dWhole_test_90 (by decide) ?_
      refine lv_goto (tgt := 95) hx hb dWhole_test_91 (by decide) ?_
      exact W.zret hx hb hr (pw_nz (Or.inr rfl)) (fun t ht _ => ⟨by rw [(show fWhole_test_24 a0 a2 a4 a6 a7 = 1 by rw [fWhole_test_24, if_pos h1, if_pos h2])], ht⟩) (fun q h => nomatch h) dWhole_test_95
  by_cases h3 : a0 = 1
  · refine lv_tableIn (tgt := 96) hx hb dWhole_test_25 (by rw [h3]; decide) (by rw [h3]; decide) (off := 71) (by rw [h3]; rfl) (by decide) ?_
    refine lv_lload_n hx hb dWhole_test_96 rfl (lv_at hl 1 rfl) ?_
    refine lv_lload hx hb dWhole_test_97 (lv_at hl 2 rfl) ?_
    refine W.lcmp hx hb dWhole_test_99 ?_
    refine lv_if_ne (tgt := 107) hx hb dWhole_test_100 (by decide) (fun h4 => ?_) (fun h4 => ?_)
    · have h4 : ¬ (a2 = a4) := fun w => h4 ((lg_cmp_eq _ _).mpr w)
      refine lv_iconst (v := 0) hx hb dWhole_test_107 (by decide) ?_
      exact W.zret hx hb hr (pw_nz (Or.inl rfl)) (fun t ht _ => ⟨by rw [(show fWhole_test_24 a0 a2 a4 a6 a7 = 0 by rw [fWhole_test_24, if_neg h1, if_pos h3, if_neg h4])], ht⟩) (fun q h => nomatch h) dWhole_test_108
    · have h4 : a2 = a4 := (lg_cmp_eq _ _).mp h4
      refine lv_iconst (v := 1) hx hb dWhole_test_103 (by decide) ?_
      refine lv_goto (tgt := 108) hx hb dWhole_test_104 (by decide) ?_
      exact W.zret hx hb hr (pw_nz (Or.inr rfl)) (fun t ht _ => ⟨by rw [(show fWhole_test_24 a0 a2 a4 a6 a7 = 1 by rw [fWhole_test_24, if_neg h1, if_pos h3, if_pos h4])], ht⟩) (fun q h => nomatch h) dWhole_test_108
  by_cases h5 : a0 = 2
  · refine lv_tableIn (tgt := 109) hx hb dWhole_test_25 (by rw [h5]; decide) (by rw [h5]; decide) (off := 84) (by rw [h5]; rfl) (by decide) ?_
    refine lv_lload_n hx hb dWhole_test_109 rfl (lv_at hl 1 rfl) ?_
    refine lv_lload hx hb dWhole_test_110 (lv_at hl 2 rfl) ?_
    refine W.lcmp hx hb dWhole_test_112 ?_
    refine lv_if_eq (tgt := 120) hx hb dWhole_test_113 (by decide) (fun h6 => ?_) (fun h6 => ?_)
    · have h6 : a2 = a4 := (lg_cmp_eq _ _).mp h6
      refine lv_iconst (v := 0) hx hb dWhole_test_120 (by decide) ?_
      exact W.zret hx hb hr (pw_nz (Or.inl rfl)) (fun t ht _ => ⟨by rw [(show fWhole_test_24 a0 a2 a4 a6 a7 = 0 by rw [fWhole_test_24, if_neg h1, if_neg h3, if_pos h5, if_pos h6])], ht⟩) (fun q h => nomatch h) dWhole_test_121
    · have h6 : ¬ (a2 = a4) := fun w => h6 ((lg_cmp_eq _ _).mpr w)
      refine lv_iconst (v := 1) hx hb dWhole_test_116 (by decide) ?_
      refine lv_goto (tgt := 121) hx hb dWhole_test_117 (by decide) ?_
      exact W.zret hx hb hr (pw_nz (Or.inr rfl)) (fun t ht _ => ⟨by rw [(show fWhole_test_24 a0 a2 a4 a6 a7 = 1 by rw [fWhole_test_24, if_neg h1, if_neg h3, if_pos h5, if_neg h6])], ht⟩) (fun q h => nomatch h) dWhole_test_121
  by_cases h7 : a0 = 3
  · refine lv_tableIn (tgt := 122) hx hb dWhole_test_25 (by rw [h7]; decide) (by rw [h7]; decide) (off := 97) (by rw [h7]; rfl) (by decide) ?_
    refine lv_iload hx hb dWhole_test_122 (lv_at hl 3 rfl) ?_
    refine lv_if_ge (tgt := 131) hx hb dWhole_test_124 (by decide) (fun h8 => ?_) (fun h8 => ?_)
    · refine lv_iconst (v := 0) hx hb dWhole_test_131 (by decide) ?_
      exact W.zret hx hb hr (pw_nz (Or.inl rfl)) (fun t ht _ => ⟨by rw [(show fWhole_test_24 a0 a2 a4 a6 a7 = 0 by rw [fWhole_test_24, if_neg h1, if_neg h3, if_neg h5, if_pos h7, if_pos h8])], ht⟩) (fun q h => nomatch h) dWhole_test_132
    · refine lv_iconst (v := 1) hx hb dWhole_test_127 (by decide) ?_
      refine lv_goto (tgt := 132) hx hb dWhole_test_128 (by decide) ?_
      exact W.zret hx hb hr (pw_nz (Or.inr rfl)) (fun t ht _ => ⟨by rw [(show fWhole_test_24 a0 a2 a4 a6 a7 = 1 by rw [fWhole_test_24, if_neg h1, if_neg h3, if_neg h5, if_pos h7, if_neg h8])], ht⟩) (fun q h => nomatch h) dWhole_test_132
  by_cases h9 : a0 = 4
  · refine lv_tableIn (tgt := 133) hx hb dWhole_test_25 (by rw [h9]; decide) (by rw [h9]; decide) (off := 108) (by rw [h9]; rfl) (by decide) ?_
    refine lv_iload hx hb dWhole_test_133 (lv_at hl 4 rfl) ?_
    refine lv_if_ge (tgt := 142) hx hb dWhole_test_135 (by decide) (fun h10 => ?_) (fun h10 => ?_)
    · refine lv_iconst (v := 0) hx hb dWhole_test_142 (by decide) ?_
      exact W.zret hx hb hr (pw_nz (Or.inl rfl)) (fun t ht _ => ⟨by rw [(show fWhole_test_24 a0 a2 a4 a6 a7 = 0 by rw [fWhole_test_24, if_neg h1, if_neg h3, if_neg h5, if_neg h7, if_pos h9, if_pos h10])], ht⟩) (fun q h => nomatch h) dWhole_test_143
    · refine lv_iconst (v := 1) hx hb dWhole_test_138 (by decide) ?_
      refine lv_goto (tgt := 143) hx hb dWhole_test_139 (by decide) ?_
      exact W.zret hx hb hr (pw_nz (Or.inr rfl)) (fun t ht _ => ⟨by rw [(show fWhole_test_24 a0 a2 a4 a6 a7 = 1 by rw [fWhole_test_24, if_neg h1, if_neg h3, if_neg h5, if_neg h7, if_pos h9, if_neg h10])], ht⟩) (fun q h => nomatch h) dWhole_test_143
  by_cases h11 : a0 = 5
  · refine lv_tableIn (tgt := 144) hx hb dWhole_test_25 (by rw [h11]; decide) (by rw [h11]; decide) (off := 119) (by rw [h11]; rfl) (by decide) ?_
    refine lv_iload hx hb dWhole_test_144 (lv_at hl 3 rfl) ?_
    refine lv_if_le (tgt := 153) hx hb dWhole_test_146 (by decide) (fun h12 => ?_) (fun h12 => ?_)
    · refine lv_iconst (v := 0) hx hb dWhole_test_153 (by decide) ?_
      exact W.zret hx hb hr (pw_nz (Or.inl rfl)) (fun t ht _ => ⟨by rw [(show fWhole_test_24 a0 a2 a4 a6 a7 = 0 by rw [fWhole_test_24, if_neg h1, if_neg h3, if_neg h5, if_neg h7, if_neg h9, if_pos h11, if_pos h12])], ht⟩) (fun q h => nomatch h) dWhole_test_154
    · refine lv_iconst (v := 1) hx hb dWhole_test_149 (by decide) ?_
      refine lv_goto (tgt := 154) hx hb dWhole_test_150 (by decide) ?_
      exact W.zret hx hb hr (pw_nz (Or.inr rfl)) (fun t ht _ => ⟨by rw [(show fWhole_test_24 a0 a2 a4 a6 a7 = 1 by rw [fWhole_test_24, if_neg h1, if_neg h3, if_neg h5, if_neg h7, if_neg h9, if_pos h11, if_neg h12])], ht⟩) (fun q h => nomatch h) dWhole_test_154
  by_cases h13 : a0 = 6
  · refine lv_tableIn (tgt := 155) hx hb dWhole_test_25 (by rw [h13]; decide) (by rw [h13]; decide) (off := 130) (by rw [h13]; rfl) (by decide) ?_
    refine lv_iload hx hb dWhole_test_155 (lv_at hl 4 rfl) ?_
    refine lv_if_le (tgt := 164) hx hb dWhole_test_157 (by decide) (fun h14 => ?_) (fun h14 => ?_)
    · refine lv_iconst (v := 0) hx hb dWhole_test_164 (by decide) ?_
      exact W.zret hx hb hr (pw_nz (Or.inl rfl)) (fun t ht _ => ⟨by rw [(show fWhole_test_24 a0 a2 a4 a6 a7 = 0 by rw [fWhole_test_24, if_neg h1, if_neg h3, if_neg h5, if_neg h7, if_neg h9, if_neg h11, if_pos h13, if_pos h14])], ht⟩) (fun q h => nomatch h) dWhole_test_165
    · refine lv_iconst (v := 1) hx hb dWhole_test_160 (by decide) ?_
      refine lv_goto (tgt := 165) hx hb dWhole_test_161 (by decide) ?_
      exact W.zret hx hb hr (pw_nz (Or.inr rfl)) (fun t ht _ => ⟨by rw [(show fWhole_test_24 a0 a2 a4 a6 a7 = 1 by rw [fWhole_test_24, if_neg h1, if_neg h3, if_neg h5, if_neg h7, if_neg h9, if_neg h11, if_pos h13, if_neg h14])], ht⟩) (fun q h => nomatch h) dWhole_test_165
  by_cases h15 : a0 = 7
  · refine lv_tableIn (tgt := 166) hx hb dWhole_test_25 (by rw [h15]; decide) (by rw [h15]; decide) (off := 141) (by rw [h15]; rfl) (by decide) ?_
    refine lv_iload hx hb dWhole_test_166 (lv_at hl 3 rfl) ?_
    refine lv_if_gt (tgt := 175) hx hb dWhole_test_168 (by decide) (fun h16 => ?_) (fun h16 => ?_)
    · refine lv_iconst (v := 0) hx hb dWhole_test_175 (by decide) ?_
      exact W.zret hx hb hr (pw_nz (Or.inl rfl)) (fun t ht _ => ⟨by rw [(show fWhole_test_24 a0 a2 a4 a6 a7 = 0 by rw [fWhole_test_24, if_neg h1, if_neg h3, if_neg h5, if_neg h7, if_neg h9, if_neg h11, if_neg h13, if_pos h15, if_pos h16])], ht⟩) (fun q h => nomatch h) dWhole_test_176
    · refine lv_iconst (v := 1) hx hb dWhole_test_171 (by decide) ?_
      refine lv_goto (tgt := 176) hx hb dWhole_test_172 (by decide) ?_
      exact W.zret hx hb hr (pw_nz (Or.inr rfl)) (fun t ht _ => ⟨by rw [(show fWhole_test_24 a0 a2 a4 a6 a7 = 1 by rw [fWhole_test_24, if_neg h1, if_neg h3, if_neg h5, if_neg h7, if_neg h9, if_neg h11, if_neg h13, if_pos h15, if_neg h16])], ht⟩) (fun q h => nomatch h) dWhole_test_176
  by_cases h17 : a0 = 8
  · refine lv_tableIn (tgt := 177) hx hb dWhole_test_25 (by rw [h17]; decide) (by rw [h17]; decide) (off := 152) (by rw [h17]; rfl) (by decide) ?_
    refine lv_iload hx hb dWhole_test_177 (lv_at hl 4 rfl) ?_
    refine lv_if_gt (tgt := 186) hx hb dWhole_test_179 (by decide) (fun h18 => ?_) (fun h18 => ?_)
    · refine lv_iconst (v := 0) hx hb dWhole_test_186 (by decide) ?_
      exact W.zret hx hb hr (pw_nz (Or.inl rfl)) (fun t ht _ => ⟨by rw [(show fWhole_test_24 a0 a2 a4 a6 a7 = 0 by rw [fWhole_test_24, if_neg h1, if_neg h3, if_neg h5, if_neg h7, if_neg h9, if_neg h11, if_neg h13, if_neg h15, if_pos h17, if_pos h18])], ht⟩) (fun q h => nomatch h) dWhole_test_187
    · refine lv_iconst (v := 1) hx hb dWhole_test_182 (by decide) ?_
      refine lv_goto (tgt := 187) hx hb dWhole_test_183 (by decide) ?_
      exact W.zret hx hb hr (pw_nz (Or.inr rfl)) (fun t ht _ => ⟨by rw [(show fWhole_test_24 a0 a2 a4 a6 a7 = 1 by rw [fWhole_test_24, if_neg h1, if_neg h3, if_neg h5, if_neg h7, if_neg h9, if_neg h11, if_neg h13, if_neg h15, if_pos h17, if_neg h18])], ht⟩) (fun q h => nomatch h) dWhole_test_187
  by_cases h19 : a0 = 9
  · refine lv_tableIn (tgt := 188) hx hb dWhole_test_25 (by rw [h19]; decide) (by rw [h19]; decide) (off := 163) (by rw [h19]; rfl) (by decide) ?_
    refine lv_iload hx hb dWhole_test_188 (lv_at hl 3 rfl) ?_
    refine lv_if_lt (tgt := 197) hx hb dWhole_test_190 (by decide) (fun h20 => ?_) (fun h20 => ?_)
    · refine lv_iconst (v := 0) hx hb dWhole_test_197 (by decide) ?_
      exact W.zret hx hb hr (pw_nz (Or.inl rfl)) (fun t ht _ => ⟨by rw [(show fWhole_test_24 a0 a2 a4 a6 a7 = 0 by rw [fWhole_test_24, if_neg h1, if_neg h3, if_neg h5, if_neg h7, if_neg h9, if_neg h11, if_neg h13, if_neg h15, if_neg h17, if_pos h19, if_pos h20])], ht⟩) (fun q h => nomatch h) dWhole_test_198
    · refine lv_iconst (v := 1) hx hb dWhole_test_193 (by decide) ?_
      refine lv_goto (tgt := 198) hx hb dWhole_test_194 (by decide) ?_
      exact W.zret hx hb hr (pw_nz (Or.inr rfl)) (fun t ht _ => ⟨by rw [(show fWhole_test_24 a0 a2 a4 a6 a7 = 1 by rw [fWhole_test_24, if_neg h1, if_neg h3, if_neg h5, if_neg h7, if_neg h9, if_neg h11, if_neg h13, if_neg h15, if_neg h17, if_pos h19, if_neg h20])], ht⟩) (fun q h => nomatch h) dWhole_test_198
  by_cases h21 : a0 = 10
  · refine lv_tableIn (tgt := 199) hx hb dWhole_test_25 (by rw [h21]; decide) (by rw [h21]; decide) (off := 174) (by rw [h21]; rfl) (by decide) ?_
    refine lv_iload hx hb dWhole_test_199 (lv_at hl 4 rfl) ?_
    refine lv_if_lt (tgt := 208) hx hb dWhole_test_201 (by decide) (fun h22 => ?_) (fun h22 => ?_)
    · refine lv_iconst (v := 0) hx hb dWhole_test_208 (by decide) ?_
      exact W.zret hx hb hr (pw_nz (Or.inl rfl)) (fun t ht _ => ⟨by rw [(show fWhole_test_24 a0 a2 a4 a6 a7 = 0 by rw [fWhole_test_24, if_neg h1, if_neg h3, if_neg h5, if_neg h7, if_neg h9, if_neg h11, if_neg h13, if_neg h15, if_neg h17, if_neg h19, if_pos h21, if_pos h22])], ht⟩) (fun q h => nomatch h) dWhole_test_209
    · refine lv_iconst (v := 1) hx hb dWhole_test_204 (by decide) ?_
      refine lv_goto (tgt := 209) hx hb dWhole_test_205 (by decide) ?_
      exact W.zret hx hb hr (pw_nz (Or.inr rfl)) (fun t ht _ => ⟨by rw [(show fWhole_test_24 a0 a2 a4 a6 a7 = 1 by rw [fWhole_test_24, if_neg h1, if_neg h3, if_neg h5, if_neg h7, if_neg h9, if_neg h11, if_neg h13, if_neg h15, if_neg h17, if_neg h19, if_pos h21, if_neg h22])], ht⟩) (fun q h => nomatch h) dWhole_test_209
  refine pw_tableD (tgt := 210) hx hb dWhole_test_25 ?_ (by decide) ?_
  · have th1 := lv_neT h1 (a := 0) (by decide)
    have th3 := lv_neT h3 (a := 1) (by decide)
    have th5 := lv_neT h5 (a := 2) (by decide)
    have th7 := lv_neT h7 (a := 3) (by decide)
    have th9 := lv_neT h9 (a := 4) (by decide)
    have th11 := lv_neT h11 (a := 5) (by decide)
    have th13 := lv_neT h13 (a := 6) (by decide)
    have th15 := lv_neT h15 (a := 7) (by decide)
    have th17 := lv_neT h17 (a := 8) (by decide)
    have th19 := lv_neT h19 (a := 9) (by decide)
    have th21 := lv_neT h21 (a := 10) (by decide)
    exact (show a0.toInt < 0 ∨ 10 < a0.toInt by omega).elim Or.inl (fun q => Or.inr (Or.inl q))
  refine lv_iconst (v := 0) hx hb dWhole_test_210 (by decide) ?_
  exact W.zret hx hb hr (pw_nz (Or.inl rfl)) (fun t ht _ => ⟨by rw [(show fWhole_test_24 a0 a2 a4 a6 a7 = 0 by rw [fWhole_test_24, if_neg h1, if_neg h3, if_neg h5, if_neg h7, if_neg h9, if_neg h11, if_neg h13, if_neg h15, if_neg h17, if_neg h19, if_neg h21])], ht⟩) (fun q h => nomatch h) dWhole_test_211
set_option maxHeartbeats 4000000 in
set_option maxRecDepth 100000 in
theorem kWhole_test_16 {p : Program} {l : Launch} {e : Env} {s : State} {m : MethodId} {args : Array Value} {below : List Frame} {meth : Method} {c : Code} (C : pw_C p s m args meth c cWhole_test 8 (some .boolean) "BitNumbers$Whole") (a0 : Int32) (a2 : Int64) (a4 : Int64) (a6 : Int32) {ls : Array Slot} (hl : lv_has ls 8 [(0, .int a0), (2, .long a2), (4, .long a4), (6, .int a6)]) : W p l e rmWhole_test s m args below meth c s.heap [] 0 0 (MQ below (k2_QcV (.int (fWhole_test_16 a0 a2 a4 a6))) args s 0 0 (fun _ => False)) (F0 m 16 ls []) := by
  obtain ⟨hx, hb, hr, hml, hown, hts, hlocks⟩ := id C
  refine lv_lload_n hx hb dWhole_test_16 rfl (lv_at hl 1 rfl) ?_
  refine lv_lload hx hb dWhole_test_17 (lv_at hl 2 rfl) ?_
  refine pw_call (va_runS (As := [.long a2, .long a4]) (rest := []) ⟨hx, hb, hml, hown, hts⟩ (qWhole_orderWithoutSign l a2 a4) (va_cwS 2 hts (gS w_371 w_343 w_35 w_344) rfl rfl rfl (by decide +kernel) ⟨Nat.le_of_ble_eq_true rfl, Nat.le_of_ble_eq_true rfl⟩) ⟨pw_bT, fun U hU hW => ⟨rfl, trivial⟩⟩ rfl rfl hl.1 rfl (lv_room (Nat.le_of_ble_eq_true rfl)) dWhole_test_19 ⟨Nat.zero_le _, Nat.zero_le _⟩) ?_
  refine lv_istore (lv' := [(7, .int (fWhole_orderWithoutSign a2 a4)), (0, .int a0), (2, .long a2), (4, .long a4), (6, .int a6)]) hx hb dWhole_test_22 hl (by decide) rfl (fun ls hl => ?_)
  rw [(show fWhole_test_16 a0 a2 a4 a6 = fWhole_test_24 a0 a2 a4 a6 (fWhole_orderWithoutSign a2 a4) by rw [fWhole_test_16])]
  exact kWhole_test_24 C a0 a2 a4 a6 (fWhole_orderWithoutSign a2 a4) (lv_sub hl [1, 2, 3, 4, 0] rfl)
set_option maxHeartbeats 4000000 in
set_option maxRecDepth 100000 in
theorem kWhole_test_0 {p : Program} {l : Launch} {e : Env} {s : State} {m : MethodId} {args : Array Value} {below : List Frame} {meth : Method} {c : Code} (C : pw_C p s m args meth c cWhole_test 8 (some .boolean) "BitNumbers$Whole") (a0 : Int32) (a1 : Int32) (a2 : Int64) (a4 : Int64) {ls : Array Slot} (hl : lv_has ls 8 [(0, .int a0), (1, .int a1), (2, .long a2), (4, .long a4)]) : W p l e rmWhole_test s m args below meth c s.heap [] 0 0 (MQ below (k2_QcV (.int (fWhole_test a0 a1 a2 a4))) args s 0 0 (fun _ => False)) (F0 m 0 ls []) := by
  obtain ⟨hx, hb, hr, hml, hown, hts, hlocks⟩ := id C
  refine lv_iload_n hx hb dWhole_test_0 rfl (lv_at hl 1 rfl) ?_
  refine lv_lload_n hx hb dWhole_test_1 rfl (lv_at hl 2 rfl) ?_
  refine pw_call (va_runS (As := [.int a1, .long a2]) (rest := []) ⟨hx, hb, hml, hown, hts⟩ (qWhole_withSign l a1 a2) (va_cwS 2 hts (gS w_296 w_297 w_35 w_298) rfl rfl rfl (by decide +kernel) ⟨Nat.le_of_ble_eq_true rfl, Nat.le_of_ble_eq_true rfl⟩) ⟨pw_bT, fun U hU hW => ⟨rfl, trivial⟩⟩ rfl rfl hl.1 rfl (lv_room (Nat.le_of_ble_eq_true rfl)) dWhole_test_2 ⟨Nat.zero_le _, Nat.zero_le _⟩) ?_
  refine lv_iload_n hx hb dWhole_test_5 rfl (lv_at hl 1 rfl) ?_
  refine lv_lload hx hb dWhole_test_6 (lv_at hl 3 rfl) ?_
  refine pw_call (va_runS (As := [.int a1, .long a4]) (rest := [.long (fWhole_withSign a1 a2)]) ⟨hx, hb, hml, hown, hts⟩ (qWhole_withSign l a1 a4) (va_cwS 2 hts (gS w_296 w_297 w_35 w_298) rfl rfl rfl (by decide +kernel) ⟨Nat.le_of_ble_eq_true rfl, Nat.le_of_ble_eq_true rfl⟩) ⟨pw_bT, fun U hU hW => ⟨rfl, trivial⟩⟩ rfl rfl hl.1 rfl (lv_room (Nat.le_of_ble_eq_true rfl)) dWhole_test_8 ⟨Nat.zero_le _, Nat.zero_le _⟩) ?_
  refine pw_call (va_runS (As := [.long (fWhole_withSign a1 a2), .long (fWhole_withSign a1 a4)]) (rest := []) ⟨hx, hb, hml, hown, hts⟩ (qLong_compare l (fWhole_withSign a1 a2) (fWhole_withSign a1 a4)) (va_cwS 2 hts (gS w_346 w_347 w_46 w_348) rfl rfl rfl (by decide +kernel) ⟨Nat.le_of_ble_eq_true rfl, Nat.le_of_ble_eq_true rfl⟩) ⟨pw_bT, fun U hU hW => ⟨rfl, trivial⟩⟩ rfl rfl hl.1 rfl (lv_room (Nat.le_of_ble_eq_true rfl)) dWhole_test_11 ⟨Nat.zero_le _, Nat.zero_le _⟩) ?_
  refine lv_istore (lv' := [(6, .int (fLong_compare (fWhole_withSign a1 a2) (fWhole_withSign a1 a4))), (0, .int a0), (1, .int a1), (2, .long a2), (4, .long a4)]) hx hb dWhole_test_14 hl (by decide) rfl (fun ls hl => ?_)
  rw [(show fWhole_test a0 a1 a2 a4 = fWhole_test_16 a0 a2 a4 (fLong_compare (fWhole_withSign a1 a2) (fWhole_withSign a1 a4)) by rw [fWhole_test])]
  exact kWhole_test_16 C a0 a2 a4 (fLong_compare (fWhole_withSign a1 a2) (fWhole_withSign a1 a4)) (lv_sub hl [1, 3, 4, 0] rfl)
set_option maxHeartbeats 4000000 in
set_option maxRecDepth 100000 in
theorem qWhole_test (l : Launch) (a0 : Int32) (a1 : Int32) (a2 : Int64) (a4 : Int64) : Met l yWhole_test wsWhole_test rmWhole_test (va_Pc [.int a0, .int a1, .long a2, .long a4] (fun _ => True)) (k2_QcV (.int (fWhole_test a0 a1 a2 a4))) 0 0 (fun _ => False) := by
  refine Met.ofW (cc := cWhole_test) (maxL := 8) (ret := (some .boolean)) (by decide) rfl ?_
  intro p e s m args below meth c s₁ B hml hv
  obtain ⟨rfl, hG⟩ := hv
  have hts0 := atoms_spec (ws := wsWhole_test) B.pre
  have hts := fun (w : Cond) (h : w ∈ aw) => hts0 w (List.mem_cons_of_mem _ h)
  have hown : s.vm.findClass "BitNumbers$Whole" = some m.cls := findClass_of_methodNamed B.named
  have hl := lv_entry ([.int a0, .int a1, .long a2, .long a4]) (n := 8) (Nat.le_of_ble_eq_true rfl)
  rw [lg_entry_eq]
  generalize (lg_sl ([.int a0, .int a1, .long a2, .long a4]) ++ List.replicate (8 - (lg_sl ([.int a0, .int a1, .long a2, .long a4])).length) Slot.unset).toArray = ls at hl ⊢
  exact kWhole_test_0 ⟨B.exec, B.bytes, B.returns, hml, hown, hts, B.notSynchronized⟩ a0 a1 a2 a4 hl

set_option maxHeartbeats 4000000 in
set_option maxRecDepth 100000 in
theorem kWhole_quotientWithoutSign_31 {p : Program} {l : Launch} {e : Env} {s : State} {m : MethodId} {args : Array Value} {below : List Frame} {meth : Method} {c : Code} (C : pw_C p s m args meth c cWhole_quotientWithoutSign 6 (some .long) "BitNumbers$Whole") (a0 : Int64) (a2 : Int64) (a4 : Int64) {ls : Array Slot} (hl : lv_has ls 6 [(0, .long a0), (2, .long a2), (4, .long a4)]) : W p l e rmWhole_quotientWithoutSign s m args below meth c s.heap [] 0 0 (MQ below (k2_QcV (.long (fWhole_quotientWithoutSign_31 a0 a2 a4))) args s 0 0 (fun _ => False)) (F0 m 31 ls []) := by
  obtain ⟨hx, hb, hr, hml, hown, hts, hlocks⟩ := id C
  refine lv_lload_n hx hb dWhole_quotientWithoutSign_31 rfl (lv_at hl 0 rfl) ?_
  refine lv_lload hx hb dWhole_quotientWithoutSign_32 (lv_at hl 2 rfl) ?_
  refine lv_lload_n hx hb dWhole_quotientWithoutSign_34 rfl (lv_at hl 1 rfl) ?_
  refine lv_lmul hx hb dWhole_quotientWithoutSign_35 ?_
  refine lv_lsub hx hb dWhole_quotientWithoutSign_36 ?_
  refine lv_lload_n hx hb dWhole_quotientWithoutSign_37 rfl (lv_at hl 1 rfl) ?_
  refine pw_call (va_runS (As := [.long (a0 - (a4 * a2)), .long a2]) (rest := []) ⟨hx, hb, hml, hown, hts⟩ (qWhole_orderWithoutSign l (a0 - (a4 * a2)) a2) (va_cwS 2 hts (gS w_371 w_343 w_35 w_344) rfl rfl rfl (by decide +kernel) ⟨Nat.le_of_ble_eq_true rfl, Nat.le_of_ble_eq_true rfl⟩) ⟨pw_bT, fun U hU hW => ⟨rfl, trivial⟩⟩ rfl rfl hl.1 rfl (lv_room (Nat.le_of_ble_eq_true rfl)) dWhole_quotientWithoutSign_38 ⟨Nat.zero_le _, Nat.zero_le _⟩) ?_
  refine lv_if_ge (tgt := 49) hx hb dWhole_quotientWithoutSign_41 (by decide) (fun h1 => ?_) (fun h1 => ?_)
  · refine lv_lload hx hb dWhole_quotientWithoutSign_49 (lv_at hl 2 rfl) ?_
    refine lv_lconst (v := 1) hx hb dWhole_quotientWithoutSign_51 (by decide) ?_
    refine lv_ladd hx hb dWhole_quotientWithoutSign_52 ?_
    exact W.lret hx hb hr (fun t ht _ => ⟨by rw [(show fWhole_quotientWithoutSign_31 a0 a2 a4 = a4 + 1 by rw [fWhole_quotientWithoutSign_31, if_pos h1])], ht⟩) (fun q h => nomatch h) dWhole_quotientWithoutSign_53
  · refine lv_lload hx hb dWhole_quotientWithoutSign_44 (lv_at hl 2 rfl) ?_
    refine lv_goto (tgt := 53) hx hb dWhole_quotientWithoutSign_46 (by decide) ?_
    exact W.lret hx hb hr (fun t ht _ => ⟨by rw [(show fWhole_quotientWithoutSign_31 a0 a2 a4 = a4 by rw [fWhole_quotientWithoutSign_31, if_neg h1])], ht⟩) (fun q h => nomatch h) dWhole_quotientWithoutSign_53
set_option maxHeartbeats 4000000 in
set_option maxRecDepth 100000 in
theorem kWhole_quotientWithoutSign_0 {p : Program} {l : Launch} {e : Env} {s : State} {m : MethodId} {args : Array Value} {below : List Frame} {meth : Method} {c : Code} (C : pw_C p s m args meth c cWhole_quotientWithoutSign 6 (some .long) "BitNumbers$Whole") (a0 : Int64) (a2 : Int64) {ls : Array Slot} (hl : lv_has ls 6 [(0, .long a0), (2, .long a2)]) : W p l e rmWhole_quotientWithoutSign s m args below meth c s.heap [] 0 0 (MQ below (k2_QcV (.long (fWhole_quotientWithoutSign a0 a2))) args s 0 0 (fun _ => False)) (F0 m 0 ls []) := by
  obtain ⟨hx, hb, hr, hml, hown, hts, hlocks⟩ := id C
  refine lv_lload_n hx hb dWhole_quotientWithoutSign_0 rfl (lv_at hl 1 rfl) ?_
  refine lv_lconst (v := 0) hx hb dWhole_quotientWithoutSign_1 (by decide) ?_
  refine W.lcmp hx hb dWhole_quotientWithoutSign_2 ?_
  refine lv_if_gt (tgt := 20) hx hb dWhole_quotientWithoutSign_3 (by decide) (fun h1 => ?_) (fun h1 => ?_)
  · have h1 : 0 < a2 := (lg_cmp_gt _ _).mp h1
    refine lv_lload_n hx hb dWhole_quotientWithoutSign_20 rfl (lv_at hl 0 rfl) ?_
    refine lv_iconst (v := 1) hx hb dWhole_quotientWithoutSign_21 (by decide) ?_
    refine lv_lushr (v := bn_shr a0 1) hx hb dWhole_quotientWithoutSign_22 rfl ?_
    refine lv_lload_n hx hb dWhole_quotientWithoutSign_23 rfl (lv_at hl 1 rfl) ?_
    refine lv_ldiv hx hb dWhole_quotientWithoutSign_24 (pw_ne h1) ?_
    refine lv_ldc2 hx hb hown (hts _ w_395) dWhole_quotientWithoutSign_25 ?_
    refine lv_lmul hx hb dWhole_quotientWithoutSign_28 ?_
    refine lv_lstore (lv' := [(4, .long (((bn_shr a0 1) / a2) * 2)), (0, .long a0), (2, .long a2)]) hx hb dWhole_quotientWithoutSign_29 hl (by decide) rfl (fun ls hl => ?_)
    rw [(show fWhole_quotientWithoutSign a0 a2 = fWhole_quotientWithoutSign_31 a0 a2 (((bn_shr a0 1) / a2) * 2) by rw [fWhole_quotientWithoutSign, if_pos h1])]
    exact kWhole_quotientWithoutSign_31 C a0 a2 (((bn_shr a0 1) / a2) * 2) (lv_sub hl [1, 2, 0] rfl)
  · have h1 : ¬ (0 < a2) := fun w => h1 ((lg_cmp_gt _ _).mpr w)
    refine lv_lload_n hx hb dWhole_quotientWithoutSign_6 rfl (lv_at hl 0 rfl) ?_
    refine lv_lload_n hx hb dWhole_quotientWithoutSign_7 rfl (lv_at hl 1 rfl) ?_
    refine pw_call (va_runS (As := [.long a0, .long a2]) (rest := []) ⟨hx, hb, hml, hown, hts⟩ (qWhole_orderWithoutSign l a0 a2) (va_cwS 2 hts (gS w_371 w_343 w_35 w_344) rfl rfl rfl (by decide +kernel) ⟨Nat.le_of_ble_eq_true rfl, Nat.le_of_ble_eq_true rfl⟩) ⟨pw_bT, fun U hU hW => ⟨rfl, trivial⟩⟩ rfl rfl hl.1 rfl (lv_room (Nat.le_of_ble_eq_true rfl)) dWhole_quotientWithoutSign_8 ⟨Nat.zero_le _, Nat.zero_le _⟩) ?_
    refine lv_if_ge (tgt := 18) hx hb dWhole_quotientWithoutSign_11 (by decide) (fun h2 => ?_) (fun h2 => ?_)
    · refine lv_lconst (v := 1) hx hb dWhole_quotientWithoutSign_18 (by decide) ?_
      exact W.lret hx hb hr (fun t ht _ => ⟨by rw [(show fWhole_quotientWithoutSign a0 a2 = 1 by rw [fWhole_quotientWithoutSign, if_neg h1, if_pos h2])], ht⟩) (fun q h => nomatch h) dWhole_quotientWithoutSign_19
    · refine lv_lconst (v := 0) hx hb dWhole_quotientWithoutSign_14 (by decide) ?_
      refine lv_goto (tgt := 19) hx hb dWhole_quotientWithoutSign_15 (by decide) ?_
      exact W.lret hx hb hr (fun t ht _ => ⟨by rw [(show fWhole_quotientWithoutSign a0 a2 = 0 by rw [fWhole_quotientWithoutSign, if_neg h1, if_neg h2])], ht⟩) (fun q h => nomatch h) dWhole_quotientWithoutSign_19
set_option maxHeartbeats 4000000 in
set_option maxRecDepth 100000 in
theorem qWhole_quotientWithoutSign (l : Launch) (a0 : Int64) (a2 : Int64) : Met l yWhole_quotientWithoutSign wsWhole_quotientWithoutSign rmWhole_quotientWithoutSign (va_Pc [.long a0, .long a2] (fun _ => True)) (k2_QcV (.long (fWhole_quotientWithoutSign a0 a2))) 0 0 (fun _ => False) := by
  refine Met.ofW (cc := cWhole_quotientWithoutSign) (maxL := 6) (ret := (some .long)) (by decide) rfl ?_
  intro p e s m args below meth c s₁ B hml hv
  obtain ⟨rfl, hG⟩ := hv
  have hts0 := atoms_spec (ws := wsWhole_quotientWithoutSign) B.pre
  have hts := fun (w : Cond) (h : w ∈ aw) => hts0 w (List.mem_cons_of_mem _ h)
  have hown : s.vm.findClass "BitNumbers$Whole" = some m.cls := findClass_of_methodNamed B.named
  have hl := lv_entry ([.long a0, .long a2]) (n := 6) (Nat.le_of_ble_eq_true rfl)
  rw [lg_entry_eq]
  generalize (lg_sl ([.long a0, .long a2]) ++ List.replicate (6 - (lg_sl ([.long a0, .long a2])).length) Slot.unset).toArray = ls at hl ⊢
  exact kWhole_quotientWithoutSign_0 ⟨B.exec, B.bytes, B.returns, hml, hown, hts, B.notSynchronized⟩ a0 a2 hl

set_option maxHeartbeats 4000000 in
set_option maxRecDepth 100000 in
theorem kWhole_divided_22 {p : Program} {l : Launch} {e : Env} {s : State} {m : MethodId} {args : Array Value} {below : List Frame} {meth : Method} {c : Code} (C : pw_C p s m args meth c cWhole_divided 8 (some .long) "BitNumbers$Whole")  {ls : Array Slot} (hl : lv_has ls 8 []) : W p l e rmWhole_divided s m args below meth c s.heap [] 0 0 (MQ below (k2_QcV (.long (fWhole_divided_22))) args s 0 0 (fun _ => False)) (F0 m 22 ls []) := by
  obtain ⟨hx, hb, hr, hml, hown, hts, hlocks⟩ := id C
  refine lv_lconst (v := 0) hx hb dWhole_divided_22 (by decide) ?_
  exact W.lret hx hb hr (fun t ht _ => ⟨by rw [(show fWhole_divided_22 = 0 by rw [fWhole_divided_22])], ht⟩) (fun q h => nomatch h) dWhole_divided_23
set_option maxHeartbeats 4000000 in
set_option maxRecDepth 100000 in
theorem kWhole_divided_8 {p : Program} {l : Launch} {e : Env} {s : State} {m : MethodId} {args : Array Value} {below : List Frame} {meth : Method} {c : Code} (C : pw_C p s m args meth c cWhole_divided 8 (some .long) "BitNumbers$Whole") (a0 : Int32) (a1 : Int32) (a2 : Int64) (a4 : Int64) (a6 : Int64) {ls : Array Slot} (hl : lv_has ls 8 [(0, .int a0), (1, .int a1), (2, .long a2), (4, .long a4), (6, .long a6)]) : W p l e rmWhole_divided s m args below meth c s.heap [] 0 0 (MQ below (k2_QcV (.long (fWhole_divided_8 a0 a1 a2 a4 a6))) args s 0 0 (fun _ => False)) (F0 m 8 ls []) := by
  obtain ⟨hx, hb, hr, hml, hown, hts, hlocks⟩ := id C
  refine lv_lload hx hb dWhole_divided_8 (lv_at hl 3 rfl) ?_
  refine lv_lconst (v := 0) hx hb dWhole_divided_10 (by decide) ?_
  refine W.lcmp hx hb dWhole_divided_11 ?_
  refine lv_if_eq (tgt := 22) hx hb dWhole_divided_12 (by decide) (fun h1 => ?_) (fun h1 => ?_)
  · have h1 : a4 = 0 := (lg_cmp_eq _ _).mp h1
    rw [(show fWhole_divided_8 a0 a1 a2 a4 a6 = fWhole_divided_22 by rw [fWhole_divided_8, if_pos h1])]
    exact kWhole_divided_22 C (lv_sub hl [] rfl)
  · have h1 : ¬ (a4 = 0) := fun w => h1 ((lg_cmp_eq _ _).mpr w)
    refine lv_lload hx hb dWhole_divided_15 (lv_at hl 4 rfl) ?_
    refine lv_lconst (v := 0) hx hb dWhole_divided_17 (by decide) ?_
    refine W.lcmp hx hb dWhole_divided_18 ?_
    refine lv_if_ne (tgt := 24) hx hb dWhole_divided_19 (by decide) (fun h2 => ?_) (fun h2 => ?_)
    · have h2 : ¬ (a6 = 0) := fun w => h2 ((lg_cmp_eq _ _).mpr w)
      refine lv_iload_n hx hb dWhole_divided_24 rfl (lv_at hl 0 rfl) ?_
      by_cases h3 : a0 = 6
      · refine lv_tableIn (tgt := 52) hx hb dWhole_divided_25 (by rw [h3]; decide) (by rw [h3]; decide) (off := 27) (by rw [h3]; rfl) (by decide) ?_
        refine lv_iload_n hx hb dWhole_divided_52 rfl (lv_at hl 1 rfl) ?_
        refine lv_lload_n hx hb dWhole_divided_53 rfl (lv_at hl 2 rfl) ?_
        refine pw_call (va_runS (As := [.int a1, .long a2]) (rest := []) ⟨hx, hb, hml, hown, hts⟩ (qWhole_withSign l a1 a2) (va_cwS 2 hts (gS w_296 w_297 w_35 w_298) rfl rfl rfl (by decide +kernel) ⟨Nat.le_of_ble_eq_true rfl, Nat.le_of_ble_eq_true rfl⟩) ⟨pw_bT, fun U hU hW => ⟨rfl, trivial⟩⟩ rfl rfl hl.1 rfl (lv_room (Nat.le_of_ble_eq_true rfl)) dWhole_divided_54 ⟨Nat.zero_le _, Nat.zero_le _⟩) ?_
        refine lv_lload hx hb dWhole_divided_57 (lv_at hl 4 rfl) ?_
        refine lv_ldiv hx hb dWhole_divided_59 h2 ?_
        exact W.lret hx hb hr (fun t ht _ => ⟨by rw [(show fWhole_divided_8 a0 a1 a2 a4 a6 = (fWhole_withSign a1 a2) / a6 by rw [fWhole_divided_8, if_neg h1, if_neg h2, if_pos h3])], ht⟩) (fun q h => nomatch h) dWhole_divided_60
      by_cases h4 : a0 = 7
      · refine lv_tableIn (tgt := 61) hx hb dWhole_divided_25 (by rw [h4]; decide) (by rw [h4]; decide) (off := 36) (by rw [h4]; rfl) (by decide) ?_
        refine lv_lload_n hx hb dWhole_divided_61 rfl (lv_at hl 2 rfl) ?_
        refine lv_lload hx hb dWhole_divided_62 (lv_at hl 3 rfl) ?_
        refine pw_call (va_runS (As := [.long a2, .long a4]) (rest := []) ⟨hx, hb, hml, hown, hts⟩ (qWhole_quotientWithoutSign l a2 a4) (va_cwS 2 hts (gS w_392 w_393 w_35 w_394) rfl rfl rfl (by decide +kernel) ⟨Nat.le_of_ble_eq_true rfl, Nat.le_of_ble_eq_true rfl⟩) ⟨pw_bT, fun U hU hW => ⟨rfl, trivial⟩⟩ rfl rfl hl.1 rfl (lv_room (Nat.le_of_ble_eq_true rfl)) dWhole_divided_64 ⟨Nat.zero_le _, Nat.zero_le _⟩) ?_
        exact W.lret hx hb hr (fun t ht _ => ⟨by rw [(show fWhole_divided_8 a0 a1 a2 a4 a6 = fWhole_quotientWithoutSign a2 a4 by rw [fWhole_divided_8, if_neg h1, if_neg h2, if_neg h3, if_pos h4])], ht⟩) (fun q h => nomatch h) dWhole_divided_67
      by_cases h5 : a0 = 8
      · refine lv_tableIn (tgt := 68) hx hb dWhole_divided_25 (by rw [h5]; decide) (by rw [h5]; decide) (off := 43) (by rw [h5]; rfl) (by decide) ?_
        refine lv_iload_n hx hb dWhole_divided_68 rfl (lv_at hl 1 rfl) ?_
        refine lv_lload_n hx hb dWhole_divided_69 rfl (lv_at hl 2 rfl) ?_
        refine pw_call (va_runS (As := [.int a1, .long a2]) (rest := []) ⟨hx, hb, hml, hown, hts⟩ (qWhole_withSign l a1 a2) (va_cwS 2 hts (gS w_296 w_297 w_35 w_298) rfl rfl rfl (by decide +kernel) ⟨Nat.le_of_ble_eq_true rfl, Nat.le_of_ble_eq_true rfl⟩) ⟨pw_bT, fun U hU hW => ⟨rfl, trivial⟩⟩ rfl rfl hl.1 rfl (lv_room (Nat.le_of_ble_eq_true rfl)) dWhole_divided_70 ⟨Nat.zero_le _, Nat.zero_le _⟩) ?_
        refine lv_lload hx hb dWhole_divided_73 (lv_at hl 4 rfl) ?_
        refine lv_lrem hx hb dWhole_divided_75 h2 ?_
        exact W.lret hx hb hr (fun t ht _ => ⟨by rw [(show fWhole_divided_8 a0 a1 a2 a4 a6 = (fWhole_withSign a1 a2) - (fWhole_withSign a1 a2) / a6 * a6 by rw [fWhole_divided_8, if_neg h1, if_neg h2, if_neg h3, if_neg h4, if_pos h5])], ht⟩) (fun q h => nomatch h) dWhole_divided_76
      refine pw_tableD (tgt := 77) hx hb dWhole_divided_25 ?_ (by decide) ?_
      · have th3 := lv_neT h3 (a := 6) (by decide)
        have th4 := lv_neT h4 (a := 7) (by decide)
        have th5 := lv_neT h5 (a := 8) (by decide)
        exact (show a0.toInt < 6 ∨ 8 < a0.toInt by omega).elim Or.inl (fun q => Or.inr (Or.inl q))
      refine lv_lload_n hx hb dWhole_divided_77 rfl (lv_at hl 2 rfl) ?_
      refine lv_lload hx hb dWhole_divided_78 (lv_at hl 3 rfl) ?_
      refine lv_lload_n hx hb dWhole_divided_80 rfl (lv_at hl 2 rfl) ?_
      refine lv_lload hx hb dWhole_divided_81 (lv_at hl 3 rfl) ?_
      refine pw_call (va_runS (As := [.long a2, .long a4]) (rest := [.long a4, .long a2]) ⟨hx, hb, hml, hown, hts⟩ (qWhole_quotientWithoutSign l a2 a4) (va_cwS 2 hts (gS w_392 w_393 w_35 w_394) rfl rfl rfl (by decide +kernel) ⟨Nat.le_of_ble_eq_true rfl, Nat.le_of_ble_eq_true rfl⟩) ⟨pw_bT, fun U hU hW => ⟨rfl, trivial⟩⟩ rfl rfl hl.1 rfl (lv_room (Nat.le_of_ble_eq_true rfl)) dWhole_divided_83 ⟨Nat.zero_le _, Nat.zero_le _⟩) ?_
      refine lv_lmul hx hb dWhole_divided_86 ?_
      refine lv_lsub hx hb dWhole_divided_87 ?_
      exact W.lret hx hb hr (fun t ht _ => ⟨by rw [(show fWhole_divided_8 a0 a1 a2 a4 a6 = a2 - (a4 * (fWhole_quotientWithoutSign a2 a4)) by rw [fWhole_divided_8, if_neg h1, if_neg h2, if_neg h3, if_neg h4, if_neg h5])], ht⟩) (fun q h => nomatch h) dWhole_divided_88
    · have h2 : a6 = 0 := (lg_cmp_eq _ _).mp h2
      rw [(show fWhole_divided_8 a0 a1 a2 a4 a6 = fWhole_divided_22 by rw [fWhole_divided_8, if_neg h1, if_pos h2])]
      exact kWhole_divided_22 C (lv_sub hl [] rfl)
set_option maxHeartbeats 4000000 in
set_option maxRecDepth 100000 in
theorem kWhole_divided_0 {p : Program} {l : Launch} {e : Env} {s : State} {m : MethodId} {args : Array Value} {below : List Frame} {meth : Method} {c : Code} (C : pw_C p s m args meth c cWhole_divided 8 (some .long) "BitNumbers$Whole") (a0 : Int32) (a1 : Int32) (a2 : Int64) (a4 : Int64) {ls : Array Slot} (hl : lv_has ls 8 [(0, .int a0), (1, .int a1), (2, .long a2), (4, .long a4)]) : W p l e rmWhole_divided s m args below meth c s.heap [] 0 0 (MQ below (k2_QcV (.long (fWhole_divided a0 a1 a2 a4))) args s 0 0 (fun _ => False)) (F0 m 0 ls []) := by
  obtain ⟨hx, hb, hr, hml, hown, hts, hlocks⟩ := id C
  refine lv_iload_n hx hb dWhole_divided_0 rfl (lv_at hl 1 rfl) ?_
  refine lv_lload hx hb dWhole_divided_1 (lv_at hl 3 rfl) ?_
  refine pw_call (va_runS (As := [.int a1, .long a4]) (rest := []) ⟨hx, hb, hml, hown, hts⟩ (qWhole_withSign l a1 a4) (va_cwS 2 hts (gS w_296 w_297 w_35 w_298) rfl rfl rfl (by decide +kernel) ⟨Nat.le_of_ble_eq_true rfl, Nat.le_of_ble_eq_true rfl⟩) ⟨pw_bT, fun U hU hW => ⟨rfl, trivial⟩⟩ rfl rfl hl.1 rfl (lv_room (Nat.le_of_ble_eq_true rfl)) dWhole_divided_3 ⟨Nat.zero_le _, Nat.zero_le _⟩) ?_
  refine lv_lstore (lv' := [(6, .long (fWhole_withSign a1 a4)), (0, .int a0), (1, .int a1), (2, .long a2), (4, .long a4)]) hx hb dWhole_divided_6 hl (by decide) rfl (fun ls hl => ?_)
  rw [(show fWhole_divided a0 a1 a2 a4 = fWhole_divided_8 a0 a1 a2 a4 (fWhole_withSign a1 a4) by rw [fWhole_divided])]
  exact kWhole_divided_8 C a0 a1 a2 a4 (fWhole_withSign a1 a4) (lv_sub hl [1, 2, 3, 4, 0] rfl)
set_option maxHeartbeats 4000000 in
set_option maxRecDepth 100000 in
theorem qWhole_divided (l : Launch) (a0 : Int32) (a1 : Int32) (a2 : Int64) (a4 : Int64) : Met l yWhole_divided wsWhole_divided rmWhole_divided (va_Pc [.int a0, .int a1, .long a2, .long a4] (fun _ => True)) (k2_QcV (.long (fWhole_divided a0 a1 a2 a4))) 0 0 (fun _ => False) := by
  refine Met.ofW (cc := cWhole_divided) (maxL := 8) (ret := (some .long)) (by decide) rfl ?_
  intro p e s m args below meth c s₁ B hml hv
  obtain ⟨rfl, hG⟩ := hv
  have hts0 := atoms_spec (ws := wsWhole_divided) B.pre
  have hts := fun (w : Cond) (h : w ∈ aw) => hts0 w (List.mem_cons_of_mem _ h)
  have hown : s.vm.findClass "BitNumbers$Whole" = some m.cls := findClass_of_methodNamed B.named
  have hl := lv_entry ([.int a0, .int a1, .long a2, .long a4]) (n := 8) (Nat.le_of_ble_eq_true rfl)
  rw [lg_entry_eq]
  generalize (lg_sl ([.int a0, .int a1, .long a2, .long a4]) ++ List.replicate (8 - (lg_sl ([.int a0, .int a1, .long a2, .long a4])).length) Slot.unset).toArray = ls at hl ⊢
  exact kWhole_divided_0 ⟨B.exec, B.bytes, B.returns, hml, hown, hts, B.notSynchronized⟩ a0 a1 a2 a4 hl

set_option maxHeartbeats 4000000 in
set_option maxRecDepth 100000 in
theorem kWhole_shifted_0 {p : Program} {l : Launch} {e : Env} {s : State} {m : MethodId} {args : Array Value} {below : List Frame} {meth : Method} {c : Code} (C : pw_C p s m args meth c cWhole_shifted 5 (some .long) "BitNumbers$Whole") (a0 : Int32) (a1 : Int32) (a2 : Int64) (a4 : Int32) {ls : Array Slot} (hl : lv_has ls 5 [(0, .int a0), (1, .int a1), (2, .long a2), (4, .int a4)]) : W p l e rmWhole_shifted s m args below meth c s.heap [] 0 0 (MQ below (k2_QcV (.long (fWhole_shifted a0 a1 a2 a4))) args s 0 0 (fun _ => False)) (F0 m 0 ls []) := by
  obtain ⟨hx, hb, hr, hml, hown, hts, hlocks⟩ := id C
  refine lv_iload_n hx hb dWhole_shifted_0 rfl (lv_at hl 0 rfl) ?_
  by_cases h1 : a0 = 13
  · refine lv_tableIn (tgt := 36) hx hb dWhole_shifted_1 (by rw [h1]; decide) (by rw [h1]; decide) (off := 35) (by rw [h1]; rfl) (by decide) ?_
    refine lv_lload_n hx hb dWhole_shifted_36 rfl (lv_at hl 2 rfl) ?_
    refine lv_iload hx hb dWhole_shifted_37 (lv_at hl 3 rfl) ?_
    refine lv_lshl (v := bn_shl a2 a4) hx hb dWhole_shifted_39 rfl ?_
    exact W.lret hx hb hr (fun t ht _ => ⟨by rw [(show fWhole_shifted a0 a1 a2 a4 = bn_shl a2 a4 by rw [fWhole_shifted, if_pos h1])], ht⟩) (fun q h => nomatch h) dWhole_shifted_40
  by_cases h2 : a0 = 14
  · refine lv_tableIn (tgt := 41) hx hb dWhole_shifted_1 (by rw [h2]; decide) (by rw [h2]; decide) (off := 40) (by rw [h2]; rfl) (by decide) ?_
    refine lv_iload_n hx hb dWhole_shifted_41 rfl (lv_at hl 1 rfl) ?_
    refine lv_lload_n hx hb dWhole_shifted_42 rfl (lv_at hl 2 rfl) ?_
    refine pw_call (va_runS (As := [.int a1, .long a2]) (rest := []) ⟨hx, hb, hml, hown, hts⟩ (qWhole_withSign l a1 a2) (va_cwS 2 hts (gS w_296 w_297 w_35 w_298) rfl rfl rfl (by decide +kernel) ⟨Nat.le_of_ble_eq_true rfl, Nat.le_of_ble_eq_true rfl⟩) ⟨pw_bT, fun U hU hW => ⟨rfl, trivial⟩⟩ rfl rfl hl.1 rfl (lv_room (Nat.le_of_ble_eq_true rfl)) dWhole_shifted_43 ⟨Nat.zero_le _, Nat.zero_le _⟩) ?_
    refine lv_iload hx hb dWhole_shifted_46 (lv_at hl 3 rfl) ?_
    refine lv_lshr (v := bn_sar (fWhole_withSign a1 a2) a4) hx hb dWhole_shifted_48 rfl ?_
    exact W.lret hx hb hr (fun t ht _ => ⟨by rw [(show fWhole_shifted a0 a1 a2 a4 = bn_sar (fWhole_withSign a1 a2) a4 by rw [fWhole_shifted, if_neg h1, if_pos h2])], ht⟩) (fun q h => nomatch h) dWhole_shifted_49
  by_cases h3 : a0 = 15
  · refine lv_tableIn (tgt := 50) hx hb dWhole_shifted_1 (by rw [h3]; decide) (by rw [h3]; decide) (off := 49) (by rw [h3]; rfl) (by decide) ?_
    refine lv_lload_n hx hb dWhole_shifted_50 rfl (lv_at hl 2 rfl) ?_
    refine lv_iload hx hb dWhole_shifted_51 (lv_at hl 3 rfl) ?_
    refine lv_lushr (v := bn_shr a2 a4) hx hb dWhole_shifted_53 rfl ?_
    exact W.lret hx hb hr (fun t ht _ => ⟨by rw [(show fWhole_shifted a0 a1 a2 a4 = bn_shr a2 a4 by rw [fWhole_shifted, if_neg h1, if_neg h2, if_pos h3])], ht⟩) (fun q h => nomatch h) dWhole_shifted_54
  by_cases h4 : a0 = 16
  · refine lv_tableIn (tgt := 55) hx hb dWhole_shifted_1 (by rw [h4]; decide) (by rw [h4]; decide) (off := 54) (by rw [h4]; rfl) (by decide) ?_
    refine lv_lload_n hx hb dWhole_shifted_55 rfl (lv_at hl 2 rfl) ?_
    refine lv_iload hx hb dWhole_shifted_56 (lv_at hl 3 rfl) ?_
    refine lv_lshl (v := bn_shl a2 a4) hx hb dWhole_shifted_58 rfl ?_
    refine lv_lload_n hx hb dWhole_shifted_59 rfl (lv_at hl 2 rfl) ?_
    refine lv_iload_n hx hb dWhole_shifted_60 rfl (lv_at hl 1 rfl) ?_
    refine pw_call (va_runS (As := [.int a1]) (rest := [.long a2, .long (bn_shl a2 a4)]) ⟨hx, hb, hml, hown, hts⟩ (qWhole_width l a1) (va_cwS 1 hts (gS w_292 w_293 w_35 w_294) rfl rfl rfl (by decide +kernel) ⟨Nat.le_of_ble_eq_true rfl, Nat.le_of_ble_eq_true rfl⟩) ⟨pw_bT, fun U hU hW => ⟨rfl, trivial⟩⟩ rfl rfl hl.1 rfl (lv_room (Nat.le_of_ble_eq_true rfl)) dWhole_shifted_61 ⟨Nat.zero_le _, Nat.zero_le _⟩) ?_
    refine lv_iload hx hb dWhole_shifted_64 (lv_at hl 3 rfl) ?_
    refine lv_isub hx hb dWhole_shifted_66 ?_
    refine lv_lushr (v := bn_shr a2 ((fWhole_width a1) - a4)) hx hb dWhole_shifted_67 rfl ?_
    refine lv_lor hx hb dWhole_shifted_68 ?_
    exact W.lret hx hb hr (fun t ht _ => ⟨by rw [(show fWhole_shifted a0 a1 a2 a4 = (bn_shl a2 a4) ||| (bn_shr a2 ((fWhole_width a1) - a4)) by rw [fWhole_shifted, if_neg h1, if_neg h2, if_neg h3, if_pos h4])], ht⟩) (fun q h => nomatch h) dWhole_shifted_69
  by_cases h5 : a0 = 17
  · refine lv_tableIn (tgt := 70) hx hb dWhole_shifted_1 (by rw [h5]; decide) (by rw [h5]; decide) (off := 69) (by rw [h5]; rfl) (by decide) ?_
    refine lv_lload_n hx hb dWhole_shifted_70 rfl (lv_at hl 2 rfl) ?_
    refine lv_iload hx hb dWhole_shifted_71 (lv_at hl 3 rfl) ?_
    refine lv_lushr (v := bn_shr a2 a4) hx hb dWhole_shifted_73 rfl ?_
    refine lv_lload_n hx hb dWhole_shifted_74 rfl (lv_at hl 2 rfl) ?_
    refine lv_iload_n hx hb dWhole_shifted_75 rfl (lv_at hl 1 rfl) ?_
    refine pw_call (va_runS (As := [.int a1]) (rest := [.long a2, .long (bn_shr a2 a4)]) ⟨hx, hb, hml, hown, hts⟩ (qWhole_width l a1) (va_cwS 1 hts (gS w_292 w_293 w_35 w_294) rfl rfl rfl (by decide +kernel) ⟨Nat.le_of_ble_eq_true rfl, Nat.le_of_ble_eq_true rfl⟩) ⟨pw_bT, fun U hU hW => ⟨rfl, trivial⟩⟩ rfl rfl hl.1 rfl (lv_room (Nat.le_of_ble_eq_true rfl)) dWhole_shifted_76 ⟨Nat.zero_le _, Nat.zero_le _⟩) ?_
    refine lv_iload hx hb dWhole_shifted_79 (lv_at hl 3 rfl) ?_
    refine lv_isub hx hb dWhole_shifted_81 ?_
    refine lv_lshl (v := bn_shl a2 ((fWhole_width a1) - a4)) hx hb dWhole_shifted_82 rfl ?_
    refine lv_lor hx hb dWhole_shifted_83 ?_
    exact W.lret hx hb hr (fun t ht _ => ⟨by rw [(show fWhole_shifted a0 a1 a2 a4 = (bn_shr a2 a4) ||| (bn_shl a2 ((fWhole_width a1) - a4)) by rw [fWhole_shifted, if_neg h1, if_neg h2, if_neg h3, if_neg h4, if_pos h5])], ht⟩) (fun q h => nomatch h) dWhole_shifted_84
  refine pw_tableD (tgt := 85) hx hb dWhole_shifted_1 ?_ (by decide) ?_
  · have th1 := lv_neT h1 (a := 13) (by decide)
    have th2 := lv_neT h2 (a := 14) (by decide)
    have th3 := lv_neT h3 (a := 15) (by decide)
    have th4 := lv_neT h4 (a := 16) (by decide)
    have th5 := lv_neT h5 (a := 17) (by decide)
    exact (show a0.toInt < 13 ∨ 17 < a0.toInt by omega).elim Or.inl (fun q => Or.inr (Or.inl q))
  refine lv_lload_n hx hb dWhole_shifted_85 rfl (lv_at hl 2 rfl) ?_
  exact W.lret hx hb hr (fun t ht _ => ⟨by rw [(show fWhole_shifted a0 a1 a2 a4 = a2 by rw [fWhole_shifted, if_neg h1, if_neg h2, if_neg h3, if_neg h4, if_neg h5])], ht⟩) (fun q h => nomatch h) dWhole_shifted_86
set_option maxHeartbeats 4000000 in
set_option maxRecDepth 100000 in
theorem qWhole_shifted (l : Launch) (a0 : Int32) (a1 : Int32) (a2 : Int64) (a4 : Int32) : Met l yWhole_shifted wsWhole_shifted rmWhole_shifted (va_Pc [.int a0, .int a1, .long a2, .int a4] (fun _ => True)) (k2_QcV (.long (fWhole_shifted a0 a1 a2 a4))) 0 0 (fun _ => False) := by
  refine Met.ofW (cc := cWhole_shifted) (maxL := 5) (ret := (some .long)) (by decide) rfl ?_
  intro p e s m args below meth c s₁ B hml hv
  obtain ⟨rfl, hG⟩ := hv
  have hts0 := atoms_spec (ws := wsWhole_shifted) B.pre
  have hts := fun (w : Cond) (h : w ∈ aw) => hts0 w (List.mem_cons_of_mem _ h)
  have hown : s.vm.findClass "BitNumbers$Whole" = some m.cls := findClass_of_methodNamed B.named
  have hl := lv_entry ([.int a0, .int a1, .long a2, .int a4]) (n := 5) (Nat.le_of_ble_eq_true rfl)
  rw [lg_entry_eq]
  generalize (lg_sl ([.int a0, .int a1, .long a2, .int a4]) ++ List.replicate (5 - (lg_sl ([.int a0, .int a1, .long a2, .int a4])).length) Slot.unset).toArray = ls at hl ⊢
  exact kWhole_shifted_0 ⟨B.exec, B.bytes, B.returns, hml, hown, hts, B.notSynchronized⟩ a0 a1 a2 a4 hl

set_option maxHeartbeats 4000000 in
set_option maxRecDepth 100000 in
theorem kWhole_result_0 {p : Program} {l : Launch} {e : Env} {s : State} {m : MethodId} {args : Array Value} {below : List Frame} {meth : Method} {c : Code} (C : pw_C p s m args meth c cWhole_result 6 (some .long) "BitNumbers$Whole") (a0 : Int32) (a1 : Int32) (a2 : Int64) (a4 : Int64) {ls : Array Slot} (hl : lv_has ls 6 [(0, .int a0), (1, .int a1), (2, .long a2), (4, .long a4)]) : W p l e rmWhole_result s m args below meth c s.heap [] 0 0 (MQ below (k2_QcV (.long (fWhole_result a0 a1 a2 a4))) args s 0 0 (fun _ => False)) (F0 m 0 ls []) := by
  obtain ⟨hx, hb, hr, hml, hown, hts, hlocks⟩ := id C
  refine lv_iload_n hx hb dWhole_result_0 rfl (lv_at hl 0 rfl) ?_
  by_cases h1 : a0 = 0
  · refine lv_tableIn (tgt := 68) hx hb dWhole_result_1 (by rw [h1]; decide) (by rw [h1]; decide) (off := 67) (by rw [h1]; rfl) (by decide) ?_
    refine lv_iload_n hx hb dWhole_result_68 rfl (lv_at hl 1 rfl) ?_
    refine pw_call (va_runS (As := [.int a1]) (rest := []) ⟨hx, hb, hml, hown, hts⟩ (qWhole_width l a1) (va_cwS 1 hts (gS w_292 w_293 w_35 w_294) rfl rfl rfl (by decide +kernel) ⟨Nat.le_of_ble_eq_true rfl, Nat.le_of_ble_eq_true rfl⟩) ⟨pw_bT, fun U hU hW => ⟨rfl, trivial⟩⟩ rfl rfl hl.1 rfl (lv_room (Nat.le_of_ble_eq_true rfl)) dWhole_result_69 ⟨Nat.zero_le _, Nat.zero_le _⟩) ?_
    refine lv_lload_n hx hb dWhole_result_72 rfl (lv_at hl 2 rfl) ?_
    refine pw_call (va_runS (As := [.long a2]) (rest := [.int (fWhole_width a1)]) ⟨hx, hb, hml, hown, hts⟩ (qWhole_length l a2) (va_cwS 1 hts (gS w_388 w_331 w_35 w_332) rfl rfl rfl (by decide +kernel) ⟨Nat.le_of_ble_eq_true rfl, Nat.le_of_ble_eq_true rfl⟩) ⟨pw_bT, fun U hU hW => ⟨rfl, trivial⟩⟩ rfl rfl hl.1 rfl (lv_room (Nat.le_of_ble_eq_true rfl)) dWhole_result_73 ⟨Nat.zero_le _, Nat.zero_le _⟩) ?_
    refine lv_isub hx hb dWhole_result_76 ?_
    refine lv_i2l hx hb dWhole_result_77 rfl ?_
    exact W.lret hx hb hr (fun t ht _ => ⟨by rw [(show fWhole_result a0 a1 a2 a4 = ((fWhole_width a1) - (fWhole_length a2)).toInt64 by rw [fWhole_result, if_pos h1])], ht⟩) (fun q h => nomatch h) dWhole_result_78
  by_cases h2 : a0 = 1
  · refine lv_tableIn (tgt := 79) hx hb dWhole_result_1 (by rw [h2]; decide) (by rw [h2]; decide) (off := 78) (by rw [h2]; rfl) (by decide) ?_
    refine lv_lload_n hx hb dWhole_result_79 rfl (lv_at hl 2 rfl) ?_
    refine lv_lconst (v := 0) hx hb dWhole_result_80 (by decide) ?_
    refine W.lcmp hx hb dWhole_result_81 ?_
    refine lv_if_ne (tgt := 93) hx hb dWhole_result_82 (by decide) (fun h3 => ?_) (fun h3 => ?_)
    · have h3 : ¬ (a2 = 0) := fun w => h3 ((lg_cmp_eq _ _).mpr w)
      refine lv_lload_n hx hb dWhole_result_93 rfl (lv_at hl 2 rfl) ?_
      refine lv_lload_n hx hb dWhole_result_94 rfl (lv_at hl 2 rfl) ?_
      refine lv_lneg hx hb dWhole_result_95 ?_
      refine lv_land hx hb dWhole_result_96 ?_
      refine lv_lconst (v := 1) hx hb dWhole_result_97 (by decide) ?_
      refine lv_lsub hx hb dWhole_result_98 ?_
      refine pw_call (va_runS (As := [.long ((a2 &&& (-a2)) - 1)]) (rest := []) ⟨hx, hb, hml, hown, hts⟩ (qLong_bitCount l ((a2 &&& (-a2)) - 1)) (va_cwS 1 hts (gS w_333 w_334 w_46 w_335) rfl rfl rfl (by decide +kernel) ⟨Nat.le_of_ble_eq_true rfl, Nat.le_of_ble_eq_true rfl⟩) ⟨pw_bT, fun U hU hW => ⟨rfl, trivial⟩⟩ rfl rfl hl.1 rfl (lv_room (Nat.le_of_ble_eq_true rfl)) dWhole_result_99 ⟨Nat.zero_le _, Nat.zero_le _⟩) ?_
      refine lv_i2l hx hb dWhole_result_102 rfl ?_
      exact W.lret hx hb hr (fun t ht _ => ⟨by rw [(show fWhole_result a0 a1 a2 a4 = (fLong_bitCount ((a2 &&& (-a2)) - 1)).toInt64 by rw [fWhole_result, if_neg h1, if_pos h2, if_neg h3])], ht⟩) (fun q h => nomatch h) dWhole_result_103
    · have h3 : a2 = 0 := (lg_cmp_eq _ _).mp h3
      refine lv_iload_n hx hb dWhole_result_85 rfl (lv_at hl 1 rfl) ?_
      refine pw_call (va_runS (As := [.int a1]) (rest := []) ⟨hx, hb, hml, hown, hts⟩ (qWhole_width l a1) (va_cwS 1 hts (gS w_292 w_293 w_35 w_294) rfl rfl rfl (by decide +kernel) ⟨Nat.le_of_ble_eq_true rfl, Nat.le_of_ble_eq_true rfl⟩) ⟨pw_bT, fun U hU hW => ⟨rfl, trivial⟩⟩ rfl rfl hl.1 rfl (lv_room (Nat.le_of_ble_eq_true rfl)) dWhole_result_86 ⟨Nat.zero_le _, Nat.zero_le _⟩) ?_
      refine lv_i2l hx hb dWhole_result_89 rfl ?_
      refine lv_goto (tgt := 103) hx hb dWhole_result_90 (by decide) ?_
      exact W.lret hx hb hr (fun t ht _ => ⟨by rw [(show fWhole_result a0 a1 a2 a4 = (fWhole_width a1).toInt64 by rw [fWhole_result, if_neg h1, if_pos h2, if_pos h3])], ht⟩) (fun q h => nomatch h) dWhole_result_103
  by_cases h4 : a0 = 2
  · refine lv_tableIn (tgt := 104) hx hb dWhole_result_1 (by rw [h4]; decide) (by rw [h4]; decide) (off := 103) (by rw [h4]; rfl) (by decide) ?_
    refine lv_lload_n hx hb dWhole_result_104 rfl (lv_at hl 2 rfl) ?_
    refine pw_call (va_runS (As := [.long a2]) (rest := []) ⟨hx, hb, hml, hown, hts⟩ (qLong_bitCount l a2) (va_cwS 1 hts (gS w_333 w_334 w_46 w_335) rfl rfl rfl (by decide +kernel) ⟨Nat.le_of_ble_eq_true rfl, Nat.le_of_ble_eq_true rfl⟩) ⟨pw_bT, fun U hU hW => ⟨rfl, trivial⟩⟩ rfl rfl hl.1 rfl (lv_room (Nat.le_of_ble_eq_true rfl)) dWhole_result_105 ⟨Nat.zero_le _, Nat.zero_le _⟩) ?_
    refine lv_i2l hx hb dWhole_result_108 rfl ?_
    exact W.lret hx hb hr (fun t ht _ => ⟨by rw [(show fWhole_result a0 a1 a2 a4 = (fLong_bitCount a2).toInt64 by rw [fWhole_result, if_neg h1, if_neg h2, if_pos h4])], ht⟩) (fun q h => nomatch h) dWhole_result_109
  by_cases h5 : a0 = 3
  · refine lv_tableIn (tgt := 110) hx hb dWhole_result_1 (by rw [h5]; decide) (by rw [h5]; decide) (off := 109) (by rw [h5]; rfl) (by decide) ?_
    refine lv_lload_n hx hb dWhole_result_110 rfl (lv_at hl 2 rfl) ?_
    refine lv_lload hx hb dWhole_result_111 (lv_at hl 3 rfl) ?_
    refine lv_ladd hx hb dWhole_result_113 ?_
    exact W.lret hx hb hr (fun t ht _ => ⟨by rw [(show fWhole_result a0 a1 a2 a4 = a2 + a4 by rw [fWhole_result, if_neg h1, if_neg h2, if_neg h4, if_pos h5])], ht⟩) (fun q h => nomatch h) dWhole_result_114
  by_cases h6 : a0 = 4
  · refine lv_tableIn (tgt := 115) hx hb dWhole_result_1 (by rw [h6]; decide) (by rw [h6]; decide) (off := 114) (by rw [h6]; rfl) (by decide) ?_
    refine lv_lload_n hx hb dWhole_result_115 rfl (lv_at hl 2 rfl) ?_
    refine lv_lload hx hb dWhole_result_116 (lv_at hl 3 rfl) ?_
    refine lv_lsub hx hb dWhole_result_118 ?_
    exact W.lret hx hb hr (fun t ht _ => ⟨by rw [(show fWhole_result a0 a1 a2 a4 = a2 - a4 by rw [fWhole_result, if_neg h1, if_neg h2, if_neg h4, if_neg h5, if_pos h6])], ht⟩) (fun q h => nomatch h) dWhole_result_119
  by_cases h7 : a0 = 5
  · refine lv_tableIn (tgt := 120) hx hb dWhole_result_1 (by rw [h7]; decide) (by rw [h7]; decide) (off := 119) (by rw [h7]; rfl) (by decide) ?_
    refine lv_lload_n hx hb dWhole_result_120 rfl (lv_at hl 2 rfl) ?_
    refine lv_lload hx hb dWhole_result_121 (lv_at hl 3 rfl) ?_
    refine lv_lmul hx hb dWhole_result_123 ?_
    exact W.lret hx hb hr (fun t ht _ => ⟨by rw [(show fWhole_result a0 a1 a2 a4 = a2 * a4 by rw [fWhole_result, if_neg h1, if_neg h2, if_neg h4, if_neg h5, if_neg h6, if_pos h7])], ht⟩) (fun q h => nomatch h) dWhole_result_124
  by_cases h8 : a0 = 6
  · refine lv_tableIn (tgt := 125) hx hb dWhole_result_1 (by rw [h8]; decide) (by rw [h8]; decide) (off := 124) (by rw [h8]; rfl) (by decide) ?_
    refine lv_iload_n hx hb dWhole_result_125 rfl (lv_at hl 0 rfl) ?_
    refine lv_iload_n hx hb dWhole_result_126 rfl (lv_at hl 1 rfl) ?_
    refine lv_lload_n hx hb dWhole_result_127 rfl (lv_at hl 2 rfl) ?_
    refine lv_lload hx hb dWhole_result_128 (lv_at hl 3 rfl) ?_
    refine pw_call (va_runS (As := [.int a0, .int a1, .long a2, .long a4]) (rest := []) ⟨hx, hb, hml, hown, hts⟩ (qWhole_divided l a0 a1 a2 a4) (va_cwS 4 hts (gS w_389 w_390 w_35 w_391) rfl rfl rfl (by decide +kernel) ⟨Nat.le_of_ble_eq_true rfl, Nat.le_of_ble_eq_true rfl⟩) ⟨pw_bT, fun U hU hW => ⟨rfl, trivial⟩⟩ rfl rfl hl.1 rfl (lv_room (Nat.le_of_ble_eq_true rfl)) dWhole_result_130 ⟨Nat.zero_le _, Nat.zero_le _⟩) ?_
    exact W.lret hx hb hr (fun t ht _ => ⟨by rw [(show fWhole_result a0 a1 a2 a4 = fWhole_divided a0 a1 a2 a4 by rw [fWhole_result, if_neg h1, if_neg h2, if_neg h4, if_neg h5, if_neg h6, if_neg h7, if_pos h8])], ht⟩) (fun q h => nomatch h) dWhole_result_133
  by_cases h9 : a0 = 7
  · refine lv_tableIn (tgt := 125) hx hb dWhole_result_1 (by rw [h9]; decide) (by rw [h9]; decide) (off := 124) (by rw [h9]; rfl) (by decide) ?_
    refine lv_iload_n hx hb dWhole_result_125 rfl (lv_at hl 0 rfl) ?_
    refine lv_iload_n hx hb dWhole_result_126 rfl (lv_at hl 1 rfl) ?_
    refine lv_lload_n hx hb dWhole_result_127 rfl (lv_at hl 2 rfl) ?_
    refine lv_lload hx hb dWhole_result_128 (lv_at hl 3 rfl) ?_
    refine pw_call (va_runS (As := [.int a0, .int a1, .long a2, .long a4]) (rest := []) ⟨hx, hb, hml, hown, hts⟩ (qWhole_divided l a0 a1 a2 a4) (va_cwS 4 hts (gS w_389 w_390 w_35 w_391) rfl rfl rfl (by decide +kernel) ⟨Nat.le_of_ble_eq_true rfl, Nat.le_of_ble_eq_true rfl⟩) ⟨pw_bT, fun U hU hW => ⟨rfl, trivial⟩⟩ rfl rfl hl.1 rfl (lv_room (Nat.le_of_ble_eq_true rfl)) dWhole_result_130 ⟨Nat.zero_le _, Nat.zero_le _⟩) ?_
    exact W.lret hx hb hr (fun t ht _ => ⟨by rw [(show fWhole_result a0 a1 a2 a4 = fWhole_divided a0 a1 a2 a4 by rw [fWhole_result, if_neg h1, if_neg h2, if_neg h4, if_neg h5, if_neg h6, if_neg h7, if_neg h8, if_pos h9])], ht⟩) (fun q h => nomatch h) dWhole_result_133
  by_cases h10 : a0 = 8
  · refine lv_tableIn (tgt := 125) hx hb dWhole_result_1 (by rw [h10]; decide) (by rw [h10]; decide) (off := 124) (by rw [h10]; rfl) (by decide) ?_
    refine lv_iload_n hx hb dWhole_result_125 rfl (lv_at hl 0 rfl) ?_
    refine lv_iload_n hx hb dWhole_result_126 rfl (lv_at hl 1 rfl) ?_
    refine lv_lload_n hx hb dWhole_result_127 rfl (lv_at hl 2 rfl) ?_
    refine lv_lload hx hb dWhole_result_128 (lv_at hl 3 rfl) ?_
    refine pw_call (va_runS (As := [.int a0, .int a1, .long a2, .long a4]) (rest := []) ⟨hx, hb, hml, hown, hts⟩ (qWhole_divided l a0 a1 a2 a4) (va_cwS 4 hts (gS w_389 w_390 w_35 w_391) rfl rfl rfl (by decide +kernel) ⟨Nat.le_of_ble_eq_true rfl, Nat.le_of_ble_eq_true rfl⟩) ⟨pw_bT, fun U hU hW => ⟨rfl, trivial⟩⟩ rfl rfl hl.1 rfl (lv_room (Nat.le_of_ble_eq_true rfl)) dWhole_result_130 ⟨Nat.zero_le _, Nat.zero_le _⟩) ?_
    exact W.lret hx hb hr (fun t ht _ => ⟨by rw [(show fWhole_result a0 a1 a2 a4 = fWhole_divided a0 a1 a2 a4 by rw [fWhole_result, if_neg h1, if_neg h2, if_neg h4, if_neg h5, if_neg h6, if_neg h7, if_neg h8, if_neg h9, if_pos h10])], ht⟩) (fun q h => nomatch h) dWhole_result_133
  by_cases h11 : a0 = 9
  · refine lv_tableIn (tgt := 125) hx hb dWhole_result_1 (by rw [h11]; decide) (by rw [h11]; decide) (off := 124) (by rw [h11]; rfl) (by decide) ?_
    refine lv_iload_n hx hb dWhole_result_125 rfl (lv_at hl 0 rfl) ?_
    refine lv_iload_n hx hb dWhole_result_126 rfl (lv_at hl 1 rfl) ?_
    refine lv_lload_n hx hb dWhole_result_127 rfl (lv_at hl 2 rfl) ?_
    refine lv_lload hx hb dWhole_result_128 (lv_at hl 3 rfl) ?_
    refine pw_call (va_runS (As := [.int a0, .int a1, .long a2, .long a4]) (rest := []) ⟨hx, hb, hml, hown, hts⟩ (qWhole_divided l a0 a1 a2 a4) (va_cwS 4 hts (gS w_389 w_390 w_35 w_391) rfl rfl rfl (by decide +kernel) ⟨Nat.le_of_ble_eq_true rfl, Nat.le_of_ble_eq_true rfl⟩) ⟨pw_bT, fun U hU hW => ⟨rfl, trivial⟩⟩ rfl rfl hl.1 rfl (lv_room (Nat.le_of_ble_eq_true rfl)) dWhole_result_130 ⟨Nat.zero_le _, Nat.zero_le _⟩) ?_
    exact W.lret hx hb hr (fun t ht _ => ⟨by rw [(show fWhole_result a0 a1 a2 a4 = fWhole_divided a0 a1 a2 a4 by rw [fWhole_result, if_neg h1, if_neg h2, if_neg h4, if_neg h5, if_neg h6, if_neg h7, if_neg h8, if_neg h9, if_neg h10, if_pos h11])], ht⟩) (fun q h => nomatch h) dWhole_result_133
  by_cases h12 : a0 = 10
  · refine lv_tableIn (tgt := 134) hx hb dWhole_result_1 (by rw [h12]; decide) (by rw [h12]; decide) (off := 133) (by rw [h12]; rfl) (by decide) ?_
    refine lv_lload_n hx hb dWhole_result_134 rfl (lv_at hl 2 rfl) ?_
    refine lv_lload hx hb dWhole_result_135 (lv_at hl 3 rfl) ?_
    refine lv_land hx hb dWhole_result_137 ?_
    exact W.lret hx hb hr (fun t ht _ => ⟨by rw [(show fWhole_result a0 a1 a2 a4 = a2 &&& a4 by rw [fWhole_result, if_neg h1, if_neg h2, if_neg h4, if_neg h5, if_neg h6, if_neg h7, if_neg h8, if_neg h9, if_neg h10, if_neg h11, if_pos h12])], ht⟩) (fun q h => nomatch h) dWhole_result_138
  by_cases h13 : a0 = 11
  · refine lv_tableIn (tgt := 139) hx hb dWhole_result_1 (by rw [h13]; decide) (by rw [h13]; decide) (off := 138) (by rw [h13]; rfl) (by decide) ?_
    refine lv_lload_n hx hb dWhole_result_139 rfl (lv_at hl 2 rfl) ?_
    refine lv_lload hx hb dWhole_result_140 (lv_at hl 3 rfl) ?_
    refine lv_lor hx hb dWhole_result_142 ?_
    exact W.lret hx hb hr (fun t ht _ => ⟨by rw [(show fWhole_result a0 a1 a2 a4 = a2 ||| a4 by rw [fWhole_result, if_neg h1, if_neg h2, if_neg h4, if_neg h5, if_neg h6, if_neg h7, if_neg h8, if_neg h9, if_neg h10, if_neg h11, if_neg h12, if_pos h13])], ht⟩) (fun q h => nomatch h) dWhole_result_143
  by_cases h14 : a0 = 12
  · refine lv_tableIn (tgt := 144) hx hb dWhole_result_1 (by rw [h14]; decide) (by rw [h14]; decide) (off := 143) (by rw [h14]; rfl) (by decide) ?_
    refine lv_lload_n hx hb dWhole_result_144 rfl (lv_at hl 2 rfl) ?_
    refine lv_lload hx hb dWhole_result_145 (lv_at hl 3 rfl) ?_
    refine lv_lxor hx hb dWhole_result_147 ?_
    exact W.lret hx hb hr (fun t ht _ => ⟨by rw [(show fWhole_result a0 a1 a2 a4 = a2 ^^^ a4 by rw [fWhole_result, if_neg h1, if_neg h2, if_neg h4, if_neg h5, if_neg h6, if_neg h7, if_neg h8, if_neg h9, if_neg h10, if_neg h11, if_neg h12, if_neg h13, if_pos h14])], ht⟩) (fun q h => nomatch h) dWhole_result_148
  refine pw_tableD (tgt := 149) hx hb dWhole_result_1 ?_ (by decide) ?_
  · have th1 := lv_neT h1 (a := 0) (by decide)
    have th2 := lv_neT h2 (a := 1) (by decide)
    have th4 := lv_neT h4 (a := 2) (by decide)
    have th5 := lv_neT h5 (a := 3) (by decide)
    have th6 := lv_neT h6 (a := 4) (by decide)
    have th7 := lv_neT h7 (a := 5) (by decide)
    have th8 := lv_neT h8 (a := 6) (by decide)
    have th9 := lv_neT h9 (a := 7) (by decide)
    have th10 := lv_neT h10 (a := 8) (by decide)
    have th11 := lv_neT h11 (a := 9) (by decide)
    have th12 := lv_neT h12 (a := 10) (by decide)
    have th13 := lv_neT h13 (a := 11) (by decide)
    have th14 := lv_neT h14 (a := 12) (by decide)
    exact (show a0.toInt < 0 ∨ 12 < a0.toInt by omega).elim Or.inl (fun q => Or.inr (Or.inl q))
  refine lv_iload_n hx hb dWhole_result_149 rfl (lv_at hl 0 rfl) ?_
  refine lv_iload_n hx hb dWhole_result_150 rfl (lv_at hl 1 rfl) ?_
  refine lv_lload_n hx hb dWhole_result_151 rfl (lv_at hl 2 rfl) ?_
  refine lv_lload hx hb dWhole_result_152 (lv_at hl 3 rfl) ?_
  refine lv_l2i hx hb dWhole_result_154 rfl ?_
  refine lv_iload_n hx hb dWhole_result_155 rfl (lv_at hl 1 rfl) ?_
  refine pw_call (va_runS (As := [.int a1]) (rest := [.int a4.toInt32, .long a2, .int a1, .int a0]) ⟨hx, hb, hml, hown, hts⟩ (qWhole_width l a1) (va_cwS 1 hts (gS w_292 w_293 w_35 w_294) rfl rfl rfl (by decide +kernel) ⟨Nat.le_of_ble_eq_true rfl, Nat.le_of_ble_eq_true rfl⟩) ⟨pw_bT, fun U hU hW => ⟨rfl, trivial⟩⟩ rfl rfl hl.1 rfl (lv_room (Nat.le_of_ble_eq_true rfl)) dWhole_result_156 ⟨Nat.zero_le _, Nat.zero_le _⟩) ?_
  refine lv_iconst (v := 1) hx hb dWhole_result_159 (by decide) ?_
  refine lv_isub hx hb dWhole_result_160 ?_
  refine lv_iand hx hb dWhole_result_161 ?_
  refine pw_call (va_runS (As := [.int a0, .int a1, .long a2, .int (a4.toInt32 &&& ((fWhole_width a1) - 1))]) (rest := []) ⟨hx, hb, hml, hown, hts⟩ (qWhole_shifted l a0 a1 a2 (a4.toInt32 &&& ((fWhole_width a1) - 1))) (va_cwS 4 hts (gS w_396 w_397 w_35 w_398) rfl rfl rfl (by decide +kernel) ⟨Nat.le_of_ble_eq_true rfl, Nat.le_of_ble_eq_true rfl⟩) ⟨pw_bT, fun U hU hW => ⟨rfl, trivial⟩⟩ rfl rfl hl.1 rfl (lv_room (Nat.le_of_ble_eq_true rfl)) dWhole_result_162 ⟨Nat.zero_le _, Nat.zero_le _⟩) ?_
  exact W.lret hx hb hr (fun t ht _ => ⟨by rw [(show fWhole_result a0 a1 a2 a4 = fWhole_shifted a0 a1 a2 (a4.toInt32 &&& ((fWhole_width a1) - 1)) by rw [fWhole_result, if_neg h1, if_neg h2, if_neg h4, if_neg h5, if_neg h6, if_neg h7, if_neg h8, if_neg h9, if_neg h10, if_neg h11, if_neg h12, if_neg h13, if_neg h14])], ht⟩) (fun q h => nomatch h) dWhole_result_165
set_option maxHeartbeats 4000000 in
set_option maxRecDepth 100000 in
theorem qWhole_result (l : Launch) (a0 : Int32) (a1 : Int32) (a2 : Int64) (a4 : Int64) : Met l yWhole_result wsWhole_result rmWhole_result (va_Pc [.int a0, .int a1, .long a2, .long a4] (fun _ => True)) (k2_QcV (.long (fWhole_result a0 a1 a2 a4))) 0 0 (fun _ => False) := by
  refine Met.ofW (cc := cWhole_result) (maxL := 6) (ret := (some .long)) (by decide) rfl ?_
  intro p e s m args below meth c s₁ B hml hv
  obtain ⟨rfl, hG⟩ := hv
  have hts0 := atoms_spec (ws := wsWhole_result) B.pre
  have hts := fun (w : Cond) (h : w ∈ aw) => hts0 w (List.mem_cons_of_mem _ h)
  have hown : s.vm.findClass "BitNumbers$Whole" = some m.cls := findClass_of_methodNamed B.named
  have hl := lv_entry ([.int a0, .int a1, .long a2, .long a4]) (n := 6) (Nat.le_of_ble_eq_true rfl)
  rw [lg_entry_eq]
  generalize (lg_sl ([.int a0, .int a1, .long a2, .long a4]) ++ List.replicate (6 - (lg_sl ([.int a0, .int a1, .long a2, .long a4])).length) Slot.unset).toArray = ls at hl ⊢
  exact kWhole_result_0 ⟨B.exec, B.bytes, B.returns, hml, hown, hts, B.notSynchronized⟩ a0 a1 a2 a4 hl

set_option maxHeartbeats 4000000 in
set_option maxRecDepth 100000 in
theorem kOperators_result_22 {p : Program} {l : Launch} {e : Env} {s : State} {m : MethodId} {args : Array Value} {below : List Frame} {meth : Method} {c : Code} {ad td : Nat → Nat} (C : pw_C p s m args meth c cOperators_result 8 (some .long) "BitNumbers$Operators") (hG : pw_G (fun _ => False) ad td s s.heap) (a0 : Int32) (a1 : Int64) (a3 : Int64) (a5 : Int32) (a6 : Int32) (a7 : Int32) (hp5 : vp_in a5 9) {ls : Array Slot} (hl : lv_has ls 8 [(0, .int a0), (1, .long a1), (3, .long a3), (5, .int a5), (6, .int a6), (7, .int a7)]) : W p l e rmOperators_result s m args below meth c s.heap [] 0 0 (MQ below (k2_QcV (.long (fOperators_result_22 a0 a1 a3 a5 a6 a7))) args s 0 0 (fun _ => False)) (F0 m 22 ls []) := by
  obtain ⟨hx, hb, hr, hml, hown, hts, hlocks⟩ := id C
  have hS : va_S (fun _ => False) s.heap s.heap [] := va_S.rf
  refine lv_iload hx hb dOperators_result_22 (lv_at hl 3 rfl) ?_
  by_cases h1 : a5 = 0
  · refine lv_tableIn (tgt := 72) hx hb dOperators_result_24 (by rw [h1]; decide) (by rw [h1]; decide) (off := 48) (by rw [h1]; rfl) (by decide) ?_
    refine lv_iload hx hb dOperators_result_72 (lv_at hl 4 rfl) ?_
    refine lv_iload hx hb dOperators_result_74 (lv_at hl 5 rfl) ?_
    refine lv_lload_n hx hb dOperators_result_76 rfl (lv_at hl 1 rfl) ?_
    refine lv_lload_n hx hb dOperators_result_77 rfl (lv_at hl 2 rfl) ?_
    refine pw_call (va_runS (As := [.int a6, .int a7, .long a1, .long a3]) (rest := []) ⟨hx, hb, hml, hown, hts⟩ (qWhole_test l a6 a7 a1 a3) (va_cwS 4 hts (gS w_368 w_369 w_35 w_370) rfl rfl rfl (by decide +kernel) ⟨Nat.le_of_ble_eq_true rfl, Nat.le_of_ble_eq_true rfl⟩) ⟨pw_bT, fun U hU hW => ⟨rfl, trivial⟩⟩ rfl rfl hl.1 rfl (lv_room (Nat.le_of_ble_eq_true rfl)) dOperators_result_78 ⟨Nat.zero_le _, Nat.zero_le _⟩) ?_
    refine lv_if_eq (tgt := 88) hx hb dOperators_result_81 (by decide) (fun h2 => ?_) (fun h2 => ?_)
    · refine lv_lconst (v := 0) hx hb dOperators_result_88 (by decide) ?_
      exact W.lret hx hb hr (fun t ht _ => ⟨by rw [(show fOperators_result_22 a0 a1 a3 a5 a6 a7 = 0 by rw [fOperators_result_22, if_pos h1, if_pos h2])], ht⟩) (fun q h => nomatch h) dOperators_result_89
    · refine lv_lconst (v := 1) hx hb dOperators_result_84 (by decide) ?_
      refine lv_goto (tgt := 89) hx hb dOperators_result_85 (by decide) ?_
      exact W.lret hx hb hr (fun t ht _ => ⟨by rw [(show fOperators_result_22 a0 a1 a3 a5 a6 a7 = 1 by rw [fOperators_result_22, if_pos h1, if_neg h2])], ht⟩) (fun q h => nomatch h) dOperators_result_89
  by_cases h3 : a5 = 1
  · refine lv_tableIn (tgt := 72) hx hb dOperators_result_24 (by rw [h3]; decide) (by rw [h3]; decide) (off := 48) (by rw [h3]; rfl) (by decide) ?_
    refine lv_iload hx hb dOperators_result_72 (lv_at hl 4 rfl) ?_
    refine lv_iload hx hb dOperators_result_74 (lv_at hl 5 rfl) ?_
    refine lv_lload_n hx hb dOperators_result_76 rfl (lv_at hl 1 rfl) ?_
    refine lv_lload_n hx hb dOperators_result_77 rfl (lv_at hl 2 rfl) ?_
    refine pw_call (va_runS (As := [.int a6, .int a7, .long a1, .long a3]) (rest := []) ⟨hx, hb, hml, hown, hts⟩ (qWhole_test l a6 a7 a1 a3) (va_cwS 4 hts (gS w_368 w_369 w_35 w_370) rfl rfl rfl (by decide +kernel) ⟨Nat.le_of_ble_eq_true rfl, Nat.le_of_ble_eq_true rfl⟩) ⟨pw_bT, fun U hU hW => ⟨rfl, trivial⟩⟩ rfl rfl hl.1 rfl (lv_room (Nat.le_of_ble_eq_true rfl)) dOperators_result_78 ⟨Nat.zero_le _, Nat.zero_le _⟩) ?_
    refine lv_if_eq (tgt := 88) hx hb dOperators_result_81 (by decide) (fun h4 => ?_) (fun h4 => ?_)
    · refine lv_lconst (v := 0) hx hb dOperators_result_88 (by decide) ?_
      exact W.lret hx hb hr (fun t ht _ => ⟨by rw [(show fOperators_result_22 a0 a1 a3 a5 a6 a7 = 0 by rw [fOperators_result_22, if_neg h1, if_pos h3, if_pos h4])], ht⟩) (fun q h => nomatch h) dOperators_result_89
    · refine lv_lconst (v := 1) hx hb dOperators_result_84 (by decide) ?_
      refine lv_goto (tgt := 89) hx hb dOperators_result_85 (by decide) ?_
      exact W.lret hx hb hr (fun t ht _ => ⟨by rw [(show fOperators_result_22 a0 a1 a3 a5 a6 a7 = 1 by rw [fOperators_result_22, if_neg h1, if_pos h3, if_neg h4])], ht⟩) (fun q h => nomatch h) dOperators_result_89
  by_cases h5 : a5 = 2
  · refine lv_tableIn (tgt := 90) hx hb dOperators_result_24 (by rw [h5]; decide) (by rw [h5]; decide) (off := 66) (by rw [h5]; rfl) (by decide) ?_
    refine lv_iload hx hb dOperators_result_90 (lv_at hl 4 rfl) ?_
    refine lv_iload hx hb dOperators_result_92 (lv_at hl 5 rfl) ?_
    refine pw_call (va_runS (As := [.int a7]) (rest := [.int a6]) ⟨hx, hb, hml, hown, hts⟩ (qFormat_of l ad td a7) (va_cwS 1 hts (gS w_302 w_135 w_44 w_136) rfl rfl rfl (by decide +kernel) ⟨Nat.le_of_ble_eq_true rfl, Nat.le_of_ble_eq_true rfl⟩) ⟨pw_bG, fun U hU hW => ⟨rfl, (hG.at hU hW)⟩⟩ rfl rfl hl.1 rfl (lv_room (Nat.le_of_ble_eq_true rfl)) dOperators_result_94 ⟨Nat.zero_le _, Nat.zero_le _⟩) ?_
    refine lv_lload_n hx hb dOperators_result_97 rfl (lv_at hl 1 rfl) ?_
    refine lv_lload_n hx hb dOperators_result_98 rfl (lv_at hl 2 rfl) ?_
    refine pw_call (va_runS (As := [.int a6, .ref (ad (fFormat_of a7)), .long a1, .long a3]) (rest := []) ⟨hx, hb, hml, hown, hts⟩ (qFloating_test l ad td a6 (fFormat_of a7) a1 a3 (rFormat_of a7)) (va_cwS 4 hts (gS w_372 w_373 w_48 w_374) rfl rfl rfl (by decide +kernel) ⟨Nat.le_of_ble_eq_true rfl, Nat.le_of_ble_eq_true rfl⟩) ⟨pw_bG, fun U hU hW => ⟨rfl, (hG.at hU hW)⟩⟩ rfl rfl hl.1 rfl (lv_room (Nat.le_of_ble_eq_true rfl)) dOperators_result_99 ⟨Nat.zero_le _, Nat.zero_le _⟩) ?_
    refine lv_if_eq (tgt := 109) hx hb dOperators_result_102 (by decide) (fun h6 => ?_) (fun h6 => ?_)
    · refine lv_lconst (v := 0) hx hb dOperators_result_109 (by decide) ?_
      exact W.lret hx hb hr (fun t ht _ => ⟨by rw [(show fOperators_result_22 a0 a1 a3 a5 a6 a7 = 0 by rw [fOperators_result_22, if_neg h1, if_neg h3, if_pos h5, if_pos h6])], ht⟩) (fun q h => nomatch h) dOperators_result_110
    · refine lv_lconst (v := 1) hx hb dOperators_result_105 (by decide) ?_
      refine lv_goto (tgt := 110) hx hb dOperators_result_106 (by decide) ?_
      exact W.lret hx hb hr (fun t ht _ => ⟨by rw [(show fOperators_result_22 a0 a1 a3 a5 a6 a7 = 1 by rw [fOperators_result_22, if_neg h1, if_neg h3, if_pos h5, if_neg h6])], ht⟩) (fun q h => nomatch h) dOperators_result_110
  by_cases h7 : a5 = 3
  · refine lv_tableIn (tgt := 90) hx hb dOperators_result_24 (by rw [h7]; decide) (by rw [h7]; decide) (off := 66) (by rw [h7]; rfl) (by decide) ?_
    refine lv_iload hx hb dOperators_result_90 (lv_at hl 4 rfl) ?_
    refine lv_iload hx hb dOperators_result_92 (lv_at hl 5 rfl) ?_
    refine pw_call (va_runS (As := [.int a7]) (rest := [.int a6]) ⟨hx, hb, hml, hown, hts⟩ (qFormat_of l ad td a7) (va_cwS 1 hts (gS w_302 w_135 w_44 w_136) rfl rfl rfl (by decide +kernel) ⟨Nat.le_of_ble_eq_true rfl, Nat.le_of_ble_eq_true rfl⟩) ⟨pw_bG, fun U hU hW => ⟨rfl, (hG.at hU hW)⟩⟩ rfl rfl hl.1 rfl (lv_room (Nat.le_of_ble_eq_true rfl)) dOperators_result_94 ⟨Nat.zero_le _, Nat.zero_le _⟩) ?_
    refine lv_lload_n hx hb dOperators_result_97 rfl (lv_at hl 1 rfl) ?_
    refine lv_lload_n hx hb dOperators_result_98 rfl (lv_at hl 2 rfl) ?_
    refine pw_call (va_runS (As := [.int a6, .ref (ad (fFormat_of a7)), .long a1, .long a3]) (rest := []) ⟨hx, hb, hml, hown, hts⟩ (qFloating_test l ad td a6 (fFormat_of a7) a1 a3 (rFormat_of a7)) (va_cwS 4 hts (gS w_372 w_373 w_48 w_374) rfl rfl rfl (by decide +kernel) ⟨Nat.le_of_ble_eq_true rfl, Nat.le_of_ble_eq_true rfl⟩) ⟨pw_bG, fun U hU hW => ⟨rfl, (hG.at hU hW)⟩⟩ rfl rfl hl.1 rfl (lv_room (Nat.le_of_ble_eq_true rfl)) dOperators_result_99 ⟨Nat.zero_le _, Nat.zero_le _⟩) ?_
    refine lv_if_eq (tgt := 109) hx hb dOperators_result_102 (by decide) (fun h8 => ?_) (fun h8 => ?_)
    · refine lv_lconst (v := 0) hx hb dOperators_result_109 (by decide) ?_
      exact W.lret hx hb hr (fun t ht _ => ⟨by rw [(show fOperators_result_22 a0 a1 a3 a5 a6 a7 = 0 by rw [fOperators_result_22, if_neg h1, if_neg h3, if_neg h5, if_pos h7, if_pos h8])], ht⟩) (fun q h => nomatch h) dOperators_result_110
    · refine lv_lconst (v := 1) hx hb dOperators_result_105 (by decide) ?_
      refine lv_goto (tgt := 110) hx hb dOperators_result_106 (by decide) ?_
      exact W.lret hx hb hr (fun t ht _ => ⟨by rw [(show fOperators_result_22 a0 a1 a3 a5 a6 a7 = 1 by rw [fOperators_result_22, if_neg h1, if_neg h3, if_neg h5, if_pos h7, if_neg h8])], ht⟩) (fun q h => nomatch h) dOperators_result_110
  by_cases h9 : a5 = 4
  · refine lv_tableIn (tgt := 111) hx hb dOperators_result_24 (by rw [h9]; decide) (by rw [h9]; decide) (off := 87) (by rw [h9]; rfl) (by decide) ?_
    refine lv_iload hx hb dOperators_result_111 (lv_at hl 4 rfl) ?_
    refine lv_iload hx hb dOperators_result_113 (lv_at hl 5 rfl) ?_
    refine lv_lload_n hx hb dOperators_result_115 rfl (lv_at hl 1 rfl) ?_
    refine lv_lload_n hx hb dOperators_result_116 rfl (lv_at hl 2 rfl) ?_
    refine pw_call (va_runS (As := [.int a6, .int a7, .long a1, .long a3]) (rest := []) ⟨hx, hb, hml, hown, hts⟩ (qWhole_result l a6 a7 a1 a3) (va_cwS 4 hts (gS w_385 w_386 w_35 w_387) rfl rfl rfl (by decide +kernel) ⟨Nat.le_of_ble_eq_true rfl, Nat.le_of_ble_eq_true rfl⟩) ⟨pw_bT, fun U hU hW => ⟨rfl, trivial⟩⟩ rfl rfl hl.1 rfl (lv_room (Nat.le_of_ble_eq_true rfl)) dOperators_result_117 ⟨Nat.zero_le _, Nat.zero_le _⟩) ?_
    exact W.lret hx hb hr (fun t ht _ => ⟨by rw [(show fOperators_result_22 a0 a1 a3 a5 a6 a7 = fWhole_result a6 a7 a1 a3 by rw [fOperators_result_22, if_neg h1, if_neg h3, if_neg h5, if_neg h7, if_pos h9])], ht⟩) (fun q h => nomatch h) dOperators_result_120
  by_cases h10 : a5 = 5
  · refine lv_tableIn (tgt := 111) hx hb dOperators_result_24 (by rw [h10]; decide) (by rw [h10]; decide) (off := 87) (by rw [h10]; rfl) (by decide) ?_
    refine lv_iload hx hb dOperators_result_111 (lv_at hl 4 rfl) ?_
    refine lv_iload hx hb dOperators_result_113 (lv_at hl 5 rfl) ?_
    refine lv_lload_n hx hb dOperators_result_115 rfl (lv_at hl 1 rfl) ?_
    refine lv_lload_n hx hb dOperators_result_116 rfl (lv_at hl 2 rfl) ?_
    refine pw_call (va_runS (As := [.int a6, .int a7, .long a1, .long a3]) (rest := []) ⟨hx, hb, hml, hown, hts⟩ (qWhole_result l a6 a7 a1 a3) (va_cwS 4 hts (gS w_385 w_386 w_35 w_387) rfl rfl rfl (by decide +kernel) ⟨Nat.le_of_ble_eq_true rfl, Nat.le_of_ble_eq_true rfl⟩) ⟨pw_bT, fun U hU hW => ⟨rfl, trivial⟩⟩ rfl rfl hl.1 rfl (lv_room (Nat.le_of_ble_eq_true rfl)) dOperators_result_117 ⟨Nat.zero_le _, Nat.zero_le _⟩) ?_
    exact W.lret hx hb hr (fun t ht _ => ⟨by rw [(show fOperators_result_22 a0 a1 a3 a5 a6 a7 = fWhole_result a6 a7 a1 a3 by rw [fOperators_result_22, if_neg h1, if_neg h3, if_neg h5, if_neg h7, if_neg h9, if_pos h10])], ht⟩) (fun q h => nomatch h) dOperators_result_120
  by_cases h11 : a5 = 6
  · refine lv_tableIn (tgt := 121) hx hb dOperators_result_24 (by rw [h11]; decide) (by rw [h11]; decide) (off := 97) (by rw [h11]; rfl) (by decide) ?_
    refine lv_iload hx hb dOperators_result_121 (lv_at hl 4 rfl) ?_
    refine lv_iload hx hb dOperators_result_123 (lv_at hl 5 rfl) ?_
    refine pw_call (va_runS (As := [.int a7]) (rest := [.int a6]) ⟨hx, hb, hml, hown, hts⟩ (qFormat_of l ad td a7) (va_cwS 1 hts (gS w_302 w_135 w_44 w_136) rfl rfl rfl (by decide +kernel) ⟨Nat.le_of_ble_eq_true rfl, Nat.le_of_ble_eq_true rfl⟩) ⟨pw_bG, fun U hU hW => ⟨rfl, (hG.at hU hW)⟩⟩ rfl rfl hl.1 rfl (lv_room (Nat.le_of_ble_eq_true rfl)) dOperators_result_125 ⟨Nat.zero_le _, Nat.zero_le _⟩) ?_
    refine lv_lload_n hx hb dOperators_result_128 rfl (lv_at hl 1 rfl) ?_
    refine lv_lload_n hx hb dOperators_result_129 rfl (lv_at hl 2 rfl) ?_
    refine pw_call (va_runS (As := [.int a6, .ref (ad (fFormat_of a7)), .long a1, .long a3]) (rest := []) ⟨hx, hb, hml, hown, hts⟩ (qFloating_result l ad td a6 (fFormat_of a7) a1 a3 (rFormat_of a7)) (va_cwS 4 hts (gS w_399 w_400 w_48 w_401) rfl rfl rfl (by decide +kernel) ⟨Nat.le_of_ble_eq_true rfl, Nat.le_of_ble_eq_true rfl⟩) ⟨pw_bG, fun U hU hW => ⟨rfl, (hG.at hU hW)⟩⟩ rfl rfl hl.1 rfl (lv_room (Nat.le_of_ble_eq_true rfl)) dOperators_result_130 ⟨Nat.zero_le _, Nat.zero_le _⟩) ?_
    exact W.lret hx hb hr (fun t ht _ => ⟨by rw [(show fOperators_result_22 a0 a1 a3 a5 a6 a7 = fFloating_result a6 (fFormat_of a7) a1 a3 by rw [fOperators_result_22, if_neg h1, if_neg h3, if_neg h5, if_neg h7, if_neg h9, if_neg h10, if_pos h11])], ht⟩) (fun q h => nomatch h) dOperators_result_133
  by_cases h12 : a5 = 7
  · refine lv_tableIn (tgt := 121) hx hb dOperators_result_24 (by rw [h12]; decide) (by rw [h12]; decide) (off := 97) (by rw [h12]; rfl) (by decide) ?_
    refine lv_iload hx hb dOperators_result_121 (lv_at hl 4 rfl) ?_
    refine lv_iload hx hb dOperators_result_123 (lv_at hl 5 rfl) ?_
    refine pw_call (va_runS (As := [.int a7]) (rest := [.int a6]) ⟨hx, hb, hml, hown, hts⟩ (qFormat_of l ad td a7) (va_cwS 1 hts (gS w_302 w_135 w_44 w_136) rfl rfl rfl (by decide +kernel) ⟨Nat.le_of_ble_eq_true rfl, Nat.le_of_ble_eq_true rfl⟩) ⟨pw_bG, fun U hU hW => ⟨rfl, (hG.at hU hW)⟩⟩ rfl rfl hl.1 rfl (lv_room (Nat.le_of_ble_eq_true rfl)) dOperators_result_125 ⟨Nat.zero_le _, Nat.zero_le _⟩) ?_
    refine lv_lload_n hx hb dOperators_result_128 rfl (lv_at hl 1 rfl) ?_
    refine lv_lload_n hx hb dOperators_result_129 rfl (lv_at hl 2 rfl) ?_
    refine pw_call (va_runS (As := [.int a6, .ref (ad (fFormat_of a7)), .long a1, .long a3]) (rest := []) ⟨hx, hb, hml, hown, hts⟩ (qFloating_result l ad td a6 (fFormat_of a7) a1 a3 (rFormat_of a7)) (va_cwS 4 hts (gS w_399 w_400 w_48 w_401) rfl rfl rfl (by decide +kernel) ⟨Nat.le_of_ble_eq_true rfl, Nat.le_of_ble_eq_true rfl⟩) ⟨pw_bG, fun U hU hW => ⟨rfl, (hG.at hU hW)⟩⟩ rfl rfl hl.1 rfl (lv_room (Nat.le_of_ble_eq_true rfl)) dOperators_result_130 ⟨Nat.zero_le _, Nat.zero_le _⟩) ?_
    exact W.lret hx hb hr (fun t ht _ => ⟨by rw [(show fOperators_result_22 a0 a1 a3 a5 a6 a7 = fFloating_result a6 (fFormat_of a7) a1 a3 by rw [fOperators_result_22, if_neg h1, if_neg h3, if_neg h5, if_neg h7, if_neg h9, if_neg h10, if_neg h11, if_pos h12])], ht⟩) (fun q h => nomatch h) dOperators_result_133
  refine pw_tableD (tgt := 134) hx hb dOperators_result_24 ?_ (by decide) ?_
  · have th1 := lv_neT h1 (a := 0) (by decide)
    have th3 := lv_neT h3 (a := 1) (by decide)
    have th5 := lv_neT h5 (a := 2) (by decide)
    have th7 := lv_neT h7 (a := 3) (by decide)
    have th9 := lv_neT h9 (a := 4) (by decide)
    have th10 := lv_neT h10 (a := 5) (by decide)
    have th11 := lv_neT h11 (a := 6) (by decide)
    have th12 := lv_neT h12 (a := 7) (by decide)
    exact (show a5.toInt < 0 ∨ 7 < a5.toInt by omega).elim Or.inl (fun q => Or.inr (Or.inl q))
  refine lv_iload_n hx hb dOperators_result_134 rfl (lv_at hl 0 rfl) ?_
  refine lv_iload hx hb dOperators_result_135 (lv_at hl 5 rfl) ?_
  refine lv_iload_n hx hb dOperators_result_137 rfl (lv_at hl 0 rfl) ?_
  refine pw_call (va_runS (As := [.int a0]) (rest := [.int a7, .int a0]) ⟨hx, hb, hml, hown, hts⟩ (qOperators_resultType l ad td a0) (va_cwS 1 hts (gS w_303 w_114 w_40 w_115) rfl rfl rfl (by decide +kernel) ⟨Nat.le_of_ble_eq_true rfl, Nat.le_of_ble_eq_true rfl⟩) ⟨pw_bG, fun U hU hW => ⟨rfl, (hG.at hU hW)⟩⟩ rfl rfl hl.1 rfl (lv_room (Nat.le_of_ble_eq_true rfl)) dOperators_result_138 ⟨Nat.zero_le _, Nat.zero_le _⟩) ?_
  refine lv_lload_n hx hb dOperators_result_141 rfl (lv_at hl 1 rfl) ?_
  refine pw_call (va_runS (As := [.int a0, .int a7, .int (fOperators_resultType a0), .long a1]) (rest := []) ⟨hx, hb, hml, hown, hts⟩ (qConversions_result l ad td a0 a7 (fOperators_resultType a0) a1) (va_cwS 4 hts (gS w_460 w_461 w_42 w_462) rfl rfl rfl (by decide +kernel) ⟨Nat.le_of_ble_eq_true rfl, Nat.le_of_ble_eq_true rfl⟩) ⟨pw_bG, fun U hU hW => ⟨rfl, (hG.at hU hW)⟩⟩ rfl rfl hl.1 rfl (lv_room (Nat.le_of_ble_eq_true rfl)) dOperators_result_142 ⟨Nat.zero_le _, Nat.zero_le _⟩) ?_
  exact W.lret hx hb hr (fun t ht _ => ⟨by rw [(show fOperators_result_22 a0 a1 a3 a5 a6 a7 = fConversions_result a0 a7 (fOperators_resultType a0) a1 by rw [fOperators_result_22, if_neg h1, if_neg h3, if_neg h5, if_neg h7, if_neg h9, if_neg h10, if_neg h11, if_neg h12])], ht⟩) (fun q h => nomatch h) dOperators_result_145
set_option maxHeartbeats 4000000 in
set_option maxRecDepth 100000 in
theorem kOperators_result_16 {p : Program} {l : Launch} {e : Env} {s : State} {m : MethodId} {args : Array Value} {below : List Frame} {meth : Method} {c : Code} {ad td : Nat → Nat} (C : pw_C p s m args meth c cOperators_result 8 (some .long) "BitNumbers$Operators") (hG : pw_G (fun _ => False) ad td s s.heap) (a0 : Int32) (a1 : Int64) (a3 : Int64) (a5 : Int32) (a6 : Int32) (hp5 : vp_in a5 9) {ls : Array Slot} (hl : lv_has ls 8 [(0, .int a0), (1, .long a1), (3, .long a3), (5, .int a5), (6, .int a6)]) : W p l e rmOperators_result s m args below meth c s.heap [] 0 0 (MQ below (k2_QcV (.long (fOperators_result_16 a0 a1 a3 a5 a6))) args s 0 0 (fun _ => False)) (F0 m 16 ls []) := by
  obtain ⟨hx, hb, hr, hml, hown, hts, hlocks⟩ := id C
  have hS : va_S (fun _ => False) s.heap s.heap [] := va_S.rf
  refine lv_iload_n hx hb dOperators_result_16 rfl (lv_at hl 0 rfl) ?_
  refine pw_call (va_runS (As := [.int a0]) (rest := []) ⟨hx, hb, hml, hown, hts⟩ (qOperators_operandType l ad td a0) (va_cwS 1 hts (gS w_284 w_106 w_40 w_107) rfl rfl rfl (by decide +kernel) ⟨Nat.le_of_ble_eq_true rfl, Nat.le_of_ble_eq_true rfl⟩) ⟨pw_bG, fun U hU hW => ⟨rfl, (hG.at hU hW)⟩⟩ rfl rfl hl.1 rfl (lv_room (Nat.le_of_ble_eq_true rfl)) dOperators_result_17 ⟨Nat.zero_le _, Nat.zero_le _⟩) ?_
  refine lv_istore (lv' := [(7, .int (fOperators_operandType a0)), (0, .int a0), (1, .long a1), (3, .long a3), (5, .int a5), (6, .int a6)]) hx hb dOperators_result_20 hl (by decide) rfl (fun ls hl => ?_)
  rw [(show fOperators_result_16 a0 a1 a3 a5 a6 = fOperators_result_22 a0 a1 a3 a5 a6 (fOperators_operandType a0) by rw [fOperators_result_16])]
  exact kOperators_result_22 C hG a0 a1 a3 a5 a6 (fOperators_operandType a0) hp5 (lv_sub hl [1, 2, 3, 4, 5, 0] rfl)
set_option maxHeartbeats 4000000 in
set_option maxRecDepth 100000 in
theorem kOperators_result_6 {p : Program} {l : Launch} {e : Env} {s : State} {m : MethodId} {args : Array Value} {below : List Frame} {meth : Method} {c : Code} {ad td : Nat → Nat} (C : pw_C p s m args meth c cOperators_result 8 (some .long) "BitNumbers$Operators") (hG : pw_G (fun _ => False) ad td s s.heap) (a0 : Int32) (a1 : Int64) (a3 : Int64) (a5 : Int32) (hp5 : vp_in a5 9) {ls : Array Slot} (hl : lv_has ls 8 [(0, .int a0), (1, .long a1), (3, .long a3), (5, .int a5)]) : W p l e rmOperators_result s m args below meth c s.heap [] 0 0 (MQ below (k2_QcV (.long (fOperators_result_6 a0 a1 a3 a5))) args s 0 0 (fun _ => False)) (F0 m 6 ls []) := by
  obtain ⟨hx, hb, hr, hml, hown, hts, hlocks⟩ := id C
  have hS : va_S (fun _ => False) s.heap s.heap [] := va_S.rf
  refine lv_iload_n hx hb dOperators_result_6 rfl (lv_at hl 0 rfl) ?_
  refine va_gets hx hb hG.2.2.2.1 hS hown (hts _ w_95) (fun _ h9 => h9) dOperators_result_7 ?_
  refine lv_iload hx hb dOperators_result_10 (lv_at hl 3 rfl) ?_
  refine va_ti hx hb (hG.2.2.1 0 (by decide)) hS (hp5) rfl dOperators_result_12 ?_
  refine lv_isub hx hb dOperators_result_13 ?_
  refine lv_istore (lv' := [(6, .int (a0 - (tb 0 a5.toNatClampNeg))), (0, .int a0), (1, .long a1), (3, .long a3), (5, .int a5)]) hx hb dOperators_result_14 hl (by decide) rfl (fun ls hl => ?_)
  rw [(show fOperators_result_6 a0 a1 a3 a5 = fOperators_result_16 a0 a1 a3 a5 (a0 - (tb 0 a5.toNatClampNeg)) by rw [fOperators_result_6])]
  exact kOperators_result_16 C hG a0 a1 a3 a5 (a0 - (tb 0 a5.toNatClampNeg)) hp5 (lv_sub hl [1, 2, 3, 4, 0] rfl)
set_option maxHeartbeats 4000000 in
set_option maxRecDepth 100000 in
theorem kOperators_result_0 {p : Program} {l : Launch} {e : Env} {s : State} {m : MethodId} {args : Array Value} {below : List Frame} {meth : Method} {c : Code} {ad td : Nat → Nat} (C : pw_C p s m args meth c cOperators_result 8 (some .long) "BitNumbers$Operators") (hG : pw_G (fun _ => False) ad td s s.heap) (a0 : Int32) (a1 : Int64) (a3 : Int64) {ls : Array Slot} (hl : lv_has ls 8 [(0, .int a0), (1, .long a1), (3, .long a3)]) : W p l e rmOperators_result s m args below meth c s.heap [] 0 0 (MQ below (k2_QcV (.long (fOperators_result a0 a1 a3))) args s 0 0 (fun _ => False)) (F0 m 0 ls []) := by
  obtain ⟨hx, hb, hr, hml, hown, hts, hlocks⟩ := id C
  have hS : va_S (fun _ => False) s.heap s.heap [] := va_S.rf
  refine lv_iload_n hx hb dOperators_result_0 rfl (lv_at hl 0 rfl) ?_
  refine pw_call (va_runS (As := [.int a0]) (rest := []) ⟨hx, hb, hml, hown, hts⟩ (qOperators_family l ad td a0) (va_cwS 1 hts (gS w_100 w_101 w_40 w_102) rfl rfl rfl (by decide +kernel) ⟨Nat.le_of_ble_eq_true rfl, Nat.le_of_ble_eq_true rfl⟩) ⟨pw_bG, fun U hU hW => ⟨rfl, (hG.at hU hW)⟩⟩ rfl rfl hl.1 rfl (lv_room (Nat.le_of_ble_eq_true rfl)) dOperators_result_1 ⟨Nat.zero_le _, Nat.zero_le _⟩) ?_
  refine lv_istore (lv' := [(5, .int (fOperators_family a0)), (0, .int a0), (1, .long a1), (3, .long a3)]) hx hb dOperators_result_4 hl (by decide) rfl (fun ls hl => ?_)
  rw [(show fOperators_result a0 a1 a3 = fOperators_result_6 a0 a1 a3 (fOperators_family a0) by rw [fOperators_result])]
  exact kOperators_result_6 C hG a0 a1 a3 (fOperators_family a0) (fam_in a0) (lv_sub hl [1, 2, 3, 0] rfl)
set_option maxHeartbeats 4000000 in
set_option maxRecDepth 100000 in
theorem qOperators_result (l : Launch) (ad td : Nat → Nat) (a0 : Int32) (a1 : Int64) (a3 : Int64) : Met l yOperators_result wsOperators_result rmOperators_result (va_Pc [.int a0, .long a1, .long a3] (fun U => pw_G (fun _ => False) ad td U U.heap)) (k2_QcV (.long (fOperators_result a0 a1 a3))) 0 0 (fun _ => False) := by
  refine Met.ofW (cc := cOperators_result) (maxL := 8) (ret := (some .long)) (by decide) rfl ?_
  intro p e s m args below meth c s₁ B hml hv
  obtain ⟨rfl, hG⟩ := hv
  have hts0 := atoms_spec (ws := wsOperators_result) B.pre
  have hts := fun (w : Cond) (h : w ∈ aw) => hts0 w (List.mem_cons_of_mem _ h)
  have hown : s.vm.findClass "BitNumbers$Operators" = some m.cls := findClass_of_methodNamed B.named
  have hl := lv_entry ([.int a0, .long a1, .long a3]) (n := 8) (Nat.le_of_ble_eq_true rfl)
  rw [lg_entry_eq]
  generalize (lg_sl ([.int a0, .long a1, .long a3]) ++ List.replicate (8 - (lg_sl ([.int a0, .long a1, .long a3])).length) Slot.unset).toArray = ls at hl ⊢
  exact kOperators_result_0 ⟨B.exec, B.bytes, B.returns, hml, hown, hts, B.notSynchronized⟩ hG a0 a1 a3 hl

