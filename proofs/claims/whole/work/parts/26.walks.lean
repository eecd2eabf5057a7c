set_option maxHeartbeats 4000000 in
set_option maxRecDepth 100000 in
theorem kFloating_root_177 {p : Program} {l : Launch} {e : Env} {s : State} {m : MethodId} {args : Array Value} {below : List Frame} {meth : Method} {c : Code} {ad td : Nat → Nat} (C : pw_C p s m args meth c cFloating_root 13 (some .long) "BitNumbers$Floating") (hG : pw_G (fun _ => False) ad td s s.heap) (a10 : Int32) (s0 : Int64) (s1 : Int32) (s2 : Nat) (hzs1 : s1 = 0 ∨ s1 = 1) (hks2 : s2 < 2) {ls : Array Slot} (hl : lv_has ls 13 [(10, .int a10)]) : W p l e rmFloating_root s m args below meth c s.heap [] 0 0 (MQ below (k2_QcV (.long (fFloating_root_177 a10 s0 s1 s2))) args s 0 0 (fun _ => False)) (F0 m 177 ls [.long s0, .int s1, .ref (ad s2)]) := by
  obtain ⟨hx, hb, hr, hml, hown, hts, hlocks⟩ := id C
  have hS : va_S (fun _ => False) s.heap s.heap [] := va_S.rf
  refine lv_iload hx hb dFloating_root_177 (lv_at hl 0 rfl) ?_
  refine pw_call (va_runV (As := [.int s1, .long s0, .int a10]) (rest := []) ⟨hx, hb, hml, hown, hts⟩ (qFormat_rounded l ad td s2 s1 s0 a10 hks2) (cwV 3 hts (gV w_417 w_418 w_419 w_44 w_420) rfl rfl rfl (by decide +kernel) ⟨Nat.le_of_ble_eq_true rfl, Nat.le_of_ble_eq_true rfl⟩) ⟨pw_bG, va_recvE hG.1 hks2 hS, fun U hU hW => ⟨rfl, (hG.at hU hW)⟩⟩ rfl rfl hl.1 rfl (lv_room (Nat.le_of_ble_eq_true rfl)) dFloating_root_179 ⟨Nat.zero_le _, Nat.zero_le _⟩) ?_
  exact W.lret hx hb hr (fun t ht _ => ⟨by rw [(show fFloating_root_177 a10 s0 s1 s2 = fFormat_rounded s2 s1 s0 a10 by rw [fFloating_root_177])], ht⟩) (fun q h => nomatch h) dFloating_root_182
set_option maxHeartbeats 4000000 in
set_option maxRecDepth 100000 in
theorem kFloating_root_136 {p : Program} {l : Launch} {e : Env} {s : State} {m : MethodId} {args : Array Value} {below : List Frame} {meth : Method} {c : Code} {ad td : Nat → Nat} (C : pw_C p s m args meth c cFloating_root 13 (some .long) "BitNumbers$Floating") (hG : pw_G (fun _ => False) ad td s s.heap) (a0 : Nat) (a1 : Int64) (a3 : Int32) (a4 : Int64) (a6 : Int64) (a8 : Int64) (a10 : Int32) (hk0 : a0 < 2) {n : Nat} (K : Nat → Int64 → Int32 → Int64 → Int64 → Int64 → Int32 → Int64) (hI : pw_B a10 n 57) (hK : ∀ (b0 : Nat) (b1 : Int64) (b3 : Int32) (b4 : Int64) (b6 : Int64) (b8 : Int64) (b10 : Int32) (hk0 : b0 < 2) (hI : pw_I b10 n 57) {ls : Array Slot} (hl : lv_has ls 13 [(0, .ref (ad b0)), (1, .long b1), (3, .int b3), (4, .long b4), (6, .long b6), (8, .long b8), (10, .int b10)]), W p l e rmFloating_root s m args below meth c s.heap [] 0 0 (MQ below (k2_QcV (.long (K b0 b1 b3 b4 b6 b8 b10))) args s 0 0 (fun _ => False)) (F0 m 72 ls [])) {ls : Array Slot} (hl : lv_has ls 13 [(0, .ref (ad a0)), (1, .long a1), (3, .int a3), (4, .long a4), (6, .long a6), (8, .long a8), (10, .int a10)]) : W p l e rmFloating_root s m args below meth c s.heap [] 0 0 (MQ below (k2_QcV (.long (fFloating_root_136 K a0 a1 a3 a4 a6 a8 a10))) args s 0 0 (fun _ => False)) (F0 m 136 ls []) := by
  obtain ⟨hx, hb, hr, hml, hown, hts, hlocks⟩ := id C
  have hS : va_S (fun _ => False) s.heap s.heap [] := va_S.rf
  refine lv_iinc (v := a10 + 1) (lv' := [(10, .int (a10 + 1)), (0, .ref (ad a0)), (1, .long a1), (3, .int a3), (4, .long a4), (6, .long a6), (8, .long a8)]) hx hb dFloating_root_136 hl (k := 6) rfl rfl (by decide) rfl (fun ls hl => ?_)
  refine lv_goto (tgt := 72) hx hb dFloating_root_139 (by decide) ?_
  rw [(show fFloating_root_136 K a0 a1 a3 a4 a6 a8 a10 = K a0 a1 a3 a4 a6 a8 (a10 + 1) by rw [fFloating_root_136])]
  exact hK a0 a1 a3 a4 a6 a8 (a10 + 1) hk0 (pw_B_next hI) (lv_sub hl [1, 2, 3, 4, 5, 6, 0] rfl)
set_option maxHeartbeats 4000000 in
set_option maxRecDepth 100000 in
theorem kFloating_root_130 {p : Program} {l : Launch} {e : Env} {s : State} {m : MethodId} {args : Array Value} {below : List Frame} {meth : Method} {c : Code} {ad td : Nat → Nat} (C : pw_C p s m args meth c cFloating_root 13 (some .long) "BitNumbers$Floating") (hG : pw_G (fun _ => False) ad td s s.heap) (a0 : Nat) (a1 : Int64) (a3 : Int32) (a4 : Int64) (a6 : Int64) (a8 : Int64) (a10 : Int32) (hk0 : a0 < 2) {n : Nat} (K : Nat → Int64 → Int32 → Int64 → Int64 → Int64 → Int32 → Int64) (hI : pw_B a10 n 57) (hK : ∀ (b0 : Nat) (b1 : Int64) (b3 : Int32) (b4 : Int64) (b6 : Int64) (b8 : Int64) (b10 : Int32) (hk0 : b0 < 2) (hI : pw_I b10 n 57) {ls : Array Slot} (hl : lv_has ls 13 [(0, .ref (ad b0)), (1, .long b1), (3, .int b3), (4, .long b4), (6, .long b6), (8, .long b8), (10, .int b10)]), W p l e rmFloating_root s m args below meth c s.heap [] 0 0 (MQ below (k2_QcV (.long (K b0 b1 b3 b4 b6 b8 b10))) args s 0 0 (fun _ => False)) (F0 m 72 ls [])) {ls : Array Slot} (hl : lv_has ls 13 [(0, .ref (ad a0)), (1, .long a1), (3, .int a3), (4, .long a4), (6, .long a6), (8, .long a8), (10, .int a10)]) : W p l e rmFloating_root s m args below meth c s.heap [] 0 0 (MQ below (k2_QcV (.long (fFloating_root_130 K a0 a1 a3 a4 a6 a8 a10))) args s 0 0 (fun _ => False)) (F0 m 130 ls []) := by
  obtain ⟨hx, hb, hr, hml, hown, hts, hlocks⟩ := id C
  have hS : va_S (fun _ => False) s.heap s.heap [] := va_S.rf
  refine lv_lload hx hb dFloating_root_130 (lv_at hl 4 rfl) ?_
  refine lv_lconst (v := 1) hx hb dFloating_root_132 (by decide) ?_
  refine lv_lor hx hb dFloating_root_133 ?_
  refine lv_lstore (lv' := [(6, .long (a6 ||| 1)), (0, .ref (ad a0)), (1, .long a1), (3, .int a3), (4, .long a4), (8, .long a8), (10, .int a10)]) hx hb dFloating_root_134 hl (by decide) rfl (fun ls hl => ?_)
  rw [(show fFloating_root_130 K a0 a1 a3 a4 a6 a8 a10 = fFloating_root_136 K a0 a1 a3 a4 (a6 ||| 1) a8 a10 by rw [fFloating_root_130])]
  exact kFloating_root_136 C hG a0 a1 a3 a4 (a6 ||| 1) a8 a10 hk0 K hI hK (lv_sub hl [1, 2, 3, 4, 0, 5, 6] rfl)
set_option maxHeartbeats 4000000 in
set_option maxRecDepth 100000 in
theorem kFloating_root_115 {p : Program} {l : Launch} {e : Env} {s : State} {m : MethodId} {args : Array Value} {below : List Frame} {meth : Method} {c : Code} {ad td : Nat → Nat} (C : pw_C p s m args meth c cFloating_root 13 (some .long) "BitNumbers$Floating") (hG : pw_G (fun _ => False) ad td s s.heap) (a0 : Nat) (a1 : Int64) (a3 : Int32) (a4 : Int64) (a6 : Int64) (a8 : Int64) (a10 : Int32) (a11 : Int64) (hk0 : a0 < 2) {n : Nat} (K : Nat → Int64 → Int32 → Int64 → Int64 → Int64 → Int32 → Int64) (hI : pw_B a10 n 57) (hK : ∀ (b0 : Nat) (b1 : Int64) (b3 : Int32) (b4 : Int64) (b6 : Int64) (b8 : Int64) (b10 : Int32) (hk0 : b0 < 2) (hI : pw_I b10 n 57) {ls : Array Slot} (hl : lv_has ls 13 [(0, .ref (ad b0)), (1, .long b1), (3, .int b3), (4, .long b4), (6, .long b6), (8, .long b8), (10, .int b10)]), W p l e rmFloating_root s m args below meth c s.heap [] 0 0 (MQ below (k2_QcV (.long (K b0 b1 b3 b4 b6 b8 b10))) args s 0 0 (fun _ => False)) (F0 m 72 ls [])) {ls : Array Slot} (hl : lv_has ls 13 [(0, .ref (ad a0)), (1, .long a1), (3, .int a3), (4, .long a4), (6, .long a6), (8, .long a8), (10, .int a10), (11, .long a11)]) : W p l e rmFloating_root s m args below meth c s.heap [] 0 0 (MQ below (k2_QcV (.long (fFloating_root_115 K a0 a1 a3 a4 a6 a8 a10 a11))) args s 0 0 (fun _ => False)) (F0 m 115 ls []) := by
  obtain ⟨hx, hb, hr, hml, hown, hts, hlocks⟩ := id C
  have hS : va_S (fun _ => False) s.heap s.heap [] := va_S.rf
  refine lv_lload hx hb dFloating_root_115 (lv_at hl 5 rfl) ?_
  refine lv_lload hx hb dFloating_root_117 (lv_at hl 7 rfl) ?_
  refine W.lcmp hx hb dFloating_root_119 ?_
  refine lv_if_lt (tgt := 136) hx hb dFloating_root_120 (by decide) (fun h1 => ?_) (fun h1 => ?_)
  · have h1 : a8 < a11 := (lg_cmp_lt _ _).mp h1
    rw [(show fFloating_root_115 K a0 a1 a3 a4 a6 a8 a10 a11 = fFloating_root_136 K a0 a1 a3 a4 a6 a8 a10 by rw [fFloating_root_115, if_pos h1])]
    exact kFloating_root_136 C hG a0 a1 a3 a4 a6 a8 a10 hk0 K hI hK (lv_sub hl [0, 1, 2, 3, 4, 5, 6] rfl)
  · have h1 : ¬ (a8 < a11) := fun w => h1 ((lg_cmp_lt _ _).mpr w)
    refine lv_lload hx hb dFloating_root_123 (lv_at hl 5 rfl) ?_
    refine lv_lload hx hb dFloating_root_125 (lv_at hl 7 rfl) ?_
    refine lv_lsub hx hb dFloating_root_127 ?_
    refine lv_lstore (lv' := [(8, .long (a8 - a11)), (0, .ref (ad a0)), (1, .long a1), (3, .int a3), (4, .long a4), (6, .long a6), (10, .int a10), (11, .long a11)]) hx hb dFloating_root_128 hl (by decide) rfl (fun ls hl => ?_)
    rw [(show fFloating_root_115 K a0 a1 a3 a4 a6 a8 a10 a11 = fFloating_root_130 K a0 a1 a3 a4 a6 (a8 - a11) a10 by rw [fFloating_root_115, if_neg h1])]
    exact kFloating_root_130 C hG a0 a1 a3 a4 a6 (a8 - a11) a10 hk0 K hI hK (lv_sub hl [1, 2, 3, 4, 5, 0, 6] rfl)
set_option maxHeartbeats 4000000 in
set_option maxRecDepth 100000 in
theorem kFloating_root_109 {p : Program} {l : Launch} {e : Env} {s : State} {m : MethodId} {args : Array Value} {below : List Frame} {meth : Method} {c : Code} {ad td : Nat → Nat} (C : pw_C p s m args meth c cFloating_root 13 (some .long) "BitNumbers$Floating") (hG : pw_G (fun _ => False) ad td s s.heap) (a0 : Nat) (a1 : Int64) (a3 : Int32) (a4 : Int64) (a6 : Int64) (a8 : Int64) (a10 : Int32) (a11 : Int64) (hk0 : a0 < 2) {n : Nat} (K : Nat → Int64 → Int32 → Int64 → Int64 → Int64 → Int32 → Int64) (hI : pw_B a10 n 57) (hK : ∀ (b0 : Nat) (b1 : Int64) (b3 : Int32) (b4 : Int64) (b6 : Int64) (b8 : Int64) (b10 : Int32) (hk0 : b0 < 2) (hI : pw_I b10 n 57) {ls : Array Slot} (hl : lv_has ls 13 [(0, .ref (ad b0)), (1, .long b1), (3, .int b3), (4, .long b4), (6, .long b6), (8, .long b8), (10, .int b10)]), W p l e rmFloating_root s m args below meth c s.heap [] 0 0 (MQ below (k2_QcV (.long (K b0 b1 b3 b4 b6 b8 b10))) args s 0 0 (fun _ => False)) (F0 m 72 ls [])) {ls : Array Slot} (hl : lv_has ls 13 [(0, .ref (ad a0)), (1, .long a1), (3, .int a3), (4, .long a4), (6, .long a6), (8, .long a8), (10, .int a10), (11, .long a11)]) : W p l e rmFloating_root s m args below meth c s.heap [] 0 0 (MQ below (k2_QcV (.long (fFloating_root_109 K a0 a1 a3 a4 a6 a8 a10 a11))) args s 0 0 (fun _ => False)) (F0 m 109 ls []) := by
  obtain ⟨hx, hb, hr, hml, hown, hts, hlocks⟩ := id C
  have hS : va_S (fun _ => False) s.heap s.heap [] := va_S.rf
  refine lv_lload hx hb dFloating_root_109 (lv_at hl 4 rfl) ?_
  refine lv_iconst (v := 1) hx hb dFloating_root_111 (by decide) ?_
  refine lv_lshl (v := bn_shl a6 1) hx hb dFloating_root_112 rfl ?_
  refine lv_lstore (lv' := [(6, .long (bn_shl a6 1)), (0, .ref (ad a0)), (1, .long a1), (3, .int a3), (4, .long a4), (8, .long a8), (10, .int a10), (11, .long a11)]) hx hb dFloating_root_113 hl (by decide) rfl (fun ls hl => ?_)
  rw [(show fFloating_root_109 K a0 a1 a3 a4 a6 a8 a10 a11 = fFloating_root_115 K a0 a1 a3 a4 (bn_shl a6 1) a8 a10 a11 by rw [fFloating_root_109])]
  exact kFloating_root_115 C hG a0 a1 a3 a4 (bn_shl a6 1) a8 a10 a11 hk0 K hI hK (lv_sub hl [1, 2, 3, 4, 0, 5, 6, 7] rfl)
set_option maxHeartbeats 4000000 in
set_option maxRecDepth 100000 in
theorem kFloating_root_101 {p : Program} {l : Launch} {e : Env} {s : State} {m : MethodId} {args : Array Value} {below : List Frame} {meth : Method} {c : Code} {ad td : Nat → Nat} (C : pw_C p s m args meth c cFloating_root 13 (some .long) "BitNumbers$Floating") (hG : pw_G (fun _ => False) ad td s s.heap) (a0 : Nat) (a1 : Int64) (a3 : Int32) (a4 : Int64) (a6 : Int64) (a8 : Int64) (a10 : Int32) (hk0 : a0 < 2) {n : Nat} (K : Nat → Int64 → Int32 → Int64 → Int64 → Int64 → Int32 → Int64) (hI : pw_B a10 n 57) (hK : ∀ (b0 : Nat) (b1 : Int64) (b3 : Int32) (b4 : Int64) (b6 : Int64) (b8 : Int64) (b10 : Int32) (hk0 : b0 < 2) (hI : pw_I b10 n 57) {ls : Array Slot} (hl : lv_has ls 13 [(0, .ref (ad b0)), (1, .long b1), (3, .int b3), (4, .long b4), (6, .long b6), (8, .long b8), (10, .int b10)]), W p l e rmFloating_root s m args below meth c s.heap [] 0 0 (MQ below (k2_QcV (.long (K b0 b1 b3 b4 b6 b8 b10))) args s 0 0 (fun _ => False)) (F0 m 72 ls [])) {ls : Array Slot} (hl : lv_has ls 13 [(0, .ref (ad a0)), (1, .long a1), (3, .int a3), (4, .long a4), (6, .long a6), (8, .long a8), (10, .int a10)]) : W p l e rmFloating_root s m args below meth c s.heap [] 0 0 (MQ below (k2_QcV (.long (fFloating_root_101 K a0 a1 a3 a4 a6 a8 a10))) args s 0 0 (fun _ => False)) (F0 m 101 ls []) := by
  obtain ⟨hx, hb, hr, hml, hown, hts, hlocks⟩ := id C
  have hS : va_S (fun _ => False) s.heap s.heap [] := va_S.rf
  refine lv_lload hx hb dFloating_root_101 (lv_at hl 4 rfl) ?_
  refine lv_iconst (v := 2) hx hb dFloating_root_103 (by decide) ?_
  refine lv_lshl (v := bn_shl a6 2) hx hb dFloating_root_104 rfl ?_
  refine lv_lconst (v := 1) hx hb dFloating_root_105 (by decide) ?_
  refine lv_lor hx hb dFloating_root_106 ?_
  refine lv_lstore (lv' := [(11, .long ((bn_shl a6 2) ||| 1)), (0, .ref (ad a0)), (1, .long a1), (3, .int a3), (4, .long a4), (6, .long a6), (8, .long a8), (10, .int a10)]) hx hb dFloating_root_107 hl (by decide) rfl (fun ls hl => ?_)
  rw [(show fFloating_root_101 K a0 a1 a3 a4 a6 a8 a10 = fFloating_root_109 K a0 a1 a3 a4 a6 a8 a10 ((bn_shl a6 2) ||| 1) by rw [fFloating_root_101])]
  exact kFloating_root_109 C hG a0 a1 a3 a4 a6 a8 a10 ((bn_shl a6 2) ||| 1) hk0 K hI hK (lv_sub hl [1, 2, 3, 4, 5, 6, 7, 0] rfl)
set_option maxHeartbeats 4000000 in
set_option maxRecDepth 100000 in
theorem kFloating_root_95 {p : Program} {l : Launch} {e : Env} {s : State} {m : MethodId} {args : Array Value} {below : List Frame} {meth : Method} {c : Code} {ad td : Nat → Nat} (C : pw_C p s m args meth c cFloating_root 13 (some .long) "BitNumbers$Floating") (hG : pw_G (fun _ => False) ad td s s.heap) (a0 : Nat) (a1 : Int64) (a3 : Int32) (a4 : Int64) (a6 : Int64) (a8 : Int64) (a10 : Int32) (hk0 : a0 < 2) {n : Nat} (K : Nat → Int64 → Int32 → Int64 → Int64 → Int64 → Int32 → Int64) (hI : pw_B a10 n 57) (hK : ∀ (b0 : Nat) (b1 : Int64) (b3 : Int32) (b4 : Int64) (b6 : Int64) (b8 : Int64) (b10 : Int32) (hk0 : b0 < 2) (hI : pw_I b10 n 57) {ls : Array Slot} (hl : lv_has ls 13 [(0, .ref (ad b0)), (1, .long b1), (3, .int b3), (4, .long b4), (6, .long b6), (8, .long b8), (10, .int b10)]), W p l e rmFloating_root s m args below meth c s.heap [] 0 0 (MQ below (k2_QcV (.long (K b0 b1 b3 b4 b6 b8 b10))) args s 0 0 (fun _ => False)) (F0 m 72 ls [])) {ls : Array Slot} (hl : lv_has ls 13 [(0, .ref (ad a0)), (1, .long a1), (3, .int a3), (4, .long a4), (6, .long a6), (8, .long a8), (10, .int a10)]) : W p l e rmFloating_root s m args below meth c s.heap [] 0 0 (MQ below (k2_QcV (.long (fFloating_root_95 K a0 a1 a3 a4 a6 a8 a10))) args s 0 0 (fun _ => False)) (F0 m 95 ls []) := by
  obtain ⟨hx, hb, hr, hml, hown, hts, hlocks⟩ := id C
  have hS : va_S (fun _ => False) s.heap s.heap [] := va_S.rf
  refine lv_lload hx hb dFloating_root_95 (lv_at hl 3 rfl) ?_
  refine lv_iconst (v := 2) hx hb dFloating_root_97 (by decide) ?_
  refine lv_lshl (v := bn_shl a4 2) hx hb dFloating_root_98 rfl ?_
  refine lv_lstore (lv' := [(4, .long (bn_shl a4 2)), (0, .ref (ad a0)), (1, .long a1), (3, .int a3), (6, .long a6), (8, .long a8), (10, .int a10)]) hx hb dFloating_root_99 hl (by decide) rfl (fun ls hl => ?_)
  rw [(show fFloating_root_95 K a0 a1 a3 a4 a6 a8 a10 = fFloating_root_101 K a0 a1 a3 (bn_shl a4 2) a6 a8 a10 by rw [fFloating_root_95])]
  exact kFloating_root_101 C hG a0 a1 a3 (bn_shl a4 2) a6 a8 a10 hk0 K hI hK (lv_sub hl [1, 2, 3, 0, 4, 5, 6] rfl)
set_option maxHeartbeats 4000000 in
set_option maxRecDepth 100000 in
theorem kFloating_root_72 {p : Program} {l : Launch} {e : Env} {s : State} {m : MethodId} {args : Array Value} {below : List Frame} {meth : Method} {c : Code} {ad td : Nat → Nat} (C : pw_C p s m args meth c cFloating_root 13 (some .long) "BitNumbers$Floating") (hG : pw_G (fun _ => False) ad td s s.heap) : ∀ (n : Nat) (a0 : Nat) (a1 : Int64) (a3 : Int32) (a4 : Int64) (a6 : Int64) (a8 : Int64) (a10 : Int32) (hk0 : a0 < 2) (hI : pw_I a10 n 57) {ls : Array Slot} (hl : lv_has ls 13 [(0, .ref (ad a0)), (1, .long a1), (3, .int a3), (4, .long a4), (6, .long a6), (8, .long a8), (10, .int a10)]), W p l e rmFloating_root s m args below meth c s.heap [] 0 0 (MQ below (k2_QcV (.long (fFloating_root_72 n a0 a1 a3 a4 a6 a8 a10))) args s 0 0 (fun _ => False)) (F0 m 72 ls []) := by
  obtain ⟨hx, hb, hr, hml, hown, hts, hlocks⟩ := id C
  have hS : va_S (fun _ => False) s.heap s.heap [] := va_S.rf
  intro n
  induction n with
  | zero =>
    intro a0 a1 a3 a4 a6 a8 a10 hk0 hI
    exact absurd hI pw_I_zero
  | succ n ih =>
    intro a0 a1 a3 a4 a6 a8 a10 hk0 hI ls hl
    refine lv_iload hx hb dFloating_root_72 (lv_at hl 6 rfl) ?_
    refine lv_bipush (v := 57) hx hb dFloating_root_74 (by decide) ?_
    refine lv_icmp_ge (tgt := 142) hx hb dFloating_root_76 (by decide) (fun h1 => ?_) (fun h1 => ?_)
    · refine lv_aload_n hx hb dFloating_root_142 rfl (lv_at hl 0 rfl) ?_
      refine lv_lload_n hx hb dFloating_root_143 rfl (lv_at hl 1 rfl) ?_
      refine pw_call (va_runV (As := [.long a1]) (rest := []) ⟨hx, hb, hml, hown, hts⟩ (qFormat_scale l ad td a0 a1 hk0) (cwV 1 hts (gV w_412 w_324 w_325 w_44 w_326) rfl rfl rfl (by decide +kernel) ⟨Nat.le_of_ble_eq_true rfl, Nat.le_of_ble_eq_true rfl⟩) ⟨pw_bG, va_recvE hG.1 hk0 hS, fun U hU hW => ⟨rfl, (hG.at hU hW)⟩⟩ rfl rfl hl.1 rfl (lv_room (Nat.le_of_ble_eq_true rfl)) dFloating_root_144 ⟨Nat.zero_le _, Nat.zero_le _⟩) ?_
      refine lv_iload_n hx hb dFloating_root_147 rfl (lv_at hl 2 rfl) ?_
      refine lv_isub hx hb dFloating_root_148 ?_
      refine lv_iconst (v := 2) hx hb dFloating_root_149 (by decide) ?_
      refine lv_idiv hx hb dFloating_root_150 (by decide) ?_
      refine lv_bipush (v := 31) hx hb dFloating_root_151 (by decide) ?_
      refine lv_iadd hx hb dFloating_root_153 ?_
      refine lv_bipush (v := 57) hx hb dFloating_root_154 (by decide) ?_
      refine lv_isub hx hb dFloating_root_156 ?_
      refine lv_istore (lv' := [(10, .int (((((fFormat_scale a0 a1) - a3) / 2) + 31) - 57)), (0, .ref (ad a0)), (1, .long a1), (3, .int a3), (4, .long a4), (6, .long a6), (8, .long a8)]) hx hb dFloating_root_157 hl (by decide) rfl (fun ls hl => ?_)
      refine lv_aload_n hx hb dFloating_root_159 rfl (lv_at hl 1 rfl) ?_
      refine lv_iconst (v := 0) hx hb dFloating_root_160 (by decide) ?_
      refine lv_lload hx hb dFloating_root_161 (lv_at hl 6 rfl) ?_
      refine lv_lconst (v := 0) hx hb dFloating_root_163 (by decide) ?_
      refine W.lcmp hx hb dFloating_root_164 ?_
      refine lv_if_ne (tgt := 173) hx hb dFloating_root_165 (by decide) (fun h2 => ?_) (fun h2 => ?_)
      · have h2 : ¬ (a8 = 0) := fun w => h2 ((lg_cmp_eq _ _).mpr w)
        refine lv_lload hx hb dFloating_root_173 (lv_at hl 5 rfl) ?_
        refine lv_lconst (v := 1) hx hb dFloating_root_175 (by decide) ?_
        refine lv_lor hx hb dFloating_root_176 ?_
        rw [(show fFloating_root_72 (n + 1) a0 a1 a3 a4 a6 a8 a10 = fFloating_root_177 (((((fFormat_scale a0 a1) - a3) / 2) + 31) - 57) (a6 ||| 1) 0 a0 by rw [fFloating_root_72, if_pos h1, if_neg h2])]
        exact kFloating_root_177 C hG (((((fFormat_scale a0 a1) - a3) / 2) + 31) - 57) (a6 ||| 1) 0 a0 (Or.inl rfl) hk0 (lv_sub hl [0] rfl)
      · have h2 : a8 = 0 := (lg_cmp_eq _ _).mp h2
        refine lv_lload hx hb dFloating_root_168 (lv_at hl 5 rfl) ?_
        refine lv_goto (tgt := 177) hx hb dFloating_root_170 (by decide) ?_
        rw [(show fFloating_root_72 (n + 1) a0 a1 a3 a4 a6 a8 a10 = fFloating_root_177 (((((fFormat_scale a0 a1) - a3) / 2) + 31) - 57) a6 0 a0 by rw [fFloating_root_72, if_pos h1, if_pos h2])]
        exact kFloating_root_177 C hG (((((fFormat_scale a0 a1) - a3) / 2) + 31) - 57) a6 0 a0 (Or.inl rfl) hk0 (lv_sub hl [0] rfl)
    · refine lv_lload hx hb dFloating_root_79 (lv_at hl 5 rfl) ?_
      refine lv_iconst (v := 2) hx hb dFloating_root_81 (by decide) ?_
      refine lv_lshl (v := bn_shl a8 2) hx hb dFloating_root_82 rfl ?_
      refine lv_lload hx hb dFloating_root_83 (lv_at hl 3 rfl) ?_
      refine lv_bipush (v := 60) hx hb dFloating_root_85 (by decide) ?_
      refine lv_lushr (v := bn_shr a4 60) hx hb dFloating_root_87 rfl ?_
      refine lv_ldc2 hx hb hown (hts _ w_436) dFloating_root_88 ?_
      refine lv_land hx hb dFloating_root_91 ?_
      refine lv_lor hx hb dFloating_root_92 ?_
      refine lv_lstore (lv' := [(8, .long ((bn_shl a8 2) ||| ((bn_shr a4 60) &&& 3))), (0, .ref (ad a0)), (1, .long a1), (3, .int a3), (4, .long a4), (6, .long a6), (10, .int a10)]) hx hb dFloating_root_93 hl (by decide) rfl (fun ls hl => ?_)
      rw [(show fFloating_root_72 (n + 1) a0 a1 a3 a4 a6 a8 a10 = fFloating_root_95 (fFloating_root_72 n) a0 a1 a3 a4 a6 ((bn_shl a8 2) ||| ((bn_shr a4 60) &&& 3)) a10 by rw [fFloating_root_72, if_neg h1])]
      exact kFloating_root_95 C hG a0 a1 a3 a4 a6 ((bn_shl a8 2) ||| ((bn_shr a4 60) &&& 3)) a10 hk0 (fFloating_root_72 n) (pw_I_body hI h1) (fun b0 b1 b3 b4 b6 b8 b10 k0 hI _ hl => ih b0 b1 b3 b4 b6 b8 b10 k0 hI hl) (lv_sub hl [1, 2, 3, 4, 5, 0, 6] rfl)
set_option maxHeartbeats 4000000 in
set_option maxRecDepth 100000 in
theorem kFloating_root_63 {p : Program} {l : Launch} {e : Env} {s : State} {m : MethodId} {args : Array Value} {below : List Frame} {meth : Method} {c : Code} {ad td : Nat → Nat} (C : pw_C p s m args meth c cFloating_root 13 (some .long) "BitNumbers$Floating") (hG : pw_G (fun _ => False) ad td s s.heap) (a0 : Nat) (a1 : Int64) (a3 : Int32) (a4 : Int64) (hk0 : a0 < 2) {ls : Array Slot} (hl : lv_has ls 13 [(0, .ref (ad a0)), (1, .long a1), (3, .int a3), (4, .long a4)]) : W p l e rmFloating_root s m args below meth c s.heap [] 0 0 (MQ below (k2_QcV (.long (fFloating_root_63 a0 a1 a3 a4))) args s 0 0 (fun _ => False)) (F0 m 63 ls []) := by
  obtain ⟨hx, hb, hr, hml, hown, hts, hlocks⟩ := id C
  have hS : va_S (fun _ => False) s.heap s.heap [] := va_S.rf
  refine lv_lconst (v := 0) hx hb dFloating_root_63 (by decide) ?_
  refine lv_lstore (lv' := [(6, .long 0), (0, .ref (ad a0)), (1, .long a1), (3, .int a3), (4, .long a4)]) hx hb dFloating_root_64 hl (by decide) rfl (fun ls hl => ?_)
  refine lv_lconst (v := 0) hx hb dFloating_root_66 (by decide) ?_
  refine lv_lstore (lv' := [(8, .long 0), (6, .long 0), (0, .ref (ad a0)), (1, .long a1), (3, .int a3), (4, .long a4)]) hx hb dFloating_root_67 hl (by decide) rfl (fun ls hl => ?_)
  refine lv_iconst (v := 0) hx hb dFloating_root_69 (by decide) ?_
  refine lv_istore (lv' := [(10, .int 0), (8, .long 0), (6, .long 0), (0, .ref (ad a0)), (1, .long a1), (3, .int a3), (4, .long a4)]) hx hb dFloating_root_70 hl (by decide) rfl (fun ls hl => ?_)
  rw [(show fFloating_root_63 a0 a1 a3 a4 = fFloating_root_72 58 a0 a1 a3 a4 0 0 0 by rw [fFloating_root_63])]
  exact kFloating_root_72 C hG 58 a0 a1 a3 a4 0 0 0 hk0 (⟨0, by decide, by decide, by decide⟩ : pw_I 0 58 57) (lv_sub hl [3, 4, 5, 6, 2, 1, 0] rfl)
set_option maxHeartbeats 4000000 in
set_option maxRecDepth 100000 in
theorem kFloating_root_54 {p : Program} {l : Launch} {e : Env} {s : State} {m : MethodId} {args : Array Value} {below : List Frame} {meth : Method} {c : Code} {ad td : Nat → Nat} (C : pw_C p s m args meth c cFloating_root 13 (some .long) "BitNumbers$Floating") (hG : pw_G (fun _ => False) ad td s s.heap) (a0 : Nat) (a1 : Int64) (a3 : Int32) (hk0 : a0 < 2) {ls : Array Slot} (hl : lv_has ls 13 [(0, .ref (ad a0)), (1, .long a1), (3, .int a3)]) : W p l e rmFloating_root s m args below meth c s.heap [] 0 0 (MQ below (k2_QcV (.long (fFloating_root_54 a0 a1 a3))) args s 0 0 (fun _ => False)) (F0 m 54 ls []) := by
  obtain ⟨hx, hb, hr, hml, hown, hts, hlocks⟩ := id C
  have hS : va_S (fun _ => False) s.heap s.heap [] := va_S.rf
  refine lv_aload_n hx hb dFloating_root_54 rfl (lv_at hl 0 rfl) ?_
  refine lv_lload_n hx hb dFloating_root_55 rfl (lv_at hl 1 rfl) ?_
  refine pw_call (va_runV (As := [.long a1]) (rest := []) ⟨hx, hb, hml, hown, hts⟩ (qFormat_significand l ad td a0 a1 hk0) (cwV 1 hts (gV w_413 w_320 w_321 w_44 w_322) rfl rfl rfl (by decide +kernel) ⟨Nat.le_of_ble_eq_true rfl, Nat.le_of_ble_eq_true rfl⟩) ⟨pw_bG, va_recvE hG.1 hk0 hS, fun U hU hW => ⟨rfl, (hG.at hU hW)⟩⟩ rfl rfl hl.1 rfl (lv_room (Nat.le_of_ble_eq_true rfl)) dFloating_root_56 ⟨Nat.zero_le _, Nat.zero_le _⟩) ?_
  refine lv_iload_n hx hb dFloating_root_59 rfl (lv_at hl 2 rfl) ?_
  refine lv_lshl (v := bn_shl (fFormat_significand a0 a1) a3) hx hb dFloating_root_60 rfl ?_
  refine lv_lstore (lv' := [(4, .long (bn_shl (fFormat_significand a0 a1) a3)), (0, .ref (ad a0)), (1, .long a1), (3, .int a3)]) hx hb dFloating_root_61 hl (by decide) rfl (fun ls hl => ?_)
  rw [(show fFloating_root_54 a0 a1 a3 = fFloating_root_63 a0 a1 a3 (bn_shl (fFormat_significand a0 a1) a3) by rw [fFloating_root_54])]
  exact kFloating_root_63 C hG a0 a1 a3 (bn_shl (fFormat_significand a0 a1) a3) hk0 (lv_sub hl [1, 2, 3, 0] rfl)
set_option maxHeartbeats 4000000 in
set_option maxRecDepth 100000 in
theorem kFloating_root_42 {p : Program} {l : Launch} {e : Env} {s : State} {m : MethodId} {args : Array Value} {below : List Frame} {meth : Method} {c : Code} {ad td : Nat → Nat} (C : pw_C p s m args meth c cFloating_root 13 (some .long) "BitNumbers$Floating") (hG : pw_G (fun _ => False) ad td s s.heap) (a0 : Nat) (a1 : Int64) (a3 : Int32) (hk0 : a0 < 2) {ls : Array Slot} (hl : lv_has ls 13 [(0, .ref (ad a0)), (1, .long a1), (3, .int a3)]) : W p l e rmFloating_root s m args below meth c s.heap [] 0 0 (MQ below (k2_QcV (.long (fFloating_root_42 a0 a1 a3))) args s 0 0 (fun _ => False)) (F0 m 42 ls []) := by
  obtain ⟨hx, hb, hr, hml, hown, hts, hlocks⟩ := id C
  have hS : va_S (fun _ => False) s.heap s.heap [] := va_S.rf
  refine lv_iload_n hx hb dFloating_root_42 rfl (lv_at hl 2 rfl) ?_
  refine lv_aload_n hx hb dFloating_root_43 rfl (lv_at hl 0 rfl) ?_
  refine lv_lload_n hx hb dFloating_root_44 rfl (lv_at hl 1 rfl) ?_
  refine pw_call (va_runV (As := [.long a1]) (rest := [.int a3]) ⟨hx, hb, hml, hown, hts⟩ (qFormat_scale l ad td a0 a1 hk0) (cwV 1 hts (gV w_412 w_324 w_325 w_44 w_326) rfl rfl rfl (by decide +kernel) ⟨Nat.le_of_ble_eq_true rfl, Nat.le_of_ble_eq_true rfl⟩) ⟨pw_bG, va_recvE hG.1 hk0 hS, fun U hU hW => ⟨rfl, (hG.at hU hW)⟩⟩ rfl rfl hl.1 rfl (lv_room (Nat.le_of_ble_eq_true rfl)) dFloating_root_45 ⟨Nat.zero_le _, Nat.zero_le _⟩) ?_
  refine lv_iload_n hx hb dFloating_root_48 rfl (lv_at hl 2 rfl) ?_
  refine lv_isub hx hb dFloating_root_49 ?_
  refine lv_iconst (v := 1) hx hb dFloating_root_50 (by decide) ?_
  refine lv_iand hx hb dFloating_root_51 ?_
  refine lv_isub hx hb dFloating_root_52 ?_
  refine lv_istore_n (lv' := [(3, .int (a3 - (((fFormat_scale a0 a1) - a3) &&& 1))), (0, .ref (ad a0)), (1, .long a1)]) hx hb dFloating_root_53 rfl hl (by decide) rfl (fun ls hl => ?_)
  rw [(show fFloating_root_42 a0 a1 a3 = fFloating_root_54 a0 a1 (a3 - (((fFormat_scale a0 a1) - a3) &&& 1)) by rw [fFloating_root_42])]
  exact kFloating_root_54 C hG a0 a1 (a3 - (((fFormat_scale a0 a1) - a3) &&& 1)) hk0 (lv_sub hl [1, 2, 0] rfl)
set_option maxHeartbeats 4000000 in
set_option maxRecDepth 100000 in
theorem kFloating_root_0 {p : Program} {l : Launch} {e : Env} {s : State} {m : MethodId} {args : Array Value} {below : List Frame} {meth : Method} {c : Code} {ad td : Nat → Nat} (C : pw_C p s m args meth c cFloating_root 13 (some .long) "BitNumbers$Floating") (hG : pw_G (fun _ => False) ad td s s.heap) (a0 : Nat) (a1 : Int64) (hk0 : a0 < 2) {ls : Array Slot} (hl : lv_has ls 13 [(0, .ref (ad a0)), (1, .long a1)]) : W p l e rmFloating_root s m args below meth c s.heap [] 0 0 (MQ below (k2_QcV (.long (fFloating_root a0 a1))) args s 0 0 (fun _ => False)) (F0 m 0 ls []) := by
  obtain ⟨hx, hb, hr, hml, hown, hts, hlocks⟩ := id C
  have hS : va_S (fun _ => False) s.heap s.heap [] := va_S.rf
  refine lv_aload_n hx hb dFloating_root_0 rfl (lv_at hl 0 rfl) ?_
  refine lv_lload_n hx hb dFloating_root_1 rfl (lv_at hl 1 rfl) ?_
  refine pw_call (va_runV (As := [.long a1]) (rest := []) ⟨hx, hb, hml, hown, hts⟩ (qFormat_isZero l ad td a0 a1 hk0) (cwV 1 hts (gV w_430 w_163 w_164 w_44 w_165) rfl rfl rfl (by decide +kernel) ⟨Nat.le_of_ble_eq_true rfl, Nat.le_of_ble_eq_true rfl⟩) ⟨pw_bG, va_recvE hG.1 hk0 hS, fun U hU hW => ⟨rfl, (hG.at hU hW)⟩⟩ rfl rfl hl.1 rfl (lv_room (Nat.le_of_ble_eq_true rfl)) dFloating_root_2 ⟨Nat.zero_le _, Nat.zero_le _⟩) ?_
  refine lv_if_eq (tgt := 10) hx hb dFloating_root_5 (by decide) (fun h1 => ?_) (fun h1 => ?_)
  · refine lv_aload_n hx hb dFloating_root_10 rfl (lv_at hl 0 rfl) ?_
    refine lv_lload_n hx hb dFloating_root_11 rfl (lv_at hl 1 rfl) ?_
    refine pw_call (va_runV (As := [.long a1]) (rest := []) ⟨hx, hb, hml, hown, hts⟩ (qFormat_isNegative l ad td a0 a1 hk0) (cwV 1 hts (gV w_383 w_142 w_143 w_44 w_144) rfl rfl rfl (by decide +kernel) ⟨Nat.le_of_ble_eq_true rfl, Nat.le_of_ble_eq_true rfl⟩) ⟨pw_bG, va_recvE hG.1 hk0 hS, fun U hU hW => ⟨rfl, (hG.at hU hW)⟩⟩ rfl rfl hl.1 rfl (lv_room (Nat.le_of_ble_eq_true rfl)) dFloating_root_12 ⟨Nat.zero_le _, Nat.zero_le _⟩) ?_
    refine lv_if_eq (tgt := 23) hx hb dFloating_root_15 (by decide) (fun h2 => ?_) (fun h2 => ?_)
    · refine lv_aload_n hx hb dFloating_root_23 rfl (lv_at hl 0 rfl) ?_
      refine lv_lload_n hx hb dFloating_root_24 rfl (lv_at hl 1 rfl) ?_
      refine pw_call (va_runV (As := [.long a1]) (rest := []) ⟨hx, hb, hml, hown, hts⟩ (qFormat_isInfinite l ad td a0 a1 hk0) (cwV 1 hts (gV w_431 w_159 w_160 w_44 w_161) rfl rfl rfl (by decide +kernel) ⟨Nat.le_of_ble_eq_true rfl, Nat.le_of_ble_eq_true rfl⟩) ⟨pw_bG, va_recvE hG.1 hk0 hS, fun U hU hW => ⟨rfl, (hG.at hU hW)⟩⟩ rfl rfl hl.1 rfl (lv_room (Nat.le_of_ble_eq_true rfl)) dFloating_root_25 ⟨Nat.zero_le _, Nat.zero_le _⟩) ?_
      refine lv_if_eq (tgt := 33) hx hb dFloating_root_28 (by decide) (fun h3 => ?_) (fun h3 => ?_)
      · refine lv_aload_n hx hb dFloating_root_33 rfl (lv_at hl 0 rfl) ?_
        refine lv_lload_n hx hb dFloating_root_34 rfl (lv_at hl 1 rfl) ?_
        refine pw_call (va_runV (As := [.long a1]) (rest := []) ⟨hx, hb, hml, hown, hts⟩ (qFormat_significand l ad td a0 a1 hk0) (cwV 1 hts (gV w_413 w_320 w_321 w_44 w_322) rfl rfl rfl (by decide +kernel) ⟨Nat.le_of_ble_eq_true rfl, Nat.le_of_ble_eq_true rfl⟩) ⟨pw_bG, va_recvE hG.1 hk0 hS, fun U hU hW => ⟨rfl, (hG.at hU hW)⟩⟩ rfl rfl hl.1 rfl (lv_room (Nat.le_of_ble_eq_true rfl)) dFloating_root_35 ⟨Nat.zero_le _, Nat.zero_le _⟩) ?_
        refine pw_call (va_runS (As := [.long (fFormat_significand a0 a1)]) (rest := []) ⟨hx, hb, hml, hown, hts⟩ (qFloating_lift l (fFormat_significand a0 a1)) (va_cwS 1 hts (gS w_432 w_433 w_48 w_434) rfl rfl rfl (by decide +kernel) ⟨Nat.le_of_ble_eq_true rfl, Nat.le_of_ble_eq_true rfl⟩) ⟨pw_bT, fun U hU hW => ⟨rfl, trivial⟩⟩ rfl rfl hl.1 rfl (lv_room (Nat.le_of_ble_eq_true rfl)) dFloating_root_38 ⟨Nat.zero_le _, Nat.zero_le _⟩) ?_
        refine lv_istore_n (lv' := [(3, .int (fFloating_lift (fFormat_significand a0 a1))), (0, .ref (ad a0)), (1, .long a1)]) hx hb dFloating_root_41 rfl hl (by decide) rfl (fun ls hl => ?_)
        rw [(show fFloating_root a0 a1 = fFloating_root_42 a0 a1 (fFloating_lift (fFormat_significand a0 a1)) by rw [fFloating_root, if_pos h1, if_pos h2, if_pos h3])]
        exact kFloating_root_42 C hG a0 a1 (fFloating_lift (fFormat_significand a0 a1)) hk0 (lv_sub hl [1, 2, 0] rfl)
      · refine lv_lload_n hx hb dFloating_root_31 rfl (lv_at hl 1 rfl) ?_
        exact W.lret hx hb hr (fun t ht _ => ⟨by rw [(show fFloating_root a0 a1 = a1 by rw [fFloating_root, if_pos h1, if_pos h2, if_neg h3])], ht⟩) (fun q h => nomatch h) dFloating_root_32
    · refine lv_aload_n hx hb dFloating_root_18 rfl (lv_at hl 0 rfl) ?_
      refine va_getX hx hb hG.2.1.2.2.2.2.2.2 hk0 hS hown (hts _ w_815) (fun _ h9 => h9) dFloating_root_19 ?_
      exact W.lret hx hb hr (fun t ht _ => ⟨by rw [(show fFloating_root a0 a1 = fm_none a0 by rw [fFloating_root, if_pos h1, if_neg h2])], ht⟩) (fun q h => nomatch h) dFloating_root_22
  · refine lv_lload_n hx hb dFloating_root_8 rfl (lv_at hl 1 rfl) ?_
    exact W.lret hx hb hr (fun t ht _ => ⟨by rw [(show fFloating_root a0 a1 = a1 by rw [fFloating_root, if_neg h1])], ht⟩) (fun q h => nomatch h) dFloating_root_9
set_option maxHeartbeats 4000000 in
set_option maxRecDepth 100000 in
theorem qFloating_root (l : Launch) (ad td : Nat → Nat) (a0 : Nat) (a1 : Int64) (hk0 : a0 < 2) : Met l yFloating_root wsFloating_root rmFloating_root (va_Pc [.ref (ad a0), .long a1] (fun U => pw_G (fun _ => False) ad td U U.heap)) (k2_QcV (.long (fFloating_root a0 a1))) 0 0 (fun _ => False) := by
  refine Met.ofW (cc := cFloating_root) (maxL := 13) (ret := (some .long)) (by decide) rfl ?_
  intro p e s m args below meth c s₁ B hml hv
  obtain ⟨rfl, hG⟩ := hv
  have hts0 := atoms_spec (ws := wsFloating_root) B.pre
  have hts := fun (w : Cond) (h : w ∈ aw) => hts0 w (List.mem_cons_of_mem _ h)
  have hown : s.vm.findClass "BitNumbers$Floating" = some m.cls := findClass_of_methodNamed B.named
  have hl := lv_entry ([.ref (ad a0), .long a1]) (n := 13) (Nat.le_of_ble_eq_true rfl)
  rw [lg_entry_eq]
  generalize (lg_sl ([.ref (ad a0), .long a1]) ++ List.replicate (13 - (lg_sl ([.ref (ad a0), .long a1])).length) Slot.unset).toArray = ls at hl ⊢
  exact kFloating_root_0 ⟨B.exec, B.bytes, B.returns, hml, hown, hts, B.notSynchronized⟩ hG a0 a1 hk0 hl

set_option maxHeartbeats 4000000 in
set_option maxRecDepth 100000 in
theorem kFloating_sumWithInfinite_46 {p : Program} {l : Launch} {e : Env} {s : State} {m : MethodId} {args : Array Value} {below : List Frame} {meth : Method} {c : Code} {ad td : Nat → Nat} (C : pw_C p s m args meth c cFloating_sumWithInfinite 6 (some .long) "BitNumbers$Floating") (hG : pw_G (fun _ => False) ad td s s.heap) (a0 : Nat) (a1 : Int64) (a3 : Int64) (hk0 : a0 < 2) {ls : Array Slot} (hl : lv_has ls 6 [(0, .ref (ad a0)), (1, .long a1), (3, .long a3)]) : W p l e rmFloating_sumWithInfinite s m args below meth c s.heap [] 0 0 (MQ below (k2_QcV (.long (fFloating_sumWithInfinite_46 a0 a1 a3))) args s 0 0 (fun _ => False)) (F0 m 46 ls []) := by
  obtain ⟨hx, hb, hr, hml, hown, hts, hlocks⟩ := id C
  have hS : va_S (fun _ => False) s.heap s.heap [] := va_S.rf
  refine lv_aload_n hx hb dFloating_sumWithInfinite_46 rfl (lv_at hl 0 rfl) ?_
  refine lv_lload_n hx hb dFloating_sumWithInfinite_47 rfl (lv_at hl 1 rfl) ?_
  refine pw_call (va_runV (As := [.long a1]) (rest := []) ⟨hx, hb, hml, hown, hts⟩ (qFormat_isInfinite l ad td a0 a1 hk0) (cwV 1 hts (gV w_431 w_159 w_160 w_44 w_161) rfl rfl rfl (by decide +kernel) ⟨Nat.le_of_ble_eq_true rfl, Nat.le_of_ble_eq_true rfl⟩) ⟨pw_bG, va_recvE hG.1 hk0 hS, fun U hU hW => ⟨rfl, (hG.at hU hW)⟩⟩ rfl rfl hl.1 rfl (lv_room (Nat.le_of_ble_eq_true rfl)) dFloating_sumWithInfinite_48 ⟨Nat.zero_le _, Nat.zero_le _⟩) ?_
  refine lv_if_eq (tgt := 58) hx hb dFloating_sumWithInfinite_51 (by decide) (fun h1 => ?_) (fun h1 => ?_)
  · refine lv_lload_n hx hb dFloating_sumWithInfinite_58 rfl (lv_at hl 2 rfl) ?_
    exact W.lret hx hb hr (fun t ht _ => ⟨by rw [(show fFloating_sumWithInfinite_46 a0 a1 a3 = a3 by rw [fFloating_sumWithInfinite_46, if_pos h1])], ht⟩) (fun q h => nomatch h) dFloating_sumWithInfinite_59
  · refine lv_lload_n hx hb dFloating_sumWithInfinite_54 rfl (lv_at hl 1 rfl) ?_
    refine lv_goto (tgt := 59) hx hb dFloating_sumWithInfinite_55 (by decide) ?_
    exact W.lret hx hb hr (fun t ht _ => ⟨by rw [(show fFloating_sumWithInfinite_46 a0 a1 a3 = a1 by rw [fFloating_sumWithInfinite_46, if_neg h1])], ht⟩) (fun q h => nomatch h) dFloating_sumWithInfinite_59
set_option maxHeartbeats 4000000 in
set_option maxRecDepth 100000 in
theorem kFloating_sumWithInfinite_21 {p : Program} {l : Launch} {e : Env} {s : State} {m : MethodId} {args : Array Value} {below : List Frame} {meth : Method} {c : Code} {ad td : Nat → Nat} (C : pw_C p s m args meth c cFloating_sumWithInfinite 6 (some .long) "BitNumbers$Floating") (hG : pw_G (fun _ => False) ad td s s.heap) (a0 : Nat) (a1 : Int64) (a3 : Int64) (s0 : Int32) (hk0 : a0 < 2) (hzs0 : s0 = 0 ∨ s0 = 1) {ls : Array Slot} (hl : lv_has ls 6 [(0, .ref (ad a0)), (1, .long a1), (3, .long a3)]) : W p l e rmFloating_sumWithInfinite s m args below meth c s.heap [] 0 0 (MQ below (k2_QcV (.long (fFloating_sumWithInfinite_21 a0 a1 a3 s0))) args s 0 0 (fun _ => False)) (F0 m 21 ls [.int s0]) := by
  obtain ⟨hx, hb, hr, hml, hown, hts, hlocks⟩ := id C
  have hS : va_S (fun _ => False) s.heap s.heap [] := va_S.rf
  refine lv_istore (lv' := [(5, .int s0), (0, .ref (ad a0)), (1, .long a1), (3, .long a3)]) hx hb dFloating_sumWithInfinite_21 hl (by decide) rfl (fun ls hl => ?_)
  refine lv_iload hx hb dFloating_sumWithInfinite_23 (lv_at hl 0 rfl) ?_
  refine lv_if_eq (tgt := 46) hx hb dFloating_sumWithInfinite_25 (by decide) (fun h1 => ?_) (fun h1 => ?_)
  · rw [(show fFloating_sumWithInfinite_21 a0 a1 a3 s0 = fFloating_sumWithInfinite_46 a0 a1 a3 by rw [fFloating_sumWithInfinite_21, if_pos h1])]
    exact kFloating_sumWithInfinite_46 C hG a0 a1 a3 hk0 (lv_sub hl [1, 2, 3] rfl)
  · refine lv_aload_n hx hb dFloating_sumWithInfinite_28 rfl (lv_at hl 1 rfl) ?_
    refine lv_lload_n hx hb dFloating_sumWithInfinite_29 rfl (lv_at hl 2 rfl) ?_
    refine pw_call (va_runV (As := [.long a1]) (rest := []) ⟨hx, hb, hml, hown, hts⟩ (qFormat_isNegative l ad td a0 a1 hk0) (cwV 1 hts (gV w_383 w_142 w_143 w_44 w_144) rfl rfl rfl (by decide +kernel) ⟨Nat.le_of_ble_eq_true rfl, Nat.le_of_ble_eq_true rfl⟩) ⟨pw_bG, va_recvE hG.1 hk0 hS, fun U hU hW => ⟨rfl, (hG.at hU hW)⟩⟩ rfl rfl hl.1 rfl (lv_room (Nat.le_of_ble_eq_true rfl)) dFloating_sumWithInfinite_30 ⟨Nat.zero_le _, Nat.zero_le _⟩) ?_
    refine lv_aload_n hx hb dFloating_sumWithInfinite_33 rfl (lv_at hl 1 rfl) ?_
    refine lv_lload_n hx hb dFloating_sumWithInfinite_34 rfl (lv_at hl 3 rfl) ?_
    refine pw_call (va_runV (As := [.long a3]) (rest := [.int (fFormat_isNegative a0 a1)]) ⟨hx, hb, hml, hown, hts⟩ (qFormat_isNegative l ad td a0 a3 hk0) (cwV 1 hts (gV w_383 w_142 w_143 w_44 w_144) rfl rfl rfl (by decide +kernel) ⟨Nat.le_of_ble_eq_true rfl, Nat.le_of_ble_eq_true rfl⟩) ⟨pw_bG, va_recvE hG.1 hk0 hS, fun U hU hW => ⟨rfl, (hG.at hU hW)⟩⟩ rfl rfl hl.1 rfl (lv_room (Nat.le_of_ble_eq_true rfl)) dFloating_sumWithInfinite_35 ⟨Nat.zero_le _, Nat.zero_le _⟩) ?_
    refine lv_icmp_eq (tgt := 46) hx hb dFloating_sumWithInfinite_38 (by decide) (fun h2 => ?_) (fun h2 => ?_)
    · rw [(show fFloating_sumWithInfinite_21 a0 a1 a3 s0 = fFloating_sumWithInfinite_46 a0 a1 a3 by rw [fFloating_sumWithInfinite_21, if_neg h1, if_pos h2])]
      exact kFloating_sumWithInfinite_46 C hG a0 a1 a3 hk0 (lv_sub hl [1, 2, 3] rfl)
    · refine lv_aload_n hx hb dFloating_sumWithInfinite_41 rfl (lv_at hl 1 rfl) ?_
      refine va_getX hx hb hG.2.1.2.2.2.2.2.2 hk0 hS hown (hts _ w_815) (fun _ h9 => h9) dFloating_sumWithInfinite_42 ?_
      exact W.lret hx hb hr (fun t ht _ => ⟨by rw [(show fFloating_sumWithInfinite_21 a0 a1 a3 s0 = fm_none a0 by rw [fFloating_sumWithInfinite_21, if_neg h1, if_neg h2])], ht⟩) (fun q h => nomatch h) dFloating_sumWithInfinite_45
set_option maxHeartbeats 4000000 in
set_option maxRecDepth 100000 in
theorem kFloating_sumWithInfinite_20 {p : Program} {l : Launch} {e : Env} {s : State} {m : MethodId} {args : Array Value} {below : List Frame} {meth : Method} {c : Code} {ad td : Nat → Nat} (C : pw_C p s m args meth c cFloating_sumWithInfinite 6 (some .long) "BitNumbers$Floating") (hG : pw_G (fun _ => False) ad td s s.heap) (a0 : Nat) (a1 : Int64) (a3 : Int64) (hk0 : a0 < 2) {ls : Array Slot} (hl : lv_has ls 6 [(0, .ref (ad a0)), (1, .long a1), (3, .long a3)]) : W p l e rmFloating_sumWithInfinite s m args below meth c s.heap [] 0 0 (MQ below (k2_QcV (.long (fFloating_sumWithInfinite_20 a0 a1 a3))) args s 0 0 (fun _ => False)) (F0 m 20 ls []) := by
  obtain ⟨hx, hb, hr, hml, hown, hts, hlocks⟩ := id C
  have hS : va_S (fun _ => False) s.heap s.heap [] := va_S.rf
  refine lv_iconst (v := 0) hx hb dFloating_sumWithInfinite_20 (by decide) ?_
  rw [(show fFloating_sumWithInfinite_20 a0 a1 a3 = fFloating_sumWithInfinite_21 a0 a1 a3 0 by rw [fFloating_sumWithInfinite_20])]
  exact kFloating_sumWithInfinite_21 C hG a0 a1 a3 0 hk0 (Or.inl rfl) (lv_sub hl [0, 1, 2] rfl)
set_option maxHeartbeats 4000000 in
set_option maxRecDepth 100000 in
theorem kFloating_sumWithInfinite_0 {p : Program} {l : Launch} {e : Env} {s : State} {m : MethodId} {args : Array Value} {below : List Frame} {meth : Method} {c : Code} {ad td : Nat → Nat} (C : pw_C p s m args meth c cFloating_sumWithInfinite 6 (some .long) "BitNumbers$Floating") (hG : pw_G (fun _ => False) ad td s s.heap) (a0 : Nat) (a1 : Int64) (a3 : Int64) (hk0 : a0 < 2) {ls : Array Slot} (hl : lv_has ls 6 [(0, .ref (ad a0)), (1, .long a1), (3, .long a3)]) : W p l e rmFloating_sumWithInfinite s m args below meth c s.heap [] 0 0 (MQ below (k2_QcV (.long (fFloating_sumWithInfinite a0 a1 a3))) args s 0 0 (fun _ => False)) (F0 m 0 ls []) := by
  obtain ⟨hx, hb, hr, hml, hown, hts, hlocks⟩ := id C
  have hS : va_S (fun _ => False) s.heap s.heap [] := va_S.rf
  refine lv_aload_n hx hb dFloating_sumWithInfinite_0 rfl (lv_at hl 0 rfl) ?_
  refine lv_lload_n hx hb dFloating_sumWithInfinite_1 rfl (lv_at hl 1 rfl) ?_
  refine pw_call (va_runV (As := [.long a1]) (rest := []) ⟨hx, hb, hml, hown, hts⟩ (qFormat_isInfinite l ad td a0 a1 hk0) (cwV 1 hts (gV w_431 w_159 w_160 w_44 w_161) rfl rfl rfl (by decide +kernel) ⟨Nat.le_of_ble_eq_true rfl, Nat.le_of_ble_eq_true rfl⟩) ⟨pw_bG, va_recvE hG.1 hk0 hS, fun U hU hW => ⟨rfl, (hG.at hU hW)⟩⟩ rfl rfl hl.1 rfl (lv_room (Nat.le_of_ble_eq_true rfl)) dFloating_sumWithInfinite_2 ⟨Nat.zero_le _, Nat.zero_le _⟩) ?_
  refine lv_if_eq (tgt := 20) hx hb dFloating_sumWithInfinite_5 (by decide) (fun h1 => ?_) (fun h1 => ?_)
  · rw [(show fFloating_sumWithInfinite a0 a1 a3 = fFloating_sumWithInfinite_20 a0 a1 a3 by rw [fFloating_sumWithInfinite, if_pos h1])]
    exact kFloating_sumWithInfinite_20 C hG a0 a1 a3 hk0 (lv_sub hl [0, 1, 2] rfl)
  · refine lv_aload_n hx hb dFloating_sumWithInfinite_8 rfl (lv_at hl 0 rfl) ?_
    refine lv_lload_n hx hb dFloating_sumWithInfinite_9 rfl (lv_at hl 2 rfl) ?_
    refine pw_call (va_runV (As := [.long a3]) (rest := []) ⟨hx, hb, hml, hown, hts⟩ (qFormat_isInfinite l ad td a0 a3 hk0) (cwV 1 hts (gV w_431 w_159 w_160 w_44 w_161) rfl rfl rfl (by decide +kernel) ⟨Nat.le_of_ble_eq_true rfl, Nat.le_of_ble_eq_true rfl⟩) ⟨pw_bG, va_recvE hG.1 hk0 hS, fun U hU hW => ⟨rfl, (hG.at hU hW)⟩⟩ rfl rfl hl.1 rfl (lv_room (Nat.le_of_ble_eq_true rfl)) dFloating_sumWithInfinite_10 ⟨Nat.zero_le _, Nat.zero_le _⟩) ?_
    refine lv_if_eq (tgt := 20) hx hb dFloating_sumWithInfinite_13 (by decide) (fun h2 => ?_) (fun h2 => ?_)
    · rw [(show fFloating_sumWithInfinite a0 a1 a3 = fFloating_sumWithInfinite_20 a0 a1 a3 by rw [fFloating_sumWithInfinite, if_neg h1, if_pos h2])]
      exact kFloating_sumWithInfinite_20 C hG a0 a1 a3 hk0 (lv_sub hl [0, 1, 2] rfl)
    · refine lv_iconst (v := 1) hx hb dFloating_sumWithInfinite_16 (by decide) ?_
      refine lv_goto (tgt := 21) hx hb dFloating_sumWithInfinite_17 (by decide) ?_
      rw [(show fFloating_sumWithInfinite a0 a1 a3 = fFloating_sumWithInfinite_21 a0 a1 a3 1 by rw [fFloating_sumWithInfinite, if_neg h1, if_neg h2])]
      exact kFloating_sumWithInfinite_21 C hG a0 a1 a3 1 hk0 (Or.inr rfl) (lv_sub hl [0, 1, 2] rfl)
set_option maxHeartbeats 4000000 in
set_option maxRecDepth 100000 in
theorem qFloating_sumWithInfinite (l : Launch) (ad td : Nat → Nat) (a0 : Nat) (a1 : Int64) (a3 : Int64) (hk0 : a0 < 2) : Met l yFloating_sumWithInfinite wsFloating_sumWithInfinite rmFloating_sumWithInfinite (va_Pc [.ref (ad a0), .long a1, .long a3] (fun U => pw_G (fun _ => False) ad td U U.heap)) (k2_QcV (.long (fFloating_sumWithInfinite a0 a1 a3))) 0 0 (fun _ => False) := by
  refine Met.ofW (cc := cFloating_sumWithInfinite) (maxL := 6) (ret := (some .long)) (by decide) rfl ?_
  intro p e s m args below meth c s₁ B hml hv
  obtain ⟨rfl, hG⟩ := hv
  have hts0 := atoms_spec (ws := wsFloating_sumWithInfinite) B.pre
  have hts := fun (w : Cond) (h : w ∈ aw) => hts0 w (List.mem_cons_of_mem _ h)
  have hown : s.vm.findClass "BitNumbers$Floating" = some m.cls := findClass_of_methodNamed B.named
  have hl := lv_entry ([.ref (ad a0), .long a1, .long a3]) (n := 6) (Nat.le_of_ble_eq_true rfl)
  rw [lg_entry_eq]
  generalize (lg_sl ([.ref (ad a0), .long a1, .long a3]) ++ List.replicate (6 - (lg_sl ([.ref (ad a0), .long a1, .long a3])).length) Slot.unset).toArray = ls at hl ⊢
  exact kFloating_sumWithInfinite_0 ⟨B.exec, B.bytes, B.returns, hml, hown, hts, B.notSynchronized⟩ hG a0 a1 a3 hk0 hl

set_option maxHeartbeats 4000000 in
set_option maxRecDepth 100000 in
theorem kFloating_shiftedWithTrace_22 {p : Program} {l : Launch} {e : Env} {s : State} {m : MethodId} {args : Array Value} {below : List Frame} {meth : Method} {c : Code} (C : pw_C p s m args meth c cFloating_shiftedWithTrace 5 (some .long) "BitNumbers$Floating") (a0 : Int64) (a2 : Int32) (a3 : Int64) {ls : Array Slot} (hl : lv_has ls 5 [(0, .long a0), (2, .int a2), (3, .long a3)]) : W p l e rmFloating_shiftedWithTrace s m args below meth c s.heap [] 0 0 (MQ below (k2_QcV (.long (fFloating_shiftedWithTrace_22 a0 a2 a3))) args s 0 0 (fun _ => False)) (F0 m 22 ls []) := by
  obtain ⟨hx, hb, hr, hml, hown, hts, hlocks⟩ := id C
  refine lv_lload_n hx hb dFloating_shiftedWithTrace_22 rfl (lv_at hl 2 rfl) ?_
  refine lv_iload_n hx hb dFloating_shiftedWithTrace_23 rfl (lv_at hl 1 rfl) ?_
  refine lv_lshl (v := bn_shl a3 a2) hx hb dFloating_shiftedWithTrace_24 rfl ?_
  refine lv_lload_n hx hb dFloating_shiftedWithTrace_25 rfl (lv_at hl 0 rfl) ?_
  refine W.lcmp hx hb dFloating_shiftedWithTrace_26 ?_
  refine lv_if_ne (tgt := 34) hx hb dFloating_shiftedWithTrace_27 (by decide) (fun h1 => ?_) (fun h1 => ?_)
  · have h1 : ¬ ((bn_shl a3 a2) = a0) := fun w => h1 ((lg_cmp_eq _ _).mpr w)
    refine lv_lload_n hx hb dFloating_shiftedWithTrace_34 rfl (lv_at hl 2 rfl) ?_
    refine lv_lconst (v := 1) hx hb dFloating_shiftedWithTrace_35 (by decide) ?_
    refine lv_lor hx hb dFloating_shiftedWithTrace_36 ?_
    exact W.lret hx hb hr (fun t ht _ => ⟨by rw [(show fFloating_shiftedWithTrace_22 a0 a2 a3 = a3 ||| 1 by rw [fFloating_shiftedWithTrace_22, if_neg h1])], ht⟩) (fun q h => nomatch h) dFloating_shiftedWithTrace_37
  · have h1 : (bn_shl a3 a2) = a0 := (lg_cmp_eq _ _).mp h1
    refine lv_lload_n hx hb dFloating_shiftedWithTrace_30 rfl (lv_at hl 2 rfl) ?_
    refine lv_goto (tgt := 37) hx hb dFloating_shiftedWithTrace_31 (by decide) ?_
    exact W.lret hx hb hr (fun t ht _ => ⟨by rw [(show fFloating_shiftedWithTrace_22 a0 a2 a3 = a3 by rw [fFloating_shiftedWithTrace_22, if_pos h1])], ht⟩) (fun q h => nomatch h) dFloating_shiftedWithTrace_37
set_option maxHeartbeats 4000000 in
set_option maxRecDepth 100000 in
theorem kFloating_shiftedWithTrace_0 {p : Program} {l : Launch} {e : Env} {s : State} {m : MethodId} {args : Array Value} {below : List Frame} {meth : Method} {c : Code} (C : pw_C p s m args meth c cFloating_shiftedWithTrace 5 (some .long) "BitNumbers$Floating") (a0 : Int64) (a2 : Int32) {ls : Array Slot} (hl : lv_has ls 5 [(0, .long a0), (2, .int a2)]) : W p l e rmFloating_shiftedWithTrace s m args below meth c s.heap [] 0 0 (MQ below (k2_QcV (.long (fFloating_shiftedWithTrace a0 a2))) args s 0 0 (fun _ => False)) (F0 m 0 ls []) := by
  obtain ⟨hx, hb, hr, hml, hown, hts, hlocks⟩ := id C
  refine lv_iload_n hx hb dFloating_shiftedWithTrace_0 rfl (lv_at hl 1 rfl) ?_
  refine lv_bipush (v := 63) hx hb dFloating_shiftedWithTrace_1 (by decide) ?_
  refine lv_icmp_le (tgt := 18) hx hb dFloating_shiftedWithTrace_3 (by decide) (fun h1 => ?_) (fun h1 => ?_)
  · refine lv_lload_n hx hb dFloating_shiftedWithTrace_18 rfl (lv_at hl 0 rfl) ?_
    refine lv_iload_n hx hb dFloating_shiftedWithTrace_19 rfl (lv_at hl 1 rfl) ?_
    refine lv_lushr (v := bn_shr a0 a2) hx hb dFloating_shiftedWithTrace_20 rfl ?_
    refine lv_lstore_n (lv' := [(3, .long (bn_shr a0 a2)), (0, .long a0), (2, .int a2)]) hx hb dFloating_shiftedWithTrace_21 rfl hl (by decide) rfl (fun ls hl => ?_)
    rw [(show fFloating_shiftedWithTrace a0 a2 = fFloating_shiftedWithTrace_22 a0 a2 (bn_shr a0 a2) by rw [fFloating_shiftedWithTrace, if_pos h1])]
    exact kFloating_shiftedWithTrace_22 C a0 a2 (bn_shr a0 a2) (lv_sub hl [1, 2, 0] rfl)
  · refine lv_lload_n hx hb dFloating_shiftedWithTrace_6 rfl (lv_at hl 0 rfl) ?_
    refine lv_lconst (v := 0) hx hb dFloating_shiftedWithTrace_7 (by decide) ?_
    refine W.lcmp hx hb dFloating_shiftedWithTrace_8 ?_
    refine lv_if_ne (tgt := 16) hx hb dFloating_shiftedWithTrace_9 (by decide) (fun h2 => ?_) (fun h2 => ?_)
    · have h2 : ¬ (a0 = 0) := fun w => h2 ((lg_cmp_eq _ _).mpr w)
      refine lv_lconst (v := 1) hx hb dFloating_shiftedWithTrace_16 (by decide) ?_
      exact W.lret hx hb hr (fun t ht _ => ⟨by rw [(show fFloating_shiftedWithTrace a0 a2 = 1 by rw [fFloating_shiftedWithTrace, if_neg h1, if_neg h2])], ht⟩) (fun q h => nomatch h) dFloating_shiftedWithTrace_17
    · have h2 : a0 = 0 := (lg_cmp_eq _ _).mp h2
      refine lv_lconst (v := 0) hx hb dFloating_shiftedWithTrace_12 (by decide) ?_
      refine lv_goto (tgt := 17) hx hb dFloating_shiftedWithTrace_13 (by decide) ?_
      exact W.lret hx hb hr (fun t ht _ => ⟨by rw [(show fFloating_shiftedWithTrace a0 a2 = 0 by rw [fFloating_shiftedWithTrace, if_neg h1, if_pos h2])], ht⟩) (fun q h => nomatch h) dFloating_shiftedWithTrace_17
set_option maxHeartbeats 4000000 in
set_option maxRecDepth 100000 in
theorem qFloating_shiftedWithTrace (l : Launch) (a0 : Int64) (a2 : Int32) : Met l yFloating_shiftedWithTrace wsFloating_shiftedWithTrace rmFloating_shiftedWithTrace (va_Pc [.long a0, .int a2] (fun _ => True)) (k2_QcV (.long (fFloating_shiftedWithTrace a0 a2))) 0 0 (fun _ => False) := by
  refine Met.ofW (cc := cFloating_shiftedWithTrace) (maxL := 5) (ret := (some .long)) (by decide) rfl ?_
  intro p e s m args below meth c s₁ B hml hv
  obtain ⟨rfl, hG⟩ := hv
  have hts0 := atoms_spec (ws := wsFloating_shiftedWithTrace) B.pre
  have hts := fun (w : Cond) (h : w ∈ aw) => hts0 w (List.mem_cons_of_mem _ h)
  have hown : s.vm.findClass "BitNumbers$Floating" = some m.cls := findClass_of_methodNamed B.named
  have hl := lv_entry ([.long a0, .int a2]) (n := 5) (Nat.le_of_ble_eq_true rfl)
  rw [lg_entry_eq]
  generalize (lg_sl ([.long a0, .int a2]) ++ List.replicate (5 - (lg_sl ([.long a0, .int a2])).length) Slot.unset).toArray = ls at hl ⊢
  exact kFloating_shiftedWithTrace_0 ⟨B.exec, B.bytes, B.returns, hml, hown, hts, B.notSynchronized⟩ a0 a2 hl

set_option maxHeartbeats 4000000 in
set_option maxRecDepth 100000 in
theorem kFloating_sum_191 {p : Program} {l : Launch} {e : Env} {s : State} {m : MethodId} {args : Array Value} {below : List Frame} {meth : Method} {c : Code} {ad td : Nat → Nat} (C : pw_C p s m args meth c cFloating_sum 19 (some .long) "BitNumbers$Floating") (hG : pw_G (fun _ => False) ad td s s.heap) (a0 : Nat) (a6 : Int64) (a10 : Int32) (a16 : Int64) (a18 : Int32) (hk0 : a0 < 2) (hz18 : a18 = 0 ∨ a18 = 1) {ls : Array Slot} (hl : lv_has ls 19 [(0, .ref (ad a0)), (6, .long a6), (10, .int a10), (16, .long a16), (18, .int a18)]) : W p l e rmFloating_sum s m args below meth c s.heap [] 0 0 (MQ below (k2_QcV (.long (fFloating_sum_191 a0 a6 a10 a16 a18))) args s 0 0 (fun _ => False)) (F0 m 191 ls []) := by
  obtain ⟨hx, hb, hr, hml, hown, hts, hlocks⟩ := id C
  have hS : va_S (fun _ => False) s.heap s.heap [] := va_S.rf
  refine lv_aload_n hx hb dFloating_sum_191 rfl (lv_at hl 0 rfl) ?_
  refine lv_iload hx hb dFloating_sum_192 (lv_at hl 4 rfl) ?_
  refine lv_lload hx hb dFloating_sum_194 (lv_at hl 3 rfl) ?_
  refine lv_aload_n hx hb dFloating_sum_196 rfl (lv_at hl 0 rfl) ?_
  refine lv_lload hx hb dFloating_sum_197 (lv_at hl 1 rfl) ?_
  refine pw_call (va_runV (As := [.long a6]) (rest := [.long a16, .int a18, .ref (ad a0)]) ⟨hx, hb, hml, hown, hts⟩ (qFormat_scale l ad td a0 a6 hk0) (cwV 1 hts (gV w_412 w_324 w_325 w_44 w_326) rfl rfl rfl (by decide +kernel) ⟨Nat.le_of_ble_eq_true rfl, Nat.le_of_ble_eq_true rfl⟩) ⟨pw_bG, va_recvE hG.1 hk0 hS, fun U hU hW => ⟨rfl, (hG.at hU hW)⟩⟩ rfl rfl hl.1 rfl (lv_room (Nat.le_of_ble_eq_true rfl)) dFloating_sum_199 ⟨Nat.zero_le _, Nat.zero_le _⟩) ?_
  refine lv_iload hx hb dFloating_sum_202 (lv_at hl 2 rfl) ?_
  refine lv_isub hx hb dFloating_sum_204 ?_
  refine pw_call (va_runV (As := [.int a18, .long a16, .int ((fFormat_scale a0 a6) - a10)]) (rest := []) ⟨hx, hb, hml, hown, hts⟩ (qFormat_rounded l ad td a0 a18 a16 ((fFormat_scale a0 a6) - a10) hk0) (cwV 3 hts (gV w_417 w_418 w_419 w_44 w_420) rfl rfl rfl (by decide +kernel) ⟨Nat.le_of_ble_eq_true rfl, Nat.le_of_ble_eq_true rfl⟩) ⟨pw_bG, va_recvE hG.1 hk0 hS, fun U hU hW => ⟨rfl, (hG.at hU hW)⟩⟩ rfl rfl hl.1 rfl (lv_room (Nat.le_of_ble_eq_true rfl)) dFloating_sum_205 ⟨Nat.zero_le _, Nat.zero_le _⟩) ?_
  exact W.lret hx hb hr (fun t ht _ => ⟨by rw [(show fFloating_sum_191 a0 a6 a10 a16 a18 = fFormat_rounded a0 a18 a16 ((fFormat_scale a0 a6) - a10) by rw [fFloating_sum_191])], ht⟩) (fun q h => nomatch h) dFloating_sum_208
set_option maxHeartbeats 4000000 in
set_option maxRecDepth 100000 in
theorem kFloating_sum_189 {p : Program} {l : Launch} {e : Env} {s : State} {m : MethodId} {args : Array Value} {below : List Frame} {meth : Method} {c : Code} {ad td : Nat → Nat} (C : pw_C p s m args meth c cFloating_sum 19 (some .long) "BitNumbers$Floating") (hG : pw_G (fun _ => False) ad td s s.heap) (a0 : Nat) (a6 : Int64) (a10 : Int32) (a16 : Int64) (s0 : Int32) (hk0 : a0 < 2) (hzs0 : s0 = 0 ∨ s0 = 1) {ls : Array Slot} (hl : lv_has ls 19 [(0, .ref (ad a0)), (6, .long a6), (10, .int a10), (16, .long a16)]) : W p l e rmFloating_sum s m args below meth c s.heap [] 0 0 (MQ below (k2_QcV (.long (fFloating_sum_189 a0 a6 a10 a16 s0))) args s 0 0 (fun _ => False)) (F0 m 189 ls [.int s0]) := by
  obtain ⟨hx, hb, hr, hml, hown, hts, hlocks⟩ := id C
  have hS : va_S (fun _ => False) s.heap s.heap [] := va_S.rf
  refine lv_istore (lv' := [(18, .int s0), (0, .ref (ad a0)), (6, .long a6), (10, .int a10), (16, .long a16)]) hx hb dFloating_sum_189 hl (by decide) rfl (fun ls hl => ?_)
  rw [(show fFloating_sum_189 a0 a6 a10 a16 s0 = fFloating_sum_191 a0 a6 a10 a16 s0 by rw [fFloating_sum_189])]
  exact kFloating_sum_191 C hG a0 a6 a10 a16 s0 hk0 hzs0 (lv_sub hl [1, 2, 3, 4, 0] rfl)
set_option maxHeartbeats 4000000 in
set_option maxRecDepth 100000 in
theorem kFloating_sum_179 {p : Program} {l : Launch} {e : Env} {s : State} {m : MethodId} {args : Array Value} {below : List Frame} {meth : Method} {c : Code} {ad td : Nat → Nat} (C : pw_C p s m args meth c cFloating_sum 19 (some .long) "BitNumbers$Floating") (hG : pw_G (fun _ => False) ad td s s.heap) (a0 : Nat) (a6 : Int64) (a10 : Int32) (a16 : Int64) (hk0 : a0 < 2) {ls : Array Slot} (hl : lv_has ls 19 [(0, .ref (ad a0)), (6, .long a6), (10, .int a10), (16, .long a16)]) : W p l e rmFloating_sum s m args below meth c s.heap [] 0 0 (MQ below (k2_QcV (.long (fFloating_sum_179 a0 a6 a10 a16))) args s 0 0 (fun _ => False)) (F0 m 179 ls []) := by
  obtain ⟨hx, hb, hr, hml, hown, hts, hlocks⟩ := id C
  have hS : va_S (fun _ => False) s.heap s.heap [] := va_S.rf
  refine lv_iconst (v := 0) hx hb dFloating_sum_179 (by decide) ?_
  refine lv_goto (tgt := 189) hx hb dFloating_sum_180 (by decide) ?_
  rw [(show fFloating_sum_179 a0 a6 a10 a16 = fFloating_sum_189 a0 a6 a10 a16 0 by rw [fFloating_sum_179])]
  exact kFloating_sum_189 C hG a0 a6 a10 a16 0 hk0 (Or.inl rfl) (lv_sub hl [0, 1, 2, 3] rfl)
set_option maxHeartbeats 4000000 in
set_option maxRecDepth 100000 in
theorem kFloating_sum_155 {p : Program} {l : Launch} {e : Env} {s : State} {m : MethodId} {args : Array Value} {below : List Frame} {meth : Method} {c : Code} {ad td : Nat → Nat} (C : pw_C p s m args meth c cFloating_sum 19 (some .long) "BitNumbers$Floating") (hG : pw_G (fun _ => False) ad td s s.heap) (a0 : Nat) (a1 : Int64) (a6 : Int64) (a10 : Int32) (a15 : Int32) (a16 : Int64) (hk0 : a0 < 2) (hz15 : a15 = 0 ∨ a15 = 1) {ls : Array Slot} (hl : lv_has ls 19 [(0, .ref (ad a0)), (1, .long a1), (6, .long a6), (10, .int a10), (15, .int a15), (16, .long a16)]) : W p l e rmFloating_sum s m args below meth c s.heap [] 0 0 (MQ below (k2_QcV (.long (fFloating_sum_155 a0 a1 a6 a10 a15 a16))) args s 0 0 (fun _ => False)) (F0 m 155 ls []) := by
  obtain ⟨hx, hb, hr, hml, hown, hts, hlocks⟩ := id C
  have hS : va_S (fun _ => False) s.heap s.heap [] := va_S.rf
  refine lv_lload hx hb dFloating_sum_155 (lv_at hl 5 rfl) ?_
  refine lv_lconst (v := 0) hx hb dFloating_sum_157 (by decide) ?_
  refine W.lcmp hx hb dFloating_sum_158 ?_
  refine lv_if_ne (tgt := 183) hx hb dFloating_sum_159 (by decide) (fun h1 => ?_) (fun h1 => ?_)
  · have h1 : ¬ (a16 = 0) := fun w => h1 ((lg_cmp_eq _ _).mpr w)
    refine lv_aload_n hx hb dFloating_sum_183 rfl (lv_at hl 0 rfl) ?_
    refine lv_lload hx hb dFloating_sum_184 (lv_at hl 2 rfl) ?_
    refine pw_call (va_runV (As := [.long a6]) (rest := []) ⟨hx, hb, hml, hown, hts⟩ (qFormat_isNegative l ad td a0 a6 hk0) (cwV 1 hts (gV w_383 w_142 w_143 w_44 w_144) rfl rfl rfl (by decide +kernel) ⟨Nat.le_of_ble_eq_true rfl, Nat.le_of_ble_eq_true rfl⟩) ⟨pw_bG, va_recvE hG.1 hk0 hS, fun U hU hW => ⟨rfl, (hG.at hU hW)⟩⟩ rfl rfl hl.1 rfl (lv_room (Nat.le_of_ble_eq_true rfl)) dFloating_sum_186 ⟨Nat.zero_le _, Nat.zero_le _⟩) ?_
    rw [(show fFloating_sum_155 a0 a1 a6 a10 a15 a16 = fFloating_sum_189 a0 a6 a10 a16 (fFormat_isNegative a0 a6) by rw [fFloating_sum_155, if_neg h1])]
    exact kFloating_sum_189 C hG a0 a6 a10 a16 (fFormat_isNegative a0 a6) hk0 (zFormat_isNegative a0 a6) (lv_sub hl [0, 2, 3, 5] rfl)
  · have h1 : a16 = 0 := (lg_cmp_eq _ _).mp h1
    refine lv_iload hx hb dFloating_sum_162 (lv_at hl 4 rfl) ?_
    refine lv_if_eq (tgt := 179) hx hb dFloating_sum_164 (by decide) (fun h2 => ?_) (fun h2 => ?_)
    · rw [(show fFloating_sum_155 a0 a1 a6 a10 a15 a16 = fFloating_sum_179 a0 a6 a10 a16 by rw [fFloating_sum_155, if_pos h1, if_pos h2])]
      exact kFloating_sum_179 C hG a0 a6 a10 a16 hk0 (lv_sub hl [0, 2, 3, 5] rfl)
    · refine lv_aload_n hx hb dFloating_sum_167 rfl (lv_at hl 0 rfl) ?_
      refine lv_lload_n hx hb dFloating_sum_168 rfl (lv_at hl 1 rfl) ?_
      refine pw_call (va_runV (As := [.long a1]) (rest := []) ⟨hx, hb, hml, hown, hts⟩ (qFormat_isNegative l ad td a0 a1 hk0) (cwV 1 hts (gV w_383 w_142 w_143 w_44 w_144) rfl rfl rfl (by decide +kernel) ⟨Nat.le_of_ble_eq_true rfl, Nat.le_of_ble_eq_true rfl⟩) ⟨pw_bG, va_recvE hG.1 hk0 hS, fun U hU hW => ⟨rfl, (hG.at hU hW)⟩⟩ rfl rfl hl.1 rfl (lv_room (Nat.le_of_ble_eq_true rfl)) dFloating_sum_169 ⟨Nat.zero_le _, Nat.zero_le _⟩) ?_
      refine lv_if_eq (tgt := 179) hx hb dFloating_sum_172 (by decide) (fun h3 => ?_) (fun h3 => ?_)
      · rw [(show fFloating_sum_155 a0 a1 a6 a10 a15 a16 = fFloating_sum_179 a0 a6 a10 a16 by rw [fFloating_sum_155, if_pos h1, if_neg h2, if_pos h3])]
        exact kFloating_sum_179 C hG a0 a6 a10 a16 hk0 (lv_sub hl [0, 2, 3, 5] rfl)
      · refine lv_iconst (v := 1) hx hb dFloating_sum_175 (by decide) ?_
        refine lv_goto (tgt := 189) hx hb dFloating_sum_176 (by decide) ?_
        rw [(show fFloating_sum_155 a0 a1 a6 a10 a15 a16 = fFloating_sum_189 a0 a6 a10 a16 1 by rw [fFloating_sum_155, if_pos h1, if_neg h2, if_neg h3])]
        exact kFloating_sum_189 C hG a0 a6 a10 a16 1 hk0 (Or.inr rfl) (lv_sub hl [0, 2, 3, 5] rfl)
set_option maxHeartbeats 4000000 in
set_option maxRecDepth 100000 in
theorem kFloating_sum_153 {p : Program} {l : Launch} {e : Env} {s : State} {m : MethodId} {args : Array Value} {below : List Frame} {meth : Method} {c : Code} {ad td : Nat → Nat} (C : pw_C p s m args meth c cFloating_sum 19 (some .long) "BitNumbers$Floating") (hG : pw_G (fun _ => False) ad td s s.heap) (a0 : Nat) (a1 : Int64) (a6 : Int64) (a10 : Int32) (a15 : Int32) (s0 : Int64) (hk0 : a0 < 2) (hz15 : a15 = 0 ∨ a15 = 1) {ls : Array Slot} (hl : lv_has ls 19 [(0, .ref (ad a0)), (1, .long a1), (6, .long a6), (10, .int a10), (15, .int a15)]) : W p l e rmFloating_sum s m args below meth c s.heap [] 0 0 (MQ below (k2_QcV (.long (fFloating_sum_153 a0 a1 a6 a10 a15 s0))) args s 0 0 (fun _ => False)) (F0 m 153 ls [.long s0]) := by
  obtain ⟨hx, hb, hr, hml, hown, hts, hlocks⟩ := id C
  have hS : va_S (fun _ => False) s.heap s.heap [] := va_S.rf
  refine lv_lstore (lv' := [(16, .long s0), (0, .ref (ad a0)), (1, .long a1), (6, .long a6), (10, .int a10), (15, .int a15)]) hx hb dFloating_sum_153 hl (by decide) rfl (fun ls hl => ?_)
  rw [(show fFloating_sum_153 a0 a1 a6 a10 a15 s0 = fFloating_sum_155 a0 a1 a6 a10 a15 s0 by rw [fFloating_sum_153])]
  exact kFloating_sum_155 C hG a0 a1 a6 a10 a15 s0 hk0 hz15 (lv_sub hl [1, 2, 3, 4, 5, 0] rfl)
set_option maxHeartbeats 4000000 in
set_option maxRecDepth 100000 in
theorem kFloating_sum_133 {p : Program} {l : Launch} {e : Env} {s : State} {m : MethodId} {args : Array Value} {below : List Frame} {meth : Method} {c : Code} {ad td : Nat → Nat} (C : pw_C p s m args meth c cFloating_sum 19 (some .long) "BitNumbers$Floating") (hG : pw_G (fun _ => False) ad td s s.heap) (a0 : Nat) (a1 : Int64) (a6 : Int64) (a10 : Int32) (a11 : Int64) (a13 : Int64) (s0 : Int32) (hk0 : a0 < 2) (hzs0 : s0 = 0 ∨ s0 = 1) {ls : Array Slot} (hl : lv_has ls 19 [(0, .ref (ad a0)), (1, .long a1), (6, .long a6), (10, .int a10), (11, .long a11), (13, .long a13)]) : W p l e rmFloating_sum s m args below meth c s.heap [] 0 0 (MQ below (k2_QcV (.long (fFloating_sum_133 a0 a1 a6 a10 a11 a13 s0))) args s 0 0 (fun _ => False)) (F0 m 133 ls [.int s0]) := by
  obtain ⟨hx, hb, hr, hml, hown, hts, hlocks⟩ := id C
  have hS : va_S (fun _ => False) s.heap s.heap [] := va_S.rf
  refine lv_istore (lv' := [(15, .int s0), (0, .ref (ad a0)), (1, .long a1), (6, .long a6), (10, .int a10), (11, .long a11), (13, .long a13)]) hx hb dFloating_sum_133 hl (by decide) rfl (fun ls hl => ?_)
  refine lv_iload hx hb dFloating_sum_135 (lv_at hl 0 rfl) ?_
  refine lv_if_eq (tgt := 148) hx hb dFloating_sum_137 (by decide) (fun h1 => ?_) (fun h1 => ?_)
  · refine lv_lload hx hb dFloating_sum_148 (lv_at hl 5 rfl) ?_
    refine lv_lload hx hb dFloating_sum_150 (lv_at hl 6 rfl) ?_
    refine lv_lsub hx hb dFloating_sum_152 ?_
    rw [(show fFloating_sum_133 a0 a1 a6 a10 a11 a13 s0 = fFloating_sum_153 a0 a1 a6 a10 s0 (a11 - a13) by rw [fFloating_sum_133, if_pos h1])]
    exact kFloating_sum_153 C hG a0 a1 a6 a10 s0 (a11 - a13) hk0 hzs0 (lv_sub hl [1, 2, 3, 4, 0] rfl)
  · refine lv_lload hx hb dFloating_sum_140 (lv_at hl 5 rfl) ?_
    refine lv_lload hx hb dFloating_sum_142 (lv_at hl 6 rfl) ?_
    refine lv_ladd hx hb dFloating_sum_144 ?_
    refine lv_goto (tgt := 153) hx hb dFloating_sum_145 (by decide) ?_
    rw [(show fFloating_sum_133 a0 a1 a6 a10 a11 a13 s0 = fFloating_sum_153 a0 a1 a6 a10 s0 (a11 + a13) by rw [fFloating_sum_133, if_neg h1])]
    exact kFloating_sum_153 C hG a0 a1 a6 a10 s0 (a11 + a13) hk0 hzs0 (lv_sub hl [1, 2, 3, 4, 0] rfl)
set_option maxHeartbeats 4000000 in
set_option maxRecDepth 100000 in
theorem kFloating_sum_115 {p : Program} {l : Launch} {e : Env} {s : State} {m : MethodId} {args : Array Value} {below : List Frame} {meth : Method} {c : Code} {ad td : Nat → Nat} (C : pw_C p s m args meth c cFloating_sum 19 (some .long) "BitNumbers$Floating") (hG : pw_G (fun _ => False) ad td s s.heap) (a0 : Nat) (a1 : Int64) (a3 : Int64) (a6 : Int64) (a10 : Int32) (a11 : Int64) (a13 : Int64) (hk0 : a0 < 2) {ls : Array Slot} (hl : lv_has ls 19 [(0, .ref (ad a0)), (1, .long a1), (3, .long a3), (6, .long a6), (10, .int a10), (11, .long a11), (13, .long a13)]) : W p l e rmFloating_sum s m args below meth c s.heap [] 0 0 (MQ below (k2_QcV (.long (fFloating_sum_115 a0 a1 a3 a6 a10 a11 a13))) args s 0 0 (fun _ => False)) (F0 m 115 ls []) := by
  obtain ⟨hx, hb, hr, hml, hown, hts, hlocks⟩ := id C
  have hS : va_S (fun _ => False) s.heap s.heap [] := va_S.rf
  refine lv_aload_n hx hb dFloating_sum_115 rfl (lv_at hl 0 rfl) ?_
  refine lv_lload_n hx hb dFloating_sum_116 rfl (lv_at hl 1 rfl) ?_
  refine pw_call (va_runV (As := [.long a1]) (rest := []) ⟨hx, hb, hml, hown, hts⟩ (qFormat_isNegative l ad td a0 a1 hk0) (cwV 1 hts (gV w_383 w_142 w_143 w_44 w_144) rfl rfl rfl (by decide +kernel) ⟨Nat.le_of_ble_eq_true rfl, Nat.le_of_ble_eq_true rfl⟩) ⟨pw_bG, va_recvE hG.1 hk0 hS, fun U hU hW => ⟨rfl, (hG.at hU hW)⟩⟩ rfl rfl hl.1 rfl (lv_room (Nat.le_of_ble_eq_true rfl)) dFloating_sum_117 ⟨Nat.zero_le _, Nat.zero_le _⟩) ?_
  refine lv_aload_n hx hb dFloating_sum_120 rfl (lv_at hl 0 rfl) ?_
  refine lv_lload_n hx hb dFloating_sum_121 rfl (lv_at hl 2 rfl) ?_
  refine pw_call (va_runV (As := [.long a3]) (rest := [.int (fFormat_isNegative a0 a1)]) ⟨hx, hb, hml, hown, hts⟩ (qFormat_isNegative l ad td a0 a3 hk0) (cwV 1 hts (gV w_383 w_142 w_143 w_44 w_144) rfl rfl rfl (by decide +kernel) ⟨Nat.le_of_ble_eq_true rfl, Nat.le_of_ble_eq_true rfl⟩) ⟨pw_bG, va_recvE hG.1 hk0 hS, fun U hU hW => ⟨rfl, (hG.at hU hW)⟩⟩ rfl rfl hl.1 rfl (lv_room (Nat.le_of_ble_eq_true rfl)) dFloating_sum_122 ⟨Nat.zero_le _, Nat.zero_le _⟩) ?_
  refine lv_icmp_ne (tgt := 132) hx hb dFloating_sum_125 (by decide) (fun h1 => ?_) (fun h1 => ?_)
  · refine lv_iconst (v := 0) hx hb dFloating_sum_132 (by decide) ?_
    rw [(show fFloating_sum_115 a0 a1 a3 a6 a10 a11 a13 = fFloating_sum_133 a0 a1 a6 a10 a11 a13 0 by rw [fFloating_sum_115, if_neg h1])]
    exact kFloating_sum_133 C hG a0 a1 a6 a10 a11 a13 0 hk0 (Or.inl rfl) (lv_sub hl [0, 1, 3, 4, 5, 6] rfl)
  · refine lv_iconst (v := 1) hx hb dFloating_sum_128 (by decide) ?_
    refine lv_goto (tgt := 133) hx hb dFloating_sum_129 (by decide) ?_
    rw [(show fFloating_sum_115 a0 a1 a3 a6 a10 a11 a13 = fFloating_sum_133 a0 a1 a6 a10 a11 a13 1 by rw [fFloating_sum_115, if_pos h1])]
    exact kFloating_sum_133 C hG a0 a1 a6 a10 a11 a13 1 hk0 (Or.inr rfl) (lv_sub hl [0, 1, 3, 4, 5, 6] rfl)
set_option maxHeartbeats 4000000 in
set_option maxRecDepth 100000 in
theorem kFloating_sum_88 {p : Program} {l : Launch} {e : Env} {s : State} {m : MethodId} {args : Array Value} {below : List Frame} {meth : Method} {c : Code} {ad td : Nat → Nat} (C : pw_C p s m args meth c cFloating_sum 19 (some .long) "BitNumbers$Floating") (hG : pw_G (fun _ => False) ad td s s.heap) (a0 : Nat) (a1 : Int64) (a3 : Int64) (a6 : Int64) (a8 : Int64) (a10 : Int32) (a11 : Int64) (hk0 : a0 < 2) {ls : Array Slot} (hl : lv_has ls 19 [(0, .ref (ad a0)), (1, .long a1), (3, .long a3), (6, .long a6), (8, .long a8), (10, .int a10), (11, .long a11)]) : W p l e rmFloating_sum s m args below meth c s.heap [] 0 0 (MQ below (k2_QcV (.long (fFloating_sum_88 a0 a1 a3 a6 a8 a10 a11))) args s 0 0 (fun _ => False)) (F0 m 88 ls []) := by
  obtain ⟨hx, hb, hr, hml, hown, hts, hlocks⟩ := id C
  have hS : va_S (fun _ => False) s.heap s.heap [] := va_S.rf
  refine lv_aload_n hx hb dFloating_sum_88 rfl (lv_at hl 0 rfl) ?_
  refine lv_lload hx hb dFloating_sum_89 (lv_at hl 4 rfl) ?_
  refine pw_call (va_runV (As := [.long a8]) (rest := []) ⟨hx, hb, hml, hown, hts⟩ (qFormat_significand l ad td a0 a8 hk0) (cwV 1 hts (gV w_413 w_320 w_321 w_44 w_322) rfl rfl rfl (by decide +kernel) ⟨Nat.le_of_ble_eq_true rfl, Nat.le_of_ble_eq_true rfl⟩) ⟨pw_bG, va_recvE hG.1 hk0 hS, fun U hU hW => ⟨rfl, (hG.at hU hW)⟩⟩ rfl rfl hl.1 rfl (lv_room (Nat.le_of_ble_eq_true rfl)) dFloating_sum_91 ⟨Nat.zero_le _, Nat.zero_le _⟩) ?_
  refine lv_iload hx hb dFloating_sum_94 (lv_at hl 5 rfl) ?_
  refine lv_lshl (v := bn_shl (fFormat_significand a0 a8) a10) hx hb dFloating_sum_96 rfl ?_
  refine lv_aload_n hx hb dFloating_sum_97 rfl (lv_at hl 0 rfl) ?_
  refine lv_lload hx hb dFloating_sum_98 (lv_at hl 3 rfl) ?_
  refine pw_call (va_runV (As := [.long a6]) (rest := [.long (bn_shl (fFormat_significand a0 a8) a10)]) ⟨hx, hb, hml, hown, hts⟩ (qFormat_scale l ad td a0 a6 hk0) (cwV 1 hts (gV w_412 w_324 w_325 w_44 w_326) rfl rfl rfl (by decide +kernel) ⟨Nat.le_of_ble_eq_true rfl, Nat.le_of_ble_eq_true rfl⟩) ⟨pw_bG, va_recvE hG.1 hk0 hS, fun U hU hW => ⟨rfl, (hG.at hU hW)⟩⟩ rfl rfl hl.1 rfl (lv_room (Nat.le_of_ble_eq_true rfl)) dFloating_sum_100 ⟨Nat.zero_le _, Nat.zero_le _⟩) ?_
  refine lv_aload_n hx hb dFloating_sum_103 rfl (lv_at hl 0 rfl) ?_
  refine lv_lload hx hb dFloating_sum_104 (lv_at hl 4 rfl) ?_
  refine pw_call (va_runV (As := [.long a8]) (rest := [.int (fFormat_scale a0 a6), .long (bn_shl (fFormat_significand a0 a8) a10)]) ⟨hx, hb, hml, hown, hts⟩ (qFormat_scale l ad td a0 a8 hk0) (cwV 1 hts (gV w_412 w_324 w_325 w_44 w_326) rfl rfl rfl (by decide +kernel) ⟨Nat.le_of_ble_eq_true rfl, Nat.le_of_ble_eq_true rfl⟩) ⟨pw_bG, va_recvE hG.1 hk0 hS, fun U hU hW => ⟨rfl, (hG.at hU hW)⟩⟩ rfl rfl hl.1 rfl (lv_room (Nat.le_of_ble_eq_true rfl)) dFloating_sum_106 ⟨Nat.zero_le _, Nat.zero_le _⟩) ?_
  refine lv_isub hx hb dFloating_sum_109 ?_
  refine pw_call (va_runS (As := [.long (bn_shl (fFormat_significand a0 a8) a10), .int ((fFormat_scale a0 a6) - (fFormat_scale a0 a8))]) (rest := []) ⟨hx, hb, hml, hown, hts⟩ (qFloating_shiftedWithTrace l (bn_shl (fFormat_significand a0 a8) a10) ((fFormat_scale a0 a6) - (fFormat_scale a0 a8))) (va_cwS 2 hts (gS w_443 w_444 w_48 w_445) rfl rfl rfl (by decide +kernel) ⟨Nat.le_of_ble_eq_true rfl, Nat.le_of_ble_eq_true rfl⟩) ⟨pw_bT, fun U hU hW => ⟨rfl, trivial⟩⟩ rfl rfl hl.1 rfl (lv_room (Nat.le_of_ble_eq_true rfl)) dFloating_sum_110 ⟨Nat.zero_le _, Nat.zero_le _⟩) ?_
  refine lv_lstore (lv' := [(13, .long (fFloating_shiftedWithTrace (bn_shl (fFormat_significand a0 a8) a10) ((fFormat_scale a0 a6) - (fFormat_scale a0 a8)))), (0, .ref (ad a0)), (1, .long a1), (3, .long a3), (6, .long a6), (8, .long a8), (10, .int a10), (11, .long a11)]) hx hb dFloating_sum_113 hl (by decide) rfl (fun ls hl => ?_)
  rw [(show fFloating_sum_88 a0 a1 a3 a6 a8 a10 a11 = fFloating_sum_115 a0 a1 a3 a6 a10 a11 (fFloating_shiftedWithTrace (bn_shl (fFormat_significand a0 a8) a10) ((fFormat_scale a0 a6) - (fFormat_scale a0 a8))) by rw [fFloating_sum_88])]
  exact kFloating_sum_115 C hG a0 a1 a3 a6 a10 a11 (fFloating_shiftedWithTrace (bn_shl (fFormat_significand a0 a8) a10) ((fFormat_scale a0 a6) - (fFormat_scale a0 a8))) hk0 (lv_sub hl [1, 2, 3, 4, 6, 7, 0] rfl)
set_option maxHeartbeats 4000000 in
set_option maxRecDepth 100000 in
theorem kFloating_sum_77 {p : Program} {l : Launch} {e : Env} {s : State} {m : MethodId} {args : Array Value} {below : List Frame} {meth : Method} {c : Code} {ad td : Nat → Nat} (C : pw_C p s m args meth c cFloating_sum 19 (some .long) "BitNumbers$Floating") (hG : pw_G (fun _ => False) ad td s s.heap) (a0 : Nat) (a1 : Int64) (a3 : Int64) (a6 : Int64) (a8 : Int64) (a10 : Int32) (hk0 : a0 < 2) {ls : Array Slot} (hl : lv_has ls 19 [(0, .ref (ad a0)), (1, .long a1), (3, .long a3), (6, .long a6), (8, .long a8), (10, .int a10)]) : W p l e rmFloating_sum s m args below meth c s.heap [] 0 0 (MQ below (k2_QcV (.long (fFloating_sum_77 a0 a1 a3 a6 a8 a10))) args s 0 0 (fun _ => False)) (F0 m 77 ls []) := by
  obtain ⟨hx, hb, hr, hml, hown, hts, hlocks⟩ := id C
  have hS : va_S (fun _ => False) s.heap s.heap [] := va_S.rf
  refine lv_aload_n hx hb dFloating_sum_77 rfl (lv_at hl 0 rfl) ?_
  refine lv_lload hx hb dFloating_sum_78 (lv_at hl 3 rfl) ?_
  refine pw_call (va_runV (As := [.long a6]) (rest := []) ⟨hx, hb, hml, hown, hts⟩ (qFormat_significand l ad td a0 a6 hk0) (cwV 1 hts (gV w_413 w_320 w_321 w_44 w_322) rfl rfl rfl (by decide +kernel) ⟨Nat.le_of_ble_eq_true rfl, Nat.le_of_ble_eq_true rfl⟩) ⟨pw_bG, va_recvE hG.1 hk0 hS, fun U hU hW => ⟨rfl, (hG.at hU hW)⟩⟩ rfl rfl hl.1 rfl (lv_room (Nat.le_of_ble_eq_true rfl)) dFloating_sum_80 ⟨Nat.zero_le _, Nat.zero_le _⟩) ?_
  refine lv_iload hx hb dFloating_sum_83 (lv_at hl 5 rfl) ?_
  refine lv_lshl (v := bn_shl (fFormat_significand a0 a6) a10) hx hb dFloating_sum_85 rfl ?_
  refine lv_lstore (lv' := [(11, .long (bn_shl (fFormat_significand a0 a6) a10)), (0, .ref (ad a0)), (1, .long a1), (3, .long a3), (6, .long a6), (8, .long a8), (10, .int a10)]) hx hb dFloating_sum_86 hl (by decide) rfl (fun ls hl => ?_)
  rw [(show fFloating_sum_77 a0 a1 a3 a6 a8 a10 = fFloating_sum_88 a0 a1 a3 a6 a8 a10 (bn_shl (fFormat_significand a0 a6) a10) by rw [fFloating_sum_77])]
  exact kFloating_sum_88 C hG a0 a1 a3 a6 a8 a10 (bn_shl (fFormat_significand a0 a6) a10) hk0 (lv_sub hl [1, 2, 3, 4, 5, 6, 0] rfl)
set_option maxHeartbeats 4000000 in
set_option maxRecDepth 100000 in
theorem kFloating_sum_66 {p : Program} {l : Launch} {e : Env} {s : State} {m : MethodId} {args : Array Value} {below : List Frame} {meth : Method} {c : Code} {ad td : Nat → Nat} (C : pw_C p s m args meth c cFloating_sum 19 (some .long) "BitNumbers$Floating") (hG : pw_G (fun _ => False) ad td s s.heap) (a0 : Nat) (a1 : Int64) (a3 : Int64) (a6 : Int64) (s0 : Int64) (hk0 : a0 < 2) {ls : Array Slot} (hl : lv_has ls 19 [(0, .ref (ad a0)), (1, .long a1), (3, .long a3), (6, .long a6)]) : W p l e rmFloating_sum s m args below meth c s.heap [] 0 0 (MQ below (k2_QcV (.long (fFloating_sum_66 a0 a1 a3 a6 s0))) args s 0 0 (fun _ => False)) (F0 m 66 ls [.long s0]) := by
  obtain ⟨hx, hb, hr, hml, hown, hts, hlocks⟩ := id C
  have hS : va_S (fun _ => False) s.heap s.heap [] := va_S.rf
  refine lv_lstore (lv' := [(8, .long s0), (0, .ref (ad a0)), (1, .long a1), (3, .long a3), (6, .long a6)]) hx hb dFloating_sum_66 hl (by decide) rfl (fun ls hl => ?_)
  refine lv_bipush (v := 62) hx hb dFloating_sum_68 (by decide) ?_
  refine lv_aload_n hx hb dFloating_sum_70 rfl (lv_at hl 1 rfl) ?_
  refine va_getX hx hb hG.2.1.1 hk0 hS hown (hts _ w_816) (fun _ h9 => h9) dFloating_sum_71 ?_
  refine lv_isub hx hb dFloating_sum_74 ?_
  refine lv_istore (lv' := [(10, .int (62 - (fm_places a0))), (8, .long s0), (0, .ref (ad a0)), (1, .long a1), (3, .long a3), (6, .long a6)]) hx hb dFloating_sum_75 hl (by decide) rfl (fun ls hl => ?_)
  rw [(show fFloating_sum_66 a0 a1 a3 a6 s0 = fFloating_sum_77 a0 a1 a3 a6 s0 (62 - (fm_places a0)) by rw [fFloating_sum_66])]
  exact kFloating_sum_77 C hG a0 a1 a3 a6 s0 (62 - (fm_places a0)) hk0 (lv_sub hl [2, 3, 4, 5, 1, 0] rfl)
set_option maxHeartbeats 4000000 in
set_option maxRecDepth 100000 in
theorem kFloating_sum_54 {p : Program} {l : Launch} {e : Env} {s : State} {m : MethodId} {args : Array Value} {below : List Frame} {meth : Method} {c : Code} {ad td : Nat → Nat} (C : pw_C p s m args meth c cFloating_sum 19 (some .long) "BitNumbers$Floating") (hG : pw_G (fun _ => False) ad td s s.heap) (a0 : Nat) (a1 : Int64) (a3 : Int64) (a5 : Int32) (s0 : Int64) (hk0 : a0 < 2) (hz5 : a5 = 0 ∨ a5 = 1) {ls : Array Slot} (hl : lv_has ls 19 [(0, .ref (ad a0)), (1, .long a1), (3, .long a3), (5, .int a5)]) : W p l e rmFloating_sum s m args below meth c s.heap [] 0 0 (MQ below (k2_QcV (.long (fFloating_sum_54 a0 a1 a3 a5 s0))) args s 0 0 (fun _ => False)) (F0 m 54 ls [.long s0]) := by
  obtain ⟨hx, hb, hr, hml, hown, hts, hlocks⟩ := id C
  have hS : va_S (fun _ => False) s.heap s.heap [] := va_S.rf
  refine lv_lstore (lv' := [(6, .long s0), (0, .ref (ad a0)), (1, .long a1), (3, .long a3), (5, .int a5)]) hx hb dFloating_sum_54 hl (by decide) rfl (fun ls hl => ?_)
  refine lv_iload hx hb dFloating_sum_56 (lv_at hl 4 rfl) ?_
  refine lv_if_eq (tgt := 65) hx hb dFloating_sum_58 (by decide) (fun h1 => ?_) (fun h1 => ?_)
  · refine lv_lload_n hx hb dFloating_sum_65 rfl (lv_at hl 2 rfl) ?_
    rw [(show fFloating_sum_54 a0 a1 a3 a5 s0 = fFloating_sum_66 a0 a1 a3 s0 a1 by rw [fFloating_sum_54, if_pos h1])]
    exact kFloating_sum_66 C hG a0 a1 a3 s0 a1 hk0 (lv_sub hl [1, 2, 3, 0] rfl)
  · refine lv_lload_n hx hb dFloating_sum_61 rfl (lv_at hl 3 rfl) ?_
    refine lv_goto (tgt := 66) hx hb dFloating_sum_62 (by decide) ?_
    rw [(show fFloating_sum_54 a0 a1 a3 a5 s0 = fFloating_sum_66 a0 a1 a3 s0 a3 by rw [fFloating_sum_54, if_neg h1])]
    exact kFloating_sum_66 C hG a0 a1 a3 s0 a3 hk0 (lv_sub hl [1, 2, 3, 0] rfl)
set_option maxHeartbeats 4000000 in
set_option maxRecDepth 100000 in
theorem kFloating_sum_42 {p : Program} {l : Launch} {e : Env} {s : State} {m : MethodId} {args : Array Value} {below : List Frame} {meth : Method} {c : Code} {ad td : Nat → Nat} (C : pw_C p s m args meth c cFloating_sum 19 (some .long) "BitNumbers$Floating") (hG : pw_G (fun _ => False) ad td s s.heap) (a0 : Nat) (a1 : Int64) (a3 : Int64) (s0 : Int32) (hk0 : a0 < 2) (hzs0 : s0 = 0 ∨ s0 = 1) {ls : Array Slot} (hl : lv_has ls 19 [(0, .ref (ad a0)), (1, .long a1), (3, .long a3)]) : W p l e rmFloating_sum s m args below meth c s.heap [] 0 0 (MQ below (k2_QcV (.long (fFloating_sum_42 a0 a1 a3 s0))) args s 0 0 (fun _ => False)) (F0 m 42 ls [.int s0]) := by
  obtain ⟨hx, hb, hr, hml, hown, hts, hlocks⟩ := id C
  have hS : va_S (fun _ => False) s.heap s.heap [] := va_S.rf
  refine lv_istore (lv' := [(5, .int s0), (0, .ref (ad a0)), (1, .long a1), (3, .long a3)]) hx hb dFloating_sum_42 hl (by decide) rfl (fun ls hl => ?_)
  refine lv_iload hx hb dFloating_sum_44 (lv_at hl 0 rfl) ?_
  refine lv_if_eq (tgt := 53) hx hb dFloating_sum_46 (by decide) (fun h1 => ?_) (fun h1 => ?_)
  · refine lv_lload_n hx hb dFloating_sum_53 rfl (lv_at hl 3 rfl) ?_
    rw [(show fFloating_sum_42 a0 a1 a3 s0 = fFloating_sum_54 a0 a1 a3 s0 a3 by rw [fFloating_sum_42, if_pos h1])]
    exact kFloating_sum_54 C hG a0 a1 a3 s0 a3 hk0 hzs0 (lv_sub hl [1, 2, 3, 0] rfl)
  · refine lv_lload_n hx hb dFloating_sum_49 rfl (lv_at hl 2 rfl) ?_
    refine lv_goto (tgt := 54) hx hb dFloating_sum_50 (by decide) ?_
    rw [(show fFloating_sum_42 a0 a1 a3 s0 = fFloating_sum_54 a0 a1 a3 s0 a1 by rw [fFloating_sum_42, if_neg h1])]
    exact kFloating_sum_54 C hG a0 a1 a3 s0 a1 hk0 hzs0 (lv_sub hl [1, 2, 3, 0] rfl)
set_option maxHeartbeats 4000000 in
set_option maxRecDepth 100000 in
theorem kFloating_sum_16 {p : Program} {l : Launch} {e : Env} {s : State} {m : MethodId} {args : Array Value} {below : List Frame} {meth : Method} {c : Code} {ad td : Nat → Nat} (C : pw_C p s m args meth c cFloating_sum 19 (some .long) "BitNumbers$Floating") (hG : pw_G (fun _ => False) ad td s s.heap) (a0 : Nat) (a1 : Int64) (a3 : Int64) (hk0 : a0 < 2) {ls : Array Slot} (hl : lv_has ls 19 [(0, .ref (ad a0)), (1, .long a1), (3, .long a3)]) : W p l e rmFloating_sum s m args below meth c s.heap [] 0 0 (MQ below (k2_QcV (.long (fFloating_sum_16 a0 a1 a3))) args s 0 0 (fun _ => False)) (F0 m 16 ls []) := by
  obtain ⟨hx, hb, hr, hml, hown, hts, hlocks⟩ := id C
  have hS : va_S (fun _ => False) s.heap s.heap [] := va_S.rf
  refine lv_aload_n hx hb dFloating_sum_16 rfl (lv_at hl 0 rfl) ?_
  refine lv_lload_n hx hb dFloating_sum_17 rfl (lv_at hl 1 rfl) ?_
  refine lv_lload_n hx hb dFloating_sum_18 rfl (lv_at hl 2 rfl) ?_
  refine pw_call (va_runS (As := [.ref (ad a0), .long a1, .long a3]) (rest := []) ⟨hx, hb, hml, hown, hts⟩ (qFloating_sumWithInfinite l ad td a0 a1 a3 hk0) (va_cwS 3 hts (gS w_440 w_441 w_48 w_442) rfl rfl rfl (by decide +kernel) ⟨Nat.le_of_ble_eq_true rfl, Nat.le_of_ble_eq_true rfl⟩) ⟨pw_bG, fun U hU hW => ⟨rfl, (hG.at hU hW)⟩⟩ rfl rfl hl.1 rfl (lv_room (Nat.le_of_ble_eq_true rfl)) dFloating_sum_19 ⟨Nat.zero_le _, Nat.zero_le _⟩) ?_
  exact W.lret hx hb hr (fun t ht _ => ⟨by rw [(show fFloating_sum_16 a0 a1 a3 = fFloating_sumWithInfinite a0 a1 a3 by rw [fFloating_sum_16])], ht⟩) (fun q h => nomatch h) dFloating_sum_22
set_option maxHeartbeats 4000000 in
set_option maxRecDepth 100000 in
theorem kFloating_sum_0 {p : Program} {l : Launch} {e : Env} {s : State} {m : MethodId} {args : Array Value} {below : List Frame} {meth : Method} {c : Code} {ad td : Nat → Nat} (C : pw_C p s m args meth c cFloating_sum 19 (some .long) "BitNumbers$Floating") (hG : pw_G (fun _ => False) ad td s s.heap) (a0 : Nat) (a1 : Int64) (a3 : Int64) (hk0 : a0 < 2) {ls : Array Slot} (hl : lv_has ls 19 [(0, .ref (ad a0)), (1, .long a1), (3, .long a3)]) : W p l e rmFloating_sum s m args below meth c s.heap [] 0 0 (MQ below (k2_QcV (.long (fFloating_sum a0 a1 a3))) args s 0 0 (fun _ => False)) (F0 m 0 ls []) := by
  obtain ⟨hx, hb, hr, hml, hown, hts, hlocks⟩ := id C
  have hS : va_S (fun _ => False) s.heap s.heap [] := va_S.rf
  refine lv_aload_n hx hb dFloating_sum_0 rfl (lv_at hl 0 rfl) ?_
  refine lv_lload_n hx hb dFloating_sum_1 rfl (lv_at hl 1 rfl) ?_
  refine pw_call (va_runV (As := [.long a1]) (rest := []) ⟨hx, hb, hml, hown, hts⟩ (qFormat_isInfinite l ad td a0 a1 hk0) (cwV 1 hts (gV w_431 w_159 w_160 w_44 w_161) rfl rfl rfl (by decide +kernel) ⟨Nat.le_of_ble_eq_true rfl, Nat.le_of_ble_eq_true rfl⟩) ⟨pw_bG, va_recvE hG.1 hk0 hS, fun U hU hW => ⟨rfl, (hG.at hU hW)⟩⟩ rfl rfl hl.1 rfl (lv_room (Nat.le_of_ble_eq_true rfl)) dFloating_sum_2 ⟨Nat.zero_le _, Nat.zero_le _⟩) ?_
  refine lv_if_ne (tgt := 16) hx hb dFloating_sum_5 (by decide) (fun h1 => ?_) (fun h1 => ?_)
  · rw [(show fFloating_sum a0 a1 a3 = fFloating_sum_16 a0 a1 a3 by rw [fFloating_sum, if_neg h1])]
    exact kFloating_sum_16 C hG a0 a1 a3 hk0 (lv_sub hl [0, 1, 2] rfl)
  · refine lv_aload_n hx hb dFloating_sum_8 rfl (lv_at hl 0 rfl) ?_
    refine lv_lload_n hx hb dFloating_sum_9 rfl (lv_at hl 2 rfl) ?_
    refine pw_call (va_runV (As := [.long a3]) (rest := []) ⟨hx, hb, hml, hown, hts⟩ (qFormat_isInfinite l ad td a0 a3 hk0) (cwV 1 hts (gV w_431 w_159 w_160 w_44 w_161) rfl rfl rfl (by decide +kernel) ⟨Nat.le_of_ble_eq_true rfl, Nat.le_of_ble_eq_true rfl⟩) ⟨pw_bG, va_recvE hG.1 hk0 hS, fun U hU hW => ⟨rfl, (hG.at hU hW)⟩⟩ rfl rfl hl.1 rfl (lv_room (Nat.le_of_ble_eq_true rfl)) dFloating_sum_10 ⟨Nat.zero_le _, Nat.zero_le _⟩) ?_
    refine lv_if_eq (tgt := 23) hx hb dFloating_sum_13 (by decide) (fun h2 => ?_) (fun h2 => ?_)
    · refine lv_aload_n hx hb dFloating_sum_23 rfl (lv_at hl 0 rfl) ?_
      refine lv_lload_n hx hb dFloating_sum_24 rfl (lv_at hl 1 rfl) ?_
      refine pw_call (va_runV (As := [.long a1]) (rest := []) ⟨hx, hb, hml, hown, hts⟩ (qFormat_magnitude l ad td a0 a1 hk0) (cwV 1 hts (gV w_379 w_380 w_381 w_44 w_382) rfl rfl rfl (by decide +kernel) ⟨Nat.le_of_ble_eq_true rfl, Nat.le_of_ble_eq_true rfl⟩) ⟨pw_bG, va_recvE hG.1 hk0 hS, fun U hU hW => ⟨rfl, (hG.at hU hW)⟩⟩ rfl rfl hl.1 rfl (lv_room (Nat.le_of_ble_eq_true rfl)) dFloating_sum_25 ⟨Nat.zero_le _, Nat.zero_le _⟩) ?_
      refine lv_aload_n hx hb dFloating_sum_28 rfl (lv_at hl 0 rfl) ?_
      refine lv_lload_n hx hb dFloating_sum_29 rfl (lv_at hl 2 rfl) ?_
      refine pw_call (va_runV (As := [.long a3]) (rest := [.long (fFormat_magnitude a0 a1)]) ⟨hx, hb, hml, hown, hts⟩ (qFormat_magnitude l ad td a0 a3 hk0) (cwV 1 hts (gV w_379 w_380 w_381 w_44 w_382) rfl rfl rfl (by decide +kernel) ⟨Nat.le_of_ble_eq_true rfl, Nat.le_of_ble_eq_true rfl⟩) ⟨pw_bG, va_recvE hG.1 hk0 hS, fun U hU hW => ⟨rfl, (hG.at hU hW)⟩⟩ rfl rfl hl.1 rfl (lv_room (Nat.le_of_ble_eq_true rfl)) dFloating_sum_30 ⟨Nat.zero_le _, Nat.zero_le _⟩) ?_
      refine W.lcmp hx hb dFloating_sum_33 ?_
      refine lv_if_lt (tgt := 41) hx hb dFloating_sum_34 (by decide) (fun h3 => ?_) (fun h3 => ?_)
      · have h3 : (fFormat_magnitude a0 a1) < (fFormat_magnitude a0 a3) := (lg_cmp_lt _ _).mp h3
        refine lv_iconst (v := 0) hx hb dFloating_sum_41 (by decide) ?_
        rw [(show fFloating_sum a0 a1 a3 = fFloating_sum_42 a0 a1 a3 0 by rw [fFloating_sum, if_pos h1, if_pos h2, if_pos h3])]
        exact kFloating_sum_42 C hG a0 a1 a3 0 hk0 (Or.inl rfl) (lv_sub hl [0, 1, 2] rfl)
      · have h3 : ¬ ((fFormat_magnitude a0 a1) < (fFormat_magnitude a0 a3)) := fun w => h3 ((lg_cmp_lt _ _).mpr w)
        refine lv_iconst (v := 1) hx hb dFloating_sum_37 (by decide) ?_
        refine lv_goto (tgt := 42) hx hb dFloating_sum_38 (by decide) ?_
        rw [(show fFloating_sum a0 a1 a3 = fFloating_sum_42 a0 a1 a3 1 by rw [fFloating_sum, if_pos h1, if_pos h2, if_neg h3])]
        exact kFloating_sum_42 C hG a0 a1 a3 1 hk0 (Or.inr rfl) (lv_sub hl [0, 1, 2] rfl)
    · rw [(show fFloating_sum a0 a1 a3 = fFloating_sum_16 a0 a1 a3 by rw [fFloating_sum, if_pos h1, if_neg h2])]
      exact kFloating_sum_16 C hG a0 a1 a3 hk0 (lv_sub hl [0, 1, 2] rfl)
set_option maxHeartbeats 4000000 in
set_option maxRecDepth 100000 in
theorem qFloating_sum (l : Launch) (ad td : Nat → Nat) (a0 : Nat) (a1 : Int64) (a3 : Int64) (hk0 : a0 < 2) : Met l yFloating_sum wsFloating_sum rmFloating_sum (va_Pc [.ref (ad a0), .long a1, .long a3] (fun U => pw_G (fun _ => False) ad td U U.heap)) (k2_QcV (.long (fFloating_sum a0 a1 a3))) 0 0 (fun _ => False) := by
  refine Met.ofW (cc := cFloating_sum) (maxL := 19) (ret := (some .long)) (by decide) rfl ?_
  intro p e s m args below meth c s₁ B hml hv
  obtain ⟨rfl, hG⟩ := hv
  have hts0 := atoms_spec (ws := wsFloating_sum) B.pre
  have hts := fun (w : Cond) (h : w ∈ aw) => hts0 w (List.mem_cons_of_mem _ h)
  have hown : s.vm.findClass "BitNumbers$Floating" = some m.cls := findClass_of_methodNamed B.named
  have hl := lv_entry ([.ref (ad a0), .long a1, .long a3]) (n := 19) (Nat.le_of_ble_eq_true rfl)
  rw [lg_entry_eq]
  generalize (lg_sl ([.ref (ad a0), .long a1, .long a3]) ++ List.replicate (19 - (lg_sl ([.ref (ad a0), .long a1, .long a3])).length) Slot.unset).toArray = ls at hl ⊢
  exact kFloating_sum_0 ⟨B.exec, B.bytes, B.returns, hml, hown, hts, B.notSynchronized⟩ hG a0 a1 a3 hk0 hl

set_option maxHeartbeats 4000000 in
set_option maxRecDepth 100000 in
theorem kFloating_highProduct_56 {p : Program} {l : Launch} {e : Env} {s : State} {m : MethodId} {args : Array Value} {below : List Frame} {meth : Method} {c : Code} (C : pw_C p s m args meth c cFloating_highProduct 16 (some .long) "BitNumbers$Floating") (a8 : Int64) (a10 : Int64) (a12 : Int64) (a14 : Int64) {ls : Array Slot} (hl : lv_has ls 16 [(8, .long a8), (10, .long a10), (12, .long a12), (14, .long a14)]) : W p l e rmFloating_highProduct s m args below meth c s.heap [] 0 0 (MQ below (k2_QcV (.long (fFloating_highProduct_56 a8 a10 a12 a14))) args s 0 0 (fun _ => False)) (F0 m 56 ls []) := by
  obtain ⟨hx, hb, hr, hml, hown, hts, hlocks⟩ := id C
  refine lv_lload hx hb dFloating_highProduct_56 (lv_at hl 0 rfl) ?_
  refine lv_lload hx hb dFloating_highProduct_58 (lv_at hl 1 rfl) ?_
  refine lv_lmul hx hb dFloating_highProduct_60 ?_
  refine lv_lload hx hb dFloating_highProduct_61 (lv_at hl 2 rfl) ?_
  refine lv_bipush (v := 32) hx hb dFloating_highProduct_63 (by decide) ?_
  refine lv_lushr (v := bn_shr a12 32) hx hb dFloating_highProduct_65 rfl ?_
  refine lv_ladd hx hb dFloating_highProduct_66 ?_
  refine lv_lload hx hb dFloating_highProduct_67 (lv_at hl 3 rfl) ?_
  refine lv_bipush (v := 32) hx hb dFloating_highProduct_69 (by decide) ?_
  refine lv_lushr (v := bn_shr a14 32) hx hb dFloating_highProduct_71 rfl ?_
  refine lv_ladd hx hb dFloating_highProduct_72 ?_
  exact W.lret hx hb hr (fun t ht _ => ⟨by rw [(show fFloating_highProduct_56 a8 a10 a12 a14 = ((a8 * a10) + (bn_shr a12 32)) + (bn_shr a14 32) by rw [fFloating_highProduct_56])], ht⟩) (fun q h => nomatch h) dFloating_highProduct_73
set_option maxHeartbeats 4000000 in
set_option maxRecDepth 100000 in
theorem kFloating_highProduct_42 {p : Program} {l : Launch} {e : Env} {s : State} {m : MethodId} {args : Array Value} {below : List Frame} {meth : Method} {c : Code} (C : pw_C p s m args meth c cFloating_highProduct 16 (some .long) "BitNumbers$Floating") (a4 : Int64) (a8 : Int64) (a10 : Int64) (a12 : Int64) {ls : Array Slot} (hl : lv_has ls 16 [(4, .long a4), (8, .long a8), (10, .long a10), (12, .long a12)]) : W p l e rmFloating_highProduct s m args below meth c s.heap [] 0 0 (MQ below (k2_QcV (.long (fFloating_highProduct_42 a4 a8 a10 a12))) args s 0 0 (fun _ => False)) (F0 m 42 ls []) := by
  obtain ⟨hx, hb, hr, hml, hown, hts, hlocks⟩ := id C
  refine lv_lload hx hb dFloating_highProduct_42 (lv_at hl 0 rfl) ?_
  refine lv_lload hx hb dFloating_highProduct_44 (lv_at hl 2 rfl) ?_
  refine lv_lmul hx hb dFloating_highProduct_46 ?_
  refine lv_lload hx hb dFloating_highProduct_47 (lv_at hl 3 rfl) ?_
  refine lv_ldc2 hx hb hown (hts _ w_452) dFloating_highProduct_49 ?_
  refine lv_land hx hb dFloating_highProduct_52 ?_
  refine lv_ladd hx hb dFloating_highProduct_53 ?_
  refine lv_lstore (lv' := [(14, .long ((a4 * a10) + (a12 &&& 4294967295))), (4, .long a4), (8, .long a8), (10, .long a10), (12, .long a12)]) hx hb dFloating_highProduct_54 hl (by decide) rfl (fun ls hl => ?_)
  rw [(show fFloating_highProduct_42 a4 a8 a10 a12 = fFloating_highProduct_56 a8 a10 a12 ((a4 * a10) + (a12 &&& 4294967295)) by rw [fFloating_highProduct_42])]
  exact kFloating_highProduct_56 C a8 a10 a12 ((a4 * a10) + (a12 &&& 4294967295)) (lv_sub hl [2, 3, 4, 0] rfl)
set_option maxHeartbeats 4000000 in
set_option maxRecDepth 100000 in
theorem kFloating_highProduct_26 {p : Program} {l : Launch} {e : Env} {s : State} {m : MethodId} {args : Array Value} {below : List Frame} {meth : Method} {c : Code} (C : pw_C p s m args meth c cFloating_highProduct 16 (some .long) "BitNumbers$Floating") (a4 : Int64) (a6 : Int64) (a8 : Int64) (a10 : Int64) {ls : Array Slot} (hl : lv_has ls 16 [(4, .long a4), (6, .long a6), (8, .long a8), (10, .long a10)]) : W p l e rmFloating_highProduct s m args below meth c s.heap [] 0 0 (MQ below (k2_QcV (.long (fFloating_highProduct_26 a4 a6 a8 a10))) args s 0 0 (fun _ => False)) (F0 m 26 ls []) := by
  obtain ⟨hx, hb, hr, hml, hown, hts, hlocks⟩ := id C
  refine lv_lload hx hb dFloating_highProduct_26 (lv_at hl 2 rfl) ?_
  refine lv_lload hx hb dFloating_highProduct_28 (lv_at hl 1 rfl) ?_
  refine lv_lmul hx hb dFloating_highProduct_30 ?_
  refine lv_lload hx hb dFloating_highProduct_31 (lv_at hl 0 rfl) ?_
  refine lv_lload hx hb dFloating_highProduct_33 (lv_at hl 1 rfl) ?_
  refine lv_lmul hx hb dFloating_highProduct_35 ?_
  refine lv_bipush (v := 32) hx hb dFloating_highProduct_36 (by decide) ?_
  refine lv_lushr (v := bn_shr (a4 * a6) 32) hx hb dFloating_highProduct_38 rfl ?_
  refine lv_ladd hx hb dFloating_highProduct_39 ?_
  refine lv_lstore (lv' := [(12, .long ((a8 * a6) + (bn_shr (a4 * a6) 32))), (4, .long a4), (6, .long a6), (8, .long a8), (10, .long a10)]) hx hb dFloating_highProduct_40 hl (by decide) rfl (fun ls hl => ?_)
  rw [(show fFloating_highProduct_26 a4 a6 a8 a10 = fFloating_highProduct_42 a4 a8 a10 ((a8 * a6) + (bn_shr (a4 * a6) 32)) by rw [fFloating_highProduct_26])]
  exact kFloating_highProduct_42 C a4 a8 a10 ((a8 * a6) + (bn_shr (a4 * a6) 32)) (lv_sub hl [1, 3, 4, 0] rfl)
set_option maxHeartbeats 4000000 in
set_option maxRecDepth 100000 in
theorem kFloating_highProduct_20 {p : Program} {l : Launch} {e : Env} {s : State} {m : MethodId} {args : Array Value} {below : List Frame} {meth : Method} {c : Code} (C : pw_C p s m args meth c cFloating_highProduct 16 (some .long) "BitNumbers$Floating") (a2 : Int64) (a4 : Int64) (a6 : Int64) (a8 : Int64) {ls : Array Slot} (hl : lv_has ls 16 [(2, .long a2), (4, .long a4), (6, .long a6), (8, .long a8)]) : W p l e rmFloating_highProduct s m args below meth c s.heap [] 0 0 (MQ below (k2_QcV (.long (fFloating_highProduct_20 a2 a4 a6 a8))) args s 0 0 (fun _ => False)) (F0 m 20 ls []) := by
  obtain ⟨hx, hb, hr, hml, hown, hts, hlocks⟩ := id C
  refine lv_lload_n hx hb dFloating_highProduct_20 rfl (lv_at hl 0 rfl) ?_
  refine lv_bipush (v := 32) hx hb dFloating_highProduct_21 (by decide) ?_
  refine lv_lushr (v := bn_shr a2 32) hx hb dFloating_highProduct_23 rfl ?_
  refine lv_lstore (lv' := [(10, .long (bn_shr a2 32)), (2, .long a2), (4, .long a4), (6, .long a6), (8, .long a8)]) hx hb dFloating_highProduct_24 hl (by decide) rfl (fun ls hl => ?_)
  rw [(show fFloating_highProduct_20 a2 a4 a6 a8 = fFloating_highProduct_26 a4 a6 a8 (bn_shr a2 32) by rw [fFloating_highProduct_20])]
  exact kFloating_highProduct_26 C a4 a6 a8 (bn_shr a2 32) (lv_sub hl [2, 3, 4, 0] rfl)
set_option maxHeartbeats 4000000 in
set_option maxRecDepth 100000 in
theorem kFloating_highProduct_14 {p : Program} {l : Launch} {e : Env} {s : State} {m : MethodId} {args : Array Value} {below : List Frame} {meth : Method} {c : Code} (C : pw_C p s m args meth c cFloating_highProduct 16 (some .long) "BitNumbers$Floating") (a0 : Int64) (a2 : Int64) (a4 : Int64) (a6 : Int64) {ls : Array Slot} (hl : lv_has ls 16 [(0, .long a0), (2, .long a2), (4, .long a4), (6, .long a6)]) : W p l e rmFloating_highProduct s m args below meth c s.heap [] 0 0 (MQ below (k2_QcV (.long (fFloating_highProduct_14 a0 a2 a4 a6))) args s 0 0 (fun _ => False)) (F0 m 14 ls []) := by
  obtain ⟨hx, hb, hr, hml, hown, hts, hlocks⟩ := id C
  refine lv_lload_n hx hb dFloating_highProduct_14 rfl (lv_at hl 0 rfl) ?_
  refine lv_bipush (v := 32) hx hb dFloating_highProduct_15 (by decide) ?_
  refine lv_lushr (v := bn_shr a0 32) hx hb dFloating_highProduct_17 rfl ?_
  refine lv_lstore (lv' := [(8, .long (bn_shr a0 32)), (0, .long a0), (2, .long a2), (4, .long a4), (6, .long a6)]) hx hb dFloating_highProduct_18 hl (by decide) rfl (fun ls hl => ?_)
  rw [(show fFloating_highProduct_14 a0 a2 a4 a6 = fFloating_highProduct_20 a2 a4 a6 (bn_shr a0 32) by rw [fFloating_highProduct_14])]
  exact kFloating_highProduct_20 C a2 a4 a6 (bn_shr a0 32) (lv_sub hl [2, 3, 4, 0] rfl)
set_option maxHeartbeats 4000000 in
set_option maxRecDepth 100000 in
theorem kFloating_highProduct_7 {p : Program} {l : Launch} {e : Env} {s : State} {m : MethodId} {args : Array Value} {below : List Frame} {meth : Method} {c : Code} (C : pw_C p s m args meth c cFloating_highProduct 16 (some .long) "BitNumbers$Floating") (a0 : Int64) (a2 : Int64) (a4 : Int64) {ls : Array Slot} (hl : lv_has ls 16 [(0, .long a0), (2, .long a2), (4, .long a4)]) : W p l e rmFloating_highProduct s m args below meth c s.heap [] 0 0 (MQ below (k2_QcV (.long (fFloating_highProduct_7 a0 a2 a4))) args s 0 0 (fun _ => False)) (F0 m 7 ls []) := by
  obtain ⟨hx, hb, hr, hml, hown, hts, hlocks⟩ := id C
  refine lv_lload_n hx hb dFloating_highProduct_7 rfl (lv_at hl 1 rfl) ?_
  refine lv_ldc2 hx hb hown (hts _ w_452) dFloating_highProduct_8 ?_
  refine lv_land hx hb dFloating_highProduct_11 ?_
  refine lv_lstore (lv' := [(6, .long (a2 &&& 4294967295)), (0, .long a0), (2, .long a2), (4, .long a4)]) hx hb dFloating_highProduct_12 hl (by decide) rfl (fun ls hl => ?_)
  rw [(show fFloating_highProduct_7 a0 a2 a4 = fFloating_highProduct_14 a0 a2 a4 (a2 &&& 4294967295) by rw [fFloating_highProduct_7])]
  exact kFloating_highProduct_14 C a0 a2 a4 (a2 &&& 4294967295) (lv_sub hl [1, 2, 3, 0] rfl)
set_option maxHeartbeats 4000000 in
set_option maxRecDepth 100000 in
theorem kFloating_highProduct_0 {p : Program} {l : Launch} {e : Env} {s : State} {m : MethodId} {args : Array Value} {below : List Frame} {meth : Method} {c : Code} (C : pw_C p s m args meth c cFloating_highProduct 16 (some .long) "BitNumbers$Floating") (a0 : Int64) (a2 : Int64) {ls : Array Slot} (hl : lv_has ls 16 [(0, .long a0), (2, .long a2)]) : W p l e rmFloating_highProduct s m args below meth c s.heap [] 0 0 (MQ below (k2_QcV (.long (fFloating_highProduct a0 a2))) args s 0 0 (fun _ => False)) (F0 m 0 ls []) := by
  obtain ⟨hx, hb, hr, hml, hown, hts, hlocks⟩ := id C
  refine lv_lload_n hx hb dFloating_highProduct_0 rfl (lv_at hl 0 rfl) ?_
  refine lv_ldc2 hx hb hown (hts _ w_452) dFloating_highProduct_1 ?_
  refine lv_land hx hb dFloating_highProduct_4 ?_
  refine lv_lstore (lv' := [(4, .long (a0 &&& 4294967295)), (0, .long a0), (2, .long a2)]) hx hb dFloating_highProduct_5 hl (by decide) rfl (fun ls hl => ?_)
  rw [(show fFloating_highProduct a0 a2 = fFloating_highProduct_7 a0 a2 (a0 &&& 4294967295) by rw [fFloating_highProduct])]
  exact kFloating_highProduct_7 C a0 a2 (a0 &&& 4294967295) (lv_sub hl [1, 2, 0] rfl)
set_option maxHeartbeats 4000000 in
set_option maxRecDepth 100000 in
theorem qFloating_highProduct (l : Launch) (a0 : Int64) (a2 : Int64) : Met l yFloating_highProduct wsFloating_highProduct rmFloating_highProduct (va_Pc [.long a0, .long a2] (fun _ => True)) (k2_QcV (.long (fFloating_highProduct a0 a2))) 0 0 (fun _ => False) := by
  refine Met.ofW (cc := cFloating_highProduct) (maxL := 16) (ret := (some .long)) (by decide) rfl ?_
  intro p e s m args below meth c s₁ B hml hv
  obtain ⟨rfl, hG⟩ := hv
  have hts0 := atoms_spec (ws := wsFloating_highProduct) B.pre
  have hts := fun (w : Cond) (h : w ∈ aw) => hts0 w (List.mem_cons_of_mem _ h)
  have hown : s.vm.findClass "BitNumbers$Floating" = some m.cls := findClass_of_methodNamed B.named
  have hl := lv_entry ([.long a0, .long a2]) (n := 16) (Nat.le_of_ble_eq_true rfl)
  rw [lg_entry_eq]
  generalize (lg_sl ([.long a0, .long a2]) ++ List.replicate (16 - (lg_sl ([.long a0, .long a2])).length) Slot.unset).toArray = ls at hl ⊢
  exact kFloating_highProduct_0 ⟨B.exec, B.bytes, B.returns, hml, hown, hts, B.notSynchronized⟩ a0 a2 hl

set_option maxHeartbeats 4000000 in
set_option maxRecDepth 100000 in
theorem kFloating_product_188 {p : Program} {l : Launch} {e : Env} {s : State} {m : MethodId} {args : Array Value} {below : List Frame} {meth : Method} {c : Code} {ad td : Nat → Nat} (C : pw_C p s m args meth c cFloating_product 16 (some .long) "BitNumbers$Floating") (hG : pw_G (fun _ => False) ad td s s.heap) (a15 : Int32) (s0 : Int64) (s1 : Int32) (s2 : Nat) (hzs1 : s1 = 0 ∨ s1 = 1) (hks2 : s2 < 2) {ls : Array Slot} (hl : lv_has ls 16 [(15, .int a15)]) : W p l e rmFloating_product s m args below meth c s.heap [] 0 0 (MQ below (k2_QcV (.long (fFloating_product_188 a15 s0 s1 s2))) args s 0 0 (fun _ => False)) (F0 m 188 ls [.long s0, .int s1, .ref (ad s2)]) := by
  obtain ⟨hx, hb, hr, hml, hown, hts, hlocks⟩ := id C
  have hS : va_S (fun _ => False) s.heap s.heap [] := va_S.rf
  refine lv_iload hx hb dFloating_product_188 (lv_at hl 0 rfl) ?_
  refine pw_call (va_runV (As := [.int s1, .long s0, .int a15]) (rest := []) ⟨hx, hb, hml, hown, hts⟩ (qFormat_rounded l ad td s2 s1 s0 a15 hks2) (cwV 3 hts (gV w_417 w_418 w_419 w_44 w_420) rfl rfl rfl (by decide +kernel) ⟨Nat.le_of_ble_eq_true rfl, Nat.le_of_ble_eq_true rfl⟩) ⟨pw_bG, va_recvE hG.1 hks2 hS, fun U hU hW => ⟨rfl, (hG.at hU hW)⟩⟩ rfl rfl hl.1 rfl (lv_room (Nat.le_of_ble_eq_true rfl)) dFloating_product_190 ⟨Nat.zero_le _, Nat.zero_le _⟩) ?_
  exact W.lret hx hb hr (fun t ht _ => ⟨by rw [(show fFloating_product_188 a15 s0 s1 s2 = fFormat_rounded s2 s1 s0 a15 by rw [fFloating_product_188])], ht⟩) (fun q h => nomatch h) dFloating_product_193
set_option maxHeartbeats 4000000 in
set_option maxRecDepth 100000 in
theorem kFloating_product_166 {p : Program} {l : Launch} {e : Env} {s : State} {m : MethodId} {args : Array Value} {below : List Frame} {meth : Method} {c : Code} {ad td : Nat → Nat} (C : pw_C p s m args meth c cFloating_product 16 (some .long) "BitNumbers$Floating") (hG : pw_G (fun _ => False) ad td s s.heap) (a0 : Nat) (a5 : Int32) (a9 : Int64) (a11 : Int64) (a13 : Int64) (a15 : Int32) (hk0 : a0 < 2) (hz5 : a5 = 0 ∨ a5 = 1) {ls : Array Slot} (hl : lv_has ls 16 [(0, .ref (ad a0)), (5, .int a5), (9, .long a9), (11, .long a11), (13, .long a13), (15, .int a15)]) : W p l e rmFloating_product s m args below meth c s.heap [] 0 0 (MQ below (k2_QcV (.long (fFloating_product_166 a0 a5 a9 a11 a13 a15))) args s 0 0 (fun _ => False)) (F0 m 166 ls []) := by
  obtain ⟨hx, hb, hr, hml, hown, hts, hlocks⟩ := id C
  have hS : va_S (fun _ => False) s.heap s.heap [] := va_S.rf
  refine lv_aload_n hx hb dFloating_product_166 rfl (lv_at hl 0 rfl) ?_
  refine lv_iload hx hb dFloating_product_167 (lv_at hl 1 rfl) ?_
  refine lv_lload hx hb dFloating_product_169 (lv_at hl 2 rfl) ?_
  refine lv_lload hx hb dFloating_product_171 (lv_at hl 3 rfl) ?_
  refine lv_lmul hx hb dFloating_product_173 ?_
  refine lv_lconst (v := 0) hx hb dFloating_product_174 (by decide) ?_
  refine W.lcmp hx hb dFloating_product_175 ?_
  refine lv_if_ne (tgt := 184) hx hb dFloating_product_176 (by decide) (fun h1 => ?_) (fun h1 => ?_)
  · have h1 : ¬ ((a9 * a11) = 0) := fun w => h1 ((lg_cmp_eq _ _).mpr w)
    refine lv_lload hx hb dFloating_product_184 (lv_at hl 4 rfl) ?_
    refine lv_lconst (v := 1) hx hb dFloating_product_186 (by decide) ?_
    refine lv_lor hx hb dFloating_product_187 ?_
    rw [(show fFloating_product_166 a0 a5 a9 a11 a13 a15 = fFloating_product_188 a15 (a13 ||| 1) a5 a0 by rw [fFloating_product_166, if_neg h1])]
    exact kFloating_product_188 C hG a15 (a13 ||| 1) a5 a0 hz5 hk0 (lv_sub hl [5] rfl)
  · have h1 : (a9 * a11) = 0 := (lg_cmp_eq _ _).mp h1
    refine lv_lload hx hb dFloating_product_179 (lv_at hl 4 rfl) ?_
    refine lv_goto (tgt := 188) hx hb dFloating_product_181 (by decide) ?_
    rw [(show fFloating_product_166 a0 a5 a9 a11 a13 a15 = fFloating_product_188 a15 a13 a5 a0 by rw [fFloating_product_166, if_pos h1])]
    exact kFloating_product_188 C hG a15 a13 a5 a0 hz5 hk0 (lv_sub hl [5] rfl)
set_option maxHeartbeats 4000000 in
set_option maxRecDepth 100000 in
theorem kFloating_product_144 {p : Program} {l : Launch} {e : Env} {s : State} {m : MethodId} {args : Array Value} {below : List Frame} {meth : Method} {c : Code} {ad td : Nat → Nat} (C : pw_C p s m args meth c cFloating_product 16 (some .long) "BitNumbers$Floating") (hG : pw_G (fun _ => False) ad td s s.heap) (a0 : Nat) (a1 : Int64) (a3 : Int64) (a5 : Int32) (a7 : Int32) (a8 : Int32) (a9 : Int64) (a11 : Int64) (a13 : Int64) (hk0 : a0 < 2) (hz5 : a5 = 0 ∨ a5 = 1) {ls : Array Slot} (hl : lv_has ls 16 [(0, .ref (ad a0)), (1, .long a1), (3, .long a3), (5, .int a5), (7, .int a7), (8, .int a8), (9, .long a9), (11, .long a11), (13, .long a13)]) : W p l e rmFloating_product s m args below meth c s.heap [] 0 0 (MQ below (k2_QcV (.long (fFloating_product_144 a0 a1 a3 a5 a7 a8 a9 a11 a13))) args s 0 0 (fun _ => False)) (F0 m 144 ls []) := by
  obtain ⟨hx, hb, hr, hml, hown, hts, hlocks⟩ := id C
  have hS : va_S (fun _ => False) s.heap s.heap [] := va_S.rf
  refine lv_aload_n hx hb dFloating_product_144 rfl (lv_at hl 0 rfl) ?_
  refine lv_lload_n hx hb dFloating_product_145 rfl (lv_at hl 1 rfl) ?_
  refine pw_call (va_runV (As := [.long a1]) (rest := []) ⟨hx, hb, hml, hown, hts⟩ (qFormat_scale l ad td a0 a1 hk0) (cwV 1 hts (gV w_412 w_324 w_325 w_44 w_326) rfl rfl rfl (by decide +kernel) ⟨Nat.le_of_ble_eq_true rfl, Nat.le_of_ble_eq_true rfl⟩) ⟨pw_bG, va_recvE hG.1 hk0 hS, fun U hU hW => ⟨rfl, (hG.at hU hW)⟩⟩ rfl rfl hl.1 rfl (lv_room (Nat.le_of_ble_eq_true rfl)) dFloating_product_146 ⟨Nat.zero_le _, Nat.zero_le _⟩) ?_
  refine lv_iload hx hb dFloating_product_149 (lv_at hl 4 rfl) ?_
  refine lv_isub hx hb dFloating_product_151 ?_
  refine lv_aload_n hx hb dFloating_product_152 rfl (lv_at hl 0 rfl) ?_
  refine lv_lload_n hx hb dFloating_product_153 rfl (lv_at hl 2 rfl) ?_
  refine pw_call (va_runV (As := [.long a3]) (rest := [.int ((fFormat_scale a0 a1) - a7)]) ⟨hx, hb, hml, hown, hts⟩ (qFormat_scale l ad td a0 a3 hk0) (cwV 1 hts (gV w_412 w_324 w_325 w_44 w_326) rfl rfl rfl (by decide +kernel) ⟨Nat.le_of_ble_eq_true rfl, Nat.le_of_ble_eq_true rfl⟩) ⟨pw_bG, va_recvE hG.1 hk0 hS, fun U hU hW => ⟨rfl, (hG.at hU hW)⟩⟩ rfl rfl hl.1 rfl (lv_room (Nat.le_of_ble_eq_true rfl)) dFloating_product_154 ⟨Nat.zero_le _, Nat.zero_le _⟩) ?_
  refine lv_iadd hx hb dFloating_product_157 ?_
  refine lv_iload hx hb dFloating_product_158 (lv_at hl 5 rfl) ?_
  refine lv_isub hx hb dFloating_product_160 ?_
  refine lv_bipush (v := 64) hx hb dFloating_product_161 (by decide) ?_
  refine lv_iadd hx hb dFloating_product_163 ?_
  refine lv_istore (lv' := [(15, .int (((((fFormat_scale a0 a1) - a7) + (fFormat_scale a0 a3)) - a8) + 64)), (0, .ref (ad a0)), (1, .long a1), (3, .long a3), (5, .int a5), (7, .int a7), (8, .int a8), (9, .long a9), (11, .long a11), (13, .long a13)]) hx hb dFloating_product_164 hl (by decide) rfl (fun ls hl => ?_)
  rw [(show fFloating_product_144 a0 a1 a3 a5 a7 a8 a9 a11 a13 = fFloating_product_166 a0 a5 a9 a11 a13 (((((fFormat_scale a0 a1) - a7) + (fFormat_scale a0 a3)) - a8) + 64) by rw [fFloating_product_144])]
  exact kFloating_product_166 C hG a0 a5 a9 a11 a13 (((((fFormat_scale a0 a1) - a7) + (fFormat_scale a0 a3)) - a8) + 64) hk0 hz5 (lv_sub hl [1, 4, 7, 8, 9, 0] rfl)
set_option maxHeartbeats 4000000 in
set_option maxRecDepth 100000 in
theorem kFloating_product_135 {p : Program} {l : Launch} {e : Env} {s : State} {m : MethodId} {args : Array Value} {below : List Frame} {meth : Method} {c : Code} {ad td : Nat → Nat} (C : pw_C p s m args meth c cFloating_product 16 (some .long) "BitNumbers$Floating") (hG : pw_G (fun _ => False) ad td s s.heap) (a0 : Nat) (a1 : Int64) (a3 : Int64) (a5 : Int32) (a7 : Int32) (a8 : Int32) (a9 : Int64) (a11 : Int64) (hk0 : a0 < 2) (hz5 : a5 = 0 ∨ a5 = 1) {ls : Array Slot} (hl : lv_has ls 16 [(0, .ref (ad a0)), (1, .long a1), (3, .long a3), (5, .int a5), (7, .int a7), (8, .int a8), (9, .long a9), (11, .long a11)]) : W p l e rmFloating_product s m args below meth c s.heap [] 0 0 (MQ below (k2_QcV (.long (fFloating_product_135 a0 a1 a3 a5 a7 a8 a9 a11))) args s 0 0 (fun _ => False)) (F0 m 135 ls []) := by
  obtain ⟨hx, hb, hr, hml, hown, hts, hlocks⟩ := id C
  have hS : va_S (fun _ => False) s.heap s.heap [] := va_S.rf
  refine lv_lload hx hb dFloating_product_135 (lv_at hl 6 rfl) ?_
  refine lv_lload hx hb dFloating_product_137 (lv_at hl 7 rfl) ?_
  refine pw_call (va_runS (As := [.long a9, .long a11]) (rest := []) ⟨hx, hb, hml, hown, hts⟩ (qFloating_highProduct l a9 a11) (va_cwS 2 hts (gS w_449 w_450 w_48 w_451) rfl rfl rfl (by decide +kernel) ⟨Nat.le_of_ble_eq_true rfl, Nat.le_of_ble_eq_true rfl⟩) ⟨pw_bT, fun U hU hW => ⟨rfl, trivial⟩⟩ rfl rfl hl.1 rfl (lv_room (Nat.le_of_ble_eq_true rfl)) dFloating_product_139 ⟨Nat.zero_le _, Nat.zero_le _⟩) ?_
  refine lv_lstore (lv' := [(13, .long (fFloating_highProduct a9 a11)), (0, .ref (ad a0)), (1, .long a1), (3, .long a3), (5, .int a5), (7, .int a7), (8, .int a8), (9, .long a9), (11, .long a11)]) hx hb dFloating_product_142 hl (by decide) rfl (fun ls hl => ?_)
  rw [(show fFloating_product_135 a0 a1 a3 a5 a7 a8 a9 a11 = fFloating_product_144 a0 a1 a3 a5 a7 a8 a9 a11 (fFloating_highProduct a9 a11) by rw [fFloating_product_135])]
  exact kFloating_product_144 C hG a0 a1 a3 a5 a7 a8 a9 a11 (fFloating_highProduct a9 a11) hk0 hz5 (lv_sub hl [1, 2, 3, 4, 5, 6, 7, 8, 0] rfl)
set_option maxHeartbeats 4000000 in
set_option maxRecDepth 100000 in
theorem kFloating_product_125 {p : Program} {l : Launch} {e : Env} {s : State} {m : MethodId} {args : Array Value} {below : List Frame} {meth : Method} {c : Code} {ad td : Nat → Nat} (C : pw_C p s m args meth c cFloating_product 16 (some .long) "BitNumbers$Floating") (hG : pw_G (fun _ => False) ad td s s.heap) (a0 : Nat) (a1 : Int64) (a3 : Int64) (a5 : Int32) (a7 : Int32) (a8 : Int32) (a9 : Int64) (hk0 : a0 < 2) (hz5 : a5 = 0 ∨ a5 = 1) {ls : Array Slot} (hl : lv_has ls 16 [(0, .ref (ad a0)), (1, .long a1), (3, .long a3), (5, .int a5), (7, .int a7), (8, .int a8), (9, .long a9)]) : W p l e rmFloating_product s m args below meth c s.heap [] 0 0 (MQ below (k2_QcV (.long (fFloating_product_125 a0 a1 a3 a5 a7 a8 a9))) args s 0 0 (fun _ => False)) (F0 m 125 ls []) := by
  obtain ⟨hx, hb, hr, hml, hown, hts, hlocks⟩ := id C
  have hS : va_S (fun _ => False) s.heap s.heap [] := va_S.rf
  refine lv_aload_n hx hb dFloating_product_125 rfl (lv_at hl 0 rfl) ?_
  refine lv_lload_n hx hb dFloating_product_126 rfl (lv_at hl 2 rfl) ?_
  refine pw_call (va_runV (As := [.long a3]) (rest := []) ⟨hx, hb, hml, hown, hts⟩ (qFormat_significand l ad td a0 a3 hk0) (cwV 1 hts (gV w_413 w_320 w_321 w_44 w_322) rfl rfl rfl (by decide +kernel) ⟨Nat.le_of_ble_eq_true rfl, Nat.le_of_ble_eq_true rfl⟩) ⟨pw_bG, va_recvE hG.1 hk0 hS, fun U hU hW => ⟨rfl, (hG.at hU hW)⟩⟩ rfl rfl hl.1 rfl (lv_room (Nat.le_of_ble_eq_true rfl)) dFloating_product_127 ⟨Nat.zero_le _, Nat.zero_le _⟩) ?_
  refine lv_iload hx hb dFloating_product_130 (lv_at hl 5 rfl) ?_
  refine lv_lshl (v := bn_shl (fFormat_significand a0 a3) a8) hx hb dFloating_product_132 rfl ?_
  refine lv_lstore (lv' := [(11, .long (bn_shl (fFormat_significand a0 a3) a8)), (0, .ref (ad a0)), (1, .long a1), (3, .long a3), (5, .int a5), (7, .int a7), (8, .int a8), (9, .long a9)]) hx hb dFloating_product_133 hl (by decide) rfl (fun ls hl => ?_)
  rw [(show fFloating_product_125 a0 a1 a3 a5 a7 a8 a9 = fFloating_product_135 a0 a1 a3 a5 a7 a8 a9 (bn_shl (fFormat_significand a0 a3) a8) by rw [fFloating_product_125])]
  exact kFloating_product_135 C hG a0 a1 a3 a5 a7 a8 a9 (bn_shl (fFormat_significand a0 a3) a8) hk0 hz5 (lv_sub hl [1, 2, 3, 4, 5, 6, 7, 0] rfl)
set_option maxHeartbeats 4000000 in
set_option maxRecDepth 100000 in
theorem kFloating_product_115 {p : Program} {l : Launch} {e : Env} {s : State} {m : MethodId} {args : Array Value} {below : List Frame} {meth : Method} {c : Code} {ad td : Nat → Nat} (C : pw_C p s m args meth c cFloating_product 16 (some .long) "BitNumbers$Floating") (hG : pw_G (fun _ => False) ad td s s.heap) (a0 : Nat) (a1 : Int64) (a3 : Int64) (a5 : Int32) (a7 : Int32) (a8 : Int32) (hk0 : a0 < 2) (hz5 : a5 = 0 ∨ a5 = 1) {ls : Array Slot} (hl : lv_has ls 16 [(0, .ref (ad a0)), (1, .long a1), (3, .long a3), (5, .int a5), (7, .int a7), (8, .int a8)]) : W p l e rmFloating_product s m args below meth c s.heap [] 0 0 (MQ below (k2_QcV (.long (fFloating_product_115 a0 a1 a3 a5 a7 a8))) args s 0 0 (fun _ => False)) (F0 m 115 ls []) := by
  obtain ⟨hx, hb, hr, hml, hown, hts, hlocks⟩ := id C
  have hS : va_S (fun _ => False) s.heap s.heap [] := va_S.rf
  refine lv_aload_n hx hb dFloating_product_115 rfl (lv_at hl 0 rfl) ?_
  refine lv_lload_n hx hb dFloating_product_116 rfl (lv_at hl 1 rfl) ?_
  refine pw_call (va_runV (As := [.long a1]) (rest := []) ⟨hx, hb, hml, hown, hts⟩ (qFormat_significand l ad td a0 a1 hk0) (cwV 1 hts (gV w_413 w_320 w_321 w_44 w_322) rfl rfl rfl (by decide +kernel) ⟨Nat.le_of_ble_eq_true rfl, Nat.le_of_ble_eq_true rfl⟩) ⟨pw_bG, va_recvE hG.1 hk0 hS, fun U hU hW => ⟨rfl, (hG.at hU hW)⟩⟩ rfl rfl hl.1 rfl (lv_room (Nat.le_of_ble_eq_true rfl)) dFloating_product_117 ⟨Nat.zero_le _, Nat.zero_le _⟩) ?_
  refine lv_iload hx hb dFloating_product_120 (lv_at hl 4 rfl) ?_
  refine lv_lshl (v := bn_shl (fFormat_significand a0 a1) a7) hx hb dFloating_product_122 rfl ?_
  refine lv_lstore (lv' := [(9, .long (bn_shl (fFormat_significand a0 a1) a7)), (0, .ref (ad a0)), (1, .long a1), (3, .long a3), (5, .int a5), (7, .int a7), (8, .int a8)]) hx hb dFloating_product_123 hl (by decide) rfl (fun ls hl => ?_)
  rw [(show fFloating_product_115 a0 a1 a3 a5 a7 a8 = fFloating_product_125 a0 a1 a3 a5 a7 a8 (bn_shl (fFormat_significand a0 a1) a7) by rw [fFloating_product_115])]
  exact kFloating_product_125 C hG a0 a1 a3 a5 a7 a8 (bn_shl (fFormat_significand a0 a1) a7) hk0 hz5 (lv_sub hl [1, 2, 3, 4, 5, 6, 0] rfl)
set_option maxHeartbeats 4000000 in
set_option maxRecDepth 100000 in
theorem kFloating_product_105 {p : Program} {l : Launch} {e : Env} {s : State} {m : MethodId} {args : Array Value} {below : List Frame} {meth : Method} {c : Code} {ad td : Nat → Nat} (C : pw_C p s m args meth c cFloating_product 16 (some .long) "BitNumbers$Floating") (hG : pw_G (fun _ => False) ad td s s.heap) (a0 : Nat) (a1 : Int64) (a3 : Int64) (a5 : Int32) (a7 : Int32) (hk0 : a0 < 2) (hz5 : a5 = 0 ∨ a5 = 1) {ls : Array Slot} (hl : lv_has ls 16 [(0, .ref (ad a0)), (1, .long a1), (3, .long a3), (5, .int a5), (7, .int a7)]) : W p l e rmFloating_product s m args below meth c s.heap [] 0 0 (MQ below (k2_QcV (.long (fFloating_product_105 a0 a1 a3 a5 a7))) args s 0 0 (fun _ => False)) (F0 m 105 ls []) := by
  obtain ⟨hx, hb, hr, hml, hown, hts, hlocks⟩ := id C
  have hS : va_S (fun _ => False) s.heap s.heap [] := va_S.rf
  refine lv_aload_n hx hb dFloating_product_105 rfl (lv_at hl 0 rfl) ?_
  refine lv_lload_n hx hb dFloating_product_106 rfl (lv_at hl 2 rfl) ?_
  refine pw_call (va_runV (As := [.long a3]) (rest := []) ⟨hx, hb, hml, hown, hts⟩ (qFormat_significand l ad td a0 a3 hk0) (cwV 1 hts (gV w_413 w_320 w_321 w_44 w_322) rfl rfl rfl (by decide +kernel) ⟨Nat.le_of_ble_eq_true rfl, Nat.le_of_ble_eq_true rfl⟩) ⟨pw_bG, va_recvE hG.1 hk0 hS, fun U hU hW => ⟨rfl, (hG.at hU hW)⟩⟩ rfl rfl hl.1 rfl (lv_room (Nat.le_of_ble_eq_true rfl)) dFloating_product_107 ⟨Nat.zero_le _, Nat.zero_le _⟩) ?_
  refine pw_call (va_runS (As := [.long (fFormat_significand a0 a3)]) (rest := []) ⟨hx, hb, hml, hown, hts⟩ (qFloating_lift l (fFormat_significand a0 a3)) (va_cwS 1 hts (gS w_432 w_433 w_48 w_434) rfl rfl rfl (by decide +kernel) ⟨Nat.le_of_ble_eq_true rfl, Nat.le_of_ble_eq_true rfl⟩) ⟨pw_bT, fun U hU hW => ⟨rfl, trivial⟩⟩ rfl rfl hl.1 rfl (lv_room (Nat.le_of_ble_eq_true rfl)) dFloating_product_110 ⟨Nat.zero_le _, Nat.zero_le _⟩) ?_
  refine lv_istore (lv' := [(8, .int (fFloating_lift (fFormat_significand a0 a3))), (0, .ref (ad a0)), (1, .long a1), (3, .long a3), (5, .int a5), (7, .int a7)]) hx hb dFloating_product_113 hl (by decide) rfl (fun ls hl => ?_)
  rw [(show fFloating_product_105 a0 a1 a3 a5 a7 = fFloating_product_115 a0 a1 a3 a5 a7 (fFloating_lift (fFormat_significand a0 a3)) by rw [fFloating_product_105])]
  exact kFloating_product_115 C hG a0 a1 a3 a5 a7 (fFloating_lift (fFormat_significand a0 a3)) hk0 hz5 (lv_sub hl [1, 2, 3, 4, 5, 0] rfl)
set_option maxHeartbeats 4000000 in
set_option maxRecDepth 100000 in
theorem kFloating_product_59 {p : Program} {l : Launch} {e : Env} {s : State} {m : MethodId} {args : Array Value} {below : List Frame} {meth : Method} {c : Code} {ad td : Nat → Nat} (C : pw_C p s m args meth c cFloating_product 16 (some .long) "BitNumbers$Floating") (hG : pw_G (fun _ => False) ad td s s.heap) (a0 : Nat) (a5 : Int32) (a6 : Int32) (hk0 : a0 < 2) (hz5 : a5 = 0 ∨ a5 = 1) (hz6 : a6 = 0 ∨ a6 = 1) {ls : Array Slot} (hl : lv_has ls 16 [(0, .ref (ad a0)), (5, .int a5), (6, .int a6)]) : W p l e rmFloating_product s m args below meth c s.heap [] 0 0 (MQ below (k2_QcV (.long (fFloating_product_59 a0 a5 a6))) args s 0 0 (fun _ => False)) (F0 m 59 ls []) := by
  obtain ⟨hx, hb, hr, hml, hown, hts, hlocks⟩ := id C
  have hS : va_S (fun _ => False) s.heap s.heap [] := va_S.rf
  refine lv_iload hx hb dFloating_product_59 (lv_at hl 2 rfl) ?_
  refine lv_if_eq (tgt := 71) hx hb dFloating_product_61 (by decide) (fun h1 => ?_) (fun h1 => ?_)
  · refine lv_aload_n hx hb dFloating_product_71 rfl (lv_at hl 0 rfl) ?_
    refine lv_iload hx hb dFloating_product_72 (lv_at hl 1 rfl) ?_
    refine lv_aload_n hx hb dFloating_product_74 rfl (lv_at hl 0 rfl) ?_
    refine va_getX hx hb hG.2.1.2.2.2.2.2.1 hk0 hS hown (hts _ w_817) (fun _ h9 => h9) dFloating_product_75 ?_
    refine pw_call (va_runV (As := [.int a5, .long (fm_infinite a0)]) (rest := []) ⟨hx, hb, hml, hown, hts⟩ (qFormat_signed l ad td a0 a5 (fm_infinite a0) hk0) (cwV 2 hts (gV w_402 w_403 w_404 w_44 w_405) rfl rfl rfl (by decide +kernel) ⟨Nat.le_of_ble_eq_true rfl, Nat.le_of_ble_eq_true rfl⟩) ⟨pw_bG, va_recvE hG.1 hk0 hS, fun U hU hW => ⟨rfl, (hG.at hU hW)⟩⟩ rfl rfl hl.1 rfl (lv_room (Nat.le_of_ble_eq_true rfl)) dFloating_product_78 ⟨Nat.zero_le _, Nat.zero_le _⟩) ?_
    exact W.lret hx hb hr (fun t ht _ => ⟨by rw [(show fFloating_product_59 a0 a5 a6 = fFormat_signed a0 a5 (fm_infinite a0) by rw [fFloating_product_59, if_pos h1])], ht⟩) (fun q h => nomatch h) dFloating_product_81
  · refine lv_aload_n hx hb dFloating_product_64 rfl (lv_at hl 0 rfl) ?_
    refine va_getX hx hb hG.2.1.2.2.2.2.2.2 hk0 hS hown (hts _ w_815) (fun _ h9 => h9) dFloating_product_65 ?_
    refine lv_goto (tgt := 81) hx hb dFloating_product_68 (by decide) ?_
    exact W.lret hx hb hr (fun t ht _ => ⟨by rw [(show fFloating_product_59 a0 a5 a6 = fm_none a0 by rw [fFloating_product_59, if_neg h1])], ht⟩) (fun q h => nomatch h) dFloating_product_81
set_option maxHeartbeats 4000000 in
set_option maxRecDepth 100000 in
theorem kFloating_product_41 {p : Program} {l : Launch} {e : Env} {s : State} {m : MethodId} {args : Array Value} {below : List Frame} {meth : Method} {c : Code} {ad td : Nat → Nat} (C : pw_C p s m args meth c cFloating_product 16 (some .long) "BitNumbers$Floating") (hG : pw_G (fun _ => False) ad td s s.heap) (a0 : Nat) (a1 : Int64) (a3 : Int64) (a5 : Int32) (s0 : Int32) (hk0 : a0 < 2) (hz5 : a5 = 0 ∨ a5 = 1) (hzs0 : s0 = 0 ∨ s0 = 1) {ls : Array Slot} (hl : lv_has ls 16 [(0, .ref (ad a0)), (1, .long a1), (3, .long a3), (5, .int a5)]) : W p l e rmFloating_product s m args below meth c s.heap [] 0 0 (MQ below (k2_QcV (.long (fFloating_product_41 a0 a1 a3 a5 s0))) args s 0 0 (fun _ => False)) (F0 m 41 ls [.int s0]) := by
  obtain ⟨hx, hb, hr, hml, hown, hts, hlocks⟩ := id C
  have hS : va_S (fun _ => False) s.heap s.heap [] := va_S.rf
  refine lv_istore (lv' := [(6, .int s0), (0, .ref (ad a0)), (1, .long a1), (3, .long a3), (5, .int a5)]) hx hb dFloating_product_41 hl (by decide) rfl (fun ls hl => ?_)
  refine lv_aload_n hx hb dFloating_product_43 rfl (lv_at hl 1 rfl) ?_
  refine lv_lload_n hx hb dFloating_product_44 rfl (lv_at hl 2 rfl) ?_
  refine pw_call (va_runV (As := [.long a1]) (rest := []) ⟨hx, hb, hml, hown, hts⟩ (qFormat_isInfinite l ad td a0 a1 hk0) (cwV 1 hts (gV w_431 w_159 w_160 w_44 w_161) rfl rfl rfl (by decide +kernel) ⟨Nat.le_of_ble_eq_true rfl, Nat.le_of_ble_eq_true rfl⟩) ⟨pw_bG, va_recvE hG.1 hk0 hS, fun U hU hW => ⟨rfl, (hG.at hU hW)⟩⟩ rfl rfl hl.1 rfl (lv_room (Nat.le_of_ble_eq_true rfl)) dFloating_product_45 ⟨Nat.zero_le _, Nat.zero_le _⟩) ?_
  refine lv_if_ne (tgt := 59) hx hb dFloating_product_48 (by decide) (fun h1 => ?_) (fun h1 => ?_)
  · rw [(show fFloating_product_41 a0 a1 a3 a5 s0 = fFloating_product_59 a0 a5 s0 by rw [fFloating_product_41, if_neg h1])]
    exact kFloating_product_59 C hG a0 a5 s0 hk0 hz5 hzs0 (lv_sub hl [1, 4, 0] rfl)
  · refine lv_aload_n hx hb dFloating_product_51 rfl (lv_at hl 1 rfl) ?_
    refine lv_lload_n hx hb dFloating_product_52 rfl (lv_at hl 3 rfl) ?_
    refine pw_call (va_runV (As := [.long a3]) (rest := []) ⟨hx, hb, hml, hown, hts⟩ (qFormat_isInfinite l ad td a0 a3 hk0) (cwV 1 hts (gV w_431 w_159 w_160 w_44 w_161) rfl rfl rfl (by decide +kernel) ⟨Nat.le_of_ble_eq_true rfl, Nat.le_of_ble_eq_true rfl⟩) ⟨pw_bG, va_recvE hG.1 hk0 hS, fun U hU hW => ⟨rfl, (hG.at hU hW)⟩⟩ rfl rfl hl.1 rfl (lv_room (Nat.le_of_ble_eq_true rfl)) dFloating_product_53 ⟨Nat.zero_le _, Nat.zero_le _⟩) ?_
    refine lv_if_eq (tgt := 82) hx hb dFloating_product_56 (by decide) (fun h2 => ?_) (fun h2 => ?_)
    · refine lv_iload hx hb dFloating_product_82 (lv_at hl 0 rfl) ?_
      refine lv_if_eq (tgt := 95) hx hb dFloating_product_84 (by decide) (fun h3 => ?_) (fun h3 => ?_)
      · refine lv_aload_n hx hb dFloating_product_95 rfl (lv_at hl 1 rfl) ?_
        refine lv_lload_n hx hb dFloating_product_96 rfl (lv_at hl 2 rfl) ?_
        refine pw_call (va_runV (As := [.long a1]) (rest := []) ⟨hx, hb, hml, hown, hts⟩ (qFormat_significand l ad td a0 a1 hk0) (cwV 1 hts (gV w_413 w_320 w_321 w_44 w_322) rfl rfl rfl (by decide +kernel) ⟨Nat.le_of_ble_eq_true rfl, Nat.le_of_ble_eq_true rfl⟩) ⟨pw_bG, va_recvE hG.1 hk0 hS, fun U hU hW => ⟨rfl, (hG.at hU hW)⟩⟩ rfl rfl hl.1 rfl (lv_room (Nat.le_of_ble_eq_true rfl)) dFloating_product_97 ⟨Nat.zero_le _, Nat.zero_le _⟩) ?_
        refine pw_call (va_runS (As := [.long (fFormat_significand a0 a1)]) (rest := []) ⟨hx, hb, hml, hown, hts⟩ (qFloating_lift l (fFormat_significand a0 a1)) (va_cwS 1 hts (gS w_432 w_433 w_48 w_434) rfl rfl rfl (by decide +kernel) ⟨Nat.le_of_ble_eq_true rfl, Nat.le_of_ble_eq_true rfl⟩) ⟨pw_bT, fun U hU hW => ⟨rfl, trivial⟩⟩ rfl rfl hl.1 rfl (lv_room (Nat.le_of_ble_eq_true rfl)) dFloating_product_100 ⟨Nat.zero_le _, Nat.zero_le _⟩) ?_
        refine lv_istore (lv' := [(7, .int (fFloating_lift (fFormat_significand a0 a1))), (6, .int s0), (0, .ref (ad a0)), (1, .long a1), (3, .long a3), (5, .int a5)]) hx hb dFloating_product_103 hl (by decide) rfl (fun ls hl => ?_)
        rw [(show fFloating_product_41 a0 a1 a3 a5 s0 = fFloating_product_105 a0 a1 a3 a5 (fFloating_lift (fFormat_significand a0 a1)) by rw [fFloating_product_41, if_pos h1, if_pos h2, if_pos h3])]
        exact kFloating_product_105 C hG a0 a1 a3 a5 (fFloating_lift (fFormat_significand a0 a1)) hk0 hz5 (lv_sub hl [2, 3, 4, 5, 0] rfl)
      · refine lv_aload_n hx hb dFloating_product_87 rfl (lv_at hl 1 rfl) ?_
        refine lv_iload hx hb dFloating_product_88 (lv_at hl 4 rfl) ?_
        refine lv_lconst (v := 0) hx hb dFloating_product_90 (by decide) ?_
        refine pw_call (va_runV (As := [.int a5, .long 0]) (rest := []) ⟨hx, hb, hml, hown, hts⟩ (qFormat_signed l ad td a0 a5 0 hk0) (cwV 2 hts (gV w_402 w_403 w_404 w_44 w_405) rfl rfl rfl (by decide +kernel) ⟨Nat.le_of_ble_eq_true rfl, Nat.le_of_ble_eq_true rfl⟩) ⟨pw_bG, va_recvE hG.1 hk0 hS, fun U hU hW => ⟨rfl, (hG.at hU hW)⟩⟩ rfl rfl hl.1 rfl (lv_room (Nat.le_of_ble_eq_true rfl)) dFloating_product_91 ⟨Nat.zero_le _, Nat.zero_le _⟩) ?_
        exact W.lret hx hb hr (fun t ht _ => ⟨by rw [(show fFloating_product_41 a0 a1 a3 a5 s0 = fFormat_signed a0 a5 0 by rw [fFloating_product_41, if_pos h1, if_pos h2, if_neg h3])], ht⟩) (fun q h => nomatch h) dFloating_product_94
    · rw [(show fFloating_product_41 a0 a1 a3 a5 s0 = fFloating_product_59 a0 a5 s0 by rw [fFloating_product_41, if_pos h1, if_neg h2])]
      exact kFloating_product_59 C hG a0 a5 s0 hk0 hz5 hzs0 (lv_sub hl [1, 4, 0] rfl)
set_option maxHeartbeats 4000000 in
set_option maxRecDepth 100000 in
theorem kFloating_product_36 {p : Program} {l : Launch} {e : Env} {s : State} {m : MethodId} {args : Array Value} {below : List Frame} {meth : Method} {c : Code} {ad td : Nat → Nat} (C : pw_C p s m args meth c cFloating_product 16 (some .long) "BitNumbers$Floating") (hG : pw_G (fun _ => False) ad td s s.heap) (a0 : Nat) (a1 : Int64) (a3 : Int64) (a5 : Int32) (hk0 : a0 < 2) (hz5 : a5 = 0 ∨ a5 = 1) {ls : Array Slot} (hl : lv_has ls 16 [(0, .ref (ad a0)), (1, .long a1), (3, .long a3), (5, .int a5)]) : W p l e rmFloating_product s m args below meth c s.heap [] 0 0 (MQ below (k2_QcV (.long (fFloating_product_36 a0 a1 a3 a5))) args s 0 0 (fun _ => False)) (F0 m 36 ls []) := by
  obtain ⟨hx, hb, hr, hml, hown, hts, hlocks⟩ := id C
  have hS : va_S (fun _ => False) s.heap s.heap [] := va_S.rf
  refine lv_iconst (v := 1) hx hb dFloating_product_36 (by decide) ?_
  refine lv_goto (tgt := 41) hx hb dFloating_product_37 (by decide) ?_
  rw [(show fFloating_product_36 a0 a1 a3 a5 = fFloating_product_41 a0 a1 a3 a5 1 by rw [fFloating_product_36])]
  exact kFloating_product_41 C hG a0 a1 a3 a5 1 hk0 hz5 (Or.inr rfl) (lv_sub hl [0, 1, 2, 3] rfl)
set_option maxHeartbeats 4000000 in
set_option maxRecDepth 100000 in
theorem kFloating_product_18 {p : Program} {l : Launch} {e : Env} {s : State} {m : MethodId} {args : Array Value} {below : List Frame} {meth : Method} {c : Code} {ad td : Nat → Nat} (C : pw_C p s m args meth c cFloating_product 16 (some .long) "BitNumbers$Floating") (hG : pw_G (fun _ => False) ad td s s.heap) (a0 : Nat) (a1 : Int64) (a3 : Int64) (s0 : Int32) (hk0 : a0 < 2) (hzs0 : s0 = 0 ∨ s0 = 1) {ls : Array Slot} (hl : lv_has ls 16 [(0, .ref (ad a0)), (1, .long a1), (3, .long a3)]) : W p l e rmFloating_product s m args below meth c s.heap [] 0 0 (MQ below (k2_QcV (.long (fFloating_product_18 a0 a1 a3 s0))) args s 0 0 (fun _ => False)) (F0 m 18 ls [.int s0]) := by
  obtain ⟨hx, hb, hr, hml, hown, hts, hlocks⟩ := id C
  have hS : va_S (fun _ => False) s.heap s.heap [] := va_S.rf
  refine lv_istore (lv' := [(5, .int s0), (0, .ref (ad a0)), (1, .long a1), (3, .long a3)]) hx hb dFloating_product_18 hl (by decide) rfl (fun ls hl => ?_)
  refine lv_aload_n hx hb dFloating_product_20 rfl (lv_at hl 1 rfl) ?_
  refine lv_lload_n hx hb dFloating_product_21 rfl (lv_at hl 2 rfl) ?_
  refine pw_call (va_runV (As := [.long a1]) (rest := []) ⟨hx, hb, hml, hown, hts⟩ (qFormat_isZero l ad td a0 a1 hk0) (cwV 1 hts (gV w_430 w_163 w_164 w_44 w_165) rfl rfl rfl (by decide +kernel) ⟨Nat.le_of_ble_eq_true rfl, Nat.le_of_ble_eq_true rfl⟩) ⟨pw_bG, va_recvE hG.1 hk0 hS, fun U hU hW => ⟨rfl, (hG.at hU hW)⟩⟩ rfl rfl hl.1 rfl (lv_room (Nat.le_of_ble_eq_true rfl)) dFloating_product_22 ⟨Nat.zero_le _, Nat.zero_le _⟩) ?_
  refine lv_if_ne (tgt := 36) hx hb dFloating_product_25 (by decide) (fun h1 => ?_) (fun h1 => ?_)
  · rw [(show fFloating_product_18 a0 a1 a3 s0 = fFloating_product_36 a0 a1 a3 s0 by rw [fFloating_product_18, if_neg h1])]
    exact kFloating_product_36 C hG a0 a1 a3 s0 hk0 hzs0 (lv_sub hl [1, 2, 3, 0] rfl)
  · refine lv_aload_n hx hb dFloating_product_28 rfl (lv_at hl 1 rfl) ?_
    refine lv_lload_n hx hb dFloating_product_29 rfl (lv_at hl 3 rfl) ?_
    refine pw_call (va_runV (As := [.long a3]) (rest := []) ⟨hx, hb, hml, hown, hts⟩ (qFormat_isZero l ad td a0 a3 hk0) (cwV 1 hts (gV w_430 w_163 w_164 w_44 w_165) rfl rfl rfl (by decide +kernel) ⟨Nat.le_of_ble_eq_true rfl, Nat.le_of_ble_eq_true rfl⟩) ⟨pw_bG, va_recvE hG.1 hk0 hS, fun U hU hW => ⟨rfl, (hG.at hU hW)⟩⟩ rfl rfl hl.1 rfl (lv_room (Nat.le_of_ble_eq_true rfl)) dFloating_product_30 ⟨Nat.zero_le _, Nat.zero_le _⟩) ?_
    refine lv_if_eq (tgt := 40) hx hb dFloating_product_33 (by decide) (fun h2 => ?_) (fun h2 => ?_)
    · refine lv_iconst (v := 0) hx hb dFloating_product_40 (by decide) ?_
      rw [(show fFloating_product_18 a0 a1 a3 s0 = fFloating_product_41 a0 a1 a3 s0 0 by rw [fFloating_product_18, if_pos h1, if_pos h2])]
      exact kFloating_product_41 C hG a0 a1 a3 s0 0 hk0 hzs0 (Or.inl rfl) (lv_sub hl [1, 2, 3, 0] rfl)
    · rw [(show fFloating_product_18 a0 a1 a3 s0 = fFloating_product_36 a0 a1 a3 s0 by rw [fFloating_product_18, if_pos h1, if_neg h2])]
      exact kFloating_product_36 C hG a0 a1 a3 s0 hk0 hzs0 (lv_sub hl [1, 2, 3, 0] rfl)
set_option maxHeartbeats 4000000 in
set_option maxRecDepth 100000 in
theorem kFloating_product_0 {p : Program} {l : Launch} {e : Env} {s : State} {m : MethodId} {args : Array Value} {below : List Frame} {meth : Method} {c : Code} {ad td : Nat → Nat} (C : pw_C p s m args meth c cFloating_product 16 (some .long) "BitNumbers$Floating") (hG : pw_G (fun _ => False) ad td s s.heap) (a0 : Nat) (a1 : Int64) (a3 : Int64) (hk0 : a0 < 2) {ls : Array Slot} (hl : lv_has ls 16 [(0, .ref (ad a0)), (1, .long a1), (3, .long a3)]) : W p l e rmFloating_product s m args below meth c s.heap [] 0 0 (MQ below (k2_QcV (.long (fFloating_product a0 a1 a3))) args s 0 0 (fun _ => False)) (F0 m 0 ls []) := by
  obtain ⟨hx, hb, hr, hml, hown, hts, hlocks⟩ := id C
  have hS : va_S (fun _ => False) s.heap s.heap [] := va_S.rf
  refine lv_aload_n hx hb dFloating_product_0 rfl (lv_at hl 0 rfl) ?_
  refine lv_lload_n hx hb dFloating_product_1 rfl (lv_at hl 1 rfl) ?_
  refine pw_call (va_runV (As := [.long a1]) (rest := []) ⟨hx, hb, hml, hown, hts⟩ (qFormat_isNegative l ad td a0 a1 hk0) (cwV 1 hts (gV w_383 w_142 w_143 w_44 w_144) rfl rfl rfl (by decide +kernel) ⟨Nat.le_of_ble_eq_true rfl, Nat.le_of_ble_eq_true rfl⟩) ⟨pw_bG, va_recvE hG.1 hk0 hS, fun U hU hW => ⟨rfl, (hG.at hU hW)⟩⟩ rfl rfl hl.1 rfl (lv_room (Nat.le_of_ble_eq_true rfl)) dFloating_product_2 ⟨Nat.zero_le _, Nat.zero_le _⟩) ?_
  refine lv_aload_n hx hb dFloating_product_5 rfl (lv_at hl 0 rfl) ?_
  refine lv_lload_n hx hb dFloating_product_6 rfl (lv_at hl 2 rfl) ?_
  refine pw_call (va_runV (As := [.long a3]) (rest := [.int (fFormat_isNegative a0 a1)]) ⟨hx, hb, hml, hown, hts⟩ (qFormat_isNegative l ad td a0 a3 hk0) (cwV 1 hts (gV w_383 w_142 w_143 w_44 w_144) rfl rfl rfl (by decide +kernel) ⟨Nat.le_of_ble_eq_true rfl, Nat.le_of_ble_eq_true rfl⟩) ⟨pw_bG, va_recvE hG.1 hk0 hS, fun U hU hW => ⟨rfl, (hG.at hU hW)⟩⟩ rfl rfl hl.1 rfl (lv_room (Nat.le_of_ble_eq_true rfl)) dFloating_product_7 ⟨Nat.zero_le _, Nat.zero_le _⟩) ?_
  refine lv_icmp_eq (tgt := 17) hx hb dFloating_product_10 (by decide) (fun h1 => ?_) (fun h1 => ?_)
  · refine lv_iconst (v := 0) hx hb dFloating_product_17 (by decide) ?_
    rw [(show fFloating_product a0 a1 a3 = fFloating_product_18 a0 a1 a3 0 by rw [fFloating_product, if_pos h1])]
    exact kFloating_product_18 C hG a0 a1 a3 0 hk0 (Or.inl rfl) (lv_sub hl [0, 1, 2] rfl)
  · refine lv_iconst (v := 1) hx hb dFloating_product_13 (by decide) ?_
    refine lv_goto (tgt := 18) hx hb dFloating_product_14 (by decide) ?_
    rw [(show fFloating_product a0 a1 a3 = fFloating_product_18 a0 a1 a3 1 by rw [fFloating_product, if_neg h1])]
    exact kFloating_product_18 C hG a0 a1 a3 1 hk0 (Or.inr rfl) (lv_sub hl [0, 1, 2] rfl)
set_option maxHeartbeats 4000000 in
set_option maxRecDepth 100000 in
theorem qFloating_product (l : Launch) (ad td : Nat → Nat) (a0 : Nat) (a1 : Int64) (a3 : Int64) (hk0 : a0 < 2) : Met l yFloating_product wsFloating_product rmFloating_product (va_Pc [.ref (ad a0), .long a1, .long a3] (fun U => pw_G (fun _ => False) ad td U U.heap)) (k2_QcV (.long (fFloating_product a0 a1 a3))) 0 0 (fun _ => False) := by
  refine Met.ofW (cc := cFloating_product) (maxL := 16) (ret := (some .long)) (by decide) rfl ?_
  intro p e s m args below meth c s₁ B hml hv
  obtain ⟨rfl, hG⟩ := hv
  have hts0 := atoms_spec (ws := wsFloating_product) B.pre
  have hts := fun (w : Cond) (h : w ∈ aw) => hts0 w (List.mem_cons_of_mem _ h)
  have hown : s.vm.findClass "BitNumbers$Floating" = some m.cls := findClass_of_methodNamed B.named
  have hl := lv_entry ([.ref (ad a0), .long a1, .long a3]) (n := 16) (Nat.le_of_ble_eq_true rfl)
  rw [lg_entry_eq]
  generalize (lg_sl ([.ref (ad a0), .long a1, .long a3]) ++ List.replicate (16 - (lg_sl ([.ref (ad a0), .long a1, .long a3])).length) Slot.unset).toArray = ls at hl ⊢
  exact kFloating_product_0 ⟨B.exec, B.bytes, B.returns, hml, hown, hts, B.notSynchronized⟩ hG a0 a1 a3 hk0 hl

set_option maxHeartbeats 4000000 in
set_option maxRecDepth 100000 in
theorem kFloating_quotient_253 {p : Program} {l : Launch} {e : Env} {s : State} {m : MethodId} {args : Array Value} {below : List Frame} {meth : Method} {c : Code} {ad td : Nat → Nat} (C : pw_C p s m args meth c cFloating_quotient 16 (some .long) "BitNumbers$Floating") (hG : pw_G (fun _ => False) ad td s s.heap) (a15 : Int32) (s0 : Int64) (s1 : Int32) (s2 : Nat) (hzs1 : s1 = 0 ∨ s1 = 1) (hks2 : s2 < 2) {ls : Array Slot} (hl : lv_has ls 16 [(15, .int a15)]) : W p l e rmFloating_quotient s m args below meth c s.heap [] 0 0 (MQ below (k2_QcV (.long (fFloating_quotient_253 a15 s0 s1 s2))) args s 0 0 (fun _ => False)) (F0 m 253 ls [.long s0, .int s1, .ref (ad s2)]) := by
  obtain ⟨hx, hb, hr, hml, hown, hts, hlocks⟩ := id C
  have hS : va_S (fun _ => False) s.heap s.heap [] := va_S.rf
  refine lv_iload hx hb dFloating_quotient_253 (lv_at hl 0 rfl) ?_
  refine pw_call (va_runV (As := [.int s1, .long s0, .int a15]) (rest := []) ⟨hx, hb, hml, hown, hts⟩ (qFormat_rounded l ad td s2 s1 s0 a15 hks2) (cwV 3 hts (gV w_417 w_418 w_419 w_44 w_420) rfl rfl rfl (by decide +kernel) ⟨Nat.le_of_ble_eq_true rfl, Nat.le_of_ble_eq_true rfl⟩) ⟨pw_bG, va_recvE hG.1 hks2 hS, fun U hU hW => ⟨rfl, (hG.at hU hW)⟩⟩ rfl rfl hl.1 rfl (lv_room (Nat.le_of_ble_eq_true rfl)) dFloating_quotient_255 ⟨Nat.zero_le _, Nat.zero_le _⟩) ?_
  exact W.lret hx hb hr (fun t ht _ => ⟨by rw [(show fFloating_quotient_253 a15 s0 s1 s2 = fFormat_rounded s2 s1 s0 a15 by rw [fFloating_quotient_253])], ht⟩) (fun q h => nomatch h) dFloating_quotient_258
set_option maxHeartbeats 4000000 in
set_option maxRecDepth 100000 in
theorem kFloating_quotient_206 {p : Program} {l : Launch} {e : Env} {s : State} {m : MethodId} {args : Array Value} {below : List Frame} {meth : Method} {c : Code} {ad td : Nat → Nat} (C : pw_C p s m args meth c cFloating_quotient 16 (some .long) "BitNumbers$Floating") (hG : pw_G (fun _ => False) ad td s s.heap) (a0 : Nat) (a1 : Int64) (a3 : Int64) (a5 : Int32) (a7 : Int32) (a8 : Int32) (a9 : Int64) (a11 : Int64) (a13 : Int64) (a15 : Int32) (hk0 : a0 < 2) (hz5 : a5 = 0 ∨ a5 = 1) {n : Nat} (K : Nat → Int64 → Int64 → Int32 → Int32 → Int32 → Int64 → Int64 → Int64 → Int32 → Int64) (hI : pw_B a15 n 57) (hK : ∀ (b0 : Nat) (b1 : Int64) (b3 : Int64) (b5 : Int32) (b7 : Int32) (b8 : Int32) (b9 : Int64) (b11 : Int64) (b13 : Int64) (b15 : Int32) (hk0 : b0 < 2) (hz5 : b5 = 0 ∨ b5 = 1) (hI : pw_I b15 n 57) {ls : Array Slot} (hl : lv_has ls 16 [(0, .ref (ad b0)), (1, .long b1), (3, .long b3), (5, .int b5), (7, .int b7), (8, .int b8), (9, .long b9), (11, .long b11), (13, .long b13), (15, .int b15)]), W p l e rmFloating_quotient s m args below meth c s.heap [] 0 0 (MQ below (k2_QcV (.long (K b0 b1 b3 b5 b7 b8 b9 b11 b13 b15))) args s 0 0 (fun _ => False)) (F0 m 166 ls [])) {ls : Array Slot} (hl : lv_has ls 16 [(0, .ref (ad a0)), (1, .long a1), (3, .long a3), (5, .int a5), (7, .int a7), (8, .int a8), (9, .long a9), (11, .long a11), (13, .long a13), (15, .int a15)]) : W p l e rmFloating_quotient s m args below meth c s.heap [] 0 0 (MQ below (k2_QcV (.long (fFloating_quotient_206 K a0 a1 a3 a5 a7 a8 a9 a11 a13 a15))) args s 0 0 (fun _ => False)) (F0 m 206 ls []) := by
  obtain ⟨hx, hb, hr, hml, hown, hts, hlocks⟩ := id C
  have hS : va_S (fun _ => False) s.heap s.heap [] := va_S.rf
  refine lv_iinc (v := a15 + 1) (lv' := [(15, .int (a15 + 1)), (0, .ref (ad a0)), (1, .long a1), (3, .long a3), (5, .int a5), (7, .int a7), (8, .int a8), (9, .long a9), (11, .long a11), (13, .long a13)]) hx hb dFloating_quotient_206 hl (k := 9) rfl rfl (by decide) rfl (fun ls hl => ?_)
  refine lv_goto (tgt := 166) hx hb dFloating_quotient_209 (by decide) ?_
  rw [(show fFloating_quotient_206 K a0 a1 a3 a5 a7 a8 a9 a11 a13 a15 = K a0 a1 a3 a5 a7 a8 a9 a11 a13 (a15 + 1) by rw [fFloating_quotient_206])]
  exact hK a0 a1 a3 a5 a7 a8 a9 a11 a13 (a15 + 1) hk0 hz5 (pw_B_next hI) (lv_sub hl [1, 2, 3, 4, 5, 6, 7, 8, 9, 0] rfl)
set_option maxHeartbeats 4000000 in
set_option maxRecDepth 100000 in
theorem kFloating_quotient_200 {p : Program} {l : Launch} {e : Env} {s : State} {m : MethodId} {args : Array Value} {below : List Frame} {meth : Method} {c : Code} {ad td : Nat → Nat} (C : pw_C p s m args meth c cFloating_quotient 16 (some .long) "BitNumbers$Floating") (hG : pw_G (fun _ => False) ad td s s.heap) (a0 : Nat) (a1 : Int64) (a3 : Int64) (a5 : Int32) (a7 : Int32) (a8 : Int32) (a9 : Int64) (a11 : Int64) (a13 : Int64) (a15 : Int32) (hk0 : a0 < 2) (hz5 : a5 = 0 ∨ a5 = 1) {n : Nat} (K : Nat → Int64 → Int64 → Int32 → Int32 → Int32 → Int64 → Int64 → Int64 → Int32 → Int64) (hI : pw_B a15 n 57) (hK : ∀ (b0 : Nat) (b1 : Int64) (b3 : Int64) (b5 : Int32) (b7 : Int32) (b8 : Int32) (b9 : Int64) (b11 : Int64) (b13 : Int64) (b15 : Int32) (hk0 : b0 < 2) (hz5 : b5 = 0 ∨ b5 = 1) (hI : pw_I b15 n 57) {ls : Array Slot} (hl : lv_has ls 16 [(0, .ref (ad b0)), (1, .long b1), (3, .long b3), (5, .int b5), (7, .int b7), (8, .int b8), (9, .long b9), (11, .long b11), (13, .long b13), (15, .int b15)]), W p l e rmFloating_quotient s m args below meth c s.heap [] 0 0 (MQ below (k2_QcV (.long (K b0 b1 b3 b5 b7 b8 b9 b11 b13 b15))) args s 0 0 (fun _ => False)) (F0 m 166 ls [])) {ls : Array Slot} (hl : lv_has ls 16 [(0, .ref (ad a0)), (1, .long a1), (3, .long a3), (5, .int a5), (7, .int a7), (8, .int a8), (9, .long a9), (11, .long a11), (13, .long a13), (15, .int a15)]) : W p l e rmFloating_quotient s m args below meth c s.heap [] 0 0 (MQ below (k2_QcV (.long (fFloating_quotient_200 K a0 a1 a3 a5 a7 a8 a9 a11 a13 a15))) args s 0 0 (fun _ => False)) (F0 m 200 ls []) := by
  obtain ⟨hx, hb, hr, hml, hown, hts, hlocks⟩ := id C
  have hS : va_S (fun _ => False) s.heap s.heap [] := va_S.rf
  refine lv_lload hx hb dFloating_quotient_200 (lv_at hl 6 rfl) ?_
  refine lv_iconst (v := 1) hx hb dFloating_quotient_202 (by decide) ?_
  refine lv_lshl (v := bn_shl a9 1) hx hb dFloating_quotient_203 rfl ?_
  refine lv_lstore (lv' := [(9, .long (bn_shl a9 1)), (0, .ref (ad a0)), (1, .long a1), (3, .long a3), (5, .int a5), (7, .int a7), (8, .int a8), (11, .long a11), (13, .long a13), (15, .int a15)]) hx hb dFloating_quotient_204 hl (by decide) rfl (fun ls hl => ?_)
  rw [(show fFloating_quotient_200 K a0 a1 a3 a5 a7 a8 a9 a11 a13 a15 = fFloating_quotient_206 K a0 a1 a3 a5 a7 a8 (bn_shl a9 1) a11 a13 a15 by rw [fFloating_quotient_200])]
  exact kFloating_quotient_206 C hG a0 a1 a3 a5 a7 a8 (bn_shl a9 1) a11 a13 a15 hk0 hz5 K hI hK (lv_sub hl [1, 2, 3, 4, 5, 6, 0, 7, 8, 9] rfl)
set_option maxHeartbeats 4000000 in
set_option maxRecDepth 100000 in
theorem kFloating_quotient_194 {p : Program} {l : Launch} {e : Env} {s : State} {m : MethodId} {args : Array Value} {below : List Frame} {meth : Method} {c : Code} {ad td : Nat → Nat} (C : pw_C p s m args meth c cFloating_quotient 16 (some .long) "BitNumbers$Floating") (hG : pw_G (fun _ => False) ad td s s.heap) (a0 : Nat) (a1 : Int64) (a3 : Int64) (a5 : Int32) (a7 : Int32) (a8 : Int32) (a9 : Int64) (a11 : Int64) (a13 : Int64) (a15 : Int32) (hk0 : a0 < 2) (hz5 : a5 = 0 ∨ a5 = 1) {n : Nat} (K : Nat → Int64 → Int64 → Int32 → Int32 → Int32 → Int64 → Int64 → Int64 → Int32 → Int64) (hI : pw_B a15 n 57) (hK : ∀ (b0 : Nat) (b1 : Int64) (b3 : Int64) (b5 : Int32) (b7 : Int32) (b8 : Int32) (b9 : Int64) (b11 : Int64) (b13 : Int64) (b15 : Int32) (hk0 : b0 < 2) (hz5 : b5 = 0 ∨ b5 = 1) (hI : pw_I b15 n 57) {ls : Array Slot} (hl : lv_has ls 16 [(0, .ref (ad b0)), (1, .long b1), (3, .long b3), (5, .int b5), (7, .int b7), (8, .int b8), (9, .long b9), (11, .long b11), (13, .long b13), (15, .int b15)]), W p l e rmFloating_quotient s m args below meth c s.heap [] 0 0 (MQ below (k2_QcV (.long (K b0 b1 b3 b5 b7 b8 b9 b11 b13 b15))) args s 0 0 (fun _ => False)) (F0 m 166 ls [])) {ls : Array Slot} (hl : lv_has ls 16 [(0, .ref (ad a0)), (1, .long a1), (3, .long a3), (5, .int a5), (7, .int a7), (8, .int a8), (9, .long a9), (11, .long a11), (13, .long a13), (15, .int a15)]) : W p l e rmFloating_quotient s m args below meth c s.heap [] 0 0 (MQ below (k2_QcV (.long (fFloating_quotient_194 K a0 a1 a3 a5 a7 a8 a9 a11 a13 a15))) args s 0 0 (fun _ => False)) (F0 m 194 ls []) := by
  obtain ⟨hx, hb, hr, hml, hown, hts, hlocks⟩ := id C
  have hS : va_S (fun _ => False) s.heap s.heap [] := va_S.rf
  refine lv_lload hx hb dFloating_quotient_194 (lv_at hl 8 rfl) ?_
  refine lv_lconst (v := 1) hx hb dFloating_quotient_196 (by decide) ?_
  refine lv_lor hx hb dFloating_quotient_197 ?_
  refine lv_lstore (lv' := [(13, .long (a13 ||| 1)), (0, .ref (ad a0)), (1, .long a1), (3, .long a3), (5, .int a5), (7, .int a7), (8, .int a8), (9, .long a9), (11, .long a11), (15, .int a15)]) hx hb dFloating_quotient_198 hl (by decide) rfl (fun ls hl => ?_)
  rw [(show fFloating_quotient_194 K a0 a1 a3 a5 a7 a8 a9 a11 a13 a15 = fFloating_quotient_200 K a0 a1 a3 a5 a7 a8 a9 a11 (a13 ||| 1) a15 by rw [fFloating_quotient_194])]
  exact kFloating_quotient_200 C hG a0 a1 a3 a5 a7 a8 a9 a11 (a13 ||| 1) a15 hk0 hz5 K hI hK (lv_sub hl [1, 2, 3, 4, 5, 6, 7, 8, 0, 9] rfl)
set_option maxHeartbeats 4000000 in
set_option maxRecDepth 100000 in
theorem kFloating_quotient_179 {p : Program} {l : Launch} {e : Env} {s : State} {m : MethodId} {args : Array Value} {below : List Frame} {meth : Method} {c : Code} {ad td : Nat → Nat} (C : pw_C p s m args meth c cFloating_quotient 16 (some .long) "BitNumbers$Floating") (hG : pw_G (fun _ => False) ad td s s.heap) (a0 : Nat) (a1 : Int64) (a3 : Int64) (a5 : Int32) (a7 : Int32) (a8 : Int32) (a9 : Int64) (a11 : Int64) (a13 : Int64) (a15 : Int32) (hk0 : a0 < 2) (hz5 : a5 = 0 ∨ a5 = 1) {n : Nat} (K : Nat → Int64 → Int64 → Int32 → Int32 → Int32 → Int64 → Int64 → Int64 → Int32 → Int64) (hI : pw_B a15 n 57) (hK : ∀ (b0 : Nat) (b1 : Int64) (b3 : Int64) (b5 : Int32) (b7 : Int32) (b8 : Int32) (b9 : Int64) (b11 : Int64) (b13 : Int64) (b15 : Int32) (hk0 : b0 < 2) (hz5 : b5 = 0 ∨ b5 = 1) (hI : pw_I b15 n 57) {ls : Array Slot} (hl : lv_has ls 16 [(0, .ref (ad b0)), (1, .long b1), (3, .long b3), (5, .int b5), (7, .int b7), (8, .int b8), (9, .long b9), (11, .long b11), (13, .long b13), (15, .int b15)]), W p l e rmFloating_quotient s m args below meth c s.heap [] 0 0 (MQ below (k2_QcV (.long (K b0 b1 b3 b5 b7 b8 b9 b11 b13 b15))) args s 0 0 (fun _ => False)) (F0 m 166 ls [])) {ls : Array Slot} (hl : lv_has ls 16 [(0, .ref (ad a0)), (1, .long a1), (3, .long a3), (5, .int a5), (7, .int a7), (8, .int a8), (9, .long a9), (11, .long a11), (13, .long a13), (15, .int a15)]) : W p l e rmFloating_quotient s m args below meth c s.heap [] 0 0 (MQ below (k2_QcV (.long (fFloating_quotient_179 K a0 a1 a3 a5 a7 a8 a9 a11 a13 a15))) args s 0 0 (fun _ => False)) (F0 m 179 ls []) := by
  obtain ⟨hx, hb, hr, hml, hown, hts, hlocks⟩ := id C
  have hS : va_S (fun _ => False) s.heap s.heap [] := va_S.rf
  refine lv_lload hx hb dFloating_quotient_179 (lv_at hl 6 rfl) ?_
  refine lv_lload hx hb dFloating_quotient_181 (lv_at hl 7 rfl) ?_
  refine W.lcmp hx hb dFloating_quotient_183 ?_
  refine lv_if_lt (tgt := 200) hx hb dFloating_quotient_184 (by decide) (fun h1 => ?_) (fun h1 => ?_)
  · have h1 : a9 < a11 := (lg_cmp_lt _ _).mp h1
    rw [(show fFloating_quotient_179 K a0 a1 a3 a5 a7 a8 a9 a11 a13 a15 = fFloating_quotient_200 K a0 a1 a3 a5 a7 a8 a9 a11 a13 a15 by rw [fFloating_quotient_179, if_pos h1])]
    exact kFloating_quotient_200 C hG a0 a1 a3 a5 a7 a8 a9 a11 a13 a15 hk0 hz5 K hI hK (lv_sub hl [0, 1, 2, 3, 4, 5, 6, 7, 8, 9] rfl)
  · have h1 : ¬ (a9 < a11) := fun w => h1 ((lg_cmp_lt _ _).mpr w)
    refine lv_lload hx hb dFloating_quotient_187 (lv_at hl 6 rfl) ?_
    refine lv_lload hx hb dFloating_quotient_189 (lv_at hl 7 rfl) ?_
    refine lv_lsub hx hb dFloating_quotient_191 ?_
    refine lv_lstore (lv' := [(9, .long (a9 - a11)), (0, .ref (ad a0)), (1, .long a1), (3, .long a3), (5, .int a5), (7, .int a7), (8, .int a8), (11, .long a11), (13, .long a13), (15, .int a15)]) hx hb dFloating_quotient_192 hl (by decide) rfl (fun ls hl => ?_)
    rw [(show fFloating_quotient_179 K a0 a1 a3 a5 a7 a8 a9 a11 a13 a15 = fFloating_quotient_194 K a0 a1 a3 a5 a7 a8 (a9 - a11) a11 a13 a15 by rw [fFloating_quotient_179, if_neg h1])]
    exact kFloating_quotient_194 C hG a0 a1 a3 a5 a7 a8 (a9 - a11) a11 a13 a15 hk0 hz5 K hI hK (lv_sub hl [1, 2, 3, 4, 5, 6, 0, 7, 8, 9] rfl)
set_option maxHeartbeats 4000000 in
set_option maxRecDepth 100000 in
theorem kFloating_quotient_166 {p : Program} {l : Launch} {e : Env} {s : State} {m : MethodId} {args : Array Value} {below : List Frame} {meth : Method} {c : Code} {ad td : Nat → Nat} (C : pw_C p s m args meth c cFloating_quotient 16 (some .long) "BitNumbers$Floating") (hG : pw_G (fun _ => False) ad td s s.heap) : ∀ (n : Nat) (a0 : Nat) (a1 : Int64) (a3 : Int64) (a5 : Int32) (a7 : Int32) (a8 : Int32) (a9 : Int64) (a11 : Int64) (a13 : Int64) (a15 : Int32) (hk0 : a0 < 2) (hz5 : a5 = 0 ∨ a5 = 1) (hI : pw_I a15 n 57) {ls : Array Slot} (hl : lv_has ls 16 [(0, .ref (ad a0)), (1, .long a1), (3, .long a3), (5, .int a5), (7, .int a7), (8, .int a8), (9, .long a9), (11, .long a11), (13, .long a13), (15, .int a15)]), W p l e rmFloating_quotient s m args below meth c s.heap [] 0 0 (MQ below (k2_QcV (.long (fFloating_quotient_166 n a0 a1 a3 a5 a7 a8 a9 a11 a13 a15))) args s 0 0 (fun _ => False)) (F0 m 166 ls []) := by
  obtain ⟨hx, hb, hr, hml, hown, hts, hlocks⟩ := id C
  have hS : va_S (fun _ => False) s.heap s.heap [] := va_S.rf
  intro n
  induction n with
  | zero =>
    intro a0 a1 a3 a5 a7 a8 a9 a11 a13 a15 hk0 hz5 hI
    exact absurd hI pw_I_zero
  | succ n ih =>
    intro a0 a1 a3 a5 a7 a8 a9 a11 a13 a15 hk0 hz5 hI ls hl
    refine lv_iload hx hb dFloating_quotient_166 (lv_at hl 9 rfl) ?_
    refine lv_bipush (v := 57) hx hb dFloating_quotient_168 (by decide) ?_
    refine lv_icmp_ge (tgt := 212) hx hb dFloating_quotient_170 (by decide) (fun h1 => ?_) (fun h1 => ?_)
    · refine lv_aload_n hx hb dFloating_quotient_212 rfl (lv_at hl 0 rfl) ?_
      refine lv_lload_n hx hb dFloating_quotient_213 rfl (lv_at hl 1 rfl) ?_
      refine pw_call (va_runV (As := [.long a1]) (rest := []) ⟨hx, hb, hml, hown, hts⟩ (qFormat_scale l ad td a0 a1 hk0) (cwV 1 hts (gV w_412 w_324 w_325 w_44 w_326) rfl rfl rfl (by decide +kernel) ⟨Nat.le_of_ble_eq_true rfl, Nat.le_of_ble_eq_true rfl⟩) ⟨pw_bG, va_recvE hG.1 hk0 hS, fun U hU hW => ⟨rfl, (hG.at hU hW)⟩⟩ rfl rfl hl.1 rfl (lv_room (Nat.le_of_ble_eq_true rfl)) dFloating_quotient_214 ⟨Nat.zero_le _, Nat.zero_le _⟩) ?_
      refine lv_iload hx hb dFloating_quotient_217 (lv_at hl 4 rfl) ?_
      refine lv_isub hx hb dFloating_quotient_219 ?_
      refine lv_aload_n hx hb dFloating_quotient_220 rfl (lv_at hl 0 rfl) ?_
      refine lv_lload_n hx hb dFloating_quotient_221 rfl (lv_at hl 2 rfl) ?_
      refine pw_call (va_runV (As := [.long a3]) (rest := [.int ((fFormat_scale a0 a1) - a7)]) ⟨hx, hb, hml, hown, hts⟩ (qFormat_scale l ad td a0 a3 hk0) (cwV 1 hts (gV w_412 w_324 w_325 w_44 w_326) rfl rfl rfl (by decide +kernel) ⟨Nat.le_of_ble_eq_true rfl, Nat.le_of_ble_eq_true rfl⟩) ⟨pw_bG, va_recvE hG.1 hk0 hS, fun U hU hW => ⟨rfl, (hG.at hU hW)⟩⟩ rfl rfl hl.1 rfl (lv_room (Nat.le_of_ble_eq_true rfl)) dFloating_quotient_222 ⟨Nat.zero_le _, Nat.zero_le _⟩) ?_
      refine lv_iload hx hb dFloating_quotient_225 (lv_at hl 5 rfl) ?_
      refine lv_isub hx hb dFloating_quotient_227 ?_
      refine lv_isub hx hb dFloating_quotient_228 ?_
      refine lv_bipush (v := 56) hx hb dFloating_quotient_229 (by decide) ?_
      refine lv_isub hx hb dFloating_quotient_231 ?_
      refine lv_istore (lv' := [(15, .int ((((fFormat_scale a0 a1) - a7) - ((fFormat_scale a0 a3) - a8)) - 56)), (0, .ref (ad a0)), (1, .long a1), (3, .long a3), (5, .int a5), (7, .int a7), (8, .int a8), (9, .long a9), (11, .long a11), (13, .long a13)]) hx hb dFloating_quotient_232 hl (by decide) rfl (fun ls hl => ?_)
      refine lv_aload_n hx hb dFloating_quotient_234 rfl (lv_at hl 1 rfl) ?_
      refine lv_iload hx hb dFloating_quotient_235 (lv_at hl 4 rfl) ?_
      refine lv_lload hx hb dFloating_quotient_237 (lv_at hl 7 rfl) ?_
      refine lv_lconst (v := 0) hx hb dFloating_quotient_239 (by decide) ?_
      refine W.lcmp hx hb dFloating_quotient_240 ?_
      refine lv_if_ne (tgt := 249) hx hb dFloating_quotient_241 (by decide) (fun h2 => ?_) (fun h2 => ?_)
      · have h2 : ¬ (a9 = 0) := fun w => h2 ((lg_cmp_eq _ _).mpr w)
        refine lv_lload hx hb dFloating_quotient_249 (lv_at hl 9 rfl) ?_
        refine lv_lconst (v := 1) hx hb dFloating_quotient_251 (by decide) ?_
        refine lv_lor hx hb dFloating_quotient_252 ?_
        rw [(show fFloating_quotient_166 (n + 1) a0 a1 a3 a5 a7 a8 a9 a11 a13 a15 = fFloating_quotient_253 ((((fFormat_scale a0 a1) - a7) - ((fFormat_scale a0 a3) - a8)) - 56) (a13 ||| 1) a5 a0 by rw [fFloating_quotient_166, if_pos h1, if_neg h2])]
        exact kFloating_quotient_253 C hG ((((fFormat_scale a0 a1) - a7) - ((fFormat_scale a0 a3) - a8)) - 56) (a13 ||| 1) a5 a0 hz5 hk0 (lv_sub hl [0] rfl)
      · have h2 : a9 = 0 := (lg_cmp_eq _ _).mp h2
        refine lv_lload hx hb dFloating_quotient_244 (lv_at hl 9 rfl) ?_
        refine lv_goto (tgt := 253) hx hb dFloating_quotient_246 (by decide) ?_
        rw [(show fFloating_quotient_166 (n + 1) a0 a1 a3 a5 a7 a8 a9 a11 a13 a15 = fFloating_quotient_253 ((((fFormat_scale a0 a1) - a7) - ((fFormat_scale a0 a3) - a8)) - 56) a13 a5 a0 by rw [fFloating_quotient_166, if_pos h1, if_pos h2])]
        exact kFloating_quotient_253 C hG ((((fFormat_scale a0 a1) - a7) - ((fFormat_scale a0 a3) - a8)) - 56) a13 a5 a0 hz5 hk0 (lv_sub hl [0] rfl)
    · refine lv_lload hx hb dFloating_quotient_173 (lv_at hl 8 rfl) ?_
      refine lv_iconst (v := 1) hx hb dFloating_quotient_175 (by decide) ?_
      refine lv_lshl (v := bn_shl a13 1) hx hb dFloating_quotient_176 rfl ?_
      refine lv_lstore (lv' := [(13, .long (bn_shl a13 1)), (0, .ref (ad a0)), (1, .long a1), (3, .long a3), (5, .int a5), (7, .int a7), (8, .int a8), (9, .long a9), (11, .long a11), (15, .int a15)]) hx hb dFloating_quotient_177 hl (by decide) rfl (fun ls hl => ?_)
      rw [(show fFloating_quotient_166 (n + 1) a0 a1 a3 a5 a7 a8 a9 a11 a13 a15 = fFloating_quotient_179 (fFloating_quotient_166 n) a0 a1 a3 a5 a7 a8 a9 a11 (bn_shl a13 1) a15 by rw [fFloating_quotient_166, if_neg h1])]
      exact kFloating_quotient_179 C hG a0 a1 a3 a5 a7 a8 a9 a11 (bn_shl a13 1) a15 hk0 hz5 (fFloating_quotient_166 n) (pw_I_body hI h1) (fun b0 b1 b3 b5 b7 b8 b9 b11 b13 b15 k0 z5 hI _ hl => ih b0 b1 b3 b5 b7 b8 b9 b11 b13 b15 k0 z5 hI hl) (lv_sub hl [1, 2, 3, 4, 5, 6, 7, 8, 0, 9] rfl)
set_option maxHeartbeats 4000000 in
set_option maxRecDepth 100000 in
theorem kFloating_quotient_160 {p : Program} {l : Launch} {e : Env} {s : State} {m : MethodId} {args : Array Value} {below : List Frame} {meth : Method} {c : Code} {ad td : Nat → Nat} (C : pw_C p s m args meth c cFloating_quotient 16 (some .long) "BitNumbers$Floating") (hG : pw_G (fun _ => False) ad td s s.heap) (a0 : Nat) (a1 : Int64) (a3 : Int64) (a5 : Int32) (a7 : Int32) (a8 : Int32) (a9 : Int64) (a11 : Int64) (hk0 : a0 < 2) (hz5 : a5 = 0 ∨ a5 = 1) {ls : Array Slot} (hl : lv_has ls 16 [(0, .ref (ad a0)), (1, .long a1), (3, .long a3), (5, .int a5), (7, .int a7), (8, .int a8), (9, .long a9), (11, .long a11)]) : W p l e rmFloating_quotient s m args below meth c s.heap [] 0 0 (MQ below (k2_QcV (.long (fFloating_quotient_160 a0 a1 a3 a5 a7 a8 a9 a11))) args s 0 0 (fun _ => False)) (F0 m 160 ls []) := by
  obtain ⟨hx, hb, hr, hml, hown, hts, hlocks⟩ := id C
  have hS : va_S (fun _ => False) s.heap s.heap [] := va_S.rf
  refine lv_lconst (v := 0) hx hb dFloating_quotient_160 (by decide) ?_
  refine lv_lstore (lv' := [(13, .long 0), (0, .ref (ad a0)), (1, .long a1), (3, .long a3), (5, .int a5), (7, .int a7), (8, .int a8), (9, .long a9), (11, .long a11)]) hx hb dFloating_quotient_161 hl (by decide) rfl (fun ls hl => ?_)
  refine lv_iconst (v := 0) hx hb dFloating_quotient_163 (by decide) ?_
  refine lv_istore (lv' := [(15, .int 0), (13, .long 0), (0, .ref (ad a0)), (1, .long a1), (3, .long a3), (5, .int a5), (7, .int a7), (8, .int a8), (9, .long a9), (11, .long a11)]) hx hb dFloating_quotient_164 hl (by decide) rfl (fun ls hl => ?_)
  rw [(show fFloating_quotient_160 a0 a1 a3 a5 a7 a8 a9 a11 = fFloating_quotient_166 58 a0 a1 a3 a5 a7 a8 a9 a11 0 0 by rw [fFloating_quotient_160])]
  exact kFloating_quotient_166 C hG 58 a0 a1 a3 a5 a7 a8 a9 a11 0 0 hk0 hz5 (⟨0, by decide, by decide, by decide⟩ : pw_I 0 58 57) (lv_sub hl [2, 3, 4, 5, 6, 7, 8, 9, 1, 0] rfl)
set_option maxHeartbeats 4000000 in
set_option maxRecDepth 100000 in
theorem kFloating_quotient_150 {p : Program} {l : Launch} {e : Env} {s : State} {m : MethodId} {args : Array Value} {below : List Frame} {meth : Method} {c : Code} {ad td : Nat → Nat} (C : pw_C p s m args meth c cFloating_quotient 16 (some .long) "BitNumbers$Floating") (hG : pw_G (fun _ => False) ad td s s.heap) (a0 : Nat) (a1 : Int64) (a3 : Int64) (a5 : Int32) (a7 : Int32) (a8 : Int32) (a9 : Int64) (hk0 : a0 < 2) (hz5 : a5 = 0 ∨ a5 = 1) {ls : Array Slot} (hl : lv_has ls 16 [(0, .ref (ad a0)), (1, .long a1), (3, .long a3), (5, .int a5), (7, .int a7), (8, .int a8), (9, .long a9)]) : W p l e rmFloating_quotient s m args below meth c s.heap [] 0 0 (MQ below (k2_QcV (.long (fFloating_quotient_150 a0 a1 a3 a5 a7 a8 a9))) args s 0 0 (fun _ => False)) (F0 m 150 ls []) := by
  obtain ⟨hx, hb, hr, hml, hown, hts, hlocks⟩ := id C
  have hS : va_S (fun _ => False) s.heap s.heap [] := va_S.rf
  refine lv_aload_n hx hb dFloating_quotient_150 rfl (lv_at hl 0 rfl) ?_
  refine lv_lload_n hx hb dFloating_quotient_151 rfl (lv_at hl 2 rfl) ?_
  refine pw_call (va_runV (As := [.long a3]) (rest := []) ⟨hx, hb, hml, hown, hts⟩ (qFormat_significand l ad td a0 a3 hk0) (cwV 1 hts (gV w_413 w_320 w_321 w_44 w_322) rfl rfl rfl (by decide +kernel) ⟨Nat.le_of_ble_eq_true rfl, Nat.le_of_ble_eq_true rfl⟩) ⟨pw_bG, va_recvE hG.1 hk0 hS, fun U hU hW => ⟨rfl, (hG.at hU hW)⟩⟩ rfl rfl hl.1 rfl (lv_room (Nat.le_of_ble_eq_true rfl)) dFloating_quotient_152 ⟨Nat.zero_le _, Nat.zero_le _⟩) ?_
  refine lv_iload hx hb dFloating_quotient_155 (lv_at hl 5 rfl) ?_
  refine lv_lshl (v := bn_shl (fFormat_significand a0 a3) a8) hx hb dFloating_quotient_157 rfl ?_
  refine lv_lstore (lv' := [(11, .long (bn_shl (fFormat_significand a0 a3) a8)), (0, .ref (ad a0)), (1, .long a1), (3, .long a3), (5, .int a5), (7, .int a7), (8, .int a8), (9, .long a9)]) hx hb dFloating_quotient_158 hl (by decide) rfl (fun ls hl => ?_)
  rw [(show fFloating_quotient_150 a0 a1 a3 a5 a7 a8 a9 = fFloating_quotient_160 a0 a1 a3 a5 a7 a8 a9 (bn_shl (fFormat_significand a0 a3) a8) by rw [fFloating_quotient_150])]
  exact kFloating_quotient_160 C hG a0 a1 a3 a5 a7 a8 a9 (bn_shl (fFormat_significand a0 a3) a8) hk0 hz5 (lv_sub hl [1, 2, 3, 4, 5, 6, 7, 0] rfl)
set_option maxHeartbeats 4000000 in
set_option maxRecDepth 100000 in
theorem kFloating_quotient_140 {p : Program} {l : Launch} {e : Env} {s : State} {m : MethodId} {args : Array Value} {below : List Frame} {meth : Method} {c : Code} {ad td : Nat → Nat} (C : pw_C p s m args meth c cFloating_quotient 16 (some .long) "BitNumbers$Floating") (hG : pw_G (fun _ => False) ad td s s.heap) (a0 : Nat) (a1 : Int64) (a3 : Int64) (a5 : Int32) (a7 : Int32) (a8 : Int32) (hk0 : a0 < 2) (hz5 : a5 = 0 ∨ a5 = 1) {ls : Array Slot} (hl : lv_has ls 16 [(0, .ref (ad a0)), (1, .long a1), (3, .long a3), (5, .int a5), (7, .int a7), (8, .int a8)]) : W p l e rmFloating_quotient s m args below meth c s.heap [] 0 0 (MQ below (k2_QcV (.long (fFloating_quotient_140 a0 a1 a3 a5 a7 a8))) args s 0 0 (fun _ => False)) (F0 m 140 ls []) := by
  obtain ⟨hx, hb, hr, hml, hown, hts, hlocks⟩ := id C
  have hS : va_S (fun _ => False) s.heap s.heap [] := va_S.rf
  refine lv_aload_n hx hb dFloating_quotient_140 rfl (lv_at hl 0 rfl) ?_
  refine lv_lload_n hx hb dFloating_quotient_141 rfl (lv_at hl 1 rfl) ?_
  refine pw_call (va_runV (As := [.long a1]) (rest := []) ⟨hx, hb, hml, hown, hts⟩ (qFormat_significand l ad td a0 a1 hk0) (cwV 1 hts (gV w_413 w_320 w_321 w_44 w_322) rfl rfl rfl (by decide +kernel) ⟨Nat.le_of_ble_eq_true rfl, Nat.le_of_ble_eq_true rfl⟩) ⟨pw_bG, va_recvE hG.1 hk0 hS, fun U hU hW => ⟨rfl, (hG.at hU hW)⟩⟩ rfl rfl hl.1 rfl (lv_room (Nat.le_of_ble_eq_true rfl)) dFloating_quotient_142 ⟨Nat.zero_le _, Nat.zero_le _⟩) ?_
  refine lv_iload hx hb dFloating_quotient_145 (lv_at hl 4 rfl) ?_
  refine lv_lshl (v := bn_shl (fFormat_significand a0 a1) a7) hx hb dFloating_quotient_147 rfl ?_
  refine lv_lstore (lv' := [(9, .long (bn_shl (fFormat_significand a0 a1) a7)), (0, .ref (ad a0)), (1, .long a1), (3, .long a3), (5, .int a5), (7, .int a7), (8, .int a8)]) hx hb dFloating_quotient_148 hl (by decide) rfl (fun ls hl => ?_)
  rw [(show fFloating_quotient_140 a0 a1 a3 a5 a7 a8 = fFloating_quotient_150 a0 a1 a3 a5 a7 a8 (bn_shl (fFormat_significand a0 a1) a7) by rw [fFloating_quotient_140])]
  exact kFloating_quotient_150 C hG a0 a1 a3 a5 a7 a8 (bn_shl (fFormat_significand a0 a1) a7) hk0 hz5 (lv_sub hl [1, 2, 3, 4, 5, 6, 0] rfl)
set_option maxHeartbeats 4000000 in
set_option maxRecDepth 100000 in
theorem kFloating_quotient_130 {p : Program} {l : Launch} {e : Env} {s : State} {m : MethodId} {args : Array Value} {below : List Frame} {meth : Method} {c : Code} {ad td : Nat → Nat} (C : pw_C p s m args meth c cFloating_quotient 16 (some .long) "BitNumbers$Floating") (hG : pw_G (fun _ => False) ad td s s.heap) (a0 : Nat) (a1 : Int64) (a3 : Int64) (a5 : Int32) (a7 : Int32) (hk0 : a0 < 2) (hz5 : a5 = 0 ∨ a5 = 1) {ls : Array Slot} (hl : lv_has ls 16 [(0, .ref (ad a0)), (1, .long a1), (3, .long a3), (5, .int a5), (7, .int a7)]) : W p l e rmFloating_quotient s m args below meth c s.heap [] 0 0 (MQ below (k2_QcV (.long (fFloating_quotient_130 a0 a1 a3 a5 a7))) args s 0 0 (fun _ => False)) (F0 m 130 ls []) := by
  obtain ⟨hx, hb, hr, hml, hown, hts, hlocks⟩ := id C
  have hS : va_S (fun _ => False) s.heap s.heap [] := va_S.rf
  refine lv_aload_n hx hb dFloating_quotient_130 rfl (lv_at hl 0 rfl) ?_
  refine lv_lload_n hx hb dFloating_quotient_131 rfl (lv_at hl 2 rfl) ?_
  refine pw_call (va_runV (As := [.long a3]) (rest := []) ⟨hx, hb, hml, hown, hts⟩ (qFormat_significand l ad td a0 a3 hk0) (cwV 1 hts (gV w_413 w_320 w_321 w_44 w_322) rfl rfl rfl (by decide +kernel) ⟨Nat.le_of_ble_eq_true rfl, Nat.le_of_ble_eq_true rfl⟩) ⟨pw_bG, va_recvE hG.1 hk0 hS, fun U hU hW => ⟨rfl, (hG.at hU hW)⟩⟩ rfl rfl hl.1 rfl (lv_room (Nat.le_of_ble_eq_true rfl)) dFloating_quotient_132 ⟨Nat.zero_le _, Nat.zero_le _⟩) ?_
  refine pw_call (va_runS (As := [.long (fFormat_significand a0 a3)]) (rest := []) ⟨hx, hb, hml, hown, hts⟩ (qFloating_lift l (fFormat_significand a0 a3)) (va_cwS 1 hts (gS w_432 w_433 w_48 w_434) rfl rfl rfl (by decide +kernel) ⟨Nat.le_of_ble_eq_true rfl, Nat.le_of_ble_eq_true rfl⟩) ⟨pw_bT, fun U hU hW => ⟨rfl, trivial⟩⟩ rfl rfl hl.1 rfl (lv_room (Nat.le_of_ble_eq_true rfl)) dFloating_quotient_135 ⟨Nat.zero_le _, Nat.zero_le _⟩) ?_
  refine lv_istore (lv' := [(8, .int (fFloating_lift (fFormat_significand a0 a3))), (0, .ref (ad a0)), (1, .long a1), (3, .long a3), (5, .int a5), (7, .int a7)]) hx hb dFloating_quotient_138 hl (by decide) rfl (fun ls hl => ?_)
  rw [(show fFloating_quotient_130 a0 a1 a3 a5 a7 = fFloating_quotient_140 a0 a1 a3 a5 a7 (fFloating_lift (fFormat_significand a0 a3)) by rw [fFloating_quotient_130])]
  exact kFloating_quotient_140 C hG a0 a1 a3 a5 a7 (fFloating_lift (fFormat_significand a0 a3)) hk0 hz5 (lv_sub hl [1, 2, 3, 4, 5, 0] rfl)
set_option maxHeartbeats 4000000 in
set_option maxRecDepth 100000 in
theorem kFloating_quotient_112 {p : Program} {l : Launch} {e : Env} {s : State} {m : MethodId} {args : Array Value} {below : List Frame} {meth : Method} {c : Code} {ad td : Nat → Nat} (C : pw_C p s m args meth c cFloating_quotient 16 (some .long) "BitNumbers$Floating") (hG : pw_G (fun _ => False) ad td s s.heap) (a0 : Nat) (a5 : Int32) (hk0 : a0 < 2) (hz5 : a5 = 0 ∨ a5 = 1) {ls : Array Slot} (hl : lv_has ls 16 [(0, .ref (ad a0)), (5, .int a5)]) : W p l e rmFloating_quotient s m args below meth c s.heap [] 0 0 (MQ below (k2_QcV (.long (fFloating_quotient_112 a0 a5))) args s 0 0 (fun _ => False)) (F0 m 112 ls []) := by
  obtain ⟨hx, hb, hr, hml, hown, hts, hlocks⟩ := id C
  have hS : va_S (fun _ => False) s.heap s.heap [] := va_S.rf
  refine lv_aload_n hx hb dFloating_quotient_112 rfl (lv_at hl 0 rfl) ?_
  refine lv_iload hx hb dFloating_quotient_113 (lv_at hl 1 rfl) ?_
  refine lv_lconst (v := 0) hx hb dFloating_quotient_115 (by decide) ?_
  refine pw_call (va_runV (As := [.int a5, .long 0]) (rest := []) ⟨hx, hb, hml, hown, hts⟩ (qFormat_signed l ad td a0 a5 0 hk0) (cwV 2 hts (gV w_402 w_403 w_404 w_44 w_405) rfl rfl rfl (by decide +kernel) ⟨Nat.le_of_ble_eq_true rfl, Nat.le_of_ble_eq_true rfl⟩) ⟨pw_bG, va_recvE hG.1 hk0 hS, fun U hU hW => ⟨rfl, (hG.at hU hW)⟩⟩ rfl rfl hl.1 rfl (lv_room (Nat.le_of_ble_eq_true rfl)) dFloating_quotient_116 ⟨Nat.zero_le _, Nat.zero_le _⟩) ?_
  exact W.lret hx hb hr (fun t ht _ => ⟨by rw [(show fFloating_quotient_112 a0 a5 = fFormat_signed a0 a5 0 by rw [fFloating_quotient_112])], ht⟩) (fun q h => nomatch h) dFloating_quotient_119
set_option maxHeartbeats 4000000 in
set_option maxRecDepth 100000 in
theorem kFloating_quotient_85 {p : Program} {l : Launch} {e : Env} {s : State} {m : MethodId} {args : Array Value} {below : List Frame} {meth : Method} {c : Code} {ad td : Nat → Nat} (C : pw_C p s m args meth c cFloating_quotient 16 (some .long) "BitNumbers$Floating") (hG : pw_G (fun _ => False) ad td s s.heap) (a0 : Nat) (a5 : Int32) (hk0 : a0 < 2) (hz5 : a5 = 0 ∨ a5 = 1) {ls : Array Slot} (hl : lv_has ls 16 [(0, .ref (ad a0)), (5, .int a5)]) : W p l e rmFloating_quotient s m args below meth c s.heap [] 0 0 (MQ below (k2_QcV (.long (fFloating_quotient_85 a0 a5))) args s 0 0 (fun _ => False)) (F0 m 85 ls []) := by
  obtain ⟨hx, hb, hr, hml, hown, hts, hlocks⟩ := id C
  have hS : va_S (fun _ => False) s.heap s.heap [] := va_S.rf
  refine lv_aload_n hx hb dFloating_quotient_85 rfl (lv_at hl 0 rfl) ?_
  refine lv_iload hx hb dFloating_quotient_86 (lv_at hl 1 rfl) ?_
  refine lv_aload_n hx hb dFloating_quotient_88 rfl (lv_at hl 0 rfl) ?_
  refine va_getX hx hb hG.2.1.2.2.2.2.2.1 hk0 hS hown (hts _ w_817) (fun _ h9 => h9) dFloating_quotient_89 ?_
  refine pw_call (va_runV (As := [.int a5, .long (fm_infinite a0)]) (rest := []) ⟨hx, hb, hml, hown, hts⟩ (qFormat_signed l ad td a0 a5 (fm_infinite a0) hk0) (cwV 2 hts (gV w_402 w_403 w_404 w_44 w_405) rfl rfl rfl (by decide +kernel) ⟨Nat.le_of_ble_eq_true rfl, Nat.le_of_ble_eq_true rfl⟩) ⟨pw_bG, va_recvE hG.1 hk0 hS, fun U hU hW => ⟨rfl, (hG.at hU hW)⟩⟩ rfl rfl hl.1 rfl (lv_room (Nat.le_of_ble_eq_true rfl)) dFloating_quotient_92 ⟨Nat.zero_le _, Nat.zero_le _⟩) ?_
  exact W.lret hx hb hr (fun t ht _ => ⟨by rw [(show fFloating_quotient_85 a0 a5 = fFormat_signed a0 a5 (fm_infinite a0) by rw [fFloating_quotient_85])], ht⟩) (fun q h => nomatch h) dFloating_quotient_95
set_option maxHeartbeats 4000000 in
set_option maxRecDepth 100000 in
theorem kFloating_quotient_57 {p : Program} {l : Launch} {e : Env} {s : State} {m : MethodId} {args : Array Value} {below : List Frame} {meth : Method} {c : Code} {ad td : Nat → Nat} (C : pw_C p s m args meth c cFloating_quotient 16 (some .long) "BitNumbers$Floating") (hG : pw_G (fun _ => False) ad td s s.heap) (a0 : Nat) (a1 : Int64) (a3 : Int64) (a5 : Int32) (s0 : Int32) (hk0 : a0 < 2) (hz5 : a5 = 0 ∨ a5 = 1) (hzs0 : s0 = 0 ∨ s0 = 1) {ls : Array Slot} (hl : lv_has ls 16 [(0, .ref (ad a0)), (1, .long a1), (3, .long a3), (5, .int a5)]) : W p l e rmFloating_quotient s m args below meth c s.heap [] 0 0 (MQ below (k2_QcV (.long (fFloating_quotient_57 a0 a1 a3 a5 s0))) args s 0 0 (fun _ => False)) (F0 m 57 ls [.int s0]) := by
  obtain ⟨hx, hb, hr, hml, hown, hts, hlocks⟩ := id C
  have hS : va_S (fun _ => False) s.heap s.heap [] := va_S.rf
  refine lv_istore (lv' := [(6, .int s0), (0, .ref (ad a0)), (1, .long a1), (3, .long a3), (5, .int a5)]) hx hb dFloating_quotient_57 hl (by decide) rfl (fun ls hl => ?_)
  refine lv_iload hx hb dFloating_quotient_59 (lv_at hl 0 rfl) ?_
  refine lv_if_eq (tgt := 69) hx hb dFloating_quotient_61 (by decide) (fun h1 => ?_) (fun h1 => ?_)
  · refine lv_aload_n hx hb dFloating_quotient_69 rfl (lv_at hl 1 rfl) ?_
    refine lv_lload_n hx hb dFloating_quotient_70 rfl (lv_at hl 2 rfl) ?_
    refine pw_call (va_runV (As := [.long a1]) (rest := []) ⟨hx, hb, hml, hown, hts⟩ (qFormat_isInfinite l ad td a0 a1 hk0) (cwV 1 hts (gV w_431 w_159 w_160 w_44 w_161) rfl rfl rfl (by decide +kernel) ⟨Nat.le_of_ble_eq_true rfl, Nat.le_of_ble_eq_true rfl⟩) ⟨pw_bG, va_recvE hG.1 hk0 hS, fun U hU hW => ⟨rfl, (hG.at hU hW)⟩⟩ rfl rfl hl.1 rfl (lv_room (Nat.le_of_ble_eq_true rfl)) dFloating_quotient_71 ⟨Nat.zero_le _, Nat.zero_le _⟩) ?_
    refine lv_if_ne (tgt := 85) hx hb dFloating_quotient_74 (by decide) (fun h2 => ?_) (fun h2 => ?_)
    · rw [(show fFloating_quotient_57 a0 a1 a3 a5 s0 = fFloating_quotient_85 a0 a5 by rw [fFloating_quotient_57, if_pos h1, if_neg h2])]
      exact kFloating_quotient_85 C hG a0 a5 hk0 hz5 (lv_sub hl [1, 4] rfl)
    · refine lv_aload_n hx hb dFloating_quotient_77 rfl (lv_at hl 1 rfl) ?_
      refine lv_lload_n hx hb dFloating_quotient_78 rfl (lv_at hl 3 rfl) ?_
      refine pw_call (va_runV (As := [.long a3]) (rest := []) ⟨hx, hb, hml, hown, hts⟩ (qFormat_isZero l ad td a0 a3 hk0) (cwV 1 hts (gV w_430 w_163 w_164 w_44 w_165) rfl rfl rfl (by decide +kernel) ⟨Nat.le_of_ble_eq_true rfl, Nat.le_of_ble_eq_true rfl⟩) ⟨pw_bG, va_recvE hG.1 hk0 hS, fun U hU hW => ⟨rfl, (hG.at hU hW)⟩⟩ rfl rfl hl.1 rfl (lv_room (Nat.le_of_ble_eq_true rfl)) dFloating_quotient_79 ⟨Nat.zero_le _, Nat.zero_le _⟩) ?_
      refine lv_if_eq (tgt := 96) hx hb dFloating_quotient_82 (by decide) (fun h3 => ?_) (fun h3 => ?_)
      · refine lv_aload_n hx hb dFloating_quotient_96 rfl (lv_at hl 1 rfl) ?_
        refine lv_lload_n hx hb dFloating_quotient_97 rfl (lv_at hl 2 rfl) ?_
        refine pw_call (va_runV (As := [.long a1]) (rest := []) ⟨hx, hb, hml, hown, hts⟩ (qFormat_isZero l ad td a0 a1 hk0) (cwV 1 hts (gV w_430 w_163 w_164 w_44 w_165) rfl rfl rfl (by decide +kernel) ⟨Nat.le_of_ble_eq_true rfl, Nat.le_of_ble_eq_true rfl⟩) ⟨pw_bG, va_recvE hG.1 hk0 hS, fun U hU hW => ⟨rfl, (hG.at hU hW)⟩⟩ rfl rfl hl.1 rfl (lv_room (Nat.le_of_ble_eq_true rfl)) dFloating_quotient_98 ⟨Nat.zero_le _, Nat.zero_le _⟩) ?_
        refine lv_if_ne (tgt := 112) hx hb dFloating_quotient_101 (by decide) (fun h4 => ?_) (fun h4 => ?_)
        · rw [(show fFloating_quotient_57 a0 a1 a3 a5 s0 = fFloating_quotient_112 a0 a5 by rw [fFloating_quotient_57, if_pos h1, if_pos h2, if_pos h3, if_neg h4])]
          exact kFloating_quotient_112 C hG a0 a5 hk0 hz5 (lv_sub hl [1, 4] rfl)
        · refine lv_aload_n hx hb dFloating_quotient_104 rfl (lv_at hl 1 rfl) ?_
          refine lv_lload_n hx hb dFloating_quotient_105 rfl (lv_at hl 3 rfl) ?_
          refine pw_call (va_runV (As := [.long a3]) (rest := []) ⟨hx, hb, hml, hown, hts⟩ (qFormat_isInfinite l ad td a0 a3 hk0) (cwV 1 hts (gV w_431 w_159 w_160 w_44 w_161) rfl rfl rfl (by decide +kernel) ⟨Nat.le_of_ble_eq_true rfl, Nat.le_of_ble_eq_true rfl⟩) ⟨pw_bG, va_recvE hG.1 hk0 hS, fun U hU hW => ⟨rfl, (hG.at hU hW)⟩⟩ rfl rfl hl.1 rfl (lv_room (Nat.le_of_ble_eq_true rfl)) dFloating_quotient_106 ⟨Nat.zero_le _, Nat.zero_le _⟩) ?_
          refine lv_if_eq (tgt := 120) hx hb dFloating_quotient_109 (by decide) (fun h5 => ?_) (fun h5 => ?_)
          · refine lv_aload_n hx hb dFloating_quotient_120 rfl (lv_at hl 1 rfl) ?_
            refine lv_lload_n hx hb dFloating_quotient_121 rfl (lv_at hl 2 rfl) ?_
            refine pw_call (va_runV (As := [.long a1]) (rest := []) ⟨hx, hb, hml, hown, hts⟩ (qFormat_significand l ad td a0 a1 hk0) (cwV 1 hts (gV w_413 w_320 w_321 w_44 w_322) rfl rfl rfl (by decide +kernel) ⟨Nat.le_of_ble_eq_true rfl, Nat.le_of_ble_eq_true rfl⟩) ⟨pw_bG, va_recvE hG.1 hk0 hS, fun U hU hW => ⟨rfl, (hG.at hU hW)⟩⟩ rfl rfl hl.1 rfl (lv_room (Nat.le_of_ble_eq_true rfl)) dFloating_quotient_122 ⟨Nat.zero_le _, Nat.zero_le _⟩) ?_
            refine pw_call (va_runS (As := [.long (fFormat_significand a0 a1)]) (rest := []) ⟨hx, hb, hml, hown, hts⟩ (qFloating_lift l (fFormat_significand a0 a1)) (va_cwS 1 hts (gS w_432 w_433 w_48 w_434) rfl rfl rfl (by decide +kernel) ⟨Nat.le_of_ble_eq_true rfl, Nat.le_of_ble_eq_true rfl⟩) ⟨pw_bT, fun U hU hW => ⟨rfl, trivial⟩⟩ rfl rfl hl.1 rfl (lv_room (Nat.le_of_ble_eq_true rfl)) dFloating_quotient_125 ⟨Nat.zero_le _, Nat.zero_le _⟩) ?_
            refine lv_istore (lv' := [(7, .int (fFloating_lift (fFormat_significand a0 a1))), (6, .int s0), (0, .ref (ad a0)), (1, .long a1), (3, .long a3), (5, .int a5)]) hx hb dFloating_quotient_128 hl (by decide) rfl (fun ls hl => ?_)
            rw [(show fFloating_quotient_57 a0 a1 a3 a5 s0 = fFloating_quotient_130 a0 a1 a3 a5 (fFloating_lift (fFormat_significand a0 a1)) by rw [fFloating_quotient_57, if_pos h1, if_pos h2, if_pos h3, if_pos h4, if_pos h5])]
            exact kFloating_quotient_130 C hG a0 a1 a3 a5 (fFloating_lift (fFormat_significand a0 a1)) hk0 hz5 (lv_sub hl [2, 3, 4, 5, 0] rfl)
          · rw [(show fFloating_quotient_57 a0 a1 a3 a5 s0 = fFloating_quotient_112 a0 a5 by rw [fFloating_quotient_57, if_pos h1, if_pos h2, if_pos h3, if_pos h4, if_neg h5])]
            exact kFloating_quotient_112 C hG a0 a5 hk0 hz5 (lv_sub hl [1, 4] rfl)
      · rw [(show fFloating_quotient_57 a0 a1 a3 a5 s0 = fFloating_quotient_85 a0 a5 by rw [fFloating_quotient_57, if_pos h1, if_pos h2, if_neg h3])]
        exact kFloating_quotient_85 C hG a0 a5 hk0 hz5 (lv_sub hl [1, 4] rfl)
  · refine lv_aload_n hx hb dFloating_quotient_64 rfl (lv_at hl 1 rfl) ?_
    refine va_getX hx hb hG.2.1.2.2.2.2.2.2 hk0 hS hown (hts _ w_815) (fun _ h9 => h9) dFloating_quotient_65 ?_
    exact W.lret hx hb hr (fun t ht _ => ⟨by rw [(show fFloating_quotient_57 a0 a1 a3 a5 s0 = fm_none a0 by rw [fFloating_quotient_57, if_neg h1])], ht⟩) (fun q h => nomatch h) dFloating_quotient_68
set_option maxHeartbeats 4000000 in
set_option maxRecDepth 100000 in
theorem kFloating_quotient_56 {p : Program} {l : Launch} {e : Env} {s : State} {m : MethodId} {args : Array Value} {below : List Frame} {meth : Method} {c : Code} {ad td : Nat → Nat} (C : pw_C p s m args meth c cFloating_quotient 16 (some .long) "BitNumbers$Floating") (hG : pw_G (fun _ => False) ad td s s.heap) (a0 : Nat) (a1 : Int64) (a3 : Int64) (a5 : Int32) (hk0 : a0 < 2) (hz5 : a5 = 0 ∨ a5 = 1) {ls : Array Slot} (hl : lv_has ls 16 [(0, .ref (ad a0)), (1, .long a1), (3, .long a3), (5, .int a5)]) : W p l e rmFloating_quotient s m args below meth c s.heap [] 0 0 (MQ below (k2_QcV (.long (fFloating_quotient_56 a0 a1 a3 a5))) args s 0 0 (fun _ => False)) (F0 m 56 ls []) := by
  obtain ⟨hx, hb, hr, hml, hown, hts, hlocks⟩ := id C
  have hS : va_S (fun _ => False) s.heap s.heap [] := va_S.rf
  refine lv_iconst (v := 0) hx hb dFloating_quotient_56 (by decide) ?_
  rw [(show fFloating_quotient_56 a0 a1 a3 a5 = fFloating_quotient_57 a0 a1 a3 a5 0 by rw [fFloating_quotient_56])]
  exact kFloating_quotient_57 C hG a0 a1 a3 a5 0 hk0 hz5 (Or.inl rfl) (lv_sub hl [0, 1, 2, 3] rfl)
set_option maxHeartbeats 4000000 in
set_option maxRecDepth 100000 in
theorem kFloating_quotient_52 {p : Program} {l : Launch} {e : Env} {s : State} {m : MethodId} {args : Array Value} {below : List Frame} {meth : Method} {c : Code} {ad td : Nat → Nat} (C : pw_C p s m args meth c cFloating_quotient 16 (some .long) "BitNumbers$Floating") (hG : pw_G (fun _ => False) ad td s s.heap) (a0 : Nat) (a1 : Int64) (a3 : Int64) (a5 : Int32) (hk0 : a0 < 2) (hz5 : a5 = 0 ∨ a5 = 1) {ls : Array Slot} (hl : lv_has ls 16 [(0, .ref (ad a0)), (1, .long a1), (3, .long a3), (5, .int a5)]) : W p l e rmFloating_quotient s m args below meth c s.heap [] 0 0 (MQ below (k2_QcV (.long (fFloating_quotient_52 a0 a1 a3 a5))) args s 0 0 (fun _ => False)) (F0 m 52 ls []) := by
  obtain ⟨hx, hb, hr, hml, hown, hts, hlocks⟩ := id C
  have hS : va_S (fun _ => False) s.heap s.heap [] := va_S.rf
  refine lv_iconst (v := 1) hx hb dFloating_quotient_52 (by decide) ?_
  refine lv_goto (tgt := 57) hx hb dFloating_quotient_53 (by decide) ?_
  rw [(show fFloating_quotient_52 a0 a1 a3 a5 = fFloating_quotient_57 a0 a1 a3 a5 1 by rw [fFloating_quotient_52])]
  exact kFloating_quotient_57 C hG a0 a1 a3 a5 1 hk0 hz5 (Or.inr rfl) (lv_sub hl [0, 1, 2, 3] rfl)
set_option maxHeartbeats 4000000 in
set_option maxRecDepth 100000 in
theorem kFloating_quotient_36 {p : Program} {l : Launch} {e : Env} {s : State} {m : MethodId} {args : Array Value} {below : List Frame} {meth : Method} {c : Code} {ad td : Nat → Nat} (C : pw_C p s m args meth c cFloating_quotient 16 (some .long) "BitNumbers$Floating") (hG : pw_G (fun _ => False) ad td s s.heap) (a0 : Nat) (a1 : Int64) (a3 : Int64) (a5 : Int32) (hk0 : a0 < 2) (hz5 : a5 = 0 ∨ a5 = 1) {ls : Array Slot} (hl : lv_has ls 16 [(0, .ref (ad a0)), (1, .long a1), (3, .long a3), (5, .int a5)]) : W p l e rmFloating_quotient s m args below meth c s.heap [] 0 0 (MQ below (k2_QcV (.long (fFloating_quotient_36 a0 a1 a3 a5))) args s 0 0 (fun _ => False)) (F0 m 36 ls []) := by
  obtain ⟨hx, hb, hr, hml, hown, hts, hlocks⟩ := id C
  have hS : va_S (fun _ => False) s.heap s.heap [] := va_S.rf
  refine lv_aload_n hx hb dFloating_quotient_36 rfl (lv_at hl 0 rfl) ?_
  refine lv_lload_n hx hb dFloating_quotient_37 rfl (lv_at hl 1 rfl) ?_
  refine pw_call (va_runV (As := [.long a1]) (rest := []) ⟨hx, hb, hml, hown, hts⟩ (qFormat_isInfinite l ad td a0 a1 hk0) (cwV 1 hts (gV w_431 w_159 w_160 w_44 w_161) rfl rfl rfl (by decide +kernel) ⟨Nat.le_of_ble_eq_true rfl, Nat.le_of_ble_eq_true rfl⟩) ⟨pw_bG, va_recvE hG.1 hk0 hS, fun U hU hW => ⟨rfl, (hG.at hU hW)⟩⟩ rfl rfl hl.1 rfl (lv_room (Nat.le_of_ble_eq_true rfl)) dFloating_quotient_38 ⟨Nat.zero_le _, Nat.zero_le _⟩) ?_
  refine lv_if_eq (tgt := 56) hx hb dFloating_quotient_41 (by decide) (fun h1 => ?_) (fun h1 => ?_)
  · rw [(show fFloating_quotient_36 a0 a1 a3 a5 = fFloating_quotient_56 a0 a1 a3 a5 by rw [fFloating_quotient_36, if_pos h1])]
    exact kFloating_quotient_56 C hG a0 a1 a3 a5 hk0 hz5 (lv_sub hl [0, 1, 2, 3] rfl)
  · refine lv_aload_n hx hb dFloating_quotient_44 rfl (lv_at hl 0 rfl) ?_
    refine lv_lload_n hx hb dFloating_quotient_45 rfl (lv_at hl 2 rfl) ?_
    refine pw_call (va_runV (As := [.long a3]) (rest := []) ⟨hx, hb, hml, hown, hts⟩ (qFormat_isInfinite l ad td a0 a3 hk0) (cwV 1 hts (gV w_431 w_159 w_160 w_44 w_161) rfl rfl rfl (by decide +kernel) ⟨Nat.le_of_ble_eq_true rfl, Nat.le_of_ble_eq_true rfl⟩) ⟨pw_bG, va_recvE hG.1 hk0 hS, fun U hU hW => ⟨rfl, (hG.at hU hW)⟩⟩ rfl rfl hl.1 rfl (lv_room (Nat.le_of_ble_eq_true rfl)) dFloating_quotient_46 ⟨Nat.zero_le _, Nat.zero_le _⟩) ?_
    refine lv_if_eq (tgt := 56) hx hb dFloating_quotient_49 (by decide) (fun h2 => ?_) (fun h2 => ?_)
    · rw [(show fFloating_quotient_36 a0 a1 a3 a5 = fFloating_quotient_56 a0 a1 a3 a5 by rw [fFloating_quotient_36, if_neg h1, if_pos h2])]
      exact kFloating_quotient_56 C hG a0 a1 a3 a5 hk0 hz5 (lv_sub hl [0, 1, 2, 3] rfl)
    · rw [(show fFloating_quotient_36 a0 a1 a3 a5 = fFloating_quotient_52 a0 a1 a3 a5 by rw [fFloating_quotient_36, if_neg h1, if_neg h2])]
      exact kFloating_quotient_52 C hG a0 a1 a3 a5 hk0 hz5 (lv_sub hl [0, 1, 2, 3] rfl)
set_option maxHeartbeats 4000000 in
set_option maxRecDepth 100000 in
theorem kFloating_quotient_18 {p : Program} {l : Launch} {e : Env} {s : State} {m : MethodId} {args : Array Value} {below : List Frame} {meth : Method} {c : Code} {ad td : Nat → Nat} (C : pw_C p s m args meth c cFloating_quotient 16 (some .long) "BitNumbers$Floating") (hG : pw_G (fun _ => False) ad td s s.heap) (a0 : Nat) (a1 : Int64) (a3 : Int64) (s0 : Int32) (hk0 : a0 < 2) (hzs0 : s0 = 0 ∨ s0 = 1) {ls : Array Slot} (hl : lv_has ls 16 [(0, .ref (ad a0)), (1, .long a1), (3, .long a3)]) : W p l e rmFloating_quotient s m args below meth c s.heap [] 0 0 (MQ below (k2_QcV (.long (fFloating_quotient_18 a0 a1 a3 s0))) args s 0 0 (fun _ => False)) (F0 m 18 ls [.int s0]) := by
  obtain ⟨hx, hb, hr, hml, hown, hts, hlocks⟩ := id C
  have hS : va_S (fun _ => False) s.heap s.heap [] := va_S.rf
  refine lv_istore (lv' := [(5, .int s0), (0, .ref (ad a0)), (1, .long a1), (3, .long a3)]) hx hb dFloating_quotient_18 hl (by decide) rfl (fun ls hl => ?_)
  refine lv_aload_n hx hb dFloating_quotient_20 rfl (lv_at hl 1 rfl) ?_
  refine lv_lload_n hx hb dFloating_quotient_21 rfl (lv_at hl 2 rfl) ?_
  refine pw_call (va_runV (As := [.long a1]) (rest := []) ⟨hx, hb, hml, hown, hts⟩ (qFormat_isZero l ad td a0 a1 hk0) (cwV 1 hts (gV w_430 w_163 w_164 w_44 w_165) rfl rfl rfl (by decide +kernel) ⟨Nat.le_of_ble_eq_true rfl, Nat.le_of_ble_eq_true rfl⟩) ⟨pw_bG, va_recvE hG.1 hk0 hS, fun U hU hW => ⟨rfl, (hG.at hU hW)⟩⟩ rfl rfl hl.1 rfl (lv_room (Nat.le_of_ble_eq_true rfl)) dFloating_quotient_22 ⟨Nat.zero_le _, Nat.zero_le _⟩) ?_
  refine lv_if_eq (tgt := 36) hx hb dFloating_quotient_25 (by decide) (fun h1 => ?_) (fun h1 => ?_)
  · rw [(show fFloating_quotient_18 a0 a1 a3 s0 = fFloating_quotient_36 a0 a1 a3 s0 by rw [fFloating_quotient_18, if_pos h1])]
    exact kFloating_quotient_36 C hG a0 a1 a3 s0 hk0 hzs0 (lv_sub hl [1, 2, 3, 0] rfl)
  · refine lv_aload_n hx hb dFloating_quotient_28 rfl (lv_at hl 1 rfl) ?_
    refine lv_lload_n hx hb dFloating_quotient_29 rfl (lv_at hl 3 rfl) ?_
    refine pw_call (va_runV (As := [.long a3]) (rest := []) ⟨hx, hb, hml, hown, hts⟩ (qFormat_isZero l ad td a0 a3 hk0) (cwV 1 hts (gV w_430 w_163 w_164 w_44 w_165) rfl rfl rfl (by decide +kernel) ⟨Nat.le_of_ble_eq_true rfl, Nat.le_of_ble_eq_true rfl⟩) ⟨pw_bG, va_recvE hG.1 hk0 hS, fun U hU hW => ⟨rfl, (hG.at hU hW)⟩⟩ rfl rfl hl.1 rfl (lv_room (Nat.le_of_ble_eq_true rfl)) dFloating_quotient_30 ⟨Nat.zero_le _, Nat.zero_le _⟩) ?_
    refine lv_if_ne (tgt := 52) hx hb dFloating_quotient_33 (by decide) (fun h2 => ?_) (fun h2 => ?_)
    · rw [(show fFloating_quotient_18 a0 a1 a3 s0 = fFloating_quotient_52 a0 a1 a3 s0 by rw [fFloating_quotient_18, if_neg h1, if_neg h2])]
      exact kFloating_quotient_52 C hG a0 a1 a3 s0 hk0 hzs0 (lv_sub hl [1, 2, 3, 0] rfl)
    · rw [(show fFloating_quotient_18 a0 a1 a3 s0 = fFloating_quotient_36 a0 a1 a3 s0 by rw [fFloating_quotient_18, if_neg h1, if_pos h2])]
      exact kFloating_quotient_36 C hG a0 a1 a3 s0 hk0 hzs0 (lv_sub hl [1, 2, 3, 0] rfl)
set_option maxHeartbeats 4000000 in
set_option maxRecDepth 100000 in
theorem kFloating_quotient_0 {p : Program} {l : Launch} {e : Env} {s : State} {m : MethodId} {args : Array Value} {below : List Frame} {meth : Method} {c : Code} {ad td : Nat → Nat} (C : pw_C p s m args meth c cFloating_quotient 16 (some .long) "BitNumbers$Floating") (hG : pw_G (fun _ => False) ad td s s.heap) (a0 : Nat) (a1 : Int64) (a3 : Int64) (hk0 : a0 < 2) {ls : Array Slot} (hl : lv_has ls 16 [(0, .ref (ad a0)), (1, .long a1), (3, .long a3)]) : W p l e rmFloating_quotient s m args below meth c s.heap [] 0 0 (MQ below (k2_QcV (.long (fFloating_quotient a0 a1 a3))) args s 0 0 (fun _ => False)) (F0 m 0 ls []) := by
  obtain ⟨hx, hb, hr, hml, hown, hts, hlocks⟩ := id C
  have hS : va_S (fun _ => False) s.heap s.heap [] := va_S.rf
  refine lv_aload_n hx hb dFloating_quotient_0 rfl (lv_at hl 0 rfl) ?_
  refine lv_lload_n hx hb dFloating_quotient_1 rfl (lv_at hl 1 rfl) ?_
  refine pw_call (va_runV (As := [.long a1]) (rest := []) ⟨hx, hb, hml, hown, hts⟩ (qFormat_isNegative l ad td a0 a1 hk0) (cwV 1 hts (gV w_383 w_142 w_143 w_44 w_144) rfl rfl rfl (by decide +kernel) ⟨Nat.le_of_ble_eq_true rfl, Nat.le_of_ble_eq_true rfl⟩) ⟨pw_bG, va_recvE hG.1 hk0 hS, fun U hU hW => ⟨rfl, (hG.at hU hW)⟩⟩ rfl rfl hl.1 rfl (lv_room (Nat.le_of_ble_eq_true rfl)) dFloating_quotient_2 ⟨Nat.zero_le _, Nat.zero_le _⟩) ?_
  refine lv_aload_n hx hb dFloating_quotient_5 rfl (lv_at hl 0 rfl) ?_
  refine lv_lload_n hx hb dFloating_quotient_6 rfl (lv_at hl 2 rfl) ?_
  refine pw_call (va_runV (As := [.long a3]) (rest := [.int (fFormat_isNegative a0 a1)]) ⟨hx, hb, hml, hown, hts⟩ (qFormat_isNegative l ad td a0 a3 hk0) (cwV 1 hts (gV w_383 w_142 w_143 w_44 w_144) rfl rfl rfl (by decide +kernel) ⟨Nat.le_of_ble_eq_true rfl, Nat.le_of_ble_eq_true rfl⟩) ⟨pw_bG, va_recvE hG.1 hk0 hS, fun U hU hW => ⟨rfl, (hG.at hU hW)⟩⟩ rfl rfl hl.1 rfl (lv_room (Nat.le_of_ble_eq_true rfl)) dFloating_quotient_7 ⟨Nat.zero_le _, Nat.zero_le _⟩) ?_
  refine lv_icmp_eq (tgt := 17) hx hb dFloating_quotient_10 (by decide) (fun h1 => ?_) (fun h1 => ?_)
  · refine lv_iconst (v := 0) hx hb dFloating_quotient_17 (by decide) ?_
    rw [(show fFloating_quotient a0 a1 a3 = fFloating_quotient_18 a0 a1 a3 0 by rw [fFloating_quotient, if_pos h1])]
    exact kFloating_quotient_18 C hG a0 a1 a3 0 hk0 (Or.inl rfl) (lv_sub hl [0, 1, 2] rfl)
  · refine lv_iconst (v := 1) hx hb dFloating_quotient_13 (by decide) ?_
    refine lv_goto (tgt := 18) hx hb dFloating_quotient_14 (by decide) ?_
    rw [(show fFloating_quotient a0 a1 a3 = fFloating_quotient_18 a0 a1 a3 1 by rw [fFloating_quotient, if_neg h1])]
    exact kFloating_quotient_18 C hG a0 a1 a3 1 hk0 (Or.inr rfl) (lv_sub hl [0, 1, 2] rfl)
set_option maxHeartbeats 4000000 in
set_option maxRecDepth 100000 in
theorem qFloating_quotient (l : Launch) (ad td : Nat → Nat) (a0 : Nat) (a1 : Int64) (a3 : Int64) (hk0 : a0 < 2) : Met l yFloating_quotient wsFloating_quotient rmFloating_quotient (va_Pc [.ref (ad a0), .long a1, .long a3] (fun U => pw_G (fun _ => False) ad td U U.heap)) (k2_QcV (.long (fFloating_quotient a0 a1 a3))) 0 0 (fun _ => False) := by
  refine Met.ofW (cc := cFloating_quotient) (maxL := 16) (ret := (some .long)) (by decide) rfl ?_
  intro p e s m args below meth c s₁ B hml hv
  obtain ⟨rfl, hG⟩ := hv
  have hts0 := atoms_spec (ws := wsFloating_quotient) B.pre
  have hts := fun (w : Cond) (h : w ∈ aw) => hts0 w (List.mem_cons_of_mem _ h)
  have hown : s.vm.findClass "BitNumbers$Floating" = some m.cls := findClass_of_methodNamed B.named
  have hl := lv_entry ([.ref (ad a0), .long a1, .long a3]) (n := 16) (Nat.le_of_ble_eq_true rfl)
  rw [lg_entry_eq]
  generalize (lg_sl ([.ref (ad a0), .long a1, .long a3]) ++ List.replicate (16 - (lg_sl ([.ref (ad a0), .long a1, .long a3])).length) Slot.unset).toArray = ls at hl ⊢
  exact kFloating_quotient_0 ⟨B.exec, B.bytes, B.returns, hml, hown, hts, B.notSynchronized⟩ hG a0 a1 a3 hk0 hl

set_option maxHeartbeats 4000000 in
set_option maxRecDepth 100000 in
theorem kFloating_orderWithZeros_6 {p : Program} {l : Launch} {e : Env} {s : State} {m : MethodId} {args : Array Value} {below : List Frame} {meth : Method} {c : Code} {ad td : Nat → Nat} (C : pw_C p s m args meth c cFloating_orderWithZeros 5 (some .long) "BitNumbers$Floating") (hG : pw_G (fun _ => False) ad td s s.heap) (a0 : Nat) (a1 : Int64) (a3 : Int64) (hk0 : a0 < 2) {ls : Array Slot} (hl : lv_has ls 5 [(0, .ref (ad a0)), (1, .long a1), (3, .long a3)]) : W p l e rmFloating_orderWithZeros s m args below meth c s.heap [] 0 0 (MQ below (k2_QcV (.long (fFloating_orderWithZeros_6 a0 a1 a3))) args s 0 0 (fun _ => False)) (F0 m 6 ls []) := by
  obtain ⟨hx, hb, hr, hml, hown, hts, hlocks⟩ := id C
  have hS : va_S (fun _ => False) s.heap s.heap [] := va_S.rf
  refine lv_aload_n hx hb dFloating_orderWithZeros_6 rfl (lv_at hl 0 rfl) ?_
  refine lv_lload_n hx hb dFloating_orderWithZeros_7 rfl (lv_at hl 1 rfl) ?_
  refine pw_call (va_runV (As := [.long a1]) (rest := []) ⟨hx, hb, hml, hown, hts⟩ (qFormat_isNegative l ad td a0 a1 hk0) (cwV 1 hts (gV w_383 w_142 w_143 w_44 w_144) rfl rfl rfl (by decide +kernel) ⟨Nat.le_of_ble_eq_true rfl, Nat.le_of_ble_eq_true rfl⟩) ⟨pw_bG, va_recvE hG.1 hk0 hS, fun U hU hW => ⟨rfl, (hG.at hU hW)⟩⟩ rfl rfl hl.1 rfl (lv_room (Nat.le_of_ble_eq_true rfl)) dFloating_orderWithZeros_8 ⟨Nat.zero_le _, Nat.zero_le _⟩) ?_
  refine lv_if_eq (tgt := 22) hx hb dFloating_orderWithZeros_11 (by decide) (fun h1 => ?_) (fun h1 => ?_)
  · refine lv_lload_n hx hb dFloating_orderWithZeros_22 rfl (lv_at hl 2 rfl) ?_
    exact W.lret hx hb hr (fun t ht _ => ⟨by rw [(show fFloating_orderWithZeros_6 a0 a1 a3 = a3 by rw [fFloating_orderWithZeros_6, if_pos h1])], ht⟩) (fun q h => nomatch h) dFloating_orderWithZeros_23
  · refine lv_lload_n hx hb dFloating_orderWithZeros_14 rfl (lv_at hl 2 rfl) ?_
    refine lv_ldc2 hx hb hown (hts _ w_459) dFloating_orderWithZeros_15 ?_
    refine lv_lxor hx hb dFloating_orderWithZeros_18 ?_
    refine lv_goto (tgt := 23) hx hb dFloating_orderWithZeros_19 (by decide) ?_
    exact W.lret hx hb hr (fun t ht _ => ⟨by rw [(show fFloating_orderWithZeros_6 a0 a1 a3 = a3 ^^^ (-1) by rw [fFloating_orderWithZeros_6, if_neg h1])], ht⟩) (fun q h => nomatch h) dFloating_orderWithZeros_23
set_option maxHeartbeats 4000000 in
set_option maxRecDepth 100000 in
theorem kFloating_orderWithZeros_0 {p : Program} {l : Launch} {e : Env} {s : State} {m : MethodId} {args : Array Value} {below : List Frame} {meth : Method} {c : Code} {ad td : Nat → Nat} (C : pw_C p s m args meth c cFloating_orderWithZeros 5 (some .long) "BitNumbers$Floating") (hG : pw_G (fun _ => False) ad td s s.heap) (a0 : Nat) (a1 : Int64) (hk0 : a0 < 2) {ls : Array Slot} (hl : lv_has ls 5 [(0, .ref (ad a0)), (1, .long a1)]) : W p l e rmFloating_orderWithZeros s m args below meth c s.heap [] 0 0 (MQ below (k2_QcV (.long (fFloating_orderWithZeros a0 a1))) args s 0 0 (fun _ => False)) (F0 m 0 ls []) := by
  obtain ⟨hx, hb, hr, hml, hown, hts, hlocks⟩ := id C
  have hS : va_S (fun _ => False) s.heap s.heap [] := va_S.rf
  refine lv_aload_n hx hb dFloating_orderWithZeros_0 rfl (lv_at hl 0 rfl) ?_
  refine lv_lload_n hx hb dFloating_orderWithZeros_1 rfl (lv_at hl 1 rfl) ?_
  refine pw_call (va_runV (As := [.long a1]) (rest := []) ⟨hx, hb, hml, hown, hts⟩ (qFormat_magnitude l ad td a0 a1 hk0) (cwV 1 hts (gV w_379 w_380 w_381 w_44 w_382) rfl rfl rfl (by decide +kernel) ⟨Nat.le_of_ble_eq_true rfl, Nat.le_of_ble_eq_true rfl⟩) ⟨pw_bG, va_recvE hG.1 hk0 hS, fun U hU hW => ⟨rfl, (hG.at hU hW)⟩⟩ rfl rfl hl.1 rfl (lv_room (Nat.le_of_ble_eq_true rfl)) dFloating_orderWithZeros_2 ⟨Nat.zero_le _, Nat.zero_le _⟩) ?_
  refine lv_lstore_n (lv' := [(3, .long (fFormat_magnitude a0 a1)), (0, .ref (ad a0)), (1, .long a1)]) hx hb dFloating_orderWithZeros_5 rfl hl (by decide) rfl (fun ls hl => ?_)
  rw [(show fFloating_orderWithZeros a0 a1 = fFloating_orderWithZeros_6 a0 a1 (fFormat_magnitude a0 a1) by rw [fFloating_orderWithZeros])]
  exact kFloating_orderWithZeros_6 C hG a0 a1 (fFormat_magnitude a0 a1) hk0 (lv_sub hl [1, 2, 0] rfl)
set_option maxHeartbeats 4000000 in
set_option maxRecDepth 100000 in
theorem qFloating_orderWithZeros (l : Launch) (ad td : Nat → Nat) (a0 : Nat) (a1 : Int64) (hk0 : a0 < 2) : Met l yFloating_orderWithZeros wsFloating_orderWithZeros rmFloating_orderWithZeros (va_Pc [.ref (ad a0), .long a1] (fun U => pw_G (fun _ => False) ad td U U.heap)) (k2_QcV (.long (fFloating_orderWithZeros a0 a1))) 0 0 (fun _ => False) := by
  refine Met.ofW (cc := cFloating_orderWithZeros) (maxL := 5) (ret := (some .long)) (by decide) rfl ?_
  intro p e s m args below meth c s₁ B hml hv
  obtain ⟨rfl, hG⟩ := hv
  have hts0 := atoms_spec (ws := wsFloating_orderWithZeros) B.pre
  have hts := fun (w : Cond) (h : w ∈ aw) => hts0 w (List.mem_cons_of_mem _ h)
  have hown : s.vm.findClass "BitNumbers$Floating" = some m.cls := findClass_of_methodNamed B.named
  have hl := lv_entry ([.ref (ad a0), .long a1]) (n := 5) (Nat.le_of_ble_eq_true rfl)
  rw [lg_entry_eq]
  generalize (lg_sl ([.ref (ad a0), .long a1]) ++ List.replicate (5 - (lg_sl ([.ref (ad a0), .long a1])).length) Slot.unset).toArray = ls at hl ⊢
  exact kFloating_orderWithZeros_0 ⟨B.exec, B.bytes, B.returns, hml, hown, hts, B.notSynchronized⟩ hG a0 a1 hk0 hl

set_option maxHeartbeats 4000000 in
set_option maxRecDepth 100000 in
theorem kFloating_calculated_0 {p : Program} {l : Launch} {e : Env} {s : State} {m : MethodId} {args : Array Value} {below : List Frame} {meth : Method} {c : Code} {ad td : Nat → Nat} (C : pw_C p s m args meth c cFloating_calculated 6 (some .long) "BitNumbers$Floating") (hG : pw_G (fun _ => False) ad td s s.heap) (a0 : Int32) (a1 : Nat) (a2 : Int64) (a4 : Int64) (hk1 : a1 < 2) {ls : Array Slot} (hl : lv_has ls 6 [(0, .int a0), (1, .ref (ad a1)), (2, .long a2), (4, .long a4)]) : W p l e rmFloating_calculated s m args below meth c s.heap [] 0 0 (MQ below (k2_QcV (.long (fFloating_calculated a0 a1 a2 a4))) args s 0 0 (fun _ => False)) (F0 m 0 ls []) := by
  obtain ⟨hx, hb, hr, hml, hown, hts, hlocks⟩ := id C
  have hS : va_S (fun _ => False) s.heap s.heap [] := va_S.rf
  refine lv_iload_n hx hb dFloating_calculated_0 rfl (lv_at hl 0 rfl) ?_
  by_cases h1 : a0 = 2
  · refine lv_tableIn (tgt := 60) hx hb dFloating_calculated_1 (by rw [h1]; decide) (by rw [h1]; decide) (off := 59) (by rw [h1]; rfl) (by decide) ?_
    refine lv_iload_n hx hb dFloating_calculated_60 rfl (lv_at hl 0 rfl) ?_
    refine lv_aload_n hx hb dFloating_calculated_61 rfl (lv_at hl 1 rfl) ?_
    refine lv_lload_n hx hb dFloating_calculated_62 rfl (lv_at hl 2 rfl) ?_
    refine pw_call (va_runS (As := [.int a0, .ref (ad a1), .long a2]) (rest := []) ⟨hx, hb, hml, hown, hts⟩ (qFloating_wholeNumber l ad td a0 a1 a2 hk1) (va_cwS 3 hts (gS w_409 w_410 w_48 w_411) rfl rfl rfl (by decide +kernel) ⟨Nat.le_of_ble_eq_true rfl, Nat.le_of_ble_eq_true rfl⟩) ⟨pw_bG, fun U hU hW => ⟨rfl, (hG.at hU hW)⟩⟩ rfl rfl hl.1 rfl (lv_room (Nat.le_of_ble_eq_true rfl)) dFloating_calculated_63 ⟨Nat.zero_le _, Nat.zero_le _⟩) ?_
    exact W.lret hx hb hr (fun t ht _ => ⟨by rw [(show fFloating_calculated a0 a1 a2 a4 = fFloating_wholeNumber a0 a1 a2 by rw [fFloating_calculated, if_pos h1])], ht⟩) (fun q h => nomatch h) dFloating_calculated_66
  by_cases h2 : a0 = 3
  · refine lv_tableIn (tgt := 60) hx hb dFloating_calculated_1 (by rw [h2]; decide) (by rw [h2]; decide) (off := 59) (by rw [h2]; rfl) (by decide) ?_
    refine lv_iload_n hx hb dFloating_calculated_60 rfl (lv_at hl 0 rfl) ?_
    refine lv_aload_n hx hb dFloating_calculated_61 rfl (lv_at hl 1 rfl) ?_
    refine lv_lload_n hx hb dFloating_calculated_62 rfl (lv_at hl 2 rfl) ?_
    refine pw_call (va_runS (As := [.int a0, .ref (ad a1), .long a2]) (rest := []) ⟨hx, hb, hml, hown, hts⟩ (qFloating_wholeNumber l ad td a0 a1 a2 hk1) (va_cwS 3 hts (gS w_409 w_410 w_48 w_411) rfl rfl rfl (by decide +kernel) ⟨Nat.le_of_ble_eq_true rfl, Nat.le_of_ble_eq_true rfl⟩) ⟨pw_bG, fun U hU hW => ⟨rfl, (hG.at hU hW)⟩⟩ rfl rfl hl.1 rfl (lv_room (Nat.le_of_ble_eq_true rfl)) dFloating_calculated_63 ⟨Nat.zero_le _, Nat.zero_le _⟩) ?_
    exact W.lret hx hb hr (fun t ht _ => ⟨by rw [(show fFloating_calculated a0 a1 a2 a4 = fFloating_wholeNumber a0 a1 a2 by rw [fFloating_calculated, if_neg h1, if_pos h2])], ht⟩) (fun q h => nomatch h) dFloating_calculated_66
  by_cases h3 : a0 = 4
  · refine lv_tableIn (tgt := 60) hx hb dFloating_calculated_1 (by rw [h3]; decide) (by rw [h3]; decide) (off := 59) (by rw [h3]; rfl) (by decide) ?_
    refine lv_iload_n hx hb dFloating_calculated_60 rfl (lv_at hl 0 rfl) ?_
    refine lv_aload_n hx hb dFloating_calculated_61 rfl (lv_at hl 1 rfl) ?_
    refine lv_lload_n hx hb dFloating_calculated_62 rfl (lv_at hl 2 rfl) ?_
    refine pw_call (va_runS (As := [.int a0, .ref (ad a1), .long a2]) (rest := []) ⟨hx, hb, hml, hown, hts⟩ (qFloating_wholeNumber l ad td a0 a1 a2 hk1) (va_cwS 3 hts (gS w_409 w_410 w_48 w_411) rfl rfl rfl (by decide +kernel) ⟨Nat.le_of_ble_eq_true rfl, Nat.le_of_ble_eq_true rfl⟩) ⟨pw_bG, fun U hU hW => ⟨rfl, (hG.at hU hW)⟩⟩ rfl rfl hl.1 rfl (lv_room (Nat.le_of_ble_eq_true rfl)) dFloating_calculated_63 ⟨Nat.zero_le _, Nat.zero_le _⟩) ?_
    exact W.lret hx hb hr (fun t ht _ => ⟨by rw [(show fFloating_calculated a0 a1 a2 a4 = fFloating_wholeNumber a0 a1 a2 by rw [fFloating_calculated, if_neg h1, if_neg h2, if_pos h3])], ht⟩) (fun q h => nomatch h) dFloating_calculated_66
  by_cases h4 : a0 = 5
  · refine lv_tableIn (tgt := 60) hx hb dFloating_calculated_1 (by rw [h4]; decide) (by rw [h4]; decide) (off := 59) (by rw [h4]; rfl) (by decide) ?_
    refine lv_iload_n hx hb dFloating_calculated_60 rfl (lv_at hl 0 rfl) ?_
    refine lv_aload_n hx hb dFloating_calculated_61 rfl (lv_at hl 1 rfl) ?_
    refine lv_lload_n hx hb dFloating_calculated_62 rfl (lv_at hl 2 rfl) ?_
    refine pw_call (va_runS (As := [.int a0, .ref (ad a1), .long a2]) (rest := []) ⟨hx, hb, hml, hown, hts⟩ (qFloating_wholeNumber l ad td a0 a1 a2 hk1) (va_cwS 3 hts (gS w_409 w_410 w_48 w_411) rfl rfl rfl (by decide +kernel) ⟨Nat.le_of_ble_eq_true rfl, Nat.le_of_ble_eq_true rfl⟩) ⟨pw_bG, fun U hU hW => ⟨rfl, (hG.at hU hW)⟩⟩ rfl rfl hl.1 rfl (lv_room (Nat.le_of_ble_eq_true rfl)) dFloating_calculated_63 ⟨Nat.zero_le _, Nat.zero_le _⟩) ?_
    exact W.lret hx hb hr (fun t ht _ => ⟨by rw [(show fFloating_calculated a0 a1 a2 a4 = fFloating_wholeNumber a0 a1 a2 by rw [fFloating_calculated, if_neg h1, if_neg h2, if_neg h3, if_pos h4])], ht⟩) (fun q h => nomatch h) dFloating_calculated_66
  by_cases h5 : a0 = 6
  · refine lv_tableIn (tgt := 67) hx hb dFloating_calculated_1 (by rw [h5]; decide) (by rw [h5]; decide) (off := 66) (by rw [h5]; rfl) (by decide) ?_
    refine lv_aload_n hx hb dFloating_calculated_67 rfl (lv_at hl 1 rfl) ?_
    refine lv_lload_n hx hb dFloating_calculated_68 rfl (lv_at hl 2 rfl) ?_
    refine pw_call (va_runS (As := [.ref (ad a1), .long a2]) (rest := []) ⟨hx, hb, hml, hown, hts⟩ (qFloating_root l ad td a1 a2 hk1) (va_cwS 2 hts (gS w_427 w_428 w_48 w_429) rfl rfl rfl (by decide +kernel) ⟨Nat.le_of_ble_eq_true rfl, Nat.le_of_ble_eq_true rfl⟩) ⟨pw_bG, fun U hU hW => ⟨rfl, (hG.at hU hW)⟩⟩ rfl rfl hl.1 rfl (lv_room (Nat.le_of_ble_eq_true rfl)) dFloating_calculated_69 ⟨Nat.zero_le _, Nat.zero_le _⟩) ?_
    exact W.lret hx hb hr (fun t ht _ => ⟨by rw [(show fFloating_calculated a0 a1 a2 a4 = fFloating_root a1 a2 by rw [fFloating_calculated, if_neg h1, if_neg h2, if_neg h3, if_neg h4, if_pos h5])], ht⟩) (fun q h => nomatch h) dFloating_calculated_72
  by_cases h6 : a0 = 7
  · refine lv_tableIn (tgt := 73) hx hb dFloating_calculated_1 (by rw [h6]; decide) (by rw [h6]; decide) (off := 72) (by rw [h6]; rfl) (by decide) ?_
    refine lv_aload_n hx hb dFloating_calculated_73 rfl (lv_at hl 1 rfl) ?_
    refine lv_lload_n hx hb dFloating_calculated_74 rfl (lv_at hl 2 rfl) ?_
    refine lv_lload hx hb dFloating_calculated_75 (lv_at hl 3 rfl) ?_
    refine pw_call (va_runS (As := [.ref (ad a1), .long a2, .long a4]) (rest := []) ⟨hx, hb, hml, hown, hts⟩ (qFloating_sum l ad td a1 a2 a4 hk1) (va_cwS 3 hts (gS w_437 w_438 w_48 w_439) rfl rfl rfl (by decide +kernel) ⟨Nat.le_of_ble_eq_true rfl, Nat.le_of_ble_eq_true rfl⟩) ⟨pw_bG, fun U hU hW => ⟨rfl, (hG.at hU hW)⟩⟩ rfl rfl hl.1 rfl (lv_room (Nat.le_of_ble_eq_true rfl)) dFloating_calculated_77 ⟨Nat.zero_le _, Nat.zero_le _⟩) ?_
    exact W.lret hx hb hr (fun t ht _ => ⟨by rw [(show fFloating_calculated a0 a1 a2 a4 = fFloating_sum a1 a2 a4 by rw [fFloating_calculated, if_neg h1, if_neg h2, if_neg h3, if_neg h4, if_neg h5, if_pos h6])], ht⟩) (fun q h => nomatch h) dFloating_calculated_80
  by_cases h7 : a0 = 8
  · refine lv_tableIn (tgt := 81) hx hb dFloating_calculated_1 (by rw [h7]; decide) (by rw [h7]; decide) (off := 80) (by rw [h7]; rfl) (by decide) ?_
    refine lv_aload_n hx hb dFloating_calculated_81 rfl (lv_at hl 1 rfl) ?_
    refine lv_lload_n hx hb dFloating_calculated_82 rfl (lv_at hl 2 rfl) ?_
    refine lv_lload hx hb dFloating_calculated_83 (lv_at hl 3 rfl) ?_
    refine lv_aload_n hx hb dFloating_calculated_85 rfl (lv_at hl 1 rfl) ?_
    refine va_getX hx hb hG.2.1.2.2.2.1 hk1 hS hown (hts _ w_814) (fun _ h9 => h9) dFloating_calculated_86 ?_
    refine lv_lxor hx hb dFloating_calculated_89 ?_
    refine pw_call (va_runS (As := [.ref (ad a1), .long a2, .long (a4 ^^^ (fm_signBit a1))]) (rest := []) ⟨hx, hb, hml, hown, hts⟩ (qFloating_sum l ad td a1 a2 (a4 ^^^ (fm_signBit a1)) hk1) (va_cwS 3 hts (gS w_437 w_438 w_48 w_439) rfl rfl rfl (by decide +kernel) ⟨Nat.le_of_ble_eq_true rfl, Nat.le_of_ble_eq_true rfl⟩) ⟨pw_bG, fun U hU hW => ⟨rfl, (hG.at hU hW)⟩⟩ rfl rfl hl.1 rfl (lv_room (Nat.le_of_ble_eq_true rfl)) dFloating_calculated_90 ⟨Nat.zero_le _, Nat.zero_le _⟩) ?_
    exact W.lret hx hb hr (fun t ht _ => ⟨by rw [(show fFloating_calculated a0 a1 a2 a4 = fFloating_sum a1 a2 (a4 ^^^ (fm_signBit a1)) by rw [fFloating_calculated, if_neg h1, if_neg h2, if_neg h3, if_neg h4, if_neg h5, if_neg h6, if_pos h7])], ht⟩) (fun q h => nomatch h) dFloating_calculated_93
  by_cases h8 : a0 = 9
  · refine lv_tableIn (tgt := 94) hx hb dFloating_calculated_1 (by rw [h8]; decide) (by rw [h8]; decide) (off := 93) (by rw [h8]; rfl) (by decide) ?_
    refine lv_aload_n hx hb dFloating_calculated_94 rfl (lv_at hl 1 rfl) ?_
    refine lv_lload_n hx hb dFloating_calculated_95 rfl (lv_at hl 2 rfl) ?_
    refine lv_lload hx hb dFloating_calculated_96 (lv_at hl 3 rfl) ?_
    refine pw_call (va_runS (As := [.ref (ad a1), .long a2, .long a4]) (rest := []) ⟨hx, hb, hml, hown, hts⟩ (qFloating_product l ad td a1 a2 a4 hk1) (va_cwS 3 hts (gS w_446 w_447 w_48 w_448) rfl rfl rfl (by decide +kernel) ⟨Nat.le_of_ble_eq_true rfl, Nat.le_of_ble_eq_true rfl⟩) ⟨pw_bG, fun U hU hW => ⟨rfl, (hG.at hU hW)⟩⟩ rfl rfl hl.1 rfl (lv_room (Nat.le_of_ble_eq_true rfl)) dFloating_calculated_98 ⟨Nat.zero_le _, Nat.zero_le _⟩) ?_
    exact W.lret hx hb hr (fun t ht _ => ⟨by rw [(show fFloating_calculated a0 a1 a2 a4 = fFloating_product a1 a2 a4 by rw [fFloating_calculated, if_neg h1, if_neg h2, if_neg h3, if_neg h4, if_neg h5, if_neg h6, if_neg h7, if_pos h8])], ht⟩) (fun q h => nomatch h) dFloating_calculated_101
  by_cases h9 : a0 = 10
  · refine lv_tableIn (tgt := 102) hx hb dFloating_calculated_1 (by rw [h9]; decide) (by rw [h9]; decide) (off := 101) (by rw [h9]; rfl) (by decide) ?_
    refine lv_aload_n hx hb dFloating_calculated_102 rfl (lv_at hl 1 rfl) ?_
    refine lv_lload_n hx hb dFloating_calculated_103 rfl (lv_at hl 2 rfl) ?_
    refine lv_lload hx hb dFloating_calculated_104 (lv_at hl 3 rfl) ?_
    refine pw_call (va_runS (As := [.ref (ad a1), .long a2, .long a4]) (rest := []) ⟨hx, hb, hml, hown, hts⟩ (qFloating_quotient l ad td a1 a2 a4 hk1) (va_cwS 3 hts (gS w_453 w_454 w_48 w_455) rfl rfl rfl (by decide +kernel) ⟨Nat.le_of_ble_eq_true rfl, Nat.le_of_ble_eq_true rfl⟩) ⟨pw_bG, fun U hU hW => ⟨rfl, (hG.at hU hW)⟩⟩ rfl rfl hl.1 rfl (lv_room (Nat.le_of_ble_eq_true rfl)) dFloating_calculated_106 ⟨Nat.zero_le _, Nat.zero_le _⟩) ?_
    exact W.lret hx hb hr (fun t ht _ => ⟨by rw [(show fFloating_calculated a0 a1 a2 a4 = fFloating_quotient a1 a2 a4 by rw [fFloating_calculated, if_neg h1, if_neg h2, if_neg h3, if_neg h4, if_neg h5, if_neg h6, if_neg h7, if_neg h8, if_pos h9])], ht⟩) (fun q h => nomatch h) dFloating_calculated_109
  by_cases h10 : a0 = 11
  · refine lv_tableIn (tgt := 110) hx hb dFloating_calculated_1 (by rw [h10]; decide) (by rw [h10]; decide) (off := 109) (by rw [h10]; rfl) (by decide) ?_
    refine lv_aload_n hx hb dFloating_calculated_110 rfl (lv_at hl 1 rfl) ?_
    refine lv_lload_n hx hb dFloating_calculated_111 rfl (lv_at hl 2 rfl) ?_
    refine pw_call (va_runS (As := [.ref (ad a1), .long a2]) (rest := []) ⟨hx, hb, hml, hown, hts⟩ (qFloating_orderWithZeros l ad td a1 a2 hk1) (va_cwS 2 hts (gS w_456 w_457 w_48 w_458) rfl rfl rfl (by decide +kernel) ⟨Nat.le_of_ble_eq_true rfl, Nat.le_of_ble_eq_true rfl⟩) ⟨pw_bG, fun U hU hW => ⟨rfl, (hG.at hU hW)⟩⟩ rfl rfl hl.1 rfl (lv_room (Nat.le_of_ble_eq_true rfl)) dFloating_calculated_112 ⟨Nat.zero_le _, Nat.zero_le _⟩) ?_
    refine lv_aload_n hx hb dFloating_calculated_115 rfl (lv_at hl 1 rfl) ?_
    refine lv_lload hx hb dFloating_calculated_116 (lv_at hl 3 rfl) ?_
    refine pw_call (va_runS (As := [.ref (ad a1), .long a4]) (rest := [.long (fFloating_orderWithZeros a1 a2)]) ⟨hx, hb, hml, hown, hts⟩ (qFloating_orderWithZeros l ad td a1 a4 hk1) (va_cwS 2 hts (gS w_456 w_457 w_48 w_458) rfl rfl rfl (by decide +kernel) ⟨Nat.le_of_ble_eq_true rfl, Nat.le_of_ble_eq_true rfl⟩) ⟨pw_bG, fun U hU hW => ⟨rfl, (hG.at hU hW)⟩⟩ rfl rfl hl.1 rfl (lv_room (Nat.le_of_ble_eq_true rfl)) dFloating_calculated_118 ⟨Nat.zero_le _, Nat.zero_le _⟩) ?_
    refine W.lcmp hx hb dFloating_calculated_121 ?_
    refine lv_if_gt (tgt := 129) hx hb dFloating_calculated_122 (by decide) (fun h11 => ?_) (fun h11 => ?_)
    · have h11 : (fFloating_orderWithZeros a1 a4) < (fFloating_orderWithZeros a1 a2) := (lg_cmp_gt _ _).mp h11
      refine lv_lload hx hb dFloating_calculated_129 (lv_at hl 3 rfl) ?_
      exact W.lret hx hb hr (fun t ht _ => ⟨by rw [(show fFloating_calculated a0 a1 a2 a4 = a4 by rw [fFloating_calculated, if_neg h1, if_neg h2, if_neg h3, if_neg h4, if_neg h5, if_neg h6, if_neg h7, if_neg h8, if_neg h9, if_pos h10, if_pos h11])], ht⟩) (fun q h => nomatch h) dFloating_calculated_131
    · have h11 : ¬ ((fFloating_orderWithZeros a1 a4) < (fFloating_orderWithZeros a1 a2)) := fun w => h11 ((lg_cmp_gt _ _).mpr w)
      refine lv_lload_n hx hb dFloating_calculated_125 rfl (lv_at hl 2 rfl) ?_
      refine lv_goto (tgt := 131) hx hb dFloating_calculated_126 (by decide) ?_
      exact W.lret hx hb hr (fun t ht _ => ⟨by rw [(show fFloating_calculated a0 a1 a2 a4 = a2 by rw [fFloating_calculated, if_neg h1, if_neg h2, if_neg h3, if_neg h4, if_neg h5, if_neg h6, if_neg h7, if_neg h8, if_neg h9, if_pos h10, if_neg h11])], ht⟩) (fun q h => nomatch h) dFloating_calculated_131
  by_cases h12 : a0 = 12
  · refine lv_tableIn (tgt := 132) hx hb dFloating_calculated_1 (by rw [h12]; decide) (by rw [h12]; decide) (off := 131) (by rw [h12]; rfl) (by decide) ?_
    refine lv_aload_n hx hb dFloating_calculated_132 rfl (lv_at hl 1 rfl) ?_
    refine lv_lload_n hx hb dFloating_calculated_133 rfl (lv_at hl 2 rfl) ?_
    refine pw_call (va_runS (As := [.ref (ad a1), .long a2]) (rest := []) ⟨hx, hb, hml, hown, hts⟩ (qFloating_orderWithZeros l ad td a1 a2 hk1) (va_cwS 2 hts (gS w_456 w_457 w_48 w_458) rfl rfl rfl (by decide +kernel) ⟨Nat.le_of_ble_eq_true rfl, Nat.le_of_ble_eq_true rfl⟩) ⟨pw_bG, fun U hU hW => ⟨rfl, (hG.at hU hW)⟩⟩ rfl rfl hl.1 rfl (lv_room (Nat.le_of_ble_eq_true rfl)) dFloating_calculated_134 ⟨Nat.zero_le _, Nat.zero_le _⟩) ?_
    refine lv_aload_n hx hb dFloating_calculated_137 rfl (lv_at hl 1 rfl) ?_
    refine lv_lload hx hb dFloating_calculated_138 (lv_at hl 3 rfl) ?_
    refine pw_call (va_runS (As := [.ref (ad a1), .long a4]) (rest := [.long (fFloating_orderWithZeros a1 a2)]) ⟨hx, hb, hml, hown, hts⟩ (qFloating_orderWithZeros l ad td a1 a4 hk1) (va_cwS 2 hts (gS w_456 w_457 w_48 w_458) rfl rfl rfl (by decide +kernel) ⟨Nat.le_of_ble_eq_true rfl, Nat.le_of_ble_eq_true rfl⟩) ⟨pw_bG, fun U hU hW => ⟨rfl, (hG.at hU hW)⟩⟩ rfl rfl hl.1 rfl (lv_room (Nat.le_of_ble_eq_true rfl)) dFloating_calculated_140 ⟨Nat.zero_le _, Nat.zero_le _⟩) ?_
    refine W.lcmp hx hb dFloating_calculated_143 ?_
    refine lv_if_lt (tgt := 151) hx hb dFloating_calculated_144 (by decide) (fun h13 => ?_) (fun h13 => ?_)
    · have h13 : (fFloating_orderWithZeros a1 a2) < (fFloating_orderWithZeros a1 a4) := (lg_cmp_lt _ _).mp h13
      refine lv_lload hx hb dFloating_calculated_151 (lv_at hl 3 rfl) ?_
      exact W.lret hx hb hr (fun t ht _ => ⟨by rw [(show fFloating_calculated a0 a1 a2 a4 = a4 by rw [fFloating_calculated, if_neg h1, if_neg h2, if_neg h3, if_neg h4, if_neg h5, if_neg h6, if_neg h7, if_neg h8, if_neg h9, if_neg h10, if_pos h12, if_pos h13])], ht⟩) (fun q h => nomatch h) dFloating_calculated_153
    · have h13 : ¬ ((fFloating_orderWithZeros a1 a2) < (fFloating_orderWithZeros a1 a4)) := fun w => h13 ((lg_cmp_lt _ _).mpr w)
      refine lv_lload_n hx hb dFloating_calculated_147 rfl (lv_at hl 2 rfl) ?_
      refine lv_goto (tgt := 153) hx hb dFloating_calculated_148 (by decide) ?_
      exact W.lret hx hb hr (fun t ht _ => ⟨by rw [(show fFloating_calculated a0 a1 a2 a4 = a2 by rw [fFloating_calculated, if_neg h1, if_neg h2, if_neg h3, if_neg h4, if_neg h5, if_neg h6, if_neg h7, if_neg h8, if_neg h9, if_neg h10, if_pos h12, if_neg h13])], ht⟩) (fun q h => nomatch h) dFloating_calculated_153
  refine pw_tableD (tgt := 154) hx hb dFloating_calculated_1 ?_ (by decide) ?_
  · have th1 := lv_neT h1 (a := 2) (by decide)
    have th2 := lv_neT h2 (a := 3) (by decide)
    have th3 := lv_neT h3 (a := 4) (by decide)
    have th4 := lv_neT h4 (a := 5) (by decide)
    have th5 := lv_neT h5 (a := 6) (by decide)
    have th6 := lv_neT h6 (a := 7) (by decide)
    have th7 := lv_neT h7 (a := 8) (by decide)
    have th8 := lv_neT h8 (a := 9) (by decide)
    have th9 := lv_neT h9 (a := 10) (by decide)
    have th10 := lv_neT h10 (a := 11) (by decide)
    have th12 := lv_neT h12 (a := 12) (by decide)
    exact (show a0.toInt < 2 ∨ 12 < a0.toInt by omega).elim Or.inl (fun q => Or.inr (Or.inl q))
  refine lv_lload_n hx hb dFloating_calculated_154 rfl (lv_at hl 2 rfl) ?_
  exact W.lret hx hb hr (fun t ht _ => ⟨by rw [(show fFloating_calculated a0 a1 a2 a4 = a2 by rw [fFloating_calculated, if_neg h1, if_neg h2, if_neg h3, if_neg h4, if_neg h5, if_neg h6, if_neg h7, if_neg h8, if_neg h9, if_neg h10, if_neg h12])], ht⟩) (fun q h => nomatch h) dFloating_calculated_155
set_option maxHeartbeats 4000000 in
set_option maxRecDepth 100000 in
theorem qFloating_calculated (l : Launch) (ad td : Nat → Nat) (a0 : Int32) (a1 : Nat) (a2 : Int64) (a4 : Int64) (hk1 : a1 < 2) : Met l yFloating_calculated wsFloating_calculated rmFloating_calculated (va_Pc [.int a0, .ref (ad a1), .long a2, .long a4] (fun U => pw_G (fun _ => False) ad td U U.heap)) (k2_QcV (.long (fFloating_calculated a0 a1 a2 a4))) 0 0 (fun _ => False) := by
  refine Met.ofW (cc := cFloating_calculated) (maxL := 6) (ret := (some .long)) (by decide) rfl ?_
  intro p e s m args below meth c s₁ B hml hv
  obtain ⟨rfl, hG⟩ := hv
  have hts0 := atoms_spec (ws := wsFloating_calculated) B.pre
  have hts := fun (w : Cond) (h : w ∈ aw) => hts0 w (List.mem_cons_of_mem _ h)
  have hown : s.vm.findClass "BitNumbers$Floating" = some m.cls := findClass_of_methodNamed B.named
  have hl := lv_entry ([.int a0, .ref (ad a1), .long a2, .long a4]) (n := 6) (Nat.le_of_ble_eq_true rfl)
  rw [lg_entry_eq]
  generalize (lg_sl ([.int a0, .ref (ad a1), .long a2, .long a4]) ++ List.replicate (6 - (lg_sl ([.int a0, .ref (ad a1), .long a2, .long a4])).length) Slot.unset).toArray = ls at hl ⊢
  exact kFloating_calculated_0 ⟨B.exec, B.bytes, B.returns, hml, hown, hts, B.notSynchronized⟩ hG a0 a1 a2 a4 hk1 hl

set_option maxHeartbeats 4000000 in
set_option maxRecDepth 100000 in
theorem kFloating_result_82 {p : Program} {l : Launch} {e : Env} {s : State} {m : MethodId} {args : Array Value} {below : List Frame} {meth : Method} {c : Code} {ad td : Nat → Nat} (C : pw_C p s m args meth c cFloating_result 6 (some .long) "BitNumbers$Floating") (hG : pw_G (fun _ => False) ad td s s.heap) (a1 : Nat) (hk1 : a1 < 2) {ls : Array Slot} (hl : lv_has ls 6 [(1, .ref (ad a1))]) : W p l e rmFloating_result s m args below meth c s.heap [] 0 0 (MQ below (k2_QcV (.long (fFloating_result_82 a1))) args s 0 0 (fun _ => False)) (F0 m 82 ls []) := by
  obtain ⟨hx, hb, hr, hml, hown, hts, hlocks⟩ := id C
  have hS : va_S (fun _ => False) s.heap s.heap [] := va_S.rf
  refine lv_aload_n hx hb dFloating_result_82 rfl (lv_at hl 0 rfl) ?_
  refine va_getX hx hb hG.2.1.2.2.2.2.2.2 hk1 hS hown (hts _ w_815) (fun _ h9 => h9) dFloating_result_83 ?_
  refine lv_goto (tgt := 97) hx hb dFloating_result_86 (by decide) ?_
  exact W.lret hx hb hr (fun t ht _ => ⟨by rw [(show fFloating_result_82 a1 = fm_none a1 by rw [fFloating_result_82])], ht⟩) (fun q h => nomatch h) dFloating_result_97
set_option maxHeartbeats 4000000 in
set_option maxRecDepth 100000 in
theorem kFloating_result_0 {p : Program} {l : Launch} {e : Env} {s : State} {m : MethodId} {args : Array Value} {below : List Frame} {meth : Method} {c : Code} {ad td : Nat → Nat} (C : pw_C p s m args meth c cFloating_result 6 (some .long) "BitNumbers$Floating") (hG : pw_G (fun _ => False) ad td s s.heap) (a0 : Int32) (a1 : Nat) (a2 : Int64) (a4 : Int64) (hk1 : a1 < 2) {ls : Array Slot} (hl : lv_has ls 6 [(0, .int a0), (1, .ref (ad a1)), (2, .long a2), (4, .long a4)]) : W p l e rmFloating_result s m args below meth c s.heap [] 0 0 (MQ below (k2_QcV (.long (fFloating_result a0 a1 a2 a4))) args s 0 0 (fun _ => False)) (F0 m 0 ls []) := by
  obtain ⟨hx, hb, hr, hml, hown, hts, hlocks⟩ := id C
  have hS : va_S (fun _ => False) s.heap s.heap [] := va_S.rf
  refine lv_iload_n hx hb dFloating_result_0 rfl (lv_at hl 0 rfl) ?_
  by_cases h1 : a0 = 0
  · refine lv_lookup (tgt := 36) (off := 35) hx hb dFloating_result_1 (by decide) (by rw [h1]; decide) (by decide) ?_
    refine lv_aload_n hx hb dFloating_result_36 rfl (lv_at hl 1 rfl) ?_
    refine lv_lload_n hx hb dFloating_result_37 rfl (lv_at hl 2 rfl) ?_
    refine pw_call (va_runV (As := [.long a2]) (rest := []) ⟨hx, hb, hml, hown, hts⟩ (qFormat_magnitude l ad td a1 a2 hk1) (cwV 1 hts (gV w_379 w_380 w_381 w_44 w_382) rfl rfl rfl (by decide +kernel) ⟨Nat.le_of_ble_eq_true rfl, Nat.le_of_ble_eq_true rfl⟩) ⟨pw_bG, va_recvE hG.1 hk1 hS, fun U hU hW => ⟨rfl, (hG.at hU hW)⟩⟩ rfl rfl hl.1 rfl (lv_room (Nat.le_of_ble_eq_true rfl)) dFloating_result_38 ⟨Nat.zero_le _, Nat.zero_le _⟩) ?_
    exact W.lret hx hb hr (fun t ht _ => ⟨by rw [(show fFloating_result a0 a1 a2 a4 = fFormat_magnitude a1 a2 by rw [fFloating_result, if_pos h1])], ht⟩) (fun q h => nomatch h) dFloating_result_41
  by_cases h2 : a0 = 1
  · refine lv_lookup (tgt := 42) (off := 41) hx hb dFloating_result_1 (by decide) (by rw [h2]; decide) (by decide) ?_
    refine lv_lload_n hx hb dFloating_result_42 rfl (lv_at hl 2 rfl) ?_
    refine lv_aload_n hx hb dFloating_result_43 rfl (lv_at hl 1 rfl) ?_
    refine va_getX hx hb hG.2.1.2.2.2.1 hk1 hS hown (hts _ w_814) (fun _ h9 => h9) dFloating_result_44 ?_
    refine lv_lxor hx hb dFloating_result_47 ?_
    exact W.lret hx hb hr (fun t ht _ => ⟨by rw [(show fFloating_result a0 a1 a2 a4 = a2 ^^^ (fm_signBit a1) by rw [fFloating_result, if_neg h1, if_pos h2])], ht⟩) (fun q h => nomatch h) dFloating_result_48
  by_cases h3 : a0 = 13
  · refine lv_lookup (tgt := 49) (off := 48) hx hb dFloating_result_1 (by decide) (by rw [h3]; decide) (by decide) ?_
    refine lv_aload_n hx hb dFloating_result_49 rfl (lv_at hl 1 rfl) ?_
    refine lv_aload_n hx hb dFloating_result_50 rfl (lv_at hl 1 rfl) ?_
    refine lv_lload hx hb dFloating_result_51 (lv_at hl 3 rfl) ?_
    refine pw_call (va_runV (As := [.long a4]) (rest := [.ref (ad a1)]) ⟨hx, hb, hml, hown, hts⟩ (qFormat_isNegative l ad td a1 a4 hk1) (cwV 1 hts (gV w_383 w_142 w_143 w_44 w_144) rfl rfl rfl (by decide +kernel) ⟨Nat.le_of_ble_eq_true rfl, Nat.le_of_ble_eq_true rfl⟩) ⟨pw_bG, va_recvE hG.1 hk1 hS, fun U hU hW => ⟨rfl, (hG.at hU hW)⟩⟩ rfl rfl hl.1 rfl (lv_room (Nat.le_of_ble_eq_true rfl)) dFloating_result_53 ⟨Nat.zero_le _, Nat.zero_le _⟩) ?_
    refine lv_aload_n hx hb dFloating_result_56 rfl (lv_at hl 1 rfl) ?_
    refine lv_lload_n hx hb dFloating_result_57 rfl (lv_at hl 2 rfl) ?_
    refine pw_call (va_runV (As := [.long a2]) (rest := [.int (fFormat_isNegative a1 a4), .ref (ad a1)]) ⟨hx, hb, hml, hown, hts⟩ (qFormat_magnitude l ad td a1 a2 hk1) (cwV 1 hts (gV w_379 w_380 w_381 w_44 w_382) rfl rfl rfl (by decide +kernel) ⟨Nat.le_of_ble_eq_true rfl, Nat.le_of_ble_eq_true rfl⟩) ⟨pw_bG, va_recvE hG.1 hk1 hS, fun U hU hW => ⟨rfl, (hG.at hU hW)⟩⟩ rfl rfl hl.1 rfl (lv_room (Nat.le_of_ble_eq_true rfl)) dFloating_result_58 ⟨Nat.zero_le _, Nat.zero_le _⟩) ?_
    refine pw_call (va_runV (As := [.int (fFormat_isNegative a1 a4), .long (fFormat_magnitude a1 a2)]) (rest := []) ⟨hx, hb, hml, hown, hts⟩ (qFormat_signed l ad td a1 (fFormat_isNegative a1 a4) (fFormat_magnitude a1 a2) hk1) (cwV 2 hts (gV w_402 w_403 w_404 w_44 w_405) rfl rfl rfl (by decide +kernel) ⟨Nat.le_of_ble_eq_true rfl, Nat.le_of_ble_eq_true rfl⟩) ⟨pw_bG, va_recvE hG.1 hk1 hS, fun U hU hW => ⟨rfl, (hG.at hU hW)⟩⟩ rfl rfl hl.1 rfl (lv_room (Nat.le_of_ble_eq_true rfl)) dFloating_result_61 ⟨Nat.zero_le _, Nat.zero_le _⟩) ?_
    exact W.lret hx hb hr (fun t ht _ => ⟨by rw [(show fFloating_result a0 a1 a2 a4 = fFormat_signed a1 (fFormat_isNegative a1 a4) (fFormat_magnitude a1 a2) by rw [fFloating_result, if_neg h1, if_neg h2, if_pos h3])], ht⟩) (fun q h => nomatch h) dFloating_result_64
  refine lv_lookup (tgt := 65) (off := 64) hx hb dFloating_result_1 (by decide) (by rw [lv_osw h1 (by decide), lv_osw h2 (by decide), lv_osw h3 (by decide)]; rfl) (by decide) ?_
  refine lv_aload_n hx hb dFloating_result_65 rfl (lv_at hl 1 rfl) ?_
  refine lv_lload_n hx hb dFloating_result_66 rfl (lv_at hl 2 rfl) ?_
  refine pw_call (va_runV (As := [.long a2]) (rest := []) ⟨hx, hb, hml, hown, hts⟩ (qFormat_isNone l ad td a1 a2 hk1) (cwV 1 hts (gV w_375 w_154 w_155 w_44 w_156) rfl rfl rfl (by decide +kernel) ⟨Nat.le_of_ble_eq_true rfl, Nat.le_of_ble_eq_true rfl⟩) ⟨pw_bG, va_recvE hG.1 hk1 hS, fun U hU hW => ⟨rfl, (hG.at hU hW)⟩⟩ rfl rfl hl.1 rfl (lv_room (Nat.le_of_ble_eq_true rfl)) dFloating_result_67 ⟨Nat.zero_le _, Nat.zero_le _⟩) ?_
  refine lv_if_ne (tgt := 82) hx hb dFloating_result_70 (by decide) (fun h4 => ?_) (fun h4 => ?_)
  · rw [(show fFloating_result a0 a1 a2 a4 = fFloating_result_82 a1 by rw [fFloating_result, if_neg h1, if_neg h2, if_neg h3, if_neg h4])]
    exact kFloating_result_82 C hG a1 hk1 (lv_sub hl [1] rfl)
  · refine lv_aload_n hx hb dFloating_result_73 rfl (lv_at hl 1 rfl) ?_
    refine lv_lload hx hb dFloating_result_74 (lv_at hl 3 rfl) ?_
    refine pw_call (va_runV (As := [.long a4]) (rest := []) ⟨hx, hb, hml, hown, hts⟩ (qFormat_isNone l ad td a1 a4 hk1) (cwV 1 hts (gV w_375 w_154 w_155 w_44 w_156) rfl rfl rfl (by decide +kernel) ⟨Nat.le_of_ble_eq_true rfl, Nat.le_of_ble_eq_true rfl⟩) ⟨pw_bG, va_recvE hG.1 hk1 hS, fun U hU hW => ⟨rfl, (hG.at hU hW)⟩⟩ rfl rfl hl.1 rfl (lv_room (Nat.le_of_ble_eq_true rfl)) dFloating_result_76 ⟨Nat.zero_le _, Nat.zero_le _⟩) ?_
    refine lv_if_eq (tgt := 89) hx hb dFloating_result_79 (by decide) (fun h5 => ?_) (fun h5 => ?_)
    · refine lv_iload_n hx hb dFloating_result_89 rfl (lv_at hl 0 rfl) ?_
      refine lv_aload_n hx hb dFloating_result_90 rfl (lv_at hl 1 rfl) ?_
      refine lv_lload_n hx hb dFloating_result_91 rfl (lv_at hl 2 rfl) ?_
      refine lv_lload hx hb dFloating_result_92 (lv_at hl 3 rfl) ?_
      refine pw_call (va_runS (As := [.int a0, .ref (ad a1), .long a2, .long a4]) (rest := []) ⟨hx, hb, hml, hown, hts⟩ (qFloating_calculated l ad td a0 a1 a2 a4 hk1) (va_cwS 4 hts (gS w_406 w_407 w_48 w_408) rfl rfl rfl (by decide +kernel) ⟨Nat.le_of_ble_eq_true rfl, Nat.le_of_ble_eq_true rfl⟩) ⟨pw_bG, fun U hU hW => ⟨rfl, (hG.at hU hW)⟩⟩ rfl rfl hl.1 rfl (lv_room (Nat.le_of_ble_eq_true rfl)) dFloating_result_94 ⟨Nat.zero_le _, Nat.zero_le _⟩) ?_
      exact W.lret hx hb hr (fun t ht _ => ⟨by rw [(show fFloating_result a0 a1 a2 a4 = fFloating_calculated a0 a1 a2 a4 by rw [fFloating_result, if_neg h1, if_neg h2, if_neg h3, if_pos h4, if_pos h5])], ht⟩) (fun q h => nomatch h) dFloating_result_97
    · rw [(show fFloating_result a0 a1 a2 a4 = fFloating_result_82 a1 by rw [fFloating_result, if_neg h1, if_neg h2, if_neg h3, if_pos h4, if_neg h5])]
      exact kFloating_result_82 C hG a1 hk1 (lv_sub hl [1] rfl)
set_option maxHeartbeats 4000000 in
set_option maxRecDepth 100000 in
theorem qFloating_result (l : Launch) (ad td : Nat → Nat) (a0 : Int32) (a1 : Nat) (a2 : Int64) (a4 : Int64) (hk1 : a1 < 2) : Met l yFloating_result wsFloating_result rmFloating_result (va_Pc [.int a0, .ref (ad a1), .long a2, .long a4] (fun U => pw_G (fun _ => False) ad td U U.heap)) (k2_QcV (.long (fFloating_result a0 a1 a2 a4))) 0 0 (fun _ => False) := by
  refine Met.ofW (cc := cFloating_result) (maxL := 6) (ret := (some .long)) (by decide) rfl ?_
  intro p e s m args below meth c s₁ B hml hv
  obtain ⟨rfl, hG⟩ := hv
  have hts0 := atoms_spec (ws := wsFloating_result) B.pre
  have hts := fun (w : Cond) (h : w ∈ aw) => hts0 w (List.mem_cons_of_mem _ h)
  have hown : s.vm.findClass "BitNumbers$Floating" = some m.cls := findClass_of_methodNamed B.named
  have hl := lv_entry ([.int a0, .ref (ad a1), .long a2, .long a4]) (n := 6) (Nat.le_of_ble_eq_true rfl)
  rw [lg_entry_eq]
  generalize (lg_sl ([.int a0, .ref (ad a1), .long a2, .long a4]) ++ List.replicate (6 - (lg_sl ([.int a0, .ref (ad a1), .long a2, .long a4])).length) Slot.unset).toArray = ls at hl ⊢
  exact kFloating_result_0 ⟨B.exec, B.bytes, B.returns, hml, hown, hts, B.notSynchronized⟩ hG a0 a1 a2 a4 hk1 hl

