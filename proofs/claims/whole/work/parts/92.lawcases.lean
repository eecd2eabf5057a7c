set_option maxHeartbeats 4000000 in
set_option maxRecDepth 100000 in
theorem kL_case_0 {p : Program} {l : Launch} {e : Env} {s : State} {m : MethodId} {below : List Frame} {meth : Method} {c : Code} {b L : Nat} {xs : Nat → Int32} (C0 : lw_At p s m meth c b L xs) (hlT : l.stackTraces = false) {D : va_G} {aB aM ed td sa : Nat → Nat} {o : Nat} (hKB : va_K D clM (tyA aB) s) (hKM : va_K D clM (tyA aM) s) (hG : pw_G (fun q : Nat => s.heap.size ≤ q) ed td s s.heap) (hXw : xw (fun q : Nat => s.heap.size ≤ q) sa s s.heap) (hxc : xc s) (k : Nat) (hk : k < 512) (x : Int32) (h1 : vp_in (x + 1) L) (h2 : vp_in (x + 2) L) (h3 : vp_in (x + 3) L) {β : BS} {μ : MS} {f : Nat → Int64} (hsim : sim β μ) {H : Heap} {locs : List Loc} (hM : lwd D aB aM o (fun q : Nat => s.heap.size ≤ q) s.heap H locs β μ f) {ls : Array Slot} (hl : lv_has ls 8 [(0, .ref b), (1, .ref (aB 0)), (2, .ref (aM 0)), (3, .ref o), (4, .int x)]) (kn : ∀ (β : BS) (μ : MS) (f : Nat → Int64), sim β μ → ∀ (H : Heap) (locs : List Loc), lwd D aB aM o (fun q : Nat => s.heap.size ≤ q) s.heap H locs β μ f → ∀ (ls : Array Slot), lv_has ls 8 [(0, .ref b), (1, .ref (aB 0)), (2, .ref (aM 0)), (3, .ref o), (4, .int x)] → W p l e room_1 s m #[Value.ref b] below meth c H locs (10 + k + 1) (931 + 6 * k + 6) (lw_Z below #[Value.ref b] s) (F0 m 436 ls [])) : W p l e room_1 s m #[Value.ref b] below meth c H locs (10 + k) (931 + 6 * k) (lw_Z below #[Value.ref b] s) (F0 m 92 ls []) := by
  obtain ⟨hx, hb, hr, hml, hown, hts0, hX, hbl, hlocks, hgv⟩ := id C0
  have hts : ∀ w ∈ aw, w.before #[Value.ref b] s = true := fun w h => hts0 w (aw_tbl h)
  have hA : ∀ q : Nat, s.heap.size ≤ q → (fun q : Nat => s.heap.size ≤ q) q := fun _ h => h
  have hbA : ¬ (fun q : Nat => s.heap.size ≤ q) b := Nat.not_le.mpr hbl
  obtain ⟨hSB, hSM, heq, hsim⟩ := sim_push hsim (xs (x + 1).toNatClampNeg) ((bn_shl (xs (x + 2).toNatClampNeg).toInt64 32) ||| ((xs (x + 3).toNatClampNeg).toInt64 &&& 4294967295))
  refine W.widen (k := 10 + k + 1) (n := 931 + 6 * k + 6) (by omega) (by omega) ?_
  refine lv_aload_n hx hb dL_law_92 rfl (lv_at hl 1 rfl) ?_
  refine lv_aload_n hx hb dL_law_93 rfl (lv_at hl 0 rfl) ?_
  refine lv_iload hx hb dL_law_94 (lv_at hl 4 rfl) ?_
  refine lv_iconst (v := 1) hx hb dL_law_96 (by decide) ?_
  refine lv_iadd hx hb dL_law_97 ?_
  refine va_sld hx hb hX hbl hbA hM.2.2 h1 dL_law_98 ?_
  refine lv_aload_n hx hb dL_law_99 rfl (lv_at hl 0 rfl) ?_
  refine lv_iload hx hb dL_law_100 (lv_at hl 4 rfl) ?_
  refine lv_iconst (v := 2) hx hb dL_law_102 (by decide) ?_
  refine lv_iadd hx hb dL_law_103 ?_
  refine va_sld hx hb hX hbl hbA hM.2.2 h2 dL_law_104 ?_
  refine lv_i2l (v := (xs (x + 2).toNatClampNeg).toInt64) hx hb dL_law_105 rfl ?_
  refine lv_bipush (v := 32) hx hb dL_law_106 (by decide) ?_
  refine lv_lshl (v := bn_shl ((xs (x + 2).toNatClampNeg).toInt64) 32) hx hb dL_law_108 rfl ?_
  refine lv_aload_n hx hb dL_law_109 rfl (lv_at hl 0 rfl) ?_
  refine lv_iload hx hb dL_law_110 (lv_at hl 4 rfl) ?_
  refine lv_iconst (v := 3) hx hb dL_law_112 (by decide) ?_
  refine lv_iadd hx hb dL_law_113 ?_
  refine va_sld hx hb hX hbl hbA hM.2.2 h3 dL_law_114 ?_
  refine lv_i2l (v := (xs (x + 3).toNatClampNeg).toInt64) hx hb dL_law_115 rfl ?_
  refine lv_ldc2 hx hb hown (hts _ w_806) dL_law_116 ?_
  refine lv_land hx hb dL_law_119 ?_
  refine lv_lor hx hb dL_law_120 ?_
  refine lw_calliB (F := fB_push (xs (x + 1).toNatClampNeg) ((bn_shl ((xs (x + 2).toNatClampNeg).toInt64) 32) ||| (((xs (x + 3).toNatClampNeg).toInt64) &&& 4294967295)) β) (va_runV (As := [.int (xs (x + 1).toNatClampNeg), .long ((bn_shl ((xs (x + 2).toNatClampNeg).toInt64) 32) ||| (((xs (x + 3).toNatClampNeg).toInt64) &&& 4294967295))]) (rest := []) ⟨hx, hb, hml, hown, hts⟩ (qB_push l D aB ed td (xs (x + 1).toNatClampNeg) ((bn_shl ((xs (x + 2).toNatClampNeg).toInt64) 32) ||| (((xs (x + 3).toNatClampNeg).toInt64) &&& 4294967295)) β H.size hSB) (cwV 2 hts (gV w_72 w_73 w_74 w_33 w_75) rfl rfl rfl (by decide +kernel) ⟨Nat.le_of_ble_eq_true rfl, Nat.le_of_ble_eq_true rfl⟩) (bw_preV hKB hM.b hA hG) rfl rfl hl.1 rfl (lv_room (Nat.le_of_ble_eq_true rfl)) dL_law_121 ⟨lw_rc0 hk, lw_rs0 hk⟩) hM hA (fun H locs hM => ?_)
  refine lv_aload_n hx hb dL_law_124 rfl (lv_at hl 2 rfl) ?_
  refine lv_aload_n hx hb dL_law_125 rfl (lv_at hl 0 rfl) ?_
  refine lv_iload hx hb dL_law_126 (lv_at hl 4 rfl) ?_
  refine lv_iconst (v := 1) hx hb dL_law_128 (by decide) ?_
  refine lv_iadd hx hb dL_law_129 ?_
  refine va_sld hx hb hX hbl hbA hM.2.2 h1 dL_law_130 ?_
  refine lv_aload_n hx hb dL_law_131 rfl (lv_at hl 0 rfl) ?_
  refine lv_iload hx hb dL_law_132 (lv_at hl 4 rfl) ?_
  refine lv_iconst (v := 2) hx hb dL_law_134 (by decide) ?_
  refine lv_iadd hx hb dL_law_135 ?_
  refine va_sld hx hb hX hbl hbA hM.2.2 h2 dL_law_136 ?_
  refine lv_i2l (v := (xs (x + 2).toNatClampNeg).toInt64) hx hb dL_law_137 rfl ?_
  refine lv_bipush (v := 32) hx hb dL_law_138 (by decide) ?_
  refine lv_lshl (v := bn_shl ((xs (x + 2).toNatClampNeg).toInt64) 32) hx hb dL_law_140 rfl ?_
  refine lv_aload_n hx hb dL_law_141 rfl (lv_at hl 0 rfl) ?_
  refine lv_iload hx hb dL_law_142 (lv_at hl 4 rfl) ?_
  refine lv_iconst (v := 3) hx hb dL_law_144 (by decide) ?_
  refine lv_iadd hx hb dL_law_145 ?_
  refine va_sld hx hb hX hbl hbA hM.2.2 h3 dL_law_146 ?_
  refine lv_i2l (v := (xs (x + 3).toNatClampNeg).toInt64) hx hb dL_law_147 rfl ?_
  refine lv_ldc2 hx hb hown (hts _ w_806) dL_law_148 ?_
  refine lv_land hx hb dL_law_151 ?_
  refine lv_lor hx hb dL_law_152 ?_
  refine lw_calliM (F := fM_push (xs (x + 1).toNatClampNeg) ((bn_shl ((xs (x + 2).toNatClampNeg).toInt64) 32) ||| (((xs (x + 3).toNatClampNeg).toInt64) &&& 4294967295)) μ) (va_runV (As := [.int (xs (x + 1).toNatClampNeg), .long ((bn_shl ((xs (x + 2).toNatClampNeg).toInt64) 32) ||| (((xs (x + 3).toNatClampNeg).toInt64) &&& 4294967295))]) (rest := [.int (fB_push (xs (x + 1).toNatClampNeg) ((bn_shl ((xs (x + 2).toNatClampNeg).toInt64) 32) ||| (((xs (x + 3).toNatClampNeg).toInt64) &&& 4294967295)) β).1]) ⟨hx, hb, hml, hown, hts⟩ (qM_push l D aM (xs (x + 1).toNatClampNeg) ((bn_shl ((xs (x + 2).toNatClampNeg).toInt64) 32) ||| (((xs (x + 3).toNatClampNeg).toInt64) &&& 4294967295)) μ H.size hSM) (cwV 2 hts (gV w_534 w_535 w_536 w_34 w_537) rfl rfl rfl (by decide +kernel) ⟨Nat.le_of_ble_eq_true rfl, Nat.le_of_ble_eq_true rfl⟩) (mw_preV hKM hM.m) rfl rfl hl.1 rfl (lv_room (Nat.le_of_ble_eq_true rfl)) dL_law_153 ⟨lw_rc0 hk, lw_rs0 hk⟩) hM hA (fun H locs hM => ?_)
  refine lv_icmp_eq (tgt := 436) hx hb dL_law_156 (by decide) (fun _ => ?_) (fun h9 => absurd heq h9)
  exact kn _ _ _ hsim _ _ hM _ (lv_sub hl [0, 1, 2, 3, 4] rfl)
set_option maxHeartbeats 4000000 in
set_option maxRecDepth 100000 in
theorem kL_case_1 {p : Program} {l : Launch} {e : Env} {s : State} {m : MethodId} {below : List Frame} {meth : Method} {c : Code} {b L : Nat} {xs : Nat → Int32} (C0 : lw_At p s m meth c b L xs) (hlT : l.stackTraces = false) {D : va_G} {aB aM ed td sa : Nat → Nat} {o : Nat} (hKB : va_K D clM (tyA aB) s) (hKM : va_K D clM (tyA aM) s) (hG : pw_G (fun q : Nat => s.heap.size ≤ q) ed td s s.heap) (hXw : xw (fun q : Nat => s.heap.size ≤ q) sa s s.heap) (hxc : xc s) (k : Nat) (hk : k < 512) (x : Int32) (h1 : vp_in (x + 1) L) (h2 : vp_in (x + 2) L) (h3 : vp_in (x + 3) L) {β : BS} {μ : MS} {f : Nat → Int64} (hsim : sim β μ) {H : Heap} {locs : List Loc} (hM : lwd D aB aM o (fun q : Nat => s.heap.size ≤ q) s.heap H locs β μ f) {ls : Array Slot} (hl : lv_has ls 8 [(0, .ref b), (1, .ref (aB 0)), (2, .ref (aM 0)), (3, .ref o), (4, .int x)]) (kn : ∀ (β : BS) (μ : MS) (f : Nat → Int64), sim β μ → ∀ (H : Heap) (locs : List Loc), lwd D aB aM o (fun q : Nat => s.heap.size ≤ q) s.heap H locs β μ f → ∀ (ls : Array Slot), lv_has ls 8 [(0, .ref b), (1, .ref (aB 0)), (2, .ref (aM 0)), (3, .ref o), (4, .int x)] → W p l e room_1 s m #[Value.ref b] below meth c H locs (10 + k + 1) (931 + 6 * k + 6) (lw_Z below #[Value.ref b] s) (F0 m 436 ls [])) : W p l e room_1 s m #[Value.ref b] below meth c H locs (10 + k) (931 + 6 * k) (lw_Z below #[Value.ref b] s) (F0 m 161 ls []) := by
  obtain ⟨hx, hb, hr, hml, hown, hts0, hX, hbl, hlocks, hgv⟩ := id C0
  have hts : ∀ w ∈ aw, w.before #[Value.ref b] s = true := fun w h => hts0 w (aw_tbl h)
  have hA : ∀ q : Nat, s.heap.size ≤ q → (fun q : Nat => s.heap.size ≤ q) q := fun _ h => h
  have hbA : ¬ (fun q : Nat => s.heap.size ≤ q) b := Nat.not_le.mpr hbl
  obtain ⟨hSB, hSM, hth, hval, hsim⟩ := sim_pop hsim f
  refine lv_aload_n hx hb dL_law_161 rfl (lv_at hl 1 rfl) ?_
  refine lv_aload_n hx hb dL_law_162 rfl (lv_at hl 3 rfl) ?_
  refine lw_callL (F := fL_pop β f) (vx_runSW (As := [.ref (aB 0), .ref o]) (rest := []) ⟨hx, hb, hml, hown, hts⟩ (qL_pop l hlT D aB ed td sa o  β f H.size hSB) (vx_cwSW (hh := hhL_pop) 2 hts (gSW w_175 w_176 w_32 w_177) rfl rfl rfl (by decide +kernel) ⟨Nat.le_of_ble_eq_true rfl, Nat.le_of_ble_eq_true rfl⟩) (lw_preL hKB hM hA hG hXw hxc) rfl rfl hl.1 rfl (lv_room (Nat.le_of_ble_eq_true rfl)) dL_law_163 ⟨lw_rc hk, lw_rs hk⟩) hM hA (fun H locs hM => ?_)
  refine lv_istore (lv' := [(5, .int (fL_pop β f).1), (0, .ref b), (1, .ref (aB 0)), (2, .ref (aM 0)), (3, .ref o), (4, .int x)]) hx hb dL_law_166 hl (by decide) rfl (fun ls hl => ?_)
  refine lv_aload_n hx hb dL_law_168 rfl (lv_at hl 3 rfl) ?_
  refine lw_calllM (F := fM_pop μ) (va_runV (As := []) (rest := []) ⟨hx, hb, hml, hown, hts⟩ (qM_pop l D aM  μ H.size hSM) (cwV 0 hts (gV w_542 w_543 w_544 w_34 w_545) rfl rfl rfl (by decide +kernel) ⟨Nat.le_of_ble_eq_true rfl, Nat.le_of_ble_eq_true rfl⟩) (mw_preV hKM hM.m) rfl rfl hl.1 rfl (lv_room (Nat.le_of_ble_eq_true rfl)) dL_law_169 ⟨lw_rc0 hk, lw_rs0 hk⟩) hM hA (fun H locs hM => ?_)
  refine lv_lstore (lv' := [(6, .long (fM_pop μ).1), (5, .int (fL_pop β f).1), (0, .ref b), (1, .ref (aB 0)), (2, .ref (aM 0)), (3, .ref o), (4, .int x)]) hx hb dL_law_172 hl (by decide) rfl (fun ls hl => ?_)
  refine lv_aload_n hx hb dL_law_174 rfl (lv_at hl 4 rfl) ?_
  refine lw_calliM (F := fM_thrown (fM_pop μ).2) (va_runV (As := []) (rest := []) ⟨hx, hb, hml, hown, hts⟩ (qM_thrown l D aM  (fM_pop μ).2 H.size) (cwV 0 hts (gV w_530 w_531 w_532 w_34 w_533) rfl rfl rfl (by decide +kernel) ⟨Nat.le_of_ble_eq_true rfl, Nat.le_of_ble_eq_true rfl⟩) (mw_preV hKM hM.m) rfl rfl hl.1 rfl (lv_room (Nat.le_of_ble_eq_true rfl)) dL_law_175 ⟨lw_rc0 hk, lw_rs0 hk⟩) hM hA (fun H locs hM => ?_)
  refine lv_iload hx hb dL_law_178 (lv_at hl 1 rfl) ?_
  refine lv_icmp_eq (tgt := 185) hx hb dL_law_180 (by decide) (fun _ => ?_) (fun h9 => absurd (hth) h9)
  refine lv_iload hx hb dL_law_185 (lv_at hl 1 rfl) ?_
  refine lv_if_ne (tgt := 201) hx hb dL_law_187 (by decide) (fun _ => ?_) (fun h8 => ?_)
  · refine lv_goto (tgt := 436) hx hb dL_law_201 (by decide) ?_
    exact kn _ _ _ hsim _ _ hM _ (lv_sub hl [2, 3, 4, 5, 6] rfl)
  · refine lv_aload_n hx hb dL_law_190 rfl (lv_at hl 5 rfl) ?_
    refine lv_iconst (v := 0) hx hb dL_law_191 (by decide) ?_
    refine va_lald (q0 := 9) (t0 := 1) (cA := aB 7) (n := 1) (f := (fL_pop β f).2.2) hx hb hKB hM.1 rfl rfl (fun h9 => h9.elim (by decide) (by decide)) dL_law_192 ?_
    refine lv_lload hx hb dL_law_193 (lv_at hl 0 rfl) ?_
    refine W.lcmp hx hb dL_law_195 ?_
    refine lv_if_eq (tgt := 201) hx hb dL_law_196 (by decide) (fun _ => ?_) (fun h9 => absurd ((lg_cmp_eq _ _).mpr (hval h8)) h9)
    refine lv_goto (tgt := 436) hx hb dL_law_201 (by decide) ?_
    exact kn _ _ _ hsim _ _ hM _ (lv_sub hl [2, 3, 4, 5, 6] rfl)
set_option maxHeartbeats 4000000 in
set_option maxRecDepth 100000 in
theorem kL_case_2 {p : Program} {l : Launch} {e : Env} {s : State} {m : MethodId} {below : List Frame} {meth : Method} {c : Code} {b L : Nat} {xs : Nat → Int32} (C0 : lw_At p s m meth c b L xs) (hlT : l.stackTraces = false) {D : va_G} {aB aM ed td sa : Nat → Nat} {o : Nat} (hKB : va_K D clM (tyA aB) s) (hKM : va_K D clM (tyA aM) s) (hG : pw_G (fun q : Nat => s.heap.size ≤ q) ed td s s.heap) (hXw : xw (fun q : Nat => s.heap.size ≤ q) sa s s.heap) (hxc : xc s) (k : Nat) (hk : k < 512) (x : Int32) (h1 : vp_in (x + 1) L) (h2 : vp_in (x + 2) L) (h3 : vp_in (x + 3) L) {β : BS} {μ : MS} {f : Nat → Int64} (hsim : sim β μ) {H : Heap} {locs : List Loc} (hM : lwd D aB aM o (fun q : Nat => s.heap.size ≤ q) s.heap H locs β μ f) {ls : Array Slot} (hl : lv_has ls 8 [(0, .ref b), (1, .ref (aB 0)), (2, .ref (aM 0)), (3, .ref o), (4, .int x)]) (kn : ∀ (β : BS) (μ : MS) (f : Nat → Int64), sim β μ → ∀ (H : Heap) (locs : List Loc), lwd D aB aM o (fun q : Nat => s.heap.size ≤ q) s.heap H locs β μ f → ∀ (ls : Array Slot), lv_has ls 8 [(0, .ref b), (1, .ref (aB 0)), (2, .ref (aM 0)), (3, .ref o), (4, .int x)] → W p l e room_1 s m #[Value.ref b] below meth c H locs (10 + k + 1) (931 + 6 * k + 6) (lw_Z below #[Value.ref b] s) (F0 m 436 ls [])) : W p l e room_1 s m #[Value.ref b] below meth c H locs (10 + k) (931 + 6 * k) (lw_Z below #[Value.ref b] s) (F0 m 204 ls []) := by
  obtain ⟨hx, hb, hr, hml, hown, hts0, hX, hbl, hlocks, hgv⟩ := id C0
  have hts : ∀ w ∈ aw, w.before #[Value.ref b] s = true := fun w h => hts0 w (aw_tbl h)
  have hA : ∀ q : Nat, s.heap.size ≤ q → (fun q : Nat => s.heap.size ≤ q) q := fun _ h => h
  have hbA : ¬ (fun q : Nat => s.heap.size ≤ q) b := Nat.not_le.mpr hbl
  obtain ⟨hSB, hSM, hth, hval, hsim⟩ := sim_apply hsim (xs (x + 1).toNatClampNeg) f
  refine lv_aload_n hx hb dL_law_204 rfl (lv_at hl 1 rfl) ?_
  refine lv_aload_n hx hb dL_law_205 rfl (lv_at hl 0 rfl) ?_
  refine lv_iload hx hb dL_law_206 (lv_at hl 4 rfl) ?_
  refine lv_iconst (v := 1) hx hb dL_law_208 (by decide) ?_
  refine lv_iadd hx hb dL_law_209 ?_
  refine va_sld hx hb hX hbl hbA hM.2.2 h1 dL_law_210 ?_
  refine lv_aload_n hx hb dL_law_211 rfl (lv_at hl 3 rfl) ?_
  refine lw_callL (F := fL_apply (xs (x + 1).toNatClampNeg) β f) (vx_runSW (As := [.ref (aB 0), .int (xs (x + 1).toNatClampNeg), .ref o]) (rest := []) ⟨hx, hb, hml, hown, hts⟩ (qL_apply l hlT D aB ed td sa o (xs (x + 1).toNatClampNeg) β f H.size hSB) (vx_cwSW (hh := hhL_apply) 3 hts (gSW w_251 w_252 w_32 w_253) rfl rfl rfl (by decide +kernel) ⟨Nat.le_of_ble_eq_true rfl, Nat.le_of_ble_eq_true rfl⟩) (lw_preL hKB hM hA hG hXw hxc) rfl rfl hl.1 rfl (lv_room (Nat.le_of_ble_eq_true rfl)) dL_law_212 ⟨lw_rc hk, lw_rs hk⟩) hM hA (fun H locs hM => ?_)
  refine lv_istore (lv' := [(5, .int (fL_apply (xs (x + 1).toNatClampNeg) β f).1), (0, .ref b), (1, .ref (aB 0)), (2, .ref (aM 0)), (3, .ref o), (4, .int x)]) hx hb dL_law_215 hl (by decide) rfl (fun ls hl => ?_)
  refine lv_aload_n hx hb dL_law_217 rfl (lv_at hl 3 rfl) ?_
  refine lv_aload_n hx hb dL_law_218 rfl (lv_at hl 1 rfl) ?_
  refine lv_iload hx hb dL_law_219 (lv_at hl 5 rfl) ?_
  refine lv_iconst (v := 1) hx hb dL_law_221 (by decide) ?_
  refine lv_iadd hx hb dL_law_222 ?_
  refine va_sld hx hb hX hbl hbA hM.2.2 h1 dL_law_223 ?_
  refine lw_calliM (F := fM_apply (xs (x + 1).toNatClampNeg) μ) (va_runV (As := [.int (xs (x + 1).toNatClampNeg)]) (rest := []) ⟨hx, hb, hml, hown, hts⟩ (qM_apply l D aM (xs (x + 1).toNatClampNeg) μ H.size hSM) (cwV 1 hts (gV w_546 w_547 w_548 w_34 w_549) rfl rfl rfl (by decide +kernel) ⟨Nat.le_of_ble_eq_true rfl, Nat.le_of_ble_eq_true rfl⟩) (mw_preV hKM hM.m) rfl rfl hl.1 rfl (lv_room (Nat.le_of_ble_eq_true rfl)) dL_law_224 ⟨lw_rc0 hk, lw_rs0 hk⟩) hM hA (fun H locs hM => ?_)
  refine lv_istore (lv' := [(6, .int (fM_apply (xs (x + 1).toNatClampNeg) μ).1), (5, .int (fL_apply (xs (x + 1).toNatClampNeg) β f).1), (0, .ref b), (1, .ref (aB 0)), (2, .ref (aM 0)), (3, .ref o), (4, .int x)]) hx hb dL_law_227 hl (by decide) rfl (fun ls hl => ?_)
  refine lv_aload_n hx hb dL_law_229 rfl (lv_at hl 4 rfl) ?_
  refine lw_calliM (F := fM_thrown (fM_apply (xs (x + 1).toNatClampNeg) μ).2) (va_runV (As := []) (rest := []) ⟨hx, hb, hml, hown, hts⟩ (qM_thrown l D aM  (fM_apply (xs (x + 1).toNatClampNeg) μ).2 H.size) (cwV 0 hts (gV w_530 w_531 w_532 w_34 w_533) rfl rfl rfl (by decide +kernel) ⟨Nat.le_of_ble_eq_true rfl, Nat.le_of_ble_eq_true rfl⟩) (mw_preV hKM hM.m) rfl rfl hl.1 rfl (lv_room (Nat.le_of_ble_eq_true rfl)) dL_law_230 ⟨lw_rc0 hk, lw_rs0 hk⟩) hM hA (fun H locs hM => ?_)
  refine lv_iload hx hb dL_law_233 (lv_at hl 1 rfl) ?_
  refine lv_icmp_eq (tgt := 240) hx hb dL_law_235 (by decide) (fun _ => ?_) (fun h9 => absurd (hth) h9)
  refine lv_iload hx hb dL_law_240 (lv_at hl 1 rfl) ?_
  refine lv_if_ne (tgt := 257) hx hb dL_law_242 (by decide) (fun _ => ?_) (fun h8 => ?_)
  · refine lv_goto (tgt := 436) hx hb dL_law_257 (by decide) ?_
    exact kn _ _ _ hsim _ _ hM _ (lv_sub hl [2, 3, 4, 5, 6] rfl)
  · refine lv_aload_n hx hb dL_law_245 rfl (lv_at hl 5 rfl) ?_
    refine lv_iconst (v := 0) hx hb dL_law_246 (by decide) ?_
    refine va_lald (q0 := 9) (t0 := 1) (cA := aB 7) (n := 1) (f := (fL_apply (xs (x + 1).toNatClampNeg) β f).2.2) hx hb hKB hM.1 rfl rfl (fun h9 => h9.elim (by decide) (by decide)) dL_law_247 ?_
    refine lv_iload hx hb dL_law_248 (lv_at hl 0 rfl) ?_
    refine lv_i2l (v := ((fM_apply (xs (x + 1).toNatClampNeg) μ).1).toInt64) hx hb dL_law_250 rfl ?_
    refine W.lcmp hx hb dL_law_251 ?_
    refine lv_if_eq (tgt := 257) hx hb dL_law_252 (by decide) (fun _ => ?_) (fun h9 => absurd ((lg_cmp_eq _ _).mpr (hval h8)) h9)
    refine lv_goto (tgt := 436) hx hb dL_law_257 (by decide) ?_
    exact kn _ _ _ hsim _ _ hM _ (lv_sub hl [2, 3, 4, 5, 6] rfl)
set_option maxHeartbeats 4000000 in
set_option maxRecDepth 100000 in
theorem kL_case_3 {p : Program} {l : Launch} {e : Env} {s : State} {m : MethodId} {below : List Frame} {meth : Method} {c : Code} {b L : Nat} {xs : Nat → Int32} (C0 : lw_At p s m meth c b L xs) (hlT : l.stackTraces = false) {D : va_G} {aB aM ed td sa : Nat → Nat} {o : Nat} (hKB : va_K D clM (tyA aB) s) (hKM : va_K D clM (tyA aM) s) (hG : pw_G (fun q : Nat => s.heap.size ≤ q) ed td s s.heap) (hXw : xw (fun q : Nat => s.heap.size ≤ q) sa s s.heap) (hxc : xc s) (k : Nat) (hk : k < 512) (x : Int32) (h1 : vp_in (x + 1) L) (h2 : vp_in (x + 2) L) (h3 : vp_in (x + 3) L) {β : BS} {μ : MS} {f : Nat → Int64} (hsim : sim β μ) {H : Heap} {locs : List Loc} (hM : lwd D aB aM o (fun q : Nat => s.heap.size ≤ q) s.heap H locs β μ f) {ls : Array Slot} (hl : lv_has ls 8 [(0, .ref b), (1, .ref (aB 0)), (2, .ref (aM 0)), (3, .ref o), (4, .int x)]) (kn : ∀ (β : BS) (μ : MS) (f : Nat → Int64), sim β μ → ∀ (H : Heap) (locs : List Loc), lwd D aB aM o (fun q : Nat => s.heap.size ≤ q) s.heap H locs β μ f → ∀ (ls : Array Slot), lv_has ls 8 [(0, .ref b), (1, .ref (aB 0)), (2, .ref (aM 0)), (3, .ref o), (4, .int x)] → W p l e room_1 s m #[Value.ref b] below meth c H locs (10 + k + 1) (931 + 6 * k + 6) (lw_Z below #[Value.ref b] s) (F0 m 436 ls [])) : W p l e room_1 s m #[Value.ref b] below meth c H locs (10 + k) (931 + 6 * k) (lw_Z below #[Value.ref b] s) (F0 m 260 ls []) := by
  obtain ⟨hx, hb, hr, hml, hown, hts0, hX, hbl, hlocks, hgv⟩ := id C0
  have hts : ∀ w ∈ aw, w.before #[Value.ref b] s = true := fun w h => hts0 w (aw_tbl h)
  have hA : ∀ q : Nat, s.heap.size ≤ q → (fun q : Nat => s.heap.size ≤ q) q := fun _ h => h
  have hbA : ¬ (fun q : Nat => s.heap.size ≤ q) b := Nat.not_le.mpr hbl
  obtain ⟨heq, hsim⟩ := sim_trap hsim 
  refine W.widen (k := 10 + k + 1) (n := 931 + 6 * k + 6) (by omega) (by omega) ?_
  refine lv_aload_n hx hb dL_law_260 rfl (lv_at hl 1 rfl) ?_
  refine lw_calliB (F := fB_trap β) (va_runV (As := []) (rest := []) ⟨hx, hb, hml, hown, hts⟩ (qB_trap l D aB ed td  β H.size) (cwV 0 hts (gV w_84 w_85 w_86 w_33 w_87) rfl rfl rfl (by decide +kernel) ⟨Nat.le_of_ble_eq_true rfl, Nat.le_of_ble_eq_true rfl⟩) (bw_preV hKB hM.b hA hG) rfl rfl hl.1 rfl (lv_room (Nat.le_of_ble_eq_true rfl)) dL_law_261 ⟨lw_rc0 hk, lw_rs0 hk⟩) hM hA (fun H locs hM => ?_)
  refine lv_aload_n hx hb dL_law_264 rfl (lv_at hl 2 rfl) ?_
  refine lw_calliM (F := fM_trap μ) (va_runV (As := []) (rest := [.int (fB_trap β).1]) ⟨hx, hb, hml, hown, hts⟩ (qM_trap l D aM  μ H.size) (cwV 0 hts (gV w_774 w_775 w_776 w_34 w_777) rfl rfl rfl (by decide +kernel) ⟨Nat.le_of_ble_eq_true rfl, Nat.le_of_ble_eq_true rfl⟩) (mw_preV hKM hM.m) rfl rfl hl.1 rfl (lv_room (Nat.le_of_ble_eq_true rfl)) dL_law_265 ⟨lw_rc0 hk, lw_rs0 hk⟩) hM hA (fun H locs hM => ?_)
  refine lv_icmp_eq (tgt := 436) hx hb dL_law_268 (by decide) (fun _ => ?_) (fun h9 => absurd heq h9)
  exact kn _ _ _ hsim _ _ hM _ (lv_sub hl [0, 1, 2, 3, 4] rfl)
set_option maxHeartbeats 4000000 in
set_option maxRecDepth 100000 in
theorem kL_case_4 {p : Program} {l : Launch} {e : Env} {s : State} {m : MethodId} {below : List Frame} {meth : Method} {c : Code} {b L : Nat} {xs : Nat → Int32} (C0 : lw_At p s m meth c b L xs) (hlT : l.stackTraces = false) {D : va_G} {aB aM ed td sa : Nat → Nat} {o : Nat} (hKB : va_K D clM (tyA aB) s) (hKM : va_K D clM (tyA aM) s) (hG : pw_G (fun q : Nat => s.heap.size ≤ q) ed td s s.heap) (hXw : xw (fun q : Nat => s.heap.size ≤ q) sa s s.heap) (hxc : xc s) (k : Nat) (hk : k < 512) (x : Int32) (h1 : vp_in (x + 1) L) (h2 : vp_in (x + 2) L) (h3 : vp_in (x + 3) L) {β : BS} {μ : MS} {f : Nat → Int64} (hsim : sim β μ) {H : Heap} {locs : List Loc} (hM : lwd D aB aM o (fun q : Nat => s.heap.size ≤ q) s.heap H locs β μ f) {ls : Array Slot} (hl : lv_has ls 8 [(0, .ref b), (1, .ref (aB 0)), (2, .ref (aM 0)), (3, .ref o), (4, .int x)]) (kn : ∀ (β : BS) (μ : MS) (f : Nat → Int64), sim β μ → ∀ (H : Heap) (locs : List Loc), lwd D aB aM o (fun q : Nat => s.heap.size ≤ q) s.heap H locs β μ f → ∀ (ls : Array Slot), lv_has ls 8 [(0, .ref b), (1, .ref (aB 0)), (2, .ref (aM 0)), (3, .ref o), (4, .int x)] → W p l e room_1 s m #[Value.ref b] below meth c H locs (10 + k + 1) (931 + 6 * k + 6) (lw_Z below #[Value.ref b] s) (F0 m 436 ls [])) : W p l e room_1 s m #[Value.ref b] below meth c H locs (10 + k) (931 + 6 * k) (lw_Z below #[Value.ref b] s) (F0 m 273 ls []) := by
  obtain ⟨hx, hb, hr, hml, hown, hts0, hX, hbl, hlocks, hgv⟩ := id C0
  have hts : ∀ w ∈ aw, w.before #[Value.ref b] s = true := fun w h => hts0 w (aw_tbl h)
  have hA : ∀ q : Nat, s.heap.size ≤ q → (fun q : Nat => s.heap.size ≤ q) q := fun _ h => h
  have hbA : ¬ (fun q : Nat => s.heap.size ≤ q) b := Nat.not_le.mpr hbl
  obtain ⟨heq, hsim⟩ := sim_operator hsim (xs (x + 1).toNatClampNeg) (xs (x + 2).toNatClampNeg)
  refine W.widen (k := 10 + k + 1) (n := 931 + 6 * k + 6) (by omega) (by omega) ?_
  refine lv_aload_n hx hb dL_law_273 rfl (lv_at hl 1 rfl) ?_
  refine lv_aload_n hx hb dL_law_274 rfl (lv_at hl 0 rfl) ?_
  refine lv_iload hx hb dL_law_275 (lv_at hl 4 rfl) ?_
  refine lv_iconst (v := 1) hx hb dL_law_277 (by decide) ?_
  refine lv_iadd hx hb dL_law_278 ?_
  refine va_sld hx hb hX hbl hbA hM.2.2 h1 dL_law_279 ?_
  refine lv_aload_n hx hb dL_law_280 rfl (lv_at hl 0 rfl) ?_
  refine lv_iload hx hb dL_law_281 (lv_at hl 4 rfl) ?_
  refine lv_iconst (v := 2) hx hb dL_law_283 (by decide) ?_
  refine lv_iadd hx hb dL_law_284 ?_
  refine va_sld hx hb hX hbl hbA hM.2.2 h2 dL_law_285 ?_
  refine lw_calliB (F := fB_operator (xs (x + 1).toNatClampNeg) (xs (x + 2).toNatClampNeg) β) (va_runV (As := [.int (xs (x + 1).toNatClampNeg), .int (xs (x + 2).toNatClampNeg)]) (rest := []) ⟨hx, hb, hml, hown, hts⟩ (qB_operator l D aB ed td (xs (x + 1).toNatClampNeg) (xs (x + 2).toNatClampNeg) β H.size) (cwV 2 hts (gV w_88 w_89 w_90 w_33 w_91) rfl rfl rfl (by decide +kernel) ⟨Nat.le_of_ble_eq_true rfl, Nat.le_of_ble_eq_true rfl⟩) (bw_preV hKB hM.b hA hG) rfl rfl hl.1 rfl (lv_room (Nat.le_of_ble_eq_true rfl)) dL_law_286 ⟨lw_rc0 hk, lw_rs0 hk⟩) hM hA (fun H locs hM => ?_)
  refine lv_aload_n hx hb dL_law_289 rfl (lv_at hl 2 rfl) ?_
  refine lv_aload_n hx hb dL_law_290 rfl (lv_at hl 0 rfl) ?_
  refine lv_iload hx hb dL_law_291 (lv_at hl 4 rfl) ?_
  refine lv_iconst (v := 1) hx hb dL_law_293 (by decide) ?_
  refine lv_iadd hx hb dL_law_294 ?_
  refine va_sld hx hb hX hbl hbA hM.2.2 h1 dL_law_295 ?_
  refine lv_aload_n hx hb dL_law_296 rfl (lv_at hl 0 rfl) ?_
  refine lv_iload hx hb dL_law_297 (lv_at hl 4 rfl) ?_
  refine lv_iconst (v := 2) hx hb dL_law_299 (by decide) ?_
  refine lv_iadd hx hb dL_law_300 ?_
  refine va_sld hx hb hX hbl hbA hM.2.2 h2 dL_law_301 ?_
  refine lw_calliM (F := fM_operator (xs (x + 1).toNatClampNeg) (xs (x + 2).toNatClampNeg) μ) (va_runV (As := [.int (xs (x + 1).toNatClampNeg), .int (xs (x + 2).toNatClampNeg)]) (rest := [.int (fB_operator (xs (x + 1).toNatClampNeg) (xs (x + 2).toNatClampNeg) β).1]) ⟨hx, hb, hml, hown, hts⟩ (qM_operator l D aM (xs (x + 1).toNatClampNeg) (xs (x + 2).toNatClampNeg) μ H.size) (cwV 2 hts (gV w_778 w_779 w_780 w_34 w_781) rfl rfl rfl (by decide +kernel) ⟨Nat.le_of_ble_eq_true rfl, Nat.le_of_ble_eq_true rfl⟩) (mw_preV hKM hM.m) rfl rfl hl.1 rfl (lv_room (Nat.le_of_ble_eq_true rfl)) dL_law_302 ⟨lw_rc0 hk, lw_rs0 hk⟩) hM hA (fun H locs hM => ?_)
  refine lv_icmp_eq (tgt := 436) hx hb dL_law_305 (by decide) (fun _ => ?_) (fun h9 => absurd heq h9)
  exact kn _ _ _ hsim _ _ hM _ (lv_sub hl [0, 1, 2, 3, 4] rfl)
set_option maxHeartbeats 4000000 in
set_option maxRecDepth 100000 in
theorem kL_case_5 {p : Program} {l : Launch} {e : Env} {s : State} {m : MethodId} {below : List Frame} {meth : Method} {c : Code} {b L : Nat} {xs : Nat → Int32} (C0 : lw_At p s m meth c b L xs) (hlT : l.stackTraces = false) {D : va_G} {aB aM ed td sa : Nat → Nat} {o : Nat} (hKB : va_K D clM (tyA aB) s) (hKM : va_K D clM (tyA aM) s) (hG : pw_G (fun q : Nat => s.heap.size ≤ q) ed td s s.heap) (hXw : xw (fun q : Nat => s.heap.size ≤ q) sa s s.heap) (hxc : xc s) (k : Nat) (hk : k < 512) (x : Int32) (h1 : vp_in (x + 1) L) (h2 : vp_in (x + 2) L) (h3 : vp_in (x + 3) L) {β : BS} {μ : MS} {f : Nat → Int64} (hsim : sim β μ) {H : Heap} {locs : List Loc} (hM : lwd D aB aM o (fun q : Nat => s.heap.size ≤ q) s.heap H locs β μ f) {ls : Array Slot} (hl : lv_has ls 8 [(0, .ref b), (1, .ref (aB 0)), (2, .ref (aM 0)), (3, .ref o), (4, .int x)]) (kn : ∀ (β : BS) (μ : MS) (f : Nat → Int64), sim β μ → ∀ (H : Heap) (locs : List Loc), lwd D aB aM o (fun q : Nat => s.heap.size ≤ q) s.heap H locs β μ f → ∀ (ls : Array Slot), lv_has ls 8 [(0, .ref b), (1, .ref (aB 0)), (2, .ref (aM 0)), (3, .ref o), (4, .int x)] → W p l e room_1 s m #[Value.ref b] below meth c H locs (10 + k + 1) (931 + 6 * k + 6) (lw_Z below #[Value.ref b] s) (F0 m 436 ls [])) : W p l e room_1 s m #[Value.ref b] below meth c H locs (10 + k) (931 + 6 * k) (lw_Z below #[Value.ref b] s) (F0 m 310 ls []) := by
  obtain ⟨hx, hb, hr, hml, hown, hts0, hX, hbl, hlocks, hgv⟩ := id C0
  have hts : ∀ w ∈ aw, w.before #[Value.ref b] s = true := fun w h => hts0 w (aw_tbl h)
  have hA : ∀ q : Nat, s.heap.size ≤ q → (fun q : Nat => s.heap.size ≤ q) q := fun _ h => h
  have hbA : ¬ (fun q : Nat => s.heap.size ≤ q) b := Nat.not_le.mpr hbl
  obtain ⟨hSB, hSM, heq, hsim⟩ := sim_type hsim (xs (x + 1).toNatClampNeg)
  refine W.widen (k := 10 + k + 1) (n := 931 + 6 * k + 6) (by omega) (by omega) ?_
  refine lv_aload_n hx hb dL_law_310 rfl (lv_at hl 1 rfl) ?_
  refine lv_aload_n hx hb dL_law_311 rfl (lv_at hl 0 rfl) ?_
  refine lv_iload hx hb dL_law_312 (lv_at hl 4 rfl) ?_
  refine lv_iconst (v := 1) hx hb dL_law_314 (by decide) ?_
  refine lv_iadd hx hb dL_law_315 ?_
  refine va_sld hx hb hX hbl hbA hM.2.2 h1 dL_law_316 ?_
  refine lw_calliB (F := fB_type (xs (x + 1).toNatClampNeg) β) (va_runV (As := [.int (xs (x + 1).toNatClampNeg)]) (rest := []) ⟨hx, hb, hml, hown, hts⟩ (qB_type l D aB ed td (xs (x + 1).toNatClampNeg) β H.size hSB) (cwV 1 hts (gV w_118 w_119 w_120 w_33 w_121) rfl rfl rfl (by decide +kernel) ⟨Nat.le_of_ble_eq_true rfl, Nat.le_of_ble_eq_true rfl⟩) (bw_preV hKB hM.b hA hG) rfl rfl hl.1 rfl (lv_room (Nat.le_of_ble_eq_true rfl)) dL_law_317 ⟨lw_rc0 hk, lw_rs0 hk⟩) hM hA (fun H locs hM => ?_)
  refine lv_aload_n hx hb dL_law_320 rfl (lv_at hl 2 rfl) ?_
  refine lv_aload_n hx hb dL_law_321 rfl (lv_at hl 0 rfl) ?_
  refine lv_iload hx hb dL_law_322 (lv_at hl 4 rfl) ?_
  refine lv_iconst (v := 1) hx hb dL_law_324 (by decide) ?_
  refine lv_iadd hx hb dL_law_325 ?_
  refine va_sld hx hb hX hbl hbA hM.2.2 h1 dL_law_326 ?_
  refine lw_calliM (F := fM_type (xs (x + 1).toNatClampNeg) μ) (va_runV (As := [.int (xs (x + 1).toNatClampNeg)]) (rest := [.int (fB_type (xs (x + 1).toNatClampNeg) β).1]) ⟨hx, hb, hml, hown, hts⟩ (qM_type l D aM (xs (x + 1).toNatClampNeg) μ H.size hSM) (cwV 1 hts (gV w_782 w_783 w_784 w_34 w_785) rfl rfl rfl (by decide +kernel) ⟨Nat.le_of_ble_eq_true rfl, Nat.le_of_ble_eq_true rfl⟩) (mw_preV hKM hM.m) rfl rfl hl.1 rfl (lv_room (Nat.le_of_ble_eq_true rfl)) dL_law_327 ⟨lw_rc0 hk, lw_rs0 hk⟩) hM hA (fun H locs hM => ?_)
  refine lv_icmp_eq (tgt := 436) hx hb dL_law_330 (by decide) (fun _ => ?_) (fun h9 => absurd heq h9)
  exact kn _ _ _ hsim _ _ hM _ (lv_sub hl [0, 1, 2, 3, 4] rfl)
set_option maxHeartbeats 4000000 in
set_option maxRecDepth 100000 in
theorem kL_case_6 {p : Program} {l : Launch} {e : Env} {s : State} {m : MethodId} {below : List Frame} {meth : Method} {c : Code} {b L : Nat} {xs : Nat → Int32} (C0 : lw_At p s m meth c b L xs) (hlT : l.stackTraces = false) {D : va_G} {aB aM ed td sa : Nat → Nat} {o : Nat} (hKB : va_K D clM (tyA aB) s) (hKM : va_K D clM (tyA aM) s) (hG : pw_G (fun q : Nat => s.heap.size ≤ q) ed td s s.heap) (hXw : xw (fun q : Nat => s.heap.size ≤ q) sa s s.heap) (hxc : xc s) (k : Nat) (hk : k < 512) (x : Int32) (h1 : vp_in (x + 1) L) (h2 : vp_in (x + 2) L) (h3 : vp_in (x + 3) L) {β : BS} {μ : MS} {f : Nat → Int64} (hsim : sim β μ) {H : Heap} {locs : List Loc} (hM : lwd D aB aM o (fun q : Nat => s.heap.size ≤ q) s.heap H locs β μ f) {ls : Array Slot} (hl : lv_has ls 8 [(0, .ref b), (1, .ref (aB 0)), (2, .ref (aM 0)), (3, .ref o), (4, .int x)]) (kn : ∀ (β : BS) (μ : MS) (f : Nat → Int64), sim β μ → ∀ (H : Heap) (locs : List Loc), lwd D aB aM o (fun q : Nat => s.heap.size ≤ q) s.heap H locs β μ f → ∀ (ls : Array Slot), lv_has ls 8 [(0, .ref b), (1, .ref (aB 0)), (2, .ref (aM 0)), (3, .ref o), (4, .int x)] → W p l e room_1 s m #[Value.ref b] below meth c H locs (10 + k + 1) (931 + 6 * k + 6) (lw_Z below #[Value.ref b] s) (F0 m 436 ls [])) : W p l e room_1 s m #[Value.ref b] below meth c H locs (10 + k) (931 + 6 * k) (lw_Z below #[Value.ref b] s) (F0 m 335 ls []) := by
  obtain ⟨hx, hb, hr, hml, hown, hts0, hX, hbl, hlocks, hgv⟩ := id C0
  have hts : ∀ w ∈ aw, w.before #[Value.ref b] s = true := fun w h => hts0 w (aw_tbl h)
  have hA : ∀ q : Nat, s.heap.size ≤ q → (fun q : Nat => s.heap.size ≤ q) q := fun _ h => h
  have hbA : ¬ (fun q : Nat => s.heap.size ≤ q) b := Nat.not_le.mpr hbl
  obtain ⟨hSB, hSM, heq, hsim⟩ := sim_bits hsim (xs (x + 1).toNatClampNeg)
  refine W.widen (k := 10 + k + 1) (n := 931 + 6 * k + 6) (by omega) (by omega) ?_
  refine lv_aload_n hx hb dL_law_335 rfl (lv_at hl 1 rfl) ?_
  refine lv_aload_n hx hb dL_law_336 rfl (lv_at hl 0 rfl) ?_
  refine lv_iload hx hb dL_law_337 (lv_at hl 4 rfl) ?_
  refine lv_iconst (v := 1) hx hb dL_law_339 (by decide) ?_
  refine lv_iadd hx hb dL_law_340 ?_
  refine va_sld hx hb hX hbl hbA hM.2.2 h1 dL_law_341 ?_
  refine lw_calllB (F := fB_bits (xs (x + 1).toNatClampNeg) β) (va_runV (As := [.int (xs (x + 1).toNatClampNeg)]) (rest := []) ⟨hx, hb, hml, hown, hts⟩ (qB_bits l D aB ed td (xs (x + 1).toNatClampNeg) β H.size hSB) (cwV 1 hts (gV w_126 w_127 w_128 w_33 w_129) rfl rfl rfl (by decide +kernel) ⟨Nat.le_of_ble_eq_true rfl, Nat.le_of_ble_eq_true rfl⟩) (bw_preV hKB hM.b hA hG) rfl rfl hl.1 rfl (lv_room (Nat.le_of_ble_eq_true rfl)) dL_law_342 ⟨lw_rc0 hk, lw_rs0 hk⟩) hM hA (fun H locs hM => ?_)
  refine lv_aload_n hx hb dL_law_345 rfl (lv_at hl 2 rfl) ?_
  refine lv_aload_n hx hb dL_law_346 rfl (lv_at hl 0 rfl) ?_
  refine lv_iload hx hb dL_law_347 (lv_at hl 4 rfl) ?_
  refine lv_iconst (v := 1) hx hb dL_law_349 (by decide) ?_
  refine lv_iadd hx hb dL_law_350 ?_
  refine va_sld hx hb hX hbl hbA hM.2.2 h1 dL_law_351 ?_
  refine lw_calllM (F := fM_bits (xs (x + 1).toNatClampNeg) μ) (va_runV (As := [.int (xs (x + 1).toNatClampNeg)]) (rest := [.long (fB_bits (xs (x + 1).toNatClampNeg) β).1]) ⟨hx, hb, hml, hown, hts⟩ (qM_bits l D aM (xs (x + 1).toNatClampNeg) μ H.size hSM) (cwV 1 hts (gV w_790 w_791 w_792 w_34 w_793) rfl rfl rfl (by decide +kernel) ⟨Nat.le_of_ble_eq_true rfl, Nat.le_of_ble_eq_true rfl⟩) (mw_preV hKM hM.m) rfl rfl hl.1 rfl (lv_room (Nat.le_of_ble_eq_true rfl)) dL_law_352 ⟨lw_rc0 hk, lw_rs0 hk⟩) hM hA (fun H locs hM => ?_)
  refine W.lcmp hx hb dL_law_355 ?_
  refine lv_if_eq (tgt := 436) hx hb dL_law_356 (by decide) (fun _ => ?_) (fun h9 => absurd ((lg_cmp_eq _ _).mpr heq) h9)
  exact kn _ _ _ hsim _ _ hM _ (lv_sub hl [0, 1, 2, 3, 4] rfl)
set_option maxHeartbeats 4000000 in
set_option maxRecDepth 100000 in
theorem kL_case_7 {p : Program} {l : Launch} {e : Env} {s : State} {m : MethodId} {below : List Frame} {meth : Method} {c : Code} {b L : Nat} {xs : Nat → Int32} (C0 : lw_At p s m meth c b L xs) (hlT : l.stackTraces = false) {D : va_G} {aB aM ed td sa : Nat → Nat} {o : Nat} (hKB : va_K D clM (tyA aB) s) (hKM : va_K D clM (tyA aM) s) (hG : pw_G (fun q : Nat => s.heap.size ≤ q) ed td s s.heap) (hXw : xw (fun q : Nat => s.heap.size ≤ q) sa s s.heap) (hxc : xc s) (k : Nat) (hk : k < 512) (x : Int32) (h1 : vp_in (x + 1) L) (h2 : vp_in (x + 2) L) (h3 : vp_in (x + 3) L) {β : BS} {μ : MS} {f : Nat → Int64} (hsim : sim β μ) {H : Heap} {locs : List Loc} (hM : lwd D aB aM o (fun q : Nat => s.heap.size ≤ q) s.heap H locs β μ f) {ls : Array Slot} (hl : lv_has ls 8 [(0, .ref b), (1, .ref (aB 0)), (2, .ref (aM 0)), (3, .ref o), (4, .int x)]) (kn : ∀ (β : BS) (μ : MS) (f : Nat → Int64), sim β μ → ∀ (H : Heap) (locs : List Loc), lwd D aB aM o (fun q : Nat => s.heap.size ≤ q) s.heap H locs β μ f → ∀ (ls : Array Slot), lv_has ls 8 [(0, .ref b), (1, .ref (aB 0)), (2, .ref (aM 0)), (3, .ref o), (4, .int x)] → W p l e room_1 s m #[Value.ref b] below meth c H locs (10 + k + 1) (931 + 6 * k + 6) (lw_Z below #[Value.ref b] s) (F0 m 436 ls [])) : W p l e room_1 s m #[Value.ref b] below meth c H locs (10 + k) (931 + 6 * k) (lw_Z below #[Value.ref b] s) (F0 m 361 ls []) := by
  obtain ⟨hx, hb, hr, hml, hown, hts0, hX, hbl, hlocks, hgv⟩ := id C0
  have hts : ∀ w ∈ aw, w.before #[Value.ref b] s = true := fun w h => hts0 w (aw_tbl h)
  have hA : ∀ q : Nat, s.heap.size ≤ q → (fun q : Nat => s.heap.size ≤ q) q := fun _ h => h
  have hbA : ¬ (fun q : Nat => s.heap.size ≤ q) b := Nat.not_le.mpr hbl
  obtain ⟨hSB, hSM, heq, hsim⟩ := sim_parts hsim (xs (x + 1).toNatClampNeg) (xs (x + 2).toNatClampNeg)
  refine W.widen (k := 10 + k + 1) (n := 931 + 6 * k + 6) (by omega) (by omega) ?_
  refine lv_aload_n hx hb dL_law_361 rfl (lv_at hl 1 rfl) ?_
  refine lv_aload_n hx hb dL_law_362 rfl (lv_at hl 0 rfl) ?_
  refine lv_iload hx hb dL_law_363 (lv_at hl 4 rfl) ?_
  refine lv_iconst (v := 1) hx hb dL_law_365 (by decide) ?_
  refine lv_iadd hx hb dL_law_366 ?_
  refine va_sld hx hb hX hbl hbA hM.2.2 h1 dL_law_367 ?_
  refine lv_aload_n hx hb dL_law_368 rfl (lv_at hl 0 rfl) ?_
  refine lv_iload hx hb dL_law_369 (lv_at hl 4 rfl) ?_
  refine lv_iconst (v := 2) hx hb dL_law_371 (by decide) ?_
  refine lv_iadd hx hb dL_law_372 ?_
  refine va_sld hx hb hX hbl hbA hM.2.2 h2 dL_law_373 ?_
  refine lw_calliB (F := fB_parts (xs (x + 1).toNatClampNeg) (xs (x + 2).toNatClampNeg) β) (va_runV (As := [.int (xs (x + 1).toNatClampNeg), .int (xs (x + 2).toNatClampNeg)]) (rest := []) ⟨hx, hb, hml, hown, hts⟩ (qB_parts l D aB ed td (xs (x + 1).toNatClampNeg) (xs (x + 2).toNatClampNeg) β H.size hSB) (cwV 2 hts (gV w_130 w_131 w_132 w_33 w_133) rfl rfl rfl (by decide +kernel) ⟨Nat.le_of_ble_eq_true rfl, Nat.le_of_ble_eq_true rfl⟩) (bw_preV hKB hM.b hA hG) rfl rfl hl.1 rfl (lv_room (Nat.le_of_ble_eq_true rfl)) dL_law_374 ⟨lw_rc0 hk, lw_rs0 hk⟩) hM hA (fun H locs hM => ?_)
  refine lv_aload_n hx hb dL_law_377 rfl (lv_at hl 2 rfl) ?_
  refine lv_aload_n hx hb dL_law_378 rfl (lv_at hl 0 rfl) ?_
  refine lv_iload hx hb dL_law_379 (lv_at hl 4 rfl) ?_
  refine lv_iconst (v := 1) hx hb dL_law_381 (by decide) ?_
  refine lv_iadd hx hb dL_law_382 ?_
  refine va_sld hx hb hX hbl hbA hM.2.2 h1 dL_law_383 ?_
  refine lv_aload_n hx hb dL_law_384 rfl (lv_at hl 0 rfl) ?_
  refine lv_iload hx hb dL_law_385 (lv_at hl 4 rfl) ?_
  refine lv_iconst (v := 2) hx hb dL_law_387 (by decide) ?_
  refine lv_iadd hx hb dL_law_388 ?_
  refine va_sld hx hb hX hbl hbA hM.2.2 h2 dL_law_389 ?_
  refine lw_calliM (F := fM_parts (xs (x + 1).toNatClampNeg) (xs (x + 2).toNatClampNeg) μ) (va_runV (As := [.int (xs (x + 1).toNatClampNeg), .int (xs (x + 2).toNatClampNeg)]) (rest := [.int (fB_parts (xs (x + 1).toNatClampNeg) (xs (x + 2).toNatClampNeg) β).1]) ⟨hx, hb, hml, hown, hts⟩ (qM_parts l D aM (xs (x + 1).toNatClampNeg) (xs (x + 2).toNatClampNeg) μ H.size hSM) (cwV 2 hts (gV w_794 w_795 w_796 w_34 w_797) rfl rfl rfl (by decide +kernel) ⟨Nat.le_of_ble_eq_true rfl, Nat.le_of_ble_eq_true rfl⟩) (mw_preV hKM hM.m) rfl rfl hl.1 rfl (lv_room (Nat.le_of_ble_eq_true rfl)) dL_law_390 ⟨lw_rc0 hk, lw_rs0 hk⟩) hM hA (fun H locs hM => ?_)
  refine lv_icmp_eq (tgt := 436) hx hb dL_law_393 (by decide) (fun _ => ?_) (fun h9 => absurd heq h9)
  exact kn _ _ _ hsim _ _ hM _ (lv_sub hl [0, 1, 2, 3, 4] rfl)
set_option maxHeartbeats 4000000 in
set_option maxRecDepth 100000 in
theorem kL_case_8 {p : Program} {l : Launch} {e : Env} {s : State} {m : MethodId} {below : List Frame} {meth : Method} {c : Code} {b L : Nat} {xs : Nat → Int32} (C0 : lw_At p s m meth c b L xs) (hlT : l.stackTraces = false) {D : va_G} {aB aM ed td sa : Nat → Nat} {o : Nat} (hKB : va_K D clM (tyA aB) s) (hKM : va_K D clM (tyA aM) s) (hG : pw_G (fun q : Nat => s.heap.size ≤ q) ed td s s.heap) (hXw : xw (fun q : Nat => s.heap.size ≤ q) sa s s.heap) (hxc : xc s) (k : Nat) (hk : k < 512) (x : Int32) (h1 : vp_in (x + 1) L) (h2 : vp_in (x + 2) L) (h3 : vp_in (x + 3) L) {β : BS} {μ : MS} {f : Nat → Int64} (hsim : sim β μ) {H : Heap} {locs : List Loc} (hM : lwd D aB aM o (fun q : Nat => s.heap.size ≤ q) s.heap H locs β μ f) {ls : Array Slot} (hl : lv_has ls 8 [(0, .ref b), (1, .ref (aB 0)), (2, .ref (aM 0)), (3, .ref o), (4, .int x)]) (kn : ∀ (β : BS) (μ : MS) (f : Nat → Int64), sim β μ → ∀ (H : Heap) (locs : List Loc), lwd D aB aM o (fun q : Nat => s.heap.size ≤ q) s.heap H locs β μ f → ∀ (ls : Array Slot), lv_has ls 8 [(0, .ref b), (1, .ref (aB 0)), (2, .ref (aM 0)), (3, .ref o), (4, .int x)] → W p l e room_1 s m #[Value.ref b] below meth c H locs (10 + k + 1) (931 + 6 * k + 6) (lw_Z below #[Value.ref b] s) (F0 m 436 ls [])) : W p l e room_1 s m #[Value.ref b] below meth c H locs (10 + k) (931 + 6 * k) (lw_Z below #[Value.ref b] s) (F0 m 398 ls []) := by
  obtain ⟨hx, hb, hr, hml, hown, hts0, hX, hbl, hlocks, hgv⟩ := id C0
  have hts : ∀ w ∈ aw, w.before #[Value.ref b] s = true := fun w h => hts0 w (aw_tbl h)
  have hA : ∀ q : Nat, s.heap.size ≤ q → (fun q : Nat => s.heap.size ≤ q) q := fun _ h => h
  have hbA : ¬ (fun q : Nat => s.heap.size ≤ q) b := Nat.not_le.mpr hbl
  obtain ⟨hSB, hSM, heq, hsim⟩ := sim_copy hsim (xs (x + 1).toNatClampNeg)
  refine W.widen (k := 10 + k + 1) (n := 931 + 6 * k + 6) (by omega) (by omega) ?_
  refine lv_aload_n hx hb dL_law_398 rfl (lv_at hl 1 rfl) ?_
  refine lv_aload_n hx hb dL_law_399 rfl (lv_at hl 0 rfl) ?_
  refine lv_iload hx hb dL_law_400 (lv_at hl 4 rfl) ?_
  refine lv_iconst (v := 1) hx hb dL_law_402 (by decide) ?_
  refine lv_iadd hx hb dL_law_403 ?_
  refine va_sld hx hb hX hbl hbA hM.2.2 h1 dL_law_404 ?_
  refine lw_calliB (F := fB_copy (xs (x + 1).toNatClampNeg) β) (va_runV (As := [.int (xs (x + 1).toNatClampNeg)]) (rest := []) ⟨hx, hb, hml, hown, hts⟩ (qB_copy l D aB ed td (xs (x + 1).toNatClampNeg) β H.size hSB) (cwV 1 hts (gV w_167 w_168 w_169 w_33 w_170) rfl rfl rfl (by decide +kernel) ⟨Nat.le_of_ble_eq_true rfl, Nat.le_of_ble_eq_true rfl⟩) (bw_preV hKB hM.b hA hG) rfl rfl hl.1 rfl (lv_room (Nat.le_of_ble_eq_true rfl)) dL_law_405 ⟨lw_rc0 hk, lw_rs0 hk⟩) hM hA (fun H locs hM => ?_)
  refine lv_aload_n hx hb dL_law_408 rfl (lv_at hl 2 rfl) ?_
  refine lv_aload_n hx hb dL_law_409 rfl (lv_at hl 0 rfl) ?_
  refine lv_iload hx hb dL_law_410 (lv_at hl 4 rfl) ?_
  refine lv_iconst (v := 1) hx hb dL_law_412 (by decide) ?_
  refine lv_iadd hx hb dL_law_413 ?_
  refine va_sld hx hb hX hbl hbA hM.2.2 h1 dL_law_414 ?_
  refine lw_calliM (F := fM_copy (xs (x + 1).toNatClampNeg) μ) (va_runV (As := [.int (xs (x + 1).toNatClampNeg)]) (rest := [.int (fB_copy (xs (x + 1).toNatClampNeg) β).1]) ⟨hx, hb, hml, hown, hts⟩ (qM_copy l D aM (xs (x + 1).toNatClampNeg) μ H.size hSM) (cwV 1 hts (gV w_798 w_799 w_800 w_34 w_801) rfl rfl rfl (by decide +kernel) ⟨Nat.le_of_ble_eq_true rfl, Nat.le_of_ble_eq_true rfl⟩) (mw_preV hKM hM.m) rfl rfl hl.1 rfl (lv_room (Nat.le_of_ble_eq_true rfl)) dL_law_415 ⟨lw_rc0 hk, lw_rs0 hk⟩) hM hA (fun H locs hM => ?_)
  refine lv_icmp_eq (tgt := 436) hx hb dL_law_418 (by decide) (fun _ => ?_) (fun h9 => absurd heq h9)
  exact kn _ _ _ hsim _ _ hM _ (lv_sub hl [0, 1, 2, 3, 4] rfl)
set_option maxHeartbeats 4000000 in
set_option maxRecDepth 100000 in
theorem kL_case_9 {p : Program} {l : Launch} {e : Env} {s : State} {m : MethodId} {below : List Frame} {meth : Method} {c : Code} {b L : Nat} {xs : Nat → Int32} (C0 : lw_At p s m meth c b L xs) (hlT : l.stackTraces = false) {D : va_G} {aB aM ed td sa : Nat → Nat} {o : Nat} (hKB : va_K D clM (tyA aB) s) (hKM : va_K D clM (tyA aM) s) (hG : pw_G (fun q : Nat => s.heap.size ≤ q) ed td s s.heap) (hXw : xw (fun q : Nat => s.heap.size ≤ q) sa s s.heap) (hxc : xc s) (k : Nat) (hk : k < 512) (x : Int32) (h1 : vp_in (x + 1) L) (h2 : vp_in (x + 2) L) (h3 : vp_in (x + 3) L) {β : BS} {μ : MS} {f : Nat → Int64} (hsim : sim β μ) {H : Heap} {locs : List Loc} (hM : lwd D aB aM o (fun q : Nat => s.heap.size ≤ q) s.heap H locs β μ f) {ls : Array Slot} (hl : lv_has ls 8 [(0, .ref b), (1, .ref (aB 0)), (2, .ref (aM 0)), (3, .ref o), (4, .int x)]) (kn : ∀ (β : BS) (μ : MS) (f : Nat → Int64), sim β μ → ∀ (H : Heap) (locs : List Loc), lwd D aB aM o (fun q : Nat => s.heap.size ≤ q) s.heap H locs β μ f → ∀ (ls : Array Slot), lv_has ls 8 [(0, .ref b), (1, .ref (aB 0)), (2, .ref (aM 0)), (3, .ref o), (4, .int x)] → W p l e room_1 s m #[Value.ref b] below meth c H locs (10 + k + 1) (931 + 6 * k + 6) (lw_Z below #[Value.ref b] s) (F0 m 436 ls [])) : W p l e room_1 s m #[Value.ref b] below meth c H locs (10 + k) (931 + 6 * k) (lw_Z below #[Value.ref b] s) (F0 m 423 ls []) := by
  obtain ⟨hx, hb, hr, hml, hown, hts0, hX, hbl, hlocks, hgv⟩ := id C0
  have hts : ∀ w ∈ aw, w.before #[Value.ref b] s = true := fun w h => hts0 w (aw_tbl h)
  have hA : ∀ q : Nat, s.heap.size ≤ q → (fun q : Nat => s.heap.size ≤ q) q := fun _ h => h
  have hbA : ¬ (fun q : Nat => s.heap.size ≤ q) b := Nat.not_le.mpr hbl
  obtain ⟨heq, hsim⟩ := sim_clear hsim 
  refine W.widen (k := 10 + k + 1) (n := 931 + 6 * k + 6) (by omega) (by omega) ?_
  refine lv_aload_n hx hb dL_law_423 rfl (lv_at hl 1 rfl) ?_
  refine lw_calliB (F := fB_clear β) (va_runV (As := []) (rest := []) ⟨hx, hb, hml, hown, hts⟩ (qB_clear l D aB ed td  β H.size) (cwV 0 hts (gV w_171 w_172 w_173 w_33 w_174) rfl rfl rfl (by decide +kernel) ⟨Nat.le_of_ble_eq_true rfl, Nat.le_of_ble_eq_true rfl⟩) (bw_preV hKB hM.b hA hG) rfl rfl hl.1 rfl (lv_room (Nat.le_of_ble_eq_true rfl)) dL_law_424 ⟨lw_rc0 hk, lw_rs0 hk⟩) hM hA (fun H locs hM => ?_)
  refine lv_aload_n hx hb dL_law_427 rfl (lv_at hl 2 rfl) ?_
  refine lw_calliM (F := fM_clear μ) (va_runV (As := []) (rest := [.int (fB_clear β).1]) ⟨hx, hb, hml, hown, hts⟩ (qM_clear l D aM  μ H.size) (cwV 0 hts (gV w_802 w_803 w_804 w_34 w_805) rfl rfl rfl (by decide +kernel) ⟨Nat.le_of_ble_eq_true rfl, Nat.le_of_ble_eq_true rfl⟩) (mw_preV hKM hM.m) rfl rfl hl.1 rfl (lv_room (Nat.le_of_ble_eq_true rfl)) dL_law_428 ⟨lw_rc0 hk, lw_rs0 hk⟩) hM hA (fun H locs hM => ?_)
  refine lv_icmp_eq (tgt := 436) hx hb dL_law_431 (by decide) (fun _ => ?_) (fun h9 => absurd heq h9)
  exact kn _ _ _ hsim _ _ hM _ (lv_sub hl [0, 1, 2, 3, 4] rfl)
