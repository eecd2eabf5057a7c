set_option maxHeartbeats 4000000 in
set_option maxRecDepth 100000 in
theorem kM_shape_0 {p : Program} {l : Launch} {e : Env} {s : State} {m : MethodId} {args : Array Value} {below : List Frame} {meth : Method} {c : Code} (C : pw_C p s m args meth c cM_shape 3 (some .int) "BitNumbersModel") (a0 : Int32) (a1 : Int32) (a2 : Int32) {ls : Array Slot} (hl : lv_has ls 3 [(0, .int a0), (1, .int a1), (2, .int a2)]) : W p l e rmM_shape s m args below meth c s.heap [] 0 0 (MQ below (k2_QcV (.int (fM_shape a0 a1 a2))) args s 0 0 (fun _ => False)) (F0 m 0 ls []) := by
  obtain ⟨hx, hb, hr, hml, hown, hts, hlocks⟩ := id C
  refine lv_iload_n hx hb dM_shape_0 rfl (lv_at hl 0 rfl) ?_
  refine lv_bipush (v := 16) hx hb dM_shape_1 (by decide) ?_
  refine lv_imul hx hb dM_shape_3 ?_
  refine lv_iload_n hx hb dM_shape_4 rfl (lv_at hl 1 rfl) ?_
  refine lv_iconst (v := 4) hx hb dM_shape_5 (by decide) ?_
  refine lv_imul hx hb dM_shape_6 ?_
  refine lv_iadd hx hb dM_shape_7 ?_
  refine lv_iload_n hx hb dM_shape_8 rfl (lv_at hl 2 rfl) ?_
  refine lv_iadd hx hb dM_shape_9 ?_
  exact W.iret hx hb hr (fun t ht _ => ⟨by rw [(show fM_shape a0 a1 a2 = ((a0 * 16) + (a1 * 4)) + a2 by rw [fM_shape])], ht⟩) (fun q h => nomatch h) dM_shape_10
set_option maxHeartbeats 4000000 in
set_option maxRecDepth 100000 in
theorem qM_shape (l : Launch) (a0 : Int32) (a1 : Int32) (a2 : Int32) : Met l yM_shape wsM_shape rmM_shape (va_Pc [.int a0, .int a1, .int a2] (fun _ => True)) (k2_QcV (.int (fM_shape a0 a1 a2))) 0 0 (fun _ => False) := by
  refine Met.ofW (cc := cM_shape) (maxL := 3) (ret := (some .int)) (by decide) rfl ?_
  intro p e s m args below meth c s₁ B hml hv
  obtain ⟨rfl, hG⟩ := hv
  have hts0 := atoms_spec (ws := wsM_shape) B.pre
  have hts := fun (w : Cond) (h : w ∈ aw) => hts0 w (List.mem_cons_of_mem _ h)
  have hown : s.vm.findClass "BitNumbersModel" = some m.cls := findClass_of_methodNamed B.named
  have hl := lv_entry ([.int a0, .int a1, .int a2]) (n := 3) (Nat.le_of_ble_eq_true rfl)
  rw [lg_entry_eq]
  generalize (lg_sl ([.int a0, .int a1, .int a2]) ++ List.replicate (3 - (lg_sl ([.int a0, .int a1, .int a2])).length) Slot.unset).toArray = ls at hl ⊢
  exact kM_shape_0 ⟨B.exec, B.bytes, B.returns, hml, hown, hts, B.notSynchronized⟩ a0 a1 a2 hl

set_option maxHeartbeats 4000000 in
set_option maxRecDepth 100000 in
theorem kM_taken_0 {p : Program} {l : Launch} {e : Env} {s : State} {m : MethodId} {args : Array Value} {below : List Frame} {meth : Method} {c : Code} (C : pw_C p s m args meth c cM_taken 1 (some .int) "BitNumbersModel") (a0 : Int32) {ls : Array Slot} (hl : lv_has ls 1 [(0, .int a0)]) : W p l e rmM_taken s m args below meth c s.heap [] 0 0 (MQ below (k2_QcV (.int (fM_taken a0))) args s 0 0 (fun _ => False)) (F0 m 0 ls []) := by
  obtain ⟨hx, hb, hr, hml, hown, hts, hlocks⟩ := id C
  refine lv_iload_n hx hb dM_taken_0 rfl (lv_at hl 0 rfl) ?_
  refine lv_sipush (v := 199) hx hb dM_taken_1 (by decide) ?_
  refine lv_icmp_le (tgt := 19) hx hb dM_taken_4 (by decide) (fun h1 => ?_) (fun h1 => ?_)
  · refine lv_iload_n hx hb dM_taken_19 rfl (lv_at hl 0 rfl) ?_
    by_cases h2 : a0 = 167
    · refine lv_tableIn (tgt := 156) hx hb dM_taken_20 (by rw [h2]; decide) (by rw [h2]; decide) (off := 136) (by rw [h2]; rfl) (by decide) ?_
      refine lv_iconst (v := 1) hx hb dM_taken_156 (by decide) ?_
      exact W.iret hx hb hr (fun t ht _ => ⟨by rw [(show fM_taken a0 = 1 by rw [fM_taken, if_pos h1, if_pos h2])], ht⟩) (fun q h => nomatch h) dM_taken_157
    by_cases h3 : a0 = 168
    · refine lv_tableIn (tgt := 158) hx hb dM_taken_20 (by rw [h3]; decide) (by rw [h3]; decide) (off := 138) (by rw [h3]; rfl) (by decide) ?_
      refine lv_iconst (v := 2) hx hb dM_taken_158 (by decide) ?_
      exact W.iret hx hb hr (fun t ht _ => ⟨by rw [(show fM_taken a0 = 2 by rw [fM_taken, if_pos h1, if_neg h2, if_pos h3])], ht⟩) (fun q h => nomatch h) dM_taken_159
    by_cases h4 : a0 = 169
    · refine lv_tableIn (tgt := 158) hx hb dM_taken_20 (by rw [h4]; decide) (by rw [h4]; decide) (off := 138) (by rw [h4]; rfl) (by decide) ?_
      refine lv_iconst (v := 2) hx hb dM_taken_158 (by decide) ?_
      exact W.iret hx hb hr (fun t ht _ => ⟨by rw [(show fM_taken a0 = 2 by rw [fM_taken, if_pos h1, if_neg h2, if_neg h3, if_pos h4])], ht⟩) (fun q h => nomatch h) dM_taken_159
    by_cases h5 : a0 = 170
    · refine lv_tableIn (tgt := 160) hx hb dM_taken_20 (by rw [h5]; decide) (by rw [h5]; decide) (off := 140) (by rw [h5]; rfl) (by decide) ?_
      refine lv_iconst (v := 3) hx hb dM_taken_160 (by decide) ?_
      exact W.iret hx hb hr (fun t ht _ => ⟨by rw [(show fM_taken a0 = 3 by rw [fM_taken, if_pos h1, if_neg h2, if_neg h3, if_neg h4, if_pos h5])], ht⟩) (fun q h => nomatch h) dM_taken_161
    by_cases h6 : a0 = 171
    · refine lv_tableIn (tgt := 160) hx hb dM_taken_20 (by rw [h6]; decide) (by rw [h6]; decide) (off := 140) (by rw [h6]; rfl) (by decide) ?_
      refine lv_iconst (v := 3) hx hb dM_taken_160 (by decide) ?_
      exact W.iret hx hb hr (fun t ht _ => ⟨by rw [(show fM_taken a0 = 3 by rw [fM_taken, if_pos h1, if_neg h2, if_neg h3, if_neg h4, if_neg h5, if_pos h6])], ht⟩) (fun q h => nomatch h) dM_taken_161
    by_cases h7 : a0 = 174
    · refine lv_tableIn (tgt := 158) hx hb dM_taken_20 (by rw [h7]; decide) (by rw [h7]; decide) (off := 138) (by rw [h7]; rfl) (by decide) ?_
      refine lv_iconst (v := 2) hx hb dM_taken_158 (by decide) ?_
      exact W.iret hx hb hr (fun t ht _ => ⟨by rw [(show fM_taken a0 = 2 by rw [fM_taken, if_pos h1, if_neg h2, if_neg h3, if_neg h4, if_neg h5, if_neg h6, if_pos h7])], ht⟩) (fun q h => nomatch h) dM_taken_159
    by_cases h8 : a0 = 175
    · refine lv_tableIn (tgt := 158) hx hb dM_taken_20 (by rw [h8]; decide) (by rw [h8]; decide) (off := 138) (by rw [h8]; rfl) (by decide) ?_
      refine lv_iconst (v := 2) hx hb dM_taken_158 (by decide) ?_
      exact W.iret hx hb hr (fun t ht _ => ⟨by rw [(show fM_taken a0 = 2 by rw [fM_taken, if_pos h1, if_neg h2, if_neg h3, if_neg h4, if_neg h5, if_neg h6, if_neg h7, if_pos h8])], ht⟩) (fun q h => nomatch h) dM_taken_159
    by_cases h9 : a0 = 176
    · refine lv_tableIn (tgt := 160) hx hb dM_taken_20 (by rw [h9]; decide) (by rw [h9]; decide) (off := 140) (by rw [h9]; rfl) (by decide) ?_
      refine lv_iconst (v := 3) hx hb dM_taken_160 (by decide) ?_
      exact W.iret hx hb hr (fun t ht _ => ⟨by rw [(show fM_taken a0 = 3 by rw [fM_taken, if_pos h1, if_neg h2, if_neg h3, if_neg h4, if_neg h5, if_neg h6, if_neg h7, if_neg h8, if_pos h9])], ht⟩) (fun q h => nomatch h) dM_taken_161
    by_cases h10 : a0 = 177
    · refine lv_tableIn (tgt := 160) hx hb dM_taken_20 (by rw [h10]; decide) (by rw [h10]; decide) (off := 140) (by rw [h10]; rfl) (by decide) ?_
      refine lv_iconst (v := 3) hx hb dM_taken_160 (by decide) ?_
      exact W.iret hx hb hr (fun t ht _ => ⟨by rw [(show fM_taken a0 = 3 by rw [fM_taken, if_pos h1, if_neg h2, if_neg h3, if_neg h4, if_neg h5, if_neg h6, if_neg h7, if_neg h8, if_neg h9, if_pos h10])], ht⟩) (fun q h => nomatch h) dM_taken_161
    by_cases h11 : a0 = 180
    · refine lv_tableIn (tgt := 156) hx hb dM_taken_20 (by rw [h11]; decide) (by rw [h11]; decide) (off := 136) (by rw [h11]; rfl) (by decide) ?_
      refine lv_iconst (v := 1) hx hb dM_taken_156 (by decide) ?_
      exact W.iret hx hb hr (fun t ht _ => ⟨by rw [(show fM_taken a0 = 1 by rw [fM_taken, if_pos h1, if_neg h2, if_neg h3, if_neg h4, if_neg h5, if_neg h6, if_neg h7, if_neg h8, if_neg h9, if_neg h10, if_pos h11])], ht⟩) (fun q h => nomatch h) dM_taken_157
    by_cases h12 : a0 = 181
    · refine lv_tableIn (tgt := 156) hx hb dM_taken_20 (by rw [h12]; decide) (by rw [h12]; decide) (off := 136) (by rw [h12]; rfl) (by decide) ?_
      refine lv_iconst (v := 1) hx hb dM_taken_156 (by decide) ?_
      exact W.iret hx hb hr (fun t ht _ => ⟨by rw [(show fM_taken a0 = 1 by rw [fM_taken, if_pos h1, if_neg h2, if_neg h3, if_neg h4, if_neg h5, if_neg h6, if_neg h7, if_neg h8, if_neg h9, if_neg h10, if_neg h11, if_pos h12])], ht⟩) (fun q h => nomatch h) dM_taken_157
    by_cases h13 : a0 = 182
    · refine lv_tableIn (tgt := 160) hx hb dM_taken_20 (by rw [h13]; decide) (by rw [h13]; decide) (off := 140) (by rw [h13]; rfl) (by decide) ?_
      refine lv_iconst (v := 3) hx hb dM_taken_160 (by decide) ?_
      exact W.iret hx hb hr (fun t ht _ => ⟨by rw [(show fM_taken a0 = 3 by rw [fM_taken, if_pos h1, if_neg h2, if_neg h3, if_neg h4, if_neg h5, if_neg h6, if_neg h7, if_neg h8, if_neg h9, if_neg h10, if_neg h11, if_neg h12, if_pos h13])], ht⟩) (fun q h => nomatch h) dM_taken_161
    by_cases h14 : a0 = 185
    · refine lv_tableIn (tgt := 156) hx hb dM_taken_20 (by rw [h14]; decide) (by rw [h14]; decide) (off := 136) (by rw [h14]; rfl) (by decide) ?_
      refine lv_iconst (v := 1) hx hb dM_taken_156 (by decide) ?_
      exact W.iret hx hb hr (fun t ht _ => ⟨by rw [(show fM_taken a0 = 1 by rw [fM_taken, if_pos h1, if_neg h2, if_neg h3, if_neg h4, if_neg h5, if_neg h6, if_neg h7, if_neg h8, if_neg h9, if_neg h10, if_neg h11, if_neg h12, if_neg h13, if_pos h14])], ht⟩) (fun q h => nomatch h) dM_taken_157
    by_cases h15 : a0 = 186
    · refine lv_tableIn (tgt := 156) hx hb dM_taken_20 (by rw [h15]; decide) (by rw [h15]; decide) (off := 136) (by rw [h15]; rfl) (by decide) ?_
      refine lv_iconst (v := 1) hx hb dM_taken_156 (by decide) ?_
      exact W.iret hx hb hr (fun t ht _ => ⟨by rw [(show fM_taken a0 = 1 by rw [fM_taken, if_pos h1, if_neg h2, if_neg h3, if_neg h4, if_neg h5, if_neg h6, if_neg h7, if_neg h8, if_neg h9, if_neg h10, if_neg h11, if_neg h12, if_neg h13, if_neg h14, if_pos h15])], ht⟩) (fun q h => nomatch h) dM_taken_157
    by_cases h16 : a0 = 187
    · refine lv_tableIn (tgt := 158) hx hb dM_taken_20 (by rw [h16]; decide) (by rw [h16]; decide) (off := 138) (by rw [h16]; rfl) (by decide) ?_
      refine lv_iconst (v := 2) hx hb dM_taken_158 (by decide) ?_
      exact W.iret hx hb hr (fun t ht _ => ⟨by rw [(show fM_taken a0 = 2 by rw [fM_taken, if_pos h1, if_neg h2, if_neg h3, if_neg h4, if_neg h5, if_neg h6, if_neg h7, if_neg h8, if_neg h9, if_neg h10, if_neg h11, if_neg h12, if_neg h13, if_neg h14, if_neg h15, if_pos h16])], ht⟩) (fun q h => nomatch h) dM_taken_159
    by_cases h17 : a0 = 188
    · refine lv_tableIn (tgt := 158) hx hb dM_taken_20 (by rw [h17]; decide) (by rw [h17]; decide) (off := 138) (by rw [h17]; rfl) (by decide) ?_
      refine lv_iconst (v := 2) hx hb dM_taken_158 (by decide) ?_
      exact W.iret hx hb hr (fun t ht _ => ⟨by rw [(show fM_taken a0 = 2 by rw [fM_taken, if_pos h1, if_neg h2, if_neg h3, if_neg h4, if_neg h5, if_neg h6, if_neg h7, if_neg h8, if_neg h9, if_neg h10, if_neg h11, if_neg h12, if_neg h13, if_neg h14, if_neg h15, if_neg h16, if_pos h17])], ht⟩) (fun q h => nomatch h) dM_taken_159
    by_cases h18 : a0 = 189
    · refine lv_tableIn (tgt := 160) hx hb dM_taken_20 (by rw [h18]; decide) (by rw [h18]; decide) (off := 140) (by rw [h18]; rfl) (by decide) ?_
      refine lv_iconst (v := 3) hx hb dM_taken_160 (by decide) ?_
      exact W.iret hx hb hr (fun t ht _ => ⟨by rw [(show fM_taken a0 = 3 by rw [fM_taken, if_pos h1, if_neg h2, if_neg h3, if_neg h4, if_neg h5, if_neg h6, if_neg h7, if_neg h8, if_neg h9, if_neg h10, if_neg h11, if_neg h12, if_neg h13, if_neg h14, if_neg h15, if_neg h16, if_neg h17, if_pos h18])], ht⟩) (fun q h => nomatch h) dM_taken_161
    by_cases h19 : a0 = 191
    · refine lv_tableIn (tgt := 156) hx hb dM_taken_20 (by rw [h19]; decide) (by rw [h19]; decide) (off := 136) (by rw [h19]; rfl) (by decide) ?_
      refine lv_iconst (v := 1) hx hb dM_taken_156 (by decide) ?_
      exact W.iret hx hb hr (fun t ht _ => ⟨by rw [(show fM_taken a0 = 1 by rw [fM_taken, if_pos h1, if_neg h2, if_neg h3, if_neg h4, if_neg h5, if_neg h6, if_neg h7, if_neg h8, if_neg h9, if_neg h10, if_neg h11, if_neg h12, if_neg h13, if_neg h14, if_neg h15, if_neg h16, if_neg h17, if_neg h18, if_pos h19])], ht⟩) (fun q h => nomatch h) dM_taken_157
    by_cases h20 : a0 = 194
    · refine lv_tableIn (tgt := 156) hx hb dM_taken_20 (by rw [h20]; decide) (by rw [h20]; decide) (off := 136) (by rw [h20]; rfl) (by decide) ?_
      refine lv_iconst (v := 1) hx hb dM_taken_156 (by decide) ?_
      exact W.iret hx hb hr (fun t ht _ => ⟨by rw [(show fM_taken a0 = 1 by rw [fM_taken, if_pos h1, if_neg h2, if_neg h3, if_neg h4, if_neg h5, if_neg h6, if_neg h7, if_neg h8, if_neg h9, if_neg h10, if_neg h11, if_neg h12, if_neg h13, if_neg h14, if_neg h15, if_neg h16, if_neg h17, if_neg h18, if_neg h19, if_pos h20])], ht⟩) (fun q h => nomatch h) dM_taken_157
    by_cases h21 : a0 = 195
    · refine lv_tableIn (tgt := 156) hx hb dM_taken_20 (by rw [h21]; decide) (by rw [h21]; decide) (off := 136) (by rw [h21]; rfl) (by decide) ?_
      refine lv_iconst (v := 1) hx hb dM_taken_156 (by decide) ?_
      exact W.iret hx hb hr (fun t ht _ => ⟨by rw [(show fM_taken a0 = 1 by rw [fM_taken, if_pos h1, if_neg h2, if_neg h3, if_neg h4, if_neg h5, if_neg h6, if_neg h7, if_neg h8, if_neg h9, if_neg h10, if_neg h11, if_neg h12, if_neg h13, if_neg h14, if_neg h15, if_neg h16, if_neg h17, if_neg h18, if_neg h19, if_neg h20, if_pos h21])], ht⟩) (fun q h => nomatch h) dM_taken_157
    by_cases h22 : a0 = 196
    · refine lv_tableIn (tgt := 156) hx hb dM_taken_20 (by rw [h22]; decide) (by rw [h22]; decide) (off := 136) (by rw [h22]; rfl) (by decide) ?_
      refine lv_iconst (v := 1) hx hb dM_taken_156 (by decide) ?_
      exact W.iret hx hb hr (fun t ht _ => ⟨by rw [(show fM_taken a0 = 1 by rw [fM_taken, if_pos h1, if_neg h2, if_neg h3, if_neg h4, if_neg h5, if_neg h6, if_neg h7, if_neg h8, if_neg h9, if_neg h10, if_neg h11, if_neg h12, if_neg h13, if_neg h14, if_neg h15, if_neg h16, if_neg h17, if_neg h18, if_neg h19, if_neg h20, if_neg h21, if_pos h22])], ht⟩) (fun q h => nomatch h) dM_taken_157
    refine pw_tableD (tgt := 162) hx hb dM_taken_20 ?_ (by decide) ?_
    · have th2 := lv_neT h2 (a := 167) (by decide)
      have th3 := lv_neT h3 (a := 168) (by decide)
      have th4 := lv_neT h4 (a := 169) (by decide)
      have th5 := lv_neT h5 (a := 170) (by decide)
      have th6 := lv_neT h6 (a := 171) (by decide)
      have th7 := lv_neT h7 (a := 174) (by decide)
      have th8 := lv_neT h8 (a := 175) (by decide)
      have th9 := lv_neT h9 (a := 176) (by decide)
      have th10 := lv_neT h10 (a := 177) (by decide)
      have th11 := lv_neT h11 (a := 180) (by decide)
      have th12 := lv_neT h12 (a := 181) (by decide)
      have th13 := lv_neT h13 (a := 182) (by decide)
      have th14 := lv_neT h14 (a := 185) (by decide)
      have th15 := lv_neT h15 (a := 186) (by decide)
      have th16 := lv_neT h16 (a := 187) (by decide)
      have th17 := lv_neT h17 (a := 188) (by decide)
      have th18 := lv_neT h18 (a := 189) (by decide)
      have th19 := lv_neT h19 (a := 191) (by decide)
      have th20 := lv_neT h20 (a := 194) (by decide)
      have th21 := lv_neT h21 (a := 195) (by decide)
      have th22 := lv_neT h22 (a := 196) (by decide)
      by_cases q0 : a0.toInt = 172
      · exact Or.inr (Or.inr (by rw [q0]; rfl))
      by_cases q1 : a0.toInt = 173
      · exact Or.inr (Or.inr (by rw [q1]; rfl))
      by_cases q2 : a0.toInt = 178
      · exact Or.inr (Or.inr (by rw [q2]; rfl))
      by_cases q3 : a0.toInt = 179
      · exact Or.inr (Or.inr (by rw [q3]; rfl))
      by_cases q4 : a0.toInt = 183
      · exact Or.inr (Or.inr (by rw [q4]; rfl))
      by_cases q5 : a0.toInt = 184
      · exact Or.inr (Or.inr (by rw [q5]; rfl))
      by_cases q6 : a0.toInt = 190
      · exact Or.inr (Or.inr (by rw [q6]; rfl))
      by_cases q7 : a0.toInt = 192
      · exact Or.inr (Or.inr (by rw [q7]; rfl))
      by_cases q8 : a0.toInt = 193
      · exact Or.inr (Or.inr (by rw [q8]; rfl))
      exact (show a0.toInt < 167 ∨ 196 < a0.toInt by omega).elim Or.inl (fun q => Or.inr (Or.inl q))
    refine lv_iconst (v := 0) hx hb dM_taken_162 (by decide) ?_
    exact W.iret hx hb hr (fun t ht _ => ⟨by rw [(show fM_taken a0 = 0 by rw [fM_taken, if_pos h1, if_neg h2, if_neg h3, if_neg h4, if_neg h5, if_neg h6, if_neg h7, if_neg h8, if_neg h9, if_neg h10, if_neg h11, if_neg h12, if_neg h13, if_neg h14, if_neg h15, if_neg h16, if_neg h17, if_neg h18, if_neg h19, if_neg h20, if_neg h21, if_neg h22])], ht⟩) (fun q h => nomatch h) dM_taken_163
  · refine lv_iload_n hx hb dM_taken_7 rfl (lv_at hl 0 rfl) ?_
    refine lv_iconst (v := 2) hx hb dM_taken_8 (by decide) ?_
    refine lv_iand hx hb dM_taken_9 ?_
    refine lv_if_ne (tgt := 17) hx hb dM_taken_10 (by decide) (fun h23 => ?_) (fun h23 => ?_)
    · refine lv_iconst (v := 3) hx hb dM_taken_17 (by decide) ?_
      exact W.iret hx hb hr (fun t ht _ => ⟨by rw [(show fM_taken a0 = 3 by rw [fM_taken, if_neg h1, if_neg h23])], ht⟩) (fun q h => nomatch h) dM_taken_18
    · refine lv_iconst (v := 2) hx hb dM_taken_13 (by decide) ?_
      refine lv_goto (tgt := 18) hx hb dM_taken_14 (by decide) ?_
      exact W.iret hx hb hr (fun t ht _ => ⟨by rw [(show fM_taken a0 = 2 by rw [fM_taken, if_neg h1, if_pos h23])], ht⟩) (fun q h => nomatch h) dM_taken_18
set_option maxHeartbeats 4000000 in
set_option maxRecDepth 100000 in
theorem qM_taken (l : Launch) (a0 : Int32) : Met l yM_taken wsM_taken rmM_taken (va_Pc [.int a0] (fun _ => True)) (k2_QcV (.int (fM_taken a0))) 0 0 (fun _ => False) := by
  refine Met.ofW (cc := cM_taken) (maxL := 1) (ret := (some .int)) (by decide) rfl ?_
  intro p e s m args below meth c s₁ B hml hv
  obtain ⟨rfl, hG⟩ := hv
  have hts0 := atoms_spec (ws := wsM_taken) B.pre
  have hts := fun (w : Cond) (h : w ∈ aw) => hts0 w (List.mem_cons_of_mem _ h)
  have hown : s.vm.findClass "BitNumbersModel" = some m.cls := findClass_of_methodNamed B.named
  have hl := lv_entry ([.int a0]) (n := 1) (Nat.le_of_ble_eq_true rfl)
  rw [lg_entry_eq]
  generalize (lg_sl ([.int a0]) ++ List.replicate (1 - (lg_sl ([.int a0])).length) Slot.unset).toArray = ls at hl ⊢
  exact kM_taken_0 ⟨B.exec, B.bytes, B.returns, hml, hown, hts, B.notSynchronized⟩ a0 hl

set_option maxHeartbeats 4000000 in
set_option maxRecDepth 100000 in
theorem kM_given_87 {p : Program} {l : Launch} {e : Env} {s : State} {m : MethodId} {args : Array Value} {below : List Frame} {meth : Method} {c : Code} (C : pw_C p s m args meth c cM_given 1 (some .int) "BitNumbersModel")  {ls : Array Slot} (hl : lv_has ls 1 []) : W p l e rmM_given s m args below meth c s.heap [] 0 0 (MQ below (k2_QcV (.int (fM_given_87))) args s 0 0 (fun _ => False)) (F0 m 87 ls []) := by
  obtain ⟨hx, hb, hr, hml, hown, hts, hlocks⟩ := id C
  refine lv_iconst (v := 2) hx hb dM_given_87 (by decide) ?_
  refine lv_goto (tgt := 92) hx hb dM_given_88 (by decide) ?_
  exact W.iret hx hb hr (fun t ht _ => ⟨by rw [(show fM_given_87 = 2 by rw [fM_given_87])], ht⟩) (fun q h => nomatch h) dM_given_92
set_option maxHeartbeats 4000000 in
set_option maxRecDepth 100000 in
theorem kM_given_71 {p : Program} {l : Launch} {e : Env} {s : State} {m : MethodId} {args : Array Value} {below : List Frame} {meth : Method} {c : Code} (C : pw_C p s m args meth c cM_given 1 (some .int) "BitNumbersModel")  {ls : Array Slot} (hl : lv_has ls 1 []) : W p l e rmM_given s m args below meth c s.heap [] 0 0 (MQ below (k2_QcV (.int (fM_given_71))) args s 0 0 (fun _ => False)) (F0 m 71 ls []) := by
  obtain ⟨hx, hb, hr, hml, hown, hts, hlocks⟩ := id C
  refine lv_iconst (v := 1) hx hb dM_given_71 (by decide) ?_
  exact W.iret hx hb hr (fun t ht _ => ⟨by rw [(show fM_given_71 = 1 by rw [fM_given_71])], ht⟩) (fun q h => nomatch h) dM_given_72
set_option maxHeartbeats 4000000 in
set_option maxRecDepth 100000 in
theorem kM_given_48 {p : Program} {l : Launch} {e : Env} {s : State} {m : MethodId} {args : Array Value} {below : List Frame} {meth : Method} {c : Code} (C : pw_C p s m args meth c cM_given 1 (some .int) "BitNumbersModel")  {ls : Array Slot} (hl : lv_has ls 1 []) : W p l e rmM_given s m args below meth c s.heap [] 0 0 (MQ below (k2_QcV (.int (fM_given_48))) args s 0 0 (fun _ => False)) (F0 m 48 ls []) := by
  obtain ⟨hx, hb, hr, hml, hown, hts, hlocks⟩ := id C
  refine lv_iconst (v := 0) hx hb dM_given_48 (by decide) ?_
  exact W.iret hx hb hr (fun t ht _ => ⟨by rw [(show fM_given_48 = 0 by rw [fM_given_48])], ht⟩) (fun q h => nomatch h) dM_given_49
set_option maxHeartbeats 4000000 in
set_option maxRecDepth 100000 in
theorem kM_given_0 {p : Program} {l : Launch} {e : Env} {s : State} {m : MethodId} {args : Array Value} {below : List Frame} {meth : Method} {c : Code} (C : pw_C p s m args meth c cM_given 1 (some .int) "BitNumbersModel") (a0 : Int32) {ls : Array Slot} (hl : lv_has ls 1 [(0, .int a0)]) : W p l e rmM_given s m args below meth c s.heap [] 0 0 (MQ below (k2_QcV (.int (fM_given a0))) args s 0 0 (fun _ => False)) (F0 m 0 ls []) := by
  obtain ⟨hx, hb, hr, hml, hown, hts, hlocks⟩ := id C
  refine lv_iload_n hx hb dM_given_0 rfl (lv_at hl 0 rfl) ?_
  refine lv_sipush (v := 199) hx hb dM_given_1 (by decide) ?_
  refine lv_icmp_le (tgt := 20) hx hb dM_given_4 (by decide) (fun h1 => ?_) (fun h1 => ?_)
  · refine lv_iload_n hx hb dM_given_20 rfl (lv_at hl 0 rfl) ?_
    refine lv_sipush (v := 172) hx hb dM_given_21 (by decide) ?_
    refine lv_icmp_lt (tgt := 48) hx hb dM_given_24 (by decide) (fun h2 => ?_) (fun h2 => ?_)
    · rw [(show fM_given a0 = fM_given_48 by rw [fM_given, if_pos h1, if_pos h2])]
      exact kM_given_48 C (lv_sub hl [] rfl)
    · refine lv_iload_n hx hb dM_given_27 rfl (lv_at hl 0 rfl) ?_
      refine lv_sipush (v := 188) hx hb dM_given_28 (by decide) ?_
      refine lv_icmp_eq (tgt := 48) hx hb dM_given_31 (by decide) (fun h3 => ?_) (fun h3 => ?_)
      · rw [(show fM_given a0 = fM_given_48 by rw [fM_given, if_pos h1, if_neg h2, if_pos h3])]
        exact kM_given_48 C (lv_sub hl [] rfl)
      · refine lv_iload_n hx hb dM_given_34 rfl (lv_at hl 0 rfl) ?_
        refine lv_sipush (v := 192) hx hb dM_given_35 (by decide) ?_
        refine lv_icmp_eq (tgt := 48) hx hb dM_given_38 (by decide) (fun h4 => ?_) (fun h4 => ?_)
        · rw [(show fM_given a0 = fM_given_48 by rw [fM_given, if_pos h1, if_neg h2, if_neg h3, if_pos h4])]
          exact kM_given_48 C (lv_sub hl [] rfl)
        · refine lv_iload_n hx hb dM_given_41 rfl (lv_at hl 0 rfl) ?_
          refine lv_sipush (v := 193) hx hb dM_given_42 (by decide) ?_
          refine lv_icmp_ne (tgt := 50) hx hb dM_given_45 (by decide) (fun h5 => ?_) (fun h5 => ?_)
          · refine lv_iload_n hx hb dM_given_50 rfl (lv_at hl 0 rfl) ?_
            refine lv_sipush (v := 178) hx hb dM_given_51 (by decide) ?_
            refine lv_icmp_lt (tgt := 71) hx hb dM_given_54 (by decide) (fun h6 => ?_) (fun h6 => ?_)
            · rw [(show fM_given a0 = fM_given_71 by rw [fM_given, if_pos h1, if_neg h2, if_neg h3, if_neg h4, if_neg h5, if_pos h6])]
              exact kM_given_71 C (lv_sub hl [] rfl)
            · refine lv_iload_n hx hb dM_given_57 rfl (lv_at hl 0 rfl) ?_
              refine lv_sipush (v := 189) hx hb dM_given_58 (by decide) ?_
              refine lv_icmp_eq (tgt := 71) hx hb dM_given_61 (by decide) (fun h7 => ?_) (fun h7 => ?_)
              · rw [(show fM_given a0 = fM_given_71 by rw [fM_given, if_pos h1, if_neg h2, if_neg h3, if_neg h4, if_neg h5, if_neg h6, if_pos h7])]
                exact kM_given_71 C (lv_sub hl [] rfl)
              · refine lv_iload_n hx hb dM_given_64 rfl (lv_at hl 0 rfl) ?_
                refine lv_sipush (v := 193) hx hb dM_given_65 (by decide) ?_
                refine lv_icmp_le (tgt := 73) hx hb dM_given_68 (by decide) (fun h8 => ?_) (fun h8 => ?_)
                · refine lv_iload_n hx hb dM_given_73 rfl (lv_at hl 0 rfl) ?_
                  refine lv_sipush (v := 183) hx hb dM_given_74 (by decide) ?_
                  refine lv_icmp_lt (tgt := 87) hx hb dM_given_77 (by decide) (fun h9 => ?_) (fun h9 => ?_)
                  · rw [(show fM_given a0 = fM_given_87 by rw [fM_given, if_pos h1, if_neg h2, if_neg h3, if_neg h4, if_neg h5, if_neg h6, if_neg h7, if_pos h8, if_pos h9])]
                    exact kM_given_87 C (lv_sub hl [] rfl)
                  · refine lv_iload_n hx hb dM_given_80 rfl (lv_at hl 0 rfl) ?_
                    refine lv_sipush (v := 190) hx hb dM_given_81 (by decide) ?_
                    refine lv_icmp_ne (tgt := 91) hx hb dM_given_84 (by decide) (fun h10 => ?_) (fun h10 => ?_)
                    · refine lv_iconst (v := 3) hx hb dM_given_91 (by decide) ?_
                      exact W.iret hx hb hr (fun t ht _ => ⟨by rw [(show fM_given a0 = 3 by rw [fM_given, if_pos h1, if_neg h2, if_neg h3, if_neg h4, if_neg h5, if_neg h6, if_neg h7, if_pos h8, if_neg h9, if_neg h10])], ht⟩) (fun q h => nomatch h) dM_given_92
                    · rw [(show fM_given a0 = fM_given_87 by rw [fM_given, if_pos h1, if_neg h2, if_neg h3, if_neg h4, if_neg h5, if_neg h6, if_neg h7, if_pos h8, if_neg h9, if_pos h10])]
                      exact kM_given_87 C (lv_sub hl [] rfl)
                · rw [(show fM_given a0 = fM_given_71 by rw [fM_given, if_pos h1, if_neg h2, if_neg h3, if_neg h4, if_neg h5, if_neg h6, if_neg h7, if_neg h8])]
                  exact kM_given_71 C (lv_sub hl [] rfl)
          · rw [(show fM_given a0 = fM_given_48 by rw [fM_given, if_pos h1, if_neg h2, if_neg h3, if_neg h4, if_pos h5])]
            exact kM_given_48 C (lv_sub hl [] rfl)
  · refine lv_iload_n hx hb dM_given_7 rfl (lv_at hl 0 rfl) ?_
    refine lv_sipush (v := 204) hx hb dM_given_8 (by decide) ?_
    refine lv_icmp_ge (tgt := 18) hx hb dM_given_11 (by decide) (fun h11 => ?_) (fun h11 => ?_)
    · refine lv_iconst (v := 1) hx hb dM_given_18 (by decide) ?_
      exact W.iret hx hb hr (fun t ht _ => ⟨by rw [(show fM_given a0 = 1 by rw [fM_given, if_neg h1, if_pos h11])], ht⟩) (fun q h => nomatch h) dM_given_19
    · refine lv_iconst (v := 0) hx hb dM_given_14 (by decide) ?_
      refine lv_goto (tgt := 19) hx hb dM_given_15 (by decide) ?_
      exact W.iret hx hb hr (fun t ht _ => ⟨by rw [(show fM_given a0 = 0 by rw [fM_given, if_neg h1, if_neg h11])], ht⟩) (fun q h => nomatch h) dM_given_19
set_option maxHeartbeats 4000000 in
set_option maxRecDepth 100000 in
theorem qM_given (l : Launch) (a0 : Int32) : Met l yM_given wsM_given rmM_given (va_Pc [.int a0] (fun _ => True)) (k2_QcV (.int (fM_given a0))) 0 0 (fun _ => False) := by
  refine Met.ofW (cc := cM_given) (maxL := 1) (ret := (some .int)) (by decide) rfl ?_
  intro p e s m args below meth c s₁ B hml hv
  obtain ⟨rfl, hG⟩ := hv
  have hts0 := atoms_spec (ws := wsM_given) B.pre
  have hts := fun (w : Cond) (h : w ∈ aw) => hts0 w (List.mem_cons_of_mem _ h)
  have hown : s.vm.findClass "BitNumbersModel" = some m.cls := findClass_of_methodNamed B.named
  have hl := lv_entry ([.int a0]) (n := 1) (Nat.le_of_ble_eq_true rfl)
  rw [lg_entry_eq]
  generalize (lg_sl ([.int a0]) ++ List.replicate (1 - (lg_sl ([.int a0])).length) Slot.unset).toArray = ls at hl ⊢
  exact kM_given_0 ⟨B.exec, B.bytes, B.returns, hml, hown, hts, B.notSynchronized⟩ a0 hl

set_option maxHeartbeats 4000000 in
set_option maxRecDepth 100000 in
theorem kM_operatorShape_198 {p : Program} {l : Launch} {e : Env} {s : State} {m : MethodId} {args : Array Value} {below : List Frame} {meth : Method} {c : Code} (C : pw_C p s m args meth c cM_operatorShape 1 (some .int) "BitNumbersModel") (s0 : Int32) (s1 : Int32) (s2 : Int32) {ls : Array Slot} (hl : lv_has ls 1 []) : W p l e rmM_operatorShape s m args below meth c s.heap [] 0 0 (MQ below (k2_QcV (.int (fM_operatorShape_198 s0 s1 s2))) args s 0 0 (fun _ => False)) (F0 m 198 ls [.int s0, .int s1, .int s2]) := by
  obtain ⟨hx, hb, hr, hml, hown, hts, hlocks⟩ := id C
  refine pw_call (va_runS (As := [.int s2, .int s1, .int s0]) (rest := []) ⟨hx, hb, hml, hown, hts⟩ (qM_shape l s2 s1 s0) (va_cwS 3 hts (gS w_553 w_554 w_34 w_555) rfl rfl rfl (by decide +kernel) ⟨Nat.le_of_ble_eq_true rfl, Nat.le_of_ble_eq_true rfl⟩) ⟨pw_bT, fun U hU hW => ⟨rfl, trivial⟩⟩ rfl rfl hl.1 rfl (lv_room (Nat.le_of_ble_eq_true rfl)) dM_operatorShape_198 ⟨Nat.zero_le _, Nat.zero_le _⟩) ?_
  exact W.iret hx hb hr (fun t ht _ => ⟨by rw [(show fM_operatorShape_198 s0 s1 s2 = fM_shape s2 s1 s0 by rw [fM_operatorShape_198])], ht⟩) (fun q h => nomatch h) dM_operatorShape_201
set_option maxHeartbeats 4000000 in
set_option maxRecDepth 100000 in
theorem kM_operatorShape_186 {p : Program} {l : Launch} {e : Env} {s : State} {m : MethodId} {args : Array Value} {below : List Frame} {meth : Method} {c : Code} (C : pw_C p s m args meth c cM_operatorShape 1 (some .int) "BitNumbersModel") (a0 : Int32) (s0 : Int32) (s1 : Int32) {ls : Array Slot} (hl : lv_has ls 1 [(0, .int a0)]) : W p l e rmM_operatorShape s m args below meth c s.heap [] 0 0 (MQ below (k2_QcV (.int (fM_operatorShape_186 a0 s0 s1))) args s 0 0 (fun _ => False)) (F0 m 186 ls [.int s0, .int s1]) := by
  obtain ⟨hx, hb, hr, hml, hown, hts, hlocks⟩ := id C
  refine lv_iload_n hx hb dM_operatorShape_186 rfl (lv_at hl 0 rfl) ?_
  refine lv_sipush (v := 153) hx hb dM_operatorShape_187 (by decide) ?_
  refine lv_icmp_ge (tgt := 197) hx hb dM_operatorShape_190 (by decide) (fun h1 => ?_) (fun h1 => ?_)
  · refine lv_iconst (v := 3) hx hb dM_operatorShape_197 (by decide) ?_
    rw [(show fM_operatorShape_186 a0 s0 s1 = fM_operatorShape_198 3 s0 s1 by rw [fM_operatorShape_186, if_pos h1])]
    exact kM_operatorShape_198 C 3 s0 s1 (lv_sub hl [] rfl)
  · refine lv_iconst (v := 2) hx hb dM_operatorShape_193 (by decide) ?_
    refine lv_goto (tgt := 198) hx hb dM_operatorShape_194 (by decide) ?_
    rw [(show fM_operatorShape_186 a0 s0 s1 = fM_operatorShape_198 2 s0 s1 by rw [fM_operatorShape_186, if_neg h1])]
    exact kM_operatorShape_198 C 2 s0 s1 (lv_sub hl [] rfl)
set_option maxHeartbeats 4000000 in
set_option maxRecDepth 100000 in
theorem kM_operatorShape_174 {p : Program} {l : Launch} {e : Env} {s : State} {m : MethodId} {args : Array Value} {below : List Frame} {meth : Method} {c : Code} (C : pw_C p s m args meth c cM_operatorShape 1 (some .int) "BitNumbersModel") (a0 : Int32) (s0 : Int32) {ls : Array Slot} (hl : lv_has ls 1 [(0, .int a0)]) : W p l e rmM_operatorShape s m args below meth c s.heap [] 0 0 (MQ below (k2_QcV (.int (fM_operatorShape_174 a0 s0))) args s 0 0 (fun _ => False)) (F0 m 174 ls [.int s0]) := by
  obtain ⟨hx, hb, hr, hml, hown, hts, hlocks⟩ := id C
  refine lv_iload_n hx hb dM_operatorShape_174 rfl (lv_at hl 0 rfl) ?_
  refine lv_sipush (v := 153) hx hb dM_operatorShape_175 (by decide) ?_
  refine lv_icmp_ge (tgt := 185) hx hb dM_operatorShape_178 (by decide) (fun h1 => ?_) (fun h1 => ?_)
  · refine lv_iconst (v := 3) hx hb dM_operatorShape_185 (by decide) ?_
    rw [(show fM_operatorShape_174 a0 s0 = fM_operatorShape_186 a0 3 s0 by rw [fM_operatorShape_174, if_pos h1])]
    exact kM_operatorShape_186 C a0 3 s0 (lv_sub hl [0] rfl)
  · refine lv_iconst (v := 2) hx hb dM_operatorShape_181 (by decide) ?_
    refine lv_goto (tgt := 186) hx hb dM_operatorShape_182 (by decide) ?_
    rw [(show fM_operatorShape_174 a0 s0 = fM_operatorShape_186 a0 2 s0 by rw [fM_operatorShape_174, if_neg h1])]
    exact kM_operatorShape_186 C a0 2 s0 (lv_sub hl [0] rfl)
set_option maxHeartbeats 4000000 in
set_option maxRecDepth 100000 in
theorem kM_operatorShape_145 {p : Program} {l : Launch} {e : Env} {s : State} {m : MethodId} {args : Array Value} {below : List Frame} {meth : Method} {c : Code} (C : pw_C p s m args meth c cM_operatorShape 1 (some .int) "BitNumbersModel") (s0 : Int32) (s1 : Int32) (s2 : Int32) (hzs0 : s0 = 0 ∨ s0 = 1) (hzs1 : s1 = 0 ∨ s1 = 1) {ls : Array Slot} (hl : lv_has ls 1 []) : W p l e rmM_operatorShape s m args below meth c s.heap [] 0 0 (MQ below (k2_QcV (.int (fM_operatorShape_145 s0 s1 s2))) args s 0 0 (fun _ => False)) (F0 m 145 ls [.int s0, .int s1, .int s2]) := by
  obtain ⟨hx, hb, hr, hml, hown, hts, hlocks⟩ := id C
  refine pw_call (va_runS (As := [.int s2, .int s1, .int s0]) (rest := []) ⟨hx, hb, hml, hown, hts⟩ (qM_shape l s2 s1 s0) (va_cwS 3 hts (gS w_553 w_554 w_34 w_555) rfl rfl rfl (by decide +kernel) ⟨Nat.le_of_ble_eq_true rfl, Nat.le_of_ble_eq_true rfl⟩) ⟨pw_bT, fun U hU hW => ⟨rfl, trivial⟩⟩ rfl rfl hl.1 rfl (lv_room (Nat.le_of_ble_eq_true rfl)) dM_operatorShape_145 ⟨Nat.zero_le _, Nat.zero_le _⟩) ?_
  exact W.iret hx hb hr (fun t ht _ => ⟨by rw [(show fM_operatorShape_145 s0 s1 s2 = fM_shape s2 s1 s0 by rw [fM_operatorShape_145])], ht⟩) (fun q h => nomatch h) dM_operatorShape_148
set_option maxHeartbeats 4000000 in
set_option maxRecDepth 100000 in
theorem kM_operatorShape_134 {p : Program} {l : Launch} {e : Env} {s : State} {m : MethodId} {args : Array Value} {below : List Frame} {meth : Method} {c : Code} (C : pw_C p s m args meth c cM_operatorShape 1 (some .int) "BitNumbersModel") (a0 : Int32) (s0 : Int32) (s1 : Int32) (hzs0 : s0 = 0 ∨ s0 = 1) {ls : Array Slot} (hl : lv_has ls 1 [(0, .int a0)]) : W p l e rmM_operatorShape s m args below meth c s.heap [] 0 0 (MQ below (k2_QcV (.int (fM_operatorShape_134 a0 s0 s1))) args s 0 0 (fun _ => False)) (F0 m 134 ls [.int s0, .int s1]) := by
  obtain ⟨hx, hb, hr, hml, hown, hts, hlocks⟩ := id C
  refine lv_iload_n hx hb dM_operatorShape_134 rfl (lv_at hl 0 rfl) ?_
  refine lv_bipush (v := 121) hx hb dM_operatorShape_135 (by decide) ?_
  refine lv_icmp_ge (tgt := 144) hx hb dM_operatorShape_137 (by decide) (fun h1 => ?_) (fun h1 => ?_)
  · refine lv_iconst (v := 1) hx hb dM_operatorShape_144 (by decide) ?_
    rw [(show fM_operatorShape_134 a0 s0 s1 = fM_operatorShape_145 1 s0 s1 by rw [fM_operatorShape_134, if_pos h1])]
    exact kM_operatorShape_145 C 1 s0 s1 (Or.inr rfl) hzs0 (lv_sub hl [] rfl)
  · refine lv_iconst (v := 0) hx hb dM_operatorShape_140 (by decide) ?_
    refine lv_goto (tgt := 145) hx hb dM_operatorShape_141 (by decide) ?_
    rw [(show fM_operatorShape_134 a0 s0 s1 = fM_operatorShape_145 0 s0 s1 by rw [fM_operatorShape_134, if_neg h1])]
    exact kM_operatorShape_145 C 0 s0 s1 (Or.inl rfl) hzs0 (lv_sub hl [] rfl)
set_option maxHeartbeats 4000000 in
set_option maxRecDepth 100000 in
theorem kM_operatorShape_123 {p : Program} {l : Launch} {e : Env} {s : State} {m : MethodId} {args : Array Value} {below : List Frame} {meth : Method} {c : Code} (C : pw_C p s m args meth c cM_operatorShape 1 (some .int) "BitNumbersModel") (a0 : Int32) (s0 : Int32) {ls : Array Slot} (hl : lv_has ls 1 [(0, .int a0)]) : W p l e rmM_operatorShape s m args below meth c s.heap [] 0 0 (MQ below (k2_QcV (.int (fM_operatorShape_123 a0 s0))) args s 0 0 (fun _ => False)) (F0 m 123 ls [.int s0]) := by
  obtain ⟨hx, hb, hr, hml, hown, hts, hlocks⟩ := id C
  refine lv_iload_n hx hb dM_operatorShape_123 rfl (lv_at hl 0 rfl) ?_
  refine lv_bipush (v := 121) hx hb dM_operatorShape_124 (by decide) ?_
  refine lv_icmp_ge (tgt := 133) hx hb dM_operatorShape_126 (by decide) (fun h1 => ?_) (fun h1 => ?_)
  · refine lv_iconst (v := 1) hx hb dM_operatorShape_133 (by decide) ?_
    rw [(show fM_operatorShape_123 a0 s0 = fM_operatorShape_134 a0 1 s0 by rw [fM_operatorShape_123, if_pos h1])]
    exact kM_operatorShape_134 C a0 1 s0 (Or.inr rfl) (lv_sub hl [0] rfl)
  · refine lv_iconst (v := 0) hx hb dM_operatorShape_129 (by decide) ?_
    refine lv_goto (tgt := 134) hx hb dM_operatorShape_130 (by decide) ?_
    rw [(show fM_operatorShape_123 a0 s0 = fM_operatorShape_134 a0 0 s0 by rw [fM_operatorShape_123, if_neg h1])]
    exact kM_operatorShape_134 C a0 0 s0 (Or.inl rfl) (lv_sub hl [0] rfl)
set_option maxHeartbeats 4000000 in
set_option maxRecDepth 100000 in
theorem kM_operatorShape_95 {p : Program} {l : Launch} {e : Env} {s : State} {m : MethodId} {args : Array Value} {below : List Frame} {meth : Method} {c : Code} (C : pw_C p s m args meth c cM_operatorShape 1 (some .int) "BitNumbersModel") (s0 : Int32) (s1 : Int32) {ls : Array Slot} (hl : lv_has ls 1 []) : W p l e rmM_operatorShape s m args below meth c s.heap [] 0 0 (MQ below (k2_QcV (.int (fM_operatorShape_95 s0 s1))) args s 0 0 (fun _ => False)) (F0 m 95 ls [.int s0, .int s1]) := by
  obtain ⟨hx, hb, hr, hml, hown, hts, hlocks⟩ := id C
  refine lv_iconst (v := 0) hx hb dM_operatorShape_95 (by decide) ?_
  refine pw_call (va_runS (As := [.int s1, .int s0, .int 0]) (rest := []) ⟨hx, hb, hml, hown, hts⟩ (qM_shape l s1 s0 0) (va_cwS 3 hts (gS w_553 w_554 w_34 w_555) rfl rfl rfl (by decide +kernel) ⟨Nat.le_of_ble_eq_true rfl, Nat.le_of_ble_eq_true rfl⟩) ⟨pw_bT, fun U hU hW => ⟨rfl, trivial⟩⟩ rfl rfl hl.1 rfl (lv_room (Nat.le_of_ble_eq_true rfl)) dM_operatorShape_96 ⟨Nat.zero_le _, Nat.zero_le _⟩) ?_
  exact W.iret hx hb hr (fun t ht _ => ⟨by rw [(show fM_operatorShape_95 s0 s1 = fM_shape s1 s0 0 by rw [fM_operatorShape_95])], ht⟩) (fun q h => nomatch h) dM_operatorShape_99
set_option maxHeartbeats 4000000 in
set_option maxRecDepth 100000 in
theorem kM_operatorShape_52 {p : Program} {l : Launch} {e : Env} {s : State} {m : MethodId} {args : Array Value} {below : List Frame} {meth : Method} {c : Code} (C : pw_C p s m args meth c cM_operatorShape 1 (some .int) "BitNumbersModel") (s0 : Int32) {ls : Array Slot} (hl : lv_has ls 1 []) : W p l e rmM_operatorShape s m args below meth c s.heap [] 0 0 (MQ below (k2_QcV (.int (fM_operatorShape_52 s0))) args s 0 0 (fun _ => False)) (F0 m 52 ls [.int s0]) := by
  obtain ⟨hx, hb, hr, hml, hown, hts, hlocks⟩ := id C
  refine lv_iconst (v := 0) hx hb dM_operatorShape_52 (by decide) ?_
  refine lv_iconst (v := 0) hx hb dM_operatorShape_53 (by decide) ?_
  refine pw_call (va_runS (As := [.int s0, .int 0, .int 0]) (rest := []) ⟨hx, hb, hml, hown, hts⟩ (qM_shape l s0 0 0) (va_cwS 3 hts (gS w_553 w_554 w_34 w_555) rfl rfl rfl (by decide +kernel) ⟨Nat.le_of_ble_eq_true rfl, Nat.le_of_ble_eq_true rfl⟩) ⟨pw_bT, fun U hU hW => ⟨rfl, trivial⟩⟩ rfl rfl hl.1 rfl (lv_room (Nat.le_of_ble_eq_true rfl)) dM_operatorShape_54 ⟨Nat.zero_le _, Nat.zero_le _⟩) ?_
  refine lv_goto (tgt := 66) hx hb dM_operatorShape_57 (by decide) ?_
  exact W.iret hx hb hr (fun t ht _ => ⟨by rw [(show fM_operatorShape_52 s0 = fM_shape s0 0 0 by rw [fM_operatorShape_52])], ht⟩) (fun q h => nomatch h) dM_operatorShape_66
set_option maxHeartbeats 4000000 in
set_option maxRecDepth 100000 in
theorem kM_operatorShape_29 {p : Program} {l : Launch} {e : Env} {s : State} {m : MethodId} {args : Array Value} {below : List Frame} {meth : Method} {c : Code} (C : pw_C p s m args meth c cM_operatorShape 1 (some .int) "BitNumbersModel") (a0 : Int32) {ls : Array Slot} (hl : lv_has ls 1 [(0, .int a0)]) : W p l e rmM_operatorShape s m args below meth c s.heap [] 0 0 (MQ below (k2_QcV (.int (fM_operatorShape_29 a0))) args s 0 0 (fun _ => False)) (F0 m 29 ls []) := by
  obtain ⟨hx, hb, hr, hml, hown, hts, hlocks⟩ := id C
  refine lv_iload_n hx hb dM_operatorShape_29 rfl (lv_at hl 0 rfl) ?_
  refine lv_bipush (v := 81) hx hb dM_operatorShape_30 (by decide) ?_
  refine lv_icmp_ge (tgt := 67) hx hb dM_operatorShape_32 (by decide) (fun h1 => ?_) (fun h1 => ?_)
  · refine lv_iload_n hx hb dM_operatorShape_67 rfl (lv_at hl 0 rfl) ?_
    refine lv_bipush (v := 103) hx hb dM_operatorShape_68 (by decide) ?_
    refine lv_icmp_ge (tgt := 100) hx hb dM_operatorShape_70 (by decide) (fun h2 => ?_) (fun h2 => ?_)
    · refine lv_iload_n hx hb dM_operatorShape_100 rfl (lv_at hl 0 rfl) ?_
      refine lv_sipush (v := 139) hx hb dM_operatorShape_101 (by decide) ?_
      refine lv_icmp_ge (tgt := 149) hx hb dM_operatorShape_104 (by decide) (fun h3 => ?_) (fun h3 => ?_)
      · refine lv_iload_n hx hb dM_operatorShape_149 rfl (lv_at hl 0 rfl) ?_
        refine lv_sipush (v := 167) hx hb dM_operatorShape_150 (by decide) ?_
        refine lv_icmp_ge (tgt := 202) hx hb dM_operatorShape_153 (by decide) (fun h4 => ?_) (fun h4 => ?_)
        · refine lv_iconst (v := 1) hx hb dM_operatorShape_202 (by decide) ?_
          refine lv_iload_n hx hb dM_operatorShape_203 rfl (lv_at hl 0 rfl) ?_
          refine pw_call (va_runS (As := [.int a0]) (rest := [.int 1]) ⟨hx, hb, hml, hown, hts⟩ (qM_taken l a0) (va_cwS 1 hts (gS w_556 w_557 w_34 w_558) rfl rfl rfl (by decide +kernel) ⟨Nat.le_of_ble_eq_true rfl, Nat.le_of_ble_eq_true rfl⟩) ⟨pw_bT, fun U hU hW => ⟨rfl, trivial⟩⟩ rfl rfl hl.1 rfl (lv_room (Nat.le_of_ble_eq_true rfl)) dM_operatorShape_204 ⟨Nat.zero_le _, Nat.zero_le _⟩) ?_
          refine lv_iload_n hx hb dM_operatorShape_207 rfl (lv_at hl 0 rfl) ?_
          refine pw_call (va_runS (As := [.int a0]) (rest := [.int (fM_taken a0), .int 1]) ⟨hx, hb, hml, hown, hts⟩ (qM_given l a0) (va_cwS 1 hts (gS w_559 w_560 w_34 w_561) rfl rfl rfl (by decide +kernel) ⟨Nat.le_of_ble_eq_true rfl, Nat.le_of_ble_eq_true rfl⟩) ⟨pw_bT, fun U hU hW => ⟨rfl, trivial⟩⟩ rfl rfl hl.1 rfl (lv_room (Nat.le_of_ble_eq_true rfl)) dM_operatorShape_208 ⟨Nat.zero_le _, Nat.zero_le _⟩) ?_
          refine pw_call (va_runS (As := [.int 1, .int (fM_taken a0), .int (fM_given a0)]) (rest := []) ⟨hx, hb, hml, hown, hts⟩ (qM_shape l 1 (fM_taken a0) (fM_given a0)) (va_cwS 3 hts (gS w_553 w_554 w_34 w_555) rfl rfl rfl (by decide +kernel) ⟨Nat.le_of_ble_eq_true rfl, Nat.le_of_ble_eq_true rfl⟩) ⟨pw_bT, fun U hU hW => ⟨rfl, trivial⟩⟩ rfl rfl hl.1 rfl (lv_room (Nat.le_of_ble_eq_true rfl)) dM_operatorShape_211 ⟨Nat.zero_le _, Nat.zero_le _⟩) ?_
          exact W.iret hx hb hr (fun t ht _ => ⟨by rw [(show fM_operatorShape_29 a0 = fM_shape 1 (fM_taken a0) (fM_given a0) by rw [fM_operatorShape_29, if_pos h1, if_pos h2, if_pos h3, if_pos h4])], ht⟩) (fun q h => nomatch h) dM_operatorShape_214
        · refine lv_iload_n hx hb dM_operatorShape_156 rfl (lv_at hl 0 rfl) ?_
          refine lv_sipush (v := 139) hx hb dM_operatorShape_157 (by decide) ?_
          refine lv_isub hx hb dM_operatorShape_160 ?_
          refine lv_bipush (v := 14) hx hb dM_operatorShape_161 (by decide) ?_
          refine lv_irem hx hb dM_operatorShape_163 (by decide) ?_
          refine lv_bipush (v := 7) hx hb dM_operatorShape_164 (by decide) ?_
          refine lv_icmp_ge (tgt := 173) hx hb dM_operatorShape_166 (by decide) (fun h5 => ?_) (fun h5 => ?_)
          · refine lv_iconst (v := 2) hx hb dM_operatorShape_173 (by decide) ?_
            rw [(show fM_operatorShape_29 a0 = fM_operatorShape_174 a0 2 by rw [fM_operatorShape_29, if_pos h1, if_pos h2, if_pos h3, if_neg h4, if_pos h5])]
            exact kM_operatorShape_174 C a0 2 (lv_sub hl [0] rfl)
          · refine lv_iconst (v := 1) hx hb dM_operatorShape_169 (by decide) ?_
            refine lv_goto (tgt := 174) hx hb dM_operatorShape_170 (by decide) ?_
            rw [(show fM_operatorShape_29 a0 = fM_operatorShape_174 a0 1 by rw [fM_operatorShape_29, if_pos h1, if_pos h2, if_pos h3, if_neg h4, if_neg h5])]
            exact kM_operatorShape_174 C a0 1 (lv_sub hl [0] rfl)
      · refine lv_iload_n hx hb dM_operatorShape_107 rfl (lv_at hl 0 rfl) ?_
        refine lv_bipush (v := 103) hx hb dM_operatorShape_108 (by decide) ?_
        refine lv_isub hx hb dM_operatorShape_110 ?_
        refine lv_bipush (v := 18) hx hb dM_operatorShape_111 (by decide) ?_
        refine lv_irem hx hb dM_operatorShape_113 (by decide) ?_
        refine lv_iconst (v := 3) hx hb dM_operatorShape_114 (by decide) ?_
        refine lv_icmp_ge (tgt := 122) hx hb dM_operatorShape_115 (by decide) (fun h6 => ?_) (fun h6 => ?_)
        · refine lv_iconst (v := 2) hx hb dM_operatorShape_122 (by decide) ?_
          rw [(show fM_operatorShape_29 a0 = fM_operatorShape_123 a0 2 by rw [fM_operatorShape_29, if_pos h1, if_pos h2, if_neg h3, if_pos h6])]
          exact kM_operatorShape_123 C a0 2 (lv_sub hl [0] rfl)
        · refine lv_iconst (v := 1) hx hb dM_operatorShape_118 (by decide) ?_
          refine lv_goto (tgt := 123) hx hb dM_operatorShape_119 (by decide) ?_
          rw [(show fM_operatorShape_29 a0 = fM_operatorShape_123 a0 1 by rw [fM_operatorShape_29, if_pos h1, if_pos h2, if_neg h3, if_neg h6])]
          exact kM_operatorShape_123 C a0 1 (lv_sub hl [0] rfl)
    · refine lv_iconst (v := 2) hx hb dM_operatorShape_73 (by decide) ?_
      refine lv_iload_n hx hb dM_operatorShape_74 rfl (lv_at hl 0 rfl) ?_
      refine lv_bipush (v := 91) hx hb dM_operatorShape_75 (by decide) ?_
      refine lv_icmp_ge (tgt := 84) hx hb dM_operatorShape_77 (by decide) (fun h7 => ?_) (fun h7 => ?_)
      · refine lv_iload_n hx hb dM_operatorShape_84 rfl (lv_at hl 0 rfl) ?_
        refine lv_bipush (v := 97) hx hb dM_operatorShape_85 (by decide) ?_
        refine lv_icmp_ge (tgt := 94) hx hb dM_operatorShape_87 (by decide) (fun h8 => ?_) (fun h8 => ?_)
        · refine lv_iconst (v := 3) hx hb dM_operatorShape_94 (by decide) ?_
          rw [(show fM_operatorShape_29 a0 = fM_operatorShape_95 3 2 by rw [fM_operatorShape_29, if_pos h1, if_neg h2, if_pos h7, if_pos h8])]
          exact kM_operatorShape_95 C 3 2 (lv_sub hl [] rfl)
        · refine lv_iconst (v := 2) hx hb dM_operatorShape_90 (by decide) ?_
          refine lv_goto (tgt := 95) hx hb dM_operatorShape_91 (by decide) ?_
          rw [(show fM_operatorShape_29 a0 = fM_operatorShape_95 2 2 by rw [fM_operatorShape_29, if_pos h1, if_neg h2, if_pos h7, if_neg h8])]
          exact kM_operatorShape_95 C 2 2 (lv_sub hl [] rfl)
      · refine lv_iconst (v := 1) hx hb dM_operatorShape_80 (by decide) ?_
        refine lv_goto (tgt := 95) hx hb dM_operatorShape_81 (by decide) ?_
        rw [(show fM_operatorShape_29 a0 = fM_operatorShape_95 1 2 by rw [fM_operatorShape_29, if_pos h1, if_neg h2, if_neg h7])]
        exact kM_operatorShape_95 C 1 2 (lv_sub hl [] rfl)
  · refine lv_iload_n hx hb dM_operatorShape_35 rfl (lv_at hl 0 rfl) ?_
    refine lv_bipush (v := 80) hx hb dM_operatorShape_36 (by decide) ?_
    refine lv_icmp_ge (tgt := 60) hx hb dM_operatorShape_38 (by decide) (fun h9 => ?_) (fun h9 => ?_)
    · refine lv_iconst (v := 1) hx hb dM_operatorShape_60 (by decide) ?_
      refine lv_iconst (v := 1) hx hb dM_operatorShape_61 (by decide) ?_
      refine lv_iconst (v := 0) hx hb dM_operatorShape_62 (by decide) ?_
      refine pw_call (va_runS (As := [.int 1, .int 1, .int 0]) (rest := []) ⟨hx, hb, hml, hown, hts⟩ (qM_shape l 1 1 0) (va_cwS 3 hts (gS w_553 w_554 w_34 w_555) rfl rfl rfl (by decide +kernel) ⟨Nat.le_of_ble_eq_true rfl, Nat.le_of_ble_eq_true rfl⟩) ⟨pw_bT, fun U hU hW => ⟨rfl, trivial⟩⟩ rfl rfl hl.1 rfl (lv_room (Nat.le_of_ble_eq_true rfl)) dM_operatorShape_63 ⟨Nat.zero_le _, Nat.zero_le _⟩) ?_
      exact W.iret hx hb hr (fun t ht _ => ⟨by rw [(show fM_operatorShape_29 a0 = fM_shape 1 1 0 by rw [fM_operatorShape_29, if_neg h1, if_pos h9])], ht⟩) (fun q h => nomatch h) dM_operatorShape_66
    · refine lv_iload_n hx hb dM_operatorShape_41 rfl (lv_at hl 0 rfl) ?_
      refine lv_bipush (v := 69) hx hb dM_operatorShape_42 (by decide) ?_
      refine lv_icmp_ne (tgt := 51) hx hb dM_operatorShape_44 (by decide) (fun h10 => ?_) (fun h10 => ?_)
      · refine lv_iconst (v := 2) hx hb dM_operatorShape_51 (by decide) ?_
        rw [(show fM_operatorShape_29 a0 = fM_operatorShape_52 2 by rw [fM_operatorShape_29, if_neg h1, if_neg h9, if_neg h10])]
        exact kM_operatorShape_52 C 2 (lv_sub hl [] rfl)
      · refine lv_iconst (v := 1) hx hb dM_operatorShape_47 (by decide) ?_
        refine lv_goto (tgt := 52) hx hb dM_operatorShape_48 (by decide) ?_
        rw [(show fM_operatorShape_29 a0 = fM_operatorShape_52 1 by rw [fM_operatorShape_29, if_neg h1, if_neg h9, if_pos h10])]
        exact kM_operatorShape_52 C 1 (lv_sub hl [] rfl)
set_option maxHeartbeats 4000000 in
set_option maxRecDepth 100000 in
theorem kM_operatorShape_27 {p : Program} {l : Launch} {e : Env} {s : State} {m : MethodId} {args : Array Value} {below : List Frame} {meth : Method} {c : Code} (C : pw_C p s m args meth c cM_operatorShape 1 (some .int) "BitNumbersModel")  {ls : Array Slot} (hl : lv_has ls 1 []) : W p l e rmM_operatorShape s m args below meth c s.heap [] 0 0 (MQ below (k2_QcV (.int (fM_operatorShape_27))) args s 0 0 (fun _ => False)) (F0 m 27 ls []) := by
  obtain ⟨hx, hb, hr, hml, hown, hts, hlocks⟩ := id C
  refine lv_iconst (v := (-1)) hx hb dM_operatorShape_27 (by decide) ?_
  exact W.iret hx hb hr (fun t ht _ => ⟨by rw [(show fM_operatorShape_27 = (-1) by rw [fM_operatorShape_27])], ht⟩) (fun q h => nomatch h) dM_operatorShape_28
set_option maxHeartbeats 4000000 in
set_option maxRecDepth 100000 in
theorem kM_operatorShape_0 {p : Program} {l : Launch} {e : Env} {s : State} {m : MethodId} {args : Array Value} {below : List Frame} {meth : Method} {c : Code} (C : pw_C p s m args meth c cM_operatorShape 1 (some .int) "BitNumbersModel") (a0 : Int32) {ls : Array Slot} (hl : lv_has ls 1 [(0, .int a0)]) : W p l e rmM_operatorShape s m args below meth c s.heap [] 0 0 (MQ below (k2_QcV (.int (fM_operatorShape a0))) args s 0 0 (fun _ => False)) (F0 m 0 ls []) := by
  obtain ⟨hx, hb, hr, hml, hown, hts, hlocks⟩ := id C
  refine lv_iload_n hx hb dM_operatorShape_0 rfl (lv_at hl 0 rfl) ?_
  refine lv_bipush (v := 69) hx hb dM_operatorShape_1 (by decide) ?_
  refine lv_icmp_lt (tgt := 27) hx hb dM_operatorShape_3 (by decide) (fun h1 => ?_) (fun h1 => ?_)
  · rw [(show fM_operatorShape a0 = fM_operatorShape_27 by rw [fM_operatorShape, if_pos h1])]
    exact kM_operatorShape_27 C (lv_sub hl [] rfl)
  · refine lv_iload_n hx hb dM_operatorShape_6 rfl (lv_at hl 0 rfl) ?_
    refine lv_sipush (v := 207) hx hb dM_operatorShape_7 (by decide) ?_
    refine lv_icmp_gt (tgt := 27) hx hb dM_operatorShape_10 (by decide) (fun h2 => ?_) (fun h2 => ?_)
    · rw [(show fM_operatorShape a0 = fM_operatorShape_27 by rw [fM_operatorShape, if_neg h1, if_pos h2])]
      exact kM_operatorShape_27 C (lv_sub hl [] rfl)
    · refine lv_iload_n hx hb dM_operatorShape_13 rfl (lv_at hl 0 rfl) ?_
      refine lv_sipush (v := 196) hx hb dM_operatorShape_14 (by decide) ?_
      refine lv_icmp_le (tgt := 29) hx hb dM_operatorShape_17 (by decide) (fun h3 => ?_) (fun h3 => ?_)
      · rw [(show fM_operatorShape a0 = fM_operatorShape_29 a0 by rw [fM_operatorShape, if_neg h1, if_neg h2, if_pos h3])]
        exact kM_operatorShape_29 C a0 (lv_sub hl [0] rfl)
      · refine lv_iload_n hx hb dM_operatorShape_20 rfl (lv_at hl 0 rfl) ?_
        refine lv_sipush (v := 200) hx hb dM_operatorShape_21 (by decide) ?_
        refine lv_icmp_ge (tgt := 29) hx hb dM_operatorShape_24 (by decide) (fun h4 => ?_) (fun h4 => ?_)
        · rw [(show fM_operatorShape a0 = fM_operatorShape_29 a0 by rw [fM_operatorShape, if_neg h1, if_neg h2, if_neg h3, if_pos h4])]
          exact kM_operatorShape_29 C a0 (lv_sub hl [0] rfl)
        · rw [(show fM_operatorShape a0 = fM_operatorShape_27 by rw [fM_operatorShape, if_neg h1, if_neg h2, if_neg h3, if_neg h4])]
          exact kM_operatorShape_27 C (lv_sub hl [] rfl)
set_option maxHeartbeats 4000000 in
set_option maxRecDepth 100000 in
theorem qM_operatorShape (l : Launch) (a0 : Int32) : Met l yM_operatorShape wsM_operatorShape rmM_operatorShape (va_Pc [.int a0] (fun _ => True)) (k2_QcV (.int (fM_operatorShape a0))) 0 0 (fun _ => False) := by
  refine Met.ofW (cc := cM_operatorShape) (maxL := 1) (ret := (some .int)) (by decide) rfl ?_
  intro p e s m args below meth c s₁ B hml hv
  obtain ⟨rfl, hG⟩ := hv
  have hts0 := atoms_spec (ws := wsM_operatorShape) B.pre
  have hts := fun (w : Cond) (h : w ∈ aw) => hts0 w (List.mem_cons_of_mem _ h)
  have hown : s.vm.findClass "BitNumbersModel" = some m.cls := findClass_of_methodNamed B.named
  have hl := lv_entry ([.int a0]) (n := 1) (Nat.le_of_ble_eq_true rfl)
  rw [lg_entry_eq]
  generalize (lg_sl ([.int a0]) ++ List.replicate (1 - (lg_sl ([.int a0])).length) Slot.unset).toArray = ls at hl ⊢
  exact kM_operatorShape_0 ⟨B.exec, B.bytes, B.returns, hml, hown, hts, B.notSynchronized⟩ a0 hl

set_option maxHeartbeats 4000000 in
set_option maxRecDepth 100000 in
theorem kM_cut_9 {p : Program} {l : Launch} {e : Env} {s : State} {m : MethodId} {args : Array Value} {below : List Frame} {meth : Method} {c : Code} (C : pw_C p s m args meth c cM_cut 3 (some .long) "BitNumbersModel") (a1 : Int64) {ls : Array Slot} (hl : lv_has ls 3 [(1, .long a1)]) : W p l e rmM_cut s m args below meth c s.heap [] 0 0 (MQ below (k2_QcV (.long (fM_cut_9 a1))) args s 0 0 (fun _ => False)) (F0 m 9 ls []) := by
  obtain ⟨hx, hb, hr, hml, hown, hts, hlocks⟩ := id C
  refine lv_lload_n hx hb dM_cut_9 rfl (lv_at hl 0 rfl) ?_
  refine lv_ldc2 hx hb hown (hts _ w_541) dM_cut_10 ?_
  refine lv_land hx hb dM_cut_13 ?_
  refine lv_goto (tgt := 18) hx hb dM_cut_14 (by decide) ?_
  exact W.lret hx hb hr (fun t ht _ => ⟨by rw [(show fM_cut_9 a1 = a1 &&& 4294967295 by rw [fM_cut_9])], ht⟩) (fun q h => nomatch h) dM_cut_18
set_option maxHeartbeats 4000000 in
set_option maxRecDepth 100000 in
theorem kM_cut_0 {p : Program} {l : Launch} {e : Env} {s : State} {m : MethodId} {args : Array Value} {below : List Frame} {meth : Method} {c : Code} (C : pw_C p s m args meth c cM_cut 3 (some .long) "BitNumbersModel") (a0 : Int32) (a1 : Int64) {ls : Array Slot} (hl : lv_has ls 3 [(0, .int a0), (1, .long a1)]) : W p l e rmM_cut s m args below meth c s.heap [] 0 0 (MQ below (k2_QcV (.long (fM_cut a0 a1))) args s 0 0 (fun _ => False)) (F0 m 0 ls []) := by
  obtain ⟨hx, hb, hr, hml, hown, hts, hlocks⟩ := id C
  refine lv_iload_n hx hb dM_cut_0 rfl (lv_at hl 0 rfl) ?_
  refine lv_if_eq (tgt := 9) hx hb dM_cut_1 (by decide) (fun h1 => ?_) (fun h1 => ?_)
  · rw [(show fM_cut a0 a1 = fM_cut_9 a1 by rw [fM_cut, if_pos h1])]
    exact kM_cut_9 C a1 (lv_sub hl [1] rfl)
  · refine lv_iload_n hx hb dM_cut_4 rfl (lv_at hl 0 rfl) ?_
    refine lv_iconst (v := 2) hx hb dM_cut_5 (by decide) ?_
    refine lv_icmp_ne (tgt := 17) hx hb dM_cut_6 (by decide) (fun h2 => ?_) (fun h2 => ?_)
    · refine lv_lload_n hx hb dM_cut_17 rfl (lv_at hl 1 rfl) ?_
      exact W.lret hx hb hr (fun t ht _ => ⟨by rw [(show fM_cut a0 a1 = a1 by rw [fM_cut, if_neg h1, if_neg h2])], ht⟩) (fun q h => nomatch h) dM_cut_18
    · rw [(show fM_cut a0 a1 = fM_cut_9 a1 by rw [fM_cut, if_neg h1, if_pos h2])]
      exact kM_cut_9 C a1 (lv_sub hl [1] rfl)
set_option maxHeartbeats 4000000 in
set_option maxRecDepth 100000 in
theorem qM_cut (l : Launch) (a0 : Int32) (a1 : Int64) : Met l yM_cut wsM_cut rmM_cut (va_Pc [.int a0, .long a1] (fun _ => True)) (k2_QcV (.long (fM_cut a0 a1))) 0 0 (fun _ => False) := by
  refine Met.ofW (cc := cM_cut) (maxL := 3) (ret := (some .long)) (by decide) rfl ?_
  intro p e s m args below meth c s₁ B hml hv
  obtain ⟨rfl, hG⟩ := hv
  have hts0 := atoms_spec (ws := wsM_cut) B.pre
  have hts := fun (w : Cond) (h : w ∈ aw) => hts0 w (List.mem_cons_of_mem _ h)
  have hown : s.vm.findClass "BitNumbersModel" = some m.cls := findClass_of_methodNamed B.named
  have hl := lv_entry ([.int a0, .long a1]) (n := 3) (Nat.le_of_ble_eq_true rfl)
  rw [lg_entry_eq]
  generalize (lg_sl ([.int a0, .long a1]) ++ List.replicate (3 - (lg_sl ([.int a0, .long a1])).length) Slot.unset).toArray = ls at hl ⊢
  exact kM_cut_0 ⟨B.exec, B.bytes, B.returns, hml, hown, hts, B.notSynchronized⟩ a0 a1 hl

set_option maxHeartbeats 4000000 in
set_option maxRecDepth 100000 in
theorem kM_withSign_0 {p : Program} {l : Launch} {e : Env} {s : State} {m : MethodId} {args : Array Value} {below : List Frame} {meth : Method} {c : Code} (C : pw_C p s m args meth c cM_withSign 3 (some .long) "BitNumbersModel") (a0 : Int32) (a1 : Int64) {ls : Array Slot} (hl : lv_has ls 3 [(0, .int a0), (1, .long a1)]) : W p l e rmM_withSign s m args below meth c s.heap [] 0 0 (MQ below (k2_QcV (.long (fM_withSign a0 a1))) args s 0 0 (fun _ => False)) (F0 m 0 ls []) := by
  obtain ⟨hx, hb, hr, hml, hown, hts, hlocks⟩ := id C
  refine lv_iload_n hx hb dM_withSign_0 rfl (lv_at hl 0 rfl) ?_
  refine lv_if_ne (tgt := 14) hx hb dM_withSign_1 (by decide) (fun h1 => ?_) (fun h1 => ?_)
  · refine lv_lload_n hx hb dM_withSign_14 rfl (lv_at hl 1 rfl) ?_
    exact W.lret hx hb hr (fun t ht _ => ⟨by rw [(show fM_withSign a0 a1 = a1 by rw [fM_withSign, if_neg h1])], ht⟩) (fun q h => nomatch h) dM_withSign_15
  · refine lv_lload_n hx hb dM_withSign_4 rfl (lv_at hl 1 rfl) ?_
    refine lv_bipush (v := 32) hx hb dM_withSign_5 (by decide) ?_
    refine lv_lshl (v := bn_shl a1 32) hx hb dM_withSign_7 rfl ?_
    refine lv_bipush (v := 32) hx hb dM_withSign_8 (by decide) ?_
    refine lv_lshr (v := bn_sar (bn_shl a1 32) 32) hx hb dM_withSign_10 rfl ?_
    refine lv_goto (tgt := 15) hx hb dM_withSign_11 (by decide) ?_
    exact W.lret hx hb hr (fun t ht _ => ⟨by rw [(show fM_withSign a0 a1 = bn_sar (bn_shl a1 32) 32 by rw [fM_withSign, if_pos h1])], ht⟩) (fun q h => nomatch h) dM_withSign_15
set_option maxHeartbeats 4000000 in
set_option maxRecDepth 100000 in
theorem qM_withSign (l : Launch) (a0 : Int32) (a1 : Int64) : Met l yM_withSign wsM_withSign rmM_withSign (va_Pc [.int a0, .long a1] (fun _ => True)) (k2_QcV (.long (fM_withSign a0 a1))) 0 0 (fun _ => False) := by
  refine Met.ofW (cc := cM_withSign) (maxL := 3) (ret := (some .long)) (by decide) rfl ?_
  intro p e s m args below meth c s₁ B hml hv
  obtain ⟨rfl, hG⟩ := hv
  have hts0 := atoms_spec (ws := wsM_withSign) B.pre
  have hts := fun (w : Cond) (h : w ∈ aw) => hts0 w (List.mem_cons_of_mem _ h)
  have hown : s.vm.findClass "BitNumbersModel" = some m.cls := findClass_of_methodNamed B.named
  have hl := lv_entry ([.int a0, .long a1]) (n := 3) (Nat.le_of_ble_eq_true rfl)
  rw [lg_entry_eq]
  generalize (lg_sl ([.int a0, .long a1]) ++ List.replicate (3 - (lg_sl ([.int a0, .long a1])).length) Slot.unset).toArray = ls at hl ⊢
  exact kM_withSign_0 ⟨B.exec, B.bytes, B.returns, hml, hown, hts, B.notSynchronized⟩ a0 a1 hl

set_option maxHeartbeats 4000000 in
set_option maxRecDepth 100000 in
theorem kM_width_9 {p : Program} {l : Launch} {e : Env} {s : State} {m : MethodId} {args : Array Value} {below : List Frame} {meth : Method} {c : Code} (C : pw_C p s m args meth c cM_width 1 (some .int) "BitNumbersModel")  {ls : Array Slot} (hl : lv_has ls 1 []) : W p l e rmM_width s m args below meth c s.heap [] 0 0 (MQ below (k2_QcV (.int (fM_width_9))) args s 0 0 (fun _ => False)) (F0 m 9 ls []) := by
  obtain ⟨hx, hb, hr, hml, hown, hts, hlocks⟩ := id C
  refine lv_bipush (v := 32) hx hb dM_width_9 (by decide) ?_
  refine lv_goto (tgt := 16) hx hb dM_width_11 (by decide) ?_
  exact W.iret hx hb hr (fun t ht _ => ⟨by rw [(show fM_width_9 = 32 by rw [fM_width_9])], ht⟩) (fun q h => nomatch h) dM_width_16
set_option maxHeartbeats 4000000 in
set_option maxRecDepth 100000 in
theorem kM_width_0 {p : Program} {l : Launch} {e : Env} {s : State} {m : MethodId} {args : Array Value} {below : List Frame} {meth : Method} {c : Code} (C : pw_C p s m args meth c cM_width 1 (some .int) "BitNumbersModel") (a0 : Int32) {ls : Array Slot} (hl : lv_has ls 1 [(0, .int a0)]) : W p l e rmM_width s m args below meth c s.heap [] 0 0 (MQ below (k2_QcV (.int (fM_width a0))) args s 0 0 (fun _ => False)) (F0 m 0 ls []) := by
  obtain ⟨hx, hb, hr, hml, hown, hts, hlocks⟩ := id C
  refine lv_iload_n hx hb dM_width_0 rfl (lv_at hl 0 rfl) ?_
  refine lv_if_eq (tgt := 9) hx hb dM_width_1 (by decide) (fun h1 => ?_) (fun h1 => ?_)
  · rw [(show fM_width a0 = fM_width_9 by rw [fM_width, if_pos h1])]
    exact kM_width_9 C (lv_sub hl [] rfl)
  · refine lv_iload_n hx hb dM_width_4 rfl (lv_at hl 0 rfl) ?_
    refine lv_iconst (v := 2) hx hb dM_width_5 (by decide) ?_
    refine lv_icmp_ne (tgt := 14) hx hb dM_width_6 (by decide) (fun h2 => ?_) (fun h2 => ?_)
    · refine lv_bipush (v := 64) hx hb dM_width_14 (by decide) ?_
      exact W.iret hx hb hr (fun t ht _ => ⟨by rw [(show fM_width a0 = 64 by rw [fM_width, if_neg h1, if_neg h2])], ht⟩) (fun q h => nomatch h) dM_width_16
    · rw [(show fM_width a0 = fM_width_9 by rw [fM_width, if_neg h1, if_pos h2])]
      exact kM_width_9 C (lv_sub hl [] rfl)
set_option maxHeartbeats 4000000 in
set_option maxRecDepth 100000 in
theorem qM_width (l : Launch) (a0 : Int32) : Met l yM_width wsM_width rmM_width (va_Pc [.int a0] (fun _ => True)) (k2_QcV (.int (fM_width a0))) 0 0 (fun _ => False) := by
  refine Met.ofW (cc := cM_width) (maxL := 1) (ret := (some .int)) (by decide) rfl ?_
  intro p e s m args below meth c s₁ B hml hv
  obtain ⟨rfl, hG⟩ := hv
  have hts0 := atoms_spec (ws := wsM_width) B.pre
  have hts := fun (w : Cond) (h : w ∈ aw) => hts0 w (List.mem_cons_of_mem _ h)
  have hown : s.vm.findClass "BitNumbersModel" = some m.cls := findClass_of_methodNamed B.named
  have hl := lv_entry ([.int a0]) (n := 1) (Nat.le_of_ble_eq_true rfl)
  rw [lg_entry_eq]
  generalize (lg_sl ([.int a0]) ++ List.replicate (1 - (lg_sl ([.int a0])).length) Slot.unset).toArray = ls at hl ⊢
  exact kM_width_0 ⟨B.exec, B.bytes, B.returns, hml, hown, hts, B.notSynchronized⟩ a0 hl

set_option maxHeartbeats 4000000 in
set_option maxRecDepth 100000 in
theorem kM_isBelow_0 {p : Program} {l : Launch} {e : Env} {s : State} {m : MethodId} {args : Array Value} {below : List Frame} {meth : Method} {c : Code} (C : pw_C p s m args meth c cM_isBelow 4 (some .boolean) "BitNumbersModel") (a0 : Int64) (a2 : Int64) {ls : Array Slot} (hl : lv_has ls 4 [(0, .long a0), (2, .long a2)]) : W p l e rmM_isBelow s m args below meth c s.heap [] 0 0 (MQ below (k2_QcV (.int (fM_isBelow a0 a2))) args s 0 0 (fun _ => False)) (F0 m 0 ls []) := by
  obtain ⟨hx, hb, hr, hml, hown, hts, hlocks⟩ := id C
  refine lv_lload_n hx hb dM_isBelow_0 rfl (lv_at hl 0 rfl) ?_
  refine lv_ldc2 hx hb hown (hts _ w_578) dM_isBelow_1 ?_
  refine lv_lxor hx hb dM_isBelow_4 ?_
  refine lv_lload_n hx hb dM_isBelow_5 rfl (lv_at hl 1 rfl) ?_
  refine lv_ldc2 hx hb hown (hts _ w_578) dM_isBelow_6 ?_
  refine lv_lxor hx hb dM_isBelow_9 ?_
  refine W.lcmp hx hb dM_isBelow_10 ?_
  refine lv_if_ge (tgt := 18) hx hb dM_isBelow_11 (by decide) (fun h1 => ?_) (fun h1 => ?_)
  · have h1 : (a2 ^^^ (-9223372036854775808)) ≤ (a0 ^^^ (-9223372036854775808)) := (lg_cmp_ge _ _).mp h1
    refine lv_iconst (v := 0) hx hb dM_isBelow_18 (by decide) ?_
    exact W.zret hx hb hr (pw_nz (Or.inl rfl)) (fun t ht _ => ⟨by rw [(show fM_isBelow a0 a2 = 0 by rw [fM_isBelow, if_pos h1])], ht⟩) (fun q h => nomatch h) dM_isBelow_19
  · have h1 : ¬ ((a2 ^^^ (-9223372036854775808)) ≤ (a0 ^^^ (-9223372036854775808))) := fun w => h1 ((lg_cmp_ge _ _).mpr w)
    refine lv_iconst (v := 1) hx hb dM_isBelow_14 (by decide) ?_
    refine lv_goto (tgt := 19) hx hb dM_isBelow_15 (by decide) ?_
    exact W.zret hx hb hr (pw_nz (Or.inr rfl)) (fun t ht _ => ⟨by rw [(show fM_isBelow a0 a2 = 1 by rw [fM_isBelow, if_neg h1])], ht⟩) (fun q h => nomatch h) dM_isBelow_19
set_option maxHeartbeats 4000000 in
set_option maxRecDepth 100000 in
theorem qM_isBelow (l : Launch) (a0 : Int64) (a2 : Int64) : Met l yM_isBelow wsM_isBelow rmM_isBelow (va_Pc [.long a0, .long a2] (fun _ => True)) (k2_QcV (.int (fM_isBelow a0 a2))) 0 0 (fun _ => False) := by
  refine Met.ofW (cc := cM_isBelow) (maxL := 4) (ret := (some .boolean)) (by decide) rfl ?_
  intro p e s m args below meth c s₁ B hml hv
  obtain ⟨rfl, hG⟩ := hv
  have hts0 := atoms_spec (ws := wsM_isBelow) B.pre
  have hts := fun (w : Cond) (h : w ∈ aw) => hts0 w (List.mem_cons_of_mem _ h)
  have hown : s.vm.findClass "BitNumbersModel" = some m.cls := findClass_of_methodNamed B.named
  have hl := lv_entry ([.long a0, .long a2]) (n := 4) (Nat.le_of_ble_eq_true rfl)
  rw [lg_entry_eq]
  generalize (lg_sl ([.long a0, .long a2]) ++ List.replicate (4 - (lg_sl ([.long a0, .long a2])).length) Slot.unset).toArray = ls at hl ⊢
  exact kM_isBelow_0 ⟨B.exec, B.bytes, B.returns, hml, hown, hts, B.notSynchronized⟩ a0 a2 hl

set_option maxHeartbeats 4000000 in
set_option maxRecDepth 100000 in
theorem kM_truth_0 {p : Program} {l : Launch} {e : Env} {s : State} {m : MethodId} {args : Array Value} {below : List Frame} {meth : Method} {c : Code} (C : pw_C p s m args meth c cM_truth 1 (some .long) "BitNumbersModel") (a0 : Int32) {ls : Array Slot} (hl : lv_has ls 1 [(0, .int a0)]) : W p l e rmM_truth s m args below meth c s.heap [] 0 0 (MQ below (k2_QcV (.long (fM_truth a0))) args s 0 0 (fun _ => False)) (F0 m 0 ls []) := by
  obtain ⟨hx, hb, hr, hml, hown, hts, hlocks⟩ := id C
  refine lv_iload_n hx hb dM_truth_0 rfl (lv_at hl 0 rfl) ?_
  refine lv_if_eq (tgt := 8) hx hb dM_truth_1 (by decide) (fun h1 => ?_) (fun h1 => ?_)
  · refine lv_lconst (v := 0) hx hb dM_truth_8 (by decide) ?_
    exact W.lret hx hb hr (fun t ht _ => ⟨by rw [(show fM_truth a0 = 0 by rw [fM_truth, if_pos h1])], ht⟩) (fun q h => nomatch h) dM_truth_9
  · refine lv_lconst (v := 1) hx hb dM_truth_4 (by decide) ?_
    refine lv_goto (tgt := 9) hx hb dM_truth_5 (by decide) ?_
    exact W.lret hx hb hr (fun t ht _ => ⟨by rw [(show fM_truth a0 = 1 by rw [fM_truth, if_neg h1])], ht⟩) (fun q h => nomatch h) dM_truth_9
set_option maxHeartbeats 4000000 in
set_option maxRecDepth 100000 in
theorem qM_truth (l : Launch) (a0 : Int32) : Met l yM_truth wsM_truth rmM_truth (va_Pc [.int a0] (fun _ => True)) (k2_QcV (.long (fM_truth a0))) 0 0 (fun _ => False) := by
  refine Met.ofW (cc := cM_truth) (maxL := 1) (ret := (some .long)) (by decide) rfl ?_
  intro p e s m args below meth c s₁ B hml hv
  obtain ⟨rfl, hG⟩ := hv
  have hts0 := atoms_spec (ws := wsM_truth) B.pre
  have hts := fun (w : Cond) (h : w ∈ aw) => hts0 w (List.mem_cons_of_mem _ h)
  have hown : s.vm.findClass "BitNumbersModel" = some m.cls := findClass_of_methodNamed B.named
  have hl := lv_entry ([.int a0]) (n := 1) (Nat.le_of_ble_eq_true rfl)
  rw [lg_entry_eq]
  generalize (lg_sl ([.int a0]) ++ List.replicate (1 - (lg_sl ([.int a0])).length) Slot.unset).toArray = ls at hl ⊢
  exact kM_truth_0 ⟨B.exec, B.bytes, B.returns, hml, hown, hts, B.notSynchronized⟩ a0 hl

set_option maxHeartbeats 4000000 in
set_option maxRecDepth 100000 in
theorem kM_compareWhole_220 {p : Program} {l : Launch} {e : Env} {s : State} {m : MethodId} {args : Array Value} {below : List Frame} {meth : Method} {c : Code} (C : pw_C p s m args meth c cM_compareWhole 10 (some .long) "BitNumbersModel") (s0 : Int32) (hzs0 : s0 = 0 ∨ s0 = 1) {ls : Array Slot} (hl : lv_has ls 10 []) : W p l e rmM_compareWhole s m args below meth c s.heap [] 0 0 (MQ below (k2_QcV (.long (fM_compareWhole_220 s0))) args s 0 0 (fun _ => False)) (F0 m 220 ls [.int s0]) := by
  obtain ⟨hx, hb, hr, hml, hown, hts, hlocks⟩ := id C
  refine pw_call (va_runS (As := [.int s0]) (rest := []) ⟨hx, hb, hml, hown, hts⟩ (qM_truth l s0) (va_cwS 1 hts (gS w_566 w_567 w_34 w_568) rfl rfl rfl (by decide +kernel) ⟨Nat.le_of_ble_eq_true rfl, Nat.le_of_ble_eq_true rfl⟩) ⟨pw_bT, fun U hU hW => ⟨rfl, trivial⟩⟩ rfl rfl hl.1 rfl (lv_room (Nat.le_of_ble_eq_true rfl)) dM_compareWhole_220 ⟨Nat.zero_le _, Nat.zero_le _⟩) ?_
  exact W.lret hx hb hr (fun t ht _ => ⟨by rw [(show fM_compareWhole_220 s0 = fM_truth s0 by rw [fM_compareWhole_220])], ht⟩) (fun q h => nomatch h) dM_compareWhole_223
set_option maxHeartbeats 4000000 in
set_option maxRecDepth 100000 in
theorem kM_compareWhole_202 {p : Program} {l : Launch} {e : Env} {s : State} {m : MethodId} {args : Array Value} {below : List Frame} {meth : Method} {c : Code} (C : pw_C p s m args meth c cM_compareWhole 10 (some .long) "BitNumbersModel") (s0 : Int32) (hzs0 : s0 = 0 ∨ s0 = 1) {ls : Array Slot} (hl : lv_has ls 10 []) : W p l e rmM_compareWhole s m args below meth c s.heap [] 0 0 (MQ below (k2_QcV (.long (fM_compareWhole_202 s0))) args s 0 0 (fun _ => False)) (F0 m 202 ls [.int s0]) := by
  obtain ⟨hx, hb, hr, hml, hown, hts, hlocks⟩ := id C
  refine pw_call (va_runS (As := [.int s0]) (rest := []) ⟨hx, hb, hml, hown, hts⟩ (qM_truth l s0) (va_cwS 1 hts (gS w_566 w_567 w_34 w_568) rfl rfl rfl (by decide +kernel) ⟨Nat.le_of_ble_eq_true rfl, Nat.le_of_ble_eq_true rfl⟩) ⟨pw_bT, fun U hU hW => ⟨rfl, trivial⟩⟩ rfl rfl hl.1 rfl (lv_room (Nat.le_of_ble_eq_true rfl)) dM_compareWhole_202 ⟨Nat.zero_le _, Nat.zero_le _⟩) ?_
  exact W.lret hx hb hr (fun t ht _ => ⟨by rw [(show fM_compareWhole_202 s0 = fM_truth s0 by rw [fM_compareWhole_202])], ht⟩) (fun q h => nomatch h) dM_compareWhole_205
set_option maxHeartbeats 4000000 in
set_option maxRecDepth 100000 in
theorem kM_compareWhole_185 {p : Program} {l : Launch} {e : Env} {s : State} {m : MethodId} {args : Array Value} {below : List Frame} {meth : Method} {c : Code} (C : pw_C p s m args meth c cM_compareWhole 10 (some .long) "BitNumbersModel") (s0 : Int32) (hzs0 : s0 = 0 ∨ s0 = 1) {ls : Array Slot} (hl : lv_has ls 10 []) : W p l e rmM_compareWhole s m args below meth c s.heap [] 0 0 (MQ below (k2_QcV (.long (fM_compareWhole_185 s0))) args s 0 0 (fun _ => False)) (F0 m 185 ls [.int s0]) := by
  obtain ⟨hx, hb, hr, hml, hown, hts, hlocks⟩ := id C
  refine pw_call (va_runS (As := [.int s0]) (rest := []) ⟨hx, hb, hml, hown, hts⟩ (qM_truth l s0) (va_cwS 1 hts (gS w_566 w_567 w_34 w_568) rfl rfl rfl (by decide +kernel) ⟨Nat.le_of_ble_eq_true rfl, Nat.le_of_ble_eq_true rfl⟩) ⟨pw_bT, fun U hU hW => ⟨rfl, trivial⟩⟩ rfl rfl hl.1 rfl (lv_room (Nat.le_of_ble_eq_true rfl)) dM_compareWhole_185 ⟨Nat.zero_le _, Nat.zero_le _⟩) ?_
  exact W.lret hx hb hr (fun t ht _ => ⟨by rw [(show fM_compareWhole_185 s0 = fM_truth s0 by rw [fM_compareWhole_185])], ht⟩) (fun q h => nomatch h) dM_compareWhole_188
set_option maxHeartbeats 4000000 in
set_option maxRecDepth 100000 in
theorem kM_compareWhole_167 {p : Program} {l : Launch} {e : Env} {s : State} {m : MethodId} {args : Array Value} {below : List Frame} {meth : Method} {c : Code} (C : pw_C p s m args meth c cM_compareWhole 10 (some .long) "BitNumbersModel") (s0 : Int32) (hzs0 : s0 = 0 ∨ s0 = 1) {ls : Array Slot} (hl : lv_has ls 10 []) : W p l e rmM_compareWhole s m args below meth c s.heap [] 0 0 (MQ below (k2_QcV (.long (fM_compareWhole_167 s0))) args s 0 0 (fun _ => False)) (F0 m 167 ls [.int s0]) := by
  obtain ⟨hx, hb, hr, hml, hown, hts, hlocks⟩ := id C
  refine pw_call (va_runS (As := [.int s0]) (rest := []) ⟨hx, hb, hml, hown, hts⟩ (qM_truth l s0) (va_cwS 1 hts (gS w_566 w_567 w_34 w_568) rfl rfl rfl (by decide +kernel) ⟨Nat.le_of_ble_eq_true rfl, Nat.le_of_ble_eq_true rfl⟩) ⟨pw_bT, fun U hU hW => ⟨rfl, trivial⟩⟩ rfl rfl hl.1 rfl (lv_room (Nat.le_of_ble_eq_true rfl)) dM_compareWhole_167 ⟨Nat.zero_le _, Nat.zero_le _⟩) ?_
  exact W.lret hx hb hr (fun t ht _ => ⟨by rw [(show fM_compareWhole_167 s0 = fM_truth s0 by rw [fM_compareWhole_167])], ht⟩) (fun q h => nomatch h) dM_compareWhole_170
set_option maxHeartbeats 4000000 in
set_option maxRecDepth 100000 in
theorem kM_compareWhole_140 {p : Program} {l : Launch} {e : Env} {s : State} {m : MethodId} {args : Array Value} {below : List Frame} {meth : Method} {c : Code} (C : pw_C p s m args meth c cM_compareWhole 10 (some .long) "BitNumbersModel") (s0 : Int32) (hzs0 : s0 = 0 ∨ s0 = 1) {ls : Array Slot} (hl : lv_has ls 10 []) : W p l e rmM_compareWhole s m args below meth c s.heap [] 0 0 (MQ below (k2_QcV (.long (fM_compareWhole_140 s0))) args s 0 0 (fun _ => False)) (F0 m 140 ls [.int s0]) := by
  obtain ⟨hx, hb, hr, hml, hown, hts, hlocks⟩ := id C
  refine pw_call (va_runS (As := [.int s0]) (rest := []) ⟨hx, hb, hml, hown, hts⟩ (qM_truth l s0) (va_cwS 1 hts (gS w_566 w_567 w_34 w_568) rfl rfl rfl (by decide +kernel) ⟨Nat.le_of_ble_eq_true rfl, Nat.le_of_ble_eq_true rfl⟩) ⟨pw_bT, fun U hU hW => ⟨rfl, trivial⟩⟩ rfl rfl hl.1 rfl (lv_room (Nat.le_of_ble_eq_true rfl)) dM_compareWhole_140 ⟨Nat.zero_le _, Nat.zero_le _⟩) ?_
  exact W.lret hx hb hr (fun t ht _ => ⟨by rw [(show fM_compareWhole_140 s0 = fM_truth s0 by rw [fM_compareWhole_140])], ht⟩) (fun q h => nomatch h) dM_compareWhole_143
set_option maxHeartbeats 4000000 in
set_option maxRecDepth 100000 in
theorem kM_compareWhole_113 {p : Program} {l : Launch} {e : Env} {s : State} {m : MethodId} {args : Array Value} {below : List Frame} {meth : Method} {c : Code} (C : pw_C p s m args meth c cM_compareWhole 10 (some .long) "BitNumbersModel") (s0 : Int32) (hzs0 : s0 = 0 ∨ s0 = 1) {ls : Array Slot} (hl : lv_has ls 10 []) : W p l e rmM_compareWhole s m args below meth c s.heap [] 0 0 (MQ below (k2_QcV (.long (fM_compareWhole_113 s0))) args s 0 0 (fun _ => False)) (F0 m 113 ls [.int s0]) := by
  obtain ⟨hx, hb, hr, hml, hown, hts, hlocks⟩ := id C
  refine pw_call (va_runS (As := [.int s0]) (rest := []) ⟨hx, hb, hml, hown, hts⟩ (qM_truth l s0) (va_cwS 1 hts (gS w_566 w_567 w_34 w_568) rfl rfl rfl (by decide +kernel) ⟨Nat.le_of_ble_eq_true rfl, Nat.le_of_ble_eq_true rfl⟩) ⟨pw_bT, fun U hU hW => ⟨rfl, trivial⟩⟩ rfl rfl hl.1 rfl (lv_room (Nat.le_of_ble_eq_true rfl)) dM_compareWhole_113 ⟨Nat.zero_le _, Nat.zero_le _⟩) ?_
  exact W.lret hx hb hr (fun t ht _ => ⟨by rw [(show fM_compareWhole_113 s0 = fM_truth s0 by rw [fM_compareWhole_113])], ht⟩) (fun q h => nomatch h) dM_compareWhole_116
set_option maxHeartbeats 4000000 in
set_option maxRecDepth 100000 in
theorem kM_compareWhole_96 {p : Program} {l : Launch} {e : Env} {s : State} {m : MethodId} {args : Array Value} {below : List Frame} {meth : Method} {c : Code} (C : pw_C p s m args meth c cM_compareWhole 10 (some .long) "BitNumbersModel") (s0 : Int32) (hzs0 : s0 = 0 ∨ s0 = 1) {ls : Array Slot} (hl : lv_has ls 10 []) : W p l e rmM_compareWhole s m args below meth c s.heap [] 0 0 (MQ below (k2_QcV (.long (fM_compareWhole_96 s0))) args s 0 0 (fun _ => False)) (F0 m 96 ls [.int s0]) := by
  obtain ⟨hx, hb, hr, hml, hown, hts, hlocks⟩ := id C
  refine pw_call (va_runS (As := [.int s0]) (rest := []) ⟨hx, hb, hml, hown, hts⟩ (qM_truth l s0) (va_cwS 1 hts (gS w_566 w_567 w_34 w_568) rfl rfl rfl (by decide +kernel) ⟨Nat.le_of_ble_eq_true rfl, Nat.le_of_ble_eq_true rfl⟩) ⟨pw_bT, fun U hU hW => ⟨rfl, trivial⟩⟩ rfl rfl hl.1 rfl (lv_room (Nat.le_of_ble_eq_true rfl)) dM_compareWhole_96 ⟨Nat.zero_le _, Nat.zero_le _⟩) ?_
  exact W.lret hx hb hr (fun t ht _ => ⟨by rw [(show fM_compareWhole_96 s0 = fM_truth s0 by rw [fM_compareWhole_96])], ht⟩) (fun q h => nomatch h) dM_compareWhole_99
set_option maxHeartbeats 4000000 in
set_option maxRecDepth 100000 in
theorem kM_compareWhole_80 {p : Program} {l : Launch} {e : Env} {s : State} {m : MethodId} {args : Array Value} {below : List Frame} {meth : Method} {c : Code} (C : pw_C p s m args meth c cM_compareWhole 10 (some .long) "BitNumbersModel") (s0 : Int32) (hzs0 : s0 = 0 ∨ s0 = 1) {ls : Array Slot} (hl : lv_has ls 10 []) : W p l e rmM_compareWhole s m args below meth c s.heap [] 0 0 (MQ below (k2_QcV (.long (fM_compareWhole_80 s0))) args s 0 0 (fun _ => False)) (F0 m 80 ls [.int s0]) := by
  obtain ⟨hx, hb, hr, hml, hown, hts, hlocks⟩ := id C
  refine pw_call (va_runS (As := [.int s0]) (rest := []) ⟨hx, hb, hml, hown, hts⟩ (qM_truth l s0) (va_cwS 1 hts (gS w_566 w_567 w_34 w_568) rfl rfl rfl (by decide +kernel) ⟨Nat.le_of_ble_eq_true rfl, Nat.le_of_ble_eq_true rfl⟩) ⟨pw_bT, fun U hU hW => ⟨rfl, trivial⟩⟩ rfl rfl hl.1 rfl (lv_room (Nat.le_of_ble_eq_true rfl)) dM_compareWhole_80 ⟨Nat.zero_le _, Nat.zero_le _⟩) ?_
  exact W.lret hx hb hr (fun t ht _ => ⟨by rw [(show fM_compareWhole_80 s0 = fM_truth s0 by rw [fM_compareWhole_80])], ht⟩) (fun q h => nomatch h) dM_compareWhole_83
set_option maxHeartbeats 4000000 in
set_option maxRecDepth 100000 in
theorem kM_compareWhole_15 {p : Program} {l : Launch} {e : Env} {s : State} {m : MethodId} {args : Array Value} {below : List Frame} {meth : Method} {c : Code} (C : pw_C p s m args meth c cM_compareWhole 10 (some .long) "BitNumbersModel") (a0 : Int32) (a2 : Int64) (a4 : Int64) (a6 : Int64) (a8 : Int64) {ls : Array Slot} (hl : lv_has ls 10 [(0, .int a0), (2, .long a2), (4, .long a4), (6, .long a6), (8, .long a8)]) : W p l e rmM_compareWhole s m args below meth c s.heap [] 0 0 (MQ below (k2_QcV (.long (fM_compareWhole_15 a0 a2 a4 a6 a8))) args s 0 0 (fun _ => False)) (F0 m 15 ls []) := by
  obtain ⟨hx, hb, hr, hml, hown, hts, hlocks⟩ := id C
  refine lv_iload_n hx hb dM_compareWhole_15 rfl (lv_at hl 0 rfl) ?_
  by_cases h1 : a0 = 0
  · refine lv_tableIn (tgt := 68) hx hb dM_compareWhole_16 (by rw [h1]; decide) (by rw [h1]; decide) (off := 52) (by rw [h1]; rfl) (by decide) ?_
    refine lv_lload_n hx hb dM_compareWhole_68 rfl (lv_at hl 1 rfl) ?_
    refine lv_lload hx hb dM_compareWhole_69 (lv_at hl 2 rfl) ?_
    refine W.lcmp hx hb dM_compareWhole_71 ?_
    refine lv_if_ne (tgt := 79) hx hb dM_compareWhole_72 (by decide) (fun h2 => ?_) (fun h2 => ?_)
    · have h2 : ¬ (a2 = a4) := fun w => h2 ((lg_cmp_eq _ _).mpr w)
      refine lv_iconst (v := 0) hx hb dM_compareWhole_79 (by decide) ?_
      rw [(show fM_compareWhole_15 a0 a2 a4 a6 a8 = fM_compareWhole_80 0 by rw [fM_compareWhole_15, if_pos h1, if_neg h2])]
      exact kM_compareWhole_80 C 0 (Or.inl rfl) (lv_sub hl [] rfl)
    · have h2 : a2 = a4 := (lg_cmp_eq _ _).mp h2
      refine lv_iconst (v := 1) hx hb dM_compareWhole_75 (by decide) ?_
      refine lv_goto (tgt := 80) hx hb dM_compareWhole_76 (by decide) ?_
      rw [(show fM_compareWhole_15 a0 a2 a4 a6 a8 = fM_compareWhole_80 1 by rw [fM_compareWhole_15, if_pos h1, if_pos h2])]
      exact kM_compareWhole_80 C 1 (Or.inr rfl) (lv_sub hl [] rfl)
  by_cases h3 : a0 = 1
  · refine lv_tableIn (tgt := 84) hx hb dM_compareWhole_16 (by rw [h3]; decide) (by rw [h3]; decide) (off := 68) (by rw [h3]; rfl) (by decide) ?_
    refine lv_lload_n hx hb dM_compareWhole_84 rfl (lv_at hl 1 rfl) ?_
    refine lv_lload hx hb dM_compareWhole_85 (lv_at hl 2 rfl) ?_
    refine W.lcmp hx hb dM_compareWhole_87 ?_
    refine lv_if_eq (tgt := 95) hx hb dM_compareWhole_88 (by decide) (fun h4 => ?_) (fun h4 => ?_)
    · have h4 : a2 = a4 := (lg_cmp_eq _ _).mp h4
      refine lv_iconst (v := 0) hx hb dM_compareWhole_95 (by decide) ?_
      rw [(show fM_compareWhole_15 a0 a2 a4 a6 a8 = fM_compareWhole_96 0 by rw [fM_compareWhole_15, if_neg h1, if_pos h3, if_pos h4])]
      exact kM_compareWhole_96 C 0 (Or.inl rfl) (lv_sub hl [] rfl)
    · have h4 : ¬ (a2 = a4) := fun w => h4 ((lg_cmp_eq _ _).mpr w)
      refine lv_iconst (v := 1) hx hb dM_compareWhole_91 (by decide) ?_
      refine lv_goto (tgt := 96) hx hb dM_compareWhole_92 (by decide) ?_
      rw [(show fM_compareWhole_15 a0 a2 a4 a6 a8 = fM_compareWhole_96 1 by rw [fM_compareWhole_15, if_neg h1, if_pos h3, if_neg h4])]
      exact kM_compareWhole_96 C 1 (Or.inr rfl) (lv_sub hl [] rfl)
  by_cases h5 : a0 = 2
  · refine lv_tableIn (tgt := 100) hx hb dM_compareWhole_16 (by rw [h5]; decide) (by rw [h5]; decide) (off := 84) (by rw [h5]; rfl) (by decide) ?_
    refine lv_lload hx hb dM_compareWhole_100 (lv_at hl 3 rfl) ?_
    refine lv_lload hx hb dM_compareWhole_102 (lv_at hl 4 rfl) ?_
    refine W.lcmp hx hb dM_compareWhole_104 ?_
    refine lv_if_ge (tgt := 112) hx hb dM_compareWhole_105 (by decide) (fun h6 => ?_) (fun h6 => ?_)
    · have h6 : a8 ≤ a6 := (lg_cmp_ge _ _).mp h6
      refine lv_iconst (v := 0) hx hb dM_compareWhole_112 (by decide) ?_
      rw [(show fM_compareWhole_15 a0 a2 a4 a6 a8 = fM_compareWhole_113 0 by rw [fM_compareWhole_15, if_neg h1, if_neg h3, if_pos h5, if_pos h6])]
      exact kM_compareWhole_113 C 0 (Or.inl rfl) (lv_sub hl [] rfl)
    · have h6 : ¬ (a8 ≤ a6) := fun w => h6 ((lg_cmp_ge _ _).mpr w)
      refine lv_iconst (v := 1) hx hb dM_compareWhole_108 (by decide) ?_
      refine lv_goto (tgt := 113) hx hb dM_compareWhole_109 (by decide) ?_
      rw [(show fM_compareWhole_15 a0 a2 a4 a6 a8 = fM_compareWhole_113 1 by rw [fM_compareWhole_15, if_neg h1, if_neg h3, if_pos h5, if_neg h6])]
      exact kM_compareWhole_113 C 1 (Or.inr rfl) (lv_sub hl [] rfl)
  by_cases h7 : a0 = 3
  · refine lv_tableIn (tgt := 117) hx hb dM_compareWhole_16 (by rw [h7]; decide) (by rw [h7]; decide) (off := 101) (by rw [h7]; rfl) (by decide) ?_
    refine lv_lload_n hx hb dM_compareWhole_117 rfl (lv_at hl 1 rfl) ?_
    refine lv_lload hx hb dM_compareWhole_118 (lv_at hl 2 rfl) ?_
    refine pw_call (va_runS (As := [.long a2, .long a4]) (rest := []) ⟨hx, hb, hml, hown, hts⟩ (qM_isBelow l a2 a4) (va_cwS 2 hts (gS w_575 w_576 w_34 w_577) rfl rfl rfl (by decide +kernel) ⟨Nat.le_of_ble_eq_true rfl, Nat.le_of_ble_eq_true rfl⟩) ⟨pw_bT, fun U hU hW => ⟨rfl, trivial⟩⟩ rfl rfl hl.1 rfl (lv_room (Nat.le_of_ble_eq_true rfl)) dM_compareWhole_120 ⟨Nat.zero_le _, Nat.zero_le _⟩) ?_
    refine pw_call (va_runS (As := [.int (fM_isBelow a2 a4)]) (rest := []) ⟨hx, hb, hml, hown, hts⟩ (qM_truth l (fM_isBelow a2 a4)) (va_cwS 1 hts (gS w_566 w_567 w_34 w_568) rfl rfl rfl (by decide +kernel) ⟨Nat.le_of_ble_eq_true rfl, Nat.le_of_ble_eq_true rfl⟩) ⟨pw_bT, fun U hU hW => ⟨rfl, trivial⟩⟩ rfl rfl hl.1 rfl (lv_room (Nat.le_of_ble_eq_true rfl)) dM_compareWhole_123 ⟨Nat.zero_le _, Nat.zero_le _⟩) ?_
    exact W.lret hx hb hr (fun t ht _ => ⟨by rw [(show fM_compareWhole_15 a0 a2 a4 a6 a8 = fM_truth (fM_isBelow a2 a4) by rw [fM_compareWhole_15, if_neg h1, if_neg h3, if_neg h5, if_pos h7])], ht⟩) (fun q h => nomatch h) dM_compareWhole_126
  by_cases h8 : a0 = 4
  · refine lv_tableIn (tgt := 127) hx hb dM_compareWhole_16 (by rw [h8]; decide) (by rw [h8]; decide) (off := 111) (by rw [h8]; rfl) (by decide) ?_
    refine lv_lload hx hb dM_compareWhole_127 (lv_at hl 3 rfl) ?_
    refine lv_lload hx hb dM_compareWhole_129 (lv_at hl 4 rfl) ?_
    refine W.lcmp hx hb dM_compareWhole_131 ?_
    refine lv_if_le (tgt := 139) hx hb dM_compareWhole_132 (by decide) (fun h9 => ?_) (fun h9 => ?_)
    · have h9 : a6 ≤ a8 := (lg_cmp_le _ _).mp h9
      refine lv_iconst (v := 0) hx hb dM_compareWhole_139 (by decide) ?_
      rw [(show fM_compareWhole_15 a0 a2 a4 a6 a8 = fM_compareWhole_140 0 by rw [fM_compareWhole_15, if_neg h1, if_neg h3, if_neg h5, if_neg h7, if_pos h8, if_pos h9])]
      exact kM_compareWhole_140 C 0 (Or.inl rfl) (lv_sub hl [] rfl)
    · have h9 : ¬ (a6 ≤ a8) := fun w => h9 ((lg_cmp_le _ _).mpr w)
      refine lv_iconst (v := 1) hx hb dM_compareWhole_135 (by decide) ?_
      refine lv_goto (tgt := 140) hx hb dM_compareWhole_136 (by decide) ?_
      rw [(show fM_compareWhole_15 a0 a2 a4 a6 a8 = fM_compareWhole_140 1 by rw [fM_compareWhole_15, if_neg h1, if_neg h3, if_neg h5, if_neg h7, if_pos h8, if_neg h9])]
      exact kM_compareWhole_140 C 1 (Or.inr rfl) (lv_sub hl [] rfl)
  by_cases h10 : a0 = 5
  · refine lv_tableIn (tgt := 144) hx hb dM_compareWhole_16 (by rw [h10]; decide) (by rw [h10]; decide) (off := 128) (by rw [h10]; rfl) (by decide) ?_
    refine lv_lload hx hb dM_compareWhole_144 (lv_at hl 2 rfl) ?_
    refine lv_lload_n hx hb dM_compareWhole_146 rfl (lv_at hl 1 rfl) ?_
    refine pw_call (va_runS (As := [.long a4, .long a2]) (rest := []) ⟨hx, hb, hml, hown, hts⟩ (qM_isBelow l a4 a2) (va_cwS 2 hts (gS w_575 w_576 w_34 w_577) rfl rfl rfl (by decide +kernel) ⟨Nat.le_of_ble_eq_true rfl, Nat.le_of_ble_eq_true rfl⟩) ⟨pw_bT, fun U hU hW => ⟨rfl, trivial⟩⟩ rfl rfl hl.1 rfl (lv_room (Nat.le_of_ble_eq_true rfl)) dM_compareWhole_147 ⟨Nat.zero_le _, Nat.zero_le _⟩) ?_
    refine pw_call (va_runS (As := [.int (fM_isBelow a4 a2)]) (rest := []) ⟨hx, hb, hml, hown, hts⟩ (qM_truth l (fM_isBelow a4 a2)) (va_cwS 1 hts (gS w_566 w_567 w_34 w_568) rfl rfl rfl (by decide +kernel) ⟨Nat.le_of_ble_eq_true rfl, Nat.le_of_ble_eq_true rfl⟩) ⟨pw_bT, fun U hU hW => ⟨rfl, trivial⟩⟩ rfl rfl hl.1 rfl (lv_room (Nat.le_of_ble_eq_true rfl)) dM_compareWhole_150 ⟨Nat.zero_le _, Nat.zero_le _⟩) ?_
    exact W.lret hx hb hr (fun t ht _ => ⟨by rw [(show fM_compareWhole_15 a0 a2 a4 a6 a8 = fM_truth (fM_isBelow a4 a2) by rw [fM_compareWhole_15, if_neg h1, if_neg h3, if_neg h5, if_neg h7, if_neg h8, if_pos h10])], ht⟩) (fun q h => nomatch h) dM_compareWhole_153
  by_cases h11 : a0 = 6
  · refine lv_tableIn (tgt := 154) hx hb dM_compareWhole_16 (by rw [h11]; decide) (by rw [h11]; decide) (off := 138) (by rw [h11]; rfl) (by decide) ?_
    refine lv_lload hx hb dM_compareWhole_154 (lv_at hl 3 rfl) ?_
    refine lv_lload hx hb dM_compareWhole_156 (lv_at hl 4 rfl) ?_
    refine W.lcmp hx hb dM_compareWhole_158 ?_
    refine lv_if_gt (tgt := 166) hx hb dM_compareWhole_159 (by decide) (fun h12 => ?_) (fun h12 => ?_)
    · have h12 : a8 < a6 := (lg_cmp_gt _ _).mp h12
      refine lv_iconst (v := 0) hx hb dM_compareWhole_166 (by decide) ?_
      rw [(show fM_compareWhole_15 a0 a2 a4 a6 a8 = fM_compareWhole_167 0 by rw [fM_compareWhole_15, if_neg h1, if_neg h3, if_neg h5, if_neg h7, if_neg h8, if_neg h10, if_pos h11, if_pos h12])]
      exact kM_compareWhole_167 C 0 (Or.inl rfl) (lv_sub hl [] rfl)
    · have h12 : ¬ (a8 < a6) := fun w => h12 ((lg_cmp_gt _ _).mpr w)
      refine lv_iconst (v := 1) hx hb dM_compareWhole_162 (by decide) ?_
      refine lv_goto (tgt := 167) hx hb dM_compareWhole_163 (by decide) ?_
      rw [(show fM_compareWhole_15 a0 a2 a4 a6 a8 = fM_compareWhole_167 1 by rw [fM_compareWhole_15, if_neg h1, if_neg h3, if_neg h5, if_neg h7, if_neg h8, if_neg h10, if_pos h11, if_neg h12])]
      exact kM_compareWhole_167 C 1 (Or.inr rfl) (lv_sub hl [] rfl)
  by_cases h13 : a0 = 7
  · refine lv_tableIn (tgt := 171) hx hb dM_compareWhole_16 (by rw [h13]; decide) (by rw [h13]; decide) (off := 155) (by rw [h13]; rfl) (by decide) ?_
    refine lv_lload hx hb dM_compareWhole_171 (lv_at hl 2 rfl) ?_
    refine lv_lload_n hx hb dM_compareWhole_173 rfl (lv_at hl 1 rfl) ?_
    refine pw_call (va_runS (As := [.long a4, .long a2]) (rest := []) ⟨hx, hb, hml, hown, hts⟩ (qM_isBelow l a4 a2) (va_cwS 2 hts (gS w_575 w_576 w_34 w_577) rfl rfl rfl (by decide +kernel) ⟨Nat.le_of_ble_eq_true rfl, Nat.le_of_ble_eq_true rfl⟩) ⟨pw_bT, fun U hU hW => ⟨rfl, trivial⟩⟩ rfl rfl hl.1 rfl (lv_room (Nat.le_of_ble_eq_true rfl)) dM_compareWhole_174 ⟨Nat.zero_le _, Nat.zero_le _⟩) ?_
    refine lv_if_ne (tgt := 184) hx hb dM_compareWhole_177 (by decide) (fun h14 => ?_) (fun h14 => ?_)
    · refine lv_iconst (v := 0) hx hb dM_compareWhole_184 (by decide) ?_
      rw [(show fM_compareWhole_15 a0 a2 a4 a6 a8 = fM_compareWhole_185 0 by rw [fM_compareWhole_15, if_neg h1, if_neg h3, if_neg h5, if_neg h7, if_neg h8, if_neg h10, if_neg h11, if_pos h13, if_neg h14])]
      exact kM_compareWhole_185 C 0 (Or.inl rfl) (lv_sub hl [] rfl)
    · refine lv_iconst (v := 1) hx hb dM_compareWhole_180 (by decide) ?_
      refine lv_goto (tgt := 185) hx hb dM_compareWhole_181 (by decide) ?_
      rw [(show fM_compareWhole_15 a0 a2 a4 a6 a8 = fM_compareWhole_185 1 by rw [fM_compareWhole_15, if_neg h1, if_neg h3, if_neg h5, if_neg h7, if_neg h8, if_neg h10, if_neg h11, if_pos h13, if_pos h14])]
      exact kM_compareWhole_185 C 1 (Or.inr rfl) (lv_sub hl [] rfl)
  by_cases h15 : a0 = 8
  · refine lv_tableIn (tgt := 189) hx hb dM_compareWhole_16 (by rw [h15]; decide) (by rw [h15]; decide) (off := 173) (by rw [h15]; rfl) (by decide) ?_
    refine lv_lload hx hb dM_compareWhole_189 (lv_at hl 3 rfl) ?_
    refine lv_lload hx hb dM_compareWhole_191 (lv_at hl 4 rfl) ?_
    refine W.lcmp hx hb dM_compareWhole_193 ?_
    refine lv_if_lt (tgt := 201) hx hb dM_compareWhole_194 (by decide) (fun h16 => ?_) (fun h16 => ?_)
    · have h16 : a6 < a8 := (lg_cmp_lt _ _).mp h16
      refine lv_iconst (v := 0) hx hb dM_compareWhole_201 (by decide) ?_
      rw [(show fM_compareWhole_15 a0 a2 a4 a6 a8 = fM_compareWhole_202 0 by rw [fM_compareWhole_15, if_neg h1, if_neg h3, if_neg h5, if_neg h7, if_neg h8, if_neg h10, if_neg h11, if_neg h13, if_pos h15, if_pos h16])]
      exact kM_compareWhole_202 C 0 (Or.inl rfl) (lv_sub hl [] rfl)
    · have h16 : ¬ (a6 < a8) := fun w => h16 ((lg_cmp_lt _ _).mpr w)
      refine lv_iconst (v := 1) hx hb dM_compareWhole_197 (by decide) ?_
      refine lv_goto (tgt := 202) hx hb dM_compareWhole_198 (by decide) ?_
      rw [(show fM_compareWhole_15 a0 a2 a4 a6 a8 = fM_compareWhole_202 1 by rw [fM_compareWhole_15, if_neg h1, if_neg h3, if_neg h5, if_neg h7, if_neg h8, if_neg h10, if_neg h11, if_neg h13, if_pos h15, if_neg h16])]
      exact kM_compareWhole_202 C 1 (Or.inr rfl) (lv_sub hl [] rfl)
  refine pw_tableD (tgt := 206) hx hb dM_compareWhole_16 ?_ (by decide) ?_
  · have th1 := lv_neT h1 (a := 0) (by decide)
    have th3 := lv_neT h3 (a := 1) (by decide)
    have th5 := lv_neT h5 (a := 2) (by decide)
    have th7 := lv_neT h7 (a := 3) (by decide)
    have th8 := lv_neT h8 (a := 4) (by decide)
    have th10 := lv_neT h10 (a := 5) (by decide)
    have th11 := lv_neT h11 (a := 6) (by decide)
    have th13 := lv_neT h13 (a := 7) (by decide)
    have th15 := lv_neT h15 (a := 8) (by decide)
    exact (show a0.toInt < 0 ∨ 8 < a0.toInt by omega).elim Or.inl (fun q => Or.inr (Or.inl q))
  refine lv_lload_n hx hb dM_compareWhole_206 rfl (lv_at hl 1 rfl) ?_
  refine lv_lload hx hb dM_compareWhole_207 (lv_at hl 2 rfl) ?_
  refine pw_call (va_runS (As := [.long a2, .long a4]) (rest := []) ⟨hx, hb, hml, hown, hts⟩ (qM_isBelow l a2 a4) (va_cwS 2 hts (gS w_575 w_576 w_34 w_577) rfl rfl rfl (by decide +kernel) ⟨Nat.le_of_ble_eq_true rfl, Nat.le_of_ble_eq_true rfl⟩) ⟨pw_bT, fun U hU hW => ⟨rfl, trivial⟩⟩ rfl rfl hl.1 rfl (lv_room (Nat.le_of_ble_eq_true rfl)) dM_compareWhole_209 ⟨Nat.zero_le _, Nat.zero_le _⟩) ?_
  refine lv_if_ne (tgt := 219) hx hb dM_compareWhole_212 (by decide) (fun h17 => ?_) (fun h17 => ?_)
  · refine lv_iconst (v := 0) hx hb dM_compareWhole_219 (by decide) ?_
    rw [(show fM_compareWhole_15 a0 a2 a4 a6 a8 = fM_compareWhole_220 0 by rw [fM_compareWhole_15, if_neg h1, if_neg h3, if_neg h5, if_neg h7, if_neg h8, if_neg h10, if_neg h11, if_neg h13, if_neg h15, if_neg h17])]
    exact kM_compareWhole_220 C 0 (Or.inl rfl) (lv_sub hl [] rfl)
  · refine lv_iconst (v := 1) hx hb dM_compareWhole_215 (by decide) ?_
    refine lv_goto (tgt := 220) hx hb dM_compareWhole_216 (by decide) ?_
    rw [(show fM_compareWhole_15 a0 a2 a4 a6 a8 = fM_compareWhole_220 1 by rw [fM_compareWhole_15, if_neg h1, if_neg h3, if_neg h5, if_neg h7, if_neg h8, if_neg h10, if_neg h11, if_neg h13, if_neg h15, if_pos h17])]
    exact kM_compareWhole_220 C 1 (Or.inr rfl) (lv_sub hl [] rfl)
set_option maxHeartbeats 4000000 in
set_option maxRecDepth 100000 in
theorem kM_compareWhole_7 {p : Program} {l : Launch} {e : Env} {s : State} {m : MethodId} {args : Array Value} {below : List Frame} {meth : Method} {c : Code} (C : pw_C p s m args meth c cM_compareWhole 10 (some .long) "BitNumbersModel") (a0 : Int32) (a1 : Int32) (a2 : Int64) (a4 : Int64) (a6 : Int64) {ls : Array Slot} (hl : lv_has ls 10 [(0, .int a0), (1, .int a1), (2, .long a2), (4, .long a4), (6, .long a6)]) : W p l e rmM_compareWhole s m args below meth c s.heap [] 0 0 (MQ below (k2_QcV (.long (fM_compareWhole_7 a0 a1 a2 a4 a6))) args s 0 0 (fun _ => False)) (F0 m 7 ls []) := by
  obtain ⟨hx, hb, hr, hml, hown, hts, hlocks⟩ := id C
  refine lv_iload_n hx hb dM_compareWhole_7 rfl (lv_at hl 1 rfl) ?_
  refine lv_lload hx hb dM_compareWhole_8 (lv_at hl 3 rfl) ?_
  refine pw_call (va_runS (As := [.int a1, .long a4]) (rest := []) ⟨hx, hb, hml, hown, hts⟩ (qM_withSign l a1 a4) (va_cwS 2 hts (gS w_572 w_573 w_34 w_574) rfl rfl rfl (by decide +kernel) ⟨Nat.le_of_ble_eq_true rfl, Nat.le_of_ble_eq_true rfl⟩) ⟨pw_bT, fun U hU hW => ⟨rfl, trivial⟩⟩ rfl rfl hl.1 rfl (lv_room (Nat.le_of_ble_eq_true rfl)) dM_compareWhole_10 ⟨Nat.zero_le _, Nat.zero_le _⟩) ?_
  refine lv_lstore (lv' := [(8, .long (fM_withSign a1 a4)), (0, .int a0), (1, .int a1), (2, .long a2), (4, .long a4), (6, .long a6)]) hx hb dM_compareWhole_13 hl (by decide) rfl (fun ls hl => ?_)
  rw [(show fM_compareWhole_7 a0 a1 a2 a4 a6 = fM_compareWhole_15 a0 a2 a4 a6 (fM_withSign a1 a4) by rw [fM_compareWhole_7])]
  exact kM_compareWhole_15 C a0 a2 a4 a6 (fM_withSign a1 a4) (lv_sub hl [1, 3, 4, 5, 0] rfl)
set_option maxHeartbeats 4000000 in
set_option maxRecDepth 100000 in
theorem kM_compareWhole_0 {p : Program} {l : Launch} {e : Env} {s : State} {m : MethodId} {args : Array Value} {below : List Frame} {meth : Method} {c : Code} (C : pw_C p s m args meth c cM_compareWhole 10 (some .long) "BitNumbersModel") (a0 : Int32) (a1 : Int32) (a2 : Int64) (a4 : Int64) {ls : Array Slot} (hl : lv_has ls 10 [(0, .int a0), (1, .int a1), (2, .long a2), (4, .long a4)]) : W p l e rmM_compareWhole s m args below meth c s.heap [] 0 0 (MQ below (k2_QcV (.long (fM_compareWhole a0 a1 a2 a4))) args s 0 0 (fun _ => False)) (F0 m 0 ls []) := by
  obtain ⟨hx, hb, hr, hml, hown, hts, hlocks⟩ := id C
  refine lv_iload_n hx hb dM_compareWhole_0 rfl (lv_at hl 1 rfl) ?_
  refine lv_lload_n hx hb dM_compareWhole_1 rfl (lv_at hl 2 rfl) ?_
  refine pw_call (va_runS (As := [.int a1, .long a2]) (rest := []) ⟨hx, hb, hml, hown, hts⟩ (qM_withSign l a1 a2) (va_cwS 2 hts (gS w_572 w_573 w_34 w_574) rfl rfl rfl (by decide +kernel) ⟨Nat.le_of_ble_eq_true rfl, Nat.le_of_ble_eq_true rfl⟩) ⟨pw_bT, fun U hU hW => ⟨rfl, trivial⟩⟩ rfl rfl hl.1 rfl (lv_room (Nat.le_of_ble_eq_true rfl)) dM_compareWhole_2 ⟨Nat.zero_le _, Nat.zero_le _⟩) ?_
  refine lv_lstore (lv' := [(6, .long (fM_withSign a1 a2)), (0, .int a0), (1, .int a1), (2, .long a2), (4, .long a4)]) hx hb dM_compareWhole_5 hl (by decide) rfl (fun ls hl => ?_)
  rw [(show fM_compareWhole a0 a1 a2 a4 = fM_compareWhole_7 a0 a1 a2 a4 (fM_withSign a1 a2) by rw [fM_compareWhole])]
  exact kM_compareWhole_7 C a0 a1 a2 a4 (fM_withSign a1 a2) (lv_sub hl [1, 2, 3, 4, 0] rfl)
set_option maxHeartbeats 4000000 in
set_option maxRecDepth 100000 in
theorem qM_compareWhole (l : Launch) (a0 : Int32) (a1 : Int32) (a2 : Int64) (a4 : Int64) : Met l yM_compareWhole wsM_compareWhole rmM_compareWhole (va_Pc [.int a0, .int a1, .long a2, .long a4] (fun _ => True)) (k2_QcV (.long (fM_compareWhole a0 a1 a2 a4))) 0 0 (fun _ => False) := by
  refine Met.ofW (cc := cM_compareWhole) (maxL := 10) (ret := (some .long)) (by decide) rfl ?_
  intro p e s m args below meth c s₁ B hml hv
  obtain ⟨rfl, hG⟩ := hv
  have hts0 := atoms_spec (ws := wsM_compareWhole) B.pre
  have hts := fun (w : Cond) (h : w ∈ aw) => hts0 w (List.mem_cons_of_mem _ h)
  have hown : s.vm.findClass "BitNumbersModel" = some m.cls := findClass_of_methodNamed B.named
  have hl := lv_entry ([.int a0, .int a1, .long a2, .long a4]) (n := 10) (Nat.le_of_ble_eq_true rfl)
  rw [lg_entry_eq]
  generalize (lg_sl ([.int a0, .int a1, .long a2, .long a4]) ++ List.replicate (10 - (lg_sl ([.int a0, .int a1, .long a2, .long a4])).length) Slot.unset).toArray = ls at hl ⊢
  exact kM_compareWhole_0 ⟨B.exec, B.bytes, B.returns, hml, hown, hts, B.notSynchronized⟩ a0 a1 a2 a4 hl

set_option maxHeartbeats 4000000 in
set_option maxRecDepth 100000 in
theorem kM_zerosAhead_32 {p : Program} {l : Launch} {e : Env} {s : State} {m : MethodId} {args : Array Value} {below : List Frame} {meth : Method} {c : Code} (C : pw_C p s m args meth c cM_zerosAhead 5 (some .long) "BitNumbersModel") (a3 : Int64) {ls : Array Slot} (hl : lv_has ls 5 [(3, .long a3)]) : W p l e rmM_zerosAhead s m args below meth c s.heap [] 0 0 (MQ below (k2_QcV (.long (fM_zerosAhead_32 a3))) args s 0 0 (fun _ => False)) (F0 m 32 ls []) := by
  obtain ⟨hx, hb, hr, hml, hown, hts, hlocks⟩ := id C
  refine lv_lload_n hx hb dM_zerosAhead_32 rfl (lv_at hl 0 rfl) ?_
  exact W.lret hx hb hr (fun t ht _ => ⟨by rw [(show fM_zerosAhead_32 a3 = a3 by rw [fM_zerosAhead_32])], ht⟩) (fun q h => nomatch h) dM_zerosAhead_33
set_option maxHeartbeats 4000000 in
set_option maxRecDepth 100000 in
theorem kM_zerosAhead_2 {p : Program} {l : Launch} {e : Env} {s : State} {m : MethodId} {args : Array Value} {below : List Frame} {meth : Method} {c : Code} (C : pw_C p s m args meth c cM_zerosAhead 5 (some .long) "BitNumbersModel") : ∀ (n : Nat) (a0 : Int32) (a1 : Int64) (a3 : Int64) (hn : a0 ≤ 64) (hI : pw_LZ a3 n) {ls : Array Slot} (hl : lv_has ls 5 [(0, .int a0), (1, .long a1), (3, .long a3)]), W p l e rmM_zerosAhead s m args below meth c s.heap [] 0 0 (MQ below (k2_QcV (.long (fM_zerosAhead_2 n a0 a1 a3))) args s 0 0 (fun _ => False)) (F0 m 2 ls []) := by
  obtain ⟨hx, hb, hr, hml, hown, hts, hlocks⟩ := id C
  intro n
  induction n with
  | zero =>
    intro a0 a1 a3 hn hI
    exact absurd hI pw_LZ_zero
  | succ n ih =>
    intro a0 a1 a3 hn hI ls hl
    refine lv_lload_n hx hb dM_zerosAhead_2 rfl (lv_at hl 2 rfl) ?_
    refine lv_iload_n hx hb dM_zerosAhead_3 rfl (lv_at hl 0 rfl) ?_
    refine lv_i2l hx hb dM_zerosAhead_4 rfl ?_
    refine W.lcmp hx hb dM_zerosAhead_5 ?_
    refine lv_if_ge (tgt := 32) hx hb dM_zerosAhead_6 (by decide) (fun h1 => ?_) (fun h1 => ?_)
    · have h1 : a0.toInt64 ≤ a3 := (lg_cmp_ge _ _).mp h1
      rw [(show fM_zerosAhead_2 (n + 1) a0 a1 a3 = fM_zerosAhead_32 a3 by rw [fM_zerosAhead_2, if_pos h1])]
      exact kM_zerosAhead_32 C a3 (lv_sub hl [2] rfl)
    · have h1 : ¬ (a0.toInt64 ≤ a3) := fun w => h1 ((lg_cmp_ge _ _).mpr w)
      refine lv_lload_n hx hb dM_zerosAhead_9 rfl (lv_at hl 1 rfl) ?_
      refine lv_iload_n hx hb dM_zerosAhead_10 rfl (lv_at hl 0 rfl) ?_
      refine lv_iconst (v := 1) hx hb dM_zerosAhead_11 (by decide) ?_
      refine lv_isub hx hb dM_zerosAhead_12 ?_
      refine lv_i2l hx hb dM_zerosAhead_13 rfl ?_
      refine lv_lload_n hx hb dM_zerosAhead_14 rfl (lv_at hl 2 rfl) ?_
      refine lv_lsub hx hb dM_zerosAhead_15 ?_
      refine lv_l2i hx hb dM_zerosAhead_16 rfl ?_
      refine lv_lshr (v := bn_sar a1 ((((a0 - 1).toInt64) - a3).toInt32)) hx hb dM_zerosAhead_17 rfl ?_
      refine lv_lconst (v := 1) hx hb dM_zerosAhead_18 (by decide) ?_
      refine lv_land hx hb dM_zerosAhead_19 ?_
      refine lv_lconst (v := 0) hx hb dM_zerosAhead_20 (by decide) ?_
      refine W.lcmp hx hb dM_zerosAhead_21 ?_
      refine lv_if_ne (tgt := 32) hx hb dM_zerosAhead_22 (by decide) (fun h2 => ?_) (fun h2 => ?_)
      · have h2 : ¬ (((bn_sar a1 ((((a0 - 1).toInt64) - a3).toInt32)) &&& 1) = 0) := fun w => h2 ((lg_cmp_eq _ _).mpr w)
        rw [(show fM_zerosAhead_2 (n + 1) a0 a1 a3 = fM_zerosAhead_32 a3 by rw [fM_zerosAhead_2, if_neg h1, if_neg h2])]
        exact kM_zerosAhead_32 C a3 (lv_sub hl [2] rfl)
      · have h2 : ((bn_sar a1 ((((a0 - 1).toInt64) - a3).toInt32)) &&& 1) = 0 := (lg_cmp_eq _ _).mp h2
        refine lv_lload_n hx hb dM_zerosAhead_25 rfl (lv_at hl 2 rfl) ?_
        refine lv_lconst (v := 1) hx hb dM_zerosAhead_26 (by decide) ?_
        refine lv_ladd hx hb dM_zerosAhead_27 ?_
        refine lv_lstore_n (lv' := [(3, .long (a3 + 1)), (0, .int a0), (1, .long a1)]) hx hb dM_zerosAhead_28 rfl hl (by decide) rfl (fun ls hl => ?_)
        refine lv_goto (tgt := 2) hx hb dM_zerosAhead_29 (by decide) ?_
        rw [(show fM_zerosAhead_2 (n + 1) a0 a1 a3 = fM_zerosAhead_2 n a0 a1 (a3 + 1) by rw [fM_zerosAhead_2, if_neg h1, if_pos h2])]
        exact ih a0 a1 (a3 + 1) hn (pw_LY_next (pw_LZ_body hn hI h1)) (lv_sub hl [1, 2, 0] rfl)
set_option maxHeartbeats 4000000 in
set_option maxRecDepth 100000 in
theorem kM_zerosAhead_0 {p : Program} {l : Launch} {e : Env} {s : State} {m : MethodId} {args : Array Value} {below : List Frame} {meth : Method} {c : Code} (C : pw_C p s m args meth c cM_zerosAhead 5 (some .long) "BitNumbersModel") (a0 : Int32) (a1 : Int64) (hn : a0 ≤ 64) {ls : Array Slot} (hl : lv_has ls 5 [(0, .int a0), (1, .long a1)]) : W p l e rmM_zerosAhead s m args below meth c s.heap [] 0 0 (MQ below (k2_QcV (.long (fM_zerosAhead a0 a1))) args s 0 0 (fun _ => False)) (F0 m 0 ls []) := by
  obtain ⟨hx, hb, hr, hml, hown, hts, hlocks⟩ := id C
  refine lv_lconst (v := 0) hx hb dM_zerosAhead_0 (by decide) ?_
  refine lv_lstore_n (lv' := [(3, .long 0), (0, .int a0), (1, .long a1)]) hx hb dM_zerosAhead_1 rfl hl (by decide) rfl (fun ls hl => ?_)
  rw [(show fM_zerosAhead a0 a1 = fM_zerosAhead_2 65 a0 a1 0 by rw [fM_zerosAhead])]
  exact kM_zerosAhead_2 C 65 a0 a1 0 hn (pw_LZ_init : pw_LZ 0 65) (lv_sub hl [1, 2, 0] rfl)
set_option maxHeartbeats 4000000 in
set_option maxRecDepth 100000 in
theorem qM_zerosAhead (l : Launch) (a0 : Int32) (a1 : Int64) (hn : a0 ≤ 64) : Met l yM_zerosAhead wsM_zerosAhead rmM_zerosAhead (va_Pc [.int a0, .long a1] (fun _ => True)) (k2_QcV (.long (fM_zerosAhead a0 a1))) 0 0 (fun _ => False) := by
  refine Met.ofW (cc := cM_zerosAhead) (maxL := 5) (ret := (some .long)) (by decide) rfl ?_
  intro p e s m args below meth c s₁ B hml hv
  obtain ⟨rfl, hG⟩ := hv
  have hts0 := atoms_spec (ws := wsM_zerosAhead) B.pre
  have hts := fun (w : Cond) (h : w ∈ aw) => hts0 w (List.mem_cons_of_mem _ h)
  have hown : s.vm.findClass "BitNumbersModel" = some m.cls := findClass_of_methodNamed B.named
  have hl := lv_entry ([.int a0, .long a1]) (n := 5) (Nat.le_of_ble_eq_true rfl)
  rw [lg_entry_eq]
  generalize (lg_sl ([.int a0, .long a1]) ++ List.replicate (5 - (lg_sl ([.int a0, .long a1])).length) Slot.unset).toArray = ls at hl ⊢
  exact kM_zerosAhead_0 ⟨B.exec, B.bytes, B.returns, hml, hown, hts, B.notSynchronized⟩ a0 a1 hn hl

set_option maxHeartbeats 4000000 in
set_option maxRecDepth 100000 in
theorem kM_zerosBehind_27 {p : Program} {l : Launch} {e : Env} {s : State} {m : MethodId} {args : Array Value} {below : List Frame} {meth : Method} {c : Code} (C : pw_C p s m args meth c cM_zerosBehind 5 (some .long) "BitNumbersModel") (a3 : Int64) {ls : Array Slot} (hl : lv_has ls 5 [(3, .long a3)]) : W p l e rmM_zerosBehind s m args below meth c s.heap [] 0 0 (MQ below (k2_QcV (.long (fM_zerosBehind_27 a3))) args s 0 0 (fun _ => False)) (F0 m 27 ls []) := by
  obtain ⟨hx, hb, hr, hml, hown, hts, hlocks⟩ := id C
  refine lv_lload_n hx hb dM_zerosBehind_27 rfl (lv_at hl 0 rfl) ?_
  exact W.lret hx hb hr (fun t ht _ => ⟨by rw [(show fM_zerosBehind_27 a3 = a3 by rw [fM_zerosBehind_27])], ht⟩) (fun q h => nomatch h) dM_zerosBehind_28
set_option maxHeartbeats 4000000 in
set_option maxRecDepth 100000 in
theorem kM_zerosBehind_2 {p : Program} {l : Launch} {e : Env} {s : State} {m : MethodId} {args : Array Value} {below : List Frame} {meth : Method} {c : Code} (C : pw_C p s m args meth c cM_zerosBehind 5 (some .long) "BitNumbersModel") : ∀ (n : Nat) (a0 : Int32) (a1 : Int64) (a3 : Int64) (hn : a0 ≤ 64) (hI : pw_LZ a3 n) {ls : Array Slot} (hl : lv_has ls 5 [(0, .int a0), (1, .long a1), (3, .long a3)]), W p l e rmM_zerosBehind s m args below meth c s.heap [] 0 0 (MQ below (k2_QcV (.long (fM_zerosBehind_2 n a0 a1 a3))) args s 0 0 (fun _ => False)) (F0 m 2 ls []) := by
  obtain ⟨hx, hb, hr, hml, hown, hts, hlocks⟩ := id C
  intro n
  induction n with
  | zero =>
    intro a0 a1 a3 hn hI
    exact absurd hI pw_LZ_zero
  | succ n ih =>
    intro a0 a1 a3 hn hI ls hl
    refine lv_lload_n hx hb dM_zerosBehind_2 rfl (lv_at hl 2 rfl) ?_
    refine lv_iload_n hx hb dM_zerosBehind_3 rfl (lv_at hl 0 rfl) ?_
    refine lv_i2l hx hb dM_zerosBehind_4 rfl ?_
    refine W.lcmp hx hb dM_zerosBehind_5 ?_
    refine lv_if_ge (tgt := 27) hx hb dM_zerosBehind_6 (by decide) (fun h1 => ?_) (fun h1 => ?_)
    · have h1 : a0.toInt64 ≤ a3 := (lg_cmp_ge _ _).mp h1
      rw [(show fM_zerosBehind_2 (n + 1) a0 a1 a3 = fM_zerosBehind_27 a3 by rw [fM_zerosBehind_2, if_pos h1])]
      exact kM_zerosBehind_27 C a3 (lv_sub hl [2] rfl)
    · have h1 : ¬ (a0.toInt64 ≤ a3) := fun w => h1 ((lg_cmp_ge _ _).mpr w)
      refine lv_lload_n hx hb dM_zerosBehind_9 rfl (lv_at hl 1 rfl) ?_
      refine lv_lload_n hx hb dM_zerosBehind_10 rfl (lv_at hl 2 rfl) ?_
      refine lv_l2i hx hb dM_zerosBehind_11 rfl ?_
      refine lv_lshr (v := bn_sar a1 a3.toInt32) hx hb dM_zerosBehind_12 rfl ?_
      refine lv_lconst (v := 1) hx hb dM_zerosBehind_13 (by decide) ?_
      refine lv_land hx hb dM_zerosBehind_14 ?_
      refine lv_lconst (v := 0) hx hb dM_zerosBehind_15 (by decide) ?_
      refine W.lcmp hx hb dM_zerosBehind_16 ?_
      refine lv_if_ne (tgt := 27) hx hb dM_zerosBehind_17 (by decide) (fun h2 => ?_) (fun h2 => ?_)
      · have h2 : ¬ (((bn_sar a1 a3.toInt32) &&& 1) = 0) := fun w => h2 ((lg_cmp_eq _ _).mpr w)
        rw [(show fM_zerosBehind_2 (n + 1) a0 a1 a3 = fM_zerosBehind_27 a3 by rw [fM_zerosBehind_2, if_neg h1, if_neg h2])]
        exact kM_zerosBehind_27 C a3 (lv_sub hl [2] rfl)
      · have h2 : ((bn_sar a1 a3.toInt32) &&& 1) = 0 := (lg_cmp_eq _ _).mp h2
        refine lv_lload_n hx hb dM_zerosBehind_20 rfl (lv_at hl 2 rfl) ?_
        refine lv_lconst (v := 1) hx hb dM_zerosBehind_21 (by decide) ?_
        refine lv_ladd hx hb dM_zerosBehind_22 ?_
        refine lv_lstore_n (lv' := [(3, .long (a3 + 1)), (0, .int a0), (1, .long a1)]) hx hb dM_zerosBehind_23 rfl hl (by decide) rfl (fun ls hl => ?_)
        refine lv_goto (tgt := 2) hx hb dM_zerosBehind_24 (by decide) ?_
        rw [(show fM_zerosBehind_2 (n + 1) a0 a1 a3 = fM_zerosBehind_2 n a0 a1 (a3 + 1) by rw [fM_zerosBehind_2, if_neg h1, if_pos h2])]
        exact ih a0 a1 (a3 + 1) hn (pw_LY_next (pw_LZ_body hn hI h1)) (lv_sub hl [1, 2, 0] rfl)
set_option maxHeartbeats 4000000 in
set_option maxRecDepth 100000 in
theorem kM_zerosBehind_0 {p : Program} {l : Launch} {e : Env} {s : State} {m : MethodId} {args : Array Value} {below : List Frame} {meth : Method} {c : Code} (C : pw_C p s m args meth c cM_zerosBehind 5 (some .long) "BitNumbersModel") (a0 : Int32) (a1 : Int64) (hn : a0 ≤ 64) {ls : Array Slot} (hl : lv_has ls 5 [(0, .int a0), (1, .long a1)]) : W p l e rmM_zerosBehind s m args below meth c s.heap [] 0 0 (MQ below (k2_QcV (.long (fM_zerosBehind a0 a1))) args s 0 0 (fun _ => False)) (F0 m 0 ls []) := by
  obtain ⟨hx, hb, hr, hml, hown, hts, hlocks⟩ := id C
  refine lv_lconst (v := 0) hx hb dM_zerosBehind_0 (by decide) ?_
  refine lv_lstore_n (lv' := [(3, .long 0), (0, .int a0), (1, .long a1)]) hx hb dM_zerosBehind_1 rfl hl (by decide) rfl (fun ls hl => ?_)
  rw [(show fM_zerosBehind a0 a1 = fM_zerosBehind_2 65 a0 a1 0 by rw [fM_zerosBehind])]
  exact kM_zerosBehind_2 C 65 a0 a1 0 hn (pw_LZ_init : pw_LZ 0 65) (lv_sub hl [1, 2, 0] rfl)
set_option maxHeartbeats 4000000 in
set_option maxRecDepth 100000 in
theorem qM_zerosBehind (l : Launch) (a0 : Int32) (a1 : Int64) (hn : a0 ≤ 64) : Met l yM_zerosBehind wsM_zerosBehind rmM_zerosBehind (va_Pc [.int a0, .long a1] (fun _ => True)) (k2_QcV (.long (fM_zerosBehind a0 a1))) 0 0 (fun _ => False) := by
  refine Met.ofW (cc := cM_zerosBehind) (maxL := 5) (ret := (some .long)) (by decide) rfl ?_
  intro p e s m args below meth c s₁ B hml hv
  obtain ⟨rfl, hG⟩ := hv
  have hts0 := atoms_spec (ws := wsM_zerosBehind) B.pre
  have hts := fun (w : Cond) (h : w ∈ aw) => hts0 w (List.mem_cons_of_mem _ h)
  have hown : s.vm.findClass "BitNumbersModel" = some m.cls := findClass_of_methodNamed B.named
  have hl := lv_entry ([.int a0, .long a1]) (n := 5) (Nat.le_of_ble_eq_true rfl)
  rw [lg_entry_eq]
  generalize (lg_sl ([.int a0, .long a1]) ++ List.replicate (5 - (lg_sl ([.int a0, .long a1])).length) Slot.unset).toArray = ls at hl ⊢
  exact kM_zerosBehind_0 ⟨B.exec, B.bytes, B.returns, hml, hown, hts, B.notSynchronized⟩ a0 a1 hn hl

set_option maxHeartbeats 4000000 in
set_option maxRecDepth 100000 in
theorem kM_ones_20 {p : Program} {l : Launch} {e : Env} {s : State} {m : MethodId} {args : Array Value} {below : List Frame} {meth : Method} {c : Code} (C : pw_C p s m args meth c cM_ones 6 (some .long) "BitNumbersModel") (a0 : Int32) (a1 : Int64) (a3 : Int64) (a5 : Int32) (hn : a0 ≤ 64) {n : Nat} (K : Int32 → Int64 → Int64 → Int32 → Int64) (hI : pw_NB a5 n) (hK : ∀ (b0 : Int32) (b1 : Int64) (b3 : Int64) (b5 : Int32) (hn : b0 ≤ 64) (hI : pw_N b5 n) {ls : Array Slot} (hl : lv_has ls 6 [(0, .int b0), (1, .long b1), (3, .long b3), (5, .int b5)]), W p l e rmM_ones s m args below meth c s.heap [] 0 0 (MQ below (k2_QcV (.long (K b0 b1 b3 b5))) args s 0 0 (fun _ => False)) (F0 m 5 ls [])) {ls : Array Slot} (hl : lv_has ls 6 [(0, .int a0), (1, .long a1), (3, .long a3), (5, .int a5)]) : W p l e rmM_ones s m args below meth c s.heap [] 0 0 (MQ below (k2_QcV (.long (fM_ones_20 K a0 a1 a3 a5))) args s 0 0 (fun _ => False)) (F0 m 20 ls []) := by
  obtain ⟨hx, hb, hr, hml, hown, hts, hlocks⟩ := id C
  refine lv_iinc (v := a5 + 1) (lv' := [(5, .int (a5 + 1)), (0, .int a0), (1, .long a1), (3, .long a3)]) hx hb dM_ones_20 hl (k := 3) rfl rfl (by decide) rfl (fun ls hl => ?_)
  refine lv_goto (tgt := 5) hx hb dM_ones_23 (by decide) ?_
  rw [(show fM_ones_20 K a0 a1 a3 a5 = K a0 a1 a3 (a5 + 1) by rw [fM_ones_20])]
  exact hK a0 a1 a3 (a5 + 1) hn (pw_NB_next hI) (lv_sub hl [1, 2, 3, 0] rfl)
set_option maxHeartbeats 4000000 in
set_option maxRecDepth 100000 in
theorem kM_ones_5 {p : Program} {l : Launch} {e : Env} {s : State} {m : MethodId} {args : Array Value} {below : List Frame} {meth : Method} {c : Code} (C : pw_C p s m args meth c cM_ones 6 (some .long) "BitNumbersModel") : ∀ (n : Nat) (a0 : Int32) (a1 : Int64) (a3 : Int64) (a5 : Int32) (hn : a0 ≤ 64) (hI : pw_N a5 n) {ls : Array Slot} (hl : lv_has ls 6 [(0, .int a0), (1, .long a1), (3, .long a3), (5, .int a5)]), W p l e rmM_ones s m args below meth c s.heap [] 0 0 (MQ below (k2_QcV (.long (fM_ones_5 n a0 a1 a3 a5))) args s 0 0 (fun _ => False)) (F0 m 5 ls []) := by
  obtain ⟨hx, hb, hr, hml, hown, hts, hlocks⟩ := id C
  intro n
  induction n with
  | zero =>
    intro a0 a1 a3 a5 hn hI
    exact absurd hI pw_N_zero
  | succ n ih =>
    intro a0 a1 a3 a5 hn hI ls hl
    refine lv_iload hx hb dM_ones_5 (lv_at hl 3 rfl) ?_
    refine lv_iload_n hx hb dM_ones_7 rfl (lv_at hl 0 rfl) ?_
    refine lv_icmp_ge (tgt := 26) hx hb dM_ones_8 (by decide) (fun h1 => ?_) (fun h1 => ?_)
    · refine lv_lload_n hx hb dM_ones_26 rfl (lv_at hl 2 rfl) ?_
      exact W.lret hx hb hr (fun t ht _ => ⟨by rw [(show fM_ones_5 (n + 1) a0 a1 a3 a5 = a3 by rw [fM_ones_5, if_pos h1])], ht⟩) (fun q h => nomatch h) dM_ones_27
    · refine lv_lload_n hx hb dM_ones_11 rfl (lv_at hl 2 rfl) ?_
      refine lv_lload_n hx hb dM_ones_12 rfl (lv_at hl 1 rfl) ?_
      refine lv_iload hx hb dM_ones_13 (lv_at hl 3 rfl) ?_
      refine lv_lshr (v := bn_sar a1 a5) hx hb dM_ones_15 rfl ?_
      refine lv_lconst (v := 1) hx hb dM_ones_16 (by decide) ?_
      refine lv_land hx hb dM_ones_17 ?_
      refine lv_ladd hx hb dM_ones_18 ?_
      refine lv_lstore_n (lv' := [(3, .long (a3 + ((bn_sar a1 a5) &&& 1))), (0, .int a0), (1, .long a1), (5, .int a5)]) hx hb dM_ones_19 rfl hl (by decide) rfl (fun ls hl => ?_)
      rw [(show fM_ones_5 (n + 1) a0 a1 a3 a5 = fM_ones_20 (fM_ones_5 n) a0 a1 (a3 + ((bn_sar a1 a5) &&& 1)) a5 by rw [fM_ones_5, if_neg h1])]
      exact kM_ones_20 C a0 a1 (a3 + ((bn_sar a1 a5) &&& 1)) a5 hn (fM_ones_5 n) (pw_N_body hn hI h1) (fun b0 b1 b3 b5 phn hI _ hl => ih b0 b1 b3 b5 phn hI hl) (lv_sub hl [1, 2, 0, 3] rfl)
set_option maxHeartbeats 4000000 in
set_option maxRecDepth 100000 in
theorem kM_ones_0 {p : Program} {l : Launch} {e : Env} {s : State} {m : MethodId} {args : Array Value} {below : List Frame} {meth : Method} {c : Code} (C : pw_C p s m args meth c cM_ones 6 (some .long) "BitNumbersModel") (a0 : Int32) (a1 : Int64) (hn : a0 ≤ 64) {ls : Array Slot} (hl : lv_has ls 6 [(0, .int a0), (1, .long a1)]) : W p l e rmM_ones s m args below meth c s.heap [] 0 0 (MQ below (k2_QcV (.long (fM_ones a0 a1))) args s 0 0 (fun _ => False)) (F0 m 0 ls []) := by
  obtain ⟨hx, hb, hr, hml, hown, hts, hlocks⟩ := id C
  refine lv_lconst (v := 0) hx hb dM_ones_0 (by decide) ?_
  refine lv_lstore_n (lv' := [(3, .long 0), (0, .int a0), (1, .long a1)]) hx hb dM_ones_1 rfl hl (by decide) rfl (fun ls hl => ?_)
  refine lv_iconst (v := 0) hx hb dM_ones_2 (by decide) ?_
  refine lv_istore (lv' := [(5, .int 0), (3, .long 0), (0, .int a0), (1, .long a1)]) hx hb dM_ones_3 hl (by decide) rfl (fun ls hl => ?_)
  rw [(show fM_ones a0 a1 = fM_ones_5 65 a0 a1 0 0 by rw [fM_ones])]
  exact kM_ones_5 C 65 a0 a1 0 0 hn (pw_N_init : pw_N 0 65) (lv_sub hl [2, 3, 1, 0] rfl)
set_option maxHeartbeats 4000000 in
set_option maxRecDepth 100000 in
theorem qM_ones (l : Launch) (a0 : Int32) (a1 : Int64) (hn : a0 ≤ 64) : Met l yM_ones wsM_ones rmM_ones (va_Pc [.int a0, .long a1] (fun _ => True)) (k2_QcV (.long (fM_ones a0 a1))) 0 0 (fun _ => False) := by
  refine Met.ofW (cc := cM_ones) (maxL := 6) (ret := (some .long)) (by decide) rfl ?_
  intro p e s m args below meth c s₁ B hml hv
  obtain ⟨rfl, hG⟩ := hv
  have hts0 := atoms_spec (ws := wsM_ones) B.pre
  have hts := fun (w : Cond) (h : w ∈ aw) => hts0 w (List.mem_cons_of_mem _ h)
  have hown : s.vm.findClass "BitNumbersModel" = some m.cls := findClass_of_methodNamed B.named
  have hl := lv_entry ([.int a0, .long a1]) (n := 6) (Nat.le_of_ble_eq_true rfl)
  rw [lg_entry_eq]
  generalize (lg_sl ([.int a0, .long a1]) ++ List.replicate (6 - (lg_sl ([.int a0, .long a1])).length) Slot.unset).toArray = ls at hl ⊢
  exact kM_ones_0 ⟨B.exec, B.bytes, B.returns, hml, hown, hts, B.notSynchronized⟩ a0 a1 hn hl

set_option maxHeartbeats 4000000 in
set_option maxRecDepth 100000 in
theorem kM_divide_100 {p : Program} {l : Launch} {e : Env} {s : State} {m : MethodId} {args : Array Value} {below : List Frame} {meth : Method} {c : Code} (C : pw_C p s m args meth c cM_divide 12 (some .long) "BitNumbersModel") (a0 : Int64) (a2 : Int64) (a4 : Int32) (a5 : Int64) (a7 : Int64) (a9 : Int32) {n : Nat} (K : Int64 → Int64 → Int32 → Int64 → Int64 → Int32 → Int64) (hI : pw_VB a9 n 65) (hK : ∀ (b0 : Int64) (b2 : Int64) (b4 : Int32) (b5 : Int64) (b7 : Int64) (b9 : Int32) (hI : pw_V b9 n 65) {ls : Array Slot} (hl : lv_has ls 12 [(0, .long b0), (2, .long b2), (4, .int b4), (5, .long b5), (7, .long b7), (9, .int b9)]), W p l e rmM_divide s m args below meth c s.heap [] 0 0 (MQ below (k2_QcV (.long (K b0 b2 b4 b5 b7 b9))) args s 0 0 (fun _ => False)) (F0 m 10 ls [])) {ls : Array Slot} (hl : lv_has ls 12 [(0, .long a0), (2, .long a2), (4, .int a4), (5, .long a5), (7, .long a7), (9, .int a9)]) : W p l e rmM_divide s m args below meth c s.heap [] 0 0 (MQ below (k2_QcV (.long (fM_divide_100 K a0 a2 a4 a5 a7 a9))) args s 0 0 (fun _ => False)) (F0 m 100 ls []) := by
  obtain ⟨hx, hb, hr, hml, hown, hts, hlocks⟩ := id C
  refine lv_iinc (v := a9 + (-1)) (lv' := [(9, .int (a9 + (-1))), (0, .long a0), (2, .long a2), (4, .int a4), (5, .long a5), (7, .long a7)]) hx hb dM_divide_100 hl (k := 5) rfl rfl (by decide) rfl (fun ls hl => ?_)
  refine lv_goto (tgt := 10) hx hb dM_divide_103 (by decide) ?_
  rw [(show fM_divide_100 K a0 a2 a4 a5 a7 a9 = K a0 a2 a4 a5 a7 (a9 + (-1)) by rw [fM_divide_100])]
  exact hK a0 a2 a4 a5 a7 (a9 + (-1)) (pw_VB_next hI) (lv_sub hl [1, 2, 3, 4, 5, 0] rfl)
set_option maxHeartbeats 4000000 in
set_option maxRecDepth 100000 in
theorem kM_divide_97 {p : Program} {l : Launch} {e : Env} {s : State} {m : MethodId} {args : Array Value} {below : List Frame} {meth : Method} {c : Code} (C : pw_C p s m args meth c cM_divide 12 (some .long) "BitNumbersModel") (a0 : Int64) (a2 : Int64) (a4 : Int32) (a7 : Int64) (a9 : Int32) (s0 : Int64) (s1 : Int64) {n : Nat} (K : Int64 → Int64 → Int32 → Int64 → Int64 → Int32 → Int64) (hI : pw_VB a9 n 65) (hK : ∀ (b0 : Int64) (b2 : Int64) (b4 : Int32) (b5 : Int64) (b7 : Int64) (b9 : Int32) (hI : pw_V b9 n 65) {ls : Array Slot} (hl : lv_has ls 12 [(0, .long b0), (2, .long b2), (4, .int b4), (5, .long b5), (7, .long b7), (9, .int b9)]), W p l e rmM_divide s m args below meth c s.heap [] 0 0 (MQ below (k2_QcV (.long (K b0 b2 b4 b5 b7 b9))) args s 0 0 (fun _ => False)) (F0 m 10 ls [])) {ls : Array Slot} (hl : lv_has ls 12 [(0, .long a0), (2, .long a2), (4, .int a4), (7, .long a7), (9, .int a9)]) : W p l e rmM_divide s m args below meth c s.heap [] 0 0 (MQ below (k2_QcV (.long (fM_divide_97 K a0 a2 a4 a7 a9 s0 s1))) args s 0 0 (fun _ => False)) (F0 m 97 ls [.long s0, .long s1]) := by
  obtain ⟨hx, hb, hr, hml, hown, hts, hlocks⟩ := id C
  refine lv_lor hx hb dM_divide_97 ?_
  refine lv_lstore (lv' := [(5, .long (s1 ||| s0)), (0, .long a0), (2, .long a2), (4, .int a4), (7, .long a7), (9, .int a9)]) hx hb dM_divide_98 hl (by decide) rfl (fun ls hl => ?_)
  rw [(show fM_divide_97 K a0 a2 a4 a7 a9 s0 s1 = fM_divide_100 K a0 a2 a4 (s1 ||| s0) a7 a9 by rw [fM_divide_97])]
  exact kM_divide_100 C a0 a2 a4 (s1 ||| s0) a7 a9 K hI hK (lv_sub hl [1, 2, 3, 0, 4, 5] rfl)
set_option maxHeartbeats 4000000 in
set_option maxRecDepth 100000 in
theorem kM_divide_79 {p : Program} {l : Launch} {e : Env} {s : State} {m : MethodId} {args : Array Value} {below : List Frame} {meth : Method} {c : Code} (C : pw_C p s m args meth c cM_divide 12 (some .long) "BitNumbersModel") (a0 : Int64) (a2 : Int64) (a4 : Int32) (a5 : Int64) (a9 : Int32) (a11 : Int32) (s0 : Int64) (hz11 : a11 = 0 ∨ a11 = 1) {n : Nat} (K : Int64 → Int64 → Int32 → Int64 → Int64 → Int32 → Int64) (hI : pw_VB a9 n 65) (hK : ∀ (b0 : Int64) (b2 : Int64) (b4 : Int32) (b5 : Int64) (b7 : Int64) (b9 : Int32) (hI : pw_V b9 n 65) {ls : Array Slot} (hl : lv_has ls 12 [(0, .long b0), (2, .long b2), (4, .int b4), (5, .long b5), (7, .long b7), (9, .int b9)]), W p l e rmM_divide s m args below meth c s.heap [] 0 0 (MQ below (k2_QcV (.long (K b0 b2 b4 b5 b7 b9))) args s 0 0 (fun _ => False)) (F0 m 10 ls [])) {ls : Array Slot} (hl : lv_has ls 12 [(0, .long a0), (2, .long a2), (4, .int a4), (5, .long a5), (9, .int a9), (11, .int a11)]) : W p l e rmM_divide s m args below meth c s.heap [] 0 0 (MQ below (k2_QcV (.long (fM_divide_79 K a0 a2 a4 a5 a9 a11 s0))) args s 0 0 (fun _ => False)) (F0 m 79 ls [.long s0]) := by
  obtain ⟨hx, hb, hr, hml, hown, hts, hlocks⟩ := id C
  refine lv_lstore (lv' := [(7, .long s0), (0, .long a0), (2, .long a2), (4, .int a4), (5, .long a5), (9, .int a9), (11, .int a11)]) hx hb dM_divide_79 hl (by decide) rfl (fun ls hl => ?_)
  refine lv_ldc2 hx hb hown (hts _ w_641) dM_divide_81 ?_
  refine lv_lload hx hb dM_divide_84 (lv_at hl 4 rfl) ?_
  refine lv_lmul hx hb dM_divide_86 ?_
  refine lv_iload hx hb dM_divide_87 (lv_at hl 6 rfl) ?_
  refine lv_if_eq (tgt := 96) hx hb dM_divide_89 (by decide) (fun h1 => ?_) (fun h1 => ?_)
  · refine lv_lconst (v := 0) hx hb dM_divide_96 (by decide) ?_
    rw [(show fM_divide_79 K a0 a2 a4 a5 a9 a11 s0 = fM_divide_97 K a0 a2 a4 s0 a9 0 (2 * a5) by rw [fM_divide_79, if_pos h1])]
    exact kM_divide_97 C a0 a2 a4 s0 a9 0 (2 * a5) K hI hK (lv_sub hl [1, 2, 3, 0, 5] rfl)
  · refine lv_lconst (v := 1) hx hb dM_divide_92 (by decide) ?_
    refine lv_goto (tgt := 97) hx hb dM_divide_93 (by decide) ?_
    rw [(show fM_divide_79 K a0 a2 a4 a5 a9 a11 s0 = fM_divide_97 K a0 a2 a4 s0 a9 1 (2 * a5) by rw [fM_divide_79, if_neg h1])]
    exact kM_divide_97 C a0 a2 a4 s0 a9 1 (2 * a5) K hI hK (lv_sub hl [1, 2, 3, 0, 5] rfl)
set_option maxHeartbeats 4000000 in
set_option maxRecDepth 100000 in
theorem kM_divide_63 {p : Program} {l : Launch} {e : Env} {s : State} {m : MethodId} {args : Array Value} {below : List Frame} {meth : Method} {c : Code} (C : pw_C p s m args meth c cM_divide 12 (some .long) "BitNumbersModel") (a0 : Int64) (a2 : Int64) (a4 : Int32) (a5 : Int64) (a7 : Int64) (a9 : Int32) (s0 : Int32) (hzs0 : s0 = 0 ∨ s0 = 1) {n : Nat} (K : Int64 → Int64 → Int32 → Int64 → Int64 → Int32 → Int64) (hI : pw_VB a9 n 65) (hK : ∀ (b0 : Int64) (b2 : Int64) (b4 : Int32) (b5 : Int64) (b7 : Int64) (b9 : Int32) (hI : pw_V b9 n 65) {ls : Array Slot} (hl : lv_has ls 12 [(0, .long b0), (2, .long b2), (4, .int b4), (5, .long b5), (7, .long b7), (9, .int b9)]), W p l e rmM_divide s m args below meth c s.heap [] 0 0 (MQ below (k2_QcV (.long (K b0 b2 b4 b5 b7 b9))) args s 0 0 (fun _ => False)) (F0 m 10 ls [])) {ls : Array Slot} (hl : lv_has ls 12 [(0, .long a0), (2, .long a2), (4, .int a4), (5, .long a5), (7, .long a7), (9, .int a9)]) : W p l e rmM_divide s m args below meth c s.heap [] 0 0 (MQ below (k2_QcV (.long (fM_divide_63 K a0 a2 a4 a5 a7 a9 s0))) args s 0 0 (fun _ => False)) (F0 m 63 ls [.int s0]) := by
  obtain ⟨hx, hb, hr, hml, hown, hts, hlocks⟩ := id C
  refine lv_istore (lv' := [(11, .int s0), (0, .long a0), (2, .long a2), (4, .int a4), (5, .long a5), (7, .long a7), (9, .int a9)]) hx hb dM_divide_63 hl (by decide) rfl (fun ls hl => ?_)
  refine lv_iload hx hb dM_divide_65 (lv_at hl 0 rfl) ?_
  refine lv_if_eq (tgt := 77) hx hb dM_divide_67 (by decide) (fun h1 => ?_) (fun h1 => ?_)
  · refine lv_lload hx hb dM_divide_77 (lv_at hl 5 rfl) ?_
    rw [(show fM_divide_63 K a0 a2 a4 a5 a7 a9 s0 = fM_divide_79 K a0 a2 a4 a5 a9 s0 a7 by rw [fM_divide_63, if_pos h1])]
    exact kM_divide_79 C a0 a2 a4 a5 a9 s0 a7 hzs0 K hI hK (lv_sub hl [1, 2, 3, 4, 6, 0] rfl)
  · refine lv_lload hx hb dM_divide_70 (lv_at hl 5 rfl) ?_
    refine lv_lload_n hx hb dM_divide_72 rfl (lv_at hl 2 rfl) ?_
    refine lv_lsub hx hb dM_divide_73 ?_
    refine lv_goto (tgt := 79) hx hb dM_divide_74 (by decide) ?_
    rw [(show fM_divide_63 K a0 a2 a4 a5 a7 a9 s0 = fM_divide_79 K a0 a2 a4 a5 a9 s0 (a7 - a2) by rw [fM_divide_63, if_neg h1])]
    exact kM_divide_79 C a0 a2 a4 a5 a9 s0 (a7 - a2) hzs0 K hI hK (lv_sub hl [1, 2, 3, 4, 6, 0] rfl)
set_option maxHeartbeats 4000000 in
set_option maxRecDepth 100000 in
theorem kM_divide_58 {p : Program} {l : Launch} {e : Env} {s : State} {m : MethodId} {args : Array Value} {below : List Frame} {meth : Method} {c : Code} (C : pw_C p s m args meth c cM_divide 12 (some .long) "BitNumbersModel") (a0 : Int64) (a2 : Int64) (a4 : Int32) (a5 : Int64) (a7 : Int64) (a9 : Int32) {n : Nat} (K : Int64 → Int64 → Int32 → Int64 → Int64 → Int32 → Int64) (hI : pw_VB a9 n 65) (hK : ∀ (b0 : Int64) (b2 : Int64) (b4 : Int32) (b5 : Int64) (b7 : Int64) (b9 : Int32) (hI : pw_V b9 n 65) {ls : Array Slot} (hl : lv_has ls 12 [(0, .long b0), (2, .long b2), (4, .int b4), (5, .long b5), (7, .long b7), (9, .int b9)]), W p l e rmM_divide s m args below meth c s.heap [] 0 0 (MQ below (k2_QcV (.long (K b0 b2 b4 b5 b7 b9))) args s 0 0 (fun _ => False)) (F0 m 10 ls [])) {ls : Array Slot} (hl : lv_has ls 12 [(0, .long a0), (2, .long a2), (4, .int a4), (5, .long a5), (7, .long a7), (9, .int a9)]) : W p l e rmM_divide s m args below meth c s.heap [] 0 0 (MQ below (k2_QcV (.long (fM_divide_58 K a0 a2 a4 a5 a7 a9))) args s 0 0 (fun _ => False)) (F0 m 58 ls []) := by
  obtain ⟨hx, hb, hr, hml, hown, hts, hlocks⟩ := id C
  refine lv_iconst (v := 1) hx hb dM_divide_58 (by decide) ?_
  refine lv_goto (tgt := 63) hx hb dM_divide_59 (by decide) ?_
  rw [(show fM_divide_58 K a0 a2 a4 a5 a7 a9 = fM_divide_63 K a0 a2 a4 a5 a7 a9 1 by rw [fM_divide_58])]
  exact kM_divide_63 C a0 a2 a4 a5 a7 a9 1 (Or.inr rfl) K hI hK (lv_sub hl [0, 1, 2, 3, 4, 5] rfl)
set_option maxHeartbeats 4000000 in
set_option maxRecDepth 100000 in
theorem kM_divide_44 {p : Program} {l : Launch} {e : Env} {s : State} {m : MethodId} {args : Array Value} {below : List Frame} {meth : Method} {c : Code} (C : pw_C p s m args meth c cM_divide 12 (some .long) "BitNumbersModel") (a0 : Int64) (a2 : Int64) (a4 : Int32) (a5 : Int64) (a7 : Int64) (a9 : Int32) (a10 : Int32) (hz10 : a10 = 0 ∨ a10 = 1) {n : Nat} (K : Int64 → Int64 → Int32 → Int64 → Int64 → Int32 → Int64) (hI : pw_VB a9 n 65) (hK : ∀ (b0 : Int64) (b2 : Int64) (b4 : Int32) (b5 : Int64) (b7 : Int64) (b9 : Int32) (hI : pw_V b9 n 65) {ls : Array Slot} (hl : lv_has ls 12 [(0, .long b0), (2, .long b2), (4, .int b4), (5, .long b5), (7, .long b7), (9, .int b9)]), W p l e rmM_divide s m args below meth c s.heap [] 0 0 (MQ below (k2_QcV (.long (K b0 b2 b4 b5 b7 b9))) args s 0 0 (fun _ => False)) (F0 m 10 ls [])) {ls : Array Slot} (hl : lv_has ls 12 [(0, .long a0), (2, .long a2), (4, .int a4), (5, .long a5), (7, .long a7), (9, .int a9), (10, .int a10)]) : W p l e rmM_divide s m args below meth c s.heap [] 0 0 (MQ below (k2_QcV (.long (fM_divide_44 K a0 a2 a4 a5 a7 a9 a10))) args s 0 0 (fun _ => False)) (F0 m 44 ls []) := by
  obtain ⟨hx, hb, hr, hml, hown, hts, hlocks⟩ := id C
  refine lv_iload hx hb dM_divide_44 (lv_at hl 6 rfl) ?_
  refine lv_if_ne (tgt := 58) hx hb dM_divide_46 (by decide) (fun h1 => ?_) (fun h1 => ?_)
  · rw [(show fM_divide_44 K a0 a2 a4 a5 a7 a9 a10 = fM_divide_58 K a0 a2 a4 a5 a7 a9 by rw [fM_divide_44, if_neg h1])]
    exact kM_divide_58 C a0 a2 a4 a5 a7 a9 K hI hK (lv_sub hl [0, 1, 2, 3, 4, 5] rfl)
  · refine lv_lload hx hb dM_divide_49 (lv_at hl 4 rfl) ?_
    refine lv_lload_n hx hb dM_divide_51 rfl (lv_at hl 1 rfl) ?_
    refine pw_call (va_runS (As := [.long a7, .long a2]) (rest := []) ⟨hx, hb, hml, hown, hts⟩ (qM_isBelow l a7 a2) (va_cwS 2 hts (gS w_575 w_576 w_34 w_577) rfl rfl rfl (by decide +kernel) ⟨Nat.le_of_ble_eq_true rfl, Nat.le_of_ble_eq_true rfl⟩) ⟨pw_bT, fun U hU hW => ⟨rfl, trivial⟩⟩ rfl rfl hl.1 rfl (lv_room (Nat.le_of_ble_eq_true rfl)) dM_divide_52 ⟨Nat.zero_le _, Nat.zero_le _⟩) ?_
    refine lv_if_ne (tgt := 62) hx hb dM_divide_55 (by decide) (fun h2 => ?_) (fun h2 => ?_)
    · refine lv_iconst (v := 0) hx hb dM_divide_62 (by decide) ?_
      rw [(show fM_divide_44 K a0 a2 a4 a5 a7 a9 a10 = fM_divide_63 K a0 a2 a4 a5 a7 a9 0 by rw [fM_divide_44, if_pos h1, if_neg h2])]
      exact kM_divide_63 C a0 a2 a4 a5 a7 a9 0 (Or.inl rfl) K hI hK (lv_sub hl [0, 1, 2, 3, 4, 5] rfl)
    · rw [(show fM_divide_44 K a0 a2 a4 a5 a7 a9 a10 = fM_divide_58 K a0 a2 a4 a5 a7 a9 by rw [fM_divide_44, if_pos h1, if_pos h2])]
      exact kM_divide_58 C a0 a2 a4 a5 a7 a9 K hI hK (lv_sub hl [0, 1, 2, 3, 4, 5] rfl)
set_option maxHeartbeats 4000000 in
set_option maxRecDepth 100000 in
theorem kM_divide_27 {p : Program} {l : Launch} {e : Env} {s : State} {m : MethodId} {args : Array Value} {below : List Frame} {meth : Method} {c : Code} (C : pw_C p s m args meth c cM_divide 12 (some .long) "BitNumbersModel") (a0 : Int64) (a2 : Int64) (a4 : Int32) (a5 : Int64) (a7 : Int64) (a9 : Int32) (s0 : Int32) (hzs0 : s0 = 0 ∨ s0 = 1) {n : Nat} (K : Int64 → Int64 → Int32 → Int64 → Int64 → Int32 → Int64) (hI : pw_VB a9 n 65) (hK : ∀ (b0 : Int64) (b2 : Int64) (b4 : Int32) (b5 : Int64) (b7 : Int64) (b9 : Int32) (hI : pw_V b9 n 65) {ls : Array Slot} (hl : lv_has ls 12 [(0, .long b0), (2, .long b2), (4, .int b4), (5, .long b5), (7, .long b7), (9, .int b9)]), W p l e rmM_divide s m args below meth c s.heap [] 0 0 (MQ below (k2_QcV (.long (K b0 b2 b4 b5 b7 b9))) args s 0 0 (fun _ => False)) (F0 m 10 ls [])) {ls : Array Slot} (hl : lv_has ls 12 [(0, .long a0), (2, .long a2), (4, .int a4), (5, .long a5), (7, .long a7), (9, .int a9)]) : W p l e rmM_divide s m args below meth c s.heap [] 0 0 (MQ below (k2_QcV (.long (fM_divide_27 K a0 a2 a4 a5 a7 a9 s0))) args s 0 0 (fun _ => False)) (F0 m 27 ls [.int s0]) := by
  obtain ⟨hx, hb, hr, hml, hown, hts, hlocks⟩ := id C
  refine lv_istore (lv' := [(10, .int s0), (0, .long a0), (2, .long a2), (4, .int a4), (5, .long a5), (7, .long a7), (9, .int a9)]) hx hb dM_divide_27 hl (by decide) rfl (fun ls hl => ?_)
  refine lv_ldc2 hx hb hown (hts _ w_641) dM_divide_29 ?_
  refine lv_lload hx hb dM_divide_32 (lv_at hl 5 rfl) ?_
  refine lv_lmul hx hb dM_divide_34 ?_
  refine lv_lload_n hx hb dM_divide_35 rfl (lv_at hl 1 rfl) ?_
  refine lv_iload hx hb dM_divide_36 (lv_at hl 6 rfl) ?_
  refine lv_lshr (v := bn_sar a0 a9) hx hb dM_divide_38 rfl ?_
  refine lv_lconst (v := 1) hx hb dM_divide_39 (by decide) ?_
  refine lv_land hx hb dM_divide_40 ?_
  refine lv_lor hx hb dM_divide_41 ?_
  refine lv_lstore (lv' := [(7, .long ((2 * a7) ||| ((bn_sar a0 a9) &&& 1))), (10, .int s0), (0, .long a0), (2, .long a2), (4, .int a4), (5, .long a5), (9, .int a9)]) hx hb dM_divide_42 hl (by decide) rfl (fun ls hl => ?_)
  rw [(show fM_divide_27 K a0 a2 a4 a5 a7 a9 s0 = fM_divide_44 K a0 a2 a4 a5 ((2 * a7) ||| ((bn_sar a0 a9) &&& 1)) a9 s0 by rw [fM_divide_27])]
  exact kM_divide_44 C a0 a2 a4 a5 ((2 * a7) ||| ((bn_sar a0 a9) &&& 1)) a9 s0 hzs0 K hI hK (lv_sub hl [2, 3, 4, 5, 0, 6, 1] rfl)
set_option maxHeartbeats 4000000 in
set_option maxRecDepth 100000 in
theorem kM_divide_10 {p : Program} {l : Launch} {e : Env} {s : State} {m : MethodId} {args : Array Value} {below : List Frame} {meth : Method} {c : Code} (C : pw_C p s m args meth c cM_divide 12 (some .long) "BitNumbersModel") : ∀ (n : Nat) (a0 : Int64) (a2 : Int64) (a4 : Int32) (a5 : Int64) (a7 : Int64) (a9 : Int32) (hI : pw_V a9 n 65) {ls : Array Slot} (hl : lv_has ls 12 [(0, .long a0), (2, .long a2), (4, .int a4), (5, .long a5), (7, .long a7), (9, .int a9)]), W p l e rmM_divide s m args below meth c s.heap [] 0 0 (MQ below (k2_QcV (.long (fM_divide_10 n a0 a2 a4 a5 a7 a9))) args s 0 0 (fun _ => False)) (F0 m 10 ls []) := by
  obtain ⟨hx, hb, hr, hml, hown, hts, hlocks⟩ := id C
  intro n
  induction n with
  | zero =>
    intro a0 a2 a4 a5 a7 a9 hI
    exact absurd hI pw_V_zero
  | succ n ih =>
    intro a0 a2 a4 a5 a7 a9 hI ls hl
    refine lv_iload hx hb dM_divide_10 (lv_at hl 5 rfl) ?_
    refine lv_if_lt (tgt := 106) hx hb dM_divide_12 (by decide) (fun h1 => ?_) (fun h1 => ?_)
    · refine lv_iload hx hb dM_divide_106 (lv_at hl 2 rfl) ?_
      refine lv_if_eq (tgt := 116) hx hb dM_divide_108 (by decide) (fun h2 => ?_) (fun h2 => ?_)
      · refine lv_lload hx hb dM_divide_116 (lv_at hl 3 rfl) ?_
        exact W.lret hx hb hr (fun t ht _ => ⟨by rw [(show fM_divide_10 (n + 1) a0 a2 a4 a5 a7 a9 = a5 by rw [fM_divide_10, if_pos h1, if_pos h2])], ht⟩) (fun q h => nomatch h) dM_divide_118
      · refine lv_lload hx hb dM_divide_111 (lv_at hl 4 rfl) ?_
        refine lv_goto (tgt := 118) hx hb dM_divide_113 (by decide) ?_
        exact W.lret hx hb hr (fun t ht _ => ⟨by rw [(show fM_divide_10 (n + 1) a0 a2 a4 a5 a7 a9 = a7 by rw [fM_divide_10, if_pos h1, if_neg h2])], ht⟩) (fun q h => nomatch h) dM_divide_118
    · refine lv_lload hx hb dM_divide_15 (lv_at hl 4 rfl) ?_
      refine lv_lconst (v := 0) hx hb dM_divide_17 (by decide) ?_
      refine W.lcmp hx hb dM_divide_18 ?_
      refine lv_if_ge (tgt := 26) hx hb dM_divide_19 (by decide) (fun h3 => ?_) (fun h3 => ?_)
      · have h3 : 0 ≤ a7 := (lg_cmp_ge _ _).mp h3
        refine lv_iconst (v := 0) hx hb dM_divide_26 (by decide) ?_
        rw [(show fM_divide_10 (n + 1) a0 a2 a4 a5 a7 a9 = fM_divide_27 (fM_divide_10 n) a0 a2 a4 a5 a7 a9 0 by rw [fM_divide_10, if_neg h1, if_pos h3])]
        exact kM_divide_27 C a0 a2 a4 a5 a7 a9 0 (Or.inl rfl) (fM_divide_10 n) (pw_V_body hI h1) (fun b0 b2 b4 b5 b7 b9 hI _ hl => ih b0 b2 b4 b5 b7 b9 hI hl) (lv_sub hl [0, 1, 2, 3, 4, 5] rfl)
      · have h3 : ¬ (0 ≤ a7) := fun w => h3 ((lg_cmp_ge _ _).mpr w)
        refine lv_iconst (v := 1) hx hb dM_divide_22 (by decide) ?_
        refine lv_goto (tgt := 27) hx hb dM_divide_23 (by decide) ?_
        rw [(show fM_divide_10 (n + 1) a0 a2 a4 a5 a7 a9 = fM_divide_27 (fM_divide_10 n) a0 a2 a4 a5 a7 a9 1 by rw [fM_divide_10, if_neg h1, if_neg h3])]
        exact kM_divide_27 C a0 a2 a4 a5 a7 a9 1 (Or.inr rfl) (fM_divide_10 n) (pw_V_body hI h1) (fun b0 b2 b4 b5 b7 b9 hI _ hl => ih b0 b2 b4 b5 b7 b9 hI hl) (lv_sub hl [0, 1, 2, 3, 4, 5] rfl)
set_option maxHeartbeats 4000000 in
set_option maxRecDepth 100000 in
theorem kM_divide_0 {p : Program} {l : Launch} {e : Env} {s : State} {m : MethodId} {args : Array Value} {below : List Frame} {meth : Method} {c : Code} (C : pw_C p s m args meth c cM_divide 12 (some .long) "BitNumbersModel") (a0 : Int64) (a2 : Int64) (a4 : Int32) {ls : Array Slot} (hl : lv_has ls 12 [(0, .long a0), (2, .long a2), (4, .int a4)]) : W p l e rmM_divide s m args below meth c s.heap [] 0 0 (MQ below (k2_QcV (.long (fM_divide a0 a2 a4))) args s 0 0 (fun _ => False)) (F0 m 0 ls []) := by
  obtain ⟨hx, hb, hr, hml, hown, hts, hlocks⟩ := id C
  refine lv_lconst (v := 0) hx hb dM_divide_0 (by decide) ?_
  refine lv_lstore (lv' := [(5, .long 0), (0, .long a0), (2, .long a2), (4, .int a4)]) hx hb dM_divide_1 hl (by decide) rfl (fun ls hl => ?_)
  refine lv_lconst (v := 0) hx hb dM_divide_3 (by decide) ?_
  refine lv_lstore (lv' := [(7, .long 0), (5, .long 0), (0, .long a0), (2, .long a2), (4, .int a4)]) hx hb dM_divide_4 hl (by decide) rfl (fun ls hl => ?_)
  refine lv_bipush (v := 63) hx hb dM_divide_6 (by decide) ?_
  refine lv_istore (lv' := [(9, .int 63), (7, .long 0), (5, .long 0), (0, .long a0), (2, .long a2), (4, .int a4)]) hx hb dM_divide_8 hl (by decide) rfl (fun ls hl => ?_)
  rw [(show fM_divide a0 a2 a4 = fM_divide_10 65 a0 a2 a4 0 0 63 by rw [fM_divide])]
  exact kM_divide_10 C 65 a0 a2 a4 0 0 63 (⟨by decide, by decide, by decide⟩ : pw_V 63 65 65) (lv_sub hl [3, 4, 5, 2, 1, 0] rfl)
set_option maxHeartbeats 4000000 in
set_option maxRecDepth 100000 in
theorem qM_divide (l : Launch) (a0 : Int64) (a2 : Int64) (a4 : Int32) : Met l yM_divide wsM_divide rmM_divide (va_Pc [.long a0, .long a2, .int a4] (fun _ => True)) (k2_QcV (.long (fM_divide a0 a2 a4))) 0 0 (fun _ => False) := by
  refine Met.ofW (cc := cM_divide) (maxL := 12) (ret := (some .long)) (by decide) rfl ?_
  intro p e s m args below meth c s₁ B hml hv
  obtain ⟨rfl, hG⟩ := hv
  have hts0 := atoms_spec (ws := wsM_divide) B.pre
  have hts := fun (w : Cond) (h : w ∈ aw) => hts0 w (List.mem_cons_of_mem _ h)
  have hown : s.vm.findClass "BitNumbersModel" = some m.cls := findClass_of_methodNamed B.named
  have hl := lv_entry ([.long a0, .long a2, .int a4]) (n := 12) (Nat.le_of_ble_eq_true rfl)
  rw [lg_entry_eq]
  generalize (lg_sl ([.long a0, .long a2, .int a4]) ++ List.replicate (12 - (lg_sl ([.long a0, .long a2, .int a4])).length) Slot.unset).toArray = ls at hl ⊢
  exact kM_divide_0 ⟨B.exec, B.bytes, B.returns, hml, hown, hts, B.notSynchronized⟩ a0 a2 a4 hl

set_option maxHeartbeats 4000000 in
set_option maxRecDepth 100000 in
theorem kM_turned_41 {p : Program} {l : Launch} {e : Env} {s : State} {m : MethodId} {args : Array Value} {below : List Frame} {meth : Method} {c : Code} (C : pw_C p s m args meth c cM_turned 9 (some .long) "BitNumbersModel") (a5 : Int64) (a7 : Int64) {ls : Array Slot} (hl : lv_has ls 9 [(5, .long a5), (7, .long a7)]) : W p l e rmM_turned s m args below meth c s.heap [] 0 0 (MQ below (k2_QcV (.long (fM_turned_41 a5 a7))) args s 0 0 (fun _ => False)) (F0 m 41 ls []) := by
  obtain ⟨hx, hb, hr, hml, hown, hts, hlocks⟩ := id C
  refine lv_lload hx hb dM_turned_41 (lv_at hl 0 rfl) ?_
  refine lv_lload hx hb dM_turned_43 (lv_at hl 1 rfl) ?_
  refine lv_lor hx hb dM_turned_45 ?_
  exact W.lret hx hb hr (fun t ht _ => ⟨by rw [(show fM_turned_41 a5 a7 = a5 ||| a7 by rw [fM_turned_41])], ht⟩) (fun q h => nomatch h) dM_turned_46
set_option maxHeartbeats 4000000 in
set_option maxRecDepth 100000 in
theorem kM_turned_39 {p : Program} {l : Launch} {e : Env} {s : State} {m : MethodId} {args : Array Value} {below : List Frame} {meth : Method} {c : Code} (C : pw_C p s m args meth c cM_turned 9 (some .long) "BitNumbersModel") (a5 : Int64) (s0 : Int64) {ls : Array Slot} (hl : lv_has ls 9 [(5, .long a5)]) : W p l e rmM_turned s m args below meth c s.heap [] 0 0 (MQ below (k2_QcV (.long (fM_turned_39 a5 s0))) args s 0 0 (fun _ => False)) (F0 m 39 ls [.long s0]) := by
  obtain ⟨hx, hb, hr, hml, hown, hts, hlocks⟩ := id C
  refine lv_lstore (lv' := [(7, .long s0), (5, .long a5)]) hx hb dM_turned_39 hl (by decide) rfl (fun ls hl => ?_)
  rw [(show fM_turned_39 a5 s0 = fM_turned_41 a5 s0 by rw [fM_turned_39])]
  exact kM_turned_41 C a5 s0 (lv_sub hl [1, 0] rfl)
set_option maxHeartbeats 4000000 in
set_option maxRecDepth 100000 in
theorem kM_turned_6 {p : Program} {l : Launch} {e : Env} {s : State} {m : MethodId} {args : Array Value} {below : List Frame} {meth : Method} {c : Code} (C : pw_C p s m args meth c cM_turned 9 (some .long) "BitNumbersModel") (a0 : Int32) (a1 : Int64) (a3 : Int64) (a5 : Int64) {ls : Array Slot} (hl : lv_has ls 9 [(0, .int a0), (1, .long a1), (3, .long a3), (5, .long a5)]) : W p l e rmM_turned s m args below meth c s.heap [] 0 0 (MQ below (k2_QcV (.long (fM_turned_6 a0 a1 a3 a5))) args s 0 0 (fun _ => False)) (F0 m 6 ls []) := by
  obtain ⟨hx, hb, hr, hml, hown, hts, hlocks⟩ := id C
  refine lv_lload_n hx hb dM_turned_6 rfl (lv_at hl 2 rfl) ?_
  refine lv_lconst (v := 0) hx hb dM_turned_7 (by decide) ?_
  refine W.lcmp hx hb dM_turned_8 ?_
  refine lv_if_ne (tgt := 16) hx hb dM_turned_9 (by decide) (fun h1 => ?_) (fun h1 => ?_)
  · have h1 : ¬ (a3 = 0) := fun w => h1 ((lg_cmp_eq _ _).mpr w)
    refine lv_iload_n hx hb dM_turned_16 rfl (lv_at hl 0 rfl) ?_
    refine lv_bipush (v := 32) hx hb dM_turned_17 (by decide) ?_
    refine lv_icmp_ne (tgt := 32) hx hb dM_turned_19 (by decide) (fun h2 => ?_) (fun h2 => ?_)
    · refine lv_lload_n hx hb dM_turned_32 rfl (lv_at hl 1 rfl) ?_
      refine lv_iload_n hx hb dM_turned_33 rfl (lv_at hl 0 rfl) ?_
      refine lv_i2l hx hb dM_turned_34 rfl ?_
      refine lv_lload_n hx hb dM_turned_35 rfl (lv_at hl 2 rfl) ?_
      refine lv_lsub hx hb dM_turned_36 ?_
      refine lv_l2i hx hb dM_turned_37 rfl ?_
      refine lv_lushr (v := bn_shr a1 ((a0.toInt64 - a3).toInt32)) hx hb dM_turned_38 rfl ?_
      rw [(show fM_turned_6 a0 a1 a3 a5 = fM_turned_39 a5 (bn_shr a1 ((a0.toInt64 - a3).toInt32)) by rw [fM_turned_6, if_neg h1, if_neg h2])]
      exact kM_turned_39 C a5 (bn_shr a1 ((a0.toInt64 - a3).toInt32)) (lv_sub hl [3] rfl)
    · refine lv_lload_n hx hb dM_turned_22 rfl (lv_at hl 1 rfl) ?_
      refine lv_iload_n hx hb dM_turned_23 rfl (lv_at hl 0 rfl) ?_
      refine lv_i2l hx hb dM_turned_24 rfl ?_
      refine lv_lload_n hx hb dM_turned_25 rfl (lv_at hl 2 rfl) ?_
      refine lv_lsub hx hb dM_turned_26 ?_
      refine lv_l2i hx hb dM_turned_27 rfl ?_
      refine lv_lshr (v := bn_sar a1 ((a0.toInt64 - a3).toInt32)) hx hb dM_turned_28 rfl ?_
      refine lv_goto (tgt := 39) hx hb dM_turned_29 (by decide) ?_
      rw [(show fM_turned_6 a0 a1 a3 a5 = fM_turned_39 a5 (bn_sar a1 ((a0.toInt64 - a3).toInt32)) by rw [fM_turned_6, if_neg h1, if_pos h2])]
      exact kM_turned_39 C a5 (bn_sar a1 ((a0.toInt64 - a3).toInt32)) (lv_sub hl [3] rfl)
  · have h1 : a3 = 0 := (lg_cmp_eq _ _).mp h1
    refine lv_lconst (v := 0) hx hb dM_turned_12 (by decide) ?_
    refine lv_goto (tgt := 39) hx hb dM_turned_13 (by decide) ?_
    rw [(show fM_turned_6 a0 a1 a3 a5 = fM_turned_39 a5 0 by rw [fM_turned_6, if_pos h1])]
    exact kM_turned_39 C a5 0 (lv_sub hl [3] rfl)
set_option maxHeartbeats 4000000 in
set_option maxRecDepth 100000 in
theorem kM_turned_0 {p : Program} {l : Launch} {e : Env} {s : State} {m : MethodId} {args : Array Value} {below : List Frame} {meth : Method} {c : Code} (C : pw_C p s m args meth c cM_turned 9 (some .long) "BitNumbersModel") (a0 : Int32) (a1 : Int64) (a3 : Int64) {ls : Array Slot} (hl : lv_has ls 9 [(0, .int a0), (1, .long a1), (3, .long a3)]) : W p l e rmM_turned s m args below meth c s.heap [] 0 0 (MQ below (k2_QcV (.long (fM_turned a0 a1 a3))) args s 0 0 (fun _ => False)) (F0 m 0 ls []) := by
  obtain ⟨hx, hb, hr, hml, hown, hts, hlocks⟩ := id C
  refine lv_lload_n hx hb dM_turned_0 rfl (lv_at hl 1 rfl) ?_
  refine lv_lload_n hx hb dM_turned_1 rfl (lv_at hl 2 rfl) ?_
  refine lv_l2i hx hb dM_turned_2 rfl ?_
  refine lv_lshl (v := bn_shl a1 a3.toInt32) hx hb dM_turned_3 rfl ?_
  refine lv_lstore (lv' := [(5, .long (bn_shl a1 a3.toInt32)), (0, .int a0), (1, .long a1), (3, .long a3)]) hx hb dM_turned_4 hl (by decide) rfl (fun ls hl => ?_)
  rw [(show fM_turned a0 a1 a3 = fM_turned_6 a0 a1 a3 (bn_shl a1 a3.toInt32) by rw [fM_turned])]
  exact kM_turned_6 C a0 a1 a3 (bn_shl a1 a3.toInt32) (lv_sub hl [1, 2, 3, 0] rfl)
set_option maxHeartbeats 4000000 in
set_option maxRecDepth 100000 in
theorem qM_turned (l : Launch) (a0 : Int32) (a1 : Int64) (a3 : Int64) : Met l yM_turned wsM_turned rmM_turned (va_Pc [.int a0, .long a1, .long a3] (fun _ => True)) (k2_QcV (.long (fM_turned a0 a1 a3))) 0 0 (fun _ => False) := by
  refine Met.ofW (cc := cM_turned) (maxL := 9) (ret := (some .long)) (by decide) rfl ?_
  intro p e s m args below meth c s₁ B hml hv
  obtain ⟨rfl, hG⟩ := hv
  have hts0 := atoms_spec (ws := wsM_turned) B.pre
  have hts := fun (w : Cond) (h : w ∈ aw) => hts0 w (List.mem_cons_of_mem _ h)
  have hown : s.vm.findClass "BitNumbersModel" = some m.cls := findClass_of_methodNamed B.named
  have hl := lv_entry ([.int a0, .long a1, .long a3]) (n := 9) (Nat.le_of_ble_eq_true rfl)
  rw [lg_entry_eq]
  generalize (lg_sl ([.int a0, .long a1, .long a3]) ++ List.replicate (9 - (lg_sl ([.int a0, .long a1, .long a3])).length) Slot.unset).toArray = ls at hl ⊢
  exact kM_turned_0 ⟨B.exec, B.bytes, B.returns, hml, hown, hts, B.notSynchronized⟩ a0 a1 a3 hl

set_option maxHeartbeats 4000000 in
set_option maxRecDepth 100000 in
theorem kM_precision_0 {p : Program} {l : Launch} {e : Env} {s : State} {m : MethodId} {args : Array Value} {below : List Frame} {meth : Method} {c : Code} (C : pw_C p s m args meth c cM_precision 1 (some .int) "BitNumbersModel") (a0 : Int32) {ls : Array Slot} (hl : lv_has ls 1 [(0, .int a0)]) : W p l e rmM_precision s m args below meth c s.heap [] 0 0 (MQ below (k2_QcV (.int (fM_precision a0))) args s 0 0 (fun _ => False)) (F0 m 0 ls []) := by
  obtain ⟨hx, hb, hr, hml, hown, hts, hlocks⟩ := id C
  refine lv_iload_n hx hb dM_precision_0 rfl (lv_at hl 0 rfl) ?_
  refine lv_iconst (v := 2) hx hb dM_precision_1 (by decide) ?_
  refine lv_icmp_ne (tgt := 10) hx hb dM_precision_2 (by decide) (fun h1 => ?_) (fun h1 => ?_)
  · refine lv_bipush (v := 53) hx hb dM_precision_10 (by decide) ?_
    exact W.iret hx hb hr (fun t ht _ => ⟨by rw [(show fM_precision a0 = 53 by rw [fM_precision, if_neg h1])], ht⟩) (fun q h => nomatch h) dM_precision_12
  · refine lv_bipush (v := 24) hx hb dM_precision_5 (by decide) ?_
    refine lv_goto (tgt := 12) hx hb dM_precision_7 (by decide) ?_
    exact W.iret hx hb hr (fun t ht _ => ⟨by rw [(show fM_precision a0 = 24 by rw [fM_precision, if_pos h1])], ht⟩) (fun q h => nomatch h) dM_precision_12
set_option maxHeartbeats 4000000 in
set_option maxRecDepth 100000 in
theorem qM_precision (l : Launch) (a0 : Int32) : Met l yM_precision wsM_precision rmM_precision (va_Pc [.int a0] (fun _ => True)) (k2_QcV (.int (fM_precision a0))) 0 0 (fun _ => False) := by
  refine Met.ofW (cc := cM_precision) (maxL := 1) (ret := (some .int)) (by decide) rfl ?_
  intro p e s m args below meth c s₁ B hml hv
  obtain ⟨rfl, hG⟩ := hv
  have hts0 := atoms_spec (ws := wsM_precision) B.pre
  have hts := fun (w : Cond) (h : w ∈ aw) => hts0 w (List.mem_cons_of_mem _ h)
  have hown : s.vm.findClass "BitNumbersModel" = some m.cls := findClass_of_methodNamed B.named
  have hl := lv_entry ([.int a0]) (n := 1) (Nat.le_of_ble_eq_true rfl)
  rw [lg_entry_eq]
  generalize (lg_sl ([.int a0]) ++ List.replicate (1 - (lg_sl ([.int a0])).length) Slot.unset).toArray = ls at hl ⊢
  exact kM_precision_0 ⟨B.exec, B.bytes, B.returns, hml, hown, hts, B.notSynchronized⟩ a0 hl

set_option maxHeartbeats 4000000 in
set_option maxRecDepth 100000 in
theorem kM_bias_0 {p : Program} {l : Launch} {e : Env} {s : State} {m : MethodId} {args : Array Value} {below : List Frame} {meth : Method} {c : Code} (C : pw_C p s m args meth c cM_bias 1 (some .int) "BitNumbersModel") (a0 : Int32) {ls : Array Slot} (hl : lv_has ls 1 [(0, .int a0)]) : W p l e rmM_bias s m args below meth c s.heap [] 0 0 (MQ below (k2_QcV (.int (fM_bias a0))) args s 0 0 (fun _ => False)) (F0 m 0 ls []) := by
  obtain ⟨hx, hb, hr, hml, hown, hts, hlocks⟩ := id C
  refine lv_iload_n hx hb dM_bias_0 rfl (lv_at hl 0 rfl) ?_
  refine lv_iconst (v := 2) hx hb dM_bias_1 (by decide) ?_
  refine lv_icmp_ne (tgt := 10) hx hb dM_bias_2 (by decide) (fun h1 => ?_) (fun h1 => ?_)
  · refine lv_sipush (v := 1023) hx hb dM_bias_10 (by decide) ?_
    exact W.iret hx hb hr (fun t ht _ => ⟨by rw [(show fM_bias a0 = 1023 by rw [fM_bias, if_neg h1])], ht⟩) (fun q h => nomatch h) dM_bias_13
  · refine lv_bipush (v := 127) hx hb dM_bias_5 (by decide) ?_
    refine lv_goto (tgt := 13) hx hb dM_bias_7 (by decide) ?_
    exact W.iret hx hb hr (fun t ht _ => ⟨by rw [(show fM_bias a0 = 127 by rw [fM_bias, if_pos h1])], ht⟩) (fun q h => nomatch h) dM_bias_13
set_option maxHeartbeats 4000000 in
set_option maxRecDepth 100000 in
theorem qM_bias (l : Launch) (a0 : Int32) : Met l yM_bias wsM_bias rmM_bias (va_Pc [.int a0] (fun _ => True)) (k2_QcV (.int (fM_bias a0))) 0 0 (fun _ => False) := by
  refine Met.ofW (cc := cM_bias) (maxL := 1) (ret := (some .int)) (by decide) rfl ?_
  intro p e s m args below meth c s₁ B hml hv
  obtain ⟨rfl, hG⟩ := hv
  have hts0 := atoms_spec (ws := wsM_bias) B.pre
  have hts := fun (w : Cond) (h : w ∈ aw) => hts0 w (List.mem_cons_of_mem _ h)
  have hown : s.vm.findClass "BitNumbersModel" = some m.cls := findClass_of_methodNamed B.named
  have hl := lv_entry ([.int a0]) (n := 1) (Nat.le_of_ble_eq_true rfl)
  rw [lg_entry_eq]
  generalize (lg_sl ([.int a0]) ++ List.replicate (1 - (lg_sl ([.int a0])).length) Slot.unset).toArray = ls at hl ⊢
  exact kM_bias_0 ⟨B.exec, B.bytes, B.returns, hml, hown, hts, B.notSynchronized⟩ a0 hl

set_option maxHeartbeats 4000000 in
set_option maxRecDepth 100000 in
theorem kM_signOf_0 {p : Program} {l : Launch} {e : Env} {s : State} {m : MethodId} {args : Array Value} {below : List Frame} {meth : Method} {c : Code} (C : pw_C p s m args meth c cM_signOf 1 (some .long) "BitNumbersModel") (a0 : Int32) {ls : Array Slot} (hl : lv_has ls 1 [(0, .int a0)]) : W p l e rmM_signOf s m args below meth c s.heap [] 0 0 (MQ below (k2_QcV (.long (fM_signOf a0))) args s 0 0 (fun _ => False)) (F0 m 0 ls []) := by
  obtain ⟨hx, hb, hr, hml, hown, hts, hlocks⟩ := id C
  refine lv_lconst (v := 1) hx hb dM_signOf_0 (by decide) ?_
  refine lv_iload_n hx hb dM_signOf_1 rfl (lv_at hl 0 rfl) ?_
  refine pw_call (va_runS (As := [.int a0]) (rest := [.long 1]) ⟨hx, hb, hml, hown, hts⟩ (qM_width l a0) (va_cwS 1 hts (gS w_594 w_595 w_34 w_596) rfl rfl rfl (by decide +kernel) ⟨Nat.le_of_ble_eq_true rfl, Nat.le_of_ble_eq_true rfl⟩) ⟨pw_bT, fun U hU hW => ⟨rfl, trivial⟩⟩ rfl rfl hl.1 rfl (lv_room (Nat.le_of_ble_eq_true rfl)) dM_signOf_2 ⟨Nat.zero_le _, Nat.zero_le _⟩) ?_
  refine lv_iconst (v := 1) hx hb dM_signOf_5 (by decide) ?_
  refine lv_isub hx hb dM_signOf_6 ?_
  refine lv_lshl (v := bn_shl 1 ((fM_width a0) - 1)) hx hb dM_signOf_7 rfl ?_
  exact W.lret hx hb hr (fun t ht _ => ⟨by rw [(show fM_signOf a0 = bn_shl 1 ((fM_width a0) - 1) by rw [fM_signOf])], ht⟩) (fun q h => nomatch h) dM_signOf_8
set_option maxHeartbeats 4000000 in
set_option maxRecDepth 100000 in
theorem qM_signOf (l : Launch) (a0 : Int32) : Met l yM_signOf wsM_signOf rmM_signOf (va_Pc [.int a0] (fun _ => True)) (k2_QcV (.long (fM_signOf a0))) 0 0 (fun _ => False) := by
  refine Met.ofW (cc := cM_signOf) (maxL := 1) (ret := (some .long)) (by decide) rfl ?_
  intro p e s m args below meth c s₁ B hml hv
  obtain ⟨rfl, hG⟩ := hv
  have hts0 := atoms_spec (ws := wsM_signOf) B.pre
  have hts := fun (w : Cond) (h : w ∈ aw) => hts0 w (List.mem_cons_of_mem _ h)
  have hown : s.vm.findClass "BitNumbersModel" = some m.cls := findClass_of_methodNamed B.named
  have hl := lv_entry ([.int a0]) (n := 1) (Nat.le_of_ble_eq_true rfl)
  rw [lg_entry_eq]
  generalize (lg_sl ([.int a0]) ++ List.replicate (1 - (lg_sl ([.int a0])).length) Slot.unset).toArray = ls at hl ⊢
  exact kM_signOf_0 ⟨B.exec, B.bytes, B.returns, hml, hown, hts, B.notSynchronized⟩ a0 hl

set_option maxHeartbeats 4000000 in
set_option maxRecDepth 100000 in
theorem kM_isMinus_0 {p : Program} {l : Launch} {e : Env} {s : State} {m : MethodId} {args : Array Value} {below : List Frame} {meth : Method} {c : Code} (C : pw_C p s m args meth c cM_isMinus 3 (some .boolean) "BitNumbersModel") (a0 : Int32) (a1 : Int64) {ls : Array Slot} (hl : lv_has ls 3 [(0, .int a0), (1, .long a1)]) : W p l e rmM_isMinus s m args below meth c s.heap [] 0 0 (MQ below (k2_QcV (.int (fM_isMinus a0 a1))) args s 0 0 (fun _ => False)) (F0 m 0 ls []) := by
  obtain ⟨hx, hb, hr, hml, hown, hts, hlocks⟩ := id C
  refine lv_lload_n hx hb dM_isMinus_0 rfl (lv_at hl 1 rfl) ?_
  refine lv_iload_n hx hb dM_isMinus_1 rfl (lv_at hl 0 rfl) ?_
  refine pw_call (va_runS (As := [.int a0]) (rest := [.long a1]) ⟨hx, hb, hml, hown, hts⟩ (qM_signOf l a0) (va_cwS 1 hts (gS w_591 w_592 w_34 w_593) rfl rfl rfl (by decide +kernel) ⟨Nat.le_of_ble_eq_true rfl, Nat.le_of_ble_eq_true rfl⟩) ⟨pw_bT, fun U hU hW => ⟨rfl, trivial⟩⟩ rfl rfl hl.1 rfl (lv_room (Nat.le_of_ble_eq_true rfl)) dM_isMinus_2 ⟨Nat.zero_le _, Nat.zero_le _⟩) ?_
  refine lv_land hx hb dM_isMinus_5 ?_
  refine lv_lconst (v := 0) hx hb dM_isMinus_6 (by decide) ?_
  refine W.lcmp hx hb dM_isMinus_7 ?_
  refine lv_if_eq (tgt := 15) hx hb dM_isMinus_8 (by decide) (fun h1 => ?_) (fun h1 => ?_)
  · have h1 : (a1 &&& (fM_signOf a0)) = 0 := (lg_cmp_eq _ _).mp h1
    refine lv_iconst (v := 0) hx hb dM_isMinus_15 (by decide) ?_
    exact W.zret hx hb hr (pw_nz (Or.inl rfl)) (fun t ht _ => ⟨by rw [(show fM_isMinus a0 a1 = 0 by rw [fM_isMinus, if_pos h1])], ht⟩) (fun q h => nomatch h) dM_isMinus_16
  · have h1 : ¬ ((a1 &&& (fM_signOf a0)) = 0) := fun w => h1 ((lg_cmp_eq _ _).mpr w)
    refine lv_iconst (v := 1) hx hb dM_isMinus_11 (by decide) ?_
    refine lv_goto (tgt := 16) hx hb dM_isMinus_12 (by decide) ?_
    exact W.zret hx hb hr (pw_nz (Or.inr rfl)) (fun t ht _ => ⟨by rw [(show fM_isMinus a0 a1 = 1 by rw [fM_isMinus, if_neg h1])], ht⟩) (fun q h => nomatch h) dM_isMinus_16
set_option maxHeartbeats 4000000 in
set_option maxRecDepth 100000 in
theorem qM_isMinus (l : Launch) (a0 : Int32) (a1 : Int64) : Met l yM_isMinus wsM_isMinus rmM_isMinus (va_Pc [.int a0, .long a1] (fun _ => True)) (k2_QcV (.int (fM_isMinus a0 a1))) 0 0 (fun _ => False) := by
  refine Met.ofW (cc := cM_isMinus) (maxL := 3) (ret := (some .boolean)) (by decide) rfl ?_
  intro p e s m args below meth c s₁ B hml hv
  obtain ⟨rfl, hG⟩ := hv
  have hts0 := atoms_spec (ws := wsM_isMinus) B.pre
  have hts := fun (w : Cond) (h : w ∈ aw) => hts0 w (List.mem_cons_of_mem _ h)
  have hown : s.vm.findClass "BitNumbersModel" = some m.cls := findClass_of_methodNamed B.named
  have hl := lv_entry ([.int a0, .long a1]) (n := 3) (Nat.le_of_ble_eq_true rfl)
  rw [lg_entry_eq]
  generalize (lg_sl ([.int a0, .long a1]) ++ List.replicate (3 - (lg_sl ([.int a0, .long a1])).length) Slot.unset).toArray = ls at hl ⊢
  exact kM_isMinus_0 ⟨B.exec, B.bytes, B.returns, hml, hown, hts, B.notSynchronized⟩ a0 a1 hl

set_option maxHeartbeats 4000000 in
set_option maxRecDepth 100000 in
theorem kM_rest_0 {p : Program} {l : Launch} {e : Env} {s : State} {m : MethodId} {args : Array Value} {below : List Frame} {meth : Method} {c : Code} (C : pw_C p s m args meth c cM_rest 3 (some .long) "BitNumbersModel") (a0 : Int32) (a1 : Int64) {ls : Array Slot} (hl : lv_has ls 3 [(0, .int a0), (1, .long a1)]) : W p l e rmM_rest s m args below meth c s.heap [] 0 0 (MQ below (k2_QcV (.long (fM_rest a0 a1))) args s 0 0 (fun _ => False)) (F0 m 0 ls []) := by
  obtain ⟨hx, hb, hr, hml, hown, hts, hlocks⟩ := id C
  refine lv_lload_n hx hb dM_rest_0 rfl (lv_at hl 1 rfl) ?_
  refine lv_iload_n hx hb dM_rest_1 rfl (lv_at hl 0 rfl) ?_
  refine pw_call (va_runS (As := [.int a0]) (rest := [.long a1]) ⟨hx, hb, hml, hown, hts⟩ (qM_signOf l a0) (va_cwS 1 hts (gS w_591 w_592 w_34 w_593) rfl rfl rfl (by decide +kernel) ⟨Nat.le_of_ble_eq_true rfl, Nat.le_of_ble_eq_true rfl⟩) ⟨pw_bT, fun U hU hW => ⟨rfl, trivial⟩⟩ rfl rfl hl.1 rfl (lv_room (Nat.le_of_ble_eq_true rfl)) dM_rest_2 ⟨Nat.zero_le _, Nat.zero_le _⟩) ?_
  refine lv_lconst (v := 1) hx hb dM_rest_5 (by decide) ?_
  refine lv_lsub hx hb dM_rest_6 ?_
  refine lv_land hx hb dM_rest_7 ?_
  exact W.lret hx hb hr (fun t ht _ => ⟨by rw [(show fM_rest a0 a1 = a1 &&& ((fM_signOf a0) - 1) by rw [fM_rest])], ht⟩) (fun q h => nomatch h) dM_rest_8
set_option maxHeartbeats 4000000 in
set_option maxRecDepth 100000 in
theorem qM_rest (l : Launch) (a0 : Int32) (a1 : Int64) : Met l yM_rest wsM_rest rmM_rest (va_Pc [.int a0, .long a1] (fun _ => True)) (k2_QcV (.long (fM_rest a0 a1))) 0 0 (fun _ => False) := by
  refine Met.ofW (cc := cM_rest) (maxL := 3) (ret := (some .long)) (by decide) rfl ?_
  intro p e s m args below meth c s₁ B hml hv
  obtain ⟨rfl, hG⟩ := hv
  have hts0 := atoms_spec (ws := wsM_rest) B.pre
  have hts := fun (w : Cond) (h : w ∈ aw) => hts0 w (List.mem_cons_of_mem _ h)
  have hown : s.vm.findClass "BitNumbersModel" = some m.cls := findClass_of_methodNamed B.named
  have hl := lv_entry ([.int a0, .long a1]) (n := 3) (Nat.le_of_ble_eq_true rfl)
  rw [lg_entry_eq]
  generalize (lg_sl ([.int a0, .long a1]) ++ List.replicate (3 - (lg_sl ([.int a0, .long a1])).length) Slot.unset).toArray = ls at hl ⊢
  exact kM_rest_0 ⟨B.exec, B.bytes, B.returns, hml, hown, hts, B.notSynchronized⟩ a0 a1 hl

set_option maxHeartbeats 4000000 in
set_option maxRecDepth 100000 in
theorem kM_exponent_0 {p : Program} {l : Launch} {e : Env} {s : State} {m : MethodId} {args : Array Value} {below : List Frame} {meth : Method} {c : Code} (C : pw_C p s m args meth c cM_exponent 3 (some .int) "BitNumbersModel") (a0 : Int32) (a1 : Int64) {ls : Array Slot} (hl : lv_has ls 3 [(0, .int a0), (1, .long a1)]) : W p l e rmM_exponent s m args below meth c s.heap [] 0 0 (MQ below (k2_QcV (.int (fM_exponent a0 a1))) args s 0 0 (fun _ => False)) (F0 m 0 ls []) := by
  obtain ⟨hx, hb, hr, hml, hown, hts, hlocks⟩ := id C
  refine lv_iload_n hx hb dM_exponent_0 rfl (lv_at hl 0 rfl) ?_
  refine lv_lload_n hx hb dM_exponent_1 rfl (lv_at hl 1 rfl) ?_
  refine pw_call (va_runS (As := [.int a0, .long a1]) (rest := []) ⟨hx, hb, hml, hown, hts⟩ (qM_rest l a0 a1) (va_cwS 2 hts (gS w_588 w_589 w_34 w_590) rfl rfl rfl (by decide +kernel) ⟨Nat.le_of_ble_eq_true rfl, Nat.le_of_ble_eq_true rfl⟩) ⟨pw_bT, fun U hU hW => ⟨rfl, trivial⟩⟩ rfl rfl hl.1 rfl (lv_room (Nat.le_of_ble_eq_true rfl)) dM_exponent_2 ⟨Nat.zero_le _, Nat.zero_le _⟩) ?_
  refine lv_iload_n hx hb dM_exponent_5 rfl (lv_at hl 0 rfl) ?_
  refine pw_call (va_runS (As := [.int a0]) (rest := [.long (fM_rest a0 a1)]) ⟨hx, hb, hml, hown, hts⟩ (qM_precision l a0) (va_cwS 1 hts (gS w_597 w_598 w_34 w_599) rfl rfl rfl (by decide +kernel) ⟨Nat.le_of_ble_eq_true rfl, Nat.le_of_ble_eq_true rfl⟩) ⟨pw_bT, fun U hU hW => ⟨rfl, trivial⟩⟩ rfl rfl hl.1 rfl (lv_room (Nat.le_of_ble_eq_true rfl)) dM_exponent_6 ⟨Nat.zero_le _, Nat.zero_le _⟩) ?_
  refine lv_iconst (v := 1) hx hb dM_exponent_9 (by decide) ?_
  refine lv_isub hx hb dM_exponent_10 ?_
  refine lv_lshr (v := bn_sar (fM_rest a0 a1) ((fM_precision a0) - 1)) hx hb dM_exponent_11 rfl ?_
  refine lv_l2i hx hb dM_exponent_12 rfl ?_
  exact W.iret hx hb hr (fun t ht _ => ⟨by rw [(show fM_exponent a0 a1 = (bn_sar (fM_rest a0 a1) ((fM_precision a0) - 1)).toInt32 by rw [fM_exponent])], ht⟩) (fun q h => nomatch h) dM_exponent_13
set_option maxHeartbeats 4000000 in
set_option maxRecDepth 100000 in
theorem qM_exponent (l : Launch) (a0 : Int32) (a1 : Int64) : Met l yM_exponent wsM_exponent rmM_exponent (va_Pc [.int a0, .long a1] (fun _ => True)) (k2_QcV (.int (fM_exponent a0 a1))) 0 0 (fun _ => False) := by
  refine Met.ofW (cc := cM_exponent) (maxL := 3) (ret := (some .int)) (by decide) rfl ?_
  intro p e s m args below meth c s₁ B hml hv
  obtain ⟨rfl, hG⟩ := hv
  have hts0 := atoms_spec (ws := wsM_exponent) B.pre
  have hts := fun (w : Cond) (h : w ∈ aw) => hts0 w (List.mem_cons_of_mem _ h)
  have hown : s.vm.findClass "BitNumbersModel" = some m.cls := findClass_of_methodNamed B.named
  have hl := lv_entry ([.int a0, .long a1]) (n := 3) (Nat.le_of_ble_eq_true rfl)
  rw [lg_entry_eq]
  generalize (lg_sl ([.int a0, .long a1]) ++ List.replicate (3 - (lg_sl ([.int a0, .long a1])).length) Slot.unset).toArray = ls at hl ⊢
  exact kM_exponent_0 ⟨B.exec, B.bytes, B.returns, hml, hown, hts, B.notSynchronized⟩ a0 a1 hl

set_option maxHeartbeats 4000000 in
set_option maxRecDepth 100000 in
theorem kM_fraction_0 {p : Program} {l : Launch} {e : Env} {s : State} {m : MethodId} {args : Array Value} {below : List Frame} {meth : Method} {c : Code} (C : pw_C p s m args meth c cM_fraction 3 (some .long) "BitNumbersModel") (a0 : Int32) (a1 : Int64) {ls : Array Slot} (hl : lv_has ls 3 [(0, .int a0), (1, .long a1)]) : W p l e rmM_fraction s m args below meth c s.heap [] 0 0 (MQ below (k2_QcV (.long (fM_fraction a0 a1))) args s 0 0 (fun _ => False)) (F0 m 0 ls []) := by
  obtain ⟨hx, hb, hr, hml, hown, hts, hlocks⟩ := id C
  refine lv_lload_n hx hb dM_fraction_0 rfl (lv_at hl 1 rfl) ?_
  refine lv_lconst (v := 1) hx hb dM_fraction_1 (by decide) ?_
  refine lv_iload_n hx hb dM_fraction_2 rfl (lv_at hl 0 rfl) ?_
  refine pw_call (va_runS (As := [.int a0]) (rest := [.long 1, .long a1]) ⟨hx, hb, hml, hown, hts⟩ (qM_precision l a0) (va_cwS 1 hts (gS w_597 w_598 w_34 w_599) rfl rfl rfl (by decide +kernel) ⟨Nat.le_of_ble_eq_true rfl, Nat.le_of_ble_eq_true rfl⟩) ⟨pw_bT, fun U hU hW => ⟨rfl, trivial⟩⟩ rfl rfl hl.1 rfl (lv_room (Nat.le_of_ble_eq_true rfl)) dM_fraction_3 ⟨Nat.zero_le _, Nat.zero_le _⟩) ?_
  refine lv_iconst (v := 1) hx hb dM_fraction_6 (by decide) ?_
  refine lv_isub hx hb dM_fraction_7 ?_
  refine lv_lshl (v := bn_shl 1 ((fM_precision a0) - 1)) hx hb dM_fraction_8 rfl ?_
  refine lv_lconst (v := 1) hx hb dM_fraction_9 (by decide) ?_
  refine lv_lsub hx hb dM_fraction_10 ?_
  refine lv_land hx hb dM_fraction_11 ?_
  exact W.lret hx hb hr (fun t ht _ => ⟨by rw [(show fM_fraction a0 a1 = a1 &&& ((bn_shl 1 ((fM_precision a0) - 1)) - 1) by rw [fM_fraction])], ht⟩) (fun q h => nomatch h) dM_fraction_12
set_option maxHeartbeats 4000000 in
set_option maxRecDepth 100000 in
theorem qM_fraction (l : Launch) (a0 : Int32) (a1 : Int64) : Met l yM_fraction wsM_fraction rmM_fraction (va_Pc [.int a0, .long a1] (fun _ => True)) (k2_QcV (.long (fM_fraction a0 a1))) 0 0 (fun _ => False) := by
  refine Met.ofW (cc := cM_fraction) (maxL := 3) (ret := (some .long)) (by decide) rfl ?_
  intro p e s m args below meth c s₁ B hml hv
  obtain ⟨rfl, hG⟩ := hv
  have hts0 := atoms_spec (ws := wsM_fraction) B.pre
  have hts := fun (w : Cond) (h : w ∈ aw) => hts0 w (List.mem_cons_of_mem _ h)
  have hown : s.vm.findClass "BitNumbersModel" = some m.cls := findClass_of_methodNamed B.named
  have hl := lv_entry ([.int a0, .long a1]) (n := 3) (Nat.le_of_ble_eq_true rfl)
  rw [lg_entry_eq]
  generalize (lg_sl ([.int a0, .long a1]) ++ List.replicate (3 - (lg_sl ([.int a0, .long a1])).length) Slot.unset).toArray = ls at hl ⊢
  exact kM_fraction_0 ⟨B.exec, B.bytes, B.returns, hml, hown, hts, B.notSynchronized⟩ a0 a1 hl

set_option maxHeartbeats 4000000 in
set_option maxRecDepth 100000 in
theorem kM_last_0 {p : Program} {l : Launch} {e : Env} {s : State} {m : MethodId} {args : Array Value} {below : List Frame} {meth : Method} {c : Code} (C : pw_C p s m args meth c cM_last 1 (some .int) "BitNumbersModel") (a0 : Int32) {ls : Array Slot} (hl : lv_has ls 1 [(0, .int a0)]) : W p l e rmM_last s m args below meth c s.heap [] 0 0 (MQ below (k2_QcV (.int (fM_last a0))) args s 0 0 (fun _ => False)) (F0 m 0 ls []) := by
  obtain ⟨hx, hb, hr, hml, hown, hts, hlocks⟩ := id C
  refine lv_iconst (v := 2) hx hb dM_last_0 (by decide) ?_
  refine lv_iload_n hx hb dM_last_1 rfl (lv_at hl 0 rfl) ?_
  refine pw_call (va_runS (As := [.int a0]) (rest := [.int 2]) ⟨hx, hb, hml, hown, hts⟩ (qM_bias l a0) (va_cwS 1 hts (gS w_603 w_604 w_34 w_605) rfl rfl rfl (by decide +kernel) ⟨Nat.le_of_ble_eq_true rfl, Nat.le_of_ble_eq_true rfl⟩) ⟨pw_bT, fun U hU hW => ⟨rfl, trivial⟩⟩ rfl rfl hl.1 rfl (lv_room (Nat.le_of_ble_eq_true rfl)) dM_last_2 ⟨Nat.zero_le _, Nat.zero_le _⟩) ?_
  refine lv_imul hx hb dM_last_5 ?_
  refine lv_iconst (v := 1) hx hb dM_last_6 (by decide) ?_
  refine lv_iadd hx hb dM_last_7 ?_
  exact W.iret hx hb hr (fun t ht _ => ⟨by rw [(show fM_last a0 = (2 * (fM_bias a0)) + 1 by rw [fM_last])], ht⟩) (fun q h => nomatch h) dM_last_8
set_option maxHeartbeats 4000000 in
set_option maxRecDepth 100000 in
theorem qM_last (l : Launch) (a0 : Int32) : Met l yM_last wsM_last rmM_last (va_Pc [.int a0] (fun _ => True)) (k2_QcV (.int (fM_last a0))) 0 0 (fun _ => False) := by
  refine Met.ofW (cc := cM_last) (maxL := 1) (ret := (some .int)) (by decide) rfl ?_
  intro p e s m args below meth c s₁ B hml hv
  obtain ⟨rfl, hG⟩ := hv
  have hts0 := atoms_spec (ws := wsM_last) B.pre
  have hts := fun (w : Cond) (h : w ∈ aw) => hts0 w (List.mem_cons_of_mem _ h)
  have hown : s.vm.findClass "BitNumbersModel" = some m.cls := findClass_of_methodNamed B.named
  have hl := lv_entry ([.int a0]) (n := 1) (Nat.le_of_ble_eq_true rfl)
  rw [lg_entry_eq]
  generalize (lg_sl ([.int a0]) ++ List.replicate (1 - (lg_sl ([.int a0])).length) Slot.unset).toArray = ls at hl ⊢
  exact kM_last_0 ⟨B.exec, B.bytes, B.returns, hml, hown, hts, B.notSynchronized⟩ a0 hl

set_option maxHeartbeats 4000000 in
set_option maxRecDepth 100000 in
theorem kM_isNone_26 {p : Program} {l : Launch} {e : Env} {s : State} {m : MethodId} {args : Array Value} {below : List Frame} {meth : Method} {c : Code} (C : pw_C p s m args meth c cM_isNone 3 (some .boolean) "BitNumbersModel")  {ls : Array Slot} (hl : lv_has ls 3 []) : W p l e rmM_isNone s m args below meth c s.heap [] 0 0 (MQ below (k2_QcV (.int (fM_isNone_26))) args s 0 0 (fun _ => False)) (F0 m 26 ls []) := by
  obtain ⟨hx, hb, hr, hml, hown, hts, hlocks⟩ := id C
  refine lv_iconst (v := 0) hx hb dM_isNone_26 (by decide) ?_
  exact W.zret hx hb hr (pw_nz (Or.inl rfl)) (fun t ht _ => ⟨by rw [(show fM_isNone_26 = 0 by rw [fM_isNone_26])], ht⟩) (fun q h => nomatch h) dM_isNone_27
set_option maxHeartbeats 4000000 in
set_option maxRecDepth 100000 in
theorem kM_isNone_0 {p : Program} {l : Launch} {e : Env} {s : State} {m : MethodId} {args : Array Value} {below : List Frame} {meth : Method} {c : Code} (C : pw_C p s m args meth c cM_isNone 3 (some .boolean) "BitNumbersModel") (a0 : Int32) (a1 : Int64) {ls : Array Slot} (hl : lv_has ls 3 [(0, .int a0), (1, .long a1)]) : W p l e rmM_isNone s m args below meth c s.heap [] 0 0 (MQ below (k2_QcV (.int (fM_isNone a0 a1))) args s 0 0 (fun _ => False)) (F0 m 0 ls []) := by
  obtain ⟨hx, hb, hr, hml, hown, hts, hlocks⟩ := id C
  refine lv_iload_n hx hb dM_isNone_0 rfl (lv_at hl 0 rfl) ?_
  refine lv_lload_n hx hb dM_isNone_1 rfl (lv_at hl 1 rfl) ?_
  refine pw_call (va_runS (As := [.int a0, .long a1]) (rest := []) ⟨hx, hb, hml, hown, hts⟩ (qM_exponent l a0 a1) (va_cwS 2 hts (gS w_585 w_586 w_34 w_587) rfl rfl rfl (by decide +kernel) ⟨Nat.le_of_ble_eq_true rfl, Nat.le_of_ble_eq_true rfl⟩) ⟨pw_bT, fun U hU hW => ⟨rfl, trivial⟩⟩ rfl rfl hl.1 rfl (lv_room (Nat.le_of_ble_eq_true rfl)) dM_isNone_2 ⟨Nat.zero_le _, Nat.zero_le _⟩) ?_
  refine lv_iload_n hx hb dM_isNone_5 rfl (lv_at hl 0 rfl) ?_
  refine pw_call (va_runS (As := [.int a0]) (rest := [.int (fM_exponent a0 a1)]) ⟨hx, hb, hml, hown, hts⟩ (qM_last l a0) (va_cwS 1 hts (gS w_600 w_601 w_34 w_602) rfl rfl rfl (by decide +kernel) ⟨Nat.le_of_ble_eq_true rfl, Nat.le_of_ble_eq_true rfl⟩) ⟨pw_bT, fun U hU hW => ⟨rfl, trivial⟩⟩ rfl rfl hl.1 rfl (lv_room (Nat.le_of_ble_eq_true rfl)) dM_isNone_6 ⟨Nat.zero_le _, Nat.zero_le _⟩) ?_
  refine lv_icmp_ne (tgt := 26) hx hb dM_isNone_9 (by decide) (fun h1 => ?_) (fun h1 => ?_)
  · rw [(show fM_isNone a0 a1 = fM_isNone_26 by rw [fM_isNone, if_neg h1])]
    exact kM_isNone_26 C (lv_sub hl [] rfl)
  · refine lv_iload_n hx hb dM_isNone_12 rfl (lv_at hl 0 rfl) ?_
    refine lv_lload_n hx hb dM_isNone_13 rfl (lv_at hl 1 rfl) ?_
    refine pw_call (va_runS (As := [.int a0, .long a1]) (rest := []) ⟨hx, hb, hml, hown, hts⟩ (qM_fraction l a0 a1) (va_cwS 2 hts (gS w_606 w_607 w_34 w_608) rfl rfl rfl (by decide +kernel) ⟨Nat.le_of_ble_eq_true rfl, Nat.le_of_ble_eq_true rfl⟩) ⟨pw_bT, fun U hU hW => ⟨rfl, trivial⟩⟩ rfl rfl hl.1 rfl (lv_room (Nat.le_of_ble_eq_true rfl)) dM_isNone_14 ⟨Nat.zero_le _, Nat.zero_le _⟩) ?_
    refine lv_lconst (v := 0) hx hb dM_isNone_17 (by decide) ?_
    refine W.lcmp hx hb dM_isNone_18 ?_
    refine lv_if_eq (tgt := 26) hx hb dM_isNone_19 (by decide) (fun h2 => ?_) (fun h2 => ?_)
    · have h2 : (fM_fraction a0 a1) = 0 := (lg_cmp_eq _ _).mp h2
      rw [(show fM_isNone a0 a1 = fM_isNone_26 by rw [fM_isNone, if_pos h1, if_pos h2])]
      exact kM_isNone_26 C (lv_sub hl [] rfl)
    · have h2 : ¬ ((fM_fraction a0 a1) = 0) := fun w => h2 ((lg_cmp_eq _ _).mpr w)
      refine lv_iconst (v := 1) hx hb dM_isNone_22 (by decide) ?_
      refine lv_goto (tgt := 27) hx hb dM_isNone_23 (by decide) ?_
      exact W.zret hx hb hr (pw_nz (Or.inr rfl)) (fun t ht _ => ⟨by rw [(show fM_isNone a0 a1 = 1 by rw [fM_isNone, if_pos h1, if_neg h2])], ht⟩) (fun q h => nomatch h) dM_isNone_27
set_option maxHeartbeats 4000000 in
set_option maxRecDepth 100000 in
theorem qM_isNone (l : Launch) (a0 : Int32) (a1 : Int64) : Met l yM_isNone wsM_isNone rmM_isNone (va_Pc [.int a0, .long a1] (fun _ => True)) (k2_QcV (.int (fM_isNone a0 a1))) 0 0 (fun _ => False) := by
  refine Met.ofW (cc := cM_isNone) (maxL := 3) (ret := (some .boolean)) (by decide) rfl ?_
  intro p e s m args below meth c s₁ B hml hv
  obtain ⟨rfl, hG⟩ := hv
  have hts0 := atoms_spec (ws := wsM_isNone) B.pre
  have hts := fun (w : Cond) (h : w ∈ aw) => hts0 w (List.mem_cons_of_mem _ h)
  have hown : s.vm.findClass "BitNumbersModel" = some m.cls := findClass_of_methodNamed B.named
  have hl := lv_entry ([.int a0, .long a1]) (n := 3) (Nat.le_of_ble_eq_true rfl)
  rw [lg_entry_eq]
  generalize (lg_sl ([.int a0, .long a1]) ++ List.replicate (3 - (lg_sl ([.int a0, .long a1])).length) Slot.unset).toArray = ls at hl ⊢
  exact kM_isNone_0 ⟨B.exec, B.bytes, B.returns, hml, hown, hts, B.notSynchronized⟩ a0 a1 hl

set_option maxHeartbeats 4000000 in
set_option maxRecDepth 100000 in
theorem kM_isInfinite_26 {p : Program} {l : Launch} {e : Env} {s : State} {m : MethodId} {args : Array Value} {below : List Frame} {meth : Method} {c : Code} (C : pw_C p s m args meth c cM_isInfinite 3 (some .boolean) "BitNumbersModel")  {ls : Array Slot} (hl : lv_has ls 3 []) : W p l e rmM_isInfinite s m args below meth c s.heap [] 0 0 (MQ below (k2_QcV (.int (fM_isInfinite_26))) args s 0 0 (fun _ => False)) (F0 m 26 ls []) := by
  obtain ⟨hx, hb, hr, hml, hown, hts, hlocks⟩ := id C
  refine lv_iconst (v := 0) hx hb dM_isInfinite_26 (by decide) ?_
  exact W.zret hx hb hr (pw_nz (Or.inl rfl)) (fun t ht _ => ⟨by rw [(show fM_isInfinite_26 = 0 by rw [fM_isInfinite_26])], ht⟩) (fun q h => nomatch h) dM_isInfinite_27
set_option maxHeartbeats 4000000 in
set_option maxRecDepth 100000 in
theorem kM_isInfinite_0 {p : Program} {l : Launch} {e : Env} {s : State} {m : MethodId} {args : Array Value} {below : List Frame} {meth : Method} {c : Code} (C : pw_C p s m args meth c cM_isInfinite 3 (some .boolean) "BitNumbersModel") (a0 : Int32) (a1 : Int64) {ls : Array Slot} (hl : lv_has ls 3 [(0, .int a0), (1, .long a1)]) : W p l e rmM_isInfinite s m args below meth c s.heap [] 0 0 (MQ below (k2_QcV (.int (fM_isInfinite a0 a1))) args s 0 0 (fun _ => False)) (F0 m 0 ls []) := by
  obtain ⟨hx, hb, hr, hml, hown, hts, hlocks⟩ := id C
  refine lv_iload_n hx hb dM_isInfinite_0 rfl (lv_at hl 0 rfl) ?_
  refine lv_lload_n hx hb dM_isInfinite_1 rfl (lv_at hl 1 rfl) ?_
  refine pw_call (va_runS (As := [.int a0, .long a1]) (rest := []) ⟨hx, hb, hml, hown, hts⟩ (qM_exponent l a0 a1) (va_cwS 2 hts (gS w_585 w_586 w_34 w_587) rfl rfl rfl (by decide +kernel) ⟨Nat.le_of_ble_eq_true rfl, Nat.le_of_ble_eq_true rfl⟩) ⟨pw_bT, fun U hU hW => ⟨rfl, trivial⟩⟩ rfl rfl hl.1 rfl (lv_room (Nat.le_of_ble_eq_true rfl)) dM_isInfinite_2 ⟨Nat.zero_le _, Nat.zero_le _⟩) ?_
  refine lv_iload_n hx hb dM_isInfinite_5 rfl (lv_at hl 0 rfl) ?_
  refine pw_call (va_runS (As := [.int a0]) (rest := [.int (fM_exponent a0 a1)]) ⟨hx, hb, hml, hown, hts⟩ (qM_last l a0) (va_cwS 1 hts (gS w_600 w_601 w_34 w_602) rfl rfl rfl (by decide +kernel) ⟨Nat.le_of_ble_eq_true rfl, Nat.le_of_ble_eq_true rfl⟩) ⟨pw_bT, fun U hU hW => ⟨rfl, trivial⟩⟩ rfl rfl hl.1 rfl (lv_room (Nat.le_of_ble_eq_true rfl)) dM_isInfinite_6 ⟨Nat.zero_le _, Nat.zero_le _⟩) ?_
  refine lv_icmp_ne (tgt := 26) hx hb dM_isInfinite_9 (by decide) (fun h1 => ?_) (fun h1 => ?_)
  · rw [(show fM_isInfinite a0 a1 = fM_isInfinite_26 by rw [fM_isInfinite, if_neg h1])]
    exact kM_isInfinite_26 C (lv_sub hl [] rfl)
  · refine lv_iload_n hx hb dM_isInfinite_12 rfl (lv_at hl 0 rfl) ?_
    refine lv_lload_n hx hb dM_isInfinite_13 rfl (lv_at hl 1 rfl) ?_
    refine pw_call (va_runS (As := [.int a0, .long a1]) (rest := []) ⟨hx, hb, hml, hown, hts⟩ (qM_fraction l a0 a1) (va_cwS 2 hts (gS w_606 w_607 w_34 w_608) rfl rfl rfl (by decide +kernel) ⟨Nat.le_of_ble_eq_true rfl, Nat.le_of_ble_eq_true rfl⟩) ⟨pw_bT, fun U hU hW => ⟨rfl, trivial⟩⟩ rfl rfl hl.1 rfl (lv_room (Nat.le_of_ble_eq_true rfl)) dM_isInfinite_14 ⟨Nat.zero_le _, Nat.zero_le _⟩) ?_
    refine lv_lconst (v := 0) hx hb dM_isInfinite_17 (by decide) ?_
    refine W.lcmp hx hb dM_isInfinite_18 ?_
    refine lv_if_ne (tgt := 26) hx hb dM_isInfinite_19 (by decide) (fun h2 => ?_) (fun h2 => ?_)
    · have h2 : ¬ ((fM_fraction a0 a1) = 0) := fun w => h2 ((lg_cmp_eq _ _).mpr w)
      rw [(show fM_isInfinite a0 a1 = fM_isInfinite_26 by rw [fM_isInfinite, if_pos h1, if_neg h2])]
      exact kM_isInfinite_26 C (lv_sub hl [] rfl)
    · have h2 : (fM_fraction a0 a1) = 0 := (lg_cmp_eq _ _).mp h2
      refine lv_iconst (v := 1) hx hb dM_isInfinite_22 (by decide) ?_
      refine lv_goto (tgt := 27) hx hb dM_isInfinite_23 (by decide) ?_
      exact W.zret hx hb hr (pw_nz (Or.inr rfl)) (fun t ht _ => ⟨by rw [(show fM_isInfinite a0 a1 = 1 by rw [fM_isInfinite, if_pos h1, if_pos h2])], ht⟩) (fun q h => nomatch h) dM_isInfinite_27
set_option maxHeartbeats 4000000 in
set_option maxRecDepth 100000 in
theorem qM_isInfinite (l : Launch) (a0 : Int32) (a1 : Int64) : Met l yM_isInfinite wsM_isInfinite rmM_isInfinite (va_Pc [.int a0, .long a1] (fun _ => True)) (k2_QcV (.int (fM_isInfinite a0 a1))) 0 0 (fun _ => False) := by
  refine Met.ofW (cc := cM_isInfinite) (maxL := 3) (ret := (some .boolean)) (by decide) rfl ?_
  intro p e s m args below meth c s₁ B hml hv
  obtain ⟨rfl, hG⟩ := hv
  have hts0 := atoms_spec (ws := wsM_isInfinite) B.pre
  have hts := fun (w : Cond) (h : w ∈ aw) => hts0 w (List.mem_cons_of_mem _ h)
  have hown : s.vm.findClass "BitNumbersModel" = some m.cls := findClass_of_methodNamed B.named
  have hl := lv_entry ([.int a0, .long a1]) (n := 3) (Nat.le_of_ble_eq_true rfl)
  rw [lg_entry_eq]
  generalize (lg_sl ([.int a0, .long a1]) ++ List.replicate (3 - (lg_sl ([.int a0, .long a1])).length) Slot.unset).toArray = ls at hl ⊢
  exact kM_isInfinite_0 ⟨B.exec, B.bytes, B.returns, hml, hown, hts, B.notSynchronized⟩ a0 a1 hl

set_option maxHeartbeats 4000000 in
set_option maxRecDepth 100000 in
theorem kM_isZero_0 {p : Program} {l : Launch} {e : Env} {s : State} {m : MethodId} {args : Array Value} {below : List Frame} {meth : Method} {c : Code} (C : pw_C p s m args meth c cM_isZero 3 (some .boolean) "BitNumbersModel") (a0 : Int32) (a1 : Int64) {ls : Array Slot} (hl : lv_has ls 3 [(0, .int a0), (1, .long a1)]) : W p l e rmM_isZero s m args below meth c s.heap [] 0 0 (MQ below (k2_QcV (.int (fM_isZero a0 a1))) args s 0 0 (fun _ => False)) (F0 m 0 ls []) := by
  obtain ⟨hx, hb, hr, hml, hown, hts, hlocks⟩ := id C
  refine lv_iload_n hx hb dM_isZero_0 rfl (lv_at hl 0 rfl) ?_
  refine lv_lload_n hx hb dM_isZero_1 rfl (lv_at hl 1 rfl) ?_
  refine pw_call (va_runS (As := [.int a0, .long a1]) (rest := []) ⟨hx, hb, hml, hown, hts⟩ (qM_rest l a0 a1) (va_cwS 2 hts (gS w_588 w_589 w_34 w_590) rfl rfl rfl (by decide +kernel) ⟨Nat.le_of_ble_eq_true rfl, Nat.le_of_ble_eq_true rfl⟩) ⟨pw_bT, fun U hU hW => ⟨rfl, trivial⟩⟩ rfl rfl hl.1 rfl (lv_room (Nat.le_of_ble_eq_true rfl)) dM_isZero_2 ⟨Nat.zero_le _, Nat.zero_le _⟩) ?_
  refine lv_lconst (v := 0) hx hb dM_isZero_5 (by decide) ?_
  refine W.lcmp hx hb dM_isZero_6 ?_
  refine lv_if_ne (tgt := 14) hx hb dM_isZero_7 (by decide) (fun h1 => ?_) (fun h1 => ?_)
  · have h1 : ¬ ((fM_rest a0 a1) = 0) := fun w => h1 ((lg_cmp_eq _ _).mpr w)
    refine lv_iconst (v := 0) hx hb dM_isZero_14 (by decide) ?_
    exact W.zret hx hb hr (pw_nz (Or.inl rfl)) (fun t ht _ => ⟨by rw [(show fM_isZero a0 a1 = 0 by rw [fM_isZero, if_neg h1])], ht⟩) (fun q h => nomatch h) dM_isZero_15
  · have h1 : (fM_rest a0 a1) = 0 := (lg_cmp_eq _ _).mp h1
    refine lv_iconst (v := 1) hx hb dM_isZero_10 (by decide) ?_
    refine lv_goto (tgt := 15) hx hb dM_isZero_11 (by decide) ?_
    exact W.zret hx hb hr (pw_nz (Or.inr rfl)) (fun t ht _ => ⟨by rw [(show fM_isZero a0 a1 = 1 by rw [fM_isZero, if_pos h1])], ht⟩) (fun q h => nomatch h) dM_isZero_15
set_option maxHeartbeats 4000000 in
set_option maxRecDepth 100000 in
theorem qM_isZero (l : Launch) (a0 : Int32) (a1 : Int64) : Met l yM_isZero wsM_isZero rmM_isZero (va_Pc [.int a0, .long a1] (fun _ => True)) (k2_QcV (.int (fM_isZero a0 a1))) 0 0 (fun _ => False) := by
  refine Met.ofW (cc := cM_isZero) (maxL := 3) (ret := (some .boolean)) (by decide) rfl ?_
  intro p e s m args below meth c s₁ B hml hv
  obtain ⟨rfl, hG⟩ := hv
  have hts0 := atoms_spec (ws := wsM_isZero) B.pre
  have hts := fun (w : Cond) (h : w ∈ aw) => hts0 w (List.mem_cons_of_mem _ h)
  have hown : s.vm.findClass "BitNumbersModel" = some m.cls := findClass_of_methodNamed B.named
  have hl := lv_entry ([.int a0, .long a1]) (n := 3) (Nat.le_of_ble_eq_true rfl)
  rw [lg_entry_eq]
  generalize (lg_sl ([.int a0, .long a1]) ++ List.replicate (3 - (lg_sl ([.int a0, .long a1])).length) Slot.unset).toArray = ls at hl ⊢
  exact kM_isZero_0 ⟨B.exec, B.bytes, B.returns, hml, hown, hts, B.notSynchronized⟩ a0 a1 hl

set_option maxHeartbeats 4000000 in
set_option maxRecDepth 100000 in
theorem kM_significand_25 {p : Program} {l : Launch} {e : Env} {s : State} {m : MethodId} {args : Array Value} {below : List Frame} {meth : Method} {c : Code} (C : pw_C p s m args meth c cM_significand 3 (some .long) "BitNumbersModel") (s0 : Int64) (s1 : Int64) {ls : Array Slot} (hl : lv_has ls 3 []) : W p l e rmM_significand s m args below meth c s.heap [] 0 0 (MQ below (k2_QcV (.long (fM_significand_25 s0 s1))) args s 0 0 (fun _ => False)) (F0 m 25 ls [.long s0, .long s1]) := by
  obtain ⟨hx, hb, hr, hml, hown, hts, hlocks⟩ := id C
  refine lv_ladd hx hb dM_significand_25 ?_
  exact W.lret hx hb hr (fun t ht _ => ⟨by rw [(show fM_significand_25 s0 s1 = s1 + s0 by rw [fM_significand_25])], ht⟩) (fun q h => nomatch h) dM_significand_26
set_option maxHeartbeats 4000000 in
set_option maxRecDepth 100000 in
theorem kM_significand_0 {p : Program} {l : Launch} {e : Env} {s : State} {m : MethodId} {args : Array Value} {below : List Frame} {meth : Method} {c : Code} (C : pw_C p s m args meth c cM_significand 3 (some .long) "BitNumbersModel") (a0 : Int32) (a1 : Int64) {ls : Array Slot} (hl : lv_has ls 3 [(0, .int a0), (1, .long a1)]) : W p l e rmM_significand s m args below meth c s.heap [] 0 0 (MQ below (k2_QcV (.long (fM_significand a0 a1))) args s 0 0 (fun _ => False)) (F0 m 0 ls []) := by
  obtain ⟨hx, hb, hr, hml, hown, hts, hlocks⟩ := id C
  refine lv_iload_n hx hb dM_significand_0 rfl (lv_at hl 0 rfl) ?_
  refine lv_lload_n hx hb dM_significand_1 rfl (lv_at hl 1 rfl) ?_
  refine pw_call (va_runS (As := [.int a0, .long a1]) (rest := []) ⟨hx, hb, hml, hown, hts⟩ (qM_fraction l a0 a1) (va_cwS 2 hts (gS w_606 w_607 w_34 w_608) rfl rfl rfl (by decide +kernel) ⟨Nat.le_of_ble_eq_true rfl, Nat.le_of_ble_eq_true rfl⟩) ⟨pw_bT, fun U hU hW => ⟨rfl, trivial⟩⟩ rfl rfl hl.1 rfl (lv_room (Nat.le_of_ble_eq_true rfl)) dM_significand_2 ⟨Nat.zero_le _, Nat.zero_le _⟩) ?_
  refine lv_iload_n hx hb dM_significand_5 rfl (lv_at hl 0 rfl) ?_
  refine lv_lload_n hx hb dM_significand_6 rfl (lv_at hl 1 rfl) ?_
  refine pw_call (va_runS (As := [.int a0, .long a1]) (rest := [.long (fM_fraction a0 a1)]) ⟨hx, hb, hml, hown, hts⟩ (qM_exponent l a0 a1) (va_cwS 2 hts (gS w_585 w_586 w_34 w_587) rfl rfl rfl (by decide +kernel) ⟨Nat.le_of_ble_eq_true rfl, Nat.le_of_ble_eq_true rfl⟩) ⟨pw_bT, fun U hU hW => ⟨rfl, trivial⟩⟩ rfl rfl hl.1 rfl (lv_room (Nat.le_of_ble_eq_true rfl)) dM_significand_7 ⟨Nat.zero_le _, Nat.zero_le _⟩) ?_
  refine lv_if_ne (tgt := 17) hx hb dM_significand_10 (by decide) (fun h1 => ?_) (fun h1 => ?_)
  · refine lv_lconst (v := 1) hx hb dM_significand_17 (by decide) ?_
    refine lv_iload_n hx hb dM_significand_18 rfl (lv_at hl 0 rfl) ?_
    refine pw_call (va_runS (As := [.int a0]) (rest := [.long 1, .long (fM_fraction a0 a1)]) ⟨hx, hb, hml, hown, hts⟩ (qM_precision l a0) (va_cwS 1 hts (gS w_597 w_598 w_34 w_599) rfl rfl rfl (by decide +kernel) ⟨Nat.le_of_ble_eq_true rfl, Nat.le_of_ble_eq_true rfl⟩) ⟨pw_bT, fun U hU hW => ⟨rfl, trivial⟩⟩ rfl rfl hl.1 rfl (lv_room (Nat.le_of_ble_eq_true rfl)) dM_significand_19 ⟨Nat.zero_le _, Nat.zero_le _⟩) ?_
    refine lv_iconst (v := 1) hx hb dM_significand_22 (by decide) ?_
    refine lv_isub hx hb dM_significand_23 ?_
    refine lv_lshl (v := bn_shl 1 ((fM_precision a0) - 1)) hx hb dM_significand_24 rfl ?_
    rw [(show fM_significand a0 a1 = fM_significand_25 (bn_shl 1 ((fM_precision a0) - 1)) (fM_fraction a0 a1) by rw [fM_significand, if_neg h1])]
    exact kM_significand_25 C (bn_shl 1 ((fM_precision a0) - 1)) (fM_fraction a0 a1) (lv_sub hl [] rfl)
  · refine lv_lconst (v := 0) hx hb dM_significand_13 (by decide) ?_
    refine lv_goto (tgt := 25) hx hb dM_significand_14 (by decide) ?_
    rw [(show fM_significand a0 a1 = fM_significand_25 0 (fM_fraction a0 a1) by rw [fM_significand, if_pos h1])]
    exact kM_significand_25 C 0 (fM_fraction a0 a1) (lv_sub hl [] rfl)
set_option maxHeartbeats 4000000 in
set_option maxRecDepth 100000 in
theorem qM_significand (l : Launch) (a0 : Int32) (a1 : Int64) : Met l yM_significand wsM_significand rmM_significand (va_Pc [.int a0, .long a1] (fun _ => True)) (k2_QcV (.long (fM_significand a0 a1))) 0 0 (fun _ => False) := by
  refine Met.ofW (cc := cM_significand) (maxL := 3) (ret := (some .long)) (by decide) rfl ?_
  intro p e s m args below meth c s₁ B hml hv
  obtain ⟨rfl, hG⟩ := hv
  have hts0 := atoms_spec (ws := wsM_significand) B.pre
  have hts := fun (w : Cond) (h : w ∈ aw) => hts0 w (List.mem_cons_of_mem _ h)
  have hown : s.vm.findClass "BitNumbersModel" = some m.cls := findClass_of_methodNamed B.named
  have hl := lv_entry ([.int a0, .long a1]) (n := 3) (Nat.le_of_ble_eq_true rfl)
  rw [lg_entry_eq]
  generalize (lg_sl ([.int a0, .long a1]) ++ List.replicate (3 - (lg_sl ([.int a0, .long a1])).length) Slot.unset).toArray = ls at hl ⊢
  exact kM_significand_0 ⟨B.exec, B.bytes, B.returns, hml, hown, hts, B.notSynchronized⟩ a0 a1 hl

set_option maxHeartbeats 4000000 in
set_option maxRecDepth 100000 in
theorem kM_least_0 {p : Program} {l : Launch} {e : Env} {s : State} {m : MethodId} {args : Array Value} {below : List Frame} {meth : Method} {c : Code} (C : pw_C p s m args meth c cM_least 1 (some .int) "BitNumbersModel") (a0 : Int32) {ls : Array Slot} (hl : lv_has ls 1 [(0, .int a0)]) : W p l e rmM_least s m args below meth c s.heap [] 0 0 (MQ below (k2_QcV (.int (fM_least a0))) args s 0 0 (fun _ => False)) (F0 m 0 ls []) := by
  obtain ⟨hx, hb, hr, hml, hown, hts, hlocks⟩ := id C
  refine lv_iconst (v := 2) hx hb dM_least_0 (by decide) ?_
  refine lv_iload_n hx hb dM_least_1 rfl (lv_at hl 0 rfl) ?_
  refine pw_call (va_runS (As := [.int a0]) (rest := [.int 2]) ⟨hx, hb, hml, hown, hts⟩ (qM_bias l a0) (va_cwS 1 hts (gS w_603 w_604 w_34 w_605) rfl rfl rfl (by decide +kernel) ⟨Nat.le_of_ble_eq_true rfl, Nat.le_of_ble_eq_true rfl⟩) ⟨pw_bT, fun U hU hW => ⟨rfl, trivial⟩⟩ rfl rfl hl.1 rfl (lv_room (Nat.le_of_ble_eq_true rfl)) dM_least_2 ⟨Nat.zero_le _, Nat.zero_le _⟩) ?_
  refine lv_isub hx hb dM_least_5 ?_
  refine lv_iload_n hx hb dM_least_6 rfl (lv_at hl 0 rfl) ?_
  refine pw_call (va_runS (As := [.int a0]) (rest := [.int (2 - (fM_bias a0))]) ⟨hx, hb, hml, hown, hts⟩ (qM_precision l a0) (va_cwS 1 hts (gS w_597 w_598 w_34 w_599) rfl rfl rfl (by decide +kernel) ⟨Nat.le_of_ble_eq_true rfl, Nat.le_of_ble_eq_true rfl⟩) ⟨pw_bT, fun U hU hW => ⟨rfl, trivial⟩⟩ rfl rfl hl.1 rfl (lv_room (Nat.le_of_ble_eq_true rfl)) dM_least_7 ⟨Nat.zero_le _, Nat.zero_le _⟩) ?_
  refine lv_isub hx hb dM_least_10 ?_
  exact W.iret hx hb hr (fun t ht _ => ⟨by rw [(show fM_least a0 = (2 - (fM_bias a0)) - (fM_precision a0) by rw [fM_least])], ht⟩) (fun q h => nomatch h) dM_least_11
set_option maxHeartbeats 4000000 in
set_option maxRecDepth 100000 in
theorem qM_least (l : Launch) (a0 : Int32) : Met l yM_least wsM_least rmM_least (va_Pc [.int a0] (fun _ => True)) (k2_QcV (.int (fM_least a0))) 0 0 (fun _ => False) := by
  refine Met.ofW (cc := cM_least) (maxL := 1) (ret := (some .int)) (by decide) rfl ?_
  intro p e s m args below meth c s₁ B hml hv
  obtain ⟨rfl, hG⟩ := hv
  have hts0 := atoms_spec (ws := wsM_least) B.pre
  have hts := fun (w : Cond) (h : w ∈ aw) => hts0 w (List.mem_cons_of_mem _ h)
  have hown : s.vm.findClass "BitNumbersModel" = some m.cls := findClass_of_methodNamed B.named
  have hl := lv_entry ([.int a0]) (n := 1) (Nat.le_of_ble_eq_true rfl)
  rw [lg_entry_eq]
  generalize (lg_sl ([.int a0]) ++ List.replicate (1 - (lg_sl ([.int a0])).length) Slot.unset).toArray = ls at hl ⊢
  exact kM_least_0 ⟨B.exec, B.bytes, B.returns, hml, hown, hts, B.notSynchronized⟩ a0 hl

set_option maxHeartbeats 4000000 in
set_option maxRecDepth 100000 in
theorem kM_scaleOf_23 {p : Program} {l : Launch} {e : Env} {s : State} {m : MethodId} {args : Array Value} {below : List Frame} {meth : Method} {c : Code} (C : pw_C p s m args meth c cM_scaleOf 3 (some .int) "BitNumbersModel") (s0 : Int32) (s1 : Int32) {ls : Array Slot} (hl : lv_has ls 3 []) : W p l e rmM_scaleOf s m args below meth c s.heap [] 0 0 (MQ below (k2_QcV (.int (fM_scaleOf_23 s0 s1))) args s 0 0 (fun _ => False)) (F0 m 23 ls [.int s0, .int s1]) := by
  obtain ⟨hx, hb, hr, hml, hown, hts, hlocks⟩ := id C
  refine lv_iadd hx hb dM_scaleOf_23 ?_
  exact W.iret hx hb hr (fun t ht _ => ⟨by rw [(show fM_scaleOf_23 s0 s1 = s1 + s0 by rw [fM_scaleOf_23])], ht⟩) (fun q h => nomatch h) dM_scaleOf_24
set_option maxHeartbeats 4000000 in
set_option maxRecDepth 100000 in
theorem kM_scaleOf_0 {p : Program} {l : Launch} {e : Env} {s : State} {m : MethodId} {args : Array Value} {below : List Frame} {meth : Method} {c : Code} (C : pw_C p s m args meth c cM_scaleOf 3 (some .int) "BitNumbersModel") (a0 : Int32) (a1 : Int64) {ls : Array Slot} (hl : lv_has ls 3 [(0, .int a0), (1, .long a1)]) : W p l e rmM_scaleOf s m args below meth c s.heap [] 0 0 (MQ below (k2_QcV (.int (fM_scaleOf a0 a1))) args s 0 0 (fun _ => False)) (F0 m 0 ls []) := by
  obtain ⟨hx, hb, hr, hml, hown, hts, hlocks⟩ := id C
  refine lv_iload_n hx hb dM_scaleOf_0 rfl (lv_at hl 0 rfl) ?_
  refine pw_call (va_runS (As := [.int a0]) (rest := []) ⟨hx, hb, hml, hown, hts⟩ (qM_least l a0) (va_cwS 1 hts (gS w_669 w_670 w_34 w_671) rfl rfl rfl (by decide +kernel) ⟨Nat.le_of_ble_eq_true rfl, Nat.le_of_ble_eq_true rfl⟩) ⟨pw_bT, fun U hU hW => ⟨rfl, trivial⟩⟩ rfl rfl hl.1 rfl (lv_room (Nat.le_of_ble_eq_true rfl)) dM_scaleOf_1 ⟨Nat.zero_le _, Nat.zero_le _⟩) ?_
  refine lv_iload_n hx hb dM_scaleOf_4 rfl (lv_at hl 0 rfl) ?_
  refine lv_lload_n hx hb dM_scaleOf_5 rfl (lv_at hl 1 rfl) ?_
  refine pw_call (va_runS (As := [.int a0, .long a1]) (rest := [.int (fM_least a0)]) ⟨hx, hb, hml, hown, hts⟩ (qM_exponent l a0 a1) (va_cwS 2 hts (gS w_585 w_586 w_34 w_587) rfl rfl rfl (by decide +kernel) ⟨Nat.le_of_ble_eq_true rfl, Nat.le_of_ble_eq_true rfl⟩) ⟨pw_bT, fun U hU hW => ⟨rfl, trivial⟩⟩ rfl rfl hl.1 rfl (lv_room (Nat.le_of_ble_eq_true rfl)) dM_scaleOf_6 ⟨Nat.zero_le _, Nat.zero_le _⟩) ?_
  refine lv_if_ne (tgt := 16) hx hb dM_scaleOf_9 (by decide) (fun h1 => ?_) (fun h1 => ?_)
  · refine lv_iload_n hx hb dM_scaleOf_16 rfl (lv_at hl 0 rfl) ?_
    refine lv_lload_n hx hb dM_scaleOf_17 rfl (lv_at hl 1 rfl) ?_
    refine pw_call (va_runS (As := [.int a0, .long a1]) (rest := [.int (fM_least a0)]) ⟨hx, hb, hml, hown, hts⟩ (qM_exponent l a0 a1) (va_cwS 2 hts (gS w_585 w_586 w_34 w_587) rfl rfl rfl (by decide +kernel) ⟨Nat.le_of_ble_eq_true rfl, Nat.le_of_ble_eq_true rfl⟩) ⟨pw_bT, fun U hU hW => ⟨rfl, trivial⟩⟩ rfl rfl hl.1 rfl (lv_room (Nat.le_of_ble_eq_true rfl)) dM_scaleOf_18 ⟨Nat.zero_le _, Nat.zero_le _⟩) ?_
    refine lv_iconst (v := 1) hx hb dM_scaleOf_21 (by decide) ?_
    refine lv_isub hx hb dM_scaleOf_22 ?_
    rw [(show fM_scaleOf a0 a1 = fM_scaleOf_23 ((fM_exponent a0 a1) - 1) (fM_least a0) by rw [fM_scaleOf, if_neg h1])]
    exact kM_scaleOf_23 C ((fM_exponent a0 a1) - 1) (fM_least a0) (lv_sub hl [] rfl)
  · refine lv_iconst (v := 0) hx hb dM_scaleOf_12 (by decide) ?_
    refine lv_goto (tgt := 23) hx hb dM_scaleOf_13 (by decide) ?_
    rw [(show fM_scaleOf a0 a1 = fM_scaleOf_23 0 (fM_least a0) by rw [fM_scaleOf, if_pos h1])]
    exact kM_scaleOf_23 C 0 (fM_least a0) (lv_sub hl [] rfl)
set_option maxHeartbeats 4000000 in
set_option maxRecDepth 100000 in
theorem qM_scaleOf (l : Launch) (a0 : Int32) (a1 : Int64) : Met l yM_scaleOf wsM_scaleOf rmM_scaleOf (va_Pc [.int a0, .long a1] (fun _ => True)) (k2_QcV (.int (fM_scaleOf a0 a1))) 0 0 (fun _ => False) := by
  refine Met.ofW (cc := cM_scaleOf) (maxL := 3) (ret := (some .int)) (by decide) rfl ?_
  intro p e s m args below meth c s₁ B hml hv
  obtain ⟨rfl, hG⟩ := hv
  have hts0 := atoms_spec (ws := wsM_scaleOf) B.pre
  have hts := fun (w : Cond) (h : w ∈ aw) => hts0 w (List.mem_cons_of_mem _ h)
  have hown : s.vm.findClass "BitNumbersModel" = some m.cls := findClass_of_methodNamed B.named
  have hl := lv_entry ([.int a0, .long a1]) (n := 3) (Nat.le_of_ble_eq_true rfl)
  rw [lg_entry_eq]
  generalize (lg_sl ([.int a0, .long a1]) ++ List.replicate (3 - (lg_sl ([.int a0, .long a1])).length) Slot.unset).toArray = ls at hl ⊢
  exact kM_scaleOf_0 ⟨B.exec, B.bytes, B.returns, hml, hown, hts, B.notSynchronized⟩ a0 a1 hl

set_option maxHeartbeats 4000000 in
set_option maxRecDepth 100000 in
theorem kM_theNone_0 {p : Program} {l : Launch} {e : Env} {s : State} {m : MethodId} {args : Array Value} {below : List Frame} {meth : Method} {c : Code} (C : pw_C p s m args meth c cM_theNone 1 (some .long) "BitNumbersModel") (a0 : Int32) {ls : Array Slot} (hl : lv_has ls 1 [(0, .int a0)]) : W p l e rmM_theNone s m args below meth c s.heap [] 0 0 (MQ below (k2_QcV (.long (fM_theNone a0))) args s 0 0 (fun _ => False)) (F0 m 0 ls []) := by
  obtain ⟨hx, hb, hr, hml, hown, hts, hlocks⟩ := id C
  refine lv_iload_n hx hb dM_theNone_0 rfl (lv_at hl 0 rfl) ?_
  refine lv_iconst (v := 2) hx hb dM_theNone_1 (by decide) ?_
  refine lv_icmp_ne (tgt := 11) hx hb dM_theNone_2 (by decide) (fun h1 => ?_) (fun h1 => ?_)
  · refine lv_ldc2 hx hb hown (hts _ w_655) dM_theNone_11 ?_
    exact W.lret hx hb hr (fun t ht _ => ⟨by rw [(show fM_theNone a0 = 9221120237041090560 by rw [fM_theNone, if_neg h1])], ht⟩) (fun q h => nomatch h) dM_theNone_14
  · refine lv_ldc2 hx hb hown (hts _ w_654) dM_theNone_5 ?_
    refine lv_goto (tgt := 14) hx hb dM_theNone_8 (by decide) ?_
    exact W.lret hx hb hr (fun t ht _ => ⟨by rw [(show fM_theNone a0 = 2143289344 by rw [fM_theNone, if_pos h1])], ht⟩) (fun q h => nomatch h) dM_theNone_14
set_option maxHeartbeats 4000000 in
set_option maxRecDepth 100000 in
theorem qM_theNone (l : Launch) (a0 : Int32) : Met l yM_theNone wsM_theNone rmM_theNone (va_Pc [.int a0] (fun _ => True)) (k2_QcV (.long (fM_theNone a0))) 0 0 (fun _ => False) := by
  refine Met.ofW (cc := cM_theNone) (maxL := 1) (ret := (some .long)) (by decide) rfl ?_
  intro p e s m args below meth c s₁ B hml hv
  obtain ⟨rfl, hG⟩ := hv
  have hts0 := atoms_spec (ws := wsM_theNone) B.pre
  have hts := fun (w : Cond) (h : w ∈ aw) => hts0 w (List.mem_cons_of_mem _ h)
  have hown : s.vm.findClass "BitNumbersModel" = some m.cls := findClass_of_methodNamed B.named
  have hl := lv_entry ([.int a0]) (n := 1) (Nat.le_of_ble_eq_true rfl)
  rw [lg_entry_eq]
  generalize (lg_sl ([.int a0]) ++ List.replicate (1 - (lg_sl ([.int a0])).length) Slot.unset).toArray = ls at hl ⊢
  exact kM_theNone_0 ⟨B.exec, B.bytes, B.returns, hml, hown, hts, B.notSynchronized⟩ a0 hl

set_option maxHeartbeats 4000000 in
set_option maxRecDepth 100000 in
theorem kM_infinite_0 {p : Program} {l : Launch} {e : Env} {s : State} {m : MethodId} {args : Array Value} {below : List Frame} {meth : Method} {c : Code} (C : pw_C p s m args meth c cM_infinite 1 (some .long) "BitNumbersModel") (a0 : Int32) {ls : Array Slot} (hl : lv_has ls 1 [(0, .int a0)]) : W p l e rmM_infinite s m args below meth c s.heap [] 0 0 (MQ below (k2_QcV (.long (fM_infinite a0))) args s 0 0 (fun _ => False)) (F0 m 0 ls []) := by
  obtain ⟨hx, hb, hr, hml, hown, hts, hlocks⟩ := id C
  refine lv_iload_n hx hb dM_infinite_0 rfl (lv_at hl 0 rfl) ?_
  refine pw_call (va_runS (As := [.int a0]) (rest := []) ⟨hx, hb, hml, hown, hts⟩ (qM_last l a0) (va_cwS 1 hts (gS w_600 w_601 w_34 w_602) rfl rfl rfl (by decide +kernel) ⟨Nat.le_of_ble_eq_true rfl, Nat.le_of_ble_eq_true rfl⟩) ⟨pw_bT, fun U hU hW => ⟨rfl, trivial⟩⟩ rfl rfl hl.1 rfl (lv_room (Nat.le_of_ble_eq_true rfl)) dM_infinite_1 ⟨Nat.zero_le _, Nat.zero_le _⟩) ?_
  refine lv_i2l hx hb dM_infinite_4 rfl ?_
  refine lv_iload_n hx hb dM_infinite_5 rfl (lv_at hl 0 rfl) ?_
  refine pw_call (va_runS (As := [.int a0]) (rest := [.long ((fM_last a0).toInt64)]) ⟨hx, hb, hml, hown, hts⟩ (qM_precision l a0) (va_cwS 1 hts (gS w_597 w_598 w_34 w_599) rfl rfl rfl (by decide +kernel) ⟨Nat.le_of_ble_eq_true rfl, Nat.le_of_ble_eq_true rfl⟩) ⟨pw_bT, fun U hU hW => ⟨rfl, trivial⟩⟩ rfl rfl hl.1 rfl (lv_room (Nat.le_of_ble_eq_true rfl)) dM_infinite_6 ⟨Nat.zero_le _, Nat.zero_le _⟩) ?_
  refine lv_iconst (v := 1) hx hb dM_infinite_9 (by decide) ?_
  refine lv_isub hx hb dM_infinite_10 ?_
  refine lv_lshl (v := bn_shl ((fM_last a0).toInt64) ((fM_precision a0) - 1)) hx hb dM_infinite_11 rfl ?_
  exact W.lret hx hb hr (fun t ht _ => ⟨by rw [(show fM_infinite a0 = bn_shl ((fM_last a0).toInt64) ((fM_precision a0) - 1) by rw [fM_infinite])], ht⟩) (fun q h => nomatch h) dM_infinite_12
set_option maxHeartbeats 4000000 in
set_option maxRecDepth 100000 in
theorem qM_infinite (l : Launch) (a0 : Int32) : Met l yM_infinite wsM_infinite rmM_infinite (va_Pc [.int a0] (fun _ => True)) (k2_QcV (.long (fM_infinite a0))) 0 0 (fun _ => False) := by
  refine Met.ofW (cc := cM_infinite) (maxL := 1) (ret := (some .long)) (by decide) rfl ?_
  intro p e s m args below meth c s₁ B hml hv
  obtain ⟨rfl, hG⟩ := hv
  have hts0 := atoms_spec (ws := wsM_infinite) B.pre
  have hts := fun (w : Cond) (h : w ∈ aw) => hts0 w (List.mem_cons_of_mem _ h)
  have hown : s.vm.findClass "BitNumbersModel" = some m.cls := findClass_of_methodNamed B.named
  have hl := lv_entry ([.int a0]) (n := 1) (Nat.le_of_ble_eq_true rfl)
  rw [lg_entry_eq]
  generalize (lg_sl ([.int a0]) ++ List.replicate (1 - (lg_sl ([.int a0])).length) Slot.unset).toArray = ls at hl ⊢
  exact kM_infinite_0 ⟨B.exec, B.bytes, B.returns, hml, hown, hts, B.notSynchronized⟩ a0 hl

set_option maxHeartbeats 4000000 in
set_option maxRecDepth 100000 in
theorem kM_signed_0 {p : Program} {l : Launch} {e : Env} {s : State} {m : MethodId} {args : Array Value} {below : List Frame} {meth : Method} {c : Code} (C : pw_C p s m args meth c cM_signed 4 (some .long) "BitNumbersModel") (a0 : Int32) (a1 : Int32) (a2 : Int64) {ls : Array Slot} (hl : lv_has ls 4 [(0, .int a0), (1, .int a1), (2, .long a2)]) : W p l e rmM_signed s m args below meth c s.heap [] 0 0 (MQ below (k2_QcV (.long (fM_signed a0 a1 a2))) args s 0 0 (fun _ => False)) (F0 m 0 ls []) := by
  obtain ⟨hx, hb, hr, hml, hown, hts, hlocks⟩ := id C
  refine lv_iload_n hx hb dM_signed_0 rfl (lv_at hl 1 rfl) ?_
  refine lv_if_eq (tgt := 13) hx hb dM_signed_1 (by decide) (fun h1 => ?_) (fun h1 => ?_)
  · refine lv_lload_n hx hb dM_signed_13 rfl (lv_at hl 2 rfl) ?_
    exact W.lret hx hb hr (fun t ht _ => ⟨by rw [(show fM_signed a0 a1 a2 = a2 by rw [fM_signed, if_pos h1])], ht⟩) (fun q h => nomatch h) dM_signed_14
  · refine lv_lload_n hx hb dM_signed_4 rfl (lv_at hl 2 rfl) ?_
    refine lv_iload_n hx hb dM_signed_5 rfl (lv_at hl 0 rfl) ?_
    refine pw_call (va_runS (As := [.int a0]) (rest := [.long a2]) ⟨hx, hb, hml, hown, hts⟩ (qM_signOf l a0) (va_cwS 1 hts (gS w_591 w_592 w_34 w_593) rfl rfl rfl (by decide +kernel) ⟨Nat.le_of_ble_eq_true rfl, Nat.le_of_ble_eq_true rfl⟩) ⟨pw_bT, fun U hU hW => ⟨rfl, trivial⟩⟩ rfl rfl hl.1 rfl (lv_room (Nat.le_of_ble_eq_true rfl)) dM_signed_6 ⟨Nat.zero_le _, Nat.zero_le _⟩) ?_
    refine lv_lor hx hb dM_signed_9 ?_
    refine lv_goto (tgt := 14) hx hb dM_signed_10 (by decide) ?_
    exact W.lret hx hb hr (fun t ht _ => ⟨by rw [(show fM_signed a0 a1 a2 = a2 ||| (fM_signOf a0) by rw [fM_signed, if_neg h1])], ht⟩) (fun q h => nomatch h) dM_signed_14
set_option maxHeartbeats 4000000 in
set_option maxRecDepth 100000 in
theorem qM_signed (l : Launch) (a0 : Int32) (a1 : Int32) (a2 : Int64) : Met l yM_signed wsM_signed rmM_signed (va_Pc [.int a0, .int a1, .long a2] (fun _ => True)) (k2_QcV (.long (fM_signed a0 a1 a2))) 0 0 (fun _ => False) := by
  refine Met.ofW (cc := cM_signed) (maxL := 4) (ret := (some .long)) (by decide) rfl ?_
  intro p e s m args below meth c s₁ B hml hv
  obtain ⟨rfl, hG⟩ := hv
  have hts0 := atoms_spec (ws := wsM_signed) B.pre
  have hts := fun (w : Cond) (h : w ∈ aw) => hts0 w (List.mem_cons_of_mem _ h)
  have hown : s.vm.findClass "BitNumbersModel" = some m.cls := findClass_of_methodNamed B.named
  have hl := lv_entry ([.int a0, .int a1, .long a2]) (n := 4) (Nat.le_of_ble_eq_true rfl)
  rw [lg_entry_eq]
  generalize (lg_sl ([.int a0, .int a1, .long a2]) ++ List.replicate (4 - (lg_sl ([.int a0, .int a1, .long a2])).length) Slot.unset).toArray = ls at hl ⊢
  exact kM_signed_0 ⟨B.exec, B.bytes, B.returns, hml, hown, hts, B.notSynchronized⟩ a0 a1 a2 hl

set_option maxHeartbeats 4000000 in
set_option maxRecDepth 100000 in
theorem kM_digit_41 {p : Program} {l : Launch} {e : Env} {s : State} {m : MethodId} {args : Array Value} {below : List Frame} {meth : Method} {c : Code} (C : pw_C p s m args meth c cM_digit 5 (some .int) "BitNumbersModel") (s0 : Int64) {ls : Array Slot} (hl : lv_has ls 5 []) : W p l e rmM_digit s m args below meth c s.heap [] 0 0 (MQ below (k2_QcV (.int (fM_digit_41 s0))) args s 0 0 (fun _ => False)) (F0 m 41 ls [.long s0]) := by
  obtain ⟨hx, hb, hr, hml, hown, hts, hlocks⟩ := id C
  refine lv_l2i hx hb dM_digit_41 rfl ?_
  refine lv_ldc hx hb hown (hts _ w_686) dM_digit_42 ?_
  refine lv_iand hx hb dM_digit_44 ?_
  exact W.iret hx hb hr (fun t ht _ => ⟨by rw [(show fM_digit_41 s0 = s0.toInt32 &&& 65535 by rw [fM_digit_41])], ht⟩) (fun q h => nomatch h) dM_digit_45
set_option maxHeartbeats 4000000 in
set_option maxRecDepth 100000 in
theorem kM_digit_22 {p : Program} {l : Launch} {e : Env} {s : State} {m : MethodId} {args : Array Value} {below : List Frame} {meth : Method} {c : Code} (C : pw_C p s m args meth c cM_digit 5 (some .int) "BitNumbersModel")  {ls : Array Slot} (hl : lv_has ls 5 []) : W p l e rmM_digit s m args below meth c s.heap [] 0 0 (MQ below (k2_QcV (.int (fM_digit_22))) args s 0 0 (fun _ => False)) (F0 m 22 ls []) := by
  obtain ⟨hx, hb, hr, hml, hown, hts, hlocks⟩ := id C
  refine lv_iconst (v := 0) hx hb dM_digit_22 (by decide) ?_
  exact W.iret hx hb hr (fun t ht _ => ⟨by rw [(show fM_digit_22 = 0 by rw [fM_digit_22])], ht⟩) (fun q h => nomatch h) dM_digit_23
set_option maxHeartbeats 4000000 in
set_option maxRecDepth 100000 in
theorem kM_digit_8 {p : Program} {l : Launch} {e : Env} {s : State} {m : MethodId} {args : Array Value} {below : List Frame} {meth : Method} {c : Code} (C : pw_C p s m args meth c cM_digit 5 (some .int) "BitNumbersModel") (a0 : Int64) (a4 : Int32) {ls : Array Slot} (hl : lv_has ls 5 [(0, .long a0), (4, .int a4)]) : W p l e rmM_digit s m args below meth c s.heap [] 0 0 (MQ below (k2_QcV (.int (fM_digit_8 a0 a4))) args s 0 0 (fun _ => False)) (F0 m 8 ls []) := by
  obtain ⟨hx, hb, hr, hml, hown, hts, hlocks⟩ := id C
  refine lv_iload hx hb dM_digit_8 (lv_at hl 1 rfl) ?_
  refine lv_bipush (v := 63) hx hb dM_digit_10 (by decide) ?_
  refine lv_icmp_gt (tgt := 22) hx hb dM_digit_12 (by decide) (fun h1 => ?_) (fun h1 => ?_)
  · rw [(show fM_digit_8 a0 a4 = fM_digit_22 by rw [fM_digit_8, if_pos h1])]
    exact kM_digit_22 C (lv_sub hl [] rfl)
  · refine lv_iload hx hb dM_digit_15 (lv_at hl 1 rfl) ?_
    refine lv_bipush (v := (-15)) hx hb dM_digit_17 (by decide) ?_
    refine lv_icmp_ge (tgt := 24) hx hb dM_digit_19 (by decide) (fun h2 => ?_) (fun h2 => ?_)
    · refine lv_iload hx hb dM_digit_24 (lv_at hl 1 rfl) ?_
      refine lv_if_lt (tgt := 36) hx hb dM_digit_26 (by decide) (fun h3 => ?_) (fun h3 => ?_)
      · refine lv_lload_n hx hb dM_digit_36 rfl (lv_at hl 0 rfl) ?_
        refine lv_iload hx hb dM_digit_37 (lv_at hl 1 rfl) ?_
        refine lv_ineg hx hb dM_digit_39 ?_
        refine lv_lshl (v := bn_shl a0 (-a4)) hx hb dM_digit_40 rfl ?_
        rw [(show fM_digit_8 a0 a4 = fM_digit_41 (bn_shl a0 (-a4)) by rw [fM_digit_8, if_neg h1, if_pos h2, if_pos h3])]
        exact kM_digit_41 C (bn_shl a0 (-a4)) (lv_sub hl [] rfl)
      · refine lv_lload_n hx hb dM_digit_29 rfl (lv_at hl 0 rfl) ?_
        refine lv_iload hx hb dM_digit_30 (lv_at hl 1 rfl) ?_
        refine lv_lushr (v := bn_shr a0 a4) hx hb dM_digit_32 rfl ?_
        refine lv_goto (tgt := 41) hx hb dM_digit_33 (by decide) ?_
        rw [(show fM_digit_8 a0 a4 = fM_digit_41 (bn_shr a0 a4) by rw [fM_digit_8, if_neg h1, if_pos h2, if_neg h3])]
        exact kM_digit_41 C (bn_shr a0 a4) (lv_sub hl [] rfl)
    · rw [(show fM_digit_8 a0 a4 = fM_digit_22 by rw [fM_digit_8, if_neg h1, if_neg h2])]
      exact kM_digit_22 C (lv_sub hl [] rfl)
set_option maxHeartbeats 4000000 in
set_option maxRecDepth 100000 in
theorem kM_digit_0 {p : Program} {l : Launch} {e : Env} {s : State} {m : MethodId} {args : Array Value} {below : List Frame} {meth : Method} {c : Code} (C : pw_C p s m args meth c cM_digit 5 (some .int) "BitNumbersModel") (a0 : Int64) (a2 : Int32) (a3 : Int32) {ls : Array Slot} (hl : lv_has ls 5 [(0, .long a0), (2, .int a2), (3, .int a3)]) : W p l e rmM_digit s m args below meth c s.heap [] 0 0 (MQ below (k2_QcV (.int (fM_digit a0 a2 a3))) args s 0 0 (fun _ => False)) (F0 m 0 ls []) := by
  obtain ⟨hx, hb, hr, hml, hown, hts, hlocks⟩ := id C
  refine lv_bipush (v := 16) hx hb dM_digit_0 (by decide) ?_
  refine lv_iload_n hx hb dM_digit_2 rfl (lv_at hl 2 rfl) ?_
  refine lv_imul hx hb dM_digit_3 ?_
  refine lv_iload_n hx hb dM_digit_4 rfl (lv_at hl 1 rfl) ?_
  refine lv_isub hx hb dM_digit_5 ?_
  refine lv_istore (lv' := [(4, .int ((16 * a3) - a2)), (0, .long a0), (2, .int a2), (3, .int a3)]) hx hb dM_digit_6 hl (by decide) rfl (fun ls hl => ?_)
  rw [(show fM_digit a0 a2 a3 = fM_digit_8 a0 ((16 * a3) - a2) by rw [fM_digit])]
  exact kM_digit_8 C a0 ((16 * a3) - a2) (lv_sub hl [1, 0] rfl)
set_option maxHeartbeats 4000000 in
set_option maxRecDepth 100000 in
theorem qM_digit (l : Launch) (a0 : Int64) (a2 : Int32) (a3 : Int32) : Met l yM_digit wsM_digit rmM_digit (va_Pc [.long a0, .int a2, .int a3] (fun _ => True)) (k2_QcV (.int (fM_digit a0 a2 a3))) 0 0 (fun _ => False) := by
  refine Met.ofW (cc := cM_digit) (maxL := 5) (ret := (some .int)) (by decide) rfl ?_
  intro p e s m args below meth c s₁ B hml hv
  obtain ⟨rfl, hG⟩ := hv
  have hts0 := atoms_spec (ws := wsM_digit) B.pre
  have hts := fun (w : Cond) (h : w ∈ aw) => hts0 w (List.mem_cons_of_mem _ h)
  have hown : s.vm.findClass "BitNumbersModel" = some m.cls := findClass_of_methodNamed B.named
  have hl := lv_entry ([.long a0, .int a2, .int a3]) (n := 5) (Nat.le_of_ble_eq_true rfl)
  rw [lg_entry_eq]
  generalize (lg_sl ([.long a0, .int a2, .int a3]) ++ List.replicate (5 - (lg_sl ([.long a0, .int a2, .int a3])).length) Slot.unset).toArray = ls at hl ⊢
  exact kM_digit_0 ⟨B.exec, B.bytes, B.returns, hml, hown, hts, B.notSynchronized⟩ a0 a2 a3 hl

set_option maxHeartbeats 4000000 in
set_option maxRecDepth 100000 in
theorem kM_highest_3 {p : Program} {l : Launch} {e : Env} {s : State} {m : MethodId} {args : Array Value} {below : List Frame} {meth : Method} {c : Code} (C : pw_C p s m args meth c cM_highest 3 (some .int) "BitNumbersModel") : ∀ (n : Nat) (a0 : Int64) (a2 : Int32) (hv : a0 ≠ 0) (hI : pw_H a0 a2 n) {ls : Array Slot} (hl : lv_has ls 3 [(0, .long a0), (2, .int a2)]), W p l e rmM_highest s m args below meth c s.heap [] 0 0 (MQ below (k2_QcV (.int (fM_highest_3 n a0 a2))) args s 0 0 (fun _ => False)) (F0 m 3 ls []) := by
  obtain ⟨hx, hb, hr, hml, hown, hts, hlocks⟩ := id C
  intro n
  induction n with
  | zero =>
    intro a0 a2 hv hI
    exact absurd hI pw_H_zero
  | succ n ih =>
    intro a0 a2 hv hI ls hl
    refine lv_lload_n hx hb dM_highest_3 rfl (lv_at hl 0 rfl) ?_
    refine lv_iload_n hx hb dM_highest_4 rfl (lv_at hl 1 rfl) ?_
    refine lv_lushr (v := bn_shr a0 a2) hx hb dM_highest_5 rfl ?_
    refine lv_lconst (v := 1) hx hb dM_highest_6 (by decide) ?_
    refine lv_land hx hb dM_highest_7 ?_
    refine lv_lconst (v := 0) hx hb dM_highest_8 (by decide) ?_
    refine W.lcmp hx hb dM_highest_9 ?_
    refine lv_if_ne (tgt := 19) hx hb dM_highest_10 (by decide) (fun h1 => ?_) (fun h1 => ?_)
    · have h1 : ¬ (((bn_shr a0 a2) &&& 1) = 0) := fun w => h1 ((lg_cmp_eq _ _).mpr w)
      refine lv_iload_n hx hb dM_highest_19 rfl (lv_at hl 1 rfl) ?_
      exact W.iret hx hb hr (fun t ht _ => ⟨by rw [(show fM_highest_3 (n + 1) a0 a2 = a2 by rw [fM_highest_3, if_neg h1])], ht⟩) (fun q h => nomatch h) dM_highest_20
    · have h1 : ((bn_shr a0 a2) &&& 1) = 0 := (lg_cmp_eq _ _).mp h1
      refine lv_iinc (v := a2 + (-1)) (lv' := [(2, .int (a2 + (-1))), (0, .long a0)]) hx hb dM_highest_13 hl (k := 1) rfl rfl (by decide) rfl (fun ls hl => ?_)
      refine lv_goto (tgt := 3) hx hb dM_highest_16 (by decide) ?_
      rw [(show fM_highest_3 (n + 1) a0 a2 = fM_highest_3 n a0 (a2 + (-1)) by rw [fM_highest_3, if_pos h1])]
      exact ih a0 (a2 + (-1)) hv ( (pw_H_next hI h1)) (lv_sub hl [1, 0] rfl)
set_option maxHeartbeats 4000000 in
set_option maxRecDepth 100000 in
theorem kM_highest_0 {p : Program} {l : Launch} {e : Env} {s : State} {m : MethodId} {args : Array Value} {below : List Frame} {meth : Method} {c : Code} (C : pw_C p s m args meth c cM_highest 3 (some .int) "BitNumbersModel") (a0 : Int64) (hv : a0 ≠ 0) {ls : Array Slot} (hl : lv_has ls 3 [(0, .long a0)]) : W p l e rmM_highest s m args below meth c s.heap [] 0 0 (MQ below (k2_QcV (.int (fM_highest a0))) args s 0 0 (fun _ => False)) (F0 m 0 ls []) := by
  obtain ⟨hx, hb, hr, hml, hown, hts, hlocks⟩ := id C
  refine lv_bipush (v := 63) hx hb dM_highest_0 (by decide) ?_
  refine lv_istore_n (lv' := [(2, .int 63), (0, .long a0)]) hx hb dM_highest_2 rfl hl (by decide) rfl (fun ls hl => ?_)
  rw [(show fM_highest a0 = fM_highest_3 64 a0 63 by rw [fM_highest])]
  exact kM_highest_3 C 64 a0 63 hv (pw_H_init hv : pw_H a0 63 64) (lv_sub hl [1, 0] rfl)
set_option maxHeartbeats 4000000 in
set_option maxRecDepth 100000 in
theorem qM_highest (l : Launch) (a0 : Int64) (hv : a0 ≠ 0) : Met l yM_highest wsM_highest rmM_highest (va_Pc [.long a0] (fun _ => True)) (k2_QcV (.int (fM_highest a0))) 0 0 (fun _ => False) := by
  refine Met.ofW (cc := cM_highest) (maxL := 3) (ret := (some .int)) (by decide) rfl ?_
  intro p e s m args below meth c s₁ B hml hv
  obtain ⟨rfl, hG⟩ := hv
  have hts0 := atoms_spec (ws := wsM_highest) B.pre
  have hts := fun (w : Cond) (h : w ∈ aw) => hts0 w (List.mem_cons_of_mem _ h)
  have hown : s.vm.findClass "BitNumbersModel" = some m.cls := findClass_of_methodNamed B.named
  have hl := lv_entry ([.long a0]) (n := 3) (Nat.le_of_ble_eq_true rfl)
  rw [lg_entry_eq]
  generalize (lg_sl ([.long a0]) ++ List.replicate (3 - (lg_sl ([.long a0])).length) Slot.unset).toArray = ls at hl ⊢
  exact kM_highest_0 ⟨B.exec, B.bytes, B.returns, hml, hown, hts, B.notSynchronized⟩ a0 hv hl

set_option maxHeartbeats 4000000 in
set_option maxRecDepth 100000 in
theorem kM_isLess_14 {p : Program} {l : Launch} {e : Env} {s : State} {m : MethodId} {args : Array Value} {below : List Frame} {meth : Method} {c : Code} (C : pw_C p s m args meth c cM_isLess 7 (some .boolean) "BitNumbersModel") (a0 : Int32) (a1 : Int64) (a3 : Int64) (a5 : Int32) (a6 : Int32) (hz5 : a5 = 0 ∨ a5 = 1) (hz6 : a6 = 0 ∨ a6 = 1) {ls : Array Slot} (hl : lv_has ls 7 [(0, .int a0), (1, .long a1), (3, .long a3), (5, .int a5), (6, .int a6)]) : W p l e rmM_isLess s m args below meth c s.heap [] 0 0 (MQ below (k2_QcV (.int (fM_isLess_14 a0 a1 a3 a5 a6))) args s 0 0 (fun _ => False)) (F0 m 14 ls []) := by
  obtain ⟨hx, hb, hr, hml, hown, hts, hlocks⟩ := id C
  refine lv_iload hx hb dM_isLess_14 (lv_at hl 3 rfl) ?_
  refine lv_iload hx hb dM_isLess_16 (lv_at hl 4 rfl) ?_
  refine lv_icmp_eq (tgt := 24) hx hb dM_isLess_18 (by decide) (fun h1 => ?_) (fun h1 => ?_)
  · refine lv_iload hx hb dM_isLess_24 (lv_at hl 3 rfl) ?_
    refine lv_if_eq (tgt := 51) hx hb dM_isLess_26 (by decide) (fun h2 => ?_) (fun h2 => ?_)
    · refine lv_iload_n hx hb dM_isLess_51 rfl (lv_at hl 0 rfl) ?_
      refine lv_lload_n hx hb dM_isLess_52 rfl (lv_at hl 1 rfl) ?_
      refine pw_call (va_runS (As := [.int a0, .long a1]) (rest := []) ⟨hx, hb, hml, hown, hts⟩ (qM_rest l a0 a1) (va_cwS 2 hts (gS w_588 w_589 w_34 w_590) rfl rfl rfl (by decide +kernel) ⟨Nat.le_of_ble_eq_true rfl, Nat.le_of_ble_eq_true rfl⟩) ⟨pw_bT, fun U hU hW => ⟨rfl, trivial⟩⟩ rfl rfl hl.1 rfl (lv_room (Nat.le_of_ble_eq_true rfl)) dM_isLess_53 ⟨Nat.zero_le _, Nat.zero_le _⟩) ?_
      refine lv_iload_n hx hb dM_isLess_56 rfl (lv_at hl 0 rfl) ?_
      refine lv_lload_n hx hb dM_isLess_57 rfl (lv_at hl 2 rfl) ?_
      refine pw_call (va_runS (As := [.int a0, .long a3]) (rest := [.long (fM_rest a0 a1)]) ⟨hx, hb, hml, hown, hts⟩ (qM_rest l a0 a3) (va_cwS 2 hts (gS w_588 w_589 w_34 w_590) rfl rfl rfl (by decide +kernel) ⟨Nat.le_of_ble_eq_true rfl, Nat.le_of_ble_eq_true rfl⟩) ⟨pw_bT, fun U hU hW => ⟨rfl, trivial⟩⟩ rfl rfl hl.1 rfl (lv_room (Nat.le_of_ble_eq_true rfl)) dM_isLess_58 ⟨Nat.zero_le _, Nat.zero_le _⟩) ?_
      refine W.lcmp hx hb dM_isLess_61 ?_
      refine lv_if_ge (tgt := 69) hx hb dM_isLess_62 (by decide) (fun h3 => ?_) (fun h3 => ?_)
      · have h3 : (fM_rest a0 a3) ≤ (fM_rest a0 a1) := (lg_cmp_ge _ _).mp h3
        refine lv_iconst (v := 0) hx hb dM_isLess_69 (by decide) ?_
        exact W.zret hx hb hr (pw_nz (Or.inl rfl)) (fun t ht _ => ⟨by rw [(show fM_isLess_14 a0 a1 a3 a5 a6 = 0 by rw [fM_isLess_14, if_pos h1, if_pos h2, if_pos h3])], ht⟩) (fun q h => nomatch h) dM_isLess_70
      · have h3 : ¬ ((fM_rest a0 a3) ≤ (fM_rest a0 a1)) := fun w => h3 ((lg_cmp_ge _ _).mpr w)
        refine lv_iconst (v := 1) hx hb dM_isLess_65 (by decide) ?_
        refine lv_goto (tgt := 70) hx hb dM_isLess_66 (by decide) ?_
        exact W.zret hx hb hr (pw_nz (Or.inr rfl)) (fun t ht _ => ⟨by rw [(show fM_isLess_14 a0 a1 a3 a5 a6 = 1 by rw [fM_isLess_14, if_pos h1, if_pos h2, if_neg h3])], ht⟩) (fun q h => nomatch h) dM_isLess_70
    · refine lv_iload_n hx hb dM_isLess_29 rfl (lv_at hl 0 rfl) ?_
      refine lv_lload_n hx hb dM_isLess_30 rfl (lv_at hl 1 rfl) ?_
      refine pw_call (va_runS (As := [.int a0, .long a1]) (rest := []) ⟨hx, hb, hml, hown, hts⟩ (qM_rest l a0 a1) (va_cwS 2 hts (gS w_588 w_589 w_34 w_590) rfl rfl rfl (by decide +kernel) ⟨Nat.le_of_ble_eq_true rfl, Nat.le_of_ble_eq_true rfl⟩) ⟨pw_bT, fun U hU hW => ⟨rfl, trivial⟩⟩ rfl rfl hl.1 rfl (lv_room (Nat.le_of_ble_eq_true rfl)) dM_isLess_31 ⟨Nat.zero_le _, Nat.zero_le _⟩) ?_
      refine lv_iload_n hx hb dM_isLess_34 rfl (lv_at hl 0 rfl) ?_
      refine lv_lload_n hx hb dM_isLess_35 rfl (lv_at hl 2 rfl) ?_
      refine pw_call (va_runS (As := [.int a0, .long a3]) (rest := [.long (fM_rest a0 a1)]) ⟨hx, hb, hml, hown, hts⟩ (qM_rest l a0 a3) (va_cwS 2 hts (gS w_588 w_589 w_34 w_590) rfl rfl rfl (by decide +kernel) ⟨Nat.le_of_ble_eq_true rfl, Nat.le_of_ble_eq_true rfl⟩) ⟨pw_bT, fun U hU hW => ⟨rfl, trivial⟩⟩ rfl rfl hl.1 rfl (lv_room (Nat.le_of_ble_eq_true rfl)) dM_isLess_36 ⟨Nat.zero_le _, Nat.zero_le _⟩) ?_
      refine W.lcmp hx hb dM_isLess_39 ?_
      refine lv_if_le (tgt := 47) hx hb dM_isLess_40 (by decide) (fun h4 => ?_) (fun h4 => ?_)
      · have h4 : (fM_rest a0 a1) ≤ (fM_rest a0 a3) := (lg_cmp_le _ _).mp h4
        refine lv_iconst (v := 0) hx hb dM_isLess_47 (by decide) ?_
        refine lv_goto (tgt := 70) hx hb dM_isLess_48 (by decide) ?_
        exact W.zret hx hb hr (pw_nz (Or.inl rfl)) (fun t ht _ => ⟨by rw [(show fM_isLess_14 a0 a1 a3 a5 a6 = 0 by rw [fM_isLess_14, if_pos h1, if_neg h2, if_pos h4])], ht⟩) (fun q h => nomatch h) dM_isLess_70
      · have h4 : ¬ ((fM_rest a0 a1) ≤ (fM_rest a0 a3)) := fun w => h4 ((lg_cmp_le _ _).mpr w)
        refine lv_iconst (v := 1) hx hb dM_isLess_43 (by decide) ?_
        refine lv_goto (tgt := 70) hx hb dM_isLess_44 (by decide) ?_
        exact W.zret hx hb hr (pw_nz (Or.inr rfl)) (fun t ht _ => ⟨by rw [(show fM_isLess_14 a0 a1 a3 a5 a6 = 1 by rw [fM_isLess_14, if_pos h1, if_neg h2, if_neg h4])], ht⟩) (fun q h => nomatch h) dM_isLess_70
  · refine lv_iload hx hb dM_isLess_21 (lv_at hl 3 rfl) ?_
    exact W.zret hx hb hr (pw_nz hz5) (fun t ht _ => ⟨by rw [(show fM_isLess_14 a0 a1 a3 a5 a6 = a5 by rw [fM_isLess_14, if_neg h1])], ht⟩) (fun q h => nomatch h) dM_isLess_23
set_option maxHeartbeats 4000000 in
set_option maxRecDepth 100000 in
theorem kM_isLess_7 {p : Program} {l : Launch} {e : Env} {s : State} {m : MethodId} {args : Array Value} {below : List Frame} {meth : Method} {c : Code} (C : pw_C p s m args meth c cM_isLess 7 (some .boolean) "BitNumbersModel") (a0 : Int32) (a1 : Int64) (a3 : Int64) (a5 : Int32) (hz5 : a5 = 0 ∨ a5 = 1) {ls : Array Slot} (hl : lv_has ls 7 [(0, .int a0), (1, .long a1), (3, .long a3), (5, .int a5)]) : W p l e rmM_isLess s m args below meth c s.heap [] 0 0 (MQ below (k2_QcV (.int (fM_isLess_7 a0 a1 a3 a5))) args s 0 0 (fun _ => False)) (F0 m 7 ls []) := by
  obtain ⟨hx, hb, hr, hml, hown, hts, hlocks⟩ := id C
  refine lv_iload_n hx hb dM_isLess_7 rfl (lv_at hl 0 rfl) ?_
  refine lv_lload_n hx hb dM_isLess_8 rfl (lv_at hl 2 rfl) ?_
  refine pw_call (va_runS (As := [.int a0, .long a3]) (rest := []) ⟨hx, hb, hml, hown, hts⟩ (qM_isMinus l a0 a3) (va_cwS 2 hts (gS w_615 w_616 w_34 w_617) rfl rfl rfl (by decide +kernel) ⟨Nat.le_of_ble_eq_true rfl, Nat.le_of_ble_eq_true rfl⟩) ⟨pw_bT, fun U hU hW => ⟨rfl, trivial⟩⟩ rfl rfl hl.1 rfl (lv_room (Nat.le_of_ble_eq_true rfl)) dM_isLess_9 ⟨Nat.zero_le _, Nat.zero_le _⟩) ?_
  refine lv_istore (lv' := [(6, .int (fM_isMinus a0 a3)), (0, .int a0), (1, .long a1), (3, .long a3), (5, .int a5)]) hx hb dM_isLess_12 hl (by decide) rfl (fun ls hl => ?_)
  rw [(show fM_isLess_7 a0 a1 a3 a5 = fM_isLess_14 a0 a1 a3 a5 (fM_isMinus a0 a3) by rw [fM_isLess_7])]
  exact kM_isLess_14 C a0 a1 a3 a5 (fM_isMinus a0 a3) hz5 (zM_isMinus a0 a3) (lv_sub hl [1, 2, 3, 4, 0] rfl)
set_option maxHeartbeats 4000000 in
set_option maxRecDepth 100000 in
theorem kM_isLess_0 {p : Program} {l : Launch} {e : Env} {s : State} {m : MethodId} {args : Array Value} {below : List Frame} {meth : Method} {c : Code} (C : pw_C p s m args meth c cM_isLess 7 (some .boolean) "BitNumbersModel") (a0 : Int32) (a1 : Int64) (a3 : Int64) {ls : Array Slot} (hl : lv_has ls 7 [(0, .int a0), (1, .long a1), (3, .long a3)]) : W p l e rmM_isLess s m args below meth c s.heap [] 0 0 (MQ below (k2_QcV (.int (fM_isLess a0 a1 a3))) args s 0 0 (fun _ => False)) (F0 m 0 ls []) := by
  obtain ⟨hx, hb, hr, hml, hown, hts, hlocks⟩ := id C
  refine lv_iload_n hx hb dM_isLess_0 rfl (lv_at hl 0 rfl) ?_
  refine lv_lload_n hx hb dM_isLess_1 rfl (lv_at hl 1 rfl) ?_
  refine pw_call (va_runS (As := [.int a0, .long a1]) (rest := []) ⟨hx, hb, hml, hown, hts⟩ (qM_isMinus l a0 a1) (va_cwS 2 hts (gS w_615 w_616 w_34 w_617) rfl rfl rfl (by decide +kernel) ⟨Nat.le_of_ble_eq_true rfl, Nat.le_of_ble_eq_true rfl⟩) ⟨pw_bT, fun U hU hW => ⟨rfl, trivial⟩⟩ rfl rfl hl.1 rfl (lv_room (Nat.le_of_ble_eq_true rfl)) dM_isLess_2 ⟨Nat.zero_le _, Nat.zero_le _⟩) ?_
  refine lv_istore (lv' := [(5, .int (fM_isMinus a0 a1)), (0, .int a0), (1, .long a1), (3, .long a3)]) hx hb dM_isLess_5 hl (by decide) rfl (fun ls hl => ?_)
  rw [(show fM_isLess a0 a1 a3 = fM_isLess_7 a0 a1 a3 (fM_isMinus a0 a1) by rw [fM_isLess])]
  exact kM_isLess_7 C a0 a1 a3 (fM_isMinus a0 a1) (zM_isMinus a0 a1) (lv_sub hl [1, 2, 3, 0] rfl)
set_option maxHeartbeats 4000000 in
set_option maxRecDepth 100000 in
theorem qM_isLess (l : Launch) (a0 : Int32) (a1 : Int64) (a3 : Int64) : Met l yM_isLess wsM_isLess rmM_isLess (va_Pc [.int a0, .long a1, .long a3] (fun _ => True)) (k2_QcV (.int (fM_isLess a0 a1 a3))) 0 0 (fun _ => False) := by
  refine Met.ofW (cc := cM_isLess) (maxL := 7) (ret := (some .boolean)) (by decide) rfl ?_
  intro p e s m args below meth c s₁ B hml hv
  obtain ⟨rfl, hG⟩ := hv
  have hts0 := atoms_spec (ws := wsM_isLess) B.pre
  have hts := fun (w : Cond) (h : w ∈ aw) => hts0 w (List.mem_cons_of_mem _ h)
  have hown : s.vm.findClass "BitNumbersModel" = some m.cls := findClass_of_methodNamed B.named
  have hl := lv_entry ([.int a0, .long a1, .long a3]) (n := 7) (Nat.le_of_ble_eq_true rfl)
  rw [lg_entry_eq]
  generalize (lg_sl ([.int a0, .long a1, .long a3]) ++ List.replicate (7 - (lg_sl ([.int a0, .long a1, .long a3])).length) Slot.unset).toArray = ls at hl ⊢
  exact kM_isLess_0 ⟨B.exec, B.bytes, B.returns, hml, hown, hts, B.notSynchronized⟩ a0 a1 a3 hl

set_option maxHeartbeats 4000000 in
set_option maxRecDepth 100000 in
theorem kM_compareFloating_194 {p : Program} {l : Launch} {e : Env} {s : State} {m : MethodId} {args : Array Value} {below : List Frame} {meth : Method} {c : Code} (C : pw_C p s m args meth c cM_compareFloating 8 (some .long) "BitNumbersModel") (s0 : Int32) (hzs0 : s0 = 0 ∨ s0 = 1) {ls : Array Slot} (hl : lv_has ls 8 []) : W p l e rmM_compareFloating s m args below meth c s.heap [] 0 0 (MQ below (k2_QcV (.long (fM_compareFloating_194 s0))) args s 0 0 (fun _ => False)) (F0 m 194 ls [.int s0]) := by
  obtain ⟨hx, hb, hr, hml, hown, hts, hlocks⟩ := id C
  refine pw_call (va_runS (As := [.int s0]) (rest := []) ⟨hx, hb, hml, hown, hts⟩ (qM_truth l s0) (va_cwS 1 hts (gS w_566 w_567 w_34 w_568) rfl rfl rfl (by decide +kernel) ⟨Nat.le_of_ble_eq_true rfl, Nat.le_of_ble_eq_true rfl⟩) ⟨pw_bT, fun U hU hW => ⟨rfl, trivial⟩⟩ rfl rfl hl.1 rfl (lv_room (Nat.le_of_ble_eq_true rfl)) dM_compareFloating_194 ⟨Nat.zero_le _, Nat.zero_le _⟩) ?_
  exact W.lret hx hb hr (fun t ht _ => ⟨by rw [(show fM_compareFloating_194 s0 = fM_truth s0 by rw [fM_compareFloating_194])], ht⟩) (fun q h => nomatch h) dM_compareFloating_197
set_option maxHeartbeats 4000000 in
set_option maxRecDepth 100000 in
theorem kM_compareFloating_180 {p : Program} {l : Launch} {e : Env} {s : State} {m : MethodId} {args : Array Value} {below : List Frame} {meth : Method} {c : Code} (C : pw_C p s m args meth c cM_compareFloating 8 (some .long) "BitNumbersModel") (s0 : Int32) (hzs0 : s0 = 0 ∨ s0 = 1) {ls : Array Slot} (hl : lv_has ls 8 []) : W p l e rmM_compareFloating s m args below meth c s.heap [] 0 0 (MQ below (k2_QcV (.long (fM_compareFloating_180 s0))) args s 0 0 (fun _ => False)) (F0 m 180 ls [.int s0]) := by
  obtain ⟨hx, hb, hr, hml, hown, hts, hlocks⟩ := id C
  refine pw_call (va_runS (As := [.int s0]) (rest := []) ⟨hx, hb, hml, hown, hts⟩ (qM_truth l s0) (va_cwS 1 hts (gS w_566 w_567 w_34 w_568) rfl rfl rfl (by decide +kernel) ⟨Nat.le_of_ble_eq_true rfl, Nat.le_of_ble_eq_true rfl⟩) ⟨pw_bT, fun U hU hW => ⟨rfl, trivial⟩⟩ rfl rfl hl.1 rfl (lv_room (Nat.le_of_ble_eq_true rfl)) dM_compareFloating_180 ⟨Nat.zero_le _, Nat.zero_le _⟩) ?_
  exact W.lret hx hb hr (fun t ht _ => ⟨by rw [(show fM_compareFloating_180 s0 = fM_truth s0 by rw [fM_compareFloating_180])], ht⟩) (fun q h => nomatch h) dM_compareFloating_183
set_option maxHeartbeats 4000000 in
set_option maxRecDepth 100000 in
theorem kM_compareFloating_175 {p : Program} {l : Launch} {e : Env} {s : State} {m : MethodId} {args : Array Value} {below : List Frame} {meth : Method} {c : Code} (C : pw_C p s m args meth c cM_compareFloating 8 (some .long) "BitNumbersModel")  {ls : Array Slot} (hl : lv_has ls 8 []) : W p l e rmM_compareFloating s m args below meth c s.heap [] 0 0 (MQ below (k2_QcV (.long (fM_compareFloating_175))) args s 0 0 (fun _ => False)) (F0 m 175 ls []) := by
  obtain ⟨hx, hb, hr, hml, hown, hts, hlocks⟩ := id C
  refine lv_iconst (v := 1) hx hb dM_compareFloating_175 (by decide) ?_
  refine lv_goto (tgt := 180) hx hb dM_compareFloating_176 (by decide) ?_
  rw [(show fM_compareFloating_175 = fM_compareFloating_180 1 by rw [fM_compareFloating_175])]
  exact kM_compareFloating_180 C 1 (Or.inr rfl) (lv_sub hl [] rfl)
set_option maxHeartbeats 4000000 in
set_option maxRecDepth 100000 in
theorem kM_compareFloating_161 {p : Program} {l : Launch} {e : Env} {s : State} {m : MethodId} {args : Array Value} {below : List Frame} {meth : Method} {c : Code} (C : pw_C p s m args meth c cM_compareFloating 8 (some .long) "BitNumbersModel") (s0 : Int32) (hzs0 : s0 = 0 ∨ s0 = 1) {ls : Array Slot} (hl : lv_has ls 8 []) : W p l e rmM_compareFloating s m args below meth c s.heap [] 0 0 (MQ below (k2_QcV (.long (fM_compareFloating_161 s0))) args s 0 0 (fun _ => False)) (F0 m 161 ls [.int s0]) := by
  obtain ⟨hx, hb, hr, hml, hown, hts, hlocks⟩ := id C
  refine pw_call (va_runS (As := [.int s0]) (rest := []) ⟨hx, hb, hml, hown, hts⟩ (qM_truth l s0) (va_cwS 1 hts (gS w_566 w_567 w_34 w_568) rfl rfl rfl (by decide +kernel) ⟨Nat.le_of_ble_eq_true rfl, Nat.le_of_ble_eq_true rfl⟩) ⟨pw_bT, fun U hU hW => ⟨rfl, trivial⟩⟩ rfl rfl hl.1 rfl (lv_room (Nat.le_of_ble_eq_true rfl)) dM_compareFloating_161 ⟨Nat.zero_le _, Nat.zero_le _⟩) ?_
  exact W.lret hx hb hr (fun t ht _ => ⟨by rw [(show fM_compareFloating_161 s0 = fM_truth s0 by rw [fM_compareFloating_161])], ht⟩) (fun q h => nomatch h) dM_compareFloating_164
set_option maxHeartbeats 4000000 in
set_option maxRecDepth 100000 in
theorem kM_compareFloating_160 {p : Program} {l : Launch} {e : Env} {s : State} {m : MethodId} {args : Array Value} {below : List Frame} {meth : Method} {c : Code} (C : pw_C p s m args meth c cM_compareFloating 8 (some .long) "BitNumbersModel")  {ls : Array Slot} (hl : lv_has ls 8 []) : W p l e rmM_compareFloating s m args below meth c s.heap [] 0 0 (MQ below (k2_QcV (.long (fM_compareFloating_160))) args s 0 0 (fun _ => False)) (F0 m 160 ls []) := by
  obtain ⟨hx, hb, hr, hml, hown, hts, hlocks⟩ := id C
  refine lv_iconst (v := 0) hx hb dM_compareFloating_160 (by decide) ?_
  rw [(show fM_compareFloating_160 = fM_compareFloating_161 0 by rw [fM_compareFloating_160])]
  exact kM_compareFloating_161 C 0 (Or.inl rfl) (lv_sub hl [] rfl)
set_option maxHeartbeats 4000000 in
set_option maxRecDepth 100000 in
theorem kM_compareFloating_136 {p : Program} {l : Launch} {e : Env} {s : State} {m : MethodId} {args : Array Value} {below : List Frame} {meth : Method} {c : Code} (C : pw_C p s m args meth c cM_compareFloating 8 (some .long) "BitNumbersModel") (s0 : Int32) (hzs0 : s0 = 0 ∨ s0 = 1) {ls : Array Slot} (hl : lv_has ls 8 []) : W p l e rmM_compareFloating s m args below meth c s.heap [] 0 0 (MQ below (k2_QcV (.long (fM_compareFloating_136 s0))) args s 0 0 (fun _ => False)) (F0 m 136 ls [.int s0]) := by
  obtain ⟨hx, hb, hr, hml, hown, hts, hlocks⟩ := id C
  refine pw_call (va_runS (As := [.int s0]) (rest := []) ⟨hx, hb, hml, hown, hts⟩ (qM_truth l s0) (va_cwS 1 hts (gS w_566 w_567 w_34 w_568) rfl rfl rfl (by decide +kernel) ⟨Nat.le_of_ble_eq_true rfl, Nat.le_of_ble_eq_true rfl⟩) ⟨pw_bT, fun U hU hW => ⟨rfl, trivial⟩⟩ rfl rfl hl.1 rfl (lv_room (Nat.le_of_ble_eq_true rfl)) dM_compareFloating_136 ⟨Nat.zero_le _, Nat.zero_le _⟩) ?_
  exact W.lret hx hb hr (fun t ht _ => ⟨by rw [(show fM_compareFloating_136 s0 = fM_truth s0 by rw [fM_compareFloating_136])], ht⟩) (fun q h => nomatch h) dM_compareFloating_139
set_option maxHeartbeats 4000000 in
set_option maxRecDepth 100000 in
theorem kM_compareFloating_82 {p : Program} {l : Launch} {e : Env} {s : State} {m : MethodId} {args : Array Value} {below : List Frame} {meth : Method} {c : Code} (C : pw_C p s m args meth c cM_compareFloating 8 (some .long) "BitNumbersModel") (a0 : Int32) (a6 : Int32) (s0 : Int32) (hz6 : a6 = 0 ∨ a6 = 1) (hzs0 : s0 = 0 ∨ s0 = 1) {ls : Array Slot} (hl : lv_has ls 8 [(0, .int a0), (6, .int a6)]) : W p l e rmM_compareFloating s m args below meth c s.heap [] 0 0 (MQ below (k2_QcV (.long (fM_compareFloating_82 a0 a6 s0))) args s 0 0 (fun _ => False)) (F0 m 82 ls [.int s0]) := by
  obtain ⟨hx, hb, hr, hml, hown, hts, hlocks⟩ := id C
  refine lv_istore (lv' := [(7, .int s0), (0, .int a0), (6, .int a6)]) hx hb dM_compareFloating_82 hl (by decide) rfl (fun ls hl => ?_)
  refine lv_iload_n hx hb dM_compareFloating_84 rfl (lv_at hl 1 rfl) ?_
  by_cases h1 : a0 = 0
  · refine lv_tableIn (tgt := 120) hx hb dM_compareFloating_85 (by rw [h1]; decide) (by rw [h1]; decide) (off := 35) (by rw [h1]; rfl) (by decide) ?_
    refine lv_iload hx hb dM_compareFloating_120 (lv_at hl 2 rfl) ?_
    refine pw_call (va_runS (As := [.int a6]) (rest := []) ⟨hx, hb, hml, hown, hts⟩ (qM_truth l a6) (va_cwS 1 hts (gS w_566 w_567 w_34 w_568) rfl rfl rfl (by decide +kernel) ⟨Nat.le_of_ble_eq_true rfl, Nat.le_of_ble_eq_true rfl⟩) ⟨pw_bT, fun U hU hW => ⟨rfl, trivial⟩⟩ rfl rfl hl.1 rfl (lv_room (Nat.le_of_ble_eq_true rfl)) dM_compareFloating_122 ⟨Nat.zero_le _, Nat.zero_le _⟩) ?_
    exact W.lret hx hb hr (fun t ht _ => ⟨by rw [(show fM_compareFloating_82 a0 a6 s0 = fM_truth a6 by rw [fM_compareFloating_82, if_pos h1])], ht⟩) (fun q h => nomatch h) dM_compareFloating_125
  by_cases h2 : a0 = 1
  · refine lv_tableIn (tgt := 126) hx hb dM_compareFloating_85 (by rw [h2]; decide) (by rw [h2]; decide) (off := 41) (by rw [h2]; rfl) (by decide) ?_
    refine lv_iload hx hb dM_compareFloating_126 (lv_at hl 2 rfl) ?_
    refine lv_if_ne (tgt := 135) hx hb dM_compareFloating_128 (by decide) (fun h3 => ?_) (fun h3 => ?_)
    · refine lv_iconst (v := 0) hx hb dM_compareFloating_135 (by decide) ?_
      rw [(show fM_compareFloating_82 a0 a6 s0 = fM_compareFloating_136 0 by rw [fM_compareFloating_82, if_neg h1, if_pos h2, if_neg h3])]
      exact kM_compareFloating_136 C 0 (Or.inl rfl) (lv_sub hl [] rfl)
    · refine lv_iconst (v := 1) hx hb dM_compareFloating_131 (by decide) ?_
      refine lv_goto (tgt := 136) hx hb dM_compareFloating_132 (by decide) ?_
      rw [(show fM_compareFloating_82 a0 a6 s0 = fM_compareFloating_136 1 by rw [fM_compareFloating_82, if_neg h1, if_pos h2, if_pos h3])]
      exact kM_compareFloating_136 C 1 (Or.inr rfl) (lv_sub hl [] rfl)
  by_cases h4 : a0 = 2
  · refine lv_tableIn (tgt := 140) hx hb dM_compareFloating_85 (by rw [h4]; decide) (by rw [h4]; decide) (off := 55) (by rw [h4]; rfl) (by decide) ?_
    refine lv_iload hx hb dM_compareFloating_140 (lv_at hl 0 rfl) ?_
    refine pw_call (va_runS (As := [.int s0]) (rest := []) ⟨hx, hb, hml, hown, hts⟩ (qM_truth l s0) (va_cwS 1 hts (gS w_566 w_567 w_34 w_568) rfl rfl rfl (by decide +kernel) ⟨Nat.le_of_ble_eq_true rfl, Nat.le_of_ble_eq_true rfl⟩) ⟨pw_bT, fun U hU hW => ⟨rfl, trivial⟩⟩ rfl rfl hl.1 rfl (lv_room (Nat.le_of_ble_eq_true rfl)) dM_compareFloating_142 ⟨Nat.zero_le _, Nat.zero_le _⟩) ?_
    exact W.lret hx hb hr (fun t ht _ => ⟨by rw [(show fM_compareFloating_82 a0 a6 s0 = fM_truth s0 by rw [fM_compareFloating_82, if_neg h1, if_neg h2, if_pos h4])], ht⟩) (fun q h => nomatch h) dM_compareFloating_145
  by_cases h5 : a0 = 3
  · refine lv_tableIn (tgt := 146) hx hb dM_compareFloating_85 (by rw [h5]; decide) (by rw [h5]; decide) (off := 61) (by rw [h5]; rfl) (by decide) ?_
    refine lv_iload hx hb dM_compareFloating_146 (lv_at hl 2 rfl) ?_
    refine lv_if_ne (tgt := 160) hx hb dM_compareFloating_148 (by decide) (fun h6 => ?_) (fun h6 => ?_)
    · rw [(show fM_compareFloating_82 a0 a6 s0 = fM_compareFloating_160 by rw [fM_compareFloating_82, if_neg h1, if_neg h2, if_neg h4, if_pos h5, if_neg h6])]
      exact kM_compareFloating_160 C (lv_sub hl [] rfl)
    · refine lv_iload hx hb dM_compareFloating_151 (lv_at hl 0 rfl) ?_
      refine lv_if_ne (tgt := 160) hx hb dM_compareFloating_153 (by decide) (fun h7 => ?_) (fun h7 => ?_)
      · rw [(show fM_compareFloating_82 a0 a6 s0 = fM_compareFloating_160 by rw [fM_compareFloating_82, if_neg h1, if_neg h2, if_neg h4, if_pos h5, if_pos h6, if_neg h7])]
        exact kM_compareFloating_160 C (lv_sub hl [] rfl)
      · refine lv_iconst (v := 1) hx hb dM_compareFloating_156 (by decide) ?_
        refine lv_goto (tgt := 161) hx hb dM_compareFloating_157 (by decide) ?_
        rw [(show fM_compareFloating_82 a0 a6 s0 = fM_compareFloating_161 1 by rw [fM_compareFloating_82, if_neg h1, if_neg h2, if_neg h4, if_pos h5, if_pos h6, if_pos h7])]
        exact kM_compareFloating_161 C 1 (Or.inr rfl) (lv_sub hl [] rfl)
  by_cases h8 : a0 = 4
  · refine lv_tableIn (tgt := 165) hx hb dM_compareFloating_85 (by rw [h8]; decide) (by rw [h8]; decide) (off := 80) (by rw [h8]; rfl) (by decide) ?_
    refine lv_iload hx hb dM_compareFloating_165 (lv_at hl 2 rfl) ?_
    refine lv_if_ne (tgt := 175) hx hb dM_compareFloating_167 (by decide) (fun h9 => ?_) (fun h9 => ?_)
    · rw [(show fM_compareFloating_82 a0 a6 s0 = fM_compareFloating_175 by rw [fM_compareFloating_82, if_neg h1, if_neg h2, if_neg h4, if_neg h5, if_pos h8, if_neg h9])]
      exact kM_compareFloating_175 C (lv_sub hl [] rfl)
    · refine lv_iload hx hb dM_compareFloating_170 (lv_at hl 0 rfl) ?_
      refine lv_if_eq (tgt := 179) hx hb dM_compareFloating_172 (by decide) (fun h10 => ?_) (fun h10 => ?_)
      · refine lv_iconst (v := 0) hx hb dM_compareFloating_179 (by decide) ?_
        rw [(show fM_compareFloating_82 a0 a6 s0 = fM_compareFloating_180 0 by rw [fM_compareFloating_82, if_neg h1, if_neg h2, if_neg h4, if_neg h5, if_pos h8, if_pos h9, if_pos h10])]
        exact kM_compareFloating_180 C 0 (Or.inl rfl) (lv_sub hl [] rfl)
      · rw [(show fM_compareFloating_82 a0 a6 s0 = fM_compareFloating_175 by rw [fM_compareFloating_82, if_neg h1, if_neg h2, if_neg h4, if_neg h5, if_pos h8, if_pos h9, if_neg h10])]
        exact kM_compareFloating_175 C (lv_sub hl [] rfl)
  refine pw_tableD (tgt := 184) hx hb dM_compareFloating_85 ?_ (by decide) ?_
  · have th1 := lv_neT h1 (a := 0) (by decide)
    have th2 := lv_neT h2 (a := 1) (by decide)
    have th4 := lv_neT h4 (a := 2) (by decide)
    have th5 := lv_neT h5 (a := 3) (by decide)
    have th8 := lv_neT h8 (a := 4) (by decide)
    exact (show a0.toInt < 0 ∨ 4 < a0.toInt by omega).elim Or.inl (fun q => Or.inr (Or.inl q))
  refine lv_iload hx hb dM_compareFloating_184 (lv_at hl 0 rfl) ?_
  refine lv_if_ne (tgt := 193) hx hb dM_compareFloating_186 (by decide) (fun h11 => ?_) (fun h11 => ?_)
  · refine lv_iconst (v := 0) hx hb dM_compareFloating_193 (by decide) ?_
    rw [(show fM_compareFloating_82 a0 a6 s0 = fM_compareFloating_194 0 by rw [fM_compareFloating_82, if_neg h1, if_neg h2, if_neg h4, if_neg h5, if_neg h8, if_neg h11])]
    exact kM_compareFloating_194 C 0 (Or.inl rfl) (lv_sub hl [] rfl)
  · refine lv_iconst (v := 1) hx hb dM_compareFloating_189 (by decide) ?_
    refine lv_goto (tgt := 194) hx hb dM_compareFloating_190 (by decide) ?_
    rw [(show fM_compareFloating_82 a0 a6 s0 = fM_compareFloating_194 1 by rw [fM_compareFloating_82, if_neg h1, if_neg h2, if_neg h4, if_neg h5, if_neg h8, if_pos h11])]
    exact kM_compareFloating_194 C 1 (Or.inr rfl) (lv_sub hl [] rfl)
set_option maxHeartbeats 4000000 in
set_option maxRecDepth 100000 in
theorem kM_compareFloating_81 {p : Program} {l : Launch} {e : Env} {s : State} {m : MethodId} {args : Array Value} {below : List Frame} {meth : Method} {c : Code} (C : pw_C p s m args meth c cM_compareFloating 8 (some .long) "BitNumbersModel") (a0 : Int32) (a6 : Int32) (hz6 : a6 = 0 ∨ a6 = 1) {ls : Array Slot} (hl : lv_has ls 8 [(0, .int a0), (6, .int a6)]) : W p l e rmM_compareFloating s m args below meth c s.heap [] 0 0 (MQ below (k2_QcV (.long (fM_compareFloating_81 a0 a6))) args s 0 0 (fun _ => False)) (F0 m 81 ls []) := by
  obtain ⟨hx, hb, hr, hml, hown, hts, hlocks⟩ := id C
  refine lv_iconst (v := 0) hx hb dM_compareFloating_81 (by decide) ?_
  rw [(show fM_compareFloating_81 a0 a6 = fM_compareFloating_82 a0 a6 0 by rw [fM_compareFloating_81])]
  exact kM_compareFloating_82 C a0 a6 0 hz6 (Or.inl rfl) (lv_sub hl [0, 1] rfl)
set_option maxHeartbeats 4000000 in
set_option maxRecDepth 100000 in
theorem kM_compareFloating_60 {p : Program} {l : Launch} {e : Env} {s : State} {m : MethodId} {args : Array Value} {below : List Frame} {meth : Method} {c : Code} (C : pw_C p s m args meth c cM_compareFloating 8 (some .long) "BitNumbersModel") (a0 : Int32) (a1 : Int32) (a2 : Int64) (a4 : Int64) (s0 : Int32) (hzs0 : s0 = 0 ∨ s0 = 1) {ls : Array Slot} (hl : lv_has ls 8 [(0, .int a0), (1, .int a1), (2, .long a2), (4, .long a4)]) : W p l e rmM_compareFloating s m args below meth c s.heap [] 0 0 (MQ below (k2_QcV (.long (fM_compareFloating_60 a0 a1 a2 a4 s0))) args s 0 0 (fun _ => False)) (F0 m 60 ls [.int s0]) := by
  obtain ⟨hx, hb, hr, hml, hown, hts, hlocks⟩ := id C
  refine lv_istore (lv' := [(6, .int s0), (0, .int a0), (1, .int a1), (2, .long a2), (4, .long a4)]) hx hb dM_compareFloating_60 hl (by decide) rfl (fun ls hl => ?_)
  refine lv_iload hx hb dM_compareFloating_62 (lv_at hl 0 rfl) ?_
  refine lv_if_ne (tgt := 81) hx hb dM_compareFloating_64 (by decide) (fun h1 => ?_) (fun h1 => ?_)
  · rw [(show fM_compareFloating_60 a0 a1 a2 a4 s0 = fM_compareFloating_81 a0 s0 by rw [fM_compareFloating_60, if_neg h1])]
    exact kM_compareFloating_81 C a0 s0 hzs0 (lv_sub hl [1, 0] rfl)
  · refine lv_iload_n hx hb dM_compareFloating_67 rfl (lv_at hl 2 rfl) ?_
    refine lv_lload_n hx hb dM_compareFloating_68 rfl (lv_at hl 3 rfl) ?_
    refine lv_lload hx hb dM_compareFloating_69 (lv_at hl 4 rfl) ?_
    refine pw_call (va_runS (As := [.int a1, .long a2, .long a4]) (rest := []) ⟨hx, hb, hml, hown, hts⟩ (qM_isLess l a1 a2 a4) (va_cwS 3 hts (gS w_612 w_613 w_34 w_614) rfl rfl rfl (by decide +kernel) ⟨Nat.le_of_ble_eq_true rfl, Nat.le_of_ble_eq_true rfl⟩) ⟨pw_bT, fun U hU hW => ⟨rfl, trivial⟩⟩ rfl rfl hl.1 rfl (lv_room (Nat.le_of_ble_eq_true rfl)) dM_compareFloating_71 ⟨Nat.zero_le _, Nat.zero_le _⟩) ?_
    refine lv_if_eq (tgt := 81) hx hb dM_compareFloating_74 (by decide) (fun h2 => ?_) (fun h2 => ?_)
    · rw [(show fM_compareFloating_60 a0 a1 a2 a4 s0 = fM_compareFloating_81 a0 s0 by rw [fM_compareFloating_60, if_pos h1, if_pos h2])]
      exact kM_compareFloating_81 C a0 s0 hzs0 (lv_sub hl [1, 0] rfl)
    · refine lv_iconst (v := 1) hx hb dM_compareFloating_77 (by decide) ?_
      refine lv_goto (tgt := 82) hx hb dM_compareFloating_78 (by decide) ?_
      rw [(show fM_compareFloating_60 a0 a1 a2 a4 s0 = fM_compareFloating_82 a0 s0 1 by rw [fM_compareFloating_60, if_pos h1, if_neg h2])]
      exact kM_compareFloating_82 C a0 s0 1 hzs0 (Or.inr rfl) (lv_sub hl [1, 0] rfl)
set_option maxHeartbeats 4000000 in
set_option maxRecDepth 100000 in
theorem kM_compareFloating_59 {p : Program} {l : Launch} {e : Env} {s : State} {m : MethodId} {args : Array Value} {below : List Frame} {meth : Method} {c : Code} (C : pw_C p s m args meth c cM_compareFloating 8 (some .long) "BitNumbersModel") (a0 : Int32) (a1 : Int32) (a2 : Int64) (a4 : Int64) {ls : Array Slot} (hl : lv_has ls 8 [(0, .int a0), (1, .int a1), (2, .long a2), (4, .long a4)]) : W p l e rmM_compareFloating s m args below meth c s.heap [] 0 0 (MQ below (k2_QcV (.long (fM_compareFloating_59 a0 a1 a2 a4))) args s 0 0 (fun _ => False)) (F0 m 59 ls []) := by
  obtain ⟨hx, hb, hr, hml, hown, hts, hlocks⟩ := id C
  refine lv_iconst (v := 0) hx hb dM_compareFloating_59 (by decide) ?_
  rw [(show fM_compareFloating_59 a0 a1 a2 a4 = fM_compareFloating_60 a0 a1 a2 a4 0 by rw [fM_compareFloating_59])]
  exact kM_compareFloating_60 C a0 a1 a2 a4 0 (Or.inl rfl) (lv_sub hl [0, 1, 2, 3] rfl)
set_option maxHeartbeats 4000000 in
set_option maxRecDepth 100000 in
theorem kM_compareFloating_55 {p : Program} {l : Launch} {e : Env} {s : State} {m : MethodId} {args : Array Value} {below : List Frame} {meth : Method} {c : Code} (C : pw_C p s m args meth c cM_compareFloating 8 (some .long) "BitNumbersModel") (a0 : Int32) (a1 : Int32) (a2 : Int64) (a4 : Int64) {ls : Array Slot} (hl : lv_has ls 8 [(0, .int a0), (1, .int a1), (2, .long a2), (4, .long a4)]) : W p l e rmM_compareFloating s m args below meth c s.heap [] 0 0 (MQ below (k2_QcV (.long (fM_compareFloating_55 a0 a1 a2 a4))) args s 0 0 (fun _ => False)) (F0 m 55 ls []) := by
  obtain ⟨hx, hb, hr, hml, hown, hts, hlocks⟩ := id C
  refine lv_iconst (v := 1) hx hb dM_compareFloating_55 (by decide) ?_
  refine lv_goto (tgt := 60) hx hb dM_compareFloating_56 (by decide) ?_
  rw [(show fM_compareFloating_55 a0 a1 a2 a4 = fM_compareFloating_60 a0 a1 a2 a4 1 by rw [fM_compareFloating_55])]
  exact kM_compareFloating_60 C a0 a1 a2 a4 1 (Or.inr rfl) (lv_sub hl [0, 1, 2, 3] rfl)
set_option maxHeartbeats 4000000 in
set_option maxRecDepth 100000 in
theorem kM_compareFloating_27 {p : Program} {l : Launch} {e : Env} {s : State} {m : MethodId} {args : Array Value} {below : List Frame} {meth : Method} {c : Code} (C : pw_C p s m args meth c cM_compareFloating 8 (some .long) "BitNumbersModel") (s0 : Int32) (hzs0 : s0 = 0 ∨ s0 = 1) {ls : Array Slot} (hl : lv_has ls 8 []) : W p l e rmM_compareFloating s m args below meth c s.heap [] 0 0 (MQ below (k2_QcV (.long (fM_compareFloating_27 s0))) args s 0 0 (fun _ => False)) (F0 m 27 ls [.int s0]) := by
  obtain ⟨hx, hb, hr, hml, hown, hts, hlocks⟩ := id C
  refine pw_call (va_runS (As := [.int s0]) (rest := []) ⟨hx, hb, hml, hown, hts⟩ (qM_truth l s0) (va_cwS 1 hts (gS w_566 w_567 w_34 w_568) rfl rfl rfl (by decide +kernel) ⟨Nat.le_of_ble_eq_true rfl, Nat.le_of_ble_eq_true rfl⟩) ⟨pw_bT, fun U hU hW => ⟨rfl, trivial⟩⟩ rfl rfl hl.1 rfl (lv_room (Nat.le_of_ble_eq_true rfl)) dM_compareFloating_27 ⟨Nat.zero_le _, Nat.zero_le _⟩) ?_
  exact W.lret hx hb hr (fun t ht _ => ⟨by rw [(show fM_compareFloating_27 s0 = fM_truth s0 by rw [fM_compareFloating_27])], ht⟩) (fun q h => nomatch h) dM_compareFloating_30
set_option maxHeartbeats 4000000 in
set_option maxRecDepth 100000 in
theorem kM_compareFloating_17 {p : Program} {l : Launch} {e : Env} {s : State} {m : MethodId} {args : Array Value} {below : List Frame} {meth : Method} {c : Code} (C : pw_C p s m args meth c cM_compareFloating 8 (some .long) "BitNumbersModel") (a0 : Int32) {ls : Array Slot} (hl : lv_has ls 8 [(0, .int a0)]) : W p l e rmM_compareFloating s m args below meth c s.heap [] 0 0 (MQ below (k2_QcV (.long (fM_compareFloating_17 a0))) args s 0 0 (fun _ => False)) (F0 m 17 ls []) := by
  obtain ⟨hx, hb, hr, hml, hown, hts, hlocks⟩ := id C
  refine lv_iload_n hx hb dM_compareFloating_17 rfl (lv_at hl 0 rfl) ?_
  refine lv_iconst (v := 1) hx hb dM_compareFloating_18 (by decide) ?_
  refine lv_icmp_ne (tgt := 26) hx hb dM_compareFloating_19 (by decide) (fun h1 => ?_) (fun h1 => ?_)
  · refine lv_iconst (v := 0) hx hb dM_compareFloating_26 (by decide) ?_
    rw [(show fM_compareFloating_17 a0 = fM_compareFloating_27 0 by rw [fM_compareFloating_17, if_neg h1])]
    exact kM_compareFloating_27 C 0 (Or.inl rfl) (lv_sub hl [] rfl)
  · refine lv_iconst (v := 1) hx hb dM_compareFloating_22 (by decide) ?_
    refine lv_goto (tgt := 27) hx hb dM_compareFloating_23 (by decide) ?_
    rw [(show fM_compareFloating_17 a0 = fM_compareFloating_27 1 by rw [fM_compareFloating_17, if_pos h1])]
    exact kM_compareFloating_27 C 1 (Or.inr rfl) (lv_sub hl [] rfl)
set_option maxHeartbeats 4000000 in
set_option maxRecDepth 100000 in
theorem kM_compareFloating_0 {p : Program} {l : Launch} {e : Env} {s : State} {m : MethodId} {args : Array Value} {below : List Frame} {meth : Method} {c : Code} (C : pw_C p s m args meth c cM_compareFloating 8 (some .long) "BitNumbersModel") (a0 : Int32) (a1 : Int32) (a2 : Int64) (a4 : Int64) {ls : Array Slot} (hl : lv_has ls 8 [(0, .int a0), (1, .int a1), (2, .long a2), (4, .long a4)]) : W p l e rmM_compareFloating s m args below meth c s.heap [] 0 0 (MQ below (k2_QcV (.long (fM_compareFloating a0 a1 a2 a4))) args s 0 0 (fun _ => False)) (F0 m 0 ls []) := by
  obtain ⟨hx, hb, hr, hml, hown, hts, hlocks⟩ := id C
  refine lv_iload_n hx hb dM_compareFloating_0 rfl (lv_at hl 1 rfl) ?_
  refine lv_lload_n hx hb dM_compareFloating_1 rfl (lv_at hl 2 rfl) ?_
  refine pw_call (va_runS (As := [.int a1, .long a2]) (rest := []) ⟨hx, hb, hml, hown, hts⟩ (qM_isNone l a1 a2) (va_cwS 2 hts (gS w_582 w_583 w_34 w_584) rfl rfl rfl (by decide +kernel) ⟨Nat.le_of_ble_eq_true rfl, Nat.le_of_ble_eq_true rfl⟩) ⟨pw_bT, fun U hU hW => ⟨rfl, trivial⟩⟩ rfl rfl hl.1 rfl (lv_room (Nat.le_of_ble_eq_true rfl)) dM_compareFloating_2 ⟨Nat.zero_le _, Nat.zero_le _⟩) ?_
  refine lv_if_ne (tgt := 17) hx hb dM_compareFloating_5 (by decide) (fun h1 => ?_) (fun h1 => ?_)
  · rw [(show fM_compareFloating a0 a1 a2 a4 = fM_compareFloating_17 a0 by rw [fM_compareFloating, if_neg h1])]
    exact kM_compareFloating_17 C a0 (lv_sub hl [0] rfl)
  · refine lv_iload_n hx hb dM_compareFloating_8 rfl (lv_at hl 1 rfl) ?_
    refine lv_lload hx hb dM_compareFloating_9 (lv_at hl 3 rfl) ?_
    refine pw_call (va_runS (As := [.int a1, .long a4]) (rest := []) ⟨hx, hb, hml, hown, hts⟩ (qM_isNone l a1 a4) (va_cwS 2 hts (gS w_582 w_583 w_34 w_584) rfl rfl rfl (by decide +kernel) ⟨Nat.le_of_ble_eq_true rfl, Nat.le_of_ble_eq_true rfl⟩) ⟨pw_bT, fun U hU hW => ⟨rfl, trivial⟩⟩ rfl rfl hl.1 rfl (lv_room (Nat.le_of_ble_eq_true rfl)) dM_compareFloating_11 ⟨Nat.zero_le _, Nat.zero_le _⟩) ?_
    refine lv_if_eq (tgt := 31) hx hb dM_compareFloating_14 (by decide) (fun h2 => ?_) (fun h2 => ?_)
    · refine lv_lload_n hx hb dM_compareFloating_31 rfl (lv_at hl 2 rfl) ?_
      refine lv_lload hx hb dM_compareFloating_32 (lv_at hl 3 rfl) ?_
      refine W.lcmp hx hb dM_compareFloating_34 ?_
      refine lv_if_eq (tgt := 55) hx hb dM_compareFloating_35 (by decide) (fun h3 => ?_) (fun h3 => ?_)
      · have h3 : a2 = a4 := (lg_cmp_eq _ _).mp h3
        rw [(show fM_compareFloating a0 a1 a2 a4 = fM_compareFloating_55 a0 a1 a2 a4 by rw [fM_compareFloating, if_pos h1, if_pos h2, if_pos h3])]
        exact kM_compareFloating_55 C a0 a1 a2 a4 (lv_sub hl [0, 1, 2, 3] rfl)
      · have h3 : ¬ (a2 = a4) := fun w => h3 ((lg_cmp_eq _ _).mpr w)
        refine lv_iload_n hx hb dM_compareFloating_38 rfl (lv_at hl 1 rfl) ?_
        refine lv_lload_n hx hb dM_compareFloating_39 rfl (lv_at hl 2 rfl) ?_
        refine pw_call (va_runS (As := [.int a1, .long a2]) (rest := []) ⟨hx, hb, hml, hown, hts⟩ (qM_isZero l a1 a2) (va_cwS 2 hts (gS w_609 w_610 w_34 w_611) rfl rfl rfl (by decide +kernel) ⟨Nat.le_of_ble_eq_true rfl, Nat.le_of_ble_eq_true rfl⟩) ⟨pw_bT, fun U hU hW => ⟨rfl, trivial⟩⟩ rfl rfl hl.1 rfl (lv_room (Nat.le_of_ble_eq_true rfl)) dM_compareFloating_40 ⟨Nat.zero_le _, Nat.zero_le _⟩) ?_
        refine lv_if_eq (tgt := 59) hx hb dM_compareFloating_43 (by decide) (fun h4 => ?_) (fun h4 => ?_)
        · rw [(show fM_compareFloating a0 a1 a2 a4 = fM_compareFloating_59 a0 a1 a2 a4 by rw [fM_compareFloating, if_pos h1, if_pos h2, if_neg h3, if_pos h4])]
          exact kM_compareFloating_59 C a0 a1 a2 a4 (lv_sub hl [0, 1, 2, 3] rfl)
        · refine lv_iload_n hx hb dM_compareFloating_46 rfl (lv_at hl 1 rfl) ?_
          refine lv_lload hx hb dM_compareFloating_47 (lv_at hl 3 rfl) ?_
          refine pw_call (va_runS (As := [.int a1, .long a4]) (rest := []) ⟨hx, hb, hml, hown, hts⟩ (qM_isZero l a1 a4) (va_cwS 2 hts (gS w_609 w_610 w_34 w_611) rfl rfl rfl (by decide +kernel) ⟨Nat.le_of_ble_eq_true rfl, Nat.le_of_ble_eq_true rfl⟩) ⟨pw_bT, fun U hU hW => ⟨rfl, trivial⟩⟩ rfl rfl hl.1 rfl (lv_room (Nat.le_of_ble_eq_true rfl)) dM_compareFloating_49 ⟨Nat.zero_le _, Nat.zero_le _⟩) ?_
          refine lv_if_eq (tgt := 59) hx hb dM_compareFloating_52 (by decide) (fun h5 => ?_) (fun h5 => ?_)
          · rw [(show fM_compareFloating a0 a1 a2 a4 = fM_compareFloating_59 a0 a1 a2 a4 by rw [fM_compareFloating, if_pos h1, if_pos h2, if_neg h3, if_neg h4, if_pos h5])]
            exact kM_compareFloating_59 C a0 a1 a2 a4 (lv_sub hl [0, 1, 2, 3] rfl)
          · rw [(show fM_compareFloating a0 a1 a2 a4 = fM_compareFloating_55 a0 a1 a2 a4 by rw [fM_compareFloating, if_pos h1, if_pos h2, if_neg h3, if_neg h4, if_neg h5])]
            exact kM_compareFloating_55 C a0 a1 a2 a4 (lv_sub hl [0, 1, 2, 3] rfl)
    · rw [(show fM_compareFloating a0 a1 a2 a4 = fM_compareFloating_17 a0 by rw [fM_compareFloating, if_pos h1, if_neg h2])]
      exact kM_compareFloating_17 C a0 (lv_sub hl [0] rfl)
set_option maxHeartbeats 4000000 in
set_option maxRecDepth 100000 in
theorem qM_compareFloating (l : Launch) (a0 : Int32) (a1 : Int32) (a2 : Int64) (a4 : Int64) : Met l yM_compareFloating wsM_compareFloating rmM_compareFloating (va_Pc [.int a0, .int a1, .long a2, .long a4] (fun _ => True)) (k2_QcV (.long (fM_compareFloating a0 a1 a2 a4))) 0 0 (fun _ => False) := by
  refine Met.ofW (cc := cM_compareFloating) (maxL := 8) (ret := (some .long)) (by decide) rfl ?_
  intro p e s m args below meth c s₁ B hml hv
  obtain ⟨rfl, hG⟩ := hv
  have hts0 := atoms_spec (ws := wsM_compareFloating) B.pre
  have hts := fun (w : Cond) (h : w ∈ aw) => hts0 w (List.mem_cons_of_mem _ h)
  have hown : s.vm.findClass "BitNumbersModel" = some m.cls := findClass_of_methodNamed B.named
  have hl := lv_entry ([.int a0, .int a1, .long a2, .long a4]) (n := 8) (Nat.le_of_ble_eq_true rfl)
  rw [lg_entry_eq]
  generalize (lg_sl ([.int a0, .int a1, .long a2, .long a4]) ++ List.replicate (8 - (lg_sl ([.int a0, .int a1, .long a2, .long a4])).length) Slot.unset).toArray = ls at hl ⊢
  exact kM_compareFloating_0 ⟨B.exec, B.bytes, B.returns, hml, hown, hts, B.notSynchronized⟩ a0 a1 a2 a4 hl

