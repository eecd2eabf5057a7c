abbrev cL_pop : ByteArray := method_3_code
def yL_pop : MethodName := ⟨"BitNumbersLaw", "pop", "(LBitNumbers;[J)I"⟩
abbrev hhL_pop : List (Nat × Nat × Nat × Nat) := [(0, 7, 10, 13)]
def wsL_pop : List Cond := .codeWith yL_pop cL_pop 3 (some .int) hhL_pop :: aw
abbrev cL_apply : ByteArray := method_4_code
def yL_apply : MethodName := ⟨"BitNumbersLaw", "apply", "(LBitNumbers;I[J)I"⟩
abbrev hhL_apply : List (Nat × Nat × Nat × Nat) := [(0, 9, 12, 19), (0, 9, 15, 13), (0, 9, 18, 21)]
def wsL_apply : List Cond := .codeWith yL_apply cL_apply 4 (some .int) hhL_apply :: aw
abbrev rmL_pop : Room := { frames := 7, cells := 1, slots := 6, locals := 120 }
abbrev rmL_apply : Room := { frames := 8, cells := 1, slots := 6, locals := 230 }
theorem w_178 : (Cond.classLink "BitNumbersLaw" 13 "java/lang/IllegalStateException") ∈ aw := aw_in 178 (by decide +kernel) (by decide +kernel)
theorem w_179 : (Cond.methodLink "BitNumbersLaw" 7 yB_pop) ∈ aw := aw_in 179 (by decide +kernel) (by decide +kernel)
theorem w_180 : (Cond.instanceMethod yB_pop) ∈ aw := aw_in 180 (by decide +kernel) (by decide +kernel)
theorem w_181 : (Cond.selects "BitNumbers" yB_pop yB_pop) ∈ aw := aw_in 181 (by decide +kernel) (by decide +kernel)
theorem w_182 : (Cond.code yB_pop cB_pop 1 (some .long)) ∈ aw := aw_in 182 (by decide +kernel) (by decide +kernel)
theorem w_254 : (Cond.classLink "BitNumbersLaw" 19 "java/lang/IllegalArgumentException") ∈ aw := aw_in 254 (by decide +kernel) (by decide +kernel)
theorem w_255 : (Cond.classLink "BitNumbersLaw" 21 "java/lang/UnsupportedOperationException") ∈ aw := aw_in 255 (by decide +kernel) (by decide +kernel)
theorem w_256 : (Cond.methodLink "BitNumbersLaw" 15 yB_apply) ∈ aw := aw_in 256 (by decide +kernel) (by decide +kernel)
theorem w_257 : (Cond.instanceMethod yB_apply) ∈ aw := aw_in 257 (by decide +kernel) (by decide +kernel)
theorem w_258 : (Cond.selects "BitNumbers" yB_apply yB_apply) ∈ aw := aw_in 258 (by decide +kernel) (by decide +kernel)
theorem w_259 : (Cond.code yB_apply cB_apply 7 (some .int)) ∈ aw := aw_in 259 (by decide +kernel) (by decide +kernel)
theorem w_177 : (Cond.codeWith yL_pop cL_pop 3 (some .int) hhL_pop) ∈ aw := aw_in 177 (by decide +kernel) (by decide +kernel)
theorem w_253 : (Cond.codeWith yL_apply cL_apply 4 (some .int) hhL_apply) ∈ aw := aw_in 253 (by decide +kernel) (by decide +kernel)
theorem dL_pop_0 : decode cL_pop 0 = .ok (.aload_n 1, 1) := by decide +kernel
theorem dL_pop_1 : decode cL_pop 1 = .ok (.iconst 0, 1) := by decide +kernel
theorem dL_pop_2 : decode cL_pop 2 = .ok (.aload_n 0, 1) := by decide +kernel
theorem dL_pop_3 : decode cL_pop 3 = .ok (.invokevirtual 7, 3) := by decide +kernel
theorem dL_pop_6 : decode cL_pop 6 = .ok (.lastore, 1) := by decide +kernel
theorem dL_pop_7 : decode cL_pop 7 = .ok (.goto 6, 3) := by decide +kernel
theorem dL_pop_10 : decode cL_pop 10 = .ok (.astore_n 2, 1) := by decide +kernel
theorem dL_pop_11 : decode cL_pop 11 = .ok (.iconst 1, 1) := by decide +kernel
theorem dL_pop_12 : decode cL_pop 12 = .ok (.ireturn, 1) := by decide +kernel
theorem dL_pop_13 : decode cL_pop 13 = .ok (.iconst 0, 1) := by decide +kernel
theorem dL_pop_14 : decode cL_pop 14 = .ok (.ireturn, 1) := by decide +kernel
theorem dL_apply_0 : decode cL_apply 0 = .ok (.aload_n 2, 1) := by decide +kernel
theorem dL_apply_1 : decode cL_apply 1 = .ok (.iconst 0, 1) := by decide +kernel
theorem dL_apply_2 : decode cL_apply 2 = .ok (.aload_n 0, 1) := by decide +kernel
theorem dL_apply_3 : decode cL_apply 3 = .ok (.iload_n 1, 1) := by decide +kernel
theorem dL_apply_4 : decode cL_apply 4 = .ok (.invokevirtual 15, 3) := by decide +kernel
theorem dL_apply_7 : decode cL_apply 7 = .ok (.i2l, 1) := by decide +kernel
theorem dL_apply_8 : decode cL_apply 8 = .ok (.lastore, 1) := by decide +kernel
theorem dL_apply_9 : decode cL_apply 9 = .ok (.goto 12, 3) := by decide +kernel
theorem dL_apply_12 : decode cL_apply 12 = .ok (.astore_n 3, 1) := by decide +kernel
theorem dL_apply_13 : decode cL_apply 13 = .ok (.iconst 1, 1) := by decide +kernel
theorem dL_apply_14 : decode cL_apply 14 = .ok (.ireturn, 1) := by decide +kernel
theorem dL_apply_15 : decode cL_apply 15 = .ok (.astore_n 3, 1) := by decide +kernel
theorem dL_apply_16 : decode cL_apply 16 = .ok (.iconst 2, 1) := by decide +kernel
theorem dL_apply_17 : decode cL_apply 17 = .ok (.ireturn, 1) := by decide +kernel
theorem dL_apply_18 : decode cL_apply 18 = .ok (.astore_n 3, 1) := by decide +kernel
theorem dL_apply_19 : decode cL_apply 19 = .ok (.iconst 3, 1) := by decide +kernel
theorem dL_apply_20 : decode cL_apply 20 = .ok (.ireturn, 1) := by decide +kernel
theorem dL_apply_21 : decode cL_apply 21 = .ok (.iconst 0, 1) := by decide +kernel
theorem dL_apply_22 : decode cL_apply 22 = .ok (.ireturn, 1) := by decide +kernel
theorem gSW {own : String} {idx : Nat} {y : MethodName} {c : ByteArray} {n : Nat} {r : Option FieldType} {hh : List (Nat × Nat × Nat × Nat)} (h1 : Cond.methodLink own idx y ∈ aw) (h2 : Cond.static y ∈ aw) (h3 : Cond.initialized y.cls ∈ aw) (h4 : Cond.codeWith y c n r hh ∈ aw) : GoodIn aw (va_wsS own idx y (Cond.codeWith y c n r hh :: aw)) := by
  intro w hw
  rcases List.mem_append.mp hw with q | q
  · rcases List.mem_cons.mp q with e | q
    · rw [e]; exact aw_good h1
    rcases List.mem_cons.mp q with e | q
    · rw [e]; exact aw_good h2
    rcases List.mem_cons.mp q with e | q
    · rw [e]; exact aw_good h3
    · cases q
  · rcases List.mem_cons.mp q with e | q
    · rw [e]; exact aw_good h4
    · exact aw_good q
theorem lw_ofWH {l : Launch} {y : MethodName} {ws ws' : List Cond} {rm : Room} {Pc : Array Value → State → Prop} {Qc : Array Value → State → Outcome → State → Prop} {mc ms : Nat} {free : Addr → Prop} {cc : ByteArray} {maxL : Nat} {ret : Option FieldType} {hh : List (Nat × Nat × Nat × Nat)}
    (hy : plainName y.cls = true) (hw : ws = Cond.codeWith y cc maxL ret hh :: ws')
    (body : ∀ p e s m args below meth c s₁, BodyLoose p l y (headSpec ws rm) cc maxL ret e s m args below meth c s₁ → c.maxLocals = maxL → c.exceptionTable.toList = tableOf hh → Pc args s →
      W p l e (headSpec ws rm).room s m args below meth c s.heap [] 0 0 (MQ below Qc args s mc ms free) (entryFrame m args maxL)) : Met l y ws rm Pc Qc mc ms free := by
  refine MetFree.of_bodyS (code := cc) (maxLocals := maxL) (ret := ret) hy ?_ ?_
  · intro args s m h hn
    obtain ⟨m9, meth, c, hn9, h1, h2, h3, h4, -, h5, h6, -⟩ := Cond.codeWith_spec (atoms_spec (ws := ws) h _ (by rw [hw]; exact List.mem_cons_self))
    cases hn.symm.trans hn9
    exact ⟨meth, c, h1, h2, h3, h4, h5, h6⟩
  · intro p e s m args below meth c s₁ B hml hP _
    have hh0 : s₁.heap = s.heap := by rw [B.state]; rfl
    obtain ⟨t, a1, o, b1, b2, b3⟩ := body p e s m args below meth c s₁ B hml (vx_table (x := y) B (atoms_spec (ws := ws) B.pre _ (by rw [hw]; exact List.mem_cons_self))) hP s₁ hh0 (Stand.of_body B)
    exact ⟨t, o, a1, b1, b2, ⟨b3.1, b3.2⟩⟩
theorem zB_pop (σ : BS) : (fB_pop σ).1 = 0 ∨ (fB_pop σ).1 = 2 := by
  rw [fB_pop, fB_pop_5]
  split
  · exact Or.inr rfl
  · exact Or.inl rfl
theorem zB_apply (a : Int32) (σ : BS) : (fB_apply a σ).1 = 0 ∨ (fB_apply a σ).1 = 1 ∨ (fB_apply a σ).1 = 2 ∨ (fB_apply a σ).1 = 3 := by
  rw [fB_apply]
  split
  · exact Or.inr (Or.inl rfl)
  · rw [fB_apply_27, fB_apply_36]
    split
    · exact Or.inr (Or.inr (Or.inl rfl))
    · rw [fB_apply_61, fB_apply_74]
      split
      · exact Or.inl rfl
      · exact Or.inr (Or.inr (Or.inr rfl))
abbrev OS : Type := BS × (Nat → Int64)
def xcode (k : Nat) : Int32 := if k = 1 then 1 else if k = 2 then 2 else 3
def fL_pop (σ : BS) (f : Nat → Int64) : Int32 × OS := if (fB_pop σ).1 = 0 then (0, (fB_pop σ).2.2, vp_updL f 0 (fB_pop σ).2.1) else (1, (fB_pop σ).2.2, f)
def fL_apply (a : Int32) (σ : BS) (f : Nat → Int64) : Int32 × OS := if (fB_apply a σ).1 = 0 then (0, (fB_apply a σ).2.2, vp_updL f 0 (fB_apply a σ).2.1.toInt64) else (xcode (fB_apply a σ).1, (fB_apply a σ).2.2, f)
def ow_c (ad : Nat → Nat) (o : Nat) (σ : BS) (f : Nat → Int64) : va_W := bw_c ad σ ++ [(o, .inl (ad 7, 1, .inr (.inl f)))]
def xc (U : State) : Prop := va_Nc nISE nIAE U ∧ va_Nc nUOE nIAE U ∧ va_Nc nUOE nISE U
def ow_B (D : va_G) (ad ed td sa : Nat → Nat) (o : Nat) (σ : BS) (f : Nat → Int64) (sz : Nat) : State → Prop := fun U => U.heap.size = sz ∧ va_P D clM (ow_c ad o σ f) U.heap ∧ va_K D clM (tyA ad) U ∧ va_D (fun _ => True) (ow_c ad o σ f) ∧ pw_G (va_A (ow_c ad o σ f) sz) ed td U U.heap ∧ xw (va_A (ow_c ad o σ f) sz) sa U U.heap ∧ xc U
def ow_E (D : va_G) (ad : Nat → Nat) (o : Nat) (A : Nat → Prop) (u : OS) (t : State) : Prop := va_P D clM (ow_c ad o u.1 u.2) t.heap ∧ va_K D clM (tyA ad) t ∧ va_D A (ow_c ad o u.1 u.2)
theorem xcast_ise : Cond.castable nISE nISE ∈ xB := by decide +kernel
theorem xcast_iae : Cond.castable nIAE nIAE ∈ xB := by decide +kernel
theorem xcast_uoe : Cond.castable nUOE nUOE ∈ xB := by decide +kernel
set_option maxHeartbeats 4000000 in
set_option maxRecDepth 100000 in
theorem qL_pop (l : Launch) (hlT : l.stackTraces = false) (D : va_G) (ad ed td sa : Nat → Nat) (o : Nat) (σ : BS) (f : Nat → Int64) (sz : Nat) (hS0 : SB_pop σ) : Met l yL_pop wsL_pop rmL_pop (va_Pc [.ref (ad 0), .ref o] (ow_B D ad ed td sa o σ f sz)) (va_Qi (fun r (u : OS) => (r, u) = fL_pop σ f) (ow_E D ad o (va_A (ow_c ad o σ f) sz)) (va_A (ow_c ad o σ f) sz)) 1 6 (va_A (ow_c ad o σ f) sz) := by
  refine lw_ofWH (cc := cL_pop) (maxL := 3) (ret := (some .int)) (hh := hhL_pop) (by decide) rfl ?_
  intro p e s m args below meth c s₁ B hml htab hv
  obtain ⟨rfl, hsz, hP, hK, hD0, hG, hXw, hxc⟩ := hv
  have hx := B.exec
  have hb := B.bytes
  have hr := B.returns
  have hts0 := atoms_spec (ws := wsL_pop) B.pre
  have hts := fun (w : Cond) (h : w ∈ aw) => hts0 w (List.mem_cons_of_mem _ h)
  have hown : s.vm.findClass "BitNumbersLaw" = some m.cls := findClass_of_methodNamed B.named
  have hlocks := B.notSynchronized
  subst hsz
  have hD := hD0.self (sz := s.heap.size)
  generalize hAe : va_A (ow_c ad o σ f) s.heap.size = A at hD hG hXw ⊢
  have hA : ∀ q : Nat, s.heap.size ≤ q → A q := fun q h => by rw [← hAe]; exact Or.inr h
  have hS : va_S A s.heap s.heap [] := va_S.rf
  have hl := lv_entry ([.ref (ad 0), .ref o]) (n := 3) (Nat.le_of_ble_eq_true rfl)
  rw [lg_entry_eq]
  generalize (lg_sl ([.ref (ad 0), .ref o]) ++ List.replicate (3 - (lg_sl ([.ref (ad 0), .ref o])).length) Slot.unset).toArray = ls at hl ⊢
  have hl : lv_has ls 3 [(0, .ref (ad 0)), (1, .ref o)] := hl
  refine lv_aload_n hx hb dL_pop_0 rfl (lv_at hl 1 rfl) ?_
  refine lv_iconst (v := 0) hx hb dL_pop_1 (by decide) ?_
  refine lv_aload_n hx hb dL_pop_2 rfl (lv_at hl 0 rfl) ?_
  have hM : bw D ad A s.heap s.heap [] σ := ⟨hP.sub [0, 1, 2] rfl, hD.sub [0, 1, 2] (by decide) rfl, hS⟩
  have hF := va_free (wc := bw_c ad σ) hD hS hA [0, 1, 2] rfl
  refine vx_calll (vx_runV (As := []) (rest := [.int 0, .ref o]) ⟨hx, hb, hml, hown, hts⟩ (qB_pop l hlT D ad ed td sa σ s.heap.size hS0) (cwV 0 hts (gV w_179 w_180 w_181 w_33 w_182) rfl rfl rfl (by decide +kernel) ⟨Nat.le_of_ble_eq_true rfl, Nat.le_of_ble_eq_true rfl⟩) (bw_preVX hK hM hA hG hXw) rfl rfl hl.1 rfl (lv_room (Nat.le_of_ble_eq_true rfl)) dL_pop_3 ⟨Nat.le_of_ble_eq_true rfl, Nat.le_of_ble_eq_true rfl⟩) hS (fun q _ h => hF q h) hF (fun q _ h => hF q h) (fun E ce q9 u t H1 locs ht hvm hpx hBX hz hk hS hce hcv hcl => ?_) (fun r u t H1 locs ht hvm hw hB hz hk hS => ?_)
  · obtain ⟨k, r, hk0, hFe, hE⟩ := hpx
    obtain ⟨hE2, hP1, hK1, hD1⟩ := hBX
    rw [ht] at hP1
    obtain ⟨hPj, hDj⟩ := va_join (wr := [(o, .inl (ad 7, 1, .inr (.inl f)))]) (w1 := bw_c ad u.2) hP hD [0, 1, 2] [3] rfl rfl (by decide) (by decide) hk hF hP1 hD1
    have hP2 : va_P D clM (ow_c ad o u.2 f) H1 := hPj.sub [1, 2, 3, 0] rfl
    have hD2 : va_D A (ow_c ad o u.2 f) := hDj.sub [1, 2, 3, 0] (by decide) rfl
    have e1 : (fB_pop σ).1 = k := by rw [hFe]
    have e2 : (fB_pop σ).2.2 = u.2 := by rw [hFe]
    rw [hE2, hE] at hcl
    have ek : k = 2 := by
      rcases zB_pop σ with h | h
      · omega
      · omega
    subst ek
    have hn0 : ¬ (fB_pop σ).1 = 0 := by omega
    refine vx_catch (name := nISE) hown [] ⟨0, 7, 10, 13⟩ [] htab (fun z hz => nomatch hz) (by decide) (by decide) (hts _ w_178) (xN_use hXw.2.2 _ xcast_ise) hce hcv hcl ?_
    refine lv_astore_n (lv' := [(2, .ref q9), (0, .ref (ad 0)), (1, .ref o)]) hx hb dL_pop_10 rfl hl (by decide) rfl (fun ls hl => ?_)
    refine lv_iconst (v := 1) hx hb dL_pop_11 (by decide) ?_
    exact W.iret (v := 1) hx hb hr (fun t ht hW => ⟨⟨1, (u.2, f), rfl, by rw [fL_pop, if_neg hn0, e2], by rw [ht]; exact hP2, va_K.moved hW.alike hK, hD2⟩, hS.F ht⟩) hS.2.2 dL_pop_12
  · obtain ⟨hP1, hK1, hD1⟩ := hB
    rw [ht] at hP1
    obtain ⟨hPj, hDj⟩ := va_join (wr := [(o, .inl (ad 7, 1, .inr (.inl f)))]) (w1 := bw_c ad u) hP hD [0, 1, 2] [3] rfl rfl (by decide) (by decide) hk hF hP1 hD1
    have hP2 : va_P D clM (ow_c ad o u f) H1 := hPj.sub [1, 2, 3, 0] rfl
    have hD2 : va_D A (ow_c ad o u f) := hDj.sub [1, 2, 3, 0] (by decide) rfl
    have e1 : (fB_pop σ).1 = 0 := by rw [← hw]
    have e2 : (fB_pop σ).2.2 = u := by rw [← hw]
    have e3 : (fB_pop σ).2.1 = r := by rw [← hw]
    refine va_last (q0 := 3) (t0 := 1) (cA := ad 7) (n := 1) (f := f) (x := r) hx hb hK hP2 hD2 hS rfl rfl (fun h9 => h9.elim (by decide) (by decide)) dL_pop_6 (fun H locs hP hD hS => ?_)
    have hP3 : va_P D clM (ow_c ad o u (vp_updL f 0 (r))) H := hP
    have hD3 : va_D A (ow_c ad o u (vp_updL f 0 (r))) := hD
    refine lv_goto (tgt := 13) hx hb dL_pop_7 (by decide) ?_
    refine lv_iconst (v := 0) hx hb dL_pop_13 (by decide) ?_
    exact W.iret (v := 0) hx hb hr (fun t ht hW => ⟨⟨0, (u, vp_updL f 0 (r)), rfl, by rw [fL_pop, if_pos e1, e2, e3], by rw [ht]; exact hP3, va_K.moved hW.alike hK, hD3⟩, hS.F ht⟩) hS.2.2 dL_pop_14
set_option maxHeartbeats 4000000 in
set_option maxRecDepth 100000 in
theorem qL_apply (l : Launch) (hlT : l.stackTraces = false) (D : va_G) (ad ed td sa : Nat → Nat) (o : Nat) (a1 : Int32) (σ : BS) (f : Nat → Int64) (sz : Nat) (hS0 : SB_apply a1 σ) : Met l yL_apply wsL_apply rmL_apply (va_Pc [.ref (ad 0), .int a1, .ref o] (ow_B D ad ed td sa o σ f sz)) (va_Qi (fun r (u : OS) => (r, u) = fL_apply a1 σ f) (ow_E D ad o (va_A (ow_c ad o σ f) sz)) (va_A (ow_c ad o σ f) sz)) 1 6 (va_A (ow_c ad o σ f) sz) := by
  refine lw_ofWH (cc := cL_apply) (maxL := 4) (ret := (some .int)) (hh := hhL_apply) (by decide) rfl ?_
  intro p e s m args below meth c s₁ B hml htab hv
  obtain ⟨rfl, hsz, hP, hK, hD0, hG, hXw, hxc⟩ := hv
  have hx := B.exec
  have hb := B.bytes
  have hr := B.returns
  have hts0 := atoms_spec (ws := wsL_apply) B.pre
  have hts := fun (w : Cond) (h : w ∈ aw) => hts0 w (List.mem_cons_of_mem _ h)
  have hown : s.vm.findClass "BitNumbersLaw" = some m.cls := findClass_of_methodNamed B.named
  have hlocks := B.notSynchronized
  subst hsz
  have hD := hD0.self (sz := s.heap.size)
  generalize hAe : va_A (ow_c ad o σ f) s.heap.size = A at hD hG hXw ⊢
  have hA : ∀ q : Nat, s.heap.size ≤ q → A q := fun q h => by rw [← hAe]; exact Or.inr h
  have hS : va_S A s.heap s.heap [] := va_S.rf
  have hl := lv_entry ([.ref (ad 0), .int a1, .ref o]) (n := 4) (Nat.le_of_ble_eq_true rfl)
  rw [lg_entry_eq]
  generalize (lg_sl ([.ref (ad 0), .int a1, .ref o]) ++ List.replicate (4 - (lg_sl ([.ref (ad 0), .int a1, .ref o])).length) Slot.unset).toArray = ls at hl ⊢
  have hl : lv_has ls 4 [(0, .ref (ad 0)), (1, .int a1), (2, .ref o)] := hl
  refine lv_aload_n hx hb dL_apply_0 rfl (lv_at hl 2 rfl) ?_
  refine lv_iconst (v := 0) hx hb dL_apply_1 (by decide) ?_
  refine lv_aload_n hx hb dL_apply_2 rfl (lv_at hl 0 rfl) ?_
  refine lv_iload_n hx hb dL_apply_3 rfl (lv_at hl 1 rfl) ?_
  have hM : bw D ad A s.heap s.heap [] σ := ⟨hP.sub [0, 1, 2] rfl, hD.sub [0, 1, 2] (by decide) rfl, hS⟩
  have hF := va_free (wc := bw_c ad σ) hD hS hA [0, 1, 2] rfl
  refine vx_calli (vx_runV (As := [.int a1]) (rest := [.int 0, .ref o]) ⟨hx, hb, hml, hown, hts⟩ (qB_apply l hlT D ad ed td sa a1 σ s.heap.size hS0) (cwV 1 hts (gV w_256 w_257 w_258 w_33 w_259) rfl rfl rfl (by decide +kernel) ⟨Nat.le_of_ble_eq_true rfl, Nat.le_of_ble_eq_true rfl⟩) (bw_preVX hK hM hA hG hXw) rfl rfl hl.1 rfl (lv_room (Nat.le_of_ble_eq_true rfl)) dL_apply_4 ⟨Nat.le_of_ble_eq_true rfl, Nat.le_of_ble_eq_true rfl⟩) hS (fun q _ h => hF q h) hF (fun q _ h => hF q h) (fun E ce q9 u t H1 locs ht hvm hpx hBX hz hk hS hce hcv hcl => ?_) (fun r u t H1 locs ht hvm hw hB hz hk hS => ?_)
  · obtain ⟨k, r, hk0, hFe, hE⟩ := hpx
    obtain ⟨hE2, hP1, hK1, hD1⟩ := hBX
    rw [ht] at hP1
    obtain ⟨hPj, hDj⟩ := va_join (wr := [(o, .inl (ad 7, 1, .inr (.inl f)))]) (w1 := bw_c ad u.2) hP hD [0, 1, 2] [3] rfl rfl (by decide) (by decide) hk hF hP1 hD1
    have hP2 : va_P D clM (ow_c ad o u.2 f) H1 := hPj.sub [1, 2, 3, 0] rfl
    have hD2 : va_D A (ow_c ad o u.2 f) := hDj.sub [1, 2, 3, 0] (by decide) rfl
    have e1 : (fB_apply a1 σ).1 = k := by rw [hFe]
    have e2 : (fB_apply a1 σ).2.2 = u.2 := by rw [hFe]
    rw [hE2, hE] at hcl
    have hk3 : k = 1 ∨ k = 2 ∨ k = 3 := by
      have h9 := zB_apply a1 σ
      rw [e1] at h9
      omega
    have hn0 : ¬ (fB_apply a1 σ).1 = 0 := by omega
    rcases hk3 with rfl | rfl | rfl
    · refine vx_catch (name := nIAE) hown [] ⟨0, 9, 12, 19⟩ [⟨0, 9, 15, 13⟩, ⟨0, 9, 18, 21⟩] htab (fun z hz => nomatch hz) (by decide) (by decide) (hts _ w_254) (xN_use hXw.2.2 _ xcast_iae) hce hcv hcl ?_
      refine lv_astore_n (lv' := [(3, .ref q9), (0, .ref (ad 0)), (1, .int a1), (2, .ref o)]) hx hb dL_apply_12 rfl hl (by decide) rfl (fun ls hl => ?_)
      refine lv_iconst (v := 1) hx hb dL_apply_13 (by decide) ?_
      exact W.iret (v := 1) hx hb hr (fun t ht hW => ⟨⟨1, (u.2, f), rfl, by rw [fL_apply, if_neg hn0, e1, e2, show xcode 1 = 1 from rfl], by rw [ht]; exact hP2, va_K.moved hW.alike hK, hD2⟩, hS.F ht⟩) hS.2.2 dL_apply_14
    · have hpass : ∀ z ∈ ([⟨0, 9, 12, 19⟩] : List ExceptionTableEntry), covers z 4 = false ∨ (z.catchType ≠ 0 ∧ ∃ nm : String, (Cond.classLink "BitNumbersLaw" z.catchType nm).before ([.ref (ad 0), .int a1, .ref o] : List Value).toArray s = true ∧ va_Nc nISE nm s) := by
        intro z hz
        rcases List.mem_singleton.mp hz with rfl
        exact Or.inr ⟨by decide, _, hts _ w_254, hxc.1⟩
      refine vx_catch (name := nISE) hown [⟨0, 9, 12, 19⟩] ⟨0, 9, 15, 13⟩ [⟨0, 9, 18, 21⟩] htab hpass (by decide) (by decide) (hts _ w_178) (xN_use hXw.2.2 _ xcast_ise) hce hcv hcl ?_
      refine lv_astore_n (lv' := [(3, .ref q9), (0, .ref (ad 0)), (1, .int a1), (2, .ref o)]) hx hb dL_apply_15 rfl hl (by decide) rfl (fun ls hl => ?_)
      refine lv_iconst (v := 2) hx hb dL_apply_16 (by decide) ?_
      exact W.iret (v := 2) hx hb hr (fun t ht hW => ⟨⟨2, (u.2, f), rfl, by rw [fL_apply, if_neg hn0, e1, e2, show xcode 2 = 2 from rfl], by rw [ht]; exact hP2, va_K.moved hW.alike hK, hD2⟩, hS.F ht⟩) hS.2.2 dL_apply_17
    · have hpass : ∀ z ∈ ([⟨0, 9, 12, 19⟩, ⟨0, 9, 15, 13⟩] : List ExceptionTableEntry), covers z 4 = false ∨ (z.catchType ≠ 0 ∧ ∃ nm : String, (Cond.classLink "BitNumbersLaw" z.catchType nm).before ([.ref (ad 0), .int a1, .ref o] : List Value).toArray s = true ∧ va_Nc nUOE nm s) := by
        intro z hz
        rcases List.mem_cons.mp hz with rfl | hz
        · exact Or.inr ⟨by decide, _, hts _ w_254, hxc.2.1⟩
        · rcases List.mem_singleton.mp hz with rfl
          exact Or.inr ⟨by decide, _, hts _ w_178, hxc.2.2⟩
      refine vx_catch (name := nUOE) hown [⟨0, 9, 12, 19⟩, ⟨0, 9, 15, 13⟩] ⟨0, 9, 18, 21⟩ [] htab hpass (by decide) (by decide) (hts _ w_255) (xN_use hXw.2.2 _ xcast_uoe) hce hcv hcl ?_
      refine lv_astore_n (lv' := [(3, .ref q9), (0, .ref (ad 0)), (1, .int a1), (2, .ref o)]) hx hb dL_apply_18 rfl hl (by decide) rfl (fun ls hl => ?_)
      refine lv_iconst (v := 3) hx hb dL_apply_19 (by decide) ?_
      exact W.iret (v := 3) hx hb hr (fun t ht hW => ⟨⟨3, (u.2, f), rfl, by rw [fL_apply, if_neg hn0, e1, e2, show xcode 3 = 3 from rfl], by rw [ht]; exact hP2, va_K.moved hW.alike hK, hD2⟩, hS.F ht⟩) hS.2.2 dL_apply_20
  · obtain ⟨hP1, hK1, hD1⟩ := hB
    rw [ht] at hP1
    obtain ⟨hPj, hDj⟩ := va_join (wr := [(o, .inl (ad 7, 1, .inr (.inl f)))]) (w1 := bw_c ad u) hP hD [0, 1, 2] [3] rfl rfl (by decide) (by decide) hk hF hP1 hD1
    have hP2 : va_P D clM (ow_c ad o u f) H1 := hPj.sub [1, 2, 3, 0] rfl
    have hD2 : va_D A (ow_c ad o u f) := hDj.sub [1, 2, 3, 0] (by decide) rfl
    have e1 : (fB_apply a1 σ).1 = 0 := by rw [← hw]
    have e2 : (fB_apply a1 σ).2.2 = u := by rw [← hw]
    have e3 : (fB_apply a1 σ).2.1 = r := by rw [← hw]
    refine lv_i2l (v := r.toInt64) hx hb dL_apply_7 rfl ?_
    refine va_last (q0 := 3) (t0 := 1) (cA := ad 7) (n := 1) (f := f) (x := r.toInt64) hx hb hK hP2 hD2 hS rfl rfl (fun h9 => h9.elim (by decide) (by decide)) dL_apply_8 (fun H locs hP hD hS => ?_)
    have hP3 : va_P D clM (ow_c ad o u (vp_updL f 0 (r.toInt64))) H := hP
    have hD3 : va_D A (ow_c ad o u (vp_updL f 0 (r.toInt64))) := hD
    refine lv_goto (tgt := 21) hx hb dL_apply_9 (by decide) ?_
    refine lv_iconst (v := 0) hx hb dL_apply_21 (by decide) ?_
    exact W.iret (v := 0) hx hb hr (fun t ht hW => ⟨⟨0, (u, vp_updL f 0 (r.toInt64)), rfl, by rw [fL_apply, if_pos e1, e2, e3], by rw [ht]; exact hP3, va_K.moved hW.alike hK, hD3⟩, hS.F ht⟩) hS.2.2 dL_apply_22
