abbrev cB_init : ByteArray := prog_1_method_1_code
def yB_init : MethodName := ⟨"BitNumbers", "<init>", "()V"⟩
def wsB_init : List Cond := .code yB_init cB_init 1 none :: aw
abbrev cM_init : ByteArray := prog_8_method_1_code
def yM_init : MethodName := ⟨"BitNumbersModel", "<init>", "()V"⟩
def wsM_init : List Cond := .code yM_init cM_init 1 none :: aw
abbrev rmB_init : Room := { frames := 1, cells := 2, slots := 128, locals := 20 }
abbrev rmM_init : Room := { frames := 1, cells := 5, slots := 784, locals := 20 }
theorem w_54 : (Cond.methodLink "BitNumbers" 1 (⟨"java/lang/Object", "<init>", "()V"⟩ : MethodName)) ∈ aw := aw_in 54 (by decide +kernel) (by decide +kernel)
theorem w_55 : (Cond.instanceMethod (⟨"java/lang/Object", "<init>", "()V"⟩ : MethodName)) ∈ aw := aw_in 55 (by decide +kernel) (by decide +kernel)
theorem w_486 : (Cond.methodLink "BitNumbersModel" 1 (⟨"java/lang/Object", "<init>", "()V"⟩ : MethodName)) ∈ aw := aw_in 486 (by decide +kernel) (by decide +kernel)
theorem w_70 : (Cond.arrayClass .int) ∈ aw := aw_in 70 (by decide +kernel) (by decide +kernel)
theorem w_71 : (Cond.arrayClass .long) ∈ aw := aw_in 71 (by decide +kernel) (by decide +kernel)
theorem w_56 : (Cond.code Lib.objectInit ⟨#[0xb1]⟩ 1 none) ∈ aw := aw_in 56 (by decide +kernel) (by decide +kernel)
theorem dB_init_0 : decode cB_init 0 = .ok (.aload_n 0, 1) := by decide +kernel
theorem dB_init_1 : decode cB_init 1 = .ok (.invokespecial 1, 3) := by decide +kernel
theorem dB_init_4 : decode cB_init 4 = .ok (.aload_n 0, 1) := by decide +kernel
theorem dB_init_5 : decode cB_init 5 = .ok (.bipush 64, 2) := by decide +kernel
theorem dB_init_7 : decode cB_init 7 = .ok (.newarray .int, 2) := by decide +kernel
theorem dB_init_9 : decode cB_init 9 = .ok (.putfield 9, 3) := by decide +kernel
theorem dB_init_12 : decode cB_init 12 = .ok (.aload_n 0, 1) := by decide +kernel
theorem dB_init_13 : decode cB_init 13 = .ok (.bipush 64, 2) := by decide +kernel
theorem dB_init_15 : decode cB_init 15 = .ok (.newarray .long, 2) := by decide +kernel
theorem dB_init_17 : decode cB_init 17 = .ok (.putfield 13, 3) := by decide +kernel
theorem dB_init_20 : decode cB_init 20 = .ok (.aload_n 0, 1) := by decide +kernel
theorem dB_init_21 : decode cB_init 21 = .ok (.iconst 0, 1) := by decide +kernel
theorem dB_init_22 : decode cB_init 22 = .ok (.putfield 17, 3) := by decide +kernel
theorem dB_init_25 : decode cB_init 25 = .ok (.aload_n 0, 1) := by decide +kernel
theorem dB_init_26 : decode cB_init 26 = .ok (.iconst 0, 1) := by decide +kernel
theorem dB_init_27 : decode cB_init 27 = .ok (.putfield 21, 3) := by decide +kernel
theorem dB_init_30 : decode cB_init 30 = .ok (.return_, 1) := by decide +kernel
theorem dM_init_0 : decode cM_init 0 = .ok (.aload_n 0, 1) := by decide +kernel
theorem dM_init_1 : decode cM_init 1 = .ok (.invokespecial 1, 3) := by decide +kernel
theorem dM_init_4 : decode cM_init 4 = .ok (.aload_n 0, 1) := by decide +kernel
theorem dM_init_5 : decode cM_init 5 = .ok (.bipush 64, 2) := by decide +kernel
theorem dM_init_7 : decode cM_init 7 = .ok (.newarray .int, 2) := by decide +kernel
theorem dM_init_9 : decode cM_init 9 = .ok (.putfield 7, 3) := by decide +kernel
theorem dM_init_12 : decode cM_init 12 = .ok (.aload_n 0, 1) := by decide +kernel
theorem dM_init_13 : decode cM_init 13 = .ok (.bipush 64, 2) := by decide +kernel
theorem dM_init_15 : decode cM_init 15 = .ok (.newarray .long, 2) := by decide +kernel
theorem dM_init_17 : decode cM_init 17 = .ok (.putfield 13, 3) := by decide +kernel
theorem dM_init_20 : decode cM_init 20 = .ok (.aload_n 0, 1) := by decide +kernel
theorem dM_init_21 : decode cM_init 21 = .ok (.sipush 320, 3) := by decide +kernel
theorem dM_init_24 : decode cM_init 24 = .ok (.newarray .int, 2) := by decide +kernel
theorem dM_init_26 : decode cM_init 26 = .ok (.putfield 17, 3) := by decide +kernel
theorem dM_init_29 : decode cM_init 29 = .ok (.aload_n 0, 1) := by decide +kernel
theorem dM_init_30 : decode cM_init 30 = .ok (.sipush 320, 3) := by decide +kernel
theorem dM_init_33 : decode cM_init 33 = .ok (.newarray .int, 2) := by decide +kernel
theorem dM_init_35 : decode cM_init 35 = .ok (.putfield 20, 3) := by decide +kernel
theorem dM_init_38 : decode cM_init 38 = .ok (.aload_n 0, 1) := by decide +kernel
theorem dM_init_39 : decode cM_init 39 = .ok (.bipush 16, 2) := by decide +kernel
theorem dM_init_41 : decode cM_init 41 = .ok (.newarray .int, 2) := by decide +kernel
theorem dM_init_43 : decode cM_init 43 = .ok (.putfield 23, 3) := by decide +kernel
theorem dM_init_46 : decode cM_init 46 = .ok (.return_, 1) := by decide +kernel
theorem cK_int {D : va_G} {cl : List vw_C} {s : State} {cI cL cA : Nat} (h1 : va_K D cl [(cI, .int), (cL, .long)] s) (h2 : va_K D cl ([(cI, .int), (cL, .long)] ++ [(cA, .int)]) s) : cA = cI := by
  have a := (h1.2 0 _ rfl).2
  have b := (h2.2 2 _ rfl).2
  exact Option.some.inj (Eq.trans (Eq.symm (show s.vm.findClass ("[" ++ FieldType.int.toString) = some cA from b)) a)
theorem cK_long {D : va_G} {cl : List vw_C} {s : State} {cI cL cA : Nat} (h1 : va_K D cl [(cI, .int), (cL, .long)] s) (h2 : va_K D cl ([(cI, .int), (cL, .long)] ++ [(cA, .long)]) s) : cA = cL := by
  have a := (h1.2 1 _ rfl).2
  have b := (h2.2 2 _ rfl).2
  exact Option.some.inj (Eq.trans (Eq.symm (show s.vm.findClass ("[" ++ FieldType.long.toString) = some cA from b)) a)
def bs_0 : BS := (0, 0, fun _ => 0, fun _ => 0)
def ms_0 : MS := (0, 0, 0, 0, 0, 0, 0, 0, 0, fun _ => 0, fun _ => 0, fun _ => 0, fun _ => 0, fun _ => 0)
set_option maxHeartbeats 4000000 in
set_option maxRecDepth 100000 in
theorem qB_init (l : Launch) (D : va_G) (cI cL h0 sz : Nat) : Met l yB_init wsB_init rmB_init (va_Pc [.ref h0] (fun U => U.heap.size = sz ∧ va_P D clM [(h0, .inr (0, [.null, .null, .int 0, .int 0]))] U.heap ∧ va_K D clM [(cI, .int), (cL, .long)] U ∧ va_D (fun _ => True) [(h0, .inr (0, [.null, .null, .int 0, .int 0]))])) (va_Qv (fun ad : Nat → Nat => ad 0 = h0 ∧ ad 6 = cI ∧ ad 7 = cL) (fun ad t => bw_E D ad (va_A [(h0, .inr (0, [.null, .null, .int 0, .int 0]))] sz) bs_0 t) (va_A [(h0, .inr (0, [.null, .null, .int 0, .int 0]))] sz)) 2 128 (va_A [(h0, .inr (0, [.null, .null, .int 0, .int 0]))] sz) := by
  refine Met.ofW (cc := cB_init) (maxL := 1) (ret := none) (by decide) rfl ?_
  intro p e s m args below meth c s₁ B hml hv
  obtain ⟨rfl, hsz, hP, hK, hD0⟩ := hv
  have hx := B.exec
  have hb := B.bytes
  have hr := B.returns
  have hts0 := atoms_spec (ws := wsB_init) B.pre
  have hts := fun (w : Cond) (h : w ∈ aw) => hts0 w (List.mem_cons_of_mem _ h)
  have hown : s.vm.findClass "BitNumbers" = some m.cls := findClass_of_methodNamed B.named
  have hlocks := B.notSynchronized
  have hin : meth.name = "<init>" := (name_of_methodNamed B.named B.method).1
  subst hsz
  have hD := hD0.self (sz := s.heap.size)
  generalize hAe : va_A [(h0, .inr (0, [.null, .null, .int 0, .int 0]))] s.heap.size = A at hD ⊢
  have hA : ∀ q : Nat, s.heap.size ≤ q → A q := fun q h => by rw [← hAe]; exact Or.inr h
  have hS : va_S A s.heap s.heap [] := va_S.rf
  have hl := lv_entry ([.ref h0]) (n := 1) (Nat.le_of_ble_eq_true rfl)
  rw [lg_entry_eq]
  generalize (lg_sl ([.ref h0]) ++ List.replicate (1 - (lg_sl ([.ref h0])).length) Slot.unset).toArray = ls at hl ⊢
  have hl : lv_has ls 1 [(0, .ref h0)] := hl
  refine lv_aload_n hx hb dB_init_0 rfl (lv_at hl 0 rfl) ?_
  refine W.objInit hx hb hown (hts _ w_54) (hts _ w_55) (hts _ w_56) rfl (by rw [hml]; exact hl.1) rfl dB_init_1 (Nat.le_of_ble_eq_true rfl) (Nat.le_of_ble_eq_true rfl) ?_
  refine W.eq (g2 := F0 m 4 ls []) rfl ?_
  refine lv_aload_n hx hb dB_init_4 rfl (lv_at hl 0 rfl) ?_
  refine lv_bipush (v := 64) hx hb dB_init_5 (by decide) ?_
  refine va_newa (atype := .int) (a0 := (64, .inl (fun _ => 0))) (ty := .int) hx hb (hts _ w_70) rfl hK hP hD hS hA (fun _ => rfl) (by decide) (N' := 64) (by decide) (by decide) (Nat.le_of_ble_eq_true rfl) (Nat.le_of_ble_eq_true rfl) dB_init_7 (fun q1 cA H hK1 hP hD hS => ?_)
  obtain rfl : cI = cA := (cK_int hK hK1).symm
  clear hK1
  have hP : va_P D clM [(h0, .inr (0, [.null, .null, .int 0, .int 0])), (q1, .inl (cI, 64, .inl (fun _ => 0)))] H := hP
  have hD : va_D A [(h0, .inr (0, [.null, .null, .int 0, .int 0])), (q1, .inl (cI, 64, .inl (fun _ => 0)))] := hD
  refine va_putF (ci := 0) (v := .ref q1) (ty := .array .int) (C := "BitNumbers") (T := TB) (N := 4) hx hb hts inTB tyTB tyTB_ok nmTB hown hK hP hD hS 0 rfl rfl 0 (by decide) (hts _ w_57) (fun x h => h) rfl hin rfl (by decide +kernel) rfl rfl (Nat.le_of_ble_eq_true rfl) dB_init_9 (fun H locs hP hD hS => ?_)
  have hP : va_P D clM [(h0, .inr (0, [.ref q1, .null, .int 0, .int 0])), (q1, .inl (cI, 64, .inl (fun _ => 0)))] H := hP
  have hD : va_D A [(h0, .inr (0, [.ref q1, .null, .int 0, .int 0])), (q1, .inl (cI, 64, .inl (fun _ => 0)))] := hD
  refine lv_aload_n hx hb dB_init_12 rfl (lv_at hl 0 rfl) ?_
  refine lv_bipush (v := 64) hx hb dB_init_13 (by decide) ?_
  refine va_newa (atype := .long) (a0 := (64, .inr (.inl (fun _ => 0)))) (ty := .long) hx hb (hts _ w_71) rfl hK hP hD hS hA (fun _ => rfl) (by decide) (N' := 64) (by decide) (by decide) (Nat.le_of_ble_eq_true rfl) (Nat.le_of_ble_eq_true rfl) dB_init_15 (fun q2 cA H hK1 hP hD hS => ?_)
  obtain rfl : cL = cA := (cK_long hK hK1).symm
  clear hK1
  have hP : va_P D clM [(h0, .inr (0, [.ref q1, .null, .int 0, .int 0])), (q1, .inl (cI, 64, .inl (fun _ => 0))), (q2, .inl (cL, 64, .inr (.inl (fun _ => 0))))] H := hP
  have hD : va_D A [(h0, .inr (0, [.ref q1, .null, .int 0, .int 0])), (q1, .inl (cI, 64, .inl (fun _ => 0))), (q2, .inl (cL, 64, .inr (.inl (fun _ => 0))))] := hD
  refine va_putF (ci := 0) (v := .ref q2) (ty := .array .long) (C := "BitNumbers") (T := TB) (N := 4) hx hb hts inTB tyTB tyTB_ok nmTB hown hK hP hD hS 0 rfl rfl 1 (by decide) (hts _ w_58) (fun x h => h) rfl hin rfl (by decide +kernel) rfl rfl (Nat.le_of_ble_eq_true rfl) dB_init_17 (fun H locs hP hD hS => ?_)
  have hP : va_P D clM [(h0, .inr (0, [.ref q1, .ref q2, .int 0, .int 0])), (q1, .inl (cI, 64, .inl (fun _ => 0))), (q2, .inl (cL, 64, .inr (.inl (fun _ => 0))))] H := hP
  have hD : va_D A [(h0, .inr (0, [.ref q1, .ref q2, .int 0, .int 0])), (q1, .inl (cI, 64, .inl (fun _ => 0))), (q2, .inl (cL, 64, .inr (.inl (fun _ => 0))))] := hD
  refine lv_aload_n hx hb dB_init_20 rfl (lv_at hl 0 rfl) ?_
  refine lv_iconst (v := 0) hx hb dB_init_21 (by decide) ?_
  refine va_put (ci := 0) (v := .int 0) (ty := .int) (C := "BitNumbers") (T := TB) (N := 4) hx hb hts inTB tyTB tyTB_ok nmTB hown hK hP hD hS 0 rfl rfl 2 (by decide) (hts _ w_59) (fun x h => h) rfl (by decide +kernel) rfl rfl (Nat.le_of_ble_eq_true rfl) dB_init_22 (fun H locs hP hD hS => ?_)
  have hP : va_P D clM [(h0, .inr (0, [.ref q1, .ref q2, .int 0, .int 0])), (q1, .inl (cI, 64, .inl (fun _ => 0))), (q2, .inl (cL, 64, .inr (.inl (fun _ => 0))))] H := hP
  have hD : va_D A [(h0, .inr (0, [.ref q1, .ref q2, .int 0, .int 0])), (q1, .inl (cI, 64, .inl (fun _ => 0))), (q2, .inl (cL, 64, .inr (.inl (fun _ => 0))))] := hD
  refine lv_aload_n hx hb dB_init_25 rfl (lv_at hl 0 rfl) ?_
  refine lv_iconst (v := 0) hx hb dB_init_26 (by decide) ?_
  refine va_put (ci := 0) (v := .int 0) (ty := .int) (C := "BitNumbers") (T := TB) (N := 4) hx hb hts inTB tyTB tyTB_ok nmTB hown hK hP hD hS 0 rfl rfl 3 (by decide) (hts _ w_60) (fun x h => h) rfl (by decide +kernel) rfl rfl (Nat.le_of_ble_eq_true rfl) dB_init_27 (fun H locs hP hD hS => ?_)
  have hP : va_P D clM [(h0, .inr (0, [.ref q1, .ref q2, .int 0, .int 0])), (q1, .inl (cI, 64, .inl (fun _ => 0))), (q2, .inl (cL, 64, .inr (.inl (fun _ => 0))))] H := hP
  have hD : va_D A [(h0, .inr (0, [.ref q1, .ref q2, .int 0, .int 0])), (q1, .inl (cI, 64, .inl (fun _ => 0))), (q2, .inl (cL, 64, .inr (.inl (fun _ => 0))))] := hD
  refine W.widen (k := 2) (n := 128) (Nat.le_of_ble_eq_true rfl) (Nat.le_of_ble_eq_true rfl) ?_
  exact W.vret hx hb hr (fun t ht hW => ⟨⟨(fun k => match k with | 0 => h0 | 1 => q1 | 2 => q2 | 6 => cI | _ => cL), rfl, ⟨rfl, rfl, rfl⟩, by rw [ht]; exact hP, va_K.moved hW.alike hK, hD⟩, hS.F ht⟩) hS.2.2 dB_init_30
set_option maxHeartbeats 4000000 in
set_option maxRecDepth 100000 in
theorem qM_init (l : Launch) (D : va_G) (cI cL h0 sz : Nat) : Met l yM_init wsM_init rmM_init (va_Pc [.ref h0] (fun U => U.heap.size = sz ∧ va_P D clM [(h0, .inr (1, [.int 0, .int 0, .int 0, .null, .null, .null, .null, .null, .int 0, .int 0, .int 0, .long 0, .long 0, .int 0]))] U.heap ∧ va_K D clM [(cI, .int), (cL, .long)] U ∧ va_D (fun _ => True) [(h0, .inr (1, [.int 0, .int 0, .int 0, .null, .null, .null, .null, .null, .int 0, .int 0, .int 0, .long 0, .long 0, .int 0]))])) (va_Qv (fun ad : Nat → Nat => ad 0 = h0 ∧ ad 6 = cI ∧ ad 7 = cL) (fun ad t => mw_E D ad (va_A [(h0, .inr (1, [.int 0, .int 0, .int 0, .null, .null, .null, .null, .null, .int 0, .int 0, .int 0, .long 0, .long 0, .int 0]))] sz) ms_0 t) (va_A [(h0, .inr (1, [.int 0, .int 0, .int 0, .null, .null, .null, .null, .null, .int 0, .int 0, .int 0, .long 0, .long 0, .int 0]))] sz)) 5 784 (va_A [(h0, .inr (1, [.int 0, .int 0, .int 0, .null, .null, .null, .null, .null, .int 0, .int 0, .int 0, .long 0, .long 0, .int 0]))] sz) := by
  refine Met.ofW (cc := cM_init) (maxL := 1) (ret := none) (by decide) rfl ?_
  intro p e s m args below meth c s₁ B hml hv
  obtain ⟨rfl, hsz, hP, hK, hD0⟩ := hv
  have hx := B.exec
  have hb := B.bytes
  have hr := B.returns
  have hts0 := atoms_spec (ws := wsM_init) B.pre
  have hts := fun (w : Cond) (h : w ∈ aw) => hts0 w (List.mem_cons_of_mem _ h)
  have hown : s.vm.findClass "BitNumbersModel" = some m.cls := findClass_of_methodNamed B.named
  have hlocks := B.notSynchronized
  have hin : meth.name = "<init>" := (name_of_methodNamed B.named B.method).1
  subst hsz
  have hD := hD0.self (sz := s.heap.size)
  generalize hAe : va_A [(h0, .inr (1, [.int 0, .int 0, .int 0, .null, .null, .null, .null, .null, .int 0, .int 0, .int 0, .long 0, .long 0, .int 0]))] s.heap.size = A at hD ⊢
  have hA : ∀ q : Nat, s.heap.size ≤ q → A q := fun q h => by rw [← hAe]; exact Or.inr h
  have hS : va_S A s.heap s.heap [] := va_S.rf
  have hl := lv_entry ([.ref h0]) (n := 1) (Nat.le_of_ble_eq_true rfl)
  rw [lg_entry_eq]
  generalize (lg_sl ([.ref h0]) ++ List.replicate (1 - (lg_sl ([.ref h0])).length) Slot.unset).toArray = ls at hl ⊢
  have hl : lv_has ls 1 [(0, .ref h0)] := hl
  refine lv_aload_n hx hb dM_init_0 rfl (lv_at hl 0 rfl) ?_
  refine W.objInit hx hb hown (hts _ w_486) (hts _ w_55) (hts _ w_56) rfl (by rw [hml]; exact hl.1) rfl dM_init_1 (Nat.le_of_ble_eq_true rfl) (Nat.le_of_ble_eq_true rfl) ?_
  refine W.eq (g2 := F0 m 4 ls []) rfl ?_
  refine lv_aload_n hx hb dM_init_4 rfl (lv_at hl 0 rfl) ?_
  refine lv_bipush (v := 64) hx hb dM_init_5 (by decide) ?_
  refine va_newa (atype := .int) (a0 := (64, .inl (fun _ => 0))) (ty := .int) hx hb (hts _ w_70) rfl hK hP hD hS hA (fun _ => rfl) (by decide) (N' := 64) (by decide) (by decide) (Nat.le_of_ble_eq_true rfl) (Nat.le_of_ble_eq_true rfl) dM_init_7 (fun q1 cA H hK1 hP hD hS => ?_)
  obtain rfl : cI = cA := (cK_int hK hK1).symm
  clear hK1
  have hP : va_P D clM [(h0, .inr (1, [.int 0, .int 0, .int 0, .null, .null, .null, .null, .null, .int 0, .int 0, .int 0, .long 0, .long 0, .int 0])), (q1, .inl (cI, 64, .inl (fun _ => 0)))] H := hP
  have hD : va_D A [(h0, .inr (1, [.int 0, .int 0, .int 0, .null, .null, .null, .null, .null, .int 0, .int 0, .int 0, .long 0, .long 0, .int 0])), (q1, .inl (cI, 64, .inl (fun _ => 0)))] := hD
  refine va_putF (ci := 1) (v := .ref q1) (ty := .array .int) (C := "BitNumbersModel") (T := TM) (N := 14) hx hb hts inTM tyTM tyTM_ok nmTM hown hK hP hD hS 0 rfl rfl 3 (by decide) (hts _ w_490) (fun x h => h) rfl hin rfl (by decide +kernel) rfl rfl (Nat.le_of_ble_eq_true rfl) dM_init_9 (fun H locs hP hD hS => ?_)
  have hP : va_P D clM [(h0, .inr (1, [.int 0, .int 0, .int 0, .ref q1, .null, .null, .null, .null, .int 0, .int 0, .int 0, .long 0, .long 0, .int 0])), (q1, .inl (cI, 64, .inl (fun _ => 0)))] H := hP
  have hD : va_D A [(h0, .inr (1, [.int 0, .int 0, .int 0, .ref q1, .null, .null, .null, .null, .int 0, .int 0, .int 0, .long 0, .long 0, .int 0])), (q1, .inl (cI, 64, .inl (fun _ => 0)))] := hD
  refine lv_aload_n hx hb dM_init_12 rfl (lv_at hl 0 rfl) ?_
  refine lv_bipush (v := 64) hx hb dM_init_13 (by decide) ?_
  refine va_newa (atype := .long) (a0 := (64, .inr (.inl (fun _ => 0)))) (ty := .long) hx hb (hts _ w_71) rfl hK hP hD hS hA (fun _ => rfl) (by decide) (N' := 64) (by decide) (by decide) (Nat.le_of_ble_eq_true rfl) (Nat.le_of_ble_eq_true rfl) dM_init_15 (fun q2 cA H hK1 hP hD hS => ?_)
  obtain rfl : cL = cA := (cK_long hK hK1).symm
  clear hK1
  have hP : va_P D clM [(h0, .inr (1, [.int 0, .int 0, .int 0, .ref q1, .null, .null, .null, .null, .int 0, .int 0, .int 0, .long 0, .long 0, .int 0])), (q1, .inl (cI, 64, .inl (fun _ => 0))), (q2, .inl (cL, 64, .inr (.inl (fun _ => 0))))] H := hP
  have hD : va_D A [(h0, .inr (1, [.int 0, .int 0, .int 0, .ref q1, .null, .null, .null, .null, .int 0, .int 0, .int 0, .long 0, .long 0, .int 0])), (q1, .inl (cI, 64, .inl (fun _ => 0))), (q2, .inl (cL, 64, .inr (.inl (fun _ => 0))))] := hD
  refine va_putF (ci := 1) (v := .ref q2) (ty := .array .long) (C := "BitNumbersModel") (T := TM) (N := 14) hx hb hts inTM tyTM tyTM_ok nmTM hown hK hP hD hS 0 rfl rfl 4 (by decide) (hts _ w_491) (fun x h => h) rfl hin rfl (by decide +kernel) rfl rfl (Nat.le_of_ble_eq_true rfl) dM_init_17 (fun H locs hP hD hS => ?_)
  have hP : va_P D clM [(h0, .inr (1, [.int 0, .int 0, .int 0, .ref q1, .ref q2, .null, .null, .null, .int 0, .int 0, .int 0, .long 0, .long 0, .int 0])), (q1, .inl (cI, 64, .inl (fun _ => 0))), (q2, .inl (cL, 64, .inr (.inl (fun _ => 0))))] H := hP
  have hD : va_D A [(h0, .inr (1, [.int 0, .int 0, .int 0, .ref q1, .ref q2, .null, .null, .null, .int 0, .int 0, .int 0, .long 0, .long 0, .int 0])), (q1, .inl (cI, 64, .inl (fun _ => 0))), (q2, .inl (cL, 64, .inr (.inl (fun _ => 0))))] := hD
  refine lv_aload_n hx hb dM_init_20 rfl (lv_at hl 0 rfl) ?_
  refine lv_sipush (v := 320) hx hb dM_init_21 (by decide) ?_
  refine va_newa (atype := .int) (a0 := (320, .inl (fun _ => 0))) (ty := .int) hx hb (hts _ w_70) rfl hK hP hD hS hA (fun _ => rfl) (by decide) (N' := 320) (by decide) (by decide) (Nat.le_of_ble_eq_true rfl) (Nat.le_of_ble_eq_true rfl) dM_init_24 (fun q3 cA H hK1 hP hD hS => ?_)
  obtain rfl : cI = cA := (cK_int hK hK1).symm
  clear hK1
  have hP : va_P D clM [(h0, .inr (1, [.int 0, .int 0, .int 0, .ref q1, .ref q2, .null, .null, .null, .int 0, .int 0, .int 0, .long 0, .long 0, .int 0])), (q1, .inl (cI, 64, .inl (fun _ => 0))), (q2, .inl (cL, 64, .inr (.inl (fun _ => 0)))), (q3, .inl (cI, 320, .inl (fun _ => 0)))] H := hP
  have hD : va_D A [(h0, .inr (1, [.int 0, .int 0, .int 0, .ref q1, .ref q2, .null, .null, .null, .int 0, .int 0, .int 0, .long 0, .long 0, .int 0])), (q1, .inl (cI, 64, .inl (fun _ => 0))), (q2, .inl (cL, 64, .inr (.inl (fun _ => 0)))), (q3, .inl (cI, 320, .inl (fun _ => 0)))] := hD
  refine va_putF (ci := 1) (v := .ref q3) (ty := .array .int) (C := "BitNumbersModel") (T := TM) (N := 14) hx hb hts inTM tyTM tyTM_ok nmTM hown hK hP hD hS 0 rfl rfl 5 (by decide) (hts _ w_492) (fun x h => h) rfl hin rfl (by decide +kernel) rfl rfl (Nat.le_of_ble_eq_true rfl) dM_init_26 (fun H locs hP hD hS => ?_)
  have hP : va_P D clM [(h0, .inr (1, [.int 0, .int 0, .int 0, .ref q1, .ref q2, .ref q3, .null, .null, .int 0, .int 0, .int 0, .long 0, .long 0, .int 0])), (q1, .inl (cI, 64, .inl (fun _ => 0))), (q2, .inl (cL, 64, .inr (.inl (fun _ => 0)))), (q3, .inl (cI, 320, .inl (fun _ => 0)))] H := hP
  have hD : va_D A [(h0, .inr (1, [.int 0, .int 0, .int 0, .ref q1, .ref q2, .ref q3, .null, .null, .int 0, .int 0, .int 0, .long 0, .long 0, .int 0])), (q1, .inl (cI, 64, .inl (fun _ => 0))), (q2, .inl (cL, 64, .inr (.inl (fun _ => 0)))), (q3, .inl (cI, 320, .inl (fun _ => 0)))] := hD
  refine lv_aload_n hx hb dM_init_29 rfl (lv_at hl 0 rfl) ?_
  refine lv_sipush (v := 320) hx hb dM_init_30 (by decide) ?_
  refine va_newa (atype := .int) (a0 := (320, .inl (fun _ => 0))) (ty := .int) hx hb (hts _ w_70) rfl hK hP hD hS hA (fun _ => rfl) (by decide) (N' := 320) (by decide) (by decide) (Nat.le_of_ble_eq_true rfl) (Nat.le_of_ble_eq_true rfl) dM_init_33 (fun q4 cA H hK1 hP hD hS => ?_)
  obtain rfl : cI = cA := (cK_int hK hK1).symm
  clear hK1
  have hP : va_P D clM [(h0, .inr (1, [.int 0, .int 0, .int 0, .ref q1, .ref q2, .ref q3, .null, .null, .int 0, .int 0, .int 0, .long 0, .long 0, .int 0])), (q1, .inl (cI, 64, .inl (fun _ => 0))), (q2, .inl (cL, 64, .inr (.inl (fun _ => 0)))), (q3, .inl (cI, 320, .inl (fun _ => 0))), (q4, .inl (cI, 320, .inl (fun _ => 0)))] H := hP
  have hD : va_D A [(h0, .inr (1, [.int 0, .int 0, .int 0, .ref q1, .ref q2, .ref q3, .null, .null, .int 0, .int 0, .int 0, .long 0, .long 0, .int 0])), (q1, .inl (cI, 64, .inl (fun _ => 0))), (q2, .inl (cL, 64, .inr (.inl (fun _ => 0)))), (q3, .inl (cI, 320, .inl (fun _ => 0))), (q4, .inl (cI, 320, .inl (fun _ => 0)))] := hD
  refine va_putF (ci := 1) (v := .ref q4) (ty := .array .int) (C := "BitNumbersModel") (T := TM) (N := 14) hx hb hts inTM tyTM tyTM_ok nmTM hown hK hP hD hS 0 rfl rfl 6 (by decide) (hts _ w_493) (fun x h => h) rfl hin rfl (by decide +kernel) rfl rfl (Nat.le_of_ble_eq_true rfl) dM_init_35 (fun H locs hP hD hS => ?_)
  have hP : va_P D clM [(h0, .inr (1, [.int 0, .int 0, .int 0, .ref q1, .ref q2, .ref q3, .ref q4, .null, .int 0, .int 0, .int 0, .long 0, .long 0, .int 0])), (q1, .inl (cI, 64, .inl (fun _ => 0))), (q2, .inl (cL, 64, .inr (.inl (fun _ => 0)))), (q3, .inl (cI, 320, .inl (fun _ => 0))), (q4, .inl (cI, 320, .inl (fun _ => 0)))] H := hP
  have hD : va_D A [(h0, .inr (1, [.int 0, .int 0, .int 0, .ref q1, .ref q2, .ref q3, .ref q4, .null, .int 0, .int 0, .int 0, .long 0, .long 0, .int 0])), (q1, .inl (cI, 64, .inl (fun _ => 0))), (q2, .inl (cL, 64, .inr (.inl (fun _ => 0)))), (q3, .inl (cI, 320, .inl (fun _ => 0))), (q4, .inl (cI, 320, .inl (fun _ => 0)))] := hD
  refine lv_aload_n hx hb dM_init_38 rfl (lv_at hl 0 rfl) ?_
  refine lv_bipush (v := 16) hx hb dM_init_39 (by decide) ?_
  refine va_newa (atype := .int) (a0 := (16, .inl (fun _ => 0))) (ty := .int) hx hb (hts _ w_70) rfl hK hP hD hS hA (fun _ => rfl) (by decide) (N' := 16) (by decide) (by decide) (Nat.le_of_ble_eq_true rfl) (Nat.le_of_ble_eq_true rfl) dM_init_41 (fun q5 cA H hK1 hP hD hS => ?_)
  obtain rfl : cI = cA := (cK_int hK hK1).symm
  clear hK1
  have hP : va_P D clM [(h0, .inr (1, [.int 0, .int 0, .int 0, .ref q1, .ref q2, .ref q3, .ref q4, .null, .int 0, .int 0, .int 0, .long 0, .long 0, .int 0])), (q1, .inl (cI, 64, .inl (fun _ => 0))), (q2, .inl (cL, 64, .inr (.inl (fun _ => 0)))), (q3, .inl (cI, 320, .inl (fun _ => 0))), (q4, .inl (cI, 320, .inl (fun _ => 0))), (q5, .inl (cI, 16, .inl (fun _ => 0)))] H := hP
  have hD : va_D A [(h0, .inr (1, [.int 0, .int 0, .int 0, .ref q1, .ref q2, .ref q3, .ref q4, .null, .int 0, .int 0, .int 0, .long 0, .long 0, .int 0])), (q1, .inl (cI, 64, .inl (fun _ => 0))), (q2, .inl (cL, 64, .inr (.inl (fun _ => 0)))), (q3, .inl (cI, 320, .inl (fun _ => 0))), (q4, .inl (cI, 320, .inl (fun _ => 0))), (q5, .inl (cI, 16, .inl (fun _ => 0)))] := hD
  refine va_putF (ci := 1) (v := .ref q5) (ty := .array .int) (C := "BitNumbersModel") (T := TM) (N := 14) hx hb hts inTM tyTM tyTM_ok nmTM hown hK hP hD hS 0 rfl rfl 7 (by decide) (hts _ w_494) (fun x h => h) rfl hin rfl (by decide +kernel) rfl rfl (Nat.le_of_ble_eq_true rfl) dM_init_43 (fun H locs hP hD hS => ?_)
  have hP : va_P D clM [(h0, .inr (1, [.int 0, .int 0, .int 0, .ref q1, .ref q2, .ref q3, .ref q4, .ref q5, .int 0, .int 0, .int 0, .long 0, .long 0, .int 0])), (q1, .inl (cI, 64, .inl (fun _ => 0))), (q2, .inl (cL, 64, .inr (.inl (fun _ => 0)))), (q3, .inl (cI, 320, .inl (fun _ => 0))), (q4, .inl (cI, 320, .inl (fun _ => 0))), (q5, .inl (cI, 16, .inl (fun _ => 0)))] H := hP
  have hD : va_D A [(h0, .inr (1, [.int 0, .int 0, .int 0, .ref q1, .ref q2, .ref q3, .ref q4, .ref q5, .int 0, .int 0, .int 0, .long 0, .long 0, .int 0])), (q1, .inl (cI, 64, .inl (fun _ => 0))), (q2, .inl (cL, 64, .inr (.inl (fun _ => 0)))), (q3, .inl (cI, 320, .inl (fun _ => 0))), (q4, .inl (cI, 320, .inl (fun _ => 0))), (q5, .inl (cI, 16, .inl (fun _ => 0)))] := hD
  refine W.widen (k := 5) (n := 784) (Nat.le_of_ble_eq_true rfl) (Nat.le_of_ble_eq_true rfl) ?_
  exact W.vret hx hb hr (fun t ht hW => ⟨⟨(fun k => match k with | 0 => h0 | 1 => q1 | 2 => q2 | 3 => q3 | 4 => q4 | 5 => q5 | 6 => cI | _ => cL), rfl, ⟨rfl, rfl, rfl⟩, by rw [ht]; exact hP, va_K.moved hW.alike hK, hD⟩, hS.F ht⟩) hS.2.2 dM_init_46
