abbrev nISE : String := "java/lang/IllegalStateException"
abbrev nIAE : String := "java/lang/IllegalArgumentException"
abbrev nUOE : String := "java/lang/UnsupportedOperationException"
abbrev xNs : List String := ["java/lang/RuntimeException", "java/lang/Exception"]
def xB : List Cond := (vx_atS "BitNumbers" 36 nISE xNs).filter (fun w => !goodWord w) ++ ((vx_atS "BitNumbers" 48 nIAE xNs).filter (fun w => !goodWord w) ++ (vx_atS "BitNumbers" 70 nUOE xNs).filter (fun w => !goodWord w))
def xK : Cond → Bool
  | .declares _ => true
  | .castable _ _ => true
  | _ => false
theorem xB_k : xB.all xK = true := by decide +kernel
theorem xB_in : ∀ w ∈ xB, w ∈ lw_tbl := by decide +kernel
def xN (U : State) : Prop := ∀ w ∈ xB, va_Nw w U
theorem xN_warm {s U : State} (hW : s.WarmedH U.vm) (h : xN s) : xN U := by
  intro w hw
  have hk := List.all_eq_true.mp xB_k w hw
  have h1 := h w hw
  cases w with
  | declares x => exact va_Nw.warmD hW h1
  | castable a b => exact va_Nw.warmC hW h1
  | _ => cases hk
theorem xN_of {args : Array Value} {s : State} (h : ∀ w ∈ lw_tbl, w.before args s = true) : xN s := by
  intro w hw
  have hk := List.all_eq_true.mp xB_k w hw
  have h1 := h w (xB_in w hw)
  cases w with
  | declares x => exact va_Nw.of rfl h1
  | castable a b => exact va_Nw.of rfl h1
  | _ => cases hk
theorem xN_use {args : Array Value} {s : State} (h : xN s) : ∀ w ∈ xB, w.before args s = true := by
  intro w hw
  have hk := List.all_eq_true.mp xB_k w hw
  have h1 := h w hw
  cases w with
  | declares x => exact va_Nw.use rfl h1
  | castable a b => exact va_Nw.use rfl h1
  | _ => cases hk
theorem xg36 : ∀ w ∈ (vx_atS "BitNumbers" 36 nISE xNs).filter goodWord, w ∈ aw := by
  have h : ∀ w ∈ (vx_atS "BitNumbers" 36 nISE xNs).filter goodWord, w ∈ lw_tbl := by decide +kernel
  exact fun w hw => List.mem_filter.mpr ⟨h w hw, (List.mem_filter.mp hw).2⟩
theorem xg48 : ∀ w ∈ (vx_atS "BitNumbers" 48 nIAE xNs).filter goodWord, w ∈ aw := by
  have h : ∀ w ∈ (vx_atS "BitNumbers" 48 nIAE xNs).filter goodWord, w ∈ lw_tbl := by decide +kernel
  exact fun w hw => List.mem_filter.mpr ⟨h w hw, (List.mem_filter.mp hw).2⟩
theorem xg70 : ∀ w ∈ (vx_atS "BitNumbers" 70 nUOE xNs).filter goodWord, w ∈ aw := by
  have h : ∀ w ∈ (vx_atS "BitNumbers" 70 nUOE xNs).filter goodWord, w ∈ lw_tbl := by decide +kernel
  exact fun w hw => List.mem_filter.mpr ⟨h w hw, (List.mem_filter.mp hw).2⟩
theorem xat36 {args : Array Value} {s : State} (hts : ∀ w ∈ aw, w.before args s = true) (h : xN s) : ∀ w ∈ vx_atS "BitNumbers" 36 nISE xNs, w.before args s = true :=
  vx_hat (B := xB) (fun w hw => hts w (xg36 w hw)) (fun _ hw => List.mem_append_left _ hw) (xN_use h)
theorem xat48 {args : Array Value} {s : State} (hts : ∀ w ∈ aw, w.before args s = true) (h : xN s) : ∀ w ∈ vx_atS "BitNumbers" 48 nIAE xNs, w.before args s = true :=
  vx_hat (B := xB) (fun w hw => hts w (xg48 w hw)) (fun _ hw => List.mem_append_right _ (List.mem_append_left _ hw)) (xN_use h)
theorem xat70 {args : Array Value} {s : State} (hts : ∀ w ∈ aw, w.before args s = true) (h : xN s) : ∀ w ∈ vx_atS "BitNumbers" 70 nUOE xNs, w.before args s = true :=
  vx_hat (B := xB) (fun w hw => hts w (xg70 w hw)) (fun _ hw => List.mem_append_right _ (List.mem_append_right _ hw)) (xN_use h)
theorem xot36 : ∀ w ∈ Cond.classLink "BitNumbers" 32 nISE :: Cond.initialized nISE :: vx_atS "BitNumbers" 36 nISE xNs, vx_ot w = true := by decide +kernel
theorem xot48 : ∀ w ∈ Cond.classLink "BitNumbers" 44 nIAE :: Cond.initialized nIAE :: vx_atS "BitNumbers" 48 nIAE xNs, vx_ot w = true := by decide +kernel
theorem xot70 : ∀ w ∈ Cond.classLink "BitNumbers" 66 nUOE :: Cond.initialized nUOE :: vx_atS "BitNumbers" 70 nUOE xNs, vx_ot w = true := by decide +kernel
def xw (A : Nat → Prop) (sa : Nat → Nat) (U : State) (H : Heap) : Prop :=
  (vk_R "BitNumbers" 34 "the stack is empty" (sa 0) U ∧ vk_R "BitNumbers" 46 "there is no such operator" (sa 1) U ∧ vk_R "BitNumbers" 60 "the operands are not there" (sa 2) U ∧ vk_R "BitNumbers" 68 "a trap" (sa 3) U) ∧
  (vx_Zq Bundle.tN "UNASSIGNED_STACK" Bundle.steD A U H ∧ vx_Zq Bundle.tN "SUPPRESSED_SENTINEL" Bundle.listD A U H) ∧ xN U
theorem xw.warm {A : Nat → Prop} {sa : Nat → Nat} {s U : State} {H : Heap} (hW : s.WarmedH U.vm) (h : xw A sa s H) : xw A sa U H :=
  ⟨⟨h.1.1.warm hW, h.1.2.1.warm hW, h.1.2.2.1.warm hW, h.1.2.2.2.warm hW⟩, ⟨vx_Zq.moved hW.alike h.2.1.1, vx_Zq.moved hW.alike h.2.1.2⟩, xN_warm hW h.2.2⟩
theorem xw.kept {A : Nat → Prop} {sa : Nat → Nat} {U : State} {H H1 : Heap} (h : xw A sa U H) (hq : ∀ a : Nat, a < H.size → ¬ A a → H1[a]? = H[a]?) : xw A sa U H1 :=
  ⟨h.1, ⟨h.2.1.1.kept hq, h.2.1.2.kept hq⟩, h.2.2⟩
theorem xw.narrow {A B : Nat → Prop} {sa : Nat → Nat} {U : State} {H : Heap} (h : xw A sa U H) (hAB : ∀ q, B q → A q) : xw B sa U H :=
  ⟨h.1, ⟨h.2.1.1.narrow hAB, h.2.1.2.narrow hAB⟩, h.2.2⟩
theorem xw.calling {A : Nat → Prop} {sa : Nat → Nat} {U : State} {H : Heap} (g : JFrame) (mk : MethodId) (a : Array Value) (h : xw A sa U H) : xw A sa (U.calling g mk a) H :=
  ⟨⟨h.1.1.same rfl, h.1.2.1.same rfl, h.1.2.2.1.same rfl, h.1.2.2.2.same rfl⟩, ⟨vx_Zq.moved (u := U) (U := U.calling g mk a) (Vm.Alike.refl U.vm) h.2.1.1, vx_Zq.moved (u := U) (U := U.calling g mk a) (Vm.Alike.refl U.vm) h.2.1.2⟩, fun w hw => by
    have hk := List.all_eq_true.mp xB_k w hw
    have h1 := h.2.2 w hw
    cases w with
    | declares x => exact va_Nw.same rfl (u := U) (U := U.calling g mk a) rfl h1
    | castable c1 c2 => exact va_Nw.same rfl (u := U) (U := U.calling g mk a) rfl h1
    | _ => cases hk⟩
def bx_X (D : va_G) (ad : Nat → Nat) (A : Nat → Prop) (G : String → BS → Prop) : String → State → State → Prop := vx_X (S := String × BS) (fun u => G u.1 u.2) (fun E u t => E = u.1 ∧ bw_E D ad A u.2 t) A
section BX
variable {p : Program} {l : Launch} {e : Env} {R : Room} {s : State} {m : MethodId} {args : Array Value} {below : List Frame} {meth : Method} {c : Code} {H : Heap} {locs : List Loc} {cc : ByteArray} {pc : Nat} {ls : Array Slot} {rest : List Value} {D : va_G} {ad sa : Nat → Nat} {A : Nat → Prop} {σ : BS} {Qc : Array Value → State → Outcome → State → Prop} {G : String → BS → Prop}
theorem bx_throw (hexec : p.tables.exec = Jvm.exec) (hb : c.code = cc) (hl : l.stackTraces = false) {cls text : String} {ik is ic z : Nat} (hown : s.vm.findClass "BitNumbers" = some m.cls) (hcls : Bundle.fit cls = true)
    (hk : (Cond.classLink "BitNumbers" ik cls).before args s = true) (hini : (Cond.initialized cls).before args s = true) (hstr : vk_R "BitNumbers" is text z s) (hat : ∀ w ∈ vx_atS "BitNumbers" ic cls xNs, w.before args s = true)
    (hgood : ∀ w ∈ Cond.classLink "BitNumbers" ik cls :: Cond.initialized cls :: vx_atS "BitNumbers" ic cls xNs, vx_ot w = true) (hX : xw A sa s s.heap) (hK : va_K D clM (tyA ad) s) (hA : ∀ q, s.heap.size ≤ q → A q) (hM : bw D ad A s.heap H locs σ) (hsize : ls.size = c.maxLocals)
    (d0 : decode cc pc = .ok (.new ik, 3)) (d3 : decode cc (pc + 3) = .ok (.dup, 1)) (d4 : decode cc (pc + 4) = .ok (.ldc is, 2)) (d6 : decode cc (pc + 6) = .ok (.invokespecial ic, 3)) (d9 : decode cc (pc + 9) = .ok (.athrow, 1))
    (hout : ∀ x ∈ c.exceptionTable.toList, False) (hRf : 5 < R.frames) (hRl : (rest.map fun v => v.category).sum + 82 ≤ R.locals) (hRc : 1 ≤ R.cells) (hRs : 6 ≤ R.slots) (hlocks : meth.locks = false) (hG : G cls σ) :
    W p l e R s m args below meth c H locs 0 0 (vx_MQ below Qc (bx_X D ad A G) args s 1 6 A) (F0 m pc ls rest) := by
  refine vx_throwS (names := xNs) (A := A) hexec hb hl hown hcls (by decide +kernel) hk hini hstr hat hgood hX.2.1.1 hX.2.1.2 hM.2.2 hsize d0 d3 d4 d6 d9 (fun x h => (hout x h).elim) hRf hRl (by omega) (by omega) hlocks ?_ hM.2.2.2.2 (Nat.le_refl _) (Nat.le_refl _)
  intro t hal hz hq
  refine ⟨(cls, σ), hG, ⟨rfl, ?_, va_K.moved hal hK, hM.2.1⟩, Nat.le_trans hM.2.2.1 hz, fun q h1 h2 => ?_⟩
  · exact hM.1.kept (fun k q hk => hq q.1 ((hM.1 k q hk).lt))
  · rw [hq q (Nat.lt_of_lt_of_le h1 hM.2.2.1)]; exact hM.2.2.2.1 q h1 h2
end BX
