def xnm : Nat → String
  | 1 => nIAE
  | 2 => nISE
  | _ => nUOE
def xrel {α : Type} (F : Nat × α × BS) (E : String) (u : BS) : Prop := ∃ (k : Nat) (r : α), 0 < k ∧ F = (k, r, u) ∧ E = xnm k
def bw_BX (D : va_G) (ad ed td sa : Nat → Nat) (σ : BS) (sz : Nat) : State → Prop := fun U => bw_B D ad ed td σ sz U ∧ xw (va_A (bw_c ad σ) sz) sa U U.heap
theorem bw_preVX {s : State} {H : Heap} {locs : List Loc} {As : List Value} {D : va_G} {ad ed td sa : Nat → Nat} {A : Nat → Prop} {σ : BS} (hK : va_K D clM (tyA ad) s) (hM : bw D ad A s.heap H locs σ) (hA : ∀ q, s.heap.size ≤ q → A q) (hG : pw_G A ed td s s.heap) (hX : xw A sa s s.heap) : PreV s H "BitNumbers" (ad 0) (va_Pc (.ref (ad 0) :: As) (bw_BX D ad ed td sa σ H.size)) As := by
  have hF := va_free (wc := bw_c ad σ) hM.2.1 hM.2.2 hA [0, 1, 2] rfl
  obtain ⟨h1, h2, h3⟩ := bw_preV (As := As) hK hM hA hG
  refine ⟨fun a U g mk q => ?_, h2, fun U hU hW => ?_⟩
  · have w := h1 a U g mk ⟨q.1, q.2.1⟩
    exact ⟨w.1, w.2, xw.calling g mk a q.2.2⟩
  · have w := h3 U hU hW
    exact ⟨w.1, w.2, by rw [hU]; exact ((hX.kept hM.2.2.2.1).warm hW).narrow hF⟩
abbrev cB_pop : ByteArray := prog_1_method_3_code
def yB_pop : MethodName := ⟨"BitNumbers", "pop", "()J"⟩
def wsB_pop : List Cond := .code yB_pop cB_pop 1 (some .long) :: aw
abbrev cB_apply : ByteArray := prog_1_method_4_code
def yB_apply : MethodName := ⟨"BitNumbers", "apply", "(I)I"⟩
def wsB_apply : List Cond := .code yB_apply cB_apply 7 (some .int) :: aw
abbrev rmB_pop : Room := { frames := 6, cells := 1, slots := 6, locals := 90 }
abbrev rmB_apply : Room := { frames := 7, cells := 1, slots := 6, locals := 190 }
theorem w_3 : (Cond.selects "BitNumbers" yB_areOnTop yB_areOnTop) ∈ aw := aw_in 3 (by decide +kernel) (by decide +kernel)
theorem w_39 : (Cond.initialized "java/lang/IllegalStateException") ∈ aw := aw_in 39 (by decide +kernel) (by decide +kernel)
theorem w_41 : (Cond.initialized "java/lang/IllegalArgumentException") ∈ aw := aw_in 41 (by decide +kernel) (by decide +kernel)
theorem w_47 : (Cond.initialized "java/lang/UnsupportedOperationException") ∈ aw := aw_in 47 (by decide +kernel) (by decide +kernel)
theorem w_183 : (Cond.classLink "BitNumbers" 32 "java/lang/IllegalStateException") ∈ aw := aw_in 183 (by decide +kernel) (by decide +kernel)
theorem w_260 : (Cond.classLink "BitNumbers" 44 "java/lang/IllegalArgumentException") ∈ aw := aw_in 260 (by decide +kernel) (by decide +kernel)
theorem w_276 : (Cond.methodLink "BitNumbers" 56 yB_areOnTop) ∈ aw := aw_in 276 (by decide +kernel) (by decide +kernel)
theorem w_278 : (Cond.instanceMethod yB_areOnTop) ∈ aw := aw_in 278 (by decide +kernel) (by decide +kernel)
theorem w_279 : (Cond.code yB_areOnTop cB_areOnTop 4 (some .boolean)) ∈ aw := aw_in 279 (by decide +kernel) (by decide +kernel)
theorem w_281 : (Cond.methodLink "BitNumbers" 62 yOperators_trapOf) ∈ aw := aw_in 281 (by decide +kernel) (by decide +kernel)
theorem w_282 : (Cond.static yOperators_trapOf) ∈ aw := aw_in 282 (by decide +kernel) (by decide +kernel)
theorem w_283 : (Cond.code yOperators_trapOf cOperators_trapOf 7 (some .int)) ∈ aw := aw_in 283 (by decide +kernel) (by decide +kernel)
theorem w_349 : (Cond.classLink "BitNumbers" 66 "java/lang/UnsupportedOperationException") ∈ aw := aw_in 349 (by decide +kernel) (by decide +kernel)
theorem w_365 : (Cond.methodLink "BitNumbers" 74 yOperators_result) ∈ aw := aw_in 365 (by decide +kernel) (by decide +kernel)
theorem w_366 : (Cond.static yOperators_result) ∈ aw := aw_in 366 (by decide +kernel) (by decide +kernel)
theorem w_367 : (Cond.code yOperators_result cOperators_result 8 (some .long)) ∈ aw := aw_in 367 (by decide +kernel) (by decide +kernel)
theorem dB_pop_0 : decode cB_pop 0 = .ok (.aload_n 0, 1) := by decide +kernel
theorem dB_pop_1 : decode cB_pop 1 = .ok (.iconst 0, 1) := by decide +kernel
theorem dB_pop_2 : decode cB_pop 2 = .ok (.invokevirtual 28, 3) := by decide +kernel
theorem dB_pop_5 : decode cB_pop 5 = .ok (.ifCond .ne 13, 3) := by decide +kernel
theorem dB_pop_8 : decode cB_pop 8 = .ok (.new 32, 3) := by decide +kernel
theorem dB_pop_11 : decode cB_pop 11 = .ok (.dup, 1) := by decide +kernel
theorem dB_pop_12 : decode cB_pop 12 = .ok (.ldc 34, 2) := by decide +kernel
theorem dB_pop_14 : decode cB_pop 14 = .ok (.invokespecial 36, 3) := by decide +kernel
theorem dB_pop_17 : decode cB_pop 17 = .ok (.athrow, 1) := by decide +kernel
theorem dB_pop_18 : decode cB_pop 18 = .ok (.aload_n 0, 1) := by decide +kernel
theorem dB_pop_19 : decode cB_pop 19 = .ok (.dup, 1) := by decide +kernel
theorem dB_pop_20 : decode cB_pop 20 = .ok (.getfield 17, 3) := by decide +kernel
theorem dB_pop_23 : decode cB_pop 23 = .ok (.iconst 1, 1) := by decide +kernel
theorem dB_pop_24 : decode cB_pop 24 = .ok (.isub, 1) := by decide +kernel
theorem dB_pop_25 : decode cB_pop 25 = .ok (.putfield 17, 3) := by decide +kernel
theorem dB_pop_28 : decode cB_pop 28 = .ok (.aload_n 0, 1) := by decide +kernel
theorem dB_pop_29 : decode cB_pop 29 = .ok (.getfield 13, 3) := by decide +kernel
theorem dB_pop_32 : decode cB_pop 32 = .ok (.aload_n 0, 1) := by decide +kernel
theorem dB_pop_33 : decode cB_pop 33 = .ok (.getfield 17, 3) := by decide +kernel
theorem dB_pop_36 : decode cB_pop 36 = .ok (.laload, 1) := by decide +kernel
theorem dB_pop_37 : decode cB_pop 37 = .ok (.lreturn, 1) := by decide +kernel
theorem dB_apply_0 : decode cB_apply 0 = .ok (.aload_n 0, 1) := by decide +kernel
theorem dB_apply_1 : decode cB_apply 1 = .ok (.iconst 0, 1) := by decide +kernel
theorem dB_apply_2 : decode cB_apply 2 = .ok (.putfield 21, 3) := by decide +kernel
theorem dB_apply_5 : decode cB_apply 5 = .ok (.iload_n 1, 1) := by decide +kernel
theorem dB_apply_6 : decode cB_apply 6 = .ok (.invokestatic 39, 3) := by decide +kernel
theorem dB_apply_9 : decode cB_apply 9 = .ok (.ifCond .ne 13, 3) := by decide +kernel
theorem dB_apply_12 : decode cB_apply 12 = .ok (.new 44, 3) := by decide +kernel
theorem dB_apply_15 : decode cB_apply 15 = .ok (.dup, 1) := by decide +kernel
theorem dB_apply_16 : decode cB_apply 16 = .ok (.ldc 46, 2) := by decide +kernel
theorem dB_apply_18 : decode cB_apply 18 = .ok (.invokespecial 48, 3) := by decide +kernel
theorem dB_apply_21 : decode cB_apply 21 = .ok (.athrow, 1) := by decide +kernel
theorem dB_apply_22 : decode cB_apply 22 = .ok (.iload_n 1, 1) := by decide +kernel
theorem dB_apply_23 : decode cB_apply 23 = .ok (.invokestatic 49, 3) := by decide +kernel
theorem dB_apply_26 : decode cB_apply 26 = .ok (.istore_n 2, 1) := by decide +kernel
theorem dB_apply_27 : decode cB_apply 27 = .ok (.aload_n 0, 1) := by decide +kernel
theorem dB_apply_28 : decode cB_apply 28 = .ok (.iload_n 2, 1) := by decide +kernel
theorem dB_apply_29 : decode cB_apply 29 = .ok (.iload_n 1, 1) := by decide +kernel
theorem dB_apply_30 : decode cB_apply 30 = .ok (.invokestatic 53, 3) := by decide +kernel
theorem dB_apply_33 : decode cB_apply 33 = .ok (.invokevirtual 56, 3) := by decide +kernel
theorem dB_apply_36 : decode cB_apply 36 = .ok (.ifCond .ne 13, 3) := by decide +kernel
theorem dB_apply_39 : decode cB_apply 39 = .ok (.new 32, 3) := by decide +kernel
theorem dB_apply_42 : decode cB_apply 42 = .ok (.dup, 1) := by decide +kernel
theorem dB_apply_43 : decode cB_apply 43 = .ok (.ldc 60, 2) := by decide +kernel
theorem dB_apply_45 : decode cB_apply 45 = .ok (.invokespecial 36, 3) := by decide +kernel
theorem dB_apply_48 : decode cB_apply 48 = .ok (.athrow, 1) := by decide +kernel
theorem dB_apply_49 : decode cB_apply 49 = .ok (.aload_n 0, 1) := by decide +kernel
theorem dB_apply_50 : decode cB_apply 50 = .ok (.getfield 13, 3) := by decide +kernel
theorem dB_apply_53 : decode cB_apply 53 = .ok (.aload_n 0, 1) := by decide +kernel
theorem dB_apply_54 : decode cB_apply 54 = .ok (.getfield 17, 3) := by decide +kernel
theorem dB_apply_57 : decode cB_apply 57 = .ok (.iload_n 2, 1) := by decide +kernel
theorem dB_apply_58 : decode cB_apply 58 = .ok (.isub, 1) := by decide +kernel
theorem dB_apply_59 : decode cB_apply 59 = .ok (.laload, 1) := by decide +kernel
theorem dB_apply_60 : decode cB_apply 60 = .ok (.lstore_n 3, 1) := by decide +kernel
theorem dB_apply_61 : decode cB_apply 61 = .ok (.aload_n 0, 1) := by decide +kernel
theorem dB_apply_62 : decode cB_apply 62 = .ok (.getfield 13, 3) := by decide +kernel
theorem dB_apply_65 : decode cB_apply 65 = .ok (.aload_n 0, 1) := by decide +kernel
theorem dB_apply_66 : decode cB_apply 66 = .ok (.getfield 17, 3) := by decide +kernel
theorem dB_apply_69 : decode cB_apply 69 = .ok (.iconst 1, 1) := by decide +kernel
theorem dB_apply_70 : decode cB_apply 70 = .ok (.isub, 1) := by decide +kernel
theorem dB_apply_71 : decode cB_apply 71 = .ok (.laload, 1) := by decide +kernel
theorem dB_apply_72 : decode cB_apply 72 = .ok (.lstore 5, 2) := by decide +kernel
theorem dB_apply_74 : decode cB_apply 74 = .ok (.aload_n 0, 1) := by decide +kernel
theorem dB_apply_75 : decode cB_apply 75 = .ok (.iload_n 1, 1) := by decide +kernel
theorem dB_apply_76 : decode cB_apply 76 = .ok (.lload_n 3, 1) := by decide +kernel
theorem dB_apply_77 : decode cB_apply 77 = .ok (.lload 5, 2) := by decide +kernel
theorem dB_apply_79 : decode cB_apply 79 = .ok (.invokestatic 62, 3) := by decide +kernel
theorem dB_apply_82 : decode cB_apply 82 = .ok (.putfield 21, 3) := by decide +kernel
theorem dB_apply_85 : decode cB_apply 85 = .ok (.aload_n 0, 1) := by decide +kernel
theorem dB_apply_86 : decode cB_apply 86 = .ok (.getfield 21, 3) := by decide +kernel
theorem dB_apply_89 : decode cB_apply 89 = .ok (.ifCond .eq 13, 3) := by decide +kernel
theorem dB_apply_92 : decode cB_apply 92 = .ok (.new 66, 3) := by decide +kernel
theorem dB_apply_95 : decode cB_apply 95 = .ok (.dup, 1) := by decide +kernel
theorem dB_apply_96 : decode cB_apply 96 = .ok (.ldc 68, 2) := by decide +kernel
theorem dB_apply_98 : decode cB_apply 98 = .ok (.invokespecial 70, 3) := by decide +kernel
theorem dB_apply_101 : decode cB_apply 101 = .ok (.athrow, 1) := by decide +kernel
theorem dB_apply_102 : decode cB_apply 102 = .ok (.aload_n 0, 1) := by decide +kernel
theorem dB_apply_103 : decode cB_apply 103 = .ok (.dup, 1) := by decide +kernel
theorem dB_apply_104 : decode cB_apply 104 = .ok (.getfield 17, 3) := by decide +kernel
theorem dB_apply_107 : decode cB_apply 107 = .ok (.iload_n 2, 1) := by decide +kernel
theorem dB_apply_108 : decode cB_apply 108 = .ok (.isub, 1) := by decide +kernel
theorem dB_apply_109 : decode cB_apply 109 = .ok (.putfield 17, 3) := by decide +kernel
theorem dB_apply_112 : decode cB_apply 112 = .ok (.aload_n 0, 1) := by decide +kernel
theorem dB_apply_113 : decode cB_apply 113 = .ok (.iload_n 1, 1) := by decide +kernel
theorem dB_apply_114 : decode cB_apply 114 = .ok (.invokestatic 71, 3) := by decide +kernel
theorem dB_apply_117 : decode cB_apply 117 = .ok (.iload_n 1, 1) := by decide +kernel
theorem dB_apply_118 : decode cB_apply 118 = .ok (.lload_n 3, 1) := by decide +kernel
theorem dB_apply_119 : decode cB_apply 119 = .ok (.lload 5, 2) := by decide +kernel
theorem dB_apply_121 : decode cB_apply 121 = .ok (.invokestatic 74, 3) := by decide +kernel
theorem dB_apply_124 : decode cB_apply 124 = .ok (.invokevirtual 24, 3) := by decide +kernel
theorem dB_apply_127 : decode cB_apply 127 = .ok (.pop, 1) := by decide +kernel
theorem dB_apply_128 : decode cB_apply 128 = .ok (.iload_n 1, 1) := by decide +kernel
theorem dB_apply_129 : decode cB_apply 129 = .ok (.invokestatic 71, 3) := by decide +kernel
theorem dB_apply_132 : decode cB_apply 132 = .ok (.ireturn, 1) := by decide +kernel
