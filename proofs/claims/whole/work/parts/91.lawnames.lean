def R_law : String := "BitNumbersLaw"
def lw_P (b : Addr) (xs : List Int32) (args : Array Value) (s : State) : Prop := args = #[.ref b] ∧ s.IntsAt b xs ∧ xs.length ≤ 2048 ∧ (Jvm.Cond.and given_1 narrow_1).before args s = true
def lw_Q (_ : Array Value) (s : State) (o : Outcome) (t : State) : Prop := o = .returned (some (.int 1)) ∧ Framed s o t [] 1038 9147
def lw_Z (below : List Frame) (a : Array Value) (s : State) : State → Prop := fun t => ∃ o, t.status = .running ∧ Ended t below o ∧ lw_Q a s o t
theorem lw_ret {p : Program} {l : Launch} {e : Env} {s : State} {m : MethodId} {below : List Frame} {meth : Method} {c : Code} {b : Nat} (hx : p.tables.exec = Jvm.exec) (hb : c.code = code) (hr : meth.sig.returnType = ret) (hlocks : meth.locks = false) {pc : Nat} {H : Heap} {ls : Array Slot} (hdg : decode code pc = .ok (.ireturn, 1)) : W p l e room_1 s m #[Value.ref b] below meth c H [] 1038 9147 (lw_Z below #[Value.ref b] s) (F0 m pc ls [.int 1]) := by
  intro T hT X
  obtain ⟨fs, hret, hrun, hended, hW, hframe⟩ := X.leave (v := some (.int 1)) (hlocks := hlocks) (fun h => by rw [hr] at h; cases h)
  have hmeth' : T.vm.method? m = some meth := X.method'
  refine ⟨T.setFrames fs, ?_, .returned (some (.int 1)), hrun, hended, rfl, ⟨_, rfl⟩, hW, hframe⟩
  jvm_step X.here [X.here.top, hx, hb, hdg, hmeth', hr, ret, narrow_b1]
  (try refine ⟨rfl, ?_⟩); (try refine ⟨rfl, ?_⟩)
  first | (intro acts; rw [hret _ acts rfl rfl rfl]) | rw [hret _ _ rfl rfl rfl]
  exact Steps.refl _
def lw_At (p : Program) (s : State) (m : MethodId) (meth : Method) (c : Code) (b L : Nat) (xs : Nat → Int32) : Prop :=
  p.tables.exec = Jvm.exec ∧ c.code = code ∧ meth.sig.returnType = ret ∧ c.maxLocals = 8 ∧ s.vm.findClass R_law = some m.cls ∧ (∀ w ∈ lw_tbl, w.before #[Value.ref b] s = true) ∧ va_X b L xs s s.heap ∧ b < s.heap.size ∧ meth.locks = false ∧ (Jvm.Cond.and given_1 narrow_1).before #[Value.ref b] s = true
abbrev cL_law : ByteArray := code
theorem w_32 : (Cond.initialized "BitNumbersLaw") ∈ aw := aw_in 32 (by decide +kernel) (by decide +kernel)
theorem w_72 : (Cond.methodLink "BitNumbersLaw" 29 yB_push) ∈ aw := aw_in 72 (by decide +kernel) (by decide +kernel)
theorem w_73 : (Cond.instanceMethod yB_push) ∈ aw := aw_in 73 (by decide +kernel) (by decide +kernel)
theorem w_74 : (Cond.selects "BitNumbers" yB_push yB_push) ∈ aw := aw_in 74 (by decide +kernel) (by decide +kernel)
theorem w_75 : (Cond.code yB_push cB_push 4 (some .int)) ∈ aw := aw_in 75 (by decide +kernel) (by decide +kernel)
theorem w_84 : (Cond.methodLink "BitNumbersLaw" 48 yB_trap) ∈ aw := aw_in 84 (by decide +kernel) (by decide +kernel)
theorem w_85 : (Cond.instanceMethod yB_trap) ∈ aw := aw_in 85 (by decide +kernel) (by decide +kernel)
theorem w_86 : (Cond.selects "BitNumbers" yB_trap yB_trap) ∈ aw := aw_in 86 (by decide +kernel) (by decide +kernel)
theorem w_87 : (Cond.code yB_trap cB_trap 1 (some .int)) ∈ aw := aw_in 87 (by decide +kernel) (by decide +kernel)
theorem w_88 : (Cond.methodLink "BitNumbersLaw" 52 yB_operator) ∈ aw := aw_in 88 (by decide +kernel) (by decide +kernel)
theorem w_89 : (Cond.instanceMethod yB_operator) ∈ aw := aw_in 89 (by decide +kernel) (by decide +kernel)
theorem w_90 : (Cond.selects "BitNumbers" yB_operator yB_operator) ∈ aw := aw_in 90 (by decide +kernel) (by decide +kernel)
theorem w_91 : (Cond.code yB_operator cB_operator 3 (some .int)) ∈ aw := aw_in 91 (by decide +kernel) (by decide +kernel)
theorem w_118 : (Cond.methodLink "BitNumbersLaw" 57 yB_type) ∈ aw := aw_in 118 (by decide +kernel) (by decide +kernel)
theorem w_119 : (Cond.instanceMethod yB_type) ∈ aw := aw_in 119 (by decide +kernel) (by decide +kernel)
theorem w_120 : (Cond.selects "BitNumbers" yB_type yB_type) ∈ aw := aw_in 120 (by decide +kernel) (by decide +kernel)
theorem w_121 : (Cond.code yB_type cB_type 2 (some .int)) ∈ aw := aw_in 121 (by decide +kernel) (by decide +kernel)
theorem w_126 : (Cond.methodLink "BitNumbersLaw" 61 yB_bits) ∈ aw := aw_in 126 (by decide +kernel) (by decide +kernel)
theorem w_127 : (Cond.instanceMethod yB_bits) ∈ aw := aw_in 127 (by decide +kernel) (by decide +kernel)
theorem w_128 : (Cond.selects "BitNumbers" yB_bits yB_bits) ∈ aw := aw_in 128 (by decide +kernel) (by decide +kernel)
theorem w_129 : (Cond.code yB_bits cB_bits 2 (some .long)) ∈ aw := aw_in 129 (by decide +kernel) (by decide +kernel)
theorem w_130 : (Cond.methodLink "BitNumbersLaw" 66 yB_parts) ∈ aw := aw_in 130 (by decide +kernel) (by decide +kernel)
theorem w_131 : (Cond.instanceMethod yB_parts) ∈ aw := aw_in 131 (by decide +kernel) (by decide +kernel)
theorem w_132 : (Cond.selects "BitNumbers" yB_parts yB_parts) ∈ aw := aw_in 132 (by decide +kernel) (by decide +kernel)
theorem w_133 : (Cond.code yB_parts cB_parts 6 (some .int)) ∈ aw := aw_in 133 (by decide +kernel) (by decide +kernel)
theorem w_167 : (Cond.methodLink "BitNumbersLaw" 70 yB_copy) ∈ aw := aw_in 167 (by decide +kernel) (by decide +kernel)
theorem w_168 : (Cond.instanceMethod yB_copy) ∈ aw := aw_in 168 (by decide +kernel) (by decide +kernel)
theorem w_169 : (Cond.selects "BitNumbers" yB_copy yB_copy) ∈ aw := aw_in 169 (by decide +kernel) (by decide +kernel)
theorem w_170 : (Cond.code yB_copy cB_copy 2 (some .int)) ∈ aw := aw_in 170 (by decide +kernel) (by decide +kernel)
theorem w_171 : (Cond.methodLink "BitNumbersLaw" 74 yB_clear) ∈ aw := aw_in 171 (by decide +kernel) (by decide +kernel)
theorem w_172 : (Cond.instanceMethod yB_clear) ∈ aw := aw_in 172 (by decide +kernel) (by decide +kernel)
theorem w_173 : (Cond.selects "BitNumbers" yB_clear yB_clear) ∈ aw := aw_in 173 (by decide +kernel) (by decide +kernel)
theorem w_174 : (Cond.code yB_clear cB_clear 2 (some .int)) ∈ aw := aw_in 174 (by decide +kernel) (by decide +kernel)
theorem w_175 : (Cond.methodLink "BitNumbersLaw" 34 yL_pop) ∈ aw := aw_in 175 (by decide +kernel) (by decide +kernel)
theorem w_176 : (Cond.static yL_pop) ∈ aw := aw_in 176 (by decide +kernel) (by decide +kernel)
theorem w_251 : (Cond.methodLink "BitNumbersLaw" 44 yL_apply) ∈ aw := aw_in 251 (by decide +kernel) (by decide +kernel)
theorem w_252 : (Cond.static yL_apply) ∈ aw := aw_in 252 (by decide +kernel) (by decide +kernel)
theorem w_530 : (Cond.methodLink "BitNumbersLaw" 40 yM_thrown) ∈ aw := aw_in 530 (by decide +kernel) (by decide +kernel)
theorem w_531 : (Cond.instanceMethod yM_thrown) ∈ aw := aw_in 531 (by decide +kernel) (by decide +kernel)
theorem w_532 : (Cond.selects "BitNumbersModel" yM_thrown yM_thrown) ∈ aw := aw_in 532 (by decide +kernel) (by decide +kernel)
theorem w_533 : (Cond.code yM_thrown cM_thrown 1 (some .int)) ∈ aw := aw_in 533 (by decide +kernel) (by decide +kernel)
theorem w_534 : (Cond.methodLink "BitNumbersLaw" 33 yM_push) ∈ aw := aw_in 534 (by decide +kernel) (by decide +kernel)
theorem w_535 : (Cond.instanceMethod yM_push) ∈ aw := aw_in 535 (by decide +kernel) (by decide +kernel)
theorem w_536 : (Cond.selects "BitNumbersModel" yM_push yM_push) ∈ aw := aw_in 536 (by decide +kernel) (by decide +kernel)
theorem w_537 : (Cond.code yM_push cM_push 4 (some .int)) ∈ aw := aw_in 537 (by decide +kernel) (by decide +kernel)
theorem w_542 : (Cond.methodLink "BitNumbersLaw" 39 yM_pop) ∈ aw := aw_in 542 (by decide +kernel) (by decide +kernel)
theorem w_543 : (Cond.instanceMethod yM_pop) ∈ aw := aw_in 543 (by decide +kernel) (by decide +kernel)
theorem w_544 : (Cond.selects "BitNumbersModel" yM_pop yM_pop) ∈ aw := aw_in 544 (by decide +kernel) (by decide +kernel)
theorem w_545 : (Cond.code yM_pop cM_pop 1 (some .long)) ∈ aw := aw_in 545 (by decide +kernel) (by decide +kernel)
theorem w_546 : (Cond.methodLink "BitNumbersLaw" 47 yM_apply) ∈ aw := aw_in 546 (by decide +kernel) (by decide +kernel)
theorem w_547 : (Cond.instanceMethod yM_apply) ∈ aw := aw_in 547 (by decide +kernel) (by decide +kernel)
theorem w_548 : (Cond.selects "BitNumbersModel" yM_apply yM_apply) ∈ aw := aw_in 548 (by decide +kernel) (by decide +kernel)
theorem w_549 : (Cond.code yM_apply cM_apply 12 (some .int)) ∈ aw := aw_in 549 (by decide +kernel) (by decide +kernel)
theorem w_774 : (Cond.methodLink "BitNumbersLaw" 51 yM_trap) ∈ aw := aw_in 774 (by decide +kernel) (by decide +kernel)
theorem w_775 : (Cond.instanceMethod yM_trap) ∈ aw := aw_in 775 (by decide +kernel) (by decide +kernel)
theorem w_776 : (Cond.selects "BitNumbersModel" yM_trap yM_trap) ∈ aw := aw_in 776 (by decide +kernel) (by decide +kernel)
theorem w_777 : (Cond.code yM_trap cM_trap 1 (some .int)) ∈ aw := aw_in 777 (by decide +kernel) (by decide +kernel)
theorem w_778 : (Cond.methodLink "BitNumbersLaw" 56 yM_operator) ∈ aw := aw_in 778 (by decide +kernel) (by decide +kernel)
theorem w_779 : (Cond.instanceMethod yM_operator) ∈ aw := aw_in 779 (by decide +kernel) (by decide +kernel)
theorem w_780 : (Cond.selects "BitNumbersModel" yM_operator yM_operator) ∈ aw := aw_in 780 (by decide +kernel) (by decide +kernel)
theorem w_781 : (Cond.code yM_operator cM_operator 4 (some .int)) ∈ aw := aw_in 781 (by decide +kernel) (by decide +kernel)
theorem w_782 : (Cond.methodLink "BitNumbersLaw" 60 yM_type) ∈ aw := aw_in 782 (by decide +kernel) (by decide +kernel)
theorem w_783 : (Cond.instanceMethod yM_type) ∈ aw := aw_in 783 (by decide +kernel) (by decide +kernel)
theorem w_784 : (Cond.selects "BitNumbersModel" yM_type yM_type) ∈ aw := aw_in 784 (by decide +kernel) (by decide +kernel)
theorem w_785 : (Cond.code yM_type cM_type 2 (some .int)) ∈ aw := aw_in 785 (by decide +kernel) (by decide +kernel)
theorem w_790 : (Cond.methodLink "BitNumbersLaw" 65 yM_bits) ∈ aw := aw_in 790 (by decide +kernel) (by decide +kernel)
theorem w_791 : (Cond.instanceMethod yM_bits) ∈ aw := aw_in 791 (by decide +kernel) (by decide +kernel)
theorem w_792 : (Cond.selects "BitNumbersModel" yM_bits yM_bits) ∈ aw := aw_in 792 (by decide +kernel) (by decide +kernel)
theorem w_793 : (Cond.code yM_bits cM_bits 2 (some .long)) ∈ aw := aw_in 793 (by decide +kernel) (by decide +kernel)
theorem w_794 : (Cond.methodLink "BitNumbersLaw" 69 yM_parts) ∈ aw := aw_in 794 (by decide +kernel) (by decide +kernel)
theorem w_795 : (Cond.instanceMethod yM_parts) ∈ aw := aw_in 795 (by decide +kernel) (by decide +kernel)
theorem w_796 : (Cond.selects "BitNumbersModel" yM_parts yM_parts) ∈ aw := aw_in 796 (by decide +kernel) (by decide +kernel)
theorem w_797 : (Cond.code yM_parts cM_parts 6 (some .int)) ∈ aw := aw_in 797 (by decide +kernel) (by decide +kernel)
theorem w_798 : (Cond.methodLink "BitNumbersLaw" 73 yM_copy) ∈ aw := aw_in 798 (by decide +kernel) (by decide +kernel)
theorem w_799 : (Cond.instanceMethod yM_copy) ∈ aw := aw_in 799 (by decide +kernel) (by decide +kernel)
theorem w_800 : (Cond.selects "BitNumbersModel" yM_copy yM_copy) ∈ aw := aw_in 800 (by decide +kernel) (by decide +kernel)
theorem w_801 : (Cond.code yM_copy cM_copy 2 (some .int)) ∈ aw := aw_in 801 (by decide +kernel) (by decide +kernel)
theorem w_802 : (Cond.methodLink "BitNumbersLaw" 77 yM_clear) ∈ aw := aw_in 802 (by decide +kernel) (by decide +kernel)
theorem w_803 : (Cond.instanceMethod yM_clear) ∈ aw := aw_in 803 (by decide +kernel) (by decide +kernel)
theorem w_804 : (Cond.selects "BitNumbersModel" yM_clear yM_clear) ∈ aw := aw_in 804 (by decide +kernel) (by decide +kernel)
theorem w_805 : (Cond.code yM_clear cM_clear 2 (some .int)) ∈ aw := aw_in 805 (by decide +kernel) (by decide +kernel)
theorem w_806 : (Cond.constantLong "BitNumbersLaw" 27 4294967295) ∈ aw := aw_in 806 (by decide +kernel) (by decide +kernel)
theorem dL_law_0 : decode cL_law 0 = .ok (.new 8, 3) := by decide +kernel
theorem dL_law_3 : decode cL_law 3 = .ok (.dup, 1) := by decide +kernel
theorem dL_law_4 : decode cL_law 4 = .ok (.invokespecial 23, 3) := by decide +kernel
theorem dL_law_7 : decode cL_law 7 = .ok (.astore_n 1, 1) := by decide +kernel
theorem dL_law_8 : decode cL_law 8 = .ok (.new 24, 3) := by decide +kernel
theorem dL_law_11 : decode cL_law 11 = .ok (.dup, 1) := by decide +kernel
theorem dL_law_12 : decode cL_law 12 = .ok (.invokespecial 26, 3) := by decide +kernel
theorem dL_law_15 : decode cL_law 15 = .ok (.astore_n 2, 1) := by decide +kernel
theorem dL_law_16 : decode cL_law 16 = .ok (.iconst 1, 1) := by decide +kernel
theorem dL_law_17 : decode cL_law 17 = .ok (.newarray .long, 2) := by decide +kernel
theorem dL_law_19 : decode cL_law 19 = .ok (.astore_n 3, 1) := by decide +kernel
theorem dL_law_20 : decode cL_law 20 = .ok (.iconst 0, 1) := by decide +kernel
theorem dL_law_21 : decode cL_law 21 = .ok (.istore 4, 2) := by decide +kernel
theorem dL_law_23 : decode cL_law 23 = .ok (.iload 4, 2) := by decide +kernel
theorem dL_law_25 : decode cL_law 25 = .ok (.aload_n 0, 1) := by decide +kernel
theorem dL_law_26 : decode cL_law 26 = .ok (.arraylength, 1) := by decide +kernel
theorem dL_law_27 : decode cL_law 27 = .ok (.iconst 4, 1) := by decide +kernel
theorem dL_law_28 : decode cL_law 28 = .ok (.isub, 1) := by decide +kernel
theorem dL_law_29 : decode cL_law 29 = .ok (.if_icmp .gt 413, 3) := by decide +kernel
theorem dL_law_32 : decode cL_law 32 = .ok (.aload_n 0, 1) := by decide +kernel
theorem dL_law_33 : decode cL_law 33 = .ok (.iload 4, 2) := by decide +kernel
theorem dL_law_35 : decode cL_law 35 = .ok (.iaload, 1) := by decide +kernel
theorem dL_law_36 : decode cL_law 36 = .ok (.bipush 15, 2) := by decide +kernel
theorem dL_law_38 : decode cL_law 38 = .ok (.iand, 1) := by decide +kernel
theorem dL_law_39 : decode cL_law 39 = .ok (.tableswitch 397 0 9 #[53, 122, 165, 221, 234, 271, 296, 322, 359, 384], 53) := by decide +kernel
theorem dL_law_92 : decode cL_law 92 = .ok (.aload_n 1, 1) := by decide +kernel
theorem dL_law_93 : decode cL_law 93 = .ok (.aload_n 0, 1) := by decide +kernel
theorem dL_law_94 : decode cL_law 94 = .ok (.iload 4, 2) := by decide +kernel
theorem dL_law_96 : decode cL_law 96 = .ok (.iconst 1, 1) := by decide +kernel
theorem dL_law_97 : decode cL_law 97 = .ok (.iadd, 1) := by decide +kernel
theorem dL_law_98 : decode cL_law 98 = .ok (.iaload, 1) := by decide +kernel
theorem dL_law_99 : decode cL_law 99 = .ok (.aload_n 0, 1) := by decide +kernel
theorem dL_law_100 : decode cL_law 100 = .ok (.iload 4, 2) := by decide +kernel
theorem dL_law_102 : decode cL_law 102 = .ok (.iconst 2, 1) := by decide +kernel
theorem dL_law_103 : decode cL_law 103 = .ok (.iadd, 1) := by decide +kernel
theorem dL_law_104 : decode cL_law 104 = .ok (.iaload, 1) := by decide +kernel
theorem dL_law_105 : decode cL_law 105 = .ok (.i2l, 1) := by decide +kernel
theorem dL_law_106 : decode cL_law 106 = .ok (.bipush 32, 2) := by decide +kernel
theorem dL_law_108 : decode cL_law 108 = .ok (.lshl, 1) := by decide +kernel
theorem dL_law_109 : decode cL_law 109 = .ok (.aload_n 0, 1) := by decide +kernel
theorem dL_law_110 : decode cL_law 110 = .ok (.iload 4, 2) := by decide +kernel
theorem dL_law_112 : decode cL_law 112 = .ok (.iconst 3, 1) := by decide +kernel
theorem dL_law_113 : decode cL_law 113 = .ok (.iadd, 1) := by decide +kernel
theorem dL_law_114 : decode cL_law 114 = .ok (.iaload, 1) := by decide +kernel
theorem dL_law_115 : decode cL_law 115 = .ok (.i2l, 1) := by decide +kernel
theorem dL_law_116 : decode cL_law 116 = .ok (.ldc2_w 27, 3) := by decide +kernel
theorem dL_law_119 : decode cL_law 119 = .ok (.land, 1) := by decide +kernel
theorem dL_law_120 : decode cL_law 120 = .ok (.lor, 1) := by decide +kernel
theorem dL_law_121 : decode cL_law 121 = .ok (.invokevirtual 29, 3) := by decide +kernel
theorem dL_law_124 : decode cL_law 124 = .ok (.aload_n 2, 1) := by decide +kernel
theorem dL_law_125 : decode cL_law 125 = .ok (.aload_n 0, 1) := by decide +kernel
theorem dL_law_126 : decode cL_law 126 = .ok (.iload 4, 2) := by decide +kernel
theorem dL_law_128 : decode cL_law 128 = .ok (.iconst 1, 1) := by decide +kernel
theorem dL_law_129 : decode cL_law 129 = .ok (.iadd, 1) := by decide +kernel
theorem dL_law_130 : decode cL_law 130 = .ok (.iaload, 1) := by decide +kernel
theorem dL_law_131 : decode cL_law 131 = .ok (.aload_n 0, 1) := by decide +kernel
theorem dL_law_132 : decode cL_law 132 = .ok (.iload 4, 2) := by decide +kernel
theorem dL_law_134 : decode cL_law 134 = .ok (.iconst 2, 1) := by decide +kernel
theorem dL_law_135 : decode cL_law 135 = .ok (.iadd, 1) := by decide +kernel
theorem dL_law_136 : decode cL_law 136 = .ok (.iaload, 1) := by decide +kernel
theorem dL_law_137 : decode cL_law 137 = .ok (.i2l, 1) := by decide +kernel
theorem dL_law_138 : decode cL_law 138 = .ok (.bipush 32, 2) := by decide +kernel
theorem dL_law_140 : decode cL_law 140 = .ok (.lshl, 1) := by decide +kernel
theorem dL_law_141 : decode cL_law 141 = .ok (.aload_n 0, 1) := by decide +kernel
theorem dL_law_142 : decode cL_law 142 = .ok (.iload 4, 2) := by decide +kernel
theorem dL_law_144 : decode cL_law 144 = .ok (.iconst 3, 1) := by decide +kernel
theorem dL_law_145 : decode cL_law 145 = .ok (.iadd, 1) := by decide +kernel
theorem dL_law_146 : decode cL_law 146 = .ok (.iaload, 1) := by decide +kernel
theorem dL_law_147 : decode cL_law 147 = .ok (.i2l, 1) := by decide +kernel
theorem dL_law_148 : decode cL_law 148 = .ok (.ldc2_w 27, 3) := by decide +kernel
theorem dL_law_151 : decode cL_law 151 = .ok (.land, 1) := by decide +kernel
theorem dL_law_152 : decode cL_law 152 = .ok (.lor, 1) := by decide +kernel
theorem dL_law_153 : decode cL_law 153 = .ok (.invokevirtual 33, 3) := by decide +kernel
theorem dL_law_156 : decode cL_law 156 = .ok (.if_icmp .eq 280, 3) := by decide +kernel
theorem dL_law_159 : decode cL_law 159 = .ok (.iconst 0, 1) := by decide +kernel
theorem dL_law_160 : decode cL_law 160 = .ok (.ireturn, 1) := by decide +kernel
theorem dL_law_161 : decode cL_law 161 = .ok (.aload_n 1, 1) := by decide +kernel
theorem dL_law_162 : decode cL_law 162 = .ok (.aload_n 3, 1) := by decide +kernel
theorem dL_law_163 : decode cL_law 163 = .ok (.invokestatic 34, 3) := by decide +kernel
theorem dL_law_166 : decode cL_law 166 = .ok (.istore 5, 2) := by decide +kernel
theorem dL_law_168 : decode cL_law 168 = .ok (.aload_n 2, 1) := by decide +kernel
theorem dL_law_169 : decode cL_law 169 = .ok (.invokevirtual 39, 3) := by decide +kernel
theorem dL_law_172 : decode cL_law 172 = .ok (.lstore 6, 2) := by decide +kernel
theorem dL_law_174 : decode cL_law 174 = .ok (.aload_n 2, 1) := by decide +kernel
theorem dL_law_175 : decode cL_law 175 = .ok (.invokevirtual 40, 3) := by decide +kernel
theorem dL_law_178 : decode cL_law 178 = .ok (.iload 5, 2) := by decide +kernel
theorem dL_law_180 : decode cL_law 180 = .ok (.if_icmp .eq 5, 3) := by decide +kernel
theorem dL_law_183 : decode cL_law 183 = .ok (.iconst 0, 1) := by decide +kernel
theorem dL_law_184 : decode cL_law 184 = .ok (.ireturn, 1) := by decide +kernel
theorem dL_law_185 : decode cL_law 185 = .ok (.iload 5, 2) := by decide +kernel
theorem dL_law_187 : decode cL_law 187 = .ok (.ifCond .ne 14, 3) := by decide +kernel
theorem dL_law_190 : decode cL_law 190 = .ok (.aload_n 3, 1) := by decide +kernel
theorem dL_law_191 : decode cL_law 191 = .ok (.iconst 0, 1) := by decide +kernel
theorem dL_law_192 : decode cL_law 192 = .ok (.laload, 1) := by decide +kernel
theorem dL_law_193 : decode cL_law 193 = .ok (.lload 6, 2) := by decide +kernel
theorem dL_law_195 : decode cL_law 195 = .ok (.lcmp, 1) := by decide +kernel
theorem dL_law_196 : decode cL_law 196 = .ok (.ifCond .eq 5, 3) := by decide +kernel
theorem dL_law_199 : decode cL_law 199 = .ok (.iconst 0, 1) := by decide +kernel
theorem dL_law_200 : decode cL_law 200 = .ok (.ireturn, 1) := by decide +kernel
theorem dL_law_201 : decode cL_law 201 = .ok (.goto 235, 3) := by decide +kernel
theorem dL_law_204 : decode cL_law 204 = .ok (.aload_n 1, 1) := by decide +kernel
theorem dL_law_205 : decode cL_law 205 = .ok (.aload_n 0, 1) := by decide +kernel
theorem dL_law_206 : decode cL_law 206 = .ok (.iload 4, 2) := by decide +kernel
theorem dL_law_208 : decode cL_law 208 = .ok (.iconst 1, 1) := by decide +kernel
theorem dL_law_209 : decode cL_law 209 = .ok (.iadd, 1) := by decide +kernel
theorem dL_law_210 : decode cL_law 210 = .ok (.iaload, 1) := by decide +kernel
theorem dL_law_211 : decode cL_law 211 = .ok (.aload_n 3, 1) := by decide +kernel
theorem dL_law_212 : decode cL_law 212 = .ok (.invokestatic 44, 3) := by decide +kernel
theorem dL_law_215 : decode cL_law 215 = .ok (.istore 5, 2) := by decide +kernel
theorem dL_law_217 : decode cL_law 217 = .ok (.aload_n 2, 1) := by decide +kernel
theorem dL_law_218 : decode cL_law 218 = .ok (.aload_n 0, 1) := by decide +kernel
theorem dL_law_219 : decode cL_law 219 = .ok (.iload 4, 2) := by decide +kernel
theorem dL_law_221 : decode cL_law 221 = .ok (.iconst 1, 1) := by decide +kernel
theorem dL_law_222 : decode cL_law 222 = .ok (.iadd, 1) := by decide +kernel
theorem dL_law_223 : decode cL_law 223 = .ok (.iaload, 1) := by decide +kernel
theorem dL_law_224 : decode cL_law 224 = .ok (.invokevirtual 47, 3) := by decide +kernel
theorem dL_law_227 : decode cL_law 227 = .ok (.istore 6, 2) := by decide +kernel
theorem dL_law_229 : decode cL_law 229 = .ok (.aload_n 2, 1) := by decide +kernel
theorem dL_law_230 : decode cL_law 230 = .ok (.invokevirtual 40, 3) := by decide +kernel
theorem dL_law_233 : decode cL_law 233 = .ok (.iload 5, 2) := by decide +kernel
theorem dL_law_235 : decode cL_law 235 = .ok (.if_icmp .eq 5, 3) := by decide +kernel
theorem dL_law_238 : decode cL_law 238 = .ok (.iconst 0, 1) := by decide +kernel
theorem dL_law_239 : decode cL_law 239 = .ok (.ireturn, 1) := by decide +kernel
theorem dL_law_240 : decode cL_law 240 = .ok (.iload 5, 2) := by decide +kernel
theorem dL_law_242 : decode cL_law 242 = .ok (.ifCond .ne 15, 3) := by decide +kernel
theorem dL_law_245 : decode cL_law 245 = .ok (.aload_n 3, 1) := by decide +kernel
theorem dL_law_246 : decode cL_law 246 = .ok (.iconst 0, 1) := by decide +kernel
theorem dL_law_247 : decode cL_law 247 = .ok (.laload, 1) := by decide +kernel
theorem dL_law_248 : decode cL_law 248 = .ok (.iload 6, 2) := by decide +kernel
theorem dL_law_250 : decode cL_law 250 = .ok (.i2l, 1) := by decide +kernel
theorem dL_law_251 : decode cL_law 251 = .ok (.lcmp, 1) := by decide +kernel
theorem dL_law_252 : decode cL_law 252 = .ok (.ifCond .eq 5, 3) := by decide +kernel
theorem dL_law_255 : decode cL_law 255 = .ok (.iconst 0, 1) := by decide +kernel
theorem dL_law_256 : decode cL_law 256 = .ok (.ireturn, 1) := by decide +kernel
theorem dL_law_257 : decode cL_law 257 = .ok (.goto 179, 3) := by decide +kernel
theorem dL_law_260 : decode cL_law 260 = .ok (.aload_n 1, 1) := by decide +kernel
theorem dL_law_261 : decode cL_law 261 = .ok (.invokevirtual 48, 3) := by decide +kernel
theorem dL_law_264 : decode cL_law 264 = .ok (.aload_n 2, 1) := by decide +kernel
theorem dL_law_265 : decode cL_law 265 = .ok (.invokevirtual 51, 3) := by decide +kernel
theorem dL_law_268 : decode cL_law 268 = .ok (.if_icmp .eq 168, 3) := by decide +kernel
theorem dL_law_271 : decode cL_law 271 = .ok (.iconst 0, 1) := by decide +kernel
theorem dL_law_272 : decode cL_law 272 = .ok (.ireturn, 1) := by decide +kernel
theorem dL_law_273 : decode cL_law 273 = .ok (.aload_n 1, 1) := by decide +kernel
theorem dL_law_274 : decode cL_law 274 = .ok (.aload_n 0, 1) := by decide +kernel
theorem dL_law_275 : decode cL_law 275 = .ok (.iload 4, 2) := by decide +kernel
theorem dL_law_277 : decode cL_law 277 = .ok (.iconst 1, 1) := by decide +kernel
theorem dL_law_278 : decode cL_law 278 = .ok (.iadd, 1) := by decide +kernel
theorem dL_law_279 : decode cL_law 279 = .ok (.iaload, 1) := by decide +kernel
theorem dL_law_280 : decode cL_law 280 = .ok (.aload_n 0, 1) := by decide +kernel
theorem dL_law_281 : decode cL_law 281 = .ok (.iload 4, 2) := by decide +kernel
theorem dL_law_283 : decode cL_law 283 = .ok (.iconst 2, 1) := by decide +kernel
theorem dL_law_284 : decode cL_law 284 = .ok (.iadd, 1) := by decide +kernel
theorem dL_law_285 : decode cL_law 285 = .ok (.iaload, 1) := by decide +kernel
theorem dL_law_286 : decode cL_law 286 = .ok (.invokevirtual 52, 3) := by decide +kernel
theorem dL_law_289 : decode cL_law 289 = .ok (.aload_n 2, 1) := by decide +kernel
theorem dL_law_290 : decode cL_law 290 = .ok (.aload_n 0, 1) := by decide +kernel
theorem dL_law_291 : decode cL_law 291 = .ok (.iload 4, 2) := by decide +kernel
theorem dL_law_293 : decode cL_law 293 = .ok (.iconst 1, 1) := by decide +kernel
theorem dL_law_294 : decode cL_law 294 = .ok (.iadd, 1) := by decide +kernel
theorem dL_law_295 : decode cL_law 295 = .ok (.iaload, 1) := by decide +kernel
theorem dL_law_296 : decode cL_law 296 = .ok (.aload_n 0, 1) := by decide +kernel
theorem dL_law_297 : decode cL_law 297 = .ok (.iload 4, 2) := by decide +kernel
theorem dL_law_299 : decode cL_law 299 = .ok (.iconst 2, 1) := by decide +kernel
theorem dL_law_300 : decode cL_law 300 = .ok (.iadd, 1) := by decide +kernel
theorem dL_law_301 : decode cL_law 301 = .ok (.iaload, 1) := by decide +kernel
theorem dL_law_302 : decode cL_law 302 = .ok (.invokevirtual 56, 3) := by decide +kernel
theorem dL_law_305 : decode cL_law 305 = .ok (.if_icmp .eq 131, 3) := by decide +kernel
theorem dL_law_308 : decode cL_law 308 = .ok (.iconst 0, 1) := by decide +kernel
theorem dL_law_309 : decode cL_law 309 = .ok (.ireturn, 1) := by decide +kernel
theorem dL_law_310 : decode cL_law 310 = .ok (.aload_n 1, 1) := by decide +kernel
theorem dL_law_311 : decode cL_law 311 = .ok (.aload_n 0, 1) := by decide +kernel
theorem dL_law_312 : decode cL_law 312 = .ok (.iload 4, 2) := by decide +kernel
theorem dL_law_314 : decode cL_law 314 = .ok (.iconst 1, 1) := by decide +kernel
theorem dL_law_315 : decode cL_law 315 = .ok (.iadd, 1) := by decide +kernel
theorem dL_law_316 : decode cL_law 316 = .ok (.iaload, 1) := by decide +kernel
theorem dL_law_317 : decode cL_law 317 = .ok (.invokevirtual 57, 3) := by decide +kernel
theorem dL_law_320 : decode cL_law 320 = .ok (.aload_n 2, 1) := by decide +kernel
theorem dL_law_321 : decode cL_law 321 = .ok (.aload_n 0, 1) := by decide +kernel
theorem dL_law_322 : decode cL_law 322 = .ok (.iload 4, 2) := by decide +kernel
theorem dL_law_324 : decode cL_law 324 = .ok (.iconst 1, 1) := by decide +kernel
theorem dL_law_325 : decode cL_law 325 = .ok (.iadd, 1) := by decide +kernel
theorem dL_law_326 : decode cL_law 326 = .ok (.iaload, 1) := by decide +kernel
theorem dL_law_327 : decode cL_law 327 = .ok (.invokevirtual 60, 3) := by decide +kernel
theorem dL_law_330 : decode cL_law 330 = .ok (.if_icmp .eq 106, 3) := by decide +kernel
theorem dL_law_333 : decode cL_law 333 = .ok (.iconst 0, 1) := by decide +kernel
theorem dL_law_334 : decode cL_law 334 = .ok (.ireturn, 1) := by decide +kernel
theorem dL_law_335 : decode cL_law 335 = .ok (.aload_n 1, 1) := by decide +kernel
theorem dL_law_336 : decode cL_law 336 = .ok (.aload_n 0, 1) := by decide +kernel
theorem dL_law_337 : decode cL_law 337 = .ok (.iload 4, 2) := by decide +kernel
theorem dL_law_339 : decode cL_law 339 = .ok (.iconst 1, 1) := by decide +kernel
theorem dL_law_340 : decode cL_law 340 = .ok (.iadd, 1) := by decide +kernel
theorem dL_law_341 : decode cL_law 341 = .ok (.iaload, 1) := by decide +kernel
theorem dL_law_342 : decode cL_law 342 = .ok (.invokevirtual 61, 3) := by decide +kernel
theorem dL_law_345 : decode cL_law 345 = .ok (.aload_n 2, 1) := by decide +kernel
theorem dL_law_346 : decode cL_law 346 = .ok (.aload_n 0, 1) := by decide +kernel
theorem dL_law_347 : decode cL_law 347 = .ok (.iload 4, 2) := by decide +kernel
theorem dL_law_349 : decode cL_law 349 = .ok (.iconst 1, 1) := by decide +kernel
theorem dL_law_350 : decode cL_law 350 = .ok (.iadd, 1) := by decide +kernel
theorem dL_law_351 : decode cL_law 351 = .ok (.iaload, 1) := by decide +kernel
theorem dL_law_352 : decode cL_law 352 = .ok (.invokevirtual 65, 3) := by decide +kernel
theorem dL_law_355 : decode cL_law 355 = .ok (.lcmp, 1) := by decide +kernel
theorem dL_law_356 : decode cL_law 356 = .ok (.ifCond .eq 80, 3) := by decide +kernel
theorem dL_law_359 : decode cL_law 359 = .ok (.iconst 0, 1) := by decide +kernel
theorem dL_law_360 : decode cL_law 360 = .ok (.ireturn, 1) := by decide +kernel
theorem dL_law_361 : decode cL_law 361 = .ok (.aload_n 1, 1) := by decide +kernel
theorem dL_law_362 : decode cL_law 362 = .ok (.aload_n 0, 1) := by decide +kernel
theorem dL_law_363 : decode cL_law 363 = .ok (.iload 4, 2) := by decide +kernel
theorem dL_law_365 : decode cL_law 365 = .ok (.iconst 1, 1) := by decide +kernel
theorem dL_law_366 : decode cL_law 366 = .ok (.iadd, 1) := by decide +kernel
theorem dL_law_367 : decode cL_law 367 = .ok (.iaload, 1) := by decide +kernel
theorem dL_law_368 : decode cL_law 368 = .ok (.aload_n 0, 1) := by decide +kernel
theorem dL_law_369 : decode cL_law 369 = .ok (.iload 4, 2) := by decide +kernel
theorem dL_law_371 : decode cL_law 371 = .ok (.iconst 2, 1) := by decide +kernel
theorem dL_law_372 : decode cL_law 372 = .ok (.iadd, 1) := by decide +kernel
theorem dL_law_373 : decode cL_law 373 = .ok (.iaload, 1) := by decide +kernel
theorem dL_law_374 : decode cL_law 374 = .ok (.invokevirtual 66, 3) := by decide +kernel
theorem dL_law_377 : decode cL_law 377 = .ok (.aload_n 2, 1) := by decide +kernel
theorem dL_law_378 : decode cL_law 378 = .ok (.aload_n 0, 1) := by decide +kernel
theorem dL_law_379 : decode cL_law 379 = .ok (.iload 4, 2) := by decide +kernel
theorem dL_law_381 : decode cL_law 381 = .ok (.iconst 1, 1) := by decide +kernel
theorem dL_law_382 : decode cL_law 382 = .ok (.iadd, 1) := by decide +kernel
theorem dL_law_383 : decode cL_law 383 = .ok (.iaload, 1) := by decide +kernel
theorem dL_law_384 : decode cL_law 384 = .ok (.aload_n 0, 1) := by decide +kernel
theorem dL_law_385 : decode cL_law 385 = .ok (.iload 4, 2) := by decide +kernel
theorem dL_law_387 : decode cL_law 387 = .ok (.iconst 2, 1) := by decide +kernel
theorem dL_law_388 : decode cL_law 388 = .ok (.iadd, 1) := by decide +kernel
theorem dL_law_389 : decode cL_law 389 = .ok (.iaload, 1) := by decide +kernel
theorem dL_law_390 : decode cL_law 390 = .ok (.invokevirtual 69, 3) := by decide +kernel
theorem dL_law_393 : decode cL_law 393 = .ok (.if_icmp .eq 43, 3) := by decide +kernel
theorem dL_law_396 : decode cL_law 396 = .ok (.iconst 0, 1) := by decide +kernel
theorem dL_law_397 : decode cL_law 397 = .ok (.ireturn, 1) := by decide +kernel
theorem dL_law_398 : decode cL_law 398 = .ok (.aload_n 1, 1) := by decide +kernel
theorem dL_law_399 : decode cL_law 399 = .ok (.aload_n 0, 1) := by decide +kernel
theorem dL_law_400 : decode cL_law 400 = .ok (.iload 4, 2) := by decide +kernel
theorem dL_law_402 : decode cL_law 402 = .ok (.iconst 1, 1) := by decide +kernel
theorem dL_law_403 : decode cL_law 403 = .ok (.iadd, 1) := by decide +kernel
theorem dL_law_404 : decode cL_law 404 = .ok (.iaload, 1) := by decide +kernel
theorem dL_law_405 : decode cL_law 405 = .ok (.invokevirtual 70, 3) := by decide +kernel
theorem dL_law_408 : decode cL_law 408 = .ok (.aload_n 2, 1) := by decide +kernel
theorem dL_law_409 : decode cL_law 409 = .ok (.aload_n 0, 1) := by decide +kernel
theorem dL_law_410 : decode cL_law 410 = .ok (.iload 4, 2) := by decide +kernel
theorem dL_law_412 : decode cL_law 412 = .ok (.iconst 1, 1) := by decide +kernel
theorem dL_law_413 : decode cL_law 413 = .ok (.iadd, 1) := by decide +kernel
theorem dL_law_414 : decode cL_law 414 = .ok (.iaload, 1) := by decide +kernel
theorem dL_law_415 : decode cL_law 415 = .ok (.invokevirtual 73, 3) := by decide +kernel
theorem dL_law_418 : decode cL_law 418 = .ok (.if_icmp .eq 18, 3) := by decide +kernel
theorem dL_law_421 : decode cL_law 421 = .ok (.iconst 0, 1) := by decide +kernel
theorem dL_law_422 : decode cL_law 422 = .ok (.ireturn, 1) := by decide +kernel
theorem dL_law_423 : decode cL_law 423 = .ok (.aload_n 1, 1) := by decide +kernel
theorem dL_law_424 : decode cL_law 424 = .ok (.invokevirtual 74, 3) := by decide +kernel
theorem dL_law_427 : decode cL_law 427 = .ok (.aload_n 2, 1) := by decide +kernel
theorem dL_law_428 : decode cL_law 428 = .ok (.invokevirtual 77, 3) := by decide +kernel
theorem dL_law_431 : decode cL_law 431 = .ok (.if_icmp .eq 5, 3) := by decide +kernel
theorem dL_law_434 : decode cL_law 434 = .ok (.iconst 0, 1) := by decide +kernel
theorem dL_law_435 : decode cL_law 435 = .ok (.ireturn, 1) := by decide +kernel
theorem dL_law_436 : decode cL_law 436 = .ok (.iinc 4 4, 3) := by decide +kernel
theorem dL_law_439 : decode cL_law 439 = .ok (.goto (-416), 3) := by decide +kernel
theorem dL_law_442 : decode cL_law 442 = .ok (.iconst 1, 1) := by decide +kernel
theorem dL_law_443 : decode cL_law 443 = .ok (.ireturn, 1) := by decide +kernel
theorem lw_rc {k : Nat} (h : k < 512) : 10 + k + 1 ≤ room_1.cells := by
  show 10 + k + 1 ≤ 1038
  omega
theorem lw_rs {k : Nat} (h : k < 512) : 931 + 6 * k + 6 ≤ room_1.slots := by
  show 931 + 6 * k + 6 ≤ 9147
  omega
theorem lw_rc0 {k : Nat} (h : k < 512) : 10 + k + 1 + 0 ≤ room_1.cells := lw_rc h
theorem lw_rs0 {k : Nat} (h : k < 512) : 931 + 6 * k + 6 + 0 ≤ room_1.slots := lw_rs h
