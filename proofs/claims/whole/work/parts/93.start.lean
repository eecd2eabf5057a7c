abbrev fl_1 : List Cond := flatC (Jvm.Cond.and given_1 narrow_1)
abbrev tmT (n : String) : Term := .static "BitNumbers$Operators" n "[I"
abbrev nmF : List String := ["SINGLE", "DOUBLE"]
abbrev tmF (i : Nat) : Term := .static "BitNumbers$Format" (nmF.getD i "") "LBitNumbers$Format;"
theorem st_T {s : State} {args : Array Value} (hs : ∀ w ∈ fl_1, w.before args s = true) (n : String) (k : Nat) (h1 : Cond.arrayOf (tmT n) .int ∈ fl_1) (h2 : Cond.eq (.length (tmT n)) (.int (Int32.ofNat (tb_len k))) ∈ fl_1) (h3 : ∀ j : Nat, j < tb_len k → Cond.eq (.elem (tmT n) (.int (Int32.ofNat j))) (.int (tb k j)) ∈ fl_1) (hN : tb_len k < 2 ^ 31) {A : Nat → Prop} (hA : ∀ a : Nat, a < s.heap.size → ¬ A a) :
    ∃ t : Nat, (tmT n).eval args s none [] s = some (.ref t) ∧ va_T .int t (tb_len k) (fun j => .int (tb k j)) A s s.heap :=
  va_Tof hN (hs _ h1) (va_eqv (hs _ h2) rfl) (fun j hj => va_eqv (hs _ (h3 j hj)) rfl) hA
theorem st_F {s : State} {args : Array Value} (hs : ∀ w ∈ fl_1, w.before args s = true) {ad : Nat → Nat} {A : Nat → Prop} (hev : ∀ i, i < 2 → (tmF i).eval args s none [] s = some (.ref (ad i))) (n d : String) (tm : Nat → Term) (v : Nat → Value) (h : ∀ i, i < 2 → Cond.eq (.field (tmF i) "BitNumbers$Format" n d) (tm i) ∈ fl_1) (hv : ∀ i, i < 2 → (tm i).eval args s none [] s = some (v i)) (hA : ∀ a : Nat, a < s.heap.size → ¬ A a) : va_Ef 2 "BitNumbers$Format" n d v ad A s s.heap :=
  va_Efof (nm := nmF) hev (fun i hi => hs _ (h i hi)) hv hA
set_option maxRecDepth 100000 in
theorem st_G {s : State} {args : Array Value} (hs : ∀ w ∈ fl_1, w.before args s = true) (hts : ∀ w ∈ lw_tbl, w.before args s = true) {A : Nat → Prop} (hA : ∀ a : Nat, a < s.heap.size → ¬ A a) : ∃ ed td : Nat → Nat, pw_G A ed td s s.heap := by
  obtain ⟨t0, e0, T0⟩ := st_T hs "STARTS" 0 (by decide +kernel) (by decide +kernel) (by decide +kernel) (by decide) hA
  obtain ⟨t1, e1, T1⟩ := st_T hs "ONE_OPERAND" 1 (by decide +kernel) (by decide +kernel) (by decide +kernel) (by decide) hA
  obtain ⟨t2, e2, T2⟩ := st_T hs "FROM" 2 (by decide +kernel) (by decide +kernel) (by decide +kernel) (by decide) hA
  obtain ⟨t3, e3, T3⟩ := st_T hs "TO" 3 (by decide +kernel) (by decide +kernel) (by decide +kernel) (by decide) hA
  have hi1 : (Cond.initialized "BitNumbers$Operators").before args s = true := hts _ (by decide +kernel)
  have hi2 : (Cond.initialized "BitNumbers$Format").before args s = true := hts _ (by decide +kernel)
  obtain ⟨ed, hEn, hev⟩ := va_Enof2 (args := args) (s := s) (E := "BitNumbers$Format") (d := "LBitNumbers$Format;") (nm := nmF) (F := []) (A := A)
    (fun i hi => hts _ ((show ∀ i, i < 2 → Cond.laysStatic "BitNumbers$Format" (nmF.getD i "") "LBitNumbers$Format;" ∈ lw_tbl by decide +kernel) i hi)) hi2
    (fun i hi => hs _ ((show ∀ i, i < 2 → Cond.exactly (tmF i) "BitNumbers$Format" ∈ fl_1 by decide +kernel) i hi)) (fun q h => nomatch h)
    (fun i j hi hj hij => by
      have hn : Cond.not (.eq (tmF 0) (tmF 1)) ∈ fl_1 := by decide +kernel
      have hi' : i < 2 := hi
      have hj' : j < 2 := hj
      rcases (show (i = 0 ∧ j = 1) ∨ (i = 1 ∧ j = 0) by omega) with ⟨rfl, rfl⟩ | ⟨rfl, rfl⟩
      · exact Or.inl (hs _ hn)
      · exact Or.inr (hs _ hn)) hA
  refine ⟨ed, fun i => match i with | 0 => t0 | 1 => t1 | 2 => t2 | _ => t3, hEn, ⟨?_, ?_, ?_, ?_, ?_, ?_, ?_⟩, ?_, ⟨?_, ?_, ?_, ?_⟩⟩
  · exact st_F hs hev "places" "I" (fun i => .int (fm_places i)) _ (by decide +kernel) (fun _ _ => rfl) hA
  · exact st_F hs hev "greatestExponent" "I" (fun i => .int (fm_greatestExponent i)) _ (by decide +kernel) (fun _ _ => rfl) hA
  · exact st_F hs hev "leastScale" "I" (fun i => .int (fm_leastScale i)) _ (by decide +kernel) (fun _ _ => rfl) hA
  · exact st_F hs hev "signBit" "J" (fun i => .long (fm_signBit i)) _ (by decide +kernel) (fun _ _ => rfl) hA
  · exact st_F hs hev "leadingBit" "J" (fun i => .long (fm_leadingBit i)) _ (by decide +kernel) (fun _ _ => rfl) hA
  · exact st_F hs hev "infinite" "J" (fun i => .long (fm_infinite i)) _ (by decide +kernel) (fun _ _ => rfl) hA
  · exact st_F hs hev "none" "J" (fun i => .long (fm_none i)) _ (by decide +kernel) (fun _ _ => rfl) hA
  · intro i hi
    rcases (show i = 0 ∨ i = 1 ∨ i = 2 ∨ i = 3 by omega) with rfl | rfl | rfl | rfl
    · exact T0
    · exact T1
    · exact T2
    · exact T3
  · exact va_Zof (hts _ (by decide +kernel)) hi1 e0 hA
  · exact va_Zof (hts _ (by decide +kernel)) hi1 e1 hA
  · exact va_Zof (hts _ (by decide +kernel)) hi1 e2 hA
  · exact va_Zof (hts _ (by decide +kernel)) hi1 e3 hA
theorem st_R {s : State} {args : Array Value} (hs : ∀ w ∈ fl_1, w.before args s = true) (hts : ∀ w ∈ lw_tbl, w.before args s = true) (k : Nat) (tx : String) (h1 : Cond.stringRef "BitNumbers" k tx ∈ lw_tbl) (h2 : Cond.exactly (.string "BitNumbers" k) "java/lang/String" ∈ fl_1) : ∃ a : Nat, vk_R "BitNumbers" k tx a s := by
  obtain ⟨a, c, cell, k9, ha, -⟩ := Cond.exactly_spec (hs _ h2)
  exact ⟨a, vk_R.of (hts _ h1) ha⟩
set_option maxRecDepth 100000 in
theorem st_X {s : State} {args : Array Value} (hs : ∀ w ∈ fl_1, w.before args s = true) (hts : ∀ w ∈ lw_tbl, w.before args s = true) {A : Nat → Prop} (hA : ∀ a : Nat, a < s.heap.size → ¬ A a) : ∃ sa : Nat → Nat, xw A sa s s.heap := by
  obtain ⟨a0, h0⟩ := st_R hs hts 34 "the stack is empty" (by decide +kernel) (by decide +kernel)
  obtain ⟨a1, h1⟩ := st_R hs hts 46 "there is no such operator" (by decide +kernel) (by decide +kernel)
  obtain ⟨a2, h2⟩ := st_R hs hts 60 "the operands are not there" (by decide +kernel) (by decide +kernel)
  obtain ⟨a3, h3⟩ := st_R hs hts 68 "a trap" (by decide +kernel) (by decide +kernel)
  have hi : (Cond.initialized Bundle.tN).before args s = true := hts _ (by decide +kernel)
  exact ⟨fun i => match i with | 0 => a0 | 1 => a1 | 2 => a2 | _ => a3, ⟨h0, h1, h2, h3⟩, ⟨vx_Zqof (hts _ (by decide +kernel)) hi (hs _ (by decide +kernel)) hA, vx_Zqof (hts _ (by decide +kernel)) hi (hs _ (by decide +kernel)) hA⟩, xN_of hts⟩
set_option maxRecDepth 100000 in
theorem st_c {s : State} {args : Array Value} (hs : ∀ w ∈ fl_1, w.before args s = true) : xc s := ⟨va_Nc.of (hs _ (by decide +kernel)), va_Nc.of (hs _ (by decide +kernel)), va_Nc.of (hs _ (by decide +kernel))⟩
theorem st_A {s : State} {args : Array Value} {ty : FieldType} (h : (Cond.arrayClass ty).before args s = true) : ∃ c : Nat, ArrOfT s c ty ∧ s.vm.findClass ("[" ++ ty.toString) = some c := by
  obtain ⟨cA, kA, comp, h1, h2, h3⟩ := Cond.arrayClass_spec h
  exact ⟨cA, fun n z => ⟨fun k h => (by cases h), kA, h2, comp, h3⟩, h1⟩
