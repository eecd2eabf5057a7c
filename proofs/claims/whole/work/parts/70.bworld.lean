abbrev BS : Type := (Int32) × (Int32) × (Nat → Int32) × (Nat → Int64)
def bs_count (σ : BS) : Int32 := σ.1
def bs_latestTrap (σ : BS) : Int32 := σ.2.1
def bs_types (σ : BS) : Nat → Int32 := σ.2.2.1
def bs_rows (σ : BS) : Nat → Int64 := σ.2.2.2
def bs_set_count (σ : BS) (v : Int32) : BS := (v, bs_latestTrap σ, bs_types σ, bs_rows σ)
def bs_set_latestTrap (σ : BS) (v : Int32) : BS := (bs_count σ, v, bs_types σ, bs_rows σ)
def bs_set_types (σ : BS) (v : Nat → Int32) : BS := (bs_count σ, bs_latestTrap σ, v, bs_rows σ)
def bs_set_rows (σ : BS) (v : Nat → Int64) : BS := (bs_count σ, bs_latestTrap σ, bs_types σ, v)
theorem bs_count_count (σ : BS) (v : Int32) : bs_count (bs_set_count σ v) = v := rfl
theorem bs_latestTrap_count (σ : BS) (v : Int32) : bs_latestTrap (bs_set_count σ v) = bs_latestTrap σ := rfl
theorem bs_types_count (σ : BS) (v : Int32) : bs_types (bs_set_count σ v) = bs_types σ := rfl
theorem bs_rows_count (σ : BS) (v : Int32) : bs_rows (bs_set_count σ v) = bs_rows σ := rfl
theorem bs_count_latestTrap (σ : BS) (v : Int32) : bs_count (bs_set_latestTrap σ v) = bs_count σ := rfl
theorem bs_latestTrap_latestTrap (σ : BS) (v : Int32) : bs_latestTrap (bs_set_latestTrap σ v) = v := rfl
theorem bs_types_latestTrap (σ : BS) (v : Int32) : bs_types (bs_set_latestTrap σ v) = bs_types σ := rfl
theorem bs_rows_latestTrap (σ : BS) (v : Int32) : bs_rows (bs_set_latestTrap σ v) = bs_rows σ := rfl
theorem bs_count_types (σ : BS) (v : Nat → Int32) : bs_count (bs_set_types σ v) = bs_count σ := rfl
theorem bs_latestTrap_types (σ : BS) (v : Nat → Int32) : bs_latestTrap (bs_set_types σ v) = bs_latestTrap σ := rfl
theorem bs_types_types (σ : BS) (v : Nat → Int32) : bs_types (bs_set_types σ v) = v := rfl
theorem bs_rows_types (σ : BS) (v : Nat → Int32) : bs_rows (bs_set_types σ v) = bs_rows σ := rfl
theorem bs_count_rows (σ : BS) (v : Nat → Int64) : bs_count (bs_set_rows σ v) = bs_count σ := rfl
theorem bs_latestTrap_rows (σ : BS) (v : Nat → Int64) : bs_latestTrap (bs_set_rows σ v) = bs_latestTrap σ := rfl
theorem bs_types_rows (σ : BS) (v : Nat → Int64) : bs_types (bs_set_rows σ v) = bs_types σ := rfl
theorem bs_rows_rows (σ : BS) (v : Nat → Int64) : bs_rows (bs_set_rows σ v) = v := rfl
def bw_f (ad : Nat → Nat) (σ : BS) : List Value := [.ref (ad 1), .ref (ad 2), .int (bs_count σ), .int (bs_latestTrap σ)]
def bw_c (ad : Nat → Nat) (σ : BS) : va_W := [(ad 0, .inr (0, bw_f ad σ)), (ad 1, .inl (ad 6, 64, .inl (bs_types σ))), (ad 2, .inl (ad 7, 64, .inr (.inl (bs_rows σ))))]
theorem bw_fd_types (ad : Nat → Nat) (σ : BS) : (bw_f ad σ)[0]? = some (.ref (ad 1)) := rfl
theorem bw_fd_rows (ad : Nat → Nat) (σ : BS) : (bw_f ad σ)[1]? = some (.ref (ad 2)) := rfl
theorem bw_fd_count (ad : Nat → Nat) (σ : BS) : (bw_f ad σ)[2]? = some (.int (bs_count σ)) := rfl
theorem bw_pt_count (ad : Nat → Nat) (σ : BS) (v : Int32) : (bw_c ad σ).set 0 (ad 0, .inr (0, (bw_f ad σ).set 2 (.int v))) = bw_c ad (bs_set_count σ v) := rfl
theorem bw_fd_latestTrap (ad : Nat → Nat) (σ : BS) : (bw_f ad σ)[3]? = some (.int (bs_latestTrap σ)) := rfl
theorem bw_pt_latestTrap (ad : Nat → Nat) (σ : BS) (v : Int32) : (bw_c ad σ).set 0 (ad 0, .inr (0, (bw_f ad σ).set 3 (.int v))) = bw_c ad (bs_set_latestTrap σ v) := rfl
theorem bw_ar_types (ad : Nat → Nat) (σ : BS) : (bw_c ad σ)[1]? = some (ad 1, .inl (ad 6, 64, .inl (bs_types σ))) := rfl
theorem bw_ar_rows (ad : Nat → Nat) (σ : BS) : (bw_c ad σ)[2]? = some (ad 2, .inl (ad 7, 64, .inr (.inl (bs_rows σ)))) := rfl
theorem bw_st_types (ad : Nat → Nat) (σ : BS) (f : Nat → Int32) : (bw_c ad σ).set 1 (ad 1, .inl (ad 6, 64, .inl f)) = bw_c ad (bs_set_types σ f) := rfl
theorem bw_st_rows (ad : Nat → Nat) (σ : BS) (f : Nat → Int64) : (bw_c ad σ).set 2 (ad 2, .inl (ad 7, 64, .inr (.inl f))) = bw_c ad (bs_set_rows σ f) := rfl
theorem pw_at {A : Nat → Prop} {ed td : Nat → Nat} {s U : State} {H : Heap} {locs : List Loc} (hG : pw_G A ed td s s.heap) (hS : va_S A s.heap H locs) (hU : U.heap = H) (hW : s.WarmedH U.vm) : pw_G (fun _ => False) ed td U U.heap := by
  rw [hU]; exact ((hG.kept hS.2.1).moved hW.alike).narrow (fun _ h => h.elim)
def bw (D : va_G) (ad : Nat → Nat) (A : Nat → Prop) (H0 H : Heap) (locs : List Loc) (σ : BS) : Prop := va_P D clM (bw_c ad σ) H ∧ va_D A (bw_c ad σ) ∧ va_S A H0 H locs
def bw_B (D : va_G) (ad ed td : Nat → Nat) (σ : BS) (sz : Nat) : State → Prop := fun U => U.heap.size = sz ∧ va_P D clM (bw_c ad σ) U.heap ∧ va_K D clM (tyA ad) U ∧ va_D (fun _ => True) (bw_c ad σ) ∧ pw_G (va_A (bw_c ad σ) sz) ed td U U.heap
def bw_E (D : va_G) (ad : Nat → Nat) (A : Nat → Prop) (u : BS) (t : State) : Prop := va_P D clM (bw_c ad u) t.heap ∧ va_K D clM (tyA ad) t ∧ va_D A (bw_c ad u)
section BW
variable {p : Program} {l : Launch} {e : Env} {R : Room} {s : State} {m : MethodId} {args : Array Value} {below : List Frame} {meth : Method} {c : Code} {H : Heap} {locs : List Loc} {cells slots : Nat} {Q : State → Prop} {cc : ByteArray} {pc : Nat} {ls : Array Slot} {rest st0 As : List Value} {a : Array Value} {D : va_G} {ad : Nat → Nat} {A : Nat → Prop} {H0 : Heap} {σ : BS}
theorem bw_get (hexec : p.tables.exec = Jvm.exec) (hb : c.code = cc) (hts : ∀ w ∈ aw, w.before args s = true) (hown : s.vm.findClass "BitNumbers" = some m.cls) (hK : va_K D clM (tyA ad) s) (hM : bw D ad A H0 H locs σ) (k : Nat) (hk : k < 4) {index : Nat} (hlink : (Cond.fieldLink "BitNumbers" index "BitNumbers" (TB k).2.1 (TB k).2.2.1).before args s = true) {v : Value} (hv : (bw_f ad σ)[k]? = some v) (hdg : decode cc pc = .ok (.getfield index, 3))
    (kk : W p l e R s m args below meth c H locs cells slots Q (F0 m (pc + 3) ls (v :: rest))) : W p l e R s m args below meth c H locs cells slots Q (F0 m pc ls (.ref (ad 0) :: rest)) :=
  va_get (ci := 0) (C := "BitNumbers") (T := TB) (N := 4) hexec hb hts inTB hown hK hM.1 0 rfl rfl k hk hlink (fun x h => by rw [owTB k hk] at h; exact h) hv hdg kk
theorem bw_put (hexec : p.tables.exec = Jvm.exec) (hb : c.code = cc) (hts : ∀ w ∈ aw, w.before args s = true) (hown : s.vm.findClass "BitNumbers" = some m.cls) (hK : va_K D clM (tyA ad) s) (hM : bw D ad A H0 H locs σ) (k : Nat) (hk : k < 4) {index : Nat} (hlink : (Cond.fieldLink "BitNumbers" index "BitNumbers" (TB k).2.1 (TB k).2.2.1).before args s = true) (hfin : (TB k).2.2.2 = false) {ty : FieldType} {v : Value} (hd : parseFieldDescriptor (TB k).2.2.1 = some ty) (hn : narrow ty v = v) (hfit : fits ty v = true) {σ' : BS} (hσ : (bw_c ad σ).set 0 (ad 0, .inr (0, (bw_f ad σ).set k v)) = bw_c ad σ') (hdg : decode cc pc = .ok (.putfield index, 3))
    (kk : ∀ (H1 : Heap) (locs1 : List Loc), bw D ad A H0 H1 locs1 σ' → W p l e R s m args below meth c H1 locs1 cells slots Q (F0 m (pc + 3) ls rest)) : W p l e R s m args below meth c H locs cells slots Q (F0 m pc ls (v :: .ref (ad 0) :: rest)) :=
  va_put (ci := 0) (C := "BitNumbers") (T := TB) (N := 4) hexec hb hts inTB tyTB tyTB_ok nmTB hown hK hM.1 hM.2.1 hM.2.2 0 rfl rfl k hk hlink (fun x h => by rw [owTB k hk] at h; exact h) hfin hd hn hfit hk hdg (fun H1 locs1 q1 q2 q3 => kk H1 locs1 ⟨by rw [← hσ]; exact q1, by rw [← hσ]; exact q2, q3⟩)
theorem bw_iald (hexec : p.tables.exec = Jvm.exec) (hb : c.code = cc) (hK : va_K D clM (tyA ad) s) (hM : bw D ad A H0 H locs σ) (j : Nat) {b n : Nat} {f : Nat → Int32} (ha : (bw_c ad σ)[j]? = some (b, .inl (ad 6, n, .inl f))) {i : Int32} (hin : vp_in i n) (hdg : decode cc pc = .ok (.iaload, 1))
    (kk : W p l e R s m args below meth c H locs cells slots Q (F0 m (pc + 1) ls (.int (f i.toNatClampNeg) :: rest))) : W p l e R s m args below meth c H locs cells slots Q (F0 m pc ls (.int i :: .ref b :: rest)) :=
  va_iald hexec hb hK hM.1 j 0 ha rfl hin hdg kk
theorem bw_lald (hexec : p.tables.exec = Jvm.exec) (hb : c.code = cc) (hK : va_K D clM (tyA ad) s) (hM : bw D ad A H0 H locs σ) (j : Nat) {b n : Nat} {f : Nat → Int64} (ha : (bw_c ad σ)[j]? = some (b, .inl (ad 7, n, .inr (.inl f)))) {i : Int32} (hin : vp_in i n) (hdg : decode cc pc = .ok (.laload, 1))
    (kk : W p l e R s m args below meth c H locs cells slots Q (F0 m (pc + 1) ls (.long (f i.toNatClampNeg) :: rest))) : W p l e R s m args below meth c H locs cells slots Q (F0 m pc ls (.int i :: .ref b :: rest)) :=
  va_lald hexec hb hK hM.1 j 1 ha rfl hin hdg kk
theorem bw_iast (hexec : p.tables.exec = Jvm.exec) (hb : c.code = cc) (hK : va_K D clM (tyA ad) s) (hM : bw D ad A H0 H locs σ) (j : Nat) {b n : Nat} {f : Nat → Int32} (ha : (bw_c ad σ)[j]? = some (b, .inl (ad 6, n, .inl f))) {i x : Int32} (hin : vp_in i n) {σ' : BS} (hσ : (bw_c ad σ).set j (b, .inl (ad 6, n, .inl (upd f i.toNatClampNeg x))) = bw_c ad σ') (hdg : decode cc pc = .ok (.iastore, 1))
    (kk : ∀ (H1 : Heap) (locs1 : List Loc), bw D ad A H0 H1 locs1 σ' → W p l e R s m args below meth c H1 locs1 cells slots Q (F0 m (pc + 1) ls rest)) : W p l e R s m args below meth c H locs cells slots Q (F0 m pc ls (.int x :: .int i :: .ref b :: rest)) :=
  va_iast hexec hb hK hM.1 hM.2.1 hM.2.2 j 0 ha rfl hin hdg (fun H1 locs1 q1 q2 q3 => kk H1 locs1 ⟨by rw [← hσ]; exact q1, by rw [← hσ]; exact q2, q3⟩)
theorem bw_last (hexec : p.tables.exec = Jvm.exec) (hb : c.code = cc) (hK : va_K D clM (tyA ad) s) (hM : bw D ad A H0 H locs σ) (j : Nat) {b n : Nat} {f : Nat → Int64} (ha : (bw_c ad σ)[j]? = some (b, .inl (ad 7, n, .inr (.inl f)))) {i : Int32} {x : Int64} (hin : vp_in i n) {σ' : BS} (hσ : (bw_c ad σ).set j (b, .inl (ad 7, n, .inr (.inl (vp_updL f i.toNatClampNeg x)))) = bw_c ad σ') (hdg : decode cc pc = .ok (.lastore, 1))
    (kk : ∀ (H1 : Heap) (locs1 : List Loc), bw D ad A H0 H1 locs1 σ' → W p l e R s m args below meth c H1 locs1 cells slots Q (F0 m (pc + 1) ls rest)) : W p l e R s m args below meth c H locs cells slots Q (F0 m pc ls (.long x :: .int i :: .ref b :: rest)) :=
  va_last hexec hb hK hM.1 hM.2.1 hM.2.2 j 1 ha rfl hin hdg (fun H1 locs1 q1 q2 q3 => kk H1 locs1 ⟨by rw [← hσ]; exact q1, by rw [← hσ]; exact q2, q3⟩)
theorem bw_preV {ed td : Nat → Nat} (hK : va_K D clM (tyA ad) s) (hM : bw D ad A s.heap H locs σ) (hA : ∀ q, s.heap.size ≤ q → A q) (hG : pw_G A ed td s s.heap) : PreV s H "BitNumbers" (ad 0) (va_Pc (.ref (ad 0) :: As) (bw_B D ad ed td σ H.size)) As :=
  ⟨fun a U g mk q => by obtain ⟨q0, q1, qP, qK, qD, qG⟩ := q; exact ⟨q0, q1, qP, va_K.moved (u := U) (U := U.calling g mk a) (Vm.Alike.refl U.vm) qK, qD, pw_G.moved (u := U) (U := U.calling g mk a) (Vm.Alike.refl U.vm) qG⟩, va_recv (ci := 0) (q0 := 0) hK hM.1 rfl rfl, fun U hU hW => ⟨rfl, by rw [hU], by rw [hU]; exact hM.1, va_K.moved hW.alike hK, hM.2.1.weaken (fun _ _ _ _ => trivial), by rw [hU]; exact ((hG.kept hM.2.2.2.1).moved hW.alike).narrow (va_free (wc := bw_c ad σ) hM.2.1 hM.2.2 hA [0, 1, 2] rfl)⟩⟩
theorem bw_calll {F : Int64 × BS} (hr : va_Run p l e R s m args below meth c H locs cells slots 0 0 (F0 m pc ls st0) rest (va_Ql (fun r u => (r, u) = F) (bw_E D ad (va_A (bw_c ad σ) H.size)) (va_A (bw_c ad σ) H.size) a) (va_A (bw_c ad σ) H.size)) (hM : bw D ad A s.heap H locs σ) (hA : ∀ q, s.heap.size ≤ q → A q)
    (kk : ∀ (H1 : Heap) (locs1 : List Loc), bw D ad A s.heap H1 locs1 F.2 → W p l e R s m args below meth c H1 locs1 cells slots Q (F0 m (pc + 3) ls (.long F.1 :: rest))) : W p l e R s m args below meth c H locs cells slots Q (F0 m pc ls st0) := by
  have hF := va_free (wc := bw_c ad σ) hM.2.1 hM.2.2 hA [0, 1, 2] rfl
  refine va_calll hr hM.2.2 (fun q _ h => hF q h) hF (fun r u t H1 locs1 ht hvm hw hB hz hk hS => ?_)
  obtain ⟨hP1, hK1, hD1⟩ := hB
  have e1 : r = F.1 := congrArg Prod.fst hw
  have e2 : u = F.2 := congrArg Prod.snd hw
  rw [e1]
  rw [e2] at hP1 hD1
  exact kk H1 locs1 ⟨by rw [← ht]; exact hP1, hD1.weaken (fun _ q _ h => hF q.1 h), hS⟩
theorem bw_calli {F : Int32 × BS} (hr : va_Run p l e R s m args below meth c H locs cells slots 0 0 (F0 m pc ls st0) rest (va_Qi (fun r u => (r, u) = F) (bw_E D ad (va_A (bw_c ad σ) H.size)) (va_A (bw_c ad σ) H.size) a) (va_A (bw_c ad σ) H.size)) (hM : bw D ad A s.heap H locs σ) (hA : ∀ q, s.heap.size ≤ q → A q)
    (kk : ∀ (H1 : Heap) (locs1 : List Loc), bw D ad A s.heap H1 locs1 F.2 → W p l e R s m args below meth c H1 locs1 cells slots Q (F0 m (pc + 3) ls (.int F.1 :: rest))) : W p l e R s m args below meth c H locs cells slots Q (F0 m pc ls st0) := by
  have hF := va_free (wc := bw_c ad σ) hM.2.1 hM.2.2 hA [0, 1, 2] rfl
  refine va_calli hr hM.2.2 (fun q _ h => hF q h) hF (fun r u t H1 locs1 ht hvm hw hB hz hk hS => ?_)
  obtain ⟨hP1, hK1, hD1⟩ := hB
  have e1 : r = F.1 := congrArg Prod.fst hw
  have e2 : u = F.2 := congrArg Prod.snd hw
  rw [e1]
  rw [e2] at hP1 hD1
  exact kk H1 locs1 ⟨by rw [← ht]; exact hP1, hD1.weaken (fun _ q _ h => hF q.1 h), hS⟩
theorem bw_callv {F : BS} (hr : va_Run p l e R s m args below meth c H locs cells slots 0 0 (F0 m pc ls st0) rest (va_Qv (fun u => u = F) (bw_E D ad (va_A (bw_c ad σ) H.size)) (va_A (bw_c ad σ) H.size) a) (va_A (bw_c ad σ) H.size)) (hM : bw D ad A s.heap H locs σ) (hA : ∀ q, s.heap.size ≤ q → A q)
    (kk : ∀ (H1 : Heap) (locs1 : List Loc), bw D ad A s.heap H1 locs1 F → W p l e R s m args below meth c H1 locs1 cells slots Q (F0 m (pc + 3) ls rest)) : W p l e R s m args below meth c H locs cells slots Q (F0 m pc ls st0) := by
  have hF := va_free (wc := bw_c ad σ) hM.2.1 hM.2.2 hA [0, 1, 2] rfl
  refine va_callv hr hM.2.2 (fun q _ h => hF q h) hF (fun u t H1 locs1 ht hvm hw hB hz hk hS => ?_)
  obtain ⟨hP1, hK1, hD1⟩ := hB
  rw [hw] at hP1 hD1
  exact kk H1 locs1 ⟨by rw [← ht]; exact hP1, hD1.weaken (fun _ q _ h => hF q.1 h), hS⟩
end BW
def pw_Y (i c : Int32) (n : Nat) : Prop := 1 ≤ n ∧ c.toInt - i.toInt + 1 ≤ (n : Int)
def pw_YB (i c : Int32) (n : Nat) : Prop := 1 ≤ n ∧ c.toInt - i.toInt ≤ (n : Int) ∧ i.toInt < c.toInt
theorem pw_Y_zero {i c : Int32} : ¬ pw_Y i c 0 := fun h => by have := h.1; omega
theorem pw_Y_init (i c : Int32) : pw_Y i c ((c.toInt - i.toInt + 1).toNat + 1) := ⟨by omega, by omega⟩
theorem pw_YB_next {i c : Int32} {n : Nat} (h : pw_YB i c n) : pw_Y (i + 1) c n := by
  obtain ⟨h1, h2, h3⟩ := h
  have := c.toInt_lt
  have := i.le_toInt
  refine ⟨h1, ?_⟩
  rw [bn_i_add] <;> rw [show (1 : Int32).toInt = 1 from rfl] <;> omega
theorem pw_Y_body {i c : Int32} {n : Nat} (h : pw_Y i c (n + 1)) (hi : ¬ c ≤ i) : pw_YB i c n := by
  obtain ⟨h1, h2⟩ := h
  rw [Int32.le_iff_toInt_le] at hi
  exact ⟨by omega, by omega, by omega⟩
