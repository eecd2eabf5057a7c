def lc (aB aM : Nat → Nat) (o : Nat) (β : BS) (μ : MS) (f : Nat → Int64) : va_W := bw_c aB β ++ (mw_c aM μ ++ [(o, .inl (aB 7, 1, .inr (.inl f)))])
def lwd (D : va_G) (aB aM : Nat → Nat) (o : Nat) (A : Nat → Prop) (H0 H : Heap) (locs : List Loc) (β : BS) (μ : MS) (f : Nat → Int64) : Prop := va_P D clM (lc aB aM o β μ f) H ∧ va_D A (lc aB aM o β μ f) ∧ va_S A H0 H locs
theorem lwd.b {D : va_G} {aB aM : Nat → Nat} {o : Nat} {A : Nat → Prop} {H0 H : Heap} {locs : List Loc} {β : BS} {μ : MS} {f : Nat → Int64} (h : lwd D aB aM o A H0 H locs β μ f) : bw D aB A H0 H locs β := ⟨h.1.sub [0, 1, 2] rfl, h.2.1.sub [0, 1, 2] (by decide) rfl, h.2.2⟩
theorem lwd.m {D : va_G} {aB aM : Nat → Nat} {o : Nat} {A : Nat → Prop} {H0 H : Heap} {locs : List Loc} {β : BS} {μ : MS} {f : Nat → Int64} (h : lwd D aB aM o A H0 H locs β μ f) : mw D aM A H0 H locs μ := ⟨h.1.sub [3, 4, 5, 6, 7, 8] rfl, h.2.1.sub [3, 4, 5, 6, 7, 8] (by decide) rfl, h.2.2⟩
section LW
variable {p : Program} {l : Launch} {e : Env} {R : Room} {s : State} {m : MethodId} {args : Array Value} {below : List Frame} {meth : Method} {c : Code} {H : Heap} {locs : List Loc} {cells slots : Nat} {Q : State → Prop} {cc : ByteArray} {pc : Nat} {ls : Array Slot} {rest st0 As : List Value} {a : Array Value} {D : va_G} {aB aM ed td sa : Nat → Nat} {A : Nat → Prop} {o : Nat} {β : BS} {μ : MS} {f : Nat → Int64}
theorem lw_calliB {F : Int32 × BS} (hr : va_Run p l e R s m args below meth c H locs cells slots 0 0 (F0 m pc ls st0) rest (va_Qi (fun r u => (r, u) = F) (bw_E D aB (va_A (bw_c aB β) H.size)) (va_A (bw_c aB β) H.size) a) (va_A (bw_c aB β) H.size)) (hM : lwd D aB aM o A s.heap H locs β μ f) (hA : ∀ q, s.heap.size ≤ q → A q)
    (kk : ∀ (H1 : Heap) (locs1 : List Loc), lwd D aB aM o A s.heap H1 locs1 F.2 μ f → W p l e R s m args below meth c H1 locs1 cells slots Q (F0 m (pc + 3) ls (.int F.1 :: rest))) : W p l e R s m args below meth c H locs cells slots Q (F0 m pc ls st0) := by
  have hF := va_free (wc := bw_c aB β) hM.2.1 hM.2.2 hA [0, 1, 2] rfl
  refine va_calli hr hM.2.2 (fun q _ h => hF q h) hF (fun r u t H1 locs1 ht hvm hw hB hz hk hS => ?_)
  obtain ⟨hP1, hK1, hD1⟩ := hB
  have e1 : r = F.1 := congrArg Prod.fst hw
  have e2 : u = F.2 := congrArg Prod.snd hw
  rw [e1]
  rw [e2] at hP1 hD1
  rw [ht] at hP1
  obtain ⟨hPj, hDj⟩ := va_join (wr := (mw_c aM μ ++ [(o, .inl (aB 7, 1, .inr (.inl f)))])) (w1 := bw_c aB F.2) hM.1 hM.2.1 [0, 1, 2] [3, 4, 5, 6, 7, 8, 9] rfl rfl (by decide) (by decide) hk hF hP1 hD1
  exact kk H1 locs1 ⟨hPj.sub [7, 8, 9, 0, 1, 2, 3, 4, 5, 6] rfl, hDj.sub [7, 8, 9, 0, 1, 2, 3, 4, 5, 6] (by decide) rfl, hS⟩
theorem lw_calliM {F : Int32 × MS} (hr : va_Run p l e R s m args below meth c H locs cells slots 0 0 (F0 m pc ls st0) rest (va_Qi (fun r u => (r, u) = F) (mw_E D aM (va_A (mw_c aM μ) H.size)) (va_A (mw_c aM μ) H.size) a) (va_A (mw_c aM μ) H.size)) (hM : lwd D aB aM o A s.heap H locs β μ f) (hA : ∀ q, s.heap.size ≤ q → A q)
    (kk : ∀ (H1 : Heap) (locs1 : List Loc), lwd D aB aM o A s.heap H1 locs1 β F.2 f → W p l e R s m args below meth c H1 locs1 cells slots Q (F0 m (pc + 3) ls (.int F.1 :: rest))) : W p l e R s m args below meth c H locs cells slots Q (F0 m pc ls st0) := by
  have hF := va_free (wc := mw_c aM μ) hM.2.1 hM.2.2 hA [3, 4, 5, 6, 7, 8] rfl
  refine va_calli hr hM.2.2 (fun q _ h => hF q h) hF (fun r u t H1 locs1 ht hvm hw hB hz hk hS => ?_)
  obtain ⟨hP1, hK1, hD1⟩ := hB
  have e1 : r = F.1 := congrArg Prod.fst hw
  have e2 : u = F.2 := congrArg Prod.snd hw
  rw [e1]
  rw [e2] at hP1 hD1
  rw [ht] at hP1
  obtain ⟨hPj, hDj⟩ := va_join (wr := (bw_c aB β ++ [(o, .inl (aB 7, 1, .inr (.inl f)))])) (w1 := mw_c aM F.2) hM.1 hM.2.1 [3, 4, 5, 6, 7, 8] [0, 1, 2, 9] rfl rfl (by decide) (by decide) hk hF hP1 hD1
  exact kk H1 locs1 ⟨hPj.sub [0, 1, 2, 4, 5, 6, 7, 8, 9, 3] rfl, hDj.sub [0, 1, 2, 4, 5, 6, 7, 8, 9, 3] (by decide) rfl, hS⟩
theorem lw_calllB {F : Int64 × BS} (hr : va_Run p l e R s m args below meth c H locs cells slots 0 0 (F0 m pc ls st0) rest (va_Ql (fun r u => (r, u) = F) (bw_E D aB (va_A (bw_c aB β) H.size)) (va_A (bw_c aB β) H.size) a) (va_A (bw_c aB β) H.size)) (hM : lwd D aB aM o A s.heap H locs β μ f) (hA : ∀ q, s.heap.size ≤ q → A q)
    (kk : ∀ (H1 : Heap) (locs1 : List Loc), lwd D aB aM o A s.heap H1 locs1 F.2 μ f → W p l e R s m args below meth c H1 locs1 cells slots Q (F0 m (pc + 3) ls (.long F.1 :: rest))) : W p l e R s m args below meth c H locs cells slots Q (F0 m pc ls st0) := by
  have hF := va_free (wc := bw_c aB β) hM.2.1 hM.2.2 hA [0, 1, 2] rfl
  refine va_calll hr hM.2.2 (fun q _ h => hF q h) hF (fun r u t H1 locs1 ht hvm hw hB hz hk hS => ?_)
  obtain ⟨hP1, hK1, hD1⟩ := hB
  have e1 : r = F.1 := congrArg Prod.fst hw
  have e2 : u = F.2 := congrArg Prod.snd hw
  rw [e1]
  rw [e2] at hP1 hD1
  rw [ht] at hP1
  obtain ⟨hPj, hDj⟩ := va_join (wr := (mw_c aM μ ++ [(o, .inl (aB 7, 1, .inr (.inl f)))])) (w1 := bw_c aB F.2) hM.1 hM.2.1 [0, 1, 2] [3, 4, 5, 6, 7, 8, 9] rfl rfl (by decide) (by decide) hk hF hP1 hD1
  exact kk H1 locs1 ⟨hPj.sub [7, 8, 9, 0, 1, 2, 3, 4, 5, 6] rfl, hDj.sub [7, 8, 9, 0, 1, 2, 3, 4, 5, 6] (by decide) rfl, hS⟩
theorem lw_calllM {F : Int64 × MS} (hr : va_Run p l e R s m args below meth c H locs cells slots 0 0 (F0 m pc ls st0) rest (va_Ql (fun r u => (r, u) = F) (mw_E D aM (va_A (mw_c aM μ) H.size)) (va_A (mw_c aM μ) H.size) a) (va_A (mw_c aM μ) H.size)) (hM : lwd D aB aM o A s.heap H locs β μ f) (hA : ∀ q, s.heap.size ≤ q → A q)
    (kk : ∀ (H1 : Heap) (locs1 : List Loc), lwd D aB aM o A s.heap H1 locs1 β F.2 f → W p l e R s m args below meth c H1 locs1 cells slots Q (F0 m (pc + 3) ls (.long F.1 :: rest))) : W p l e R s m args below meth c H locs cells slots Q (F0 m pc ls st0) := by
  have hF := va_free (wc := mw_c aM μ) hM.2.1 hM.2.2 hA [3, 4, 5, 6, 7, 8] rfl
  refine va_calll hr hM.2.2 (fun q _ h => hF q h) hF (fun r u t H1 locs1 ht hvm hw hB hz hk hS => ?_)
  obtain ⟨hP1, hK1, hD1⟩ := hB
  have e1 : r = F.1 := congrArg Prod.fst hw
  have e2 : u = F.2 := congrArg Prod.snd hw
  rw [e1]
  rw [e2] at hP1 hD1
  rw [ht] at hP1
  obtain ⟨hPj, hDj⟩ := va_join (wr := (bw_c aB β ++ [(o, .inl (aB 7, 1, .inr (.inl f)))])) (w1 := mw_c aM F.2) hM.1 hM.2.1 [3, 4, 5, 6, 7, 8] [0, 1, 2, 9] rfl rfl (by decide) (by decide) hk hF hP1 hD1
  exact kk H1 locs1 ⟨hPj.sub [0, 1, 2, 4, 5, 6, 7, 8, 9, 3] rfl, hDj.sub [0, 1, 2, 4, 5, 6, 7, 8, 9, 3] (by decide) rfl, hS⟩
theorem lw_callL {F : Int32 × OS} (hr : va_Run p l e R s m args below meth c H locs cells slots 1 6 (F0 m pc ls st0) rest (va_Qi (fun r (u : OS) => (r, u) = F) (ow_E D aB o (va_A (ow_c aB o β f) H.size)) (va_A (ow_c aB o β f) H.size) a) (va_A (ow_c aB o β f) H.size)) (hM : lwd D aB aM o A s.heap H locs β μ f) (hA : ∀ q, s.heap.size ≤ q → A q)
    (kk : ∀ (H1 : Heap) (locs1 : List Loc), lwd D aB aM o A s.heap H1 locs1 F.2.1 μ F.2.2 → W p l e R s m args below meth c H1 locs1 (cells + 1) (slots + 6) Q (F0 m (pc + 3) ls (.int F.1 :: rest))) : W p l e R s m args below meth c H locs cells slots Q (F0 m pc ls st0) := by
  have hF := va_free (wc := ow_c aB o β f) hM.2.1 hM.2.2 hA [0, 1, 2, 9] rfl
  refine va_calli hr hM.2.2 (fun q _ h => hF q h) hF (fun r u t H1 locs1 ht hvm hw hB hz hk hS => ?_)
  obtain ⟨hP1, hK1, hD1⟩ := hB
  have e1 : r = F.1 := congrArg Prod.fst hw
  have e2 : u = F.2 := congrArg Prod.snd hw
  rw [e1]
  rw [e2] at hP1 hD1
  rw [ht] at hP1
  obtain ⟨hPj, hDj⟩ := va_join (wr := mw_c aM μ) (w1 := ow_c aB o F.2.1 F.2.2) hM.1 hM.2.1 [0, 1, 2, 9] [3, 4, 5, 6, 7, 8] rfl rfl (by decide) (by decide) hk hF hP1 hD1
  exact kk H1 locs1 ⟨hPj.sub [6, 7, 8, 0, 1, 2, 3, 4, 5, 9] rfl, hDj.sub [6, 7, 8, 0, 1, 2, 3, 4, 5, 9] (by decide) rfl, hS⟩
theorem xc_moved {u U : State} (h : u.vm.Alike U.vm) (q : xc u) : xc U := ⟨q.1.moved h, q.2.1.moved h, q.2.2.moved h⟩
theorem lw_preL (hK : va_K D clM (tyA aB) s) (hM : lwd D aB aM o A s.heap H locs β μ f) (hA : ∀ q, s.heap.size ≤ q → A q) (hG : pw_G A ed td s s.heap) (hX : xw A sa s s.heap) (hc : xc s) : PreS s H (va_Pc As (ow_B D aB ed td sa o β f H.size)) As := by
  have hF := va_free (wc := ow_c aB o β f) hM.2.1 hM.2.2 hA [0, 1, 2, 9] rfl
  refine ⟨fun a U g mk q => ?_, fun U hU hW => ?_⟩
  · obtain ⟨q0, q1, qP, qK, qD, qG, qX, qc⟩ := q
    exact ⟨q0, q1, qP, va_K.moved (u := U) (U := U.calling g mk a) (Vm.Alike.refl U.vm) qK, qD, pw_G.moved (u := U) (U := U.calling g mk a) (Vm.Alike.refl U.vm) qG, xw.calling g mk a qX, xc_moved (u := U) (U := U.calling g mk a) (Vm.Alike.refl U.vm) qc⟩
  · have hD9 : va_D A (ow_c aB o β f) := hM.2.1.sub [0, 1, 2, 9] (by decide) rfl
    exact ⟨rfl, by rw [hU], by rw [hU]; exact hM.1.sub [0, 1, 2, 9] rfl, va_K.moved hW.alike hK, hD9.weaken (fun _ _ _ _ => trivial), by rw [hU]; exact ((hG.kept hM.2.2.2.1).moved hW.alike).narrow hF, by rw [hU]; exact ((hX.kept hM.2.2.2.1).warm hW).narrow hF, xc_moved hW.alike hc⟩
end LW
