theorem w_49 : (Cond.classLink "BitNumbersLaw" 8 "BitNumbers") ∈ aw := aw_in 49 (by decide +kernel) (by decide +kernel)
theorem w_50 : (Cond.instantiable "BitNumbers" 4) ∈ aw := aw_in 50 (by decide +kernel) (by decide +kernel)
theorem w_51 : (Cond.methodLink "BitNumbersLaw" 23 yB_init) ∈ aw := aw_in 51 (by decide +kernel) (by decide +kernel)
theorem w_52 : (Cond.instanceMethod yB_init) ∈ aw := aw_in 52 (by decide +kernel) (by decide +kernel)
theorem w_53 : (Cond.code yB_init cB_init 1 none) ∈ aw := aw_in 53 (by decide +kernel) (by decide +kernel)
theorem w_481 : (Cond.classLink "BitNumbersLaw" 24 "BitNumbersModel") ∈ aw := aw_in 481 (by decide +kernel) (by decide +kernel)
theorem w_482 : (Cond.instantiable "BitNumbersModel" 14) ∈ aw := aw_in 482 (by decide +kernel) (by decide +kernel)
theorem w_483 : (Cond.methodLink "BitNumbersLaw" 26 yM_init) ∈ aw := aw_in 483 (by decide +kernel) (by decide +kernel)
theorem w_484 : (Cond.instanceMethod yM_init) ∈ aw := aw_in 484 (by decide +kernel) (by decide +kernel)
theorem w_485 : (Cond.code yM_init cM_init 1 none) ∈ aw := aw_in 485 (by decide +kernel) (by decide +kernel)
theorem gI {y : MethodName} {c : ByteArray} {n : Nat} {r : Option FieldType} (h4 : Cond.code y c n r ∈ aw) : GoodIn aw (Cond.code y c n r :: aw) := by
  intro w hw
  rcases List.mem_cons.mp hw with e | q
  · rw [e]; exact aw_good h4
  · exact aw_good q
theorem kL_ix {k L : Nat} (hL : L ≤ 2048) (h : 4 * k + 4 ≤ L) (j : Nat) (hj : j < 4) : vp_in (nI (4 * k) + nI j) L := by
  rw [nI_add]
  exact vp_in_nI (by omega) (by omega)
theorem kL_le {k L : Nat} (hL : L ≤ 2048) (hk : 4 * k ≤ L) (h : ¬ (nI L - 4 < nI (4 * k))) : 4 * k + 4 ≤ L := by
  rw [Int32.lt_iff_toInt_lt, nI_toInt (show 4 * k < 2 ^ 31 by omega)] at h
  have e : (nI L - 4).toInt = (L : Int) - 4 := by
    rw [bn_i_sub] <;> rw [nI_toInt (show L < 2 ^ 31 by omega), show (4 : Int32).toInt = 4 from rfl] <;> omega
  rw [e] at h
  omega
set_option maxHeartbeats 4000000 in
set_option maxRecDepth 100000 in
theorem kL_loop {p : Program} {l : Launch} {e : Env} {s : State} {m : MethodId} {below : List Frame} {meth : Method} {c : Code} {b L : Nat} {xs : Nat → Int32} (C0 : lw_At p s m meth c b L xs) (hlT : l.stackTraces = false) {D : va_G} {aB aM ed td sa : Nat → Nat} {o : Nat} (hKB : va_K D clM (tyA aB) s) (hKM : va_K D clM (tyA aM) s) (hG : pw_G (fun q : Nat => s.heap.size ≤ q) ed td s s.heap) (hXw : xw (fun q : Nat => s.heap.size ≤ q) sa s s.heap) (hxc : xc s) (hL : L ≤ 2048) : ∀ (n k : Nat) (x : Int32), x = nI (4 * k) → 4 * k ≤ L → L < 4 * (k + n) → ∀ (β : BS) (μ : MS) (f : Nat → Int64), sim β μ → ∀ (H : Heap) (locs : List Loc), lwd D aB aM o (fun q : Nat => s.heap.size ≤ q) s.heap H locs β μ f → ∀ (ls : Array Slot), lv_has ls 8 [(0, .ref b), (1, .ref (aB 0)), (2, .ref (aM 0)), (3, .ref o), (4, .int x)] → W p l e room_1 s m #[Value.ref b] below meth c H locs (10 + k) (931 + 6 * k) (lw_Z below #[Value.ref b] s) (F0 m 23 ls []) := by
  obtain ⟨hx, hb, hr, hml, hown, hts0, hX, hbl, hlocks, hgv⟩ := id C0
  have hts : ∀ w ∈ aw, w.before #[Value.ref b] s = true := fun w h => hts0 w (aw_tbl h)
  have hA : ∀ q : Nat, s.heap.size ≤ q → (fun q : Nat => s.heap.size ≤ q) q := fun _ h => h
  have hbA : ¬ (fun q : Nat => s.heap.size ≤ q) b := Nat.not_le.mpr hbl
  intro n
  induction n with
  | zero =>
    intro k x _ h1 h2
    exact absurd h2 (by omega)
  | succ n ih =>
    intro k x hxk h1 h2 β μ f hsim H locs hM ls hl
    refine lv_iload hx hb dL_law_23 (lv_at hl 4 rfl) ?_
    refine lv_aload_n hx hb dL_law_25 rfl (lv_at hl 0 rfl) ?_
    refine va_slen hx hb hX hbl hbA hM.2.2 dL_law_26 ?_
    refine lv_iconst (v := 4) hx hb dL_law_27 (by decide) ?_
    refine lv_isub hx hb dL_law_28 ?_
    refine lv_icmp_gt (tgt := 442) hx hb dL_law_29 (by decide) (fun c0 => ?_) (fun c0 => ?_)
    · refine lv_iconst (v := 1) hx hb dL_law_442 (by decide) ?_
      refine va_forget (fun q hq => hM.2.2.2.2 q hq) ?_
      refine W.widen (k := 1038) (n := 9147) (by omega) (by omega) ?_
      exact lw_ret hx hb hr hlocks dL_law_443
    · rw [hxk] at c0
      have hle := kL_le hL h1 c0
      have hk : k < 512 := by omega
      have i0 : vp_in x L := by have q := kL_ix hL hle 0 (by decide); rw [← hxk, nI_0, show x + 0 = x from Int32.add_zero x] at q; exact q
      have i1 : vp_in (x + 1) L := by have q := kL_ix hL hle 1 (by decide); rw [← hxk] at q; exact q
      have i2 : vp_in (x + 2) L := by have q := kL_ix hL hle 2 (by decide); rw [← hxk] at q; exact q
      have i3 : vp_in (x + 3) L := by have q := kL_ix hL hle 3 (by decide); rw [← hxk] at q; exact q
      have kn : ∀ (β : BS) (μ : MS) (f : Nat → Int64), sim β μ → ∀ (H : Heap) (locs : List Loc), lwd D aB aM o (fun q : Nat => s.heap.size ≤ q) s.heap H locs β μ f → ∀ (ls : Array Slot), lv_has ls 8 [(0, .ref b), (1, .ref (aB 0)), (2, .ref (aM 0)), (3, .ref o), (4, .int x)] → W p l e room_1 s m #[Value.ref b] below meth c H locs (10 + k + 1) (931 + 6 * k + 6) (lw_Z below #[Value.ref b] s) (F0 m 436 ls []) := by
        intro β μ f hsim H locs hM ls hl
        refine lv_iinc (v := x + 4) (lv' := [(4, .int (x + 4)), (0, .ref b), (1, .ref (aB 0)), (2, .ref (aM 0)), (3, .ref o)]) hx hb dL_law_436 hl (k := 4) rfl rfl (by decide) rfl (fun ls hl => ?_)
        refine lv_goto (tgt := 23) hx hb dL_law_439 (by decide) ?_
        rw [show 10 + k + 1 = 10 + (k + 1) by omega, show 931 + 6 * k + 6 = 931 + 6 * (k + 1) by omega]
        exact ih (k + 1) (x + 4) (by rw [hxk]; exact nI_add (4 * k) 4) (by omega) (by omega) β μ f hsim H locs hM ls (lv_sub hl [1, 2, 3, 4, 0] rfl)
      refine lv_aload_n hx hb dL_law_32 rfl (lv_at hl 0 rfl) ?_
      refine lv_iload hx hb dL_law_33 (lv_at hl 4 rfl) ?_
      refine va_sld hx hb hX hbl hbA hM.2.2 i0 dL_law_35 ?_
      refine lv_bipush (v := 15) hx hb dL_law_36 (by decide) ?_
      refine lv_iand hx hb dL_law_38 ?_
      generalize (xs x.toNatClampNeg &&& 15) = y
      by_cases c1 : y = 0
      · refine lv_tableIn (tgt := 92) hx hb dL_law_39 (by rw [c1]; decide) (by rw [c1]; decide) (off := 53) (by rw [c1]; rfl) (by decide) ?_
        exact kL_case_0 C0 hlT hKB hKM hG hXw hxc k hk x i1 i2 i3 hsim hM hl kn
      by_cases c2 : y = 1
      · refine lv_tableIn (tgt := 161) hx hb dL_law_39 (by rw [c2]; decide) (by rw [c2]; decide) (off := 122) (by rw [c2]; rfl) (by decide) ?_
        exact kL_case_1 C0 hlT hKB hKM hG hXw hxc k hk x i1 i2 i3 hsim hM hl kn
      by_cases c3 : y = 2
      · refine lv_tableIn (tgt := 204) hx hb dL_law_39 (by rw [c3]; decide) (by rw [c3]; decide) (off := 165) (by rw [c3]; rfl) (by decide) ?_
        exact kL_case_2 C0 hlT hKB hKM hG hXw hxc k hk x i1 i2 i3 hsim hM hl kn
      by_cases c4 : y = 3
      · refine lv_tableIn (tgt := 260) hx hb dL_law_39 (by rw [c4]; decide) (by rw [c4]; decide) (off := 221) (by rw [c4]; rfl) (by decide) ?_
        exact kL_case_3 C0 hlT hKB hKM hG hXw hxc k hk x i1 i2 i3 hsim hM hl kn
      by_cases c5 : y = 4
      · refine lv_tableIn (tgt := 273) hx hb dL_law_39 (by rw [c5]; decide) (by rw [c5]; decide) (off := 234) (by rw [c5]; rfl) (by decide) ?_
        exact kL_case_4 C0 hlT hKB hKM hG hXw hxc k hk x i1 i2 i3 hsim hM hl kn
      by_cases c6 : y = 5
      · refine lv_tableIn (tgt := 310) hx hb dL_law_39 (by rw [c6]; decide) (by rw [c6]; decide) (off := 271) (by rw [c6]; rfl) (by decide) ?_
        exact kL_case_5 C0 hlT hKB hKM hG hXw hxc k hk x i1 i2 i3 hsim hM hl kn
      by_cases c7 : y = 6
      · refine lv_tableIn (tgt := 335) hx hb dL_law_39 (by rw [c7]; decide) (by rw [c7]; decide) (off := 296) (by rw [c7]; rfl) (by decide) ?_
        exact kL_case_6 C0 hlT hKB hKM hG hXw hxc k hk x i1 i2 i3 hsim hM hl kn
      by_cases c8 : y = 7
      · refine lv_tableIn (tgt := 361) hx hb dL_law_39 (by rw [c8]; decide) (by rw [c8]; decide) (off := 322) (by rw [c8]; rfl) (by decide) ?_
        exact kL_case_7 C0 hlT hKB hKM hG hXw hxc k hk x i1 i2 i3 hsim hM hl kn
      by_cases c9 : y = 8
      · refine lv_tableIn (tgt := 398) hx hb dL_law_39 (by rw [c9]; decide) (by rw [c9]; decide) (off := 359) (by rw [c9]; rfl) (by decide) ?_
        exact kL_case_8 C0 hlT hKB hKM hG hXw hxc k hk x i1 i2 i3 hsim hM hl kn
      by_cases c10 : y = 9
      · refine lv_tableIn (tgt := 423) hx hb dL_law_39 (by rw [c10]; decide) (by rw [c10]; decide) (off := 384) (by rw [c10]; rfl) (by decide) ?_
        exact kL_case_9 C0 hlT hKB hKM hG hXw hxc k hk x i1 i2 i3 hsim hM hl kn
      refine pw_tableD (tgt := 436) hx hb dL_law_39 ?_ (by decide) ?_
      · have t0 := lv_neT c1 (a := 0) (by decide)
        have t1 := lv_neT c2 (a := 1) (by decide)
        have t2 := lv_neT c3 (a := 2) (by decide)
        have t3 := lv_neT c4 (a := 3) (by decide)
        have t4 := lv_neT c5 (a := 4) (by decide)
        have t5 := lv_neT c6 (a := 5) (by decide)
        have t6 := lv_neT c7 (a := 6) (by decide)
        have t7 := lv_neT c8 (a := 7) (by decide)
        have t8 := lv_neT c9 (a := 8) (by decide)
        have t9 := lv_neT c10 (a := 9) (by decide)
        exact (show y.toInt < 0 ∨ 9 < y.toInt by omega).elim Or.inl (fun q => Or.inr (Or.inl q))
      refine W.widen (k := 10 + k + 1) (n := 931 + 6 * k + 6) (by omega) (by omega) ?_
      exact kn β μ f hsim H locs hM ls hl
set_option maxHeartbeats 4000000 in
set_option maxRecDepth 100000 in
theorem whole_start {p : Program} {e : Env} {s : State} {m : MethodId} {below : List Frame} {meth : Method} {c : Code} (l : Launch) (hlT : l.stackTraces = false) {b L : Nat} {xs : Nat → Int32} (hL : L ≤ 2048) (C0 : lw_At p s m meth c b L xs) : W p l e room_1 s m #[Value.ref b] below meth c s.heap [] 0 0 (lw_Z below #[Value.ref b] s) (entryFrame m ([Value.ref b] : List Value).toArray 8) := by
  obtain ⟨hx, hb, hr, hml, hown, hts0, hX, hbl, hlocks, hgv⟩ := id C0
  have hts : ∀ w ∈ aw, w.before #[Value.ref b] s = true := fun w h => hts0 w (aw_tbl h)
  have hA : ∀ q : Nat, s.heap.size ≤ q → (fun q : Nat => s.heap.size ≤ q) q := fun _ h => h
  have hbA : ¬ (fun q : Nat => s.heap.size ≤ q) b := Nat.not_le.mpr hbl
  have hA0 : ∀ a : Nat, a < s.heap.size → ¬ (fun q : Nat => s.heap.size ≤ q) a := fun a h => Nat.not_le.mpr h
  have hfl := flat_of_before _ hgv
  obtain ⟨ed, td, hG⟩ := st_G hfl hts0 hA0
  obtain ⟨sa, hXw⟩ := st_X hfl hts0 hA0
  have hxc := st_c hfl
  obtain ⟨cI, hI1, hI2⟩ := st_A (hts _ w_70)
  obtain ⟨cL, hL1, hL2⟩ := st_A (hts _ w_71)
  obtain ⟨c0, iS0, hKn0⟩ := u_known (C := "BitNumbers") (T := TB) (N := 4) (n := 4) hts inTB (hts _ w_50)
  obtain ⟨c1, iS1, hKn1⟩ := u_known (C := "BitNumbersModel") (T := TM) (N := 14) (n := 14) hts inTM (hts _ w_482)
  obtain ⟨D, hKc⟩ : ∃ D : va_G, ∀ (k : Nat) (q : vw_C), clM[k]? = some q → u_Kn s q.1 q.2.1 q.2.2 (D.1 k) (D.2 k) := by
    refine ⟨(fun k => if k = 0 then c0 else c1, fun k => if k = 0 then iS0 else iS1), ?_⟩
    intro k q hq
    match k, hq with
    | 0, hq => cases hq; exact hKn0
    | 1, hq => cases hq; exact hKn1
    | k + 2, hq => simp [clM] at hq
  have hS : va_S (fun q : Nat => s.heap.size ≤ q) s.heap s.heap [] := va_S.rf
  have hK : va_K D clM [(cI, .int), (cL, .long)] s := by
    refine ⟨hKc, fun k q h => ?_⟩
    match k, h with
    | 0, h => cases h; exact ⟨hI1, hI2⟩
    | 1, h => cases h; exact ⟨hL1, hL2⟩
    | k + 2, h => simp at h
  have hP : va_P D clM [] s.heap := fun k q h => by simp at h
  have hD : va_D (fun q : Nat => s.heap.size ≤ q) [] := ⟨fun i j p q h => by simp at h, fun k q h => by simp at h⟩
  have hl := lv_entry ([.ref b]) (n := 8) (Nat.le_of_ble_eq_true rfl)
  rw [lg_entry_eq]
  generalize (lg_sl ([.ref b]) ++ List.replicate (8 - (lg_sl ([.ref b])).length) Slot.unset).toArray = ls at hl ⊢
  have hl : lv_has ls 8 [(0, .ref b)] := hl
  refine va_new (ci := 0) (fs := [.null, .null, .int 0, .int 0]) (C := "BitNumbers") (T := TB) (N := 4) hx hb hts inTB tyTB tyTB_ok hown (hts _ w_49) (hts _ w_50) (hts _ w_33) hK hP hD hS hA rfl (by decide) (Nat.le_of_ble_eq_true rfl) (Nat.le_of_ble_eq_true rfl) dL_law_0 (fun qB H hP hD hS => ?_)
  have hP : va_P D clM [(qB, .inr (0, [.null, .null, .int 0, .int 0]))] H := hP
  have hD : va_D (fun q : Nat => s.heap.size ≤ q) [(qB, .inr (0, [.null, .null, .int 0, .int 0]))] := hD
  refine lv_dup hx hb dL_law_3 rfl ?_
  have hFc := va_free (wc := [(qB, .inr (0, [.null, .null, .int 0, .int 0]))]) hD hS hA [0] rfl
  refine va_callv (va_runI (As := []) (rest := [.ref qB]) ⟨hx, hb, hml, hown, hts⟩ (qB_init l D cI cL qB H.size) (cwI 0 hts (gI w_53) rfl rfl rfl (hts _ w_33) (hts _ w_51) (hts _ w_52) rfl (by decide +kernel) ⟨Nat.le_of_ble_eq_true rfl, Nat.le_of_ble_eq_true rfl⟩) ⟨fun a U g mk q => by obtain ⟨q0, q1, qP, qK, qD⟩ := q; exact ⟨q0, q1, qP, va_K.moved (u := U) (U := U.calling g mk a) (Vm.Alike.refl U.vm) qK, qD⟩, fun U hU hW => ⟨rfl, by rw [hU], by rw [hU]; exact hP, va_K.moved hW.alike hK, hD.weaken (fun _ _ _ _ => trivial)⟩⟩ rfl rfl hl.1 rfl (lv_room (Nat.le_of_ble_eq_true rfl)) dL_law_4 ⟨Nat.le_of_ble_eq_true rfl, Nat.le_of_ble_eq_true rfl⟩) hS (fun q _ h => hFc q h) hFc (fun aB t H1 locs ht hvm hw hB hz1 hk1 hS => ?_)
  obtain ⟨hP1, hK1, hD1⟩ := hB
  rw [ht] at hP1
  obtain ⟨hPj, hDj⟩ := va_join (wr := []) (w1 := bw_c aB bs_0) hP hD [0] [] rfl rfl (by decide) (by decide) hk1 hFc hP1 hD1
  obtain ⟨w0, w6, w7⟩ := hw
  have hP : va_P D clM (bw_c aB bs_0) H1 := hPj
  have hD : va_D (fun q : Nat => s.heap.size ≤ q) (bw_c aB bs_0) := hDj
  clear hPj hDj hP1 hK1 hD1 hFc hz1 hk1 ht hvm
  rw [← w0]
  refine lv_astore_n (lv' := [(1, .ref (aB 0)), (0, .ref b)]) hx hb dL_law_7 rfl hl (by decide) rfl (fun ls hl => ?_)
  refine va_new (ci := 1) (fs := [.int 0, .int 0, .int 0, .null, .null, .null, .null, .null, .int 0, .int 0, .int 0, .long 0, .long 0, .int 0]) (C := "BitNumbersModel") (T := TM) (N := 14) hx hb hts inTM tyTM tyTM_ok hown (hts _ w_481) (hts _ w_482) (hts _ w_34) hK hP hD hS hA rfl (by decide) (Nat.le_of_ble_eq_true rfl) (Nat.le_of_ble_eq_true rfl) dL_law_8 (fun qM H hP hD hS => ?_)
  refine lv_dup hx hb dL_law_11 rfl ?_
  have hPc : va_P D clM [(qM, .inr (1, [.int 0, .int 0, .int 0, .null, .null, .null, .null, .null, .int 0, .int 0, .int 0, .long 0, .long 0, .int 0]))] H := hP.sub [3] rfl
  have hDc : va_D (fun q : Nat => s.heap.size ≤ q) [(qM, .inr (1, [.int 0, .int 0, .int 0, .null, .null, .null, .null, .null, .int 0, .int 0, .int 0, .long 0, .long 0, .int 0]))] := hD.sub [3] (by decide) rfl
  have hFc := va_free (wc := [(qM, .inr (1, [.int 0, .int 0, .int 0, .null, .null, .null, .null, .null, .int 0, .int 0, .int 0, .long 0, .long 0, .int 0]))]) hD hS hA [3] rfl
  refine va_callv (va_runI (As := []) (rest := [.ref qM]) ⟨hx, hb, hml, hown, hts⟩ (qM_init l D cI cL qM H.size) (cwI 0 hts (gI w_485) rfl rfl rfl (hts _ w_34) (hts _ w_483) (hts _ w_484) rfl (by decide +kernel) ⟨Nat.le_of_ble_eq_true rfl, Nat.le_of_ble_eq_true rfl⟩) ⟨fun a U g mk q => by obtain ⟨q0, q1, qP, qK, qD⟩ := q; exact ⟨q0, q1, qP, va_K.moved (u := U) (U := U.calling g mk a) (Vm.Alike.refl U.vm) qK, qD⟩, fun U hU hW => ⟨rfl, by rw [hU], by rw [hU]; exact hPc, va_K.moved hW.alike hK, hDc.weaken (fun _ _ _ _ => trivial)⟩⟩ rfl rfl hl.1 rfl (lv_room (Nat.le_of_ble_eq_true rfl)) dL_law_12 ⟨Nat.le_of_ble_eq_true rfl, Nat.le_of_ble_eq_true rfl⟩) hS (fun q _ h => hFc q h) hFc (fun aM t H1 locs ht hvm hw hB hz1 hk1 hS => ?_)
  obtain ⟨hP1, hK1, hD1⟩ := hB
  rw [ht] at hP1
  obtain ⟨hPj, hDj⟩ := va_join (wr := bw_c aB bs_0) (w1 := mw_c aM ms_0) hP hD [3] [0, 1, 2] rfl rfl (by decide) (by decide) hk1 hFc hP1 hD1
  obtain ⟨v0, v6, v7⟩ := hw
  have hP : va_P D clM (bw_c aB bs_0 ++ mw_c aM ms_0) H1 := hPj
  have hD : va_D (fun q : Nat => s.heap.size ≤ q) (bw_c aB bs_0 ++ mw_c aM ms_0) := hDj
  clear hPj hDj hP1 hK1 hD1 hFc hz1 hk1 ht hvm hPc hDc
  rw [← v0]
  refine lv_astore_n (lv' := [(2, .ref (aM 0)), (1, .ref (aB 0)), (0, .ref b)]) hx hb dL_law_15 rfl hl (by decide) rfl (fun ls hl => ?_)
  refine lv_iconst (v := 1) hx hb dL_law_16 (by decide) ?_
  refine va_newa (atype := .long) (a0 := (1, .inr (.inl (fun _ => 0)))) (ty := .long) hx hb (hts _ w_71) rfl hK hP hD hS hA (fun _ => rfl) (by decide) (N' := 1) (by decide) (by decide) (Nat.le_of_ble_eq_true rfl) (Nat.le_of_ble_eq_true rfl) dL_law_17 (fun o cA H hK1 hP hD hS => ?_)
  obtain rfl : cL = cA := (cK_long hK hK1).symm
  clear hK1
  refine lv_astore_n (lv' := [(3, .ref o), (2, .ref (aM 0)), (1, .ref (aB 0)), (0, .ref b)]) hx hb dL_law_19 rfl hl (by decide) rfl (fun ls hl => ?_)
  refine lv_iconst (v := 0) hx hb dL_law_20 (by decide) ?_
  refine lv_istore (lv' := [(4, .int 0), (3, .ref o), (2, .ref (aM 0)), (1, .ref (aB 0)), (0, .ref b)]) hx hb dL_law_21 hl (by decide) rfl (fun ls hl => ?_)
  have hKB : va_K D clM (tyA aB) s := by rw [tyA, w6, w7]; exact hK
  have hKM : va_K D clM (tyA aM) s := by rw [tyA, v6, v7]; exact hK
  have hM : lwd D aB aM o (fun q : Nat => s.heap.size ≤ q) s.heap H locs bs_0 ms_0 (fun _ => 0) := by
    refine ⟨?_, ?_, hS⟩
    · rw [lc, w7]; exact hP
    · rw [lc, w7]; exact hD
  refine W.widen (k := 10 + 0) (n := 931 + 6 * 0) (Nat.le_of_ble_eq_true rfl) (Nat.le_of_ble_eq_true rfl) ?_
  exact kL_loop C0 hlT hKB hKM hG hXw hxc hL (L / 4 + 1) 0 0 nI_0.symm (by omega) (by omega) bs_0 ms_0 (fun _ => 0) sim_0 H locs hM ls (lv_sub hl [4, 3, 2, 1, 0] rfl)
