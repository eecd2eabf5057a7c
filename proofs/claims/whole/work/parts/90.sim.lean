def bok (t : Int32) (v : Int64) : Prop := (t = 0 ∨ t = 1 ∨ t = 2 ∨ t = 3) ∧ (t = 0 ∨ t = 2 → bn_u v < 4294967296)
def sim (β : BS) (μ : MS) : Prop := ∃ n : Nat, n ≤ 64 ∧ bs_count β = nI n ∧ ms_count μ = nI n ∧ bs_latestTrap β = ms_trap μ ∧ ∀ i : Nat, i < n → bs_types β i = ms_types μ i ∧ bs_rows β i = ms_values μ i ∧ bok (ms_types μ i) (ms_values μ i)
theorem nI_sub {a b : Nat} (h : b ≤ a) : nI a - nI b = nI (a - b) := by
  have e := nI_add (a - b) b
  rw [Nat.sub_add_cancel h] at e
  rw [← e, Int32.add_sub_cancel]
theorem cut_ok (t : Int32) (v : Int64) (h : t = 0 ∨ t = 1 ∨ t = 2 ∨ t = 3) : bok t (fM_cut t v) := by
  refine ⟨h, fun q => ?_⟩
  have e : bn_u (v &&& 4294967295) < 4294967296 := by
    rw [bn_u_and, show bn_u 4294967295 = 2^32 - 1 from rfl, bn_and_mask]
    exact Nat.mod_lt _ (by decide)
  unfold fM_cut fM_cut_9
  rcases q with rfl | rfl
  · exact e
  · exact e
theorem cut_id {t : Int32} {v : Int64} (h : bok t v) : fM_cut t v = v := by
  have e : bn_u v < 4294967296 → v &&& 4294967295 = v := fun q => by
    apply bn_u_inj
    rw [bn_u_and, show bn_u 4294967295 = 2^32 - 1 from rfl, bn_and_mask]
    exact Nat.mod_eq_of_lt q
  unfold fM_cut fM_cut_9
  split
  · next w => exact e (h.2 (Or.inl w))
  · split
    · next w => exact e (h.2 (Or.inr w))
    · rfl
theorem put25 {β : BS} {n : Nat} (hc : bs_count β = nI n) (hn : n < 64) (t : Int32) (v : Int64) (s0 : Int32) : SB_put_25 t v s0 β ∧ fB_put_25 t v s0 β = (nI (n + 1), bs_set_count (bs_set_rows (bs_set_types β (upd (bs_types β) n t)) (vp_updL (bs_rows β) n (if s0 = 0 then v else fWhole_withoutSign 0 v))) (nI (n + 1))) := by
  have hin : vp_in (nI n) 64 := vp_in_nI hn (by decide)
  unfold SB_put_25 fB_put_25 SB_put_59 fB_put_59
  simp only [bs_count_types, bs_rows_types, bs_count_rows, bs_count_count, hc, nI_clamp (show n < 2 ^ 31 by omega), nI_1]
  by_cases q : s0 = 0
  · rw [if_pos q, if_pos q, if_pos q]; exact ⟨⟨hin, hin, trivial⟩, rfl⟩
  · rw [if_neg q, if_neg q, if_neg q]; exact ⟨⟨hin, hin, trivial⟩, rfl⟩
theorem put_B {β : BS} {n : Nat} (hc : bs_count β = nI n) (hn : n < 64) (t : Int32) (v : Int64) : SB_put t v β ∧ fB_put t v β = (nI (n + 1), bs_set_count (bs_set_rows (bs_set_types β (upd (bs_types β) n t)) (vp_updL (bs_rows β) n (fM_cut t v))) (nI (n + 1))) := by
  have h64 : bs_count β < 64 := by rw [hc]; exact nI_lt (b := 64) hn (by decide)
  unfold SB_put fB_put SB_put_20 fB_put_20 fM_cut fM_cut_9
  rw [if_pos h64, if_pos h64]
  by_cases q : t = 0
  · rw [if_pos q, if_pos q, if_pos q]
    have w := put25 hc hn t v 1
    rw [if_neg (by decide)] at w
    exact w
  · rw [if_neg q, if_neg q, if_neg q]
    by_cases q2 : t = 2
    · rw [if_pos q2, if_pos q2, if_pos q2]
      have w := put25 hc hn t v 1
      rw [if_neg (by decide)] at w
      exact w
    · rw [if_neg q2, if_neg q2, if_neg q2]
      have w := put25 hc hn t v 0
      rw [if_pos rfl] at w
      exact w
theorem put_full {β : BS} (hc : bs_count β = nI 64) (t : Int32) (v : Int64) : SB_put t v β ∧ fB_put t v β = (-1, β) := by
  have h64 : ¬ bs_count β < 64 := by rw [hc]; decide
  unfold SB_put fB_put
  rw [if_neg h64, if_neg h64]
  exact ⟨trivial, rfl⟩
theorem sim_ext {β : BS} {μ : MS} {n : Nat} (hn : n < 64) (t : Int32) (w : Int64) (hw : bok t w) (h3 : bs_latestTrap β = ms_trap μ) (h4 : ∀ i : Nat, i < n → bs_types β i = ms_types μ i ∧ bs_rows β i = ms_values μ i ∧ bok (ms_types μ i) (ms_values μ i))
    {β' : BS} {μ' : MS} (e1 : bs_count β' = nI (n + 1)) (e2 : ms_count μ' = nI (n + 1)) (e3 : bs_latestTrap β' = bs_latestTrap β) (e4 : ms_trap μ' = ms_trap μ) (e5 : bs_types β' = upd (bs_types β) n t) (e6 : bs_rows β' = vp_updL (bs_rows β) n w) (e7 : ms_types μ' = upd (ms_types μ) n t) (e8 : ms_values μ' = vp_updL (ms_values μ) n w) : sim β' μ' := by
  refine ⟨n + 1, hn, e1, e2, by rw [e3, e4, h3], fun i hi => ?_⟩
  rw [e5, e6, e7, e8]
  unfold upd vp_updL
  by_cases q : i = n
  · simp only [if_pos q]; exact ⟨trivial, trivial, hw⟩
  · simp only [if_neg q]; exact h4 i (by omega)
theorem sim_push {β : BS} {μ : MS} (h : sim β μ) (a : Int32) (b : Int64) : SB_push a b β ∧ SM_push a b μ ∧ (fB_push a b β).1 = (fM_push a b μ).1 ∧ sim (fB_push a b β).2 (fM_push a b μ).2 := by
  obtain ⟨n, hn, hb, hm, ht, hv⟩ := id h
  unfold SB_push SM_push fB_push fM_push SB_push_9 fB_push_9 SM_push_23 fM_push_23
  have hst : sim β (ms_set_thrown μ 0) := ⟨n, hn, hb, hm, ht, hv⟩
  by_cases q1 : a < 0
  · rw [if_pos q1, if_pos q1, if_pos q1, if_pos q1]; exact ⟨trivial, trivial, rfl, hst⟩
  · rw [if_neg q1, if_neg q1, if_neg q1, if_neg q1]
    by_cases q2 : a ≤ 3
    · rw [if_pos q2, if_pos q2, if_neg (Int32.not_lt.mpr q2), if_neg (Int32.not_lt.mpr q2)]
      rcases Nat.lt_or_ge n 64 with w | w
      · obtain ⟨s1, s2⟩ := put_B hb w a b
        have hne : ¬ ms_count (ms_set_thrown μ 0) = 64 := by
          rw [ms_count_thrown, hm]; intro q; exact absurd ((nI_eq (b := 64) (by omega) (by decide)).mp q) (by omega)
        rw [if_neg hne, if_neg hne]
        have hin : vp_in (nI n) 64 := vp_in_nI w (by decide)
        simp only [ms_count_thrown, ms_count_types, ms_count_values, ms_count_count, ms_types_thrown, ms_values_thrown, ms_values_types, hm, nI_clamp (show n < 2 ^ 31 by omega), nI_1]
        refine ⟨⟨s1, trivial⟩, ⟨hin, hin, trivial⟩, by rw [s2], ?_⟩
        rw [s2]
        have h4 : a = 0 ∨ a = 1 ∨ a = 2 ∨ a = 3 := by
          obtain ⟨j, hj, rfl⟩ := nI_of2 (M := 3) (n := 3) rfl q1 q2
          rcases (show j = 0 ∨ j = 1 ∨ j = 2 ∨ j = 3 by omega) with rfl | rfl | rfl | rfl
          · exact Or.inl rfl
          · exact Or.inr (Or.inl rfl)
          · exact Or.inr (Or.inr (Or.inl rfl))
          · exact Or.inr (Or.inr (Or.inr rfl))
        exact sim_ext w a (fM_cut a b) (cut_ok a b h4) ht hv rfl rfl rfl rfl rfl rfl rfl rfl
      · have e64 : n = 64 := by omega
        subst e64
        obtain ⟨s1, s2⟩ := put_full hb a b
        have he : ms_count (ms_set_thrown μ 0) = 64 := hm
        rw [if_pos he, if_pos he, s2]
        exact ⟨⟨s1, trivial⟩, trivial, rfl, hst⟩
    · rw [if_neg q2, if_neg q2, if_pos (Int32.not_le.mp q2), if_pos (Int32.not_le.mp q2)]; exact ⟨trivial, trivial, rfl, hst⟩
theorem there {β : BS} {n : Nat} (hb : bs_count β = nI n) (hn : n ≤ 64) (a : Int32) : (∃ j : Nat, j < n ∧ a = nI j ∧ fB_isThere a β = (1, β) ∧ ∀ μ : MS, ms_count μ = nI n → fM_isThere a μ = (1, μ)) ∨ (fB_isThere a β = (0, β) ∧ ∀ μ : MS, ms_count μ = nI n → fM_isThere a μ = (0, μ)) := by
  unfold fB_isThere fM_isThere fB_isThere_16 fM_isThere_16
  by_cases q1 : a < 0
  · simp only [if_pos q1]; exact Or.inr ⟨trivial, fun _ _ => trivial⟩
  · obtain ⟨j, hj, rfl⟩ := nI_of q1
    simp only [if_neg q1]
    rcases Nat.lt_or_ge j n with w | w
    · have q2 : ¬ nI n ≤ nI j := nI_ge w (by omega)
      exact Or.inl ⟨j, w, rfl, by rw [hb, if_neg q2], fun μ hμ => by rw [hμ, if_neg q2]⟩
    · have q2 : nI n ≤ nI j := nI_le w hj
      exact Or.inr ⟨by rw [hb, if_pos q2], fun μ hμ => by rw [hμ, if_pos q2]⟩
theorem place_of {n j : Nat} (hn : n ≤ 64) (hj : j < n) : nI n - 1 - nI j = nI (n - 1 - j) ∧ (nI n - 1 - nI j).toNatClampNeg = n - 1 - j ∧ vp_in (nI n - 1 - nI j) 64 := by
  have e : nI n - 1 - nI j = nI (n - 1 - j) := by
    rw [show nI n - 1 = nI (n - 1) from nI_sub (b := 1) (by omega), nI_sub (by omega)]
  rw [e]
  exact ⟨rfl, nI_clamp (by omega), vp_in_nI (by omega) (by decide)⟩
theorem sim_pop {β : BS} {μ : MS} (h : sim β μ) (f : Nat → Int64) : SB_pop β ∧ SM_pop μ ∧ ms_thrown (fM_pop μ).2 = (fL_pop β f).1 ∧ ((fL_pop β f).1 = 0 → (fL_pop β f).2.2 0 = (fM_pop μ).1) ∧ sim (fL_pop β f).2.1 (fM_pop μ).2 := by
  obtain ⟨n, hn, hb, hm, ht, hv⟩ := id h
  rcases Nat.eq_zero_or_pos n with w | w
  · subst w
    have hm0 : ms_count μ = 0 := hm
    have hth0 : fB_isThere 0 β = (0, β) := by
      unfold fB_isThere fB_isThere_16
      rw [if_neg (show ¬ (0 : Int32) < 0 by decide), if_pos (show bs_count β ≤ 0 by rw [hb]; decide)]
    have e : fB_pop β = (2, 0, β) := by
      unfold fB_pop fB_pop_5
      rw [hth0]; rfl
    have eS : SB_pop β := by
      unfold SB_pop SB_pop_5
      rw [hth0]; exact trivial
    have eM : fM_pop μ = (0, ms_set_thrown μ 1) := by
      unfold fM_pop fM_pop_13
      rw [if_pos hm0, if_pos (show ms_count (ms_set_thrown μ 1) = 0 from hm0)]
    have eMS : SM_pop μ := by
      unfold SM_pop SM_pop_13
      rw [if_pos hm0, if_pos (show ms_count (ms_set_thrown μ 1) = 0 from hm0)]; trivial
    have eL : fL_pop β f = (1, β, f) := by unfold fL_pop; rw [e]; rfl
    rw [eL, eM]
    exact ⟨eS, eMS, rfl, fun q => absurd q (show ¬ (1 : Int32) = 0 by decide), 0, hn, hb, hm, ht, hv⟩
  · obtain ⟨k, rfl⟩ : ∃ k, n = k + 1 := ⟨n - 1, by omega⟩
    have c1 : nI (k + 1) - 1 = nI k := nI_pred k
    have hne : ¬ ms_count μ = 0 := by rw [hm]; exact nI_ne0 (by omega) (by omega)
    have hth : fB_isThere 0 β = (1, β) := by
      unfold fB_isThere
      rw [if_neg (by decide), if_neg]
      rw [hb]; exact nI_nle (by omega) (by omega)
    have hin : vp_in (nI k) 64 := vp_in_nI (by omega) (by decide)
    have e : fB_pop β = (0, bs_rows β k, bs_set_count β (nI k)) := by
      unfold fB_pop fB_pop_5
      rw [hth]
      simp only [bs_count_count, bs_rows_count, hb, c1, nI_clamp (show k < 2 ^ 31 by omega)]
      rw [if_neg (by decide)]
    have eS : SB_pop β := by
      unfold SB_pop SB_pop_5
      rw [hth]
      simp only [bs_count_count, hb, c1]
      rw [if_neg (by decide)]
      exact ⟨hin, trivial⟩
    have eM : fM_pop μ = (ms_values μ k, ms_set_count (ms_set_thrown μ 0) (nI k)) := by
      unfold fM_pop fM_pop_13
      rw [if_neg hne]
      simp only [ms_count_thrown, ms_count_count, ms_values_count, ms_values_thrown, hm, c1, nI_clamp (show k < 2 ^ 31 by omega)]
      rw [if_neg (by rw [← hm]; exact hne)]
    have eMS : SM_pop μ := by
      unfold SM_pop SM_pop_13
      rw [if_neg hne]
      simp only [ms_count_thrown, ms_count_count, hm, c1]
      rw [if_neg (by rw [← hm]; exact hne)]
      exact ⟨hin, trivial⟩
    have eL : fL_pop β f = (0, bs_set_count β (nI k), vp_updL f 0 (bs_rows β k)) := by unfold fL_pop; rw [e]; rfl
    rw [eL, eM]
    refine ⟨eS, eMS, rfl, fun _ => ?_, k, by omega, rfl, rfl, ht, fun i hi => hv i (by omega)⟩
    show vp_updL f 0 (bs_rows β k) 0 = ms_values μ k
    rw [(hv k (by omega)).2.1.symm]; rfl
theorem sim_trap {β : BS} {μ : MS} (h : sim β μ) : (fB_trap β).1 = (fM_trap μ).1 ∧ sim (fB_trap β).2 (fM_trap μ).2 := by
  obtain ⟨n, hn, hb, hm, ht, hv⟩ := id h
  exact ⟨ht, n, hn, hb, hm, ht, hv⟩
theorem sim_type {β : BS} {μ : MS} (h : sim β μ) (a : Int32) : SB_type a β ∧ SM_type a μ ∧ (fB_type a β).1 = (fM_type a μ).1 ∧ sim (fB_type a β).2 (fM_type a μ).2 := by
  obtain ⟨n, hn, hb, hm, ht, hv⟩ := id h
  have hst : sim β (ms_set_thrown μ 0) := ⟨n, hn, hb, hm, ht, hv⟩
  unfold SB_type SM_type fB_type fM_type SB_type_5 SM_type_10 fB_type_5 fM_type_10
  rcases there hb hn a with ⟨j, hj, rfl, e1, e2⟩ | ⟨e1, e2⟩
  · rw [e1, e2 (ms_set_thrown μ 0) hm]
    obtain ⟨p1, p2, p3⟩ := place_of hn hj
    simp only [if_neg (show ¬ (1 : Int32) = 0 by decide), ms_count_thrown, ms_types_thrown, hb, hm, p2]
    exact ⟨⟨p3, trivial⟩, ⟨p3, trivial⟩, (hv _ (by omega)).1, hst⟩
  · rw [e1, e2 (ms_set_thrown μ 0) hm]
    simp only [if_pos]
    exact ⟨trivial, trivial, trivial, hst⟩
theorem sim_bits {β : BS} {μ : MS} (h : sim β μ) (a : Int32) : SB_bits a β ∧ SM_bits a μ ∧ (fB_bits a β).1 = (fM_bits a μ).1 ∧ sim (fB_bits a β).2 (fM_bits a μ).2 := by
  obtain ⟨n, hn, hb, hm, ht, hv⟩ := id h
  have hst : sim β (ms_set_thrown μ 0) := ⟨n, hn, hb, hm, ht, hv⟩
  unfold SB_bits SM_bits fB_bits fM_bits SB_bits_5 SM_bits_10 fB_bits_5 fM_bits_10
  rcases there hb hn a with ⟨j, hj, rfl, e1, e2⟩ | ⟨e1, e2⟩
  · rw [e1, e2 (ms_set_thrown μ 0) hm]
    obtain ⟨p1, p2, p3⟩ := place_of hn hj
    simp only [if_neg (show ¬ (1 : Int32) = 0 by decide), ms_count_thrown, ms_values_thrown, hb, hm, p2]
    exact ⟨⟨p3, trivial⟩, ⟨p3, trivial⟩, (hv _ (by omega)).2.1, hst⟩
  · rw [e1, e2 (ms_set_thrown μ 0) hm]
    simp only [if_pos]
    exact ⟨trivial, trivial, trivial, hst⟩
theorem sim_copy {β : BS} {μ : MS} (h : sim β μ) (a : Int32) : SB_copy a β ∧ SM_copy a μ ∧ (fB_copy a β).1 = (fM_copy a μ).1 ∧ sim (fB_copy a β).2 (fM_copy a μ).2 := by
  obtain ⟨n, hn, hb, hm, ht, hv⟩ := id h
  have hst : sim β (ms_set_thrown μ 0) := ⟨n, hn, hb, hm, ht, hv⟩
  unfold SB_copy SM_copy fB_copy fM_copy SB_copy_5 SM_copy_10 fB_copy_5 fM_copy_10 SM_copy_22 fM_copy_22
  rcases there hb hn a with ⟨j, hj, rfl, e1, e2⟩ | ⟨e1, e2⟩
  · rw [e1, e2 (ms_set_thrown μ 0) hm]
    obtain ⟨p1, p2, p3⟩ := place_of hn hj
    obtain ⟨v1, v2, v3⟩ := hv (n - 1 - j) (by omega)
    simp only [if_neg (show ¬ (1 : Int32) = 0 by decide), ms_count_thrown, ms_count_types, ms_count_values, ms_count_count, ms_types_thrown, ms_values_thrown, ms_values_types, hb, hm, p2, nI_clamp (show n < 2 ^ 31 by omega), nI_1]
    rcases Nat.lt_or_ge n 64 with w | w
    · have hne : ¬ nI n = 64 := by intro q; exact absurd ((nI_eq (b := 64) (by omega) (by decide)).mp q) (by omega)
      have hin : vp_in (nI n) 64 := vp_in_nI w (by decide)
      obtain ⟨s1, s2⟩ := put_B hb w (bs_types β (n - 1 - j)) (bs_rows β (n - 1 - j))
      rw [if_neg hne, if_neg hne, s2]
      refine ⟨⟨p3, p3, s1, trivial⟩, ⟨p3, hin, p3, hin, trivial⟩, rfl, ?_⟩
      rw [v1, v2, cut_id v3]
      exact sim_ext w (ms_types μ (n - 1 - j)) (ms_values μ (n - 1 - j)) v3 ht hv rfl rfl rfl rfl rfl rfl rfl rfl
    · have e64 : n = 64 := by omega
      subst e64
      obtain ⟨s1, s2⟩ := put_full hb (bs_types β (64 - 1 - j)) (bs_rows β (64 - 1 - j))
      rw [if_pos (show nI 64 = 64 from rfl), if_pos (show nI 64 = 64 from rfl), s2]
      exact ⟨⟨p3, p3, s1, trivial⟩, trivial, rfl, hst⟩
  · rw [e1, e2 (ms_set_thrown μ 0) hm]
    simp only [if_pos]
    exact ⟨trivial, trivial, trivial, hst⟩
theorem sim_clear {β : BS} {μ : MS} (h : sim β μ) : (fB_clear β).1 = (fM_clear μ).1 ∧ sim (fB_clear β).2 (fM_clear μ).2 := by
  obtain ⟨n, hn, hb, hm, ht, hv⟩ := id h
  exact ⟨by show bs_count β = ms_count μ; rw [hb, hm], 0, by decide, rfl, rfl, ht, fun i q => absurd q (Nat.not_lt_zero i)⟩
theorem sim_0 : sim bs_0 ms_0 := ⟨0, by decide, rfl, rfl, rfl, fun i h => absurd h (Nat.not_lt_zero i)⟩
