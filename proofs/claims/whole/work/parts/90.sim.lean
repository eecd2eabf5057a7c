def sim (β : BS) (μ : MS) : Prop := ∃ n : Nat, n ≤ 64 ∧ bs_count β = nI n ∧ ms_count μ = nI n ∧ bs_latestTrap β = ms_trap μ ∧ ∀ i : Nat, i < n → bs_types β i = ms_types μ i ∧ bs_rows β i = ms_values μ i ∧ bok (ms_types μ i) (ms_values μ i)
theorem cut_ok (t : Int32) (v : Int64) (h : t = 0 ∨ t = 1 ∨ t = 2 ∨ t = 3) : bok t (fM_cut t v) := by
  refine ⟨h, fun q => ?_⟩
  have e : bn_u (v &&& 4294967295) < 4294967296 := by
    rw [bn_u_and, show bn_u 4294967295 = 2^32 - 1 from rfl, bn_and_mask]
    exact Nat.mod_lt _ (by decide)
  unfold fM_cut fM_cut_9
  rcases q with rfl | rfl
  · exact e
  · exact e
theorem cut_id {t : Int32} {v : Int64} (h : bok t v) : fM_cut t v = v := by
  have e : bn_u v < 4294967296 → v &&& 4294967295 = v := fun q => by
    apply bn_u_inj
    rw [bn_u_and, show bn_u 4294967295 = 2^32 - 1 from rfl, bn_and_mask]
    exact Nat.mod_eq_of_lt q
  unfold fM_cut fM_cut_9
  split
  · next w => exact e (h.2 (Or.inl w))
  · split
    · next w => exact e (h.2 (Or.inr w))
    · rfl
theorem put25 {β : BS} {n : Nat} (hc : bs_count β = nI n) (hn : n < 64) (t : Int32) (v : Int64) (s0 : Int32) : SB_put_25 t v s0 β ∧ fB_put_25 t v s0 β = (nI (n + 1), bs_set_count (bs_set_rows (bs_set_types β (upd (bs_types β) n t)) (vp_updL (bs_rows β) n (if s0 = 0 then v else fWhole_withoutSign 0 v))) (nI (n + 1))) := by
  have hin : vp_in (nI n) 64 := vp_in_nI hn (by decide)
  unfold SB_put_25 fB_put_25 SB_put_59 fB_put_59
  simp only [bs_count_types, bs_rows_types, bs_count_rows, bs_count_count, hc, nI_clamp (show n < 2 ^ 31 by omega), nI_1]
  by_cases q : s0 = 0
  · rw [if_pos q, if_pos q, if_pos q]; exact ⟨⟨hin, hin, trivial⟩, rfl⟩
  · rw [if_neg q, if_neg q, if_neg q]; exact ⟨⟨hin, hin, trivial⟩, rfl⟩
theorem put_B {β : BS} {n : Nat} (hc : bs_count β = nI n) (hn : n < 64) (t : Int32) (v : Int64) : SB_put t v β ∧ fB_put t v β = (nI (n + 1), bs_set_count (bs_set_rows (bs_set_types β (upd (bs_types β) n t)) (vp_updL (bs_rows β) n (fM_cut t v))) (nI (n + 1))) := by
  have h64 : bs_count β < 64 := by rw [hc]; exact nI_lt (b := 64) hn (by decide)
  unfold SB_put fB_put SB_put_20 fB_put_20 fM_cut fM_cut_9
  rw [if_pos h64, if_pos h64]
  by_cases q : t = 0
  · rw [if_pos q, if_pos q, if_pos q]
    have w := put25 hc hn t v 1
    rw [if_neg (by decide)] at w
    exact w
  · rw [if_neg q, if_neg q, if_neg q]
    by_cases q2 : t = 2
    · rw [if_pos q2, if_pos q2, if_pos q2]
      have w := put25 hc hn t v 1
      rw [if_neg (by decide)] at w
      exact w
    · rw [if_neg q2, if_neg q2, if_neg q2]
      have w := put25 hc hn t v 0
      rw [if_pos rfl] at w
      exact w
theorem put_full {β : BS} (hc : bs_count β = nI 64) (t : Int32) (v : Int64) : SB_put t v β ∧ fB_put t v β = (-1, β) := by
  have h64 : ¬ bs_count β < 64 := by rw [hc]; decide
  unfold SB_put fB_put
  rw [if_neg h64, if_neg h64]
  exact ⟨trivial, rfl⟩
theorem sim_ext {β : BS} {μ : MS} {n : Nat} (hn : n < 64) (t : Int32) (w : Int64) (hw : bok t w) (h3 : bs_latestTrap β = ms_trap μ) (h4 : ∀ i : Nat, i < n → bs_types β i = ms_types μ i ∧ bs_rows β i = ms_values μ i ∧ bok (ms_types μ i) (ms_values μ i))
    {β' : BS} {μ' : MS} (e1 : bs_count β' = nI (n + 1)) (e2 : ms_count μ' = nI (n + 1)) (e3 : bs_latestTrap β' = bs_latestTrap β) (e4 : ms_trap μ' = ms_trap μ) (e5 : bs_types β' = upd (bs_types β) n t) (e6 : bs_rows β' = vp_updL (bs_rows β) n w) (e7 : ms_types μ' = upd (ms_types μ) n t) (e8 : ms_values μ' = vp_updL (ms_values μ) n w) : sim β' μ' := by
  refine ⟨n + 1, hn, e1, e2, by rw [e3, e4, h3], fun i hi => ?_⟩
  rw [e5, e6, e7, e8]
  unfold upd vp_updL
  by_cases q : i = n
  · simp only [if_pos q]; exact ⟨trivial, trivial, hw⟩
  · simp only [if_neg q]; exact h4 i (by omega)
theorem sim_push {β : BS} {μ : MS} (h : sim β μ) (a : Int32) (b : Int64) : SB_push a b β ∧ SM_push a b μ ∧ (fB_push a b β).1 = (fM_push a b μ).1 ∧ sim (fB_push a b β).2 (fM_push a b μ).2 := by
  obtain ⟨n, hn, hb, hm, ht, hv⟩ := id h
  unfold SB_push SM_push fB_push fM_push SB_push_9 fB_push_9 SM_push_23 fM_push_23
  have hst : sim β (ms_set_thrown μ 0) := ⟨n, hn, hb, hm, ht, hv⟩
  by_cases q1 : a < 0
  · rw [if_pos q1, if_pos q1, if_pos q1, if_pos q1]; exact ⟨trivial, trivial, rfl, hst⟩
  · rw [if_neg q1, if_neg q1, if_neg q1, if_neg q1]
    by_cases q2 : a ≤ 3
    · rw [if_pos q2, if_pos q2, if_neg (Int32.not_lt.mpr q2), if_neg (Int32.not_lt.mpr q2)]
      rcases Nat.lt_or_ge n 64 with w | w
      · obtain ⟨s1, s2⟩ := put_B hb w a b
        have hne : ¬ ms_count (ms_set_thrown μ 0) = 64 := by
          rw [ms_count_thrown, hm]; intro q; exact absurd ((nI_eq (b := 64) (by omega) (by decide)).mp q) (by omega)
        rw [if_neg hne, if_neg hne]
        have hin : vp_in (nI n) 64 := vp_in_nI w (by decide)
        simp only [ms_count_thrown, ms_count_types, ms_count_values, ms_count_count, ms_types_thrown, ms_values_thrown, ms_values_types, hm, nI_clamp (show n < 2 ^ 31 by omega), nI_1]
        refine ⟨⟨s1, trivial⟩, ⟨hin, hin, trivial⟩, by rw [s2], ?_⟩
        rw [s2]
        have h4 : a = 0 ∨ a = 1 ∨ a = 2 ∨ a = 3 := by
          obtain ⟨j, hj, rfl⟩ := nI_of2 (M := 3) (n := 3) rfl q1 q2
          rcases (show j = 0 ∨ j = 1 ∨ j = 2 ∨ j = 3 by omega) with rfl | rfl | rfl | rfl
          · exact Or.inl rfl
          · exact Or.inr (Or.inl rfl)
          · exact Or.inr (Or.inr (Or.inl rfl))
          · exact Or.inr (Or.inr (Or.inr rfl))
        exact sim_ext w a (fM_cut a b) (cut_ok a b h4) ht hv rfl rfl rfl rfl rfl rfl rfl rfl
      · have e64 : n = 64 := by omega
        subst e64
        obtain ⟨s1, s2⟩ := put_full hb a b
        have he : ms_count (ms_set_thrown μ 0) = 64 := hm
        rw [if_pos he, if_pos he, s2]
        exact ⟨⟨s1, trivial⟩, trivial, rfl, hst⟩
    · rw [if_neg q2, if_neg q2, if_pos (Int32.not_le.mp q2), if_pos (Int32.not_le.mp q2)]; exact ⟨trivial, trivial, rfl, hst⟩
theorem there {β : BS} {n : Nat} (hb : bs_count β = nI n) (hn : n ≤ 64) (a : Int32) : (∃ j : Nat, j < n ∧ a = nI j ∧ fB_isThere a β = (1, β) ∧ ∀ μ : MS, ms_count μ = nI n → fM_isThere a μ = (1, μ)) ∨ (fB_isThere a β = (0, β) ∧ ∀ μ : MS, ms_count μ = nI n → fM_isThere a μ = (0, μ)) := by
  unfold fB_isThere fM_isThere fB_isThere_16 fM_isThere_16
  by_cases q1 : a < 0
  · simp only [if_pos q1]; exact Or.inr ⟨trivial, fun _ _ => trivial⟩
  · obtain ⟨j, hj, rfl⟩ := nI_of q1
    simp only [if_neg q1]
    rcases Nat.lt_or_ge j n with w | w
    · have q2 : ¬ nI n ≤ nI j := nI_ge w (by omega)
      exact Or.inl ⟨j, w, rfl, by rw [hb, if_neg q2], fun μ hμ => by rw [hμ, if_neg q2]⟩
    · have q2 : nI n ≤ nI j := nI_le w hj
      exact Or.inr ⟨by rw [hb, if_pos q2], fun μ hμ => by rw [hμ, if_pos q2]⟩
theorem place_of {n j : Nat} (hn : n ≤ 64) (hj : j < n) : nI n - 1 - nI j = nI (n - 1 - j) ∧ (nI n - 1 - nI j).toNatClampNeg = n - 1 - j ∧ vp_in (nI n - 1 - nI j) 64 := by
  have e : nI n - 1 - nI j = nI (n - 1 - j) := by
    rw [show nI n - 1 = nI (n - 1) from nI_sub (b := 1) (by omega), nI_sub (by omega)]
  rw [e]
  exact ⟨rfl, nI_clamp (by omega), vp_in_nI (by omega) (by decide)⟩
theorem sim_pop {β : BS} {μ : MS} (h : sim β μ) (f : Nat → Int64) : SB_pop β ∧ SM_pop μ ∧ ms_thrown (fM_pop μ).2 = (fL_pop β f).1 ∧ ((fL_pop β f).1 = 0 → (fL_pop β f).2.2 0 = (fM_pop μ).1) ∧ sim (fL_pop β f).2.1 (fM_pop μ).2 := by
  obtain ⟨n, hn, hb, hm, ht, hv⟩ := id h
  rcases Nat.eq_zero_or_pos n with w | w
  · subst w
    have hm0 : ms_count μ = 0 := hm
    have hth0 : fB_isThere 0 β = (0, β) := by
      unfold fB_isThere fB_isThere_16
      rw [if_neg (show ¬ (0 : Int32) < 0 by decide), if_pos (show bs_count β ≤ 0 by rw [hb]; decide)]
    have e : fB_pop β = (2, 0, β) := by
      unfold fB_pop fB_pop_5
      rw [hth0]; rfl
    have eS : SB_pop β := by
      unfold SB_pop SB_pop_5
      rw [hth0]; exact trivial
    have eM : fM_pop μ = (0, ms_set_thrown μ 1) := by
      unfold fM_pop fM_pop_13
      rw [if_pos hm0, if_pos (show ms_count (ms_set_thrown μ 1) = 0 from hm0)]
    have eMS : SM_pop μ := by
      unfold SM_pop SM_pop_13
      rw [if_pos hm0, if_pos (show ms_count (ms_set_thrown μ 1) = 0 from hm0)]; trivial
    have eL : fL_pop β f = (1, β, f) := by unfold fL_pop; rw [e]; rfl
    rw [eL, eM]
    exact ⟨eS, eMS, rfl, fun q => absurd q (show ¬ (1 : Int32) = 0 by decide), 0, hn, hb, hm, ht, hv⟩
  · obtain ⟨k, rfl⟩ : ∃ k, n = k + 1 := ⟨n - 1, by omega⟩
    have c1 : nI (k + 1) - 1 = nI k := nI_pred k
    have hne : ¬ ms_count μ = 0 := by rw [hm]; exact nI_ne0 (by omega) (by omega)
    have hth : fB_isThere 0 β = (1, β) := by
      unfold fB_isThere
      rw [if_neg (by decide), if_neg]
      rw [hb]; exact nI_nle (by omega) (by omega)
    have hin : vp_in (nI k) 64 := vp_in_nI (by omega) (by decide)
    have e : fB_pop β = (0, bs_rows β k, bs_set_count β (nI k)) := by
      unfold fB_pop fB_pop_5
      rw [hth]
      simp only [bs_count_count, bs_rows_count, hb, c1, nI_clamp (show k < 2 ^ 31 by omega)]
      rw [if_neg (by decide)]
    have eS : SB_pop β := by
      unfold SB_pop SB_pop_5
      rw [hth]
      simp only [bs_count_count, hb, c1]
      rw [if_neg (by decide)]
      exact ⟨hin, trivial⟩
    have eM : fM_pop μ = (ms_values μ k, ms_set_count (ms_set_thrown μ 0) (nI k)) := by
      unfold fM_pop fM_pop_13
      rw [if_neg hne]
      simp only [ms_count_thrown, ms_count_count, ms_values_count, ms_values_thrown, hm, c1, nI_clamp (show k < 2 ^ 31 by omega)]
      rw [if_neg (by rw [← hm]; exact hne)]
    have eMS : SM_pop μ := by
      unfold SM_pop SM_pop_13
      rw [if_neg hne]
      simp only [ms_count_thrown, ms_count_count, hm, c1]
      rw [if_neg (by rw [← hm]; exact hne)]
      exact ⟨hin, trivial⟩
    have eL : fL_pop β f = (0, bs_set_count β (nI k), vp_updL f 0 (bs_rows β k)) := by unfold fL_pop; rw [e]; rfl
    rw [eL, eM]
    refine ⟨eS, eMS, rfl, fun _ => ?_, k, by omega, rfl, rfl, ht, fun i hi => hv i (by omega)⟩
    show vp_updL f 0 (bs_rows β k) 0 = ms_values μ k
    rw [(hv k (by omega)).2.1.symm]; rfl
theorem sim_trap {β : BS} {μ : MS} (h : sim β μ) : (fB_trap β).1 = (fM_trap μ).1 ∧ sim (fB_trap β).2 (fM_trap μ).2 := by
  obtain ⟨n, hn, hb, hm, ht, hv⟩ := id h
  exact ⟨ht, n, hn, hb, hm, ht, hv⟩
theorem sim_type {β : BS} {μ : MS} (h : sim β μ) (a : Int32) : SB_type a β ∧ SM_type a μ ∧ (fB_type a β).1 = (fM_type a μ).1 ∧ sim (fB_type a β).2 (fM_type a μ).2 := by
  obtain ⟨n, hn, hb, hm, ht, hv⟩ := id h
  have hst : sim β (ms_set_thrown μ 0) := ⟨n, hn, hb, hm, ht, hv⟩
  unfold SB_type SM_type fB_type fM_type SB_type_5 SM_type_10 fB_type_5 fM_type_10
  rcases there hb hn a with ⟨j, hj, rfl, e1, e2⟩ | ⟨e1, e2⟩
  · rw [e1, e2 (ms_set_thrown μ 0) hm]
    obtain ⟨p1, p2, p3⟩ := place_of hn hj
    simp only [if_neg (show ¬ (1 : Int32) = 0 by decide), ms_count_thrown, ms_types_thrown, hb, hm, p2]
    exact ⟨⟨p3, trivial⟩, ⟨p3, trivial⟩, (hv _ (by omega)).1, hst⟩
  · rw [e1, e2 (ms_set_thrown μ 0) hm]
    simp only [if_pos]
    exact ⟨trivial, trivial, trivial, hst⟩
theorem sim_bits {β : BS} {μ : MS} (h : sim β μ) (a : Int32) : SB_bits a β ∧ SM_bits a μ ∧ (fB_bits a β).1 = (fM_bits a μ).1 ∧ sim (fB_bits a β).2 (fM_bits a μ).2 := by
  obtain ⟨n, hn, hb, hm, ht, hv⟩ := id h
  have hst : sim β (ms_set_thrown μ 0) := ⟨n, hn, hb, hm, ht, hv⟩
  unfold SB_bits SM_bits fB_bits fM_bits SB_bits_5 SM_bits_10 fB_bits_5 fM_bits_10
  rcases there hb hn a with ⟨j, hj, rfl, e1, e2⟩ | ⟨e1, e2⟩
  · rw [e1, e2 (ms_set_thrown μ 0) hm]
    obtain ⟨p1, p2, p3⟩ := place_of hn hj
    simp only [if_neg (show ¬ (1 : Int32) = 0 by decide), ms_count_thrown, ms_values_thrown, hb, hm, p2]
    exact ⟨⟨p3, trivial⟩, ⟨p3, trivial⟩, (hv _ (by omega)).2.1, hst⟩
  · rw [e1, e2 (ms_set_thrown μ 0) hm]
    simp only [if_pos]
    exact ⟨trivial, trivial, trivial, hst⟩
theorem sim_copy {β : BS} {μ : MS} (h : sim β μ) (a : Int32) : SB_copy a β ∧ SM_copy a μ ∧ (fB_copy a β).1 = (fM_copy a μ).1 ∧ sim (fB_copy a β).2 (fM_copy a μ).2 := by
  obtain ⟨n, hn, hb, hm, ht, hv⟩ := id h
  have hst : sim β (ms_set_thrown μ 0) := ⟨n, hn, hb, hm, ht, hv⟩
  unfold SB_copy SM_copy fB_copy fM_copy SB_copy_5 SM_copy_10 fB_copy_5 fM_copy_10 SM_copy_22 fM_copy_22
  rcases there hb hn a with ⟨j, hj, rfl, e1, e2⟩ | ⟨e1, e2⟩
  · rw [e1, e2 (ms_set_thrown μ 0) hm]
    obtain ⟨p1, p2, p3⟩ := place_of hn hj
    obtain ⟨v1, v2, v3⟩ := hv (n - 1 - j) (by omega)
    simp only [if_neg (show ¬ (1 : Int32) = 0 by decide), ms_count_thrown, ms_count_types, ms_count_values, ms_count_count, ms_types_thrown, ms_values_thrown, ms_values_types, hb, hm, p2, nI_clamp (show n < 2 ^ 31 by omega), nI_1]
    rcases Nat.lt_or_ge n 64 with w | w
    · have hne : ¬ nI n = 64 := by intro q; exact absurd ((nI_eq (b := 64) (by omega) (by decide)).mp q) (by omega)
      have hin : vp_in (nI n) 64 := vp_in_nI w (by decide)
      obtain ⟨s1, s2⟩ := put_B hb w (bs_types β (n - 1 - j)) (bs_rows β (n - 1 - j))
      rw [if_neg hne, if_neg hne, s2]
      refine ⟨⟨p3, p3, s1, trivial⟩, ⟨p3, hin, p3, hin, trivial⟩, rfl, ?_⟩
      rw [v1, v2, cut_id v3]
      exact sim_ext w (ms_types μ (n - 1 - j)) (ms_values μ (n - 1 - j)) v3 ht hv rfl rfl rfl rfl rfl rfl rfl rfl
    · have e64 : n = 64 := by omega
      subst e64
      obtain ⟨s1, s2⟩ := put_full hb (bs_types β (64 - 1 - j)) (bs_rows β (64 - 1 - j))
      rw [if_pos (show nI 64 = 64 from rfl), if_pos (show nI 64 = 64 from rfl), s2]
      exact ⟨⟨p3, p3, s1, trivial⟩, trivial, rfl, hst⟩
  · rw [e1, e2 (ms_set_thrown μ 0) hm]
    simp only [if_pos]
    exact ⟨trivial, trivial, trivial, hst⟩
theorem sim_clear {β : BS} {μ : MS} (h : sim β μ) : (fB_clear β).1 = (fM_clear μ).1 ∧ sim (fB_clear β).2 (fM_clear μ).2 := by
  obtain ⟨n, hn, hb, hm, ht, hv⟩ := id h
  exact ⟨by show bs_count β = ms_count μ; rw [hb, hm], 0, by decide, rfl, rfl, ht, fun i q => absurd q (Nat.not_lt_zero i)⟩
theorem sim_0 : sim bs_0 ms_0 := ⟨0, by decide, rfl, rfl, rfl, fun i h => absurd h (Nat.not_lt_zero i)⟩
theorem sim_operator {β : BS} {μ : MS} (h : sim β μ) (a b : Int32) : (fB_operator a b β).1 = (fM_operator a b μ).1 ∧ sim (fB_operator a b β).2 (fM_operator a b μ).2 := by
  obtain ⟨n, hn, hb, hm, ht, hv⟩ := id h
  have hst : sim β (ms_set_thrown μ 0) := ⟨n, hn, hb, hm, ht, hv⟩
  unfold fB_operator fM_operator fM_operator_10
  rcases op_tab a with ⟨e1, e2⟩ | ⟨j, j1, j2, rfl, hC⟩
  · rw [if_pos e1, e2, if_neg (show ¬ (0 : Int32) ≤ -1 by decide)]
    exact ⟨rfl, hst⟩
  · obtain ⟨c1, c2, c3, c4, c5, _⟩ := hC
    rw [if_neg (show ¬ fOperators_exists (nI j) = 0 by rw [c1]; decide), if_pos c2, c3, c4, c5]
    by_cases q0 : b = 0
    · rw [if_pos q0, if_pos q0]; exact ⟨rfl, hst⟩
    · rw [if_neg q0, if_neg q0]
      by_cases q1 : b = 1
      · rw [if_pos q1, if_pos q1]; exact ⟨rfl, hst⟩
      · rw [if_neg q1, if_neg q1]
        by_cases q2 : b = 2
        · rw [if_pos q2, if_pos q2]; exact ⟨rfl, hst⟩
        · rw [if_neg q2, if_neg q2]; exact ⟨rfl, hst⟩
theorem m_exp_eq (k : Nat) (v : Int64) (hv : bn_ok k v) : fM_exponent (tt k) v = fFormat_exponent k v := Int32.toInt_inj.mp (by rw [m_exponent, bn_exponent k v hv])
theorem parts_f (k : Nat) (v : Int64) (hv : bn_ok k v) (b : Int32) (β : BS) (μ : MS) : (fB_parts_59 b k v β).2 = β ∧ (fB_parts_59 b k v β).1 = (if b < 0 then fM_parts_39 μ else (if b ≤ 2 then fM_parts_70 b (tt k) v μ else fM_parts_39 μ)).1 ∧ (if b < 0 then fM_parts_39 μ else (if b ≤ 2 then fM_parts_70 b (tt k) v μ else fM_parts_39 μ)).2 = μ := by
  unfold fB_parts_59 fM_parts_39 fM_parts_70 fFormat_kind
  rw [m_isMinus, m_exp_eq k v hv, m_isNone k v hv, m_isInfinite k v hv, m_isZero k v hv]
  by_cases q0 : b = 0
  · subst q0
    rw [if_pos rfl, if_neg (show ¬ (0 : Int32) < 0 by decide), if_pos (show (0 : Int32) ≤ 2 by decide), if_pos rfl]
    split <;> exact ⟨rfl, rfl, rfl⟩
  · rw [if_neg q0]
    by_cases q1 : b = 1
    · subst q1
      rw [if_pos rfl, if_neg (show ¬ (1 : Int32) < 0 by decide), if_pos (show (1 : Int32) ≤ 2 by decide), if_neg q0, if_pos rfl]
      exact ⟨rfl, rfl, rfl⟩
    · rw [if_neg q1]
      by_cases q2 : b = 2
      · subst q2
        rw [if_pos rfl, if_neg (show ¬ (2 : Int32) < 0 by decide), if_pos (show (2 : Int32) ≤ 2 by decide), if_neg q0, if_neg q1]
        split
        · split
          · split
            · split <;> exact ⟨rfl, rfl, rfl⟩
            · exact ⟨rfl, rfl, rfl⟩
          · exact ⟨rfl, rfl, rfl⟩
        · exact ⟨rfl, rfl, rfl⟩
      · rw [if_neg q2]
        by_cases w1 : b < 0
        · rw [if_pos w1]; exact ⟨rfl, rfl, rfl⟩
        · rw [if_neg w1]
          by_cases w2 : b ≤ 2
          · obtain ⟨i, hi, rfl⟩ := nI_of2 (M := 2) (n := 2) rfl w1 w2
            rcases (show i = 0 ∨ i = 1 ∨ i = 2 by omega) with rfl | rfl | rfl
            · exact absurd rfl q0
            · exact absurd rfl q1
            · exact absurd rfl q2
          · rw [if_neg w2]; exact ⟨rfl, rfl, rfl⟩
theorem sim_parts {β : BS} {μ : MS} (h : sim β μ) (a b : Int32) : SB_parts a b β ∧ SM_parts a b μ ∧ (fB_parts a b β).1 = (fM_parts a b μ).1 ∧ sim (fB_parts a b β).2 (fM_parts a b μ).2 := by
  obtain ⟨n, hn, hb, hm, ht, hv⟩ := id h
  have hst : sim β (ms_set_thrown μ 0) := ⟨n, hn, hb, hm, ht, hv⟩
  unfold SB_parts SM_parts fB_parts fM_parts SB_parts_5 SM_parts_10 fB_parts_5 fM_parts_10 SM_parts_55 fM_parts_55
  rcases there hb hn a with ⟨j, hj, rfl, e1, e2⟩ | ⟨e1, e2⟩
  · rw [e1, e2 (ms_set_thrown μ 0) hm]
    obtain ⟨p1, p2, p3⟩ := place_of hn hj
    obtain ⟨v1, v2, v3⟩ := hv (n - 1 - j) (by omega)
    simp only [if_neg (show ¬ (1 : Int32) = 0 by decide), ms_count_thrown, ms_types_thrown, ms_values_thrown, hb, hm, p2, v1, v2]
    have fl : ∀ k : Nat, bok (tt k) (ms_values μ (n - 1 - j)) → ms_types μ (n - 1 - j) = tt k → (k = 0 ∨ k = 1) → (vp_in (nI n - 1 - nI j) 64 ∧ if 2 ≤ ms_types μ (n - 1 - j) then vp_in (nI n - 1 - nI j) 64 ∧ vp_in (nI n - 1 - nI j) 64 ∧ SB_parts_59 b (fFormat_of (ms_types μ (n - 1 - j))) (ms_values μ (n - 1 - j)) β else SB_parts_25 β) ∧
        (vp_in (nI n - 1 - nI j) 64 ∧ if ms_types μ (n - 1 - j) < 2 then SM_parts_39 (ms_set_thrown μ 0) else if b < 0 then SM_parts_39 (ms_set_thrown μ 0) else if b ≤ 2 then vp_in (nI n - 1 - nI j) 64 ∧ vp_in (nI n - 1 - nI j) 64 ∧ SM_parts_70 b (ms_types μ (n - 1 - j)) (ms_values μ (n - 1 - j)) (ms_set_thrown μ 0) else SM_parts_39 (ms_set_thrown μ 0)) ∧
        (if 2 ≤ ms_types μ (n - 1 - j) then fB_parts_59 b (fFormat_of (ms_types μ (n - 1 - j))) (ms_values μ (n - 1 - j)) β else fB_parts_25 β).1 = (if ms_types μ (n - 1 - j) < 2 then fM_parts_39 (ms_set_thrown μ 0) else if b < 0 then fM_parts_39 (ms_set_thrown μ 0) else if b ≤ 2 then fM_parts_70 b (ms_types μ (n - 1 - j)) (ms_values μ (n - 1 - j)) (ms_set_thrown μ 0) else fM_parts_39 (ms_set_thrown μ 0)).1 ∧
        sim (if 2 ≤ ms_types μ (n - 1 - j) then fB_parts_59 b (fFormat_of (ms_types μ (n - 1 - j))) (ms_values μ (n - 1 - j)) β else fB_parts_25 β).2 (if ms_types μ (n - 1 - j) < 2 then fM_parts_39 (ms_set_thrown μ 0) else if b < 0 then fM_parts_39 (ms_set_thrown μ 0) else if b ≤ 2 then fM_parts_70 b (ms_types μ (n - 1 - j)) (ms_values μ (n - 1 - j)) (ms_set_thrown μ 0) else fM_parts_39 (ms_set_thrown μ 0)).2 := by
      intro k hok ek hk
      have g2 : (2 : Int32) ≤ tt k := by rcases hk with rfl | rfl <;> decide
      have l2 : ¬ tt k < 2 := by rcases hk with rfl | rfl <;> decide
      have ef : fFormat_of (tt k) = k := by rcases hk with rfl | rfl <;> rfl
      obtain ⟨f1, f2, f3⟩ := parts_f k (ms_values μ (n - 1 - j)) (ok_of hok) b β (ms_set_thrown μ 0)
      simp only [ek, if_pos g2, if_neg l2, ef]
      refine ⟨⟨p3, p3, p3, ?_⟩, ⟨p3, ?_⟩, f2, ?_⟩
      · unfold SB_parts_59
        simp only [ite_self]
      · unfold SM_parts_39 SM_parts_70
        split
        · trivial
        · split
          · exact ⟨p3, p3, trivial⟩
          · trivial
      · rw [f1, f3]; exact hst
    rcases v3.1 with w | w | w | w
    · simp only [w, if_neg (show ¬ (2 : Int32) ≤ 0 by decide), if_pos (show (0 : Int32) < 2 by decide)]
      exact ⟨⟨p3, trivial⟩, ⟨p3, trivial⟩, rfl, hst⟩
    · simp only [w, if_neg (show ¬ (2 : Int32) ≤ 1 by decide), if_pos (show (1 : Int32) < 2 by decide)]
      exact ⟨⟨p3, trivial⟩, ⟨p3, trivial⟩, rfl, hst⟩
    · exact fl 0 (by rw [w] at v3; exact v3) w (Or.inl rfl)
    · exact fl 1 (by rw [w] at v3; exact v3) w (Or.inr rfl)
  · rw [e1, e2 (ms_set_thrown μ 0) hm]
    simp only [if_pos]
    exact ⟨trivial, trivial, rfl, hst⟩
theorem top22 (ty : Int32) (β : BS) (n : Nat) (hn : n ≤ 64) (hb : bs_count β = nI n) : ∀ (f i : Nat), i ≤ n → n - i < f → SB_areOnTop_22 f ty (nI i) β ∧ (((∀ m, i ≤ m → m < n → bs_types β m = ty) ∧ fB_areOnTop_22 f ty (nI i) β = (1, β)) ∨ ((∃ m, i ≤ m ∧ m < n ∧ bs_types β m ≠ ty) ∧ fB_areOnTop_22 f ty (nI i) β = (0, β))) := by
  intro f
  induction f with
  | zero => intro i h1 h2; omega
  | succ f ih =>
    intro i h1 h2
    unfold SB_areOnTop_22 fB_areOnTop_22
    rw [hb]
    by_cases q : n ≤ i
    · rw [if_pos (nI_le q (by omega)), if_pos (nI_le q (by omega))]
      exact ⟨trivial, Or.inl ⟨fun m m1 m2 => by omega, rfl⟩⟩
    · rw [if_neg (nI_ge (by omega) (by omega)), if_neg (nI_ge (by omega) (by omega)), nI_clamp (show i < 2 ^ 31 by omega), nI_1]
      have hin : vp_in (nI i) 64 := vp_in_nI (by omega) (by decide)
      by_cases w : bs_types β i = ty
      · rw [if_pos w, if_pos w]
        obtain ⟨s1, s2⟩ := ih (i + 1) (by omega) (by omega)
        refine ⟨⟨hin, s1⟩, ?_⟩
        rcases s2 with ⟨a1, a2⟩ | ⟨⟨m, a1, a2, a3⟩, a4⟩
        · refine Or.inl ⟨fun m m1 m2 => ?_, a2⟩
          rcases Nat.eq_or_lt_of_le m1 with e | e
          · rw [← e]; exact w
          · exact a1 m e m2
        · exact Or.inr ⟨⟨m, by omega, a2, a3⟩, a4⟩
      · rw [if_neg w, if_neg w]
        exact ⟨⟨hin, trivial⟩, Or.inr ⟨⟨i, Nat.le_refl i, by omega, w⟩, rfl⟩⟩
theorem onTop (p : Nat) (hp : p = 1 ∨ p = 2) (ty : Int32) (β : BS) (n : Nat) (hn : n ≤ 64) (hb : bs_count β = nI n) : SB_areOnTop (nI p) ty β ∧ (((p ≤ n ∧ ∀ m, n - p ≤ m → m < n → bs_types β m = ty) ∧ fB_areOnTop (nI p) ty β = (1, β)) ∨ (¬ (p ≤ n ∧ ∀ m, n - p ≤ m → m < n → bs_types β m = ty) ∧ fB_areOnTop (nI p) ty β = (0, β))) := by
  have c1 : ¬ nI p < 1 := by rcases hp with rfl | rfl <;> decide
  unfold SB_areOnTop fB_areOnTop SB_areOnTop_13 fB_areOnTop_13
  rw [if_neg c1, if_neg c1, hb]
  by_cases q : p ≤ n
  · rw [if_pos (nI_le q (by omega)), if_pos (nI_le q (by omega)), nI_sub q, nI_toInt (show n < 2 ^ 31 by omega), nI_toInt (show n - p < 2 ^ 31 by omega)]
    obtain ⟨s1, s2⟩ := top22 ty β n hn hb ((((n : Int) - ((n - p : Nat) : Int) + 1).toNat) + 1) (n - p) (by omega) (by omega)
    refine ⟨s1, ?_⟩
    rcases s2 with ⟨a1, a2⟩ | ⟨⟨m, a1, a2, a3⟩, a4⟩
    · exact Or.inl ⟨⟨q, a1⟩, a2⟩
    · exact Or.inr ⟨fun w => a3 (w.2 m a1 a2), a4⟩
  · rw [if_neg (nI_ge (by omega) (by omega)), if_neg (nI_ge (by omega) (by omega))]
    exact ⟨trivial, Or.inr ⟨fun w => q w.1, rfl⟩⟩
theorem ref41 (p : Nat) (hp : p = 1 ∨ p = 2) (n : Nat) (hn : n ≤ 64) (σ : MS) (hc : ms_count σ = nI n) (o sh ty : Int32) :
    ((p ≤ n ∧ ∀ m, n - p ≤ m → m < n → ms_types σ m = ty) → fM_apply_41 o sh (nI p) ty σ = fM_apply_86 o sh (nI p) ty σ ∧ (SM_apply_86 o sh (nI p) ty σ → SM_apply_41 o sh (nI p) ty σ)) ∧
    (¬ (p ≤ n ∧ ∀ m, n - p ≤ m → m < n → ms_types σ m = ty) → fM_apply_41 o sh (nI p) ty σ = fM_apply_90 o sh (nI p) ty σ ∧ SM_apply_41 o sh (nI p) ty σ) := by
  have s90 : SM_apply_90 o sh (nI p) ty σ := trivial
  unfold fM_apply_41 SM_apply_41
  rw [hc]
  by_cases q : p ≤ n
  · have c1 : ¬ nI n < nI p := nI_nlt q (by omega)
    have e1 : nI n - 1 = nI (n - 1) := nI_sub (b := 1) (by omega)
    have k1 : (nI n - 1).toNatClampNeg = n - 1 := by rw [e1, nI_clamp (by omega)]
    have i1 : vp_in (nI n - 1) 64 := by rw [e1]; exact vp_in_nI (by omega) (by decide)
    rw [if_neg c1, if_neg c1, k1]
    rcases hp with rfl | rfl
    · refine ⟨fun w => ?_, fun w => ?_⟩
      · have t1 := w.2 (n - 1) (Nat.le_refl _) (by omega)
        rw [if_pos t1, if_pos t1, if_pos (show nI 1 = 1 from rfl), if_pos (show nI 1 = 1 from rfl)]
        exact ⟨rfl, fun h => ⟨i1, h⟩⟩
      · have t1 : ¬ ms_types σ (n - 1) = ty := fun t => w ⟨q, fun m m1 m2 => by rw [show m = n - 1 by omega]; exact t⟩
        rw [if_neg t1, if_neg t1]
        exact ⟨rfl, i1, s90⟩
    · have e2 : nI n - 2 = nI (n - 2) := nI_sub (b := 2) (by omega)
      have k2 : (nI n - 2).toNatClampNeg = n - 2 := by rw [e2, nI_clamp (by omega)]
      have i2 : vp_in (nI n - 2) 64 := by rw [e2]; exact vp_in_nI (by omega) (by decide)
      rw [k2, if_neg (show ¬ nI 2 = 1 by decide), if_neg (show ¬ nI 2 = 1 by decide)]
      refine ⟨fun w => ?_, fun w => ?_⟩
      · have t1 := w.2 (n - 1) (by omega) (by omega)
        have t2 := w.2 (n - 2) (by omega) (by omega)
        rw [if_pos t1, if_pos t1, if_pos t2, if_pos t2]
        exact ⟨rfl, fun h => ⟨i1, i2, h⟩⟩
      · by_cases t1 : ms_types σ (n - 1) = ty
        · have t2 : ¬ ms_types σ (n - 2) = ty := fun t => w ⟨q, fun m m1 m2 => by
            rcases (show m = n - 1 ∨ m = n - 2 by omega) with r | r
            · rw [r]; exact t1
            · rw [r]; exact t⟩
          rw [if_pos t1, if_pos t1, if_neg t2, if_neg t2]
          exact ⟨rfl, i1, i2, s90⟩
        · rw [if_neg t1, if_neg t1]
          exact ⟨rfl, i1, s90⟩
  · have c1 : nI n < nI p := nI_lt (by omega) (by omega)
    rw [if_pos c1, if_pos c1]
    exact ⟨fun w => absurd w.1 q, fun _ => ⟨rfl, s90⟩⟩
theorem trap_le (o : Int32) (x y : Int64) : fOperators_trapOf o x y = 0 ∨ (¬ fOperators_trapOf o x y = 0 ∧ ¬ fOperators_trapOf o x y ≤ 0) := by
  have key : ∀ t : Int32, (t = 0 ∨ t = 1 ∨ t = 2 ∨ t = 3) → (t = 0 ∨ (¬ t = 0 ∧ ¬ t ≤ 0)) := by
    intro t h
    rcases h with rfl | rfl | rfl | rfl
    · exact Or.inl rfl
    · exact Or.inr ⟨by decide, by decide⟩
    · exact Or.inr ⟨by decide, by decide⟩
    · exact Or.inr ⟨by decide, by decide⟩
  apply key
  have hw : ∀ c t : Int32, fWhole_trapOf c t x y = 0 ∨ fWhole_trapOf c t x y = 1 ∨ fWhole_trapOf c t x y = 2 ∨ fWhole_trapOf c t x y = 3 := by
    intro c t
    unfold fWhole_trapOf fWhole_trapOf_36 fWhole_trapOf_66 fWhole_trapOf_67 fWhole_trapOf_12
    repeat' split
    all_goals first | exact Or.inl rfl | exact Or.inr (Or.inl rfl) | exact Or.inr (Or.inr (Or.inl rfl))
  have hcv : ∀ (k : Nat) (r : Int32), fConversions_trapOf o k r x = 0 ∨ fConversions_trapOf o k r x = 1 ∨ fConversions_trapOf o k r x = 2 ∨ fConversions_trapOf o k r x = 3 := by
    intro k r
    unfold fConversions_trapOf
    split
    · split
      · exact Or.inr (Or.inr (Or.inl rfl))
      · exact Or.inl rfl
    · exact Or.inr (Or.inr (Or.inr rfl))
  unfold fOperators_trapOf fOperators_trapOf_6 fOperators_trapOf_12 fOperators_trapOf_24 fOperators_trapOf_76
  split
  · exact hw _ _
  · split
    · exact hw _ _
    · split
      · split
        · exact Or.inl rfl
        · split
          · exact Or.inl rfl
          · exact hcv _ _
      · exact Or.inl rfl
theorem sim_apply {β : BS} {μ : MS} (h : sim β μ) (a : Int32) (f : Nat → Int64) : SB_apply a β ∧ SM_apply a μ ∧ ms_thrown (fM_apply a μ).2 = (fL_apply a β f).1 ∧ ((fL_apply a β f).1 = 0 → (fL_apply a β f).2.2 0 = (fM_apply a μ).1.toInt64) ∧ sim (fL_apply a β f).2.1 (fM_apply a μ).2 := by
  obtain ⟨n, hn, hb, hm, ht, hv⟩ := id h
  rcases op_tab a with ⟨e1, e2⟩ | ⟨j, j1, j2, rfl, hC⟩
  · have eB : fB_apply a β = (1, 0, bs_set_latestTrap β 0) := by unfold fB_apply; rw [if_pos e1]
    have eM : fM_apply a μ = (0, ms_set_thrown (ms_set_trap μ 0) 1) := by
      unfold fM_apply fM_apply_10 fM_apply_20
      rw [e2, if_neg (show ¬ (0 : Int32) ≤ -1 by decide), if_neg (show ¬ (0 : Int32) ≤ -1 by decide)]
    have eL : fL_apply a β f = (1, bs_set_latestTrap β 0, f) := by unfold fL_apply; rw [eB]; rfl
    rw [eL, eM]
    refine ⟨?_, ?_, rfl, fun q => absurd q (show ¬ (1 : Int32) = 0 by decide), n, hn, hb, hm, rfl, hv⟩
    · unfold SB_apply; rw [if_pos e1]; trivial
    · unfold SM_apply SM_apply_10 SM_apply_20
      rw [e2, if_neg (show ¬ (0 : Int32) ≤ -1 by decide), if_neg (show ¬ (0 : Int32) ≤ -1 by decide)]; trivial
  · obtain ⟨c1, c2, c3, c4, c5, c6, c7, c8⟩ := hC
    obtain ⟨p, hp, hop⟩ : ∃ p : Nat, (p = 1 ∨ p = 2) ∧ fOperators_operands (nI j) = nI p := by
      rcases c6 with w | w
      · exact ⟨1, Or.inl rfl, w⟩
      · exact ⟨2, Or.inr rfl, w⟩
    have hp1 : 1 ≤ p ∧ p ≤ 2 := by omega
    generalize hβ1 : bs_set_latestTrap β 0 = β1
    have b1c : bs_count β1 = nI n := by rw [← hβ1]; exact hb
    have b1t : bs_types β1 = bs_types β := by rw [← hβ1]; rfl
    have b1r : bs_rows β1 = bs_rows β := by rw [← hβ1]; rfl
    generalize hμ1 : ms_set_thrown (ms_set_trap μ 0) 0 = μ1
    have m1c : ms_count μ1 = nI n := by rw [← hμ1]; exact hm
    have m1t : ms_types μ1 = ms_types μ := by rw [← hμ1]; rfl
    have m1v : ms_values μ1 = ms_values μ := by rw [← hμ1]; rfl
    have m1p : ms_trap μ1 = 0 := by rw [← hμ1]; rfl
    have b1p : bs_latestTrap β1 = 0 := by rw [← hβ1]; rfl
    have eB0 : fB_apply (nI j) β = fB_apply_27 (nI j) (nI p) β1 := by
      unfold fB_apply; rw [if_neg (show ¬ fOperators_exists (nI j) = 0 by rw [c1]; decide), hop, hβ1]
    have eB1 : SB_apply (nI j) β ↔ SB_apply_27 (nI j) (nI p) β1 := by
      unfold SB_apply; rw [if_neg (show ¬ fOperators_exists (nI j) = 0 by rw [c1]; decide), hop, hβ1]
    generalize hty : fOperators_operandType (nI j) = ty at *
    generalize hrt : fOperators_resultType (nI j) = rt at *
    generalize hsh : fM_operatorShape (nI j) = sh at *
    have eM0 : fM_apply (nI j) μ = fM_apply_41 (nI j) sh (nI p) ty μ1 := by
      unfold fM_apply fM_apply_10 fM_apply_20 fM_apply_34
      rw [hsh, if_pos c2, if_pos c2, hμ1, ← c4, ← c3, hop]
    have eM1 : SM_apply (nI j) μ ↔ SM_apply_41 (nI j) sh (nI p) ty μ1 := by
      unfold SM_apply SM_apply_10 SM_apply_20 SM_apply_34
      rw [hsh, if_pos c2, if_pos c2, hμ1, ← c4, ← c3, hop]
    obtain ⟨r1, r2⟩ := ref41 p hp n hn μ1 m1c (nI j) sh ty
    obtain ⟨o1, o2⟩ := onTop p hp ty β1 n hn b1c
    have same : (p ≤ n ∧ ∀ m, n - p ≤ m → m < n → bs_types β1 m = ty) ↔ (p ≤ n ∧ ∀ m, n - p ≤ m → m < n → ms_types μ1 m = ty) := by
      rw [b1t, m1t]
      constructor
      · intro w; exact ⟨w.1, fun m a1 a2 => by rw [← (hv m a2).1]; exact w.2 m a1 a2⟩
      · intro w; exact ⟨w.1, fun m a1 a2 => by rw [(hv m a2).1]; exact w.2 m a1 a2⟩
    rw [eB1, eM1, eM0]
    rcases o2 with ⟨g, eT⟩ | ⟨g, eT⟩
    · obtain ⟨r3, r4⟩ := r1 (same.mp g)
      obtain ⟨g1, g2⟩ := g
      have ec : nI n - nI p = nI (n - p) := nI_sub g1
      have ec1 : nI n - 1 = nI (n - 1) := nI_sub (b := 1) (by omega)
      have kc : (nI n - nI p).toNatClampNeg = n - p := by rw [ec, nI_clamp (by omega)]
      have kc1 : (nI n - 1).toNatClampNeg = n - 1 := by rw [ec1, nI_clamp (by omega)]
      have ic : vp_in (nI n - nI p) 64 := by rw [ec]; exact vp_in_nI (by omega) (by decide)
      have ic1 : vp_in (nI n - 1) 64 := by rw [ec1]; exact vp_in_nI (by omega) (by decide)
      obtain ⟨x1, x2, x3⟩ := hv (n - p) (by omega)
      obtain ⟨y1, y2, y3⟩ := hv (n - 1) (by omega)
      have tx : ms_types μ (n - p) = ty := by rw [← x1, ← b1t]; exact g2 (n - p) (Nat.le_refl _) (by omega)
      have tyy : ms_types μ (n - 1) = ty := by rw [← y1, ← b1t]; exact g2 (n - 1) (by omega) (by omega)
      rw [tx] at x3
      rw [tyy] at y3
      generalize hμ2 : ms_set_thrown μ1 0 = μ2
      have m2c : ms_count μ2 = nI n := by rw [← hμ2]; exact m1c
      have m2t : ms_types μ2 = ms_types μ := by rw [← hμ2]; exact m1t
      have m2v : ms_values μ2 = ms_values μ := by rw [← hμ2]; exact m1v
      have m2p : ms_trap μ2 = 0 := by rw [← hμ2]; exact m1p
      have hxy : fOperators_operands (nI j) = 1 → ms_values μ (n - 1) = ms_values μ (n - p) := by
        intro w
        rw [hop] at w
        have : p = 1 := (nI_eq (b := 1) (by omega) (by decide)).mp w
        rw [this]
      have W := worked_val j j1 j2 c1 (ms_values μ (n - p)) (ms_values μ (n - 1)) (by rw [hty]; exact x3) (by rw [hty]; exact y3) hxy μ2 m2p
      unfold WK at W
      rw [hty, hrt] at W
      obtain ⟨k1, k2, k3, k4⟩ := W
      have e86 : fM_apply_86 (nI j) sh (nI p) ty μ1 = fM_apply_153 sh (nI p) (fM_worked (nI j) ty (ms_values μ (n - p)) (ms_values μ (n - 1)) μ2).1 (fM_worked (nI j) ty (ms_values μ (n - p)) (ms_values μ (n - 1)) μ2).2 := by
        unfold fM_apply_86 fM_apply_91 fM_apply_104 fM_apply_127 fM_apply_140 fM_apply_151
        rw [if_neg (show ¬ (1 : Int32) = 0 by decide), if_neg (show ¬ (1 : Int32) = 0 by decide), hμ2, m2c, kc, kc1, m2v]
      have s86 : SM_apply_153 sh (nI p) (fM_worked (nI j) ty (ms_values μ (n - p)) (ms_values μ (n - 1)) μ2).1 (fM_worked (nI j) ty (ms_values μ (n - p)) (ms_values μ (n - 1)) μ2).2 → SM_apply_86 (nI j) sh (nI p) ty μ1 := by
        intro w
        unfold SM_apply_86 SM_apply_91 SM_apply_104 SM_apply_127 SM_apply_140 SM_apply_151
        rw [if_neg (show ¬ (1 : Int32) = 0 by decide), if_neg (show ¬ (1 : Int32) = 0 by decide), hμ2, m2c, kc, kc1, m2v]
        exact ⟨ic, ic1, k1, w⟩
      have eB2 : fB_apply_27 (nI j) (nI p) β1 = fB_apply_74 (nI j) (nI p) (ms_values μ (n - p)) (ms_values μ (n - 1)) β1 := by
        unfold fB_apply_27 fB_apply_36 fB_apply_61
        rw [hty, eT]
        show (if (1 : Int32) = 0 then _ else _) = _
        rw [if_neg (show ¬ (1 : Int32) = 0 by decide), b1c, kc, kc1, b1r, x2, y2]
      have sB2 : SB_apply_74 (nI j) (nI p) (ms_values μ (n - p)) (ms_values μ (n - 1)) β1 → SB_apply_27 (nI j) (nI p) β1 := by
        intro w
        unfold SB_apply_27 SB_apply_36 SB_apply_61
        rw [hty, eT]
        refine ⟨o1, ?_⟩
        show (if (1 : Int32) = 0 then _ else _)
        rw [if_neg (show ¬ (1 : Int32) = 0 by decide), b1c, kc, kc1, b1r, x2, y2]
        exact ⟨ic, ic1, w⟩
      rw [r3, e86]
      generalize hτ : fM_worked (nI j) ty (ms_values μ (n - p)) (ms_values μ (n - 1)) μ2 = wr at *
      generalize hT : fOperators_trapOf (nI j) (ms_values μ (n - p)) (ms_values μ (n - 1)) = T at *
      have hT2 := trap_le (nI j) (ms_values μ (n - p)) (ms_values μ (n - 1))
      rw [hT] at hT2
      have wc : ms_count wr.2 = nI n := k2.1.trans m2c
      have wt : ms_types wr.2 = ms_types μ := k2.2.1.trans m2t
      have wv : ms_values wr.2 = ms_values μ := k2.2.2.trans m2v
      rcases hT2 with q | ⟨q, q'⟩
      · have tl : ms_trap wr.2 ≤ 0 := by rw [k3, q]; decide
        have k5 := k4 q
        have cb : bs_count (bs_set_count (bs_set_latestTrap β1 T) (bs_count (bs_set_latestTrap β1 T) - nI p)) = nI (n - p) := by
          show bs_count β1 - nI p = nI (n - p)
          rw [b1c, ec]
        obtain ⟨u1, u2⟩ := put_B cb (by omega) rt (fOperators_result (nI j) (ms_values μ (n - p)) (ms_values μ (n - 1)))
        have e74 : fB_apply_74 (nI j) (nI p) (ms_values μ (n - p)) (ms_values μ (n - 1)) β1 = (0, rt, (fB_put rt (fOperators_result (nI j) (ms_values μ (n - p)) (ms_values μ (n - 1))) (bs_set_count (bs_set_latestTrap β1 T) (bs_count (bs_set_latestTrap β1 T) - nI p))).2) := by
          unfold fB_apply_74 fB_apply_127
          rw [hT, hrt, if_pos (show bs_latestTrap (bs_set_latestTrap β1 T) = 0 from q)]
        have s74 : SB_apply_74 (nI j) (nI p) (ms_values μ (n - p)) (ms_values μ (n - 1)) β1 := by
          unfold SB_apply_74 SB_apply_127
          rw [hT, hrt, if_pos (show bs_latestTrap (bs_set_latestTrap β1 T) = 0 from q)]
          exact ⟨u1, trivial⟩
        have eL : fL_apply (nI j) β f = (0, (fB_put rt (fOperators_result (nI j) (ms_values μ (n - p)) (ms_values μ (n - 1))) (bs_set_count (bs_set_latestTrap β1 T) (bs_count (bs_set_latestTrap β1 T) - nI p))).2, vp_updL f 0 rt.toInt64) := by
          unfold fL_apply; rw [eB0, eB2, e74]; rfl
        have cm : nI n - nI p + 1 = nI (n - p + 1) := by rw [ec, nI_1]
        have cm1 : nI (n - p + 1) - 1 = nI (n - p) := nI_pred (n - p)
        have km : (nI (n - p + 1) - 1).toNatClampNeg = n - p := by rw [cm1, nI_clamp (by omega)]
        have im : vp_in (nI (n - p + 1) - 1) 64 := by rw [cm1]; exact vp_in_nI (by omega) (by decide)
        have e153 : fM_apply_153 sh (nI p) wr.1 wr.2 = (rt, ms_set_values (ms_set_types (ms_set_count (ms_set_thrown wr.2 0) (nI (n - p + 1))) (upd (ms_types μ) (n - p) rt)) (vp_updL (ms_values μ) (n - p) (fM_cut rt wr.1))) := by
          unfold fM_apply_153 fM_apply_166
          rw [if_pos tl, if_pos (show ms_trap (ms_set_thrown wr.2 0) ≤ 0 from tl)]
          simp only [ms_count_thrown, ms_count_count, ms_count_types, ms_types_count, ms_types_thrown, ms_values_types, ms_values_count, ms_values_thrown, wc, wt, wv, cm, km, ← c5]
        have s153 : SM_apply_153 sh (nI p) wr.1 wr.2 := by
          unfold SM_apply_153 SM_apply_166
          rw [if_pos tl, if_pos (show ms_trap (ms_set_thrown wr.2 0) ≤ 0 from tl)]
          simp only [ms_count_thrown, ms_count_count, ms_count_types, wc, cm]
          exact ⟨im, im, trivial⟩
        rw [eL, e153]
        refine ⟨sB2 s74, r4 (s86 s153), rfl, fun _ => rfl, ?_⟩
        show sim (fB_put rt (fOperators_result (nI j) (ms_values μ (n - p)) (ms_values μ (n - 1))) (bs_set_count (bs_set_latestTrap β1 T) (bs_count (bs_set_latestTrap β1 T) - nI p))).2 _
        rw [u2]
        refine sim_ext (n := n - p) (β := bs_set_latestTrap β1 T) (μ := wr.2) (by omega) rt (fM_cut rt (fOperators_result (nI j) (ms_values μ (n - p)) (ms_values μ (n - 1)))) (cut_ok rt _ c8) k3.symm ?_ rfl rfl rfl rfl rfl rfl ?_ ?_
        · intro i hi
          rw [wt, wv]
          show bs_types β1 i = _ ∧ bs_rows β1 i = _ ∧ _
          rw [b1t, b1r]
          exact hv i (by omega)
        · show upd (ms_types μ) (n - p) rt = upd (ms_types wr.2) (n - p) rt
          rw [wt]
        · show vp_updL (ms_values μ) (n - p) (fM_cut rt wr.1) = vp_updL (ms_values wr.2) (n - p) _
          rw [wv, k5]
      · have tl : ¬ ms_trap wr.2 ≤ 0 := by rw [k3]; exact q'
        have e74 : fB_apply_74 (nI j) (nI p) (ms_values μ (n - p)) (ms_values μ (n - 1)) β1 = (3, 0, bs_set_latestTrap β1 T) := by
          unfold fB_apply_74
          rw [hT, if_neg (show ¬ bs_latestTrap (bs_set_latestTrap β1 T) = 0 from q)]
        have s74 : SB_apply_74 (nI j) (nI p) (ms_values μ (n - p)) (ms_values μ (n - 1)) β1 := by
          unfold SB_apply_74
          rw [hT, if_neg (show ¬ bs_latestTrap (bs_set_latestTrap β1 T) = 0 from q)]
          trivial
        have eL : fL_apply (nI j) β f = (3, bs_set_latestTrap β1 T, f) := by unfold fL_apply; rw [eB0, eB2, e74]; rfl
        have e153 : fM_apply_153 sh (nI p) wr.1 wr.2 = (0, ms_set_thrown wr.2 3) := by
          unfold fM_apply_153 fM_apply_166
          rw [if_neg tl, if_neg (show ¬ ms_trap (ms_set_thrown wr.2 3) ≤ 0 from tl)]
        have s153 : SM_apply_153 sh (nI p) wr.1 wr.2 := by
          unfold SM_apply_153 SM_apply_166
          rw [if_neg tl, if_neg (show ¬ ms_trap (ms_set_thrown wr.2 3) ≤ 0 from tl)]
          trivial
        rw [eL, e153]
        refine ⟨sB2 s74, r4 (s86 s153), rfl, fun z => absurd z (show ¬ (3 : Int32) = 0 by decide), n, hn, b1c, wc, k3.symm, fun i hi => ?_⟩
        show bs_types β1 i = ms_types wr.2 i ∧ bs_rows β1 i = ms_values wr.2 i ∧ bok (ms_types wr.2 i) (ms_values wr.2 i)
        rw [wt, wv, b1t, b1r]
        exact hv i hi
    · obtain ⟨r3, r4⟩ := r2 (fun w => g (same.mpr w))
      have eB2 : fB_apply (nI j) β = (2, 0, β1) := by
        rw [eB0]
        unfold fB_apply_27 fB_apply_36
        rw [hty, eT]; rfl
      have eL : fL_apply (nI j) β f = (2, β1, f) := by unfold fL_apply; rw [eB2]; rfl
      have e90 : fM_apply_90 (nI j) sh (nI p) ty μ1 = (0, ms_set_thrown μ1 2) := rfl
      rw [eL, r3, e90]
      refine ⟨?_, r4, rfl, fun z => absurd z (show ¬ (2 : Int32) = 0 by decide), n, hn, b1c, m1c, by rw [b1p]; exact m1p.symm, fun i hi => ?_⟩
      · unfold SB_apply_27 SB_apply_36
        rw [hty, eT]
        exact ⟨o1, trivial⟩
      · show bs_types β1 i = ms_types μ1 i ∧ bs_rows β1 i = ms_values μ1 i ∧ bok (ms_types μ1 i) (ms_values μ1 i)
        rw [m1t, m1v, b1t, b1r]
        exact hv i hi
