def bok (t : Int32) (v : Int64) : Prop := (t = 0 ∨ t = 1 ∨ t = 2 ∨ t = 3) ∧ (t = 0 ∨ t = 2 → bn_u v < 4294967296)
theorem nI_sub {a b : Nat} (h : b ≤ a) : nI a - nI b = nI (a - b) := by
  have e := nI_add (a - b) b
  rw [Nat.sub_add_cancel h] at e
  rw [← e, Int32.add_sub_cancel]
def kp (σ τ : MS) : Prop := ms_count τ = ms_count σ ∧ ms_types τ = ms_types σ ∧ ms_values τ = ms_values σ
def kt (σ τ : MS) : Prop := kp σ τ ∧ ms_trap τ = ms_trap σ
theorem kt_refl (σ : MS) : kt σ σ := ⟨⟨rfl, rfl, rfl⟩, rfl⟩
theorem cut0 {a b : Int64} (h : bn_u a % 2^32 = bn_u b % 2^32) : fM_cut 0 a = fM_cut 0 b := by
  apply bn_u_inj
  show bn_u (a &&& 4294967295) = bn_u (b &&& 4294967295)
  rw [bn_u_and, bn_u_and, show bn_u 4294967295 = 2^32 - 1 from rfl, bn_and_mask, bn_and_mask, h]
def tW (t : Int32) : Nat := if t = 0 then 32 else 64
theorem tW_cases (t : Int32) : tW t = 32 ∨ tW t = 64 := by
  unfold tW; split
  · exact Or.inl rfl
  · exact Or.inr rfl
theorem w_fM {t : Int32} (ht : t = 0 ∨ t = 1) : fM_width t = nI (tW t) := by rcases ht with rfl | rfl <;> rfl
theorem w_cl {t : Int32} (ht : t = 0 ∨ t = 1) : fWhole_width t = nI (tW t) := by rcases ht with rfl | rfl <;> rfl
theorem tW_lt {t : Int32} (ht : t = 0 ∨ t = 1) {x : Int64} (h : bok t x) : bn_u x < 2^(tW t) := by
  rcases ht with rfl | rfl
  · exact h.2 (Or.inl rfl)
  · exact bn_u_lt x
theorem op0 (n : Nat) (hn : n ≤ 64) (x : Int64) (hx : bn_u x < 2^n) : fM_zerosAhead (nI n) x = (nI n - fWhole_length x).toInt64 := by
  have hl : bn_len (bn_u x) ≤ n := bn_len_le.mpr hx
  have h65 : n - 0 < 65 := by clear hx hl; omega
  have h31 : n - bn_len (bn_u x) < 2 ^ 31 := by clear hx; omega
  have e := za_val n hn x 65 0 (Nat.zero_le n) h65 (by rw [Nat.sub_zero]; exact hx)
  rw [bn_length]
  show fM_zerosAhead_2 65 (nI n) x (lN 0) = (nI n - nI (bn_len (bn_u x))).toInt64
  rw [e, nI_sub hl, nI_l h31]
theorem op1 (n : Nat) (hn : n ≤ 64) (x : Int64) (hx : bn_u x < 2^n) : fM_zerosBehind (nI n) x = if x = 0 then (nI n).toInt64 else (fLong_bitCount ((x &&& (-x)) - 1)).toInt64 := by
  have n31 : n < 2 ^ 31 := by clear hx; omega
  have hf : n - 0 < 65 := by clear hx; omega
  by_cases q : x = 0
  · rw [if_pos q, nI_l n31]
    exact zb_val n hn x n (Or.inl ⟨bn_u_zero.mp q, rfl⟩) 65 0 (Nat.zero_le n) hf
  · rw [if_neg q]
    obtain ⟨T, a, h⟩ := bn_odd_part (bn_u x) (Nat.pos_of_ne_zero (fun w => q (bn_u_zero.mpr w)))
    obtain ⟨hT, e⟩ := bn_low_zeros x T a h
    have hTn : T < n := by
      refine (Nat.pow_lt_pow_iff_right (a := 2) (by decide)).mp (Nat.lt_of_le_of_lt ?_ hx)
      rw [h]; exact Nat.le_mul_of_pos_right _ (Nat.succ_pos _)
    have hT31 : T < 2 ^ 31 := by clear hx h e; omega
    rw [e]
    show fM_zerosBehind_2 65 (nI n) x (lN 0) = (nI T).toInt64
    rw [nI_l hT31]
    exact zb_val n hn x T (Or.inr ⟨hTn, a, h⟩) 65 0 (Nat.zero_le T) hf
theorem op2 (n : Nat) (hn : n = 32 ∨ n = 64) (x : Int64) (hx : bn_u x < 2^n) : fM_ones (nI n) x = (fLong_bitCount x).toInt64 := by
  rw [bn_bitCount]
  have hp : bn_pop 64 (bn_u x) = bn_pop n (bn_u x) := by
    rcases hn with rfl | rfl
    · rw [show (64 : Nat) = 32 + 32 from rfl, bn_pop_add, Nat.div_eq_of_lt hx, show bn_pop 32 0 = 0 from by decide, Nat.add_zero]
    · rfl
  have h64 : n ≤ 64 := by rcases hn with rfl | rfl <;> decide
  have h65 : n - 0 < 65 := by clear hx hp; omega
  have e := ones_val n h64 x 65 0 0 (Nat.zero_le n) h65
  have hl := bn_pop_le n (bn_u x)
  have h31 : bn_pop n (bn_u x) < 2 ^ 31 := by clear hx hp e; omega
  show fM_ones_5 65 (nI n) x (lN 0) (nI 0) = (nI (bn_pop 64 (bn_u x))).toInt64
  rw [e, hp, nI_l h31, Nat.sub_zero, Nat.pow_zero, Nat.div_one, Nat.zero_add]
theorem amt (n : Nat) (hn : n = 32 ∨ n = 64) (y : Int64) : y &&& ((nI n - 1).toInt64) = lN (bn_u y % n) ∧ y.toInt32 &&& (nI n - 1) = nI (bn_u y % n) := by
  have e : y &&& ((nI n - 1).toInt64) = lN (bn_u y % n) := by
    apply bn_u_inj
    rw [bn_u_and]
    rcases hn with rfl | rfl
    · have hl : bn_u (lN (bn_u y % 32)) = bn_u y % 32 := bn_u_ofNat (Nat.lt_trans (Nat.mod_lt _ (by decide)) (by decide))
      rw [hl, show bn_u ((nI 32 - 1).toInt64) = 2^5 - 1 from rfl]
      exact bn_and_mask (bn_u y) 5
    · have hl : bn_u (lN (bn_u y % 64)) = bn_u y % 64 := bn_u_ofNat (Nat.lt_trans (Nat.mod_lt _ (by decide)) (by decide))
      rw [hl, show bn_u ((nI 64 - 1).toInt64) = 2^6 - 1 from rfl]
      exact bn_and_mask (bn_u y) 6
  refine ⟨e, ?_⟩
  have w : ((nI n - 1).toInt64).toInt32 = nI n - 1 := by rcases hn with rfl | rfl <;> rfl
  rw [← lN_i (bn_u y % n), ← e, Int64.toInt32_and, w]
theorem shr0 (x : Int64) (hx : bn_u x < 2^32) : bn_shr x (nI 32) = 0 := bn_u_inj (by rw [bn_shr_u (k := 32) rfl (by decide), Nat.div_eq_of_lt hx]; rfl)
theorem shl_id (x : Int64) (a : Int32) (h : (a.toInt % 64).toNat = 0) : bn_shl x a = x := bn_u_inj (by rw [bn_u_shl, h, Nat.pow_zero, Nat.mul_one, Nat.mod_eq_of_lt (bn_u_lt x)])
theorem shr_id (x : Int64) (a : Int32) (h : (a.toInt % 64).toNat = 0) : bn_shr x a = x := bn_u_inj (by rw [bn_u_shr, h, Nat.pow_zero, Nat.div_one])
theorem op16 (n : Nat) (hn : n = 32 ∨ n = 64) (x : Int64) (hx : bn_u x < 2^n) (S : Nat) (hS : S < n) : fM_turned (nI n) x (lN S) = bn_shl x (nI S) ||| bn_shr x (nI n - nI S) := by
  have n31 : n < 2 ^ 31 := by rcases hn with rfl | rfl <;> decide
  have S31 : S < 2 ^ 31 := Nat.lt_trans hS n31
  unfold fM_turned fM_turned_6 fM_turned_39 fM_turned_41
  rw [lN_i, nI_l n31, lN_sub (Nat.le_of_lt hS), lN_i, nI_sub (Nat.le_of_lt hS)]
  by_cases q : S = 0
  · subst q
    rw [if_pos (show lN 0 = 0 from rfl)]
    rcases hn with rfl | rfl
    · rw [show nI (32 - 0) = nI 32 from rfl, shr0 x hx]
    · rw [shl_id x (nI 0) rfl, shr_id x (nI (64 - 0)) rfl, Int64.or_self, Int64.or_zero]
  · rw [if_neg (show ¬ lN S = 0 from fun w => q ((lN_eq (b := 0) S31 (by decide)).mp w))]
    rcases hn with rfl | rfl
    · rw [if_pos (show nI 32 = 32 from rfl)]
      have h1 : 32 - S < 64 := by clear hx; omega
      have h2 : (nI (32 - S)).toInt = ((32 - S : Nat) : Int) := nI_toInt (by clear hx; omega)
      rw [show bn_sar x (nI (32 - S)) = bn_shr x (nI (32 - S)) from bn_u_inj (by rw [sar_pos (Nat.lt_trans hx (by decide)) h2 h1, bn_shr_u h2 h1])]
    · rw [if_neg (show ¬ nI 64 = 32 by decide)]
theorem low_or {x : Nat} (hx : x < 2^32) : (x ||| (x * 2^32 % 2^64)) % 2^32 = x % 2^32 := by
  rw [Nat.or_comm, i_or_add (n := 32) (by omega) hx]
  omega
theorem op17 (t : Int32) (ht : t = 0 ∨ t = 1) (x : Int64) (hx : bok t x) (S : Nat) (hS : S < tW t) : fM_cut t (fM_turned (nI (tW t)) x (((nI (tW t)).toInt64 - lN S) &&& ((nI (tW t) - 1).toInt64))) = fM_cut t (bn_shr x (nI S) ||| bn_shl x (nI (tW t) - nI S)) := by
  have hn := tW_cases t
  have hxl := tW_lt ht hx
  have n31 : tW t < 2 ^ 31 := by rcases hn with q | q <;> rw [q] <;> decide
  have hu : bn_u (lN (tW t - S)) = tW t - S := bn_u_ofNat (Nat.lt_of_le_of_lt (Nat.sub_le _ _) (Nat.lt_trans n31 (by decide)))
  rw [nI_l n31, lN_sub (Nat.le_of_lt hS), (amt (tW t) hn _).1, hu]
  by_cases q : S = 0
  · subst q
    rw [Nat.sub_zero, Nat.mod_self, op16 (tW t) hn x hxl 0 hS]
    rcases ht with rfl | rfl
    · apply cut0
      show bn_u (bn_shl x (nI 0) ||| bn_shr x (nI 32)) % 2^32 = bn_u (bn_shr x (nI 0) ||| bn_shl x (nI 32)) % 2^32
      rw [shr0 x hxl, shl_id x (nI 0) rfl, shr_id x (nI 0) rfl, bn_u_or, bn_u_or, show bn_u 0 = 0 from rfl, Nat.or_zero, bn_u_shl, show ((nI 32).toInt % 64).toNat = 32 from rfl]
      exact (low_or hxl).symm
    · show fM_cut 1 (bn_shl x (nI 0) ||| bn_shr x (nI 64)) = fM_cut 1 (bn_shr x (nI 0) ||| bn_shl x (nI 64))
      rw [shl_id x (nI 0) rfl, shr_id x (nI 64) rfl, shr_id x (nI 0) rfl, shl_id x (nI 64) rfl]
  · have h1 : tW t - S < tW t := Nat.sub_lt (Nat.lt_of_le_of_lt (Nat.zero_le S) hS) (Nat.pos_of_ne_zero q)
    rw [Nat.mod_eq_of_lt h1, op16 (tW t) hn x hxl _ h1, nI_sub (Nat.sub_le _ _), Nat.sub_sub_self (Nat.le_of_lt hS), nI_sub (Nat.le_of_lt hS), Int64.or_comm]
theorem divm1 (X : Int64) : X / (-1) = -X := Int64.toInt_inj.mp (by rw [Int64.toInt_div, show (-1 : Int64).toInt = -1 from rfl, Int.tdiv_neg, Int.tdiv_one, Int64.toInt_neg])
theorem remm1 (X : Int64) : X - X / (-1) * (-1) = 0 := by
  rw [divm1, Int64.mul_neg, Int64.neg_mul, Int64.neg_neg, Int64.mul_one, Int64.sub_self]
def MN (t : Int32) : Int64 := if t = 0 then -2147483648 else -9223372036854775808
theorem quo88 (rem : Int32) (hr : rem = 0 ∨ rem = 1) (X Y M : Int64) (σ : MS) (h0 : ms_trap σ = 0) :
    (Y = -1 ∧ X = M ∧ rem = 0 ∧ fM_quotient_88 rem X Y M σ = (-X, ms_set_trap σ 2)) ∨
    (¬ (Y = -1 ∧ X = M ∧ rem = 0) ∧ ∃ τ, kp σ τ ∧ ms_trap τ = 0 ∧ fM_quotient_88 rem X Y M σ = ((if rem = 0 then X / Y else X - X / Y * Y), τ)) := by
  unfold fM_quotient_88 fM_quotient_117 fM_quotient_118
  by_cases q1 : Y = -1
  · rw [if_pos q1]
    by_cases q2 : X = M
    · rw [if_pos q2]
      rcases hr with rfl | rfl
      · exact Or.inl ⟨q1, q2, rfl, rfl⟩
      · exact Or.inr ⟨fun h => absurd h.2.2 (by decide), ms_set_trap σ 0, ⟨rfl, rfl, rfl⟩, rfl, by rw [q1, remm1]; rfl⟩
    · rw [if_neg q2]
      refine Or.inr ⟨fun h => q2 h.2.1, ms_set_trap σ 0, ⟨rfl, rfl, rfl⟩, rfl, ?_⟩
      rcases hr with rfl | rfl
      · rw [q1, divm1]; rfl
      · rw [q1, remm1]; rfl
  · rw [if_neg q1]
    refine Or.inr ⟨fun h => q1 h.1, σ, ⟨rfl, rfl, rfl⟩, h0, ?_⟩
    split <;> rfl
theorem min_iff {t : Int32} (ht : t = 0 ∨ t = 1) {x : Int64} (hx : bok t x) : (fM_withSign t x = MN t) ↔ x = fWhole_withoutSign t (fWhole_greatest t 1 + 1) := by
  rcases ht with rfl | rfl
  · rw [show fWhole_withoutSign 0 (fWhole_greatest 0 1 + 1) = 2147483648 from by decide +kernel, show MN 0 = -2147483648 from rfl, fWS]
    have hl : bn_u x < 4294967296 := hx.2 (Or.inl rfl)
    show x.toInt32.toInt64 = -2147483648 ↔ _
    rw [← Int64.toInt_inj, Int32.toInt_toInt64, bn_u_l2i, bn_u_eq, show bn_u 2147483648 = 2147483648 from rfl, show (-2147483648 : Int64).toInt = -2147483648 from rfl]
    split <;> omega
  · rw [show fWhole_withoutSign 1 (fWhole_greatest 1 1 + 1) = -9223372036854775808 from by decide +kernel]
    exact Iff.rfl
theorem ws0 {t : Int32} (ht : t = 0 ∨ t = 1) {y : Int64} (hy : bok t y) : fM_withSign t y ≠ 0 ∨ y = 0 := by
  by_cases q : y = 0
  · exact Or.inr q
  · refine Or.inl ?_
    rcases ht with rfl | rfl
    · have hl : bn_u y < 4294967296 := hy.2 (Or.inl rfl)
      rw [fWS]
      show ¬ y.toInt32.toInt64 = 0
      rw [← Int64.toInt_inj, Int32.toInt_toInt64, bn_u_l2i, show (0 : Int64).toInt = 0 from rfl]
      have : bn_u y ≠ 0 := fun w => q (bn_u_zero.mpr w)
      split <;> omega
    · exact q
def WV (c t : Int32) (x y : Int64) (σ : MS) : Prop := kp σ (fM_whole c t x y σ).2 ∧ ms_trap (fM_whole c t x y σ).2 = fWhole_trapOf c t x y ∧ (fWhole_trapOf c t x y = 0 → fM_cut t (fM_whole c t x y σ).1 = fM_cut t (fWhole_result c t x y))
theorem wv_mk {c t : Int32} {x y v : Int64} {σ : MS} (h0 : ms_trap σ = 0) (e1 : fM_whole c t x y σ = (v, σ)) (e3 : fWhole_trapOf c t x y = 0) (e2 : fM_cut t v = fM_cut t (fWhole_result c t x y)) : WV c t x y σ := by
  unfold WV
  rw [e1, e3]
  exact ⟨⟨rfl, rfl, rfl⟩, h0, fun _ => e2⟩
theorem modU {X Y : Nat} : X - Y * (X / Y) = X % Y := by
  have := Nat.div_add_mod X Y
  generalize Y * (X / Y) = Z at *
  omega
theorem quoU0 (x y : Int64) (hy : ¬ y = 0) : fM_divide x y 0 = fWhole_quotientWithoutSign x y := bn_u_inj (by rw [divide_val x y hy, if_pos rfl, bn_quoU x y hy])
theorem quoU1 (x y : Int64) (hy : ¬ y = 0) : fM_divide x y 1 = x - (y * (fWhole_quotientWithoutSign x y)) := bn_u_inj (by
  have hq := bn_quoU x y hy
  have hle : bn_u y * (bn_u x / bn_u y) ≤ bn_u x := Nat.mul_div_le _ _
  have hm : bn_u (y * (fWhole_quotientWithoutSign x y)) = bn_u y * (bn_u x / bn_u y) := by
    rw [bn_mul_u (by rw [hq]; exact Nat.lt_of_le_of_lt hle (bn_u_lt x)), hq]
  rw [divide_val x y hy, if_neg (by decide), bn_sub_u (by rw [hm]; exact hle), hm, modU])
theorem whole_q (c t : Int32) (x y : Int64) (σ : MS) (h0 : ¬ c = 0) (h1 : ¬ c = 1) (h2 : ¬ c = 2) (h3 : ¬ c = 3) (h4 : ¬ c = 4) (h5 : ¬ c = 5) (h10 : ¬ c = 10) (h11 : ¬ c = 11) (h12 : ¬ c = 12) (h13 : ¬ c = 13) (h14 : ¬ c = 14) (h15 : ¬ c = 15) (h16 : ¬ c = 16) (h17 : ¬ c = 17) : fM_whole c t x y σ = fM_quotient c t x y σ := by
  unfold fM_whole fM_whole_6 fM_whole_16
  rw [if_neg h0, if_neg h1, if_neg h2, if_neg h3, if_neg h4, if_neg h5, if_neg h10, if_neg h11, if_neg h12, if_neg h13, if_neg h14, if_neg h15, if_neg h16, if_neg h17]
theorem quo_6 (t : Int32) (x y : Int64) (σ : MS) : fM_quotient (nI 6) t x y σ = fM_quotient_30 t x y 1 0 σ := by
  unfold fM_quotient fM_quotient_12 fM_quotient_17
  rw [if_pos (show nI 6 = 6 from rfl), if_pos (show nI 6 ≤ 7 by decide)]
theorem quo_7 (t : Int32) (x y : Int64) (σ : MS) : fM_quotient (nI 7) t x y σ = fM_quotient_30 t x y 0 0 σ := by
  unfold fM_quotient fM_quotient_12 fM_quotient_17
  rw [if_neg (show ¬ nI 7 = 6 by decide), if_neg (show ¬ nI 7 = 8 by decide), if_pos (show nI 7 ≤ 7 by decide)]
theorem quo_8 (t : Int32) (x y : Int64) (σ : MS) : fM_quotient (nI 8) t x y σ = fM_quotient_30 t x y 1 1 σ := by
  unfold fM_quotient fM_quotient_12 fM_quotient_17
  rw [if_neg (show ¬ nI 8 = 6 by decide), if_pos (show nI 8 = 8 from rfl), if_neg (show ¬ nI 8 ≤ 7 by decide)]
theorem quo_9 (t : Int32) (x y : Int64) (σ : MS) : fM_quotient (nI 9) t x y σ = fM_quotient_30 t x y 0 1 σ := by
  unfold fM_quotient fM_quotient_12 fM_quotient_17
  rw [if_neg (show ¬ nI 9 = 6 by decide), if_neg (show ¬ nI 9 = 8 by decide), if_neg (show ¬ nI 9 ≤ 7 by decide)]
theorem t36_6 (t : Int32) (x y m : Int64) : fWhole_trapOf_36 (nI 6) t x y m = if x = m then (if fWhole_withSign t y = -1 then 2 else 0) else 0 := by
  unfold fWhole_trapOf_36 fWhole_trapOf_66 fWhole_trapOf_67
  rw [if_pos (show nI 6 = 6 from rfl), if_neg (show ¬ (1 : Int32) = 0 by decide), if_pos (show (0 : Int32) = 0 from rfl)]
theorem t36_n (c t : Int32) (x y m : Int64) (h : ¬ c = 6) : fWhole_trapOf_36 c t x y m = 0 := by
  unfold fWhole_trapOf_36 fWhole_trapOf_66 fWhole_trapOf_67
  rw [if_neg h, if_pos (show (0 : Int32) = 0 from rfl)]
theorem trap_y (c t : Int32) (x y : Int64) (h1 : ¬ c < 6) (h2 : c ≤ 9) : fWhole_trapOf c t x y = if y = 0 then 1 else fWhole_trapOf_36 c t x y (fWhole_withoutSign t (fWhole_greatest t 1 + 1)) := by
  unfold fWhole_trapOf
  rw [if_neg h1, if_pos h2]
theorem res_q (c t : Int32) (x y : Int64) (h0 : ¬ c = 0) (h1 : ¬ c = 1) (h2 : ¬ c = 2) (h3 : ¬ c = 3) (h4 : ¬ c = 4) (h5 : ¬ c = 5) (h : c = 6 ∨ c = 7 ∨ c = 8 ∨ c = 9) : fWhole_result c t x y = fWhole_divided c t x y := by
  unfold fWhole_result
  rw [if_neg h0, if_neg h1, if_neg h2, if_neg h3, if_neg h4, if_neg h5]
  by_cases a : c = 6
  · rw [if_pos a]
  · rw [if_neg a]
    by_cases b : c = 7
    · rw [if_pos b]
    · rw [if_neg b]
      by_cases d : c = 8
      · rw [if_pos d]
      · rw [if_neg d]
        by_cases e : c = 9
        · rw [if_pos e]
        · rcases h with h | h | h | h
          · exact absurd h a
          · exact absurd h b
          · exact absurd h d
          · exact absurd h e
theorem wv_quo {c : Nat} (hc : c = 6 ∨ c = 7 ∨ c = 8 ∨ c = 9) {t : Int32} (ht : t = 0 ∨ t = 1) {x y : Int64} (hx : bok t x) (hy : bok t y) {σ : MS} (h0 : ms_trap σ = 0) : WV (nI c) t x y σ := by
  have em : fM_whole (nI c) t x y σ = fM_quotient (nI c) t x y σ := by rcases hc with rfl | rfl | rfl | rfl <;> exact whole_q _ t x y σ (by decide) (by decide) (by decide) (by decide) (by decide) (by decide) (by decide) (by decide) (by decide) (by decide) (by decide) (by decide) (by decide) (by decide)
  have er : fWhole_result (nI c) t x y = fWhole_divided_8 (nI c) t x y (fWhole_withSign t y) := by
    rw [res_q (nI c) t x y (by rcases hc with rfl | rfl | rfl | rfl <;> decide) (by rcases hc with rfl | rfl | rfl | rfl <;> decide) (by rcases hc with rfl | rfl | rfl | rfl <;> decide) (by rcases hc with rfl | rfl | rfl | rfl <;> decide) (by rcases hc with rfl | rfl | rfl | rfl <;> decide) (by rcases hc with rfl | rfl | rfl | rfl <;> decide) (by rcases hc with rfl | rfl | rfl | rfl <;> decide)]
    unfold fWhole_divided
    exact Eq.refl _
  have et : fWhole_trapOf (nI c) t x y = if y = 0 then 1 else fWhole_trapOf_36 (nI c) t x y (fWhole_withoutSign t (fWhole_greatest t 1 + 1)) := trap_y (nI c) t x y (by rcases hc with rfl | rfl | rfl | rfl <;> decide) (by rcases hc with rfl | rfl | rfl | rfl <;> decide)
  unfold WV
  rw [em, er, et]
  by_cases q : y = 0
  · rw [if_pos q]
    have e : fM_quotient (nI c) t x y σ = (0, ms_set_trap σ 1) := by
      have e30 : ∀ a b : Int32, fM_quotient_30 t x y a b σ = (0, ms_set_trap σ 1) := fun a b => by unfold fM_quotient_30; rw [if_pos q]
      rcases hc with rfl | rfl | rfl | rfl
      · rw [quo_6, e30]
      · rw [quo_7, e30]
      · rw [quo_8, e30]
      · rw [quo_9, e30]
    rw [e]
    exact ⟨⟨rfl, rfl, rfl⟩, rfl, fun h => absurd h (by decide)⟩
  · rw [if_neg q]
    have hY : ¬ fWhole_withSign t y = 0 := by
      rcases ws0 ht hy with w | w
      · rw [fWS] at w; exact w
      · exact absurd w q
    have hd : fWhole_divided_8 (nI c) t x y (fWhole_withSign t y) = (if nI c = 6 then ((fWhole_withSign t x) / (fWhole_withSign t y)) else (if nI c = 7 then (fWhole_quotientWithoutSign x y) else (if nI c = 8 then ((fWhole_withSign t x) - (fWhole_withSign t x) / (fWhole_withSign t y) * (fWhole_withSign t y)) else (x - (y * (fWhole_quotientWithoutSign x y)))))) := by
      unfold fWhole_divided_8; rw [if_neg q, if_neg hY]
    rw [hd]
    have e75 : ∀ (rem : Int32) (X Y : Int64), fM_quotient_75 t rem X Y σ = fM_quotient_88 rem X Y (MN t) σ := by
      intro rem X Y
      rcases ht with rfl | rfl <;> rfl
    have e30s : ∀ rem : Int32, fM_quotient_30 t x y 1 rem σ = fM_quotient_88 rem (fWhole_withSign t x) (fWhole_withSign t y) (MN t) σ := fun rem => by
      unfold fM_quotient_30 fM_quotient_67
      rw [if_neg q, if_neg (by decide), e75, fWS, fWS]
    have e30u : ∀ rem : Int32, fM_quotient_30 t x y 0 rem σ = (fM_divide x y rem, σ) := fun rem => by
      unfold fM_quotient_30; rw [if_neg q, if_pos rfl]
    have hmin := min_iff ht hx
    rw [fWS] at hmin
    rcases hc with rfl | rfl | rfl | rfl
    · have e := quo_6 t x y σ
      rw [e, e30s]
      rw [t36_6, if_pos (show nI 6 = 6 from rfl)]
      rcases quo88 0 (Or.inl rfl) (fWhole_withSign t x) (fWhole_withSign t y) (MN t) σ h0 with ⟨a1, a2, a3, a4⟩ | ⟨a1, τ, a2, a3, a4⟩
      · rw [a4, if_pos (hmin.mp a2), if_pos a1]
        exact ⟨⟨rfl, rfl, rfl⟩, rfl, fun h => absurd h (by decide)⟩
      · rw [a4, if_pos (show (0 : Int32) = 0 from rfl)]
        refine ⟨a2, ?_, fun _ => rfl⟩
        rw [show ms_trap ((fWhole_withSign t x / fWhole_withSign t y, τ) : Int64 × MS).2 = ms_trap τ from rfl, a3]
        split
        · next w =>
          split
          · next w2 => exact absurd ⟨w2, hmin.mpr w, rfl⟩ a1
          · rfl
        · rfl
    · have e := quo_7 t x y σ
      rw [e, e30u, quoU0 x y q, t36_n (nI 7) t x y _ (by decide), if_neg (show ¬ nI 7 = 6 by decide), if_pos (show nI 7 = 7 from rfl)]
      exact ⟨⟨rfl, rfl, rfl⟩, h0, fun _ => rfl⟩
    · have e := quo_8 t x y σ
      rw [e, e30s, t36_n (nI 8) t x y _ (by decide), if_neg (show ¬ nI 8 = 6 by decide), if_neg (show ¬ nI 8 = 7 by decide), if_pos (show nI 8 = 8 from rfl)]
      rcases quo88 1 (Or.inr rfl) (fWhole_withSign t x) (fWhole_withSign t y) (MN t) σ h0 with ⟨a1, a2, a3, a4⟩ | ⟨a1, τ, a2, a3, a4⟩
      · exact absurd a3 (by decide)
      · rw [a4, if_neg (show ¬ (1 : Int32) = 0 by decide)]
        exact ⟨a2, a3, fun _ => rfl⟩
    · have e := quo_9 t x y σ
      rw [e, e30u, quoU1 x y q, t36_n (nI 9) t x y _ (by decide), if_neg (show ¬ nI 9 = 6 by decide), if_neg (show ¬ nI 9 = 7 by decide), if_neg (show ¬ nI 9 = 8 by decide)]
      exact ⟨⟨rfl, rfl, rfl⟩, h0, fun _ => rfl⟩
theorem whole_val (c : Nat) (hc : c < 18) {t : Int32} (ht : t = 0 ∨ t = 1) {x y : Int64} (hx : bok t x) (hy : bok t y) {σ : MS} (h0 : ms_trap σ = 0) : WV (nI c) t x y σ := by
  have hn := tW_cases t
  have h64 : tW t ≤ 64 := by rcases hn with q | q <;> rw [q] <;> decide
  have hxl := tW_lt ht hx
  have a1 : y &&& ((fM_width t - 1).toInt64) = lN (bn_u y % tW t) := by rw [w_fM ht]; exact (amt (tW t) hn y).1
  have a2 : y.toInt32 &&& (fWhole_width t - 1) = nI (bn_u y % tW t) := by rw [w_cl ht]; exact (amt (tW t) hn y).2
  have hS : bn_u y % tW t < tW t := Nat.mod_lt _ (by rcases hn with q | q <;> rw [q] <;> decide)
  have hsh : ∀ j : Nat, j = 13 ∨ j = 14 ∨ j = 15 ∨ j = 16 ∨ j = 17 → fWhole_result (nI j) t x y = fWhole_shifted (nI j) t x (nI (bn_u y % tW t)) := by
    intro j hj
    rw [← a2]
    rcases hj with rfl | rfl | rfl | rfl | rfl <;> rfl
  rcases (show c = 0 ∨ c = 1 ∨ c = 2 ∨ c = 3 ∨ c = 4 ∨ c = 5 ∨ (c = 6 ∨ c = 7 ∨ c = 8 ∨ c = 9) ∨ c = 10 ∨ c = 11 ∨ c = 12 ∨ c = 13 ∨ c = 14 ∨ c = 15 ∨ c = 16 ∨ c = 17 by clear hxl a1 a2 hS hsh; omega) with rfl | rfl | rfl | rfl | rfl | rfl | hq | rfl | rfl | rfl | rfl | rfl | rfl | rfl | rfl
  · refine wv_mk (v := fM_zerosAhead (fM_width t) x) h0 rfl rfl ?_
    rw [show fWhole_result (nI 0) t x y = (fWhole_width t - fWhole_length x).toInt64 from rfl, w_fM ht, w_cl ht, op0 (tW t) h64 x hxl]
  · refine wv_mk (v := fM_zerosBehind (fM_width t) x) h0 rfl rfl ?_
    rw [show fWhole_result (nI 1) t x y = (if x = 0 then (fWhole_width t).toInt64 else (fLong_bitCount ((x &&& (-x)) - 1)).toInt64) from rfl, w_fM ht, w_cl ht, op1 (tW t) h64 x hxl]
  · refine wv_mk (v := fM_ones (fM_width t) x) h0 rfl rfl ?_
    rw [show fWhole_result (nI 2) t x y = (fLong_bitCount x).toInt64 from rfl, w_fM ht, op2 (tW t) hn x hxl]
  · exact wv_mk (v := x + y) h0 rfl rfl rfl
  · exact wv_mk (v := x - y) h0 rfl rfl rfl
  · exact wv_mk (v := x * y) h0 rfl rfl rfl
  · exact wv_quo hq ht hx hy h0
  · exact wv_mk (v := x &&& y) h0 rfl rfl rfl
  · exact wv_mk (v := x ||| y) h0 rfl rfl rfl
  · exact wv_mk (v := x ^^^ y) h0 rfl rfl rfl
  · refine wv_mk (v := bn_shl x (y &&& ((fM_width t - 1).toInt64)).toInt32) h0 rfl rfl ?_
    rw [a1, lN_i, hsh 13 (Or.inl rfl)]; rfl
  · refine wv_mk (v := bn_sar (fM_withSign t x) (y &&& ((fM_width t - 1).toInt64)).toInt32) h0 rfl rfl ?_
    rw [a1, lN_i, hsh 14 (Or.inr (Or.inl rfl)), fWS]; rfl
  · refine wv_mk (v := bn_shr x (y &&& ((fM_width t - 1).toInt64)).toInt32) h0 rfl rfl ?_
    rw [a1, lN_i, hsh 15 (Or.inr (Or.inr (Or.inl rfl)))]; rfl
  · refine wv_mk (v := fM_turned (fM_width t) x (y &&& ((fM_width t - 1).toInt64))) h0 rfl rfl ?_
    rw [a1, hsh 16 (Or.inr (Or.inr (Or.inr (Or.inl rfl)))), show fWhole_shifted (nI 16) t x (nI (bn_u y % tW t)) = (bn_shl x (nI (bn_u y % tW t)) ||| bn_shr x (fWhole_width t - nI (bn_u y % tW t))) from rfl, w_fM ht, w_cl ht, op16 (tW t) hn x hxl _ hS]
  · refine wv_mk (v := fM_turned (fM_width t) x (((fM_width t).toInt64 - (y &&& ((fM_width t - 1).toInt64))) &&& ((fM_width t - 1).toInt64))) h0 rfl rfl ?_
    rw [a1, hsh 17 (Or.inr (Or.inr (Or.inr (Or.inr rfl)))), show fWhole_shifted (nI 17) t x (nI (bn_u y % tW t)) = (bn_shr x (nI (bn_u y % tW t)) ||| bn_shl x (fWhole_width t - nI (bn_u y % tW t))) from rfl, w_fM ht, w_cl ht]
    exact op17 t ht x hx _ hS
