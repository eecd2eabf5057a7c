theorem bit_u (x : Int64) (b : Nat) (hb : b < 64) : bn_u (bn_sar x (nI b) &&& 1) = bn_u x / 2^b % 2 := by
  rw [bn_u_and, show bn_u 1 = 2^1 - 1 from rfl, bn_and_mask]
  have h1 := bn_s_sar x (nI b)
  rw [nI_toInt (by omega), show (((b : Int) % 64).toNat) = b by omega] at h1
  have h2 := bn_s_u (bn_sar x (nI b))
  have h3 := bn_s_u x
  have h4 := bn_u_lt x
  have h5 := bn_u_lt (bn_sar x (nI b))
  have hp : (0 : Nat) < 2^b := Nat.two_pow_pos b
  rw [h1] at h2
  generalize bn_u (bn_sar x (nI b)) = S at *
  generalize bn_u x = X at *
  rw [h3] at h2
  by_cases q : X < 2^63
  · rw [if_pos q, show ((X : Int) / ((2 : Int)^b)) = ((X / 2^b : Nat) : Int) by push_cast; rfl] at h2
    generalize X / 2^b = Z at *
    clear h1 hp h3
    split at h2 <;> omega
  · rw [if_neg q] at h2
    have e : ((X : Int) - 2^64) / ((2 : Int)^b) = ((X / 2^b : Nat) : Int) - 2^(64 - b) := by
      have e1 : ((2 : Int)^64) = 2^(64 - b) * 2^b := by rw [← Int.pow_add, show 64 - b + b = 64 by omega]
      rw [e1, Int.sub_mul_ediv_right _ _ (by exact_mod_cast (Nat.pos_iff_ne_zero.mp hp))]
      push_cast; rfl
    rw [e] at h2
    have e2 : ((2 : Int)^(64 - b)) % 2 = 0 := by
      rw [show 64 - b = (63 - b) + 1 by omega, Int.pow_succ]; omega
    clear e
    generalize X / 2^b = Z at *
    generalize ((2 : Int)^(64 - b)) = G at *
    clear h1 hp h3
    split at h2 <;> omega
theorem bit_0 (x : Int64) (b : Nat) (hb : b < 64) : ((bn_sar x (nI b) &&& 1) = 0) ↔ bn_u x / 2^b % 2 = 0 := by
  rw [bn_u_zero, bit_u x b hb]
theorem za_val (n : Nat) (hn : n ≤ 64) (x : Int64) : ∀ (f z : Nat), z ≤ n → n - z < f → bn_u x < 2^(n - z) → fM_zerosAhead_2 f (nI n) x (lN z) = lN (n - bn_len (bn_u x)) := by
  intro f
  induction f with
  | zero => intro z h1 h2; omega
  | succ f ih =>
    intro z h1 h2
    have n31 : n < 2 ^ 31 := by omega
    have z31 : z < 2 ^ 31 := by omega
    unfold fM_zerosAhead_2 fM_zerosAhead_32
    rw [nI_l n31]
    by_cases q : n ≤ z
    · have e : z = n := by omega
      intro h3
      rw [if_pos ((lN_le n31 z31).mpr q)]
      subst e
      rw [Nat.sub_self, Nat.pow_zero] at h3
      rw [show bn_u x = 0 from Nat.lt_one_iff.mp h3, bn_len_zero, Nat.sub_zero]
    · have hz1 : z ≤ n - 1 := by omega
      have hb64 : n - 1 - z < 64 := by omega
      have hz2 : z + 1 ≤ n := by omega
      have hz3 : n - (z + 1) < f := by omega
      have hz4 : n - (z + 1) = n - 1 - z := by omega
      have hz5 : n - 1 - z + 1 = n - z := by omega
      have hz6 : n - (n - z) = z := by omega
      have hz7 : n - 1 < 2 ^ 31 := by omega
      intro h3
      rw [if_neg (fun w => q ((lN_le n31 z31).mp w))]
      have e1 : ((nI n - 1).toInt64 - lN z).toInt32 = nI (n - 1 - z) := by
        rw [show nI n - 1 = nI (n - 1) from by
          clear h3
          obtain ⟨k, rfl⟩ : ∃ k, n = k + 1 := ⟨n - 1, by omega⟩
          exact nI_pred k, nI_l hz7, lN_sub hz1, lN_i]
      rw [e1]
      have hb := bit_0 x (n - 1 - z) hb64
      have hlt : bn_u x / 2^(n - 1 - z) < 2 := by
        rw [Nat.div_lt_iff_lt_mul (Nat.two_pow_pos _), show 2 * 2^(n - 1 - z) = 2^(n - 1 - z + 1) from (Nat.pow_succ').symm, hz5]; exact h3
      by_cases w : bn_u x / 2^(n - 1 - z) % 2 = 0
      · rw [if_pos (hb.mpr w), lN_1]
        refine ih (z + 1) hz2 hz3 ?_
        rw [hz4]
        refine (Nat.div_eq_zero_iff_lt (Nat.two_pow_pos _)).mp ?_
        clear hb h3 e1
        generalize bn_u x / 2^(n - 1 - z) = G at *
        omega
      · rw [if_neg (fun k => w (hb.mp k))]
        have h5 : 2^(n - 1 - z) ≤ bn_u x := by
          refine (Nat.one_le_div_iff (Nat.two_pow_pos _)).mp ?_
          clear hb h3 e1
          generalize bn_u x / 2^(n - 1 - z) = G at *
          omega
        rw [bn_len_eq h5 (by rw [hz5]; exact h3), hz5, hz6]
theorem zb_val (n : Nat) (hn : n ≤ 64) (x : Int64) (T : Nat) (hT : (bn_u x = 0 ∧ T = n) ∨ (T < n ∧ ∃ a, bn_u x = 2^T * (2 * a + 1))) : ∀ (f z : Nat), z ≤ T → n - z < f → fM_zerosBehind_2 f (nI n) x (lN z) = lN T := by
  intro f
  induction f with
  | zero =>
    intro z h1 h2
    clear hT; omega
  | succ f ih =>
    intro z h1 h2
    have hTn : T ≤ n := by
      rcases hT with ⟨_, h⟩ | ⟨h, _⟩
      · exact Nat.le_of_eq h
      · exact Nat.le_of_lt h
    have n31 : n < 2 ^ 31 := by clear hT; omega
    have z31 : z < 2 ^ 31 := by clear hT; omega
    unfold fM_zerosBehind_2 fM_zerosBehind_27
    rw [nI_l n31, lN_i]
    by_cases q : n ≤ z
    · rw [if_pos ((lN_le n31 z31).mpr q), show z = T by clear hT; omega]
    · rw [if_neg (fun w => q ((lN_le n31 z31).mp w))]
      have hb := bit_0 x z (by clear hT; omega)
      by_cases w : z < T
      · have e : bn_u x / 2^z % 2 = 0 := by
          rcases hT with ⟨h, _⟩ | ⟨_, a, h⟩
          · rw [h]; simp
          · have hT2 : T = z + (T - z - 1 + 1) := by clear h; omega
            rw [h, hT2, Nat.pow_add, Nat.mul_assoc, Nat.mul_div_cancel_left _ (Nat.two_pow_pos z), Nat.pow_succ, Nat.mul_assoc, Nat.mul_left_comm]
            exact Nat.mul_mod_right 2 _
        rw [if_pos (hb.mpr e), lN_1]
        exact ih (z + 1) w (by clear hT e hb; omega)
      · have e : z = T := by clear hT hb; omega
        subst e
        rcases hT with ⟨_, h⟩ | ⟨_, a, h⟩
        · clear hb; omega
        · rw [if_neg]
          rw [hb, h, Nat.mul_div_cancel_left _ (Nat.two_pow_pos z)]; clear h hb; omega
theorem ones_val (n : Nat) (hn : n ≤ 64) (x : Int64) : ∀ (f k s : Nat), k ≤ n → n - k < f → fM_ones_5 f (nI n) x (lN s) (nI k) = lN (s + bn_pop (n - k) (bn_u x / 2^k)) := by
  intro f
  induction f with
  | zero => intro k s h1 h2; omega
  | succ f ih =>
    intro k s h1 h2
    unfold fM_ones_5 fM_ones_20
    by_cases q : n ≤ k
    · rw [if_pos ((nI_leI (by omega) (by omega)).mpr q), show n - k = 0 by omega]; rfl
    · rw [if_neg (fun w => q ((nI_leI (by omega) (by omega)).mp w))]
      have e : bn_sar x (nI k) &&& 1 = lN (bn_u x / 2^k % 2) := by
        apply bn_u_inj
        rw [bit_u x k (by omega)]
        have : bn_u x / 2^k % 2 < 2 := Nat.mod_lt _ (by decide)
        exact (bn_u_ofNat (Nat.lt_trans this (by decide))).symm
      rw [e, lN_add, nI_1, ih (k + 1) _ (by omega) (by omega), show n - k = (n - (k + 1)) + 1 by omega]
      show lN (s + bn_u x / 2^k % 2 + bn_pop (n - (k + 1)) (bn_u x / 2^(k + 1))) = lN (s + (bn_u x / 2^k % 2 + bn_pop (n - (k + 1)) (bn_u x / 2^k / 2)))
      rw [Nat.pow_succ, ← Nat.div_div_eq_div_mul, Nat.add_assoc]
theorem dv_step {X Y r q : Nat} (hY : 0 < Y) (b : Nat) (hr : r < Y) (hb : b < 2) : (2 * (q * Y + r) + b) = (2 * q + (if Y ≤ 2 * r + b then 1 else 0)) * Y + (if Y ≤ 2 * r + b then 2 * r + b - Y else 2 * r + b) ∧ (if Y ≤ 2 * r + b then 2 * r + b - Y else 2 * r + b) < Y := by
  split
  · constructor
    · rw [Nat.add_mul, Nat.mul_assoc]; omega
    · omega
  · constructor
    · rw [Nat.add_mul, Nat.mul_assoc]; omega
    · omega
theorem u_or1 {A b : Nat} (hb : b < 2) : (2 * A) ||| b = 2 * A + b := by
  rcases (show b = 0 ∨ b = 1 by omega) with rfl | rfl
  · simp
  · rw [bn_or_one]; omega
theorem dv_q {q j : Nat} (hj : j ≤ 63) (h5 : q * 2^(j + 1) < 2^64) : 2 * q * 2^j < 2^64 ∧ 2 * q < 2^64 ∧ (2 * q + 1) * 2^j < 2^64 := by
  have hq2 : 2 * q * 2^j < 2^64 := by rw [Nat.mul_comm 2, Nat.mul_assoc, ← Nat.pow_succ']; exact h5
  refine ⟨hq2, Nat.lt_of_le_of_lt (Nat.le_mul_of_pos_right _ (Nat.two_pow_pos j)) hq2, ?_⟩
  have hj2 : 63 - j + 1 + j = 64 := by clear h5 hq2; omega
  have hd : 2^64 = 2^(63 - j) * 2 * 2^j := by rw [← Nat.pow_succ, ← Nat.pow_add, hj2]
  rw [hd] at hq2 ⊢
  have h := Nat.lt_of_mul_lt_mul_right hq2
  clear hd h5 hq2
  refine Nat.mul_lt_mul_of_pos_right ?_ (Nat.two_pow_pos j)
  generalize 2^(63 - j) = G at *
  omega
theorem dv_m1 {Y r B : Nat} (hY : Y < 2^64) (hr : r < Y) (hB : B < 2) (h : Y ≤ 2 * r + B) : (2^64 - Y + (2 * r + B) % 2^64) % 2^64 = 2 * r + B - Y := by omega
theorem dv_m2 {Y r B : Nat} (hY : Y < 2^64) (h : ¬ Y ≤ 2 * r + B) : (2 * r + B) % 2^64 = 2 * r + B := by omega
theorem dv_m3 {r B : Nat} (hr : r < 2^64) (hB : B < 2) : 2 * (r % 2^63) + B = (2 * r + B) % 2^64 := by omega
theorem dv_m4 {r : Nat} (hr : r < 2^64) : 2 * r % 2^64 = 2 * (r % 2^63) := by omega
theorem dv_c {r : Nat} (hr : r < 2^64) : (0 ≤ (if r < 2^63 then (r : Int) else (r : Int) - 2^64)) ↔ r < 2^63 := by split <;> omega
theorem div_val (x y : Int64) (hy : 0 < bn_u y) (rem : Int32) : ∀ (f k : Nat) (i : Int32) (q r : Int64), k ≤ 64 → i.toInt = (k : Int) - 1 → k < f → bn_u r < bn_u y → bn_u q * 2^k < 2^64 → bn_u x / 2^k = bn_u q * bn_u y + bn_u r →
    bn_u (fM_divide_10 f x y rem q r i) = if rem = 0 then bn_u x / bn_u y else bn_u x % bn_u y := by
  intro f
  induction f with
  | zero => intro k i q r h1 h2 h3; omega
  | succ f ih =>
    intro k i q r h1 h2 h3 h4
    unfold fM_divide_10
    have z0 : (0 : Int32).toInt = 0 := rfl
    by_cases w : i < 0
    · rw [if_pos w]
      rw [Int32.lt_iff_toInt_lt] at w
      have e : k = 0 := by omega
      subst e
      intro h5 h6
      rw [Nat.pow_zero, Nat.div_one] at h6
      have hq : bn_u x / bn_u y = bn_u q ∧ bn_u x % bn_u y = bn_u r := by
        rw [h6, Nat.mul_comm, Nat.mul_add_div hy, Nat.div_eq_of_lt h4, Nat.mul_add_mod, Nat.mod_eq_of_lt h4]
        exact ⟨Nat.add_zero _, rfl⟩
      rw [hq.1, hq.2]
      split <;> rfl
    · rw [if_neg w]
      rw [Int32.lt_iff_toInt_lt] at w
      obtain ⟨j, rfl⟩ : ∃ j, k = j + 1 := ⟨k - 1, by omega⟩
      have hj64 : j < 64 := by omega
      have hj63 : j ≤ 63 := by omega
      have hjk : j ≤ 64 := by omega
      have hjf : j < f := by omega
      have hi : i = nI j := by rw [← Int32.toInt_inj, nI_toInt (by omega)]; omega
      have i1 : (i + (-1)).toInt = (j : Int) - 1 := by rw [bn_i_add] <;> rw [show (-1 : Int32).toInt = -1 from rfl] <;> omega
      intro h5 h6
      have hbit := bit_u x j hj64
      have hb2 : bn_u x / 2^j % 2 < 2 := Nat.mod_lt _ (by decide)
      have hX : bn_u x / 2^j = 2 * (bn_u x / 2^(j + 1)) + bn_u x / 2^j % 2 := by
        rw [Nat.pow_succ, ← Nat.div_div_eq_div_mul]
        clear hbit hb2 h5 h6 ih
        generalize bn_u x / 2^j = G
        omega
      generalize bn_u x / 2^j % 2 = B at *
      have hyl := bn_u_lt y
      have hrl := bn_u_lt r
      have hr2 : bn_u (2 * r ||| (bn_sar x i &&& 1)) = (2 * bn_u r + B) % 2^64 := by
        rw [bn_u_or, hi, hbit, bn_u_mul, show bn_u 2 = 2 from rfl, dv_m4 hrl, u_or1 hb2, dv_m3 hrl hb2]
      obtain ⟨d1, d2⟩ := dv_step (X := 0) (q := bn_u q) hy B h4 hb2
      rw [← h6, ← hX] at d1
      obtain ⟨hq2, hql, hqj⟩ := dv_q hj63 h5
      have q0 : bn_u (2 * q ||| 0) = 2 * bn_u q := by
        rw [bn_u_or, show bn_u 0 = 0 from rfl, Nat.or_zero, bn_mul_u (by rw [show bn_u 2 = 2 from rfl]; exact hql)]; rfl
      have q1 : bn_u (2 * q ||| 1) = 2 * bn_u q + 1 := by
        rw [bn_u_or, show bn_u 1 = 1 from rfl, bn_mul_u (by rw [show bn_u 2 = 2 from rfl]; exact hql), show bn_u 2 = 2 from rfl, u_or1 (by decide)]
      have yes : bn_u y ≤ 2 * bn_u r + B → bn_u (fM_divide_58 (fM_divide_10 f) x y rem q (2 * r ||| (bn_sar x i &&& 1)) i) = if rem = 0 then bn_u x / bn_u y else bn_u x % bn_u y := by
        intro hge
        rw [if_pos hge, if_pos hge] at d1
        rw [if_pos hge] at d2
        unfold fM_divide_58 fM_divide_63 fM_divide_79 fM_divide_97 fM_divide_100
        rw [if_neg (by decide), if_neg (by decide)]
        have hs : bn_u ((2 * r ||| (bn_sar x i &&& 1)) - y) = 2 * bn_u r + B - bn_u y := by
          rw [bn_u_sub, hr2]; exact dv_m1 hyl h4 hb2 hge
        exact ih j _ _ _ hjk i1 hjf (by rw [hs]; exact d2) (by rw [q1]; exact hqj) (by rw [q1, hs]; exact d1)
      have no : ¬ bn_u y ≤ 2 * bn_u r + B → bn_u (fM_divide_63 (fM_divide_10 f) x y rem q (2 * r ||| (bn_sar x i &&& 1)) i 0) = if rem = 0 then bn_u x / bn_u y else bn_u x % bn_u y := by
        intro hge
        rw [if_neg hge, if_neg hge, Nat.add_zero] at d1
        rw [if_neg hge] at d2
        unfold fM_divide_63 fM_divide_79 fM_divide_97 fM_divide_100
        rw [if_pos rfl, if_pos rfl]
        have hs : bn_u (2 * r ||| (bn_sar x i &&& 1)) = 2 * bn_u r + B := by
          rw [hr2]; exact dv_m2 hyl hge
        exact ih j _ _ _ hjk i1 hjf (by rw [hs]; exact d2) (by rw [q0]; exact hq2) (by rw [q0, hs]; exact d1)
      unfold fM_divide_27 fM_divide_44
      have hc : ((0 : Int64) ≤ r) ↔ bn_u r < 2^63 := by
        rw [Int64.le_iff_toInt_le, show (0 : Int64).toInt = 0 from rfl, bn_s_u]; exact dv_c hrl
      clear d1 hX h6 h5 hq2 hqj hql q0 q1 ih d2
      by_cases c : (0 : Int64) ≤ r
      · rw [if_pos c, if_pos rfl, isBelow_val, hr2]
        rw [hc] at c
        have hm : (2 * bn_u r + B) % 2^64 = 2 * bn_u r + B := by clear yes no hc; omega
        rw [hm]
        by_cases g : bn_u y ≤ 2 * bn_u r + B
        · rw [if_neg (Nat.not_lt.mpr g), if_pos rfl]; exact yes g
        · rw [if_pos (Nat.not_le.mp g), if_neg (by decide)]; exact no g
      · rw [if_neg c, if_neg (by decide)]
        apply yes
        rw [hc] at c
        clear yes no hc; omega
theorem divide_val (x y : Int64) (hy : y ≠ 0) (rem : Int32) : bn_u (fM_divide x y rem) = if rem = 0 then bn_u x / bn_u y else bn_u x % bn_u y := by
  have h : 0 < bn_u y := Nat.pos_of_ne_zero (fun q => hy (bn_u_zero.mpr q))
  unfold fM_divide
  refine div_val x y h rem 65 64 63 0 0 (by omega) rfl (by omega) h (by rw [show bn_u 0 = 0 from rfl]; decide) ?_
  rw [Nat.div_eq_of_lt (bn_u_lt x)]; simp [show bn_u 0 = 0 from rfl]
