def dg (f : Nat → Int32) (k : Nat) : Nat := (f k).toInt.toNat
def dg_ok (f : Nat → Int32) (n : Nat) : Prop := ∀ k, k < n → 0 ≤ (f k).toInt ∧ (f k).toInt < 65536
def dgV (F : Nat → Nat) : Nat → Nat
  | 0 => 0
  | n + 1 => dgV F n + F n * 65536^n
theorem dgV_lt {F : Nat → Nat} {n : Nat} (h : ∀ k, k < n → F k < 65536) : dgV F n < 65536^n := by
  induction n with
  | zero => exact Nat.zero_lt_one
  | succ n ih =>
    have h1 := ih (fun k hk => h k (by omega))
    have h2 := h n (by omega)
    have h3 : F n * 65536^n ≤ 65535 * 65536^n := Nat.mul_le_mul_right _ (by omega)
    rw [dgV, Nat.pow_succ]; omega
theorem dgV_ext {F G : Nat → Nat} {n : Nat} (h : ∀ k, k < n → F k = G k) : dgV F n = dgV G n := by
  induction n with
  | zero => rfl
  | succ n ih => rw [dgV, dgV, ih (fun k hk => h k (by omega)), h n (by omega)]
theorem dgV_digits {F : Nat → Nat} (N : Nat) {n : Nat} (h : ∀ k, k < n → F k = N / 65536^k % 65536) : dgV F n = N % 65536^n := by
  induction n with
  | zero => rw [dgV, Nat.pow_zero, Nat.mod_one]
  | succ n ih =>
    rw [dgV, ih (fun k hk => h k (by omega)), h n (by omega), Nat.pow_succ, Nat.mod_mul]
    rw [Nat.mul_comm (N / 65536^n % 65536)]
theorem dgV_zero_above {F : Nat → Nat} {n m : Nat} (h : n ≤ m) (h0 : ∀ k, n ≤ k → k < m → F k = 0) : dgV F m = dgV F n := by
  induction m with
  | zero => have : n = 0 := by omega
            rw [this]
  | succ m ih =>
    rcases Nat.lt_or_ge m n with q | q
    · have : n = m + 1 := by omega
      rw [this]
    · rw [dgV, ih q (fun k a b => h0 k a (by omega)), h0 m q (by omega)]; omega
def dg_sg (a b : Nat) : Int32 := if a < b then -1 else if a = b then 0 else 1
def dg_cd (F G : Nat → Nat) : Nat → Int32
  | 0 => 0
  | k + 1 => if F k = G k then dg_cd F G k else if G k ≤ F k then 1 else -1
theorem dg_cd_sg {F G : Nat → Nat} {n : Nat} (hF : ∀ k, k < n → F k < 65536) (hG : ∀ k, k < n → G k < 65536) : dg_cd F G n = dg_sg (dgV F n) (dgV G n) := by
  induction n with
  | zero => rfl
  | succ n ih =>
    have h1 := dgV_lt (F := F) (n := n) (fun k hk => hF k (by omega))
    have h2 := dgV_lt (F := G) (n := n) (fun k hk => hG k (by omega))
    rw [dg_cd]
    by_cases q : F n = G n
    · rw [if_pos q, ih (fun k hk => hF k (by omega)) (fun k hk => hG k (by omega)), dgV, dgV, q]
      unfold dg_sg
      have e1 : (dgV F n + G n * 65536^n < dgV G n + G n * 65536^n) ↔ dgV F n < dgV G n := by omega
      have e2 : (dgV F n + G n * 65536^n = dgV G n + G n * 65536^n) ↔ dgV F n = dgV G n := by omega
      simp only [e1, e2]
    · rw [if_neg q, dgV, dgV]
      unfold dg_sg
      by_cases w : G n ≤ F n
      · rw [if_pos w]
        have : (G n + 1) * 65536^n ≤ F n * 65536^n := Nat.mul_le_mul_right _ (by omega)
        rw [Nat.add_mul] at this
        rw [if_neg (by omega), if_neg (by omega)]
      · rw [if_neg w]
        have : (F n + 1) * 65536^n ≤ G n * 65536^n := Nat.mul_le_mul_right _ (by omega)
        rw [Nat.add_mul] at this
        rw [if_pos (by omega)]
theorem dg_and16 (x : Int32) : (x &&& 65535).toInt = ((bn_v x % 65536 : Nat) : Int) := by
  have h1 : bn_v (x &&& 65535) = bn_v x % 65536 := by rw [bn_v_and, show bn_v 65535 = 2^16 - 1 from rfl, bn_and_mask]
  rw [bn_v_s, h1, if_pos (by omega)]
theorem dg_pow (k : Nat) : 65536^k = 2^(16 * k) := by rw [show (65536 : Nat) = 2^16 from rfl, ← Nat.pow_mul]
theorem dg_digit (v : Int64) (sh : Int32) (S k : Nat) (hs : sh.toInt = S) (hS : S < 100000) (hk : k < 100000) : (fM_digit v sh (nI k)).toInt = ((bn_u v * 2^S / 65536^k % 65536 : Nat) : Int) := by
  have z16 : (16 : Int32).toInt = 16 := rfl
  have z0 : (0 : Int32).toInt = 0 := rfl
  have z63 : (63 : Int32).toInt = 63 := rfl
  have z15 : (-15 : Int32).toInt = -15 := rfl
  have hn : (nI k).toInt = k := nI_toInt (by omega)
  have hm : (16 * nI k).toInt = 16 * k := by
    rw [Int32.toInt_mul, z16, hn, Int.bmod_eq_of_le] <;> omega
  have hf : (16 * nI k - sh).toInt = 16 * k - S := by rw [bn_i_sub] <;> omega
  have hu := bn_u_lt v
  have h41 : ∀ x : Int64, (fM_digit_41 x).toInt = ((bn_u x % 65536 : Nat) : Int) := by
    intro x
    unfold fM_digit_41
    rw [dg_and16, bn_v_l2i]
    congr 1; omega
  unfold fM_digit fM_digit_8 fM_digit_22
  generalize 16 * nI k - sh = fr at *
  rw [dg_pow]
  by_cases c1 : (63 : Int32) < fr
  · rw [if_pos c1]
    rw [Int32.lt_iff_toInt_lt, z63, hf] at c1
    have e : 2^(16 * k) = 2^(16 * k - S) * 2^S := by rw [← Nat.pow_add]; congr 1; omega
    rw [e, Nat.mul_div_mul_right _ _ (Nat.two_pow_pos S)]
    have : 2^64 ≤ 2^(16 * k - S) := Nat.pow_le_pow_right (by decide) (by omega)
    rw [Nat.div_eq_of_lt (by omega)]; rfl
  · rw [if_neg c1]
    rw [Int32.lt_iff_toInt_lt, z63, hf] at c1
    by_cases c2 : (-15 : Int32) ≤ fr
    · rw [if_pos c2]
      rw [Int32.le_iff_toInt_le, z15, hf] at c2
      by_cases c3 : fr < 0
      · rw [if_pos c3, h41]
        rw [Int32.lt_iff_toInt_lt, z0, hf] at c3
        have e : bn_u v * 2^S = bn_u v * 2^(S - 16 * k) * 2^(16 * k) := by rw [Nat.mul_assoc, ← Nat.pow_add]; congr 2; omega
        rw [e, Nat.mul_div_cancel _ (Nat.two_pow_pos _), bn_u_shl]
        have e2 : ((-fr).toInt % 64).toNat = S - 16 * k := by rw [bn_i_neg] <;> omega
        rw [e2]
        congr 1; omega
      · rw [if_neg c3, h41]
        rw [Int32.lt_iff_toInt_lt, z0, hf] at c3
        have e : 2^(16 * k) = 2^(16 * k - S) * 2^S := by rw [← Nat.pow_add]; congr 1; omega
        rw [e, Nat.mul_div_mul_right _ _ (Nat.two_pow_pos S), bn_shr_u (k := 16 * k - S) (by omega) (by omega)]
    · rw [if_neg c2]
      rw [Int32.le_iff_toInt_le, z15, hf] at c2
      have e : bn_u v * 2^S = bn_u v * 2^(S - 16 * k - 16) * 65536 * 2^(16 * k) := by
        rw [show (65536 : Nat) = 2^16 from rfl, Nat.mul_assoc, Nat.mul_assoc, ← Nat.pow_add, ← Nat.pow_add]; congr 2; omega
      rw [e, Nat.mul_div_cancel _ (Nat.two_pow_pos _), Nat.mul_mod_left]; rfl
theorem dg_of {f : Nat → Int32} {k N : Nat} (h : (f k).toInt = (N : Int)) : dg f k = N := by unfold dg; omega
theorem upd_same {f : Nat → Int32} {k : Nat} {x : Int32} : upd f k x k = x := if_pos rfl
theorem upd_other {f : Nat → Int32} {k j : Nat} {x : Int32} (h : j ≠ k) : upd f k x j = f j := if_neg h
theorem set_row_3 (v : Int64) (sh : Int32) : ∀ (n k : Nat) (σ : MS), k + n = 321 → fM_set_row_3 n v sh (nI k) σ = ms_set_row σ (fun j => if k ≤ j ∧ j < 320 then fM_digit v sh (nI j) else ms_row σ j) := by
  intro n
  induction n with
  | zero =>
    intro k σ hk
    have : (fun j => if k ≤ j ∧ j < 320 then fM_digit v sh (nI j) else ms_row σ j) = ms_row σ := by
      funext j; rw [if_neg (by omega)]
    rw [this]; rfl
  | succ n ih =>
    intro k σ hk
    rw [fM_set_row_3]
    by_cases q : k = 320
    · rw [if_pos (show (320 : Int32) ≤ nI k by rw [q]; decide)]
      have : (fun j => if k ≤ j ∧ j < 320 then fM_digit v sh (nI j) else ms_row σ j) = ms_row σ := by
        funext j; rw [if_neg (by omega)]
      rw [this]; rfl
    · rw [if_neg (show ¬ (320 : Int32) ≤ nI k from nI_ge (b := 320) (by omega) (by decide)), show nI k + 1 = nI (k + 1) from (nI_succ k).symm, ih (k + 1) _ (by omega), nI_clamp (by omega)]
      show ms_set_row σ _ = _
      congr 1
      funext j
      rw [ms_row_row]
      by_cases w : j = k
      · subst w; rw [if_neg (by omega), if_pos (by omega), upd_same]
      · rw [upd_other w]
        by_cases g : k ≤ j ∧ j < 320
        · rw [if_pos (by omega), if_pos g]
        · rw [if_neg (by omega), if_neg g]
theorem set_other_3 (v : Int64) (sh : Int32) : ∀ (n k : Nat) (σ : MS), k + n = 321 → fM_set_other_3 n v sh (nI k) σ = ms_set_other σ (fun j => if k ≤ j ∧ j < 320 then fM_digit v sh (nI j) else ms_other σ j) := by
  intro n
  induction n with
  | zero =>
    intro k σ hk
    have : (fun j => if k ≤ j ∧ j < 320 then fM_digit v sh (nI j) else ms_other σ j) = ms_other σ := by
      funext j; rw [if_neg (by omega)]
    rw [this]; rfl
  | succ n ih =>
    intro k σ hk
    rw [fM_set_other_3]
    by_cases q : k = 320
    · rw [if_pos (show (320 : Int32) ≤ nI k by rw [q]; decide)]
      have : (fun j => if k ≤ j ∧ j < 320 then fM_digit v sh (nI j) else ms_other σ j) = ms_other σ := by
        funext j; rw [if_neg (by omega)]
      rw [this]; rfl
    · rw [if_neg (show ¬ (320 : Int32) ≤ nI k from nI_ge (b := 320) (by omega) (by decide)), show nI k + 1 = nI (k + 1) from (nI_succ k).symm, ih (k + 1) _ (by omega), nI_clamp (by omega)]
      show ms_set_other σ _ = _
      congr 1
      funext j
      rw [ms_other_other]
      by_cases w : j = k
      · subst w; rw [if_neg (by omega), if_pos (by omega), upd_same]
      · rw [upd_other w]
        by_cases g : k ≤ j ∧ j < 320
        · rw [if_pos (by omega), if_pos g]
        · rw [if_neg (by omega), if_neg g]
theorem dg_setf (v : Int64) (sh : Int32) (S : Nat) (hs : sh.toInt = S) (hS : S ≤ 5000) (f : Nat → Int32) : dg_ok (fun j => if 0 ≤ j ∧ j < 320 then fM_digit v sh (nI j) else f j) 320 ∧ dgV (dg (fun j => if 0 ≤ j ∧ j < 320 then fM_digit v sh (nI j) else f j)) 320 = bn_u v * 2^S := by
  have hd : ∀ k, k < 320 → ((fun j => if 0 ≤ j ∧ j < 320 then fM_digit v sh (nI j) else f j) k).toInt = ((bn_u v * 2^S / 65536^k % 65536 : Nat) : Int) := by
    intro k hk
    show (if 0 ≤ k ∧ k < 320 then fM_digit v sh (nI k) else f k).toInt = _
    rw [if_pos ⟨Nat.zero_le k, hk⟩]
    exact dg_digit v sh S k hs (by omega) (by omega)
  refine ⟨fun k hk => ?_, ?_⟩
  · rw [hd k hk]; omega
  · rw [dgV_digits (bn_u v * 2^S) (fun k hk => dg_of (hd k hk))]
    apply Nat.mod_eq_of_lt
    rw [dg_pow]
    have h1 : bn_u v * 2^S < 2^64 * 2^S := Nat.mul_lt_mul_of_pos_right (bn_u_lt v) (Nat.two_pow_pos S)
    rw [← Nat.pow_add] at h1
    exact Nat.lt_of_lt_of_le h1 (Nat.pow_le_pow_right (by decide) (by omega))
theorem set_row_val (v : Int64) (sh : Int32) (σ : MS) (S : Nat) (hs : sh.toInt = S) (hS : S ≤ 5000) : ∃ f, fM_set_row v sh σ = ms_set_row σ f ∧ dg_ok f 320 ∧ dgV (dg f) 320 = bn_u v * 2^S :=
  ⟨_, set_row_3 v sh 321 0 σ (by omega), (dg_setf v sh S hs hS (ms_row σ)).1, (dg_setf v sh S hs hS (ms_row σ)).2⟩
theorem set_other_val (v : Int64) (sh : Int32) (σ : MS) (S : Nat) (hs : sh.toInt = S) (hS : S ≤ 5000) : ∃ f, fM_set_other v sh σ = ms_set_other σ f ∧ dg_ok f 320 ∧ dgV (dg f) 320 = bn_u v * 2^S :=
  ⟨_, set_other_3 v sh 321 0 σ (by omega), (dg_setf v sh S hs hS (ms_other σ)).1, (dg_setf v sh S hs hS (ms_other σ)).2⟩
