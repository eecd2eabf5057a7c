def bn_V (k : Nat) (x : Int64) : Nat := bn_M k x * 2^(bn_S k x - bn_mn k).toNat
theorem bn_S_ex (k : Nat) (x : Int64) : (bn_S k x - bn_mn k).toNat = bn_ex k x - 1 := by unfold bn_S; omega
theorem bn_mag_ex (k : Nat) (x : Int64) : bn_mag k x = bn_ex k x * 2^(bn_P k - 1) + bn_mag k x % 2^(bn_P k - 1) := by
  unfold bn_ex; have := Nat.div_add_mod (bn_mag k x) (2^(bn_P k - 1)); rw [Nat.mul_comm]; omega
theorem bn_V_lt_of_ex {k : Nat} {x y : Int64} (h : bn_ex k x < bn_ex k y) : bn_V k x < bn_V k y := by
  have hP := bn_P_le k
  have hf := Nat.mod_lt (bn_mag k x) (Nat.two_pow_pos (bn_P k - 1))
  have hy : bn_V k y = (2^(bn_P k - 1) + bn_mag k y % 2^(bn_P k - 1)) * 2^(bn_ex k y - 1) := by
    unfold bn_V bn_M; rw [bn_S_ex, if_neg (by omega)]
  have hy2 : 2^(bn_P k - 1) * 2^(bn_ex k y - 1) ≤ bn_V k y := by rw [hy]; exact Nat.mul_le_mul_right _ (by omega)
  have hx : bn_V k x < 2^(bn_P k - 1) * 2^(bn_ex k x) := by
    unfold bn_V bn_M; rw [bn_S_ex]
    by_cases q : bn_ex k x = 0
    · rw [if_pos q, q]
      have := bn_mag_ex k x
      rw [q] at this
      simp; omega
    · rw [if_neg q, show 2^bn_ex k x = 2 * 2^(bn_ex k x - 1) by rw [← Nat.pow_succ']; congr 1; omega, ← Nat.mul_assoc]
      exact Nat.mul_lt_mul_of_pos_right (by omega) (Nat.two_pow_pos _)
  have : 2^(bn_P k - 1) * 2^(bn_ex k x) ≤ 2^(bn_P k - 1) * 2^(bn_ex k y - 1) := Nat.mul_le_mul_left _ (Nat.pow_le_pow_right (by decide) (by omega))
  omega
theorem bn_V_mono {k : Nat} {x y : Int64} (h : bn_mag k x ≤ bn_mag k y) : bn_V k x ≤ bn_V k y := by
  have he : bn_ex k x ≤ bn_ex k y := Nat.div_le_div_right h
  rcases Nat.lt_or_eq_of_le he with q | q
  · exact Nat.le_of_lt (bn_V_lt_of_ex q)
  · have hx := bn_mag_ex k x
    have hy := bn_mag_ex k y
    rw [q] at hx
    unfold bn_V bn_M
    rw [bn_S_ex, bn_S_ex, q]
    apply Nat.mul_le_mul_right
    split
    · exact h
    · omega
theorem bn_V_eq {k : Nat} {x y : Int64} (h : bn_V k x = bn_V k y) : bn_mag k x = bn_mag k y := by
  rcases Nat.lt_trichotomy (bn_ex k x) (bn_ex k y) with q | q | q
  · have := bn_V_lt_of_ex q; omega
  · have hx := bn_mag_ex k x
    have hy := bn_mag_ex k y
    rw [q] at hx
    unfold bn_V bn_M at h
    rw [bn_S_ex, bn_S_ex, q] at h
    have := Nat.eq_of_mul_eq_mul_right (Nat.two_pow_pos _) h
    split at this <;> omega
  · have := bn_V_lt_of_ex q; omega
theorem bn_S_mono {k : Nat} {x y : Int64} (h : bn_mag k x ≤ bn_mag k y) : bn_S k x ≤ bn_S k y := by
  have he : bn_ex k x ≤ bn_ex k y := Nat.div_le_div_right h
  unfold bn_S; omega
theorem bn_tr_big {d r : Nat} (h : r < 2^d) : bn_tr d r = if r = 0 then 0 else 1 := by
  unfold bn_tr
  rw [Nat.div_eq_of_lt h, Nat.mod_eq_of_lt h]
theorem bn_tr_add (d G R : Nat) (hG : G % 2 = 0) : bn_tr d (G * 2^d + R) = G + bn_tr d R := by
  unfold bn_tr
  rw [Nat.mul_comm, Nat.mul_add_mod, Nat.mul_add_div (Nat.two_pow_pos d)]
  split <;> omega
theorem bn_tr_sub (d G R : Nat) (hG : G % 2 = 0) (h : R ≤ G * 2^d) : bn_tr d (G * 2^d - R) = G - bn_tr d R ∧ bn_tr d R ≤ G := by
  have hp := Nat.two_pow_pos d
  have hR := Nat.div_add_mod R (2^d)
  have hm := Nat.mod_lt R hp
  rcases Nat.eq_zero_or_pos (R % 2^d) with q | q
  · have e : G * 2^d - R = (G - R / 2^d) * 2^d := by
      rw [Nat.sub_mul, Nat.mul_comm (R / 2^d)]; omega
    have hle : R / 2^d ≤ G := by
      rw [Nat.mul_comm] at h
      exact Nat.div_le_of_le_mul h
    unfold bn_tr
    rw [e, if_pos (Nat.mul_mod_left _ _), Nat.mul_div_cancel _ hp, if_pos q]
    exact ⟨rfl, hle⟩
  · have hlt : R / 2^d < G := by
      rw [Nat.div_lt_iff_lt_mul hp]
      rcases Nat.lt_or_eq_of_le h with w | w
      · exact w
      · rw [w, Nat.mul_mod_left] at q; omega
    have e : G * 2^d - R = 2^d * (G - R / 2^d - 1) + (2^d - R % 2^d) := by
      obtain ⟨c, hc⟩ : ∃ c, G = R / 2^d + 1 + c := ⟨G - R / 2^d - 1, by omega⟩
      have : G - R / 2^d - 1 = c := by omega
      rw [this, hc, Nat.add_mul, Nat.add_mul, Nat.one_mul, Nat.mul_comm (R / 2^d), Nat.mul_comm c]
      omega
    have hm1 : (G * 2^d - R) % 2^d = 2^d - R % 2^d := by rw [e, Nat.mul_add_mod, Nat.mod_eq_of_lt (by omega)]
    have hd1 : (G * 2^d - R) / 2^d = G - R / 2^d - 1 := by rw [e, Nat.mul_add_div hp, Nat.div_eq_of_lt (a := 2^d - R % 2^d) (by omega), Nat.add_zero]
    unfold bn_tr
    rw [hm1, hd1, if_neg (by omega), if_neg (by omega)]
    omega
theorem bn_trace (r : Int64) (b : Int32) (d : Nat) (hb : b.toInt = d) (hr : bn_u r < 2^63) : bn_u (fFloating_shiftedWithTrace r b) = bn_tr d (bn_u r) := by
  have z63 : (63 : Int32).toInt = 63 := rfl
  unfold fFloating_shiftedWithTrace
  by_cases q : b ≤ 63
  · rw [if_pos q]
    rw [Int32.le_iff_toInt_le, z63] at q
    unfold fFloating_shiftedWithTrace_22
    have s1 : bn_u (bn_shr r b) = bn_u r / 2^d := bn_shr_u hb (by omega)
    have hdm := Nat.div_add_mod (bn_u r) (2^d)
    have s2 : bn_u (bn_shl (bn_shr r b) b) = bn_u r / 2^d * 2^d := by
      rw [bn_shl_u hb (by omega)] <;> rw [s1]
      rw [Nat.mul_comm]; omega
    have c : (bn_shl (bn_shr r b) b = r) ↔ bn_u r % 2^d = 0 := by
      rw [bn_u_eq, s2, Nat.mul_comm]; omega
    simp only [c]
    unfold bn_tr
    split
    · exact s1
    · rw [bn_u_or, s1, show bn_u 1 = 1 from rfl, bn_or_one]
  · rw [if_neg q]
    rw [Int32.le_iff_toInt_le, z63] at q
    have hp : 2^63 ≤ 2^d := Nat.pow_le_pow_right (by decide) (by omega)
    rw [bn_tr_big (by omega)]
    have : (r = 0) ↔ bn_u r = 0 := bn_u_zero
    simp only [this]
    split <;> rfl

theorem bn_tr_pos {d n : Nat} (h : 0 < n) : 0 < bn_tr d n := by
  unfold bn_tr
  split
  · next q =>
    have := Nat.div_add_mod n (2^d)
    rcases Nat.eq_zero_or_pos (n / 2^d) with w | w
    · rw [w, q] at this; omega
    · exact w
  · omega
theorem bn_rn_trace (P : Nat) (mn : Int) (n : Nat) (e : Int) (d : Nat) (h0 : 0 < n) (h : n % 2^d = 0 ∨ d + P + 2 ≤ bn_len n) : bn_rn P mn (bn_tr d n) (e + d) = bn_rn P mn n e := by
  by_cases q : n % 2^d = 0
  · have hn : n = n / 2^d * 2^d := by have := Nat.div_add_mod n (2^d); rw [Nat.mul_comm]; omega
    have hq : 0 < n / 2^d := by
      rcases Nat.eq_zero_or_pos (n / 2^d) with w | w
      · rw [w, Nat.zero_mul] at hn; omega
      · exact w
    have := bn_rn_mul P mn (n / 2^d) e d hq
    rw [← hn] at this
    rw [this, bn_tr, if_pos q]
  · have hl : d + P + 2 ≤ bn_len n := by rcases h with w | w; exact absurd w q; exact w
    exact bn_rn_tr P mn n e d (bn_lt_len.mp (by omega)) (by unfold bn_ns; omega)
set_option maxHeartbeats 1000000 in
theorem bn_sum_rows (k : Nat) (g s : Int64) (hg : bn_ok k g) (hs : bn_ok k s) (hgs : bn_mag k s ≤ bn_mag k g) :
    let lift : Int32 := 62 - fm_places k
    let G := bn_shl (fFormat_significand k g) lift
    let R := fFloating_shiftedWithTrace (bn_shl (fFormat_significand k s) lift) (fFormat_scale k g - fFormat_scale k s)
    (bn_u (G + R) = 0 ↔ bn_V k g + bn_V k s = 0) ∧ (bn_u (G - R) = 0 ↔ bn_V k g = bn_V k s) ∧
    (bn_V k g + bn_V k s ≠ 0 → ∀ neg, fFormat_rounded k neg (G + R) (fFormat_scale k g - lift) = bn_out k neg (bn_V k g + bn_V k s) (bn_mn k)) ∧
    (bn_V k g ≠ bn_V k s → ∀ neg, fFormat_rounded k neg (G - R) (fFormat_scale k g - lift) = bn_out k neg (bn_V k g - bn_V k s) (bn_mn k)) := by
  intro lift G R
  have hP := bn_P_le k
  have hmn := bn_mn_le k
  have mg := bn_signif k g hg
  have ms := bn_signif k s hs
  have sg := bn_scale k g hg
  have ss := bn_scale k s hs
  have mgl := bn_M_lt k g
  have msl := bn_M_lt k s
  have sg1 := bn_S_ge k g
  have sg2 := bn_S_le k g
  have ss1 := bn_S_ge k s
  have ss2 := bn_S_le k s
  have hSS := bn_S_mono hgs
  have hVV := bn_V_mono hgs
  have z62 : (62 : Int32).toInt = 62 := rfl
  have hlift : lift.toInt = (62 - bn_P k : Nat) := by
    show (62 - fm_places k).toInt = _
    rw [bn_i_sub] <;> rw [bn_places, z62] <;> omega
  obtain ⟨L, hL⟩ : ∃ L, L = 62 - bn_P k := ⟨_, rfl⟩
  rw [← hL] at hlift
  have hLP : 2^bn_P k * 2^L = 2^62 := by rw [← Nat.pow_add]; congr 1; omega
  have uG : bn_u G = bn_M k g * 2^L := by
    have : bn_M k g * 2^L < 2^62 := by rw [← hLP]; exact Nat.mul_lt_mul_of_pos_right mgl (Nat.two_pow_pos L)
    show bn_u (bn_shl _ lift) = _
    rw [bn_shl_u hlift (by omega)] <;> rw [mg]; omega
  have uGl : bn_M k g * 2^L < 2^62 := by rw [← hLP]; exact Nat.mul_lt_mul_of_pos_right mgl (Nat.two_pow_pos L)
  have uRl : bn_M k s * 2^L < 2^62 := by rw [← hLP]; exact Nat.mul_lt_mul_of_pos_right msl (Nat.two_pow_pos L)
  have uR0 : bn_u (bn_shl (fFormat_significand k s) lift) = bn_M k s * 2^L := by
    rw [bn_shl_u hlift (by omega)] <;> rw [ms]; omega
  obtain ⟨d, hd⟩ : ∃ d : Nat, bn_S k g - bn_S k s = d := ⟨(bn_S k g - bn_S k s).toNat, by omega⟩
  have hdi : (fFormat_scale k g - fFormat_scale k s).toInt = d := by rw [bn_i_sub] <;> omega
  have uR : bn_u R = bn_tr d (bn_M k s * 2^L) := by
    show bn_u (fFloating_shiftedWithTrace _ _) = _
    rw [bn_trace _ _ d hdi (by omega), uR0]
  have hGe : bn_M k g * 2^L % 2 = 0 := by
    rw [show 2^L = 2 * 2^(L-1) by rw [← Nat.pow_succ']; congr 1; omega, ← Nat.mul_assoc, Nat.mul_right_comm]
    omega
  have hVg : bn_V k g = bn_M k g * 2^d * 2^(bn_S k s - bn_mn k).toNat := by
    unfold bn_V; rw [Nat.mul_assoc, ← Nat.pow_add]; congr 2; omega
  have hVs : bn_V k s = bn_M k s * 2^(bn_S k s - bn_mn k).toNat := rfl
  have hle : bn_M k s ≤ bn_M k g * 2^d := by
    rw [hVg, hVs] at hVV
    exact Nat.le_of_mul_le_mul_right hVV (Nat.two_pow_pos _)
  have tp := Nat.two_pow_pos (bn_S k s - bn_mn k).toNat
  have hRle : bn_M k s * 2^L ≤ bn_M k g * 2^L * 2^d := by
    rw [Nat.mul_right_comm]; exact Nat.mul_le_mul_right _ hle
  have hadd := bn_tr_add d (bn_M k g * 2^L) (bn_M k s * 2^L) hGe
  obtain ⟨hsub, htle⟩ := bn_tr_sub d (bn_M k g * 2^L) (bn_M k s * 2^L) hGe hRle
  have htl : bn_tr d (bn_M k s * 2^L) ≤ 2^62 := by omega
  have uadd : bn_u (G + R) = bn_tr d (bn_M k g * 2^L * 2^d + bn_M k s * 2^L) := by
    rw [bn_add_u] <;> rw [uG, uR]
    · exact hadd.symm
    · omega
  have usub : bn_u (G - R) = bn_tr d (bn_M k g * 2^L * 2^d - bn_M k s * 2^L) := by
    rw [bn_sub_u] <;> rw [uG, uR]
    · exact hsub.symm
    · exact htle
  have eadd : bn_M k g * 2^L * 2^d + bn_M k s * 2^L = (bn_M k g * 2^d + bn_M k s) * 2^L := by
    rw [Nat.add_mul, Nat.mul_right_comm]
  have esub : bn_M k g * 2^L * 2^d - bn_M k s * 2^L = (bn_M k g * 2^d - bn_M k s) * 2^L := by
    rw [Nat.sub_mul, Nat.mul_right_comm]
  have vadd : bn_V k g + bn_V k s = (bn_M k g * 2^d + bn_M k s) * 2^(bn_S k s - bn_mn k).toNat := by rw [hVg, hVs, Nat.add_mul]
  have vsub : bn_V k g - bn_V k s = (bn_M k g * 2^d - bn_M k s) * 2^(bn_S k s - bn_mn k).toNat := by rw [hVg, hVs, Nat.sub_mul]
  have hLp := Nat.two_pow_pos L
  have hlong : ∀ n : Nat, n * 2^L % 2^d = 0 ∨ 10 ≤ d := by
    intro n
    rcases Nat.lt_or_ge d 10 with q | q
    · left
      have : L = (L - d) + d := by omega
      rw [this, Nat.pow_add, ← Nat.mul_assoc, Nat.mul_mod_left]
    · right; exact q
  have hbig : 10 ≤ d → 2^60 * 2^d ≤ bn_M k g * 2^L * 2^d - bn_M k s * 2^L := by
    intro q
    have h1 := bn_M_ge k g (by omega)
    have h2 : 2^(bn_P k - 1) * 2^L = 2^61 := by rw [← Nat.pow_add]; congr 1; omega
    have h3 : 2^61 ≤ bn_M k g * 2^L := by rw [← h2]; exact Nat.mul_le_mul_right _ h1
    have h4 := Nat.mul_le_mul_right (2^d) h3
    have h5 : 2^10 ≤ 2^d := Nat.pow_le_pow_right (by decide) q
    omega
  have scl : (fFormat_scale k g - lift).toInt = bn_S k s - L + d := by rw [bn_i_sub] <;> omega
  have main : ∀ (n : Nat) (mm : Int64) (neg : Int32), 0 < n → bn_u mm = bn_tr d (n * 2^L) → bn_u mm < 2^63 → (n * 2^L % 2^d = 0 ∨ d + bn_P k + 2 ≤ bn_len (n * 2^L)) →
      fFormat_rounded k neg mm (fFormat_scale k g - lift) = bn_out k neg (n * 2^(bn_S k s - bn_mn k).toNat) (bn_mn k) := by
    intro n mm neg hn hmu hml hc
    have hnL : 0 < n * 2^L := Nat.mul_pos hn hLp
    have hm0 : mm ≠ 0 := by
      intro q; rw [bn_u_zero, hmu] at q
      have := bn_tr_pos (d := d) hnL
      omega
    rw [bn_rounded k neg mm _ hm0 (by omega) (Or.inl hml), scl, hmu, bn_rn_trace _ _ _ _ _ hnL hc, bn_rn_mul _ _ _ _ _ hn, bn_out, bn_rn_mul _ _ _ _ _ hn]
    rw [show bn_S k s - L + L = bn_mn k + ((bn_S k s - bn_mn k).toNat : Int) by omega]
  refine ⟨?_, ?_, ?_, ?_⟩
  · rw [uadd, eadd, vadd]
    rcases Nat.eq_zero_or_pos (bn_M k g * 2^d + bn_M k s) with q | q
    · rw [q]; simp [bn_tr]
    · have h1 := bn_tr_pos (d := d) (Nat.mul_pos q hLp)
      have h2 := Nat.mul_pos q tp
      omega
  · rw [usub, esub]
    have : (bn_V k g = bn_V k s) ↔ (bn_M k g * 2^d - bn_M k s) * 2^(bn_S k s - bn_mn k).toNat = 0 := by rw [← vsub]; omega
    rw [this]
    rcases Nat.eq_zero_or_pos (bn_M k g * 2^d - bn_M k s) with q | q
    · rw [q]; simp [bn_tr]
    · have h1 := bn_tr_pos (d := d) (Nat.mul_pos q hLp)
      have h2 := Nat.mul_pos q tp
      omega
  · intro hne neg
    rw [vadd] at hne ⊢
    have q : 0 < bn_M k g * 2^d + bn_M k s := by
      rcases Nat.eq_zero_or_pos (bn_M k g * 2^d + bn_M k s) with q | q
      · rw [q, Nat.zero_mul] at hne; exact absurd rfl hne
      · exact q
    apply main _ _ _ q
    · rw [uadd, eadd]
    · rw [uadd, hadd]; omega
    · rcases hlong (bn_M k g * 2^d + bn_M k s) with w | w
      · exact Or.inl w
      · right
        have hb := hbig w
        rw [← eadd]
        have h60 : 2^(60 + d) ≤ bn_M k g * 2^L * 2^d + bn_M k s * 2^L := by rw [Nat.pow_add]; omega
        have := bn_lt_len.mpr h60
        omega
  · intro hne neg
    have hne' : bn_V k g - bn_V k s ≠ 0 := by omega
    rw [vsub] at hne' ⊢
    have q : 0 < bn_M k g * 2^d - bn_M k s := by
      rcases Nat.eq_zero_or_pos (bn_M k g * 2^d - bn_M k s) with q | q
      · rw [q, Nat.zero_mul] at hne'; exact absurd rfl hne'
      · exact q
    apply main _ _ _ q
    · rw [usub, esub]
    · rw [usub, hsub]; omega
    · rcases hlong (bn_M k g * 2^d - bn_M k s) with w | w
      · exact Or.inl w
      · right
        have hb := hbig w
        rw [← esub]
        have h60 : 2^(60 + d) ≤ bn_M k g * 2^L * 2^d - bn_M k s * 2^L := by rw [Nat.pow_add]; omega
        have := bn_lt_len.mpr h60
        omega

theorem bn_rounded_zero (k : Nat) (neg : Int32) (e : Int32) : fFormat_rounded k neg 0 e = fFormat_signed k neg 0 := by
  unfold fFormat_rounded; rw [if_pos rfl]
theorem bn_mag_lt_iff (k : Nat) (x y : Int64) (hx : bn_ok k x) (hy : bn_ok k y) : fFormat_magnitude k x < fFormat_magnitude k y ↔ bn_mag k x < bn_mag k y := by
  have h1 := bn_magnitude k x hx
  have h2 := bn_magnitude k y hy
  have := bn_mag_lt63 k x
  have := bn_mag_lt63 k y
  rw [bn_lt (by omega) (by omega), h1, h2]
theorem bn_V_lt_iff (k : Nat) (x y : Int64) : bn_V k x < bn_V k y ↔ bn_mag k x < bn_mag k y := by
  constructor
  · intro h
    rcases Nat.lt_or_ge (bn_mag k x) (bn_mag k y) with q | q
    · exact q
    · have := bn_V_mono q; omega
  · intro h
    have h1 := bn_V_mono (Nat.le_of_lt h)
    rcases Nat.lt_or_eq_of_le h1 with q | q
    · exact q
    · have := bn_V_eq q; omega
def bn_sum (k : Nat) (x y : Int64) : Int64 :=
  if fFormat_isNegative k x = fFormat_isNegative k y then
    (if bn_V k x + bn_V k y = 0 then fFormat_signed k (fFormat_isNegative k x) 0 else bn_out k (fFormat_isNegative k x) (bn_V k x + bn_V k y) (bn_mn k))
  else (if bn_V k x = bn_V k y then fFormat_signed k 0 0
    else (if bn_V k x < bn_V k y then bn_out k (fFormat_isNegative k y) (bn_V k y - bn_V k x) (bn_mn k) else bn_out k (fFormat_isNegative k x) (bn_V k x - bn_V k y) (bn_mn k)))
theorem bn_neg01 (k : Nat) (x : Int64) : fFormat_isNegative k x = 0 ∨ fFormat_isNegative k x = 1 := by
  unfold fFormat_isNegative; split
  · exact Or.inl rfl
  · exact Or.inr rfl
theorem bn_sum_fin (k : Nat) (x y : Int64) (hx : bn_ok k x) (hy : bn_ok k y) (x1 : fFormat_isInfinite k x = 0) (y1 : fFormat_isInfinite k y = 0) :
    fFloating_sum k x y = bn_sum k x y := by
  unfold fFloating_sum
  rw [if_pos x1, if_pos y1]
  have d10 : ((1 : Int32) = 0) = False := by decide
  unfold bn_sum
  by_cases hm : fFormat_magnitude k x < fFormat_magnitude k y
  · rw [if_pos hm]
    rw [bn_mag_lt_iff k x y hx hy] at hm
    have hV := (bn_V_lt_iff k x y).mpr hm
    obtain ⟨h1, h2, h3, h4⟩ := bn_sum_rows k y x hy hx (Nat.le_of_lt hm)
    simp only [fFloating_sum_42, fFloating_sum_54, fFloating_sum_66, fFloating_sum_77, fFloating_sum_88, fFloating_sum_115, fFloating_sum_133, fFloating_sum_153, fFloating_sum_155, fFloating_sum_179, fFloating_sum_189, fFloating_sum_191, if_true, d10, if_false]
    generalize bn_shl (fFormat_significand k y) (62 - fm_places k) = G at *
    generalize fFloating_shiftedWithTrace (bn_shl (fFormat_significand k x) (62 - fm_places k)) (fFormat_scale k y - fFormat_scale k x) = R at *
    rw [← bn_u_zero] at h1 h2
    by_cases hs : fFormat_isNegative k x = fFormat_isNegative k y
    · have g1 : ¬ G + R = 0 := fun w => by rw [h1] at w; omega
      rw [if_pos hs, if_pos hs, if_neg g1, if_neg (show ¬ bn_V k x + bn_V k y = 0 by omega), h3 (by omega), Nat.add_comm, hs]
    · have g1 : ¬ G - R = 0 := fun w => by rw [h2] at w; omega
      rw [if_neg hs, if_neg hs, if_neg g1, if_neg (show ¬ bn_V k x = bn_V k y by omega), if_pos hV, h4 (by omega)]
  · rw [if_neg hm]
    rw [bn_mag_lt_iff k x y hx hy] at hm
    have hV : bn_V k y ≤ bn_V k x := bn_V_mono (by omega)
    obtain ⟨h1, h2, h3, h4⟩ := bn_sum_rows k x y hx hy (by omega)
    simp only [fFloating_sum_42, fFloating_sum_54, fFloating_sum_66, fFloating_sum_77, fFloating_sum_88, fFloating_sum_115, fFloating_sum_133, fFloating_sum_153, fFloating_sum_155, fFloating_sum_179, fFloating_sum_189, fFloating_sum_191, if_true, d10, if_false]
    generalize bn_shl (fFormat_significand k x) (62 - fm_places k) = G at *
    generalize fFloating_shiftedWithTrace (bn_shl (fFormat_significand k y) (62 - fm_places k)) (fFormat_scale k x - fFormat_scale k y) = R at *
    rw [← bn_u_zero] at h1 h2
    by_cases hs : fFormat_isNegative k x = fFormat_isNegative k y
    · rw [if_pos hs, if_pos hs]
      by_cases h0 : bn_V k x + bn_V k y = 0
      · have g := h1.mpr h0
        rw [if_pos g, g, if_pos h0]
        rcases bn_neg01 k x with w | w
        · rw [w, if_pos rfl, bn_rounded_zero]
        · rw [w, if_neg (by decide), bn_rounded_zero]
      · rw [if_neg (fun w => h0 (h1.mp w)), if_neg h0, h3 h0]
    · rw [if_neg hs, if_neg hs]
      by_cases h0 : bn_V k x = bn_V k y
      · have g := h2.mpr h0
        rw [if_pos g, g, if_pos h0]
        rw [bn_rounded_zero]
      · rw [if_neg (fun w => h0 (h2.mp w)), if_neg h0, if_neg (by omega), h4 h0]
