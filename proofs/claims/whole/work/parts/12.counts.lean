def bn_pop : Nat → Nat → Nat
  | 0, _ => 0
  | n + 1, x => x % 2 + bn_pop n (x / 2)
theorem bn_pop_add (m n x : Nat) : bn_pop (m + n) x = bn_pop m x + bn_pop n (x / 2^m) := by
  induction m generalizing x with
  | zero => simp [bn_pop]
  | succ m ih =>
    rw [show m + 1 + n = (m + n) + 1 by omega]
    simp only [bn_pop]
    rw [ih, Nat.div_div_eq_div_mul, ← Nat.pow_succ', Nat.add_assoc]
theorem bn_pop_mod (m x : Nat) : bn_pop m (x % 2^m) = bn_pop m x := by
  induction m generalizing x with
  | zero => rfl
  | succ m ih =>
    simp only [bn_pop]
    rw [Nat.pow_succ', Nat.mod_mul, ← ih (x / 2)]
    congr 1
    · omega
    · congr 1; omega
def bn_by (f : Nat → Nat) : Nat → Nat → Nat
  | 0, _ => 0
  | n + 1, x => f (x % 256) + 256 * bn_by f n (x / 256)
def bn_mk (c : Nat) : Nat → Nat
  | 0 => 0
  | n + 1 => c + 256 * bn_mk c n
theorem bn_by_id (n x : Nat) (h : x < 256^n) : bn_by (fun b => b) n x = x := by
  induction n generalizing x with
  | zero => simp [bn_by]; omega
  | succ n ih =>
    simp only [bn_by]
    rw [ih (x / 256) (by rw [Nat.pow_succ] at h; omega)]; omega
theorem bn_by_sub (f g : Nat → Nat) (n x : Nat) (h : ∀ b, b < 256 → g b ≤ f b) : bn_by g n x ≤ bn_by f n x ∧ bn_by f n x - bn_by g n x = bn_by (fun b => f b - g b) n x := by
  induction n generalizing x with
  | zero => simp [bn_by]
  | succ n ih =>
    simp only [bn_by]
    have h1 := h (x % 256) (Nat.mod_lt _ (by decide))
    obtain ⟨h2, h3⟩ := ih (x / 256)
    refine ⟨by omega, ?_⟩
    rw [← h3]; omega
theorem bn_by_add (f g : Nat → Nat) (n x : Nat) : bn_by f n x + bn_by g n x = bn_by (fun b => f b + g b) n x := by
  induction n generalizing x with
  | zero => simp [bn_by]
  | succ n ih => simp only [bn_by]; rw [← ih]; omega
theorem bn_by_by (f g : Nat → Nat) (n x : Nat) (h : ∀ b, b < 256 → g b < 256) : bn_by f n (bn_by g n x) = bn_by (fun b => f (g b)) n x := by
  induction n generalizing x with
  | zero => rfl
  | succ n ih =>
    have h1 := h (x % 256) (Nat.mod_lt _ (by decide))
    simp only [bn_by]
    rw [← ih, show (g (x % 256) + 256 * bn_by g n (x / 256)) % 256 = g (x % 256) by omega, show (g (x % 256) + 256 * bn_by g n (x / 256)) / 256 = bn_by g n (x / 256) by omega]
theorem bn_by_congr (f g : Nat → Nat) (n x : Nat) (h : ∀ b, b < 256 → f b = g b) : bn_by f n x = bn_by g n x := by
  induction n generalizing x with
  | zero => rfl
  | succ n ih => simp only [bn_by]; rw [ih, h _ (Nat.mod_lt _ (by decide))]
theorem bn_by_lt (f : Nat → Nat) (n x : Nat) (h : ∀ b, b < 256 → f b < 256) : bn_by f n x < 256^n := by
  induction n generalizing x with
  | zero => simp [bn_by]
  | succ n ih =>
    simp only [bn_by]
    have h1 := h (x % 256) (Nat.mod_lt _ (by decide))
    have h2 := ih (x / 256)
    rw [Nat.pow_succ]; omega
theorem bn_and_split (a b : Nat) : a &&& b = (a % 256 &&& b % 256) + 256 * (a / 256 &&& b / 256) := by
  have h1 := Nat.div_add_mod (a &&& b) (2^8)
  rw [Nat.and_mod_two_pow, Nat.and_div_two_pow] at h1
  rw [← h1, Nat.add_comm]
theorem bn_and_low {a c k : Nat} (h : c < 2^k) : a &&& c = a % 2^k &&& c := by
  have h1 : (a &&& c) % 2^k = a &&& c := Nat.mod_eq_of_lt (Nat.lt_of_le_of_lt Nat.and_le_right h)
  rw [← h1, Nat.and_mod_two_pow, Nat.mod_eq_of_lt h]
theorem bn_by_mask (s c : Nat) (hs : s ≤ 8) (hc : c < 2^(8 - s)) (n x : Nat) : (x / 2^s) &&& bn_mk c n = bn_by (fun b => (b / 2^s) &&& c) n x := by
  induction n generalizing x with
  | zero => simp [bn_mk, bn_by]
  | succ n ih =>
    simp only [bn_mk, bn_by]
    have hc2 : c < 256 := Nat.lt_of_lt_of_le hc (Nat.pow_le_pow_right (show 0 < 2 by decide) (show 8 - s ≤ 8 by omega))
    rw [bn_and_split, show (c + 256 * bn_mk c n) % 256 = c by omega, show (c + 256 * bn_mk c n) / 256 = bn_mk c n by omega, ← ih]
    congr 1
    · rw [bn_and_low hc, bn_and_low (a := x % 256 / 2^s) hc]
      congr 1
      have e : (256 : Nat) = 2^s * 2^(8 - s) := by rw [← Nat.pow_add, show s + (8 - s) = 8 by omega]
      rw [Nat.mod_mod_of_dvd _ (by rw [show (256 : Nat) = 2^8 from rfl]; exact Nat.pow_dvd_pow 2 (by omega))]
      rw [e, Nat.mod_mul_right_div_self, Nat.mod_mod]
    · congr 2
      rw [Nat.div_div_eq_div_mul, Nat.div_div_eq_div_mul, Nat.mul_comm]
theorem bn_mk55 : bn_mk 0x55 8 = 6148914691236517205 := by decide
theorem bn_mk33 : bn_mk 0x33 8 = 3689348814741910323 := by decide
theorem bn_mk0f : bn_mk 0x0f 8 = 1085102592571150095 := by decide
theorem bn_by_nib (g : Nat → Nat) (hg : ∀ b, b < 256 → g b % 16 ≤ 4 ∧ g b / 16 ≤ 4) (n x : Nat) : (bn_by g n x + bn_by g n x / 16) &&& bn_mk 15 n = bn_by (fun b => (g b + g b / 16) % 16) n x := by
  induction n generalizing x with
  | zero => simp [bn_mk, bn_by]
  | succ n ih =>
    have h1 := hg (x % 256) (Nat.mod_lt _ (by decide))
    simp only [bn_mk, bn_by]
    have hnext : bn_by g n (x / 256) % 16 ≤ 4 := by
      cases n with
      | zero => simp [bn_by]
      | succ n =>
        have := hg (x / 256 % 256) (Nat.mod_lt _ (by decide))
        simp only [bn_by]; omega
    rw [← ih]
    generalize bn_by g n (x / 256) = Y at *
    generalize g (x % 256) = q at *
    rw [bn_and_split, show (15 + 256 * bn_mk 15 n) % 256 = 15 by omega, show (15 + 256 * bn_mk 15 n) / 256 = bn_mk 15 n by omega]
    congr 1
    · rw [show (15 : Nat) = 2^4 - 1 from rfl, bn_and_mask]; omega
    · congr 2; omega

theorem bn_u_l2i (x : Int64) : x.toInt32.toInt = if bn_u x % 2^32 < 2^31 then ((bn_u x % 2^32 : Nat) : Int) else ((bn_u x % 2^32 : Nat) : Int) - 2^32 := by
  rw [bn_v_s, bn_v_l2i]
def bn_t1 (b : Nat) : Nat := b - ((b / 2^1) &&& 0x55)
def bn_t2 (b : Nat) : Nat := ((b / 2^0) &&& 0x33) + ((b / 2^2) &&& 0x33)
theorem bn_t12 : ∀ b : Nat, b < 256 → ((b / 2^1) &&& 0x55) ≤ b ∧ bn_t1 b < 256 ∧ bn_t2 (bn_t1 b) < 256 ∧ bn_t2 (bn_t1 b) % 16 ≤ 4 ∧ bn_t2 (bn_t1 b) / 16 ≤ 4 ∧ (bn_t2 (bn_t1 b) + bn_t2 (bn_t1 b) / 16) % 16 = bn_pop 8 b := by decide +kernel
theorem bn_pop_le (n x : Nat) : bn_pop n x ≤ n := by
  induction n generalizing x with
  | zero => exact Nat.le_refl _
  | succ n ih => simp only [bn_pop]; have := ih (x / 2); omega
theorem bn_pop64 (x : Nat) : bn_pop 64 x = bn_pop 8 (x % 256) + (bn_pop 8 (x / 256 % 256) + (bn_pop 8 (x / 256 / 256 % 256) + (bn_pop 8 (x / 256 / 256 / 256 % 256) + (bn_pop 8 (x / 256 / 256 / 256 / 256 % 256) + (bn_pop 8 (x / 256 / 256 / 256 / 256 / 256 % 256) + (bn_pop 8 (x / 256 / 256 / 256 / 256 / 256 / 256 % 256) + bn_pop 8 (x / 256 / 256 / 256 / 256 / 256 / 256 / 256 % 256))))))) := by
  have h : ∀ n y, bn_pop (8 + n) y = bn_pop 8 (y % 256) + bn_pop n (y / 256) := fun n y => by
    rw [bn_pop_add, show (256 : Nat) = 2^8 from rfl, bn_pop_mod]
  have h0 : ∀ y, bn_pop 8 y = bn_pop 8 (y % 256) := fun y => by rw [show (256 : Nat) = 2^8 from rfl, bn_pop_mod]
  rw [show (64 : Nat) = 8 + (8 + (8 + (8 + (8 + (8 + (8 + 8)))))) from rfl, h, h, h, h, h, h, h]
  rw [h0 (x / 256 / 256 / 256 / 256 / 256 / 256 / 256)]
theorem bn_sum8 (b0 b1 b2 b3 b4 b5 b6 b7 : Nat) (h : b0 ≤ 8 ∧ b1 ≤ 8 ∧ b2 ≤ 8 ∧ b3 ≤ 8 ∧ b4 ≤ 8 ∧ b5 ≤ 8 ∧ b6 ≤ 8 ∧ b7 ≤ 8) (y : Nat)
    (hy : y = b0 + 256 * (b1 + 256 * (b2 + 256 * (b3 + 256 * (b4 + 256 * (b5 + 256 * (b6 + 256 * (b7 + 256 * 0)))))))) :
    y + y / 2^8 < 2^64 ∧ (y + y / 2^8) + (y + y / 2^8) / 2^16 < 2^64 ∧ ((y + y / 2^8) + (y + y / 2^8) / 2^16) + ((y + y / 2^8) + (y + y / 2^8) / 2^16) / 2^32 < 2^64 ∧
    (((y + y / 2^8) + (y + y / 2^8) / 2^16) + ((y + y / 2^8) + (y + y / 2^8) / 2^16) / 2^32) % 128 = b0 + (b1 + (b2 + (b3 + (b4 + (b5 + (b6 + b7)))))) := by
  obtain ⟨h0, h1, h2, h3, h4, h5, h6, h7⟩ := h
  have e1 : y / 2^8 = b1 + 256 * (b2 + 256 * (b3 + 256 * (b4 + 256 * (b5 + 256 * (b6 + 256 * b7))))) := by omega
  obtain ⟨z, hz⟩ : ∃ z, z = y + y / 2^8 := ⟨_, rfl⟩
  have e2 : z = (b0 + b1) + 256 * ((b1 + b2) + 256 * ((b2 + b3) + 256 * ((b3 + b4) + 256 * ((b4 + b5) + 256 * ((b5 + b6) + 256 * ((b6 + b7) + 256 * b7)))))) := by omega
  rw [← hz]
  clear hz hy e1
  have e3 : z / 2^16 = (b2 + b3) + 256 * ((b3 + b4) + 256 * ((b4 + b5) + 256 * ((b5 + b6) + 256 * ((b6 + b7) + 256 * b7)))) := by omega
  obtain ⟨w, hw⟩ : ∃ w, w = z + z / 2^16 := ⟨_, rfl⟩
  have e4 : w = (b0 + b1 + b2 + b3) + 256 * ((b1 + b2 + b3 + b4) + 256 * ((b2 + b3 + b4 + b5) + 256 * ((b3 + b4 + b5 + b6) + 256 * ((b4 + b5 + b6 + b7) + 256 * ((b5 + b6 + b7) + 256 * ((b6 + b7) + 256 * b7)))))) := by omega
  have hzl : z < 2^64 := by omega
  rw [← hw]
  clear hw e3 e2
  have e5 : w / 2^32 = (b4 + b5 + b6 + b7) + 256 * ((b5 + b6 + b7) + 256 * ((b6 + b7) + 256 * b7)) := by omega
  refine ⟨hzl, by omega, by omega, by omega⟩
theorem bn_by_top (f : Nat → Nat) (n x : Nat) (h : ∀ b, b < 256 → f b < 128) : bn_by f (n + 1) x < 128 * 256^n := by
  induction n generalizing x with
  | zero => have := h (x % 256) (Nat.mod_lt _ (by decide)); simp [bn_by]; omega
  | succ n ih =>
    have h1 := h (x % 256) (Nat.mod_lt _ (by decide))
    have h2 := ih (x / 256)
    rw [bn_by, Nat.pow_succ]; omega
theorem bn_bitCount (x : Int64) : fLong_bitCount x = Int32.ofNat (bn_pop 64 (bn_u x)) := by
  have hx := bn_u_lt x
  have z1 : (1 : Int32).toInt = (1 : Nat) := rfl
  have z2 : (2 : Int32).toInt = (2 : Nat) := rfl
  have z4 : (4 : Int32).toInt = (4 : Nat) := rfl
  have z8 : (8 : Int32).toInt = (8 : Nat) := rfl
  have z16 : (16 : Int32).toInt = (16 : Nat) := rfl
  have z32 : (32 : Int32).toInt = (32 : Nat) := rfl
  have k5 : bn_u 6148914691236517205 = bn_mk 0x55 8 := by decide
  have k3 : bn_u 3689348814741910323 = bn_mk 0x33 8 := by decide
  have kf : bn_u 1085102592571150095 = bn_mk 0x0f 8 := by decide
  simp only [fLong_bitCount, fLong_bitCount_10, fLong_bitCount_24, fLong_bitCount_34, fLong_bitCount_41, fLong_bitCount_48, fLong_bitCount_55]
  have e256 : (256 : Nat)^8 = 2^64 := by decide
  have s0 : bn_u (bn_shr x 1 &&& 6148914691236517205) = bn_by (fun b => (b / 2^1) &&& 0x55) 8 (bn_u x) := by
    rw [bn_u_and, bn_shr_u z1 (by decide), k5, bn_by_mask 1 0x55 (by decide) (by decide)]
  have hid := bn_by_id 8 (bn_u x) (by rw [e256]; exact hx)
  have hsub := bn_by_sub (fun b => b) (fun b => (b / 2^1) &&& 0x55) 8 (bn_u x) (fun b hb => (bn_t12 b hb).1)
  rw [hid] at hsub
  have s1 : bn_u (x - (bn_shr x 1 &&& 6148914691236517205)) = bn_by bn_t1 8 (bn_u x) := by
    rw [bn_sub_u] <;> rw [s0]
    · exact hsub.2
    · exact hsub.1
  generalize x - (bn_shr x 1 &&& 6148914691236517205) = y1 at *
  have m2 : bn_by (fun b => ((b / 2^0) &&& 0x33)) 8 (bn_u y1) + bn_by (fun b => ((b / 2^2) &&& 0x33)) 8 (bn_u y1) = bn_by (fun b => bn_t2 (bn_t1 b)) 8 (bn_u x) := by
    rw [bn_by_add, s1]
    exact bn_by_by bn_t2 bn_t1 8 (bn_u x) (fun b hb => (bn_t12 b hb).2.1)
  have l2 := bn_by_lt (fun b => bn_t2 (bn_t1 b)) 8 (bn_u x) (fun b hb => (bn_t12 b hb).2.2.1)
  rw [e256] at l2
  have s2a : bn_u (y1 &&& 3689348814741910323) = bn_by (fun b => ((b / 2^0) &&& 0x33)) 8 (bn_u y1) := by
    rw [bn_u_and, k3, ← bn_by_mask 0 0x33 (by decide) (by decide), Nat.pow_zero, Nat.div_one]
  have s2b : bn_u (bn_shr y1 2 &&& 3689348814741910323) = bn_by (fun b => ((b / 2^2) &&& 0x33)) 8 (bn_u y1) := by
    rw [bn_u_and, bn_shr_u z2 (by decide), k3, ← bn_by_mask 2 0x33 (by decide) (by decide)]
  have s2 : bn_u ((y1 &&& 3689348814741910323) + (bn_shr y1 2 &&& 3689348814741910323)) = bn_by (fun b => bn_t2 (bn_t1 b)) 8 (bn_u x) := by
    rw [bn_add_u] <;> rw [s2a, s2b, m2]; exact l2
  generalize (y1 &&& 3689348814741910323) + (bn_shr y1 2 &&& 3689348814741910323) = y2 at *
  have hn := bn_by_nib (fun b => bn_t2 (bn_t1 b)) (fun b hb => ⟨(bn_t12 b hb).2.2.2.1, (bn_t12 b hb).2.2.2.2.1⟩) 8 (bn_u x)
  rw [bn_by_congr _ (fun b => bn_pop 8 b) 8 (bn_u x) (fun b hb => (bn_t12 b hb).2.2.2.2.2)] at hn
  have s3 : bn_u ((y2 + bn_shr y2 4) &&& 1085102592571150095) = bn_by (fun b => bn_pop 8 b) 8 (bn_u x) := by
    rw [bn_u_and, kf, ← hn, ← s2]
    have hb : bn_u y2 + bn_u (bn_shr y2 4) < 2^64 := by
      rw [bn_shr_u z4 (by decide)]
      have : bn_u y2 < 2^63 := by
        rw [s2]
        have hh2 := bn_by_top (fun b => bn_t2 (bn_t1 b)) 7 (bn_u x) (fun b hb => by have h1 := (bn_t12 b hb).2.2.2.1; have h2 := (bn_t12 b hb).2.2.2.2.1; show bn_t2 (bn_t1 b) < 128; omega)
        rw [show 128 * 256^7 = 2^63 by decide] at hh2
        exact hh2
      omega
    rw [bn_add_u hb, bn_shr_u z4 (by decide)]
  generalize (y2 + bn_shr y2 4) &&& 1085102592571150095 = y3 at *
  have l8 : ∀ y, bn_pop 8 y ≤ 8 := fun y => bn_pop_le 8 y
  obtain ⟨c1, c2, c3, c4⟩ := bn_sum8 _ _ _ _ _ _ _ _ ⟨l8 (bn_u x % 256), l8 (bn_u x / 256 % 256), l8 (bn_u x / 256 / 256 % 256), l8 (bn_u x / 256 / 256 / 256 % 256), l8 (bn_u x / 256 / 256 / 256 / 256 % 256), l8 (bn_u x / 256 / 256 / 256 / 256 / 256 % 256), l8 (bn_u x / 256 / 256 / 256 / 256 / 256 / 256 % 256), l8 (bn_u x / 256 / 256 / 256 / 256 / 256 / 256 / 256 % 256)⟩ (bn_u y3) s3
  rw [← bn_pop64] at c4
  have p4 : bn_u (y3 + bn_shr y3 8) = bn_u y3 + bn_u y3 / 2^8 := by rw [bn_add_u] <;> rw [bn_shr_u z8 (by decide)]; exact c1
  generalize y3 + bn_shr y3 8 = y4 at *
  rw [← p4] at c2 c3 c4
  have p5 : bn_u (y4 + bn_shr y4 16) = bn_u y4 + bn_u y4 / 2^16 := by rw [bn_add_u] <;> rw [bn_shr_u z16 (by decide)]; exact c2
  generalize y4 + bn_shr y4 16 = y5 at *
  rw [← p5] at c3 c4
  have p6 : bn_u (y5 + bn_shr y5 32) = bn_u y5 + bn_u y5 / 2^32 := by rw [bn_add_u] <;> rw [bn_shr_u z32 (by decide)]; exact c3
  generalize y5 + bn_shr y5 32 = y6 at *
  rw [← p6] at c4
  have hle := bn_pop_le 64 (bn_u x)
  apply Int32.toInt_inj.mp
  rw [bn_i_ofNat (by omega), bn_v_s, bn_v_and, bn_v_l2i, show bn_v 127 = 2^7 - 1 from rfl, bn_and_mask]
  split <;> omega

theorem bn_odd_part (n : Nat) (h : 0 < n) : ∃ t a, n = 2^t * (2 * a + 1) := by
  induction n using Nat.strongRecOn with
  | _ n ih =>
    by_cases q : n % 2 = 1
    · exact ⟨0, n / 2, by rw [Nat.pow_zero]; omega⟩
    · obtain ⟨t, a, e⟩ := ih (n / 2) (by omega) (by omega)
      refine ⟨t + 1, a, ?_⟩
      rw [Nat.pow_succ', Nat.mul_assoc, ← e]; omega
theorem bn_low_bit (t a : Nat) (h : 2^t * (2 * a + 1) < 2^64) : 2^t * (2 * a + 1) &&& (2^64 - 2^t * (2 * a + 1)) = 2^t := by
  have ht : t < 64 := by
    rcases Nat.lt_or_ge t 64 with q | q
    · exact q
    · have h1 : 2^64 ≤ 2^t := Nat.pow_le_pow_right (by decide) q
      have h2 := Nat.mul_le_mul_left (2^t) (show 1 ≤ 2 * a + 1 by omega)
      omega
  have e64 : 2^64 = 2^t * (2 * 2^(63 - t)) := by rw [← Nat.pow_succ', ← Nat.pow_add]; congr 1; omega
  have ha : 2 * a + 1 < 2 * 2^(63 - t) := by
    rw [e64] at h; exact Nat.lt_of_mul_lt_mul_left h
  have e2 : 2^64 - 2^t * (2 * a + 1) = 2^t * (2 * (2^(63 - t) - (a + 1)) + 1) := by
    rw [e64, ← Nat.mul_sub]; congr 1; omega
  rw [e2]
  have hand : (2 * a + 1) &&& (2 * (2^(63 - t) - (a + 1)) + 1) = 1 := by
    apply Nat.eq_of_testBit_eq
    intro i
    rw [Nat.testBit_and]
    cases i with
    | zero => simp
    | succ i =>
      rw [Nat.testBit_succ, Nat.testBit_succ, Nat.testBit_succ, show (2 * a + 1) / 2 = a by omega, show (2 * (2^(63 - t) - (a + 1)) + 1) / 2 = 2^(63 - t) - (a + 1) by omega, Nat.testBit_two_pow_sub_succ (by omega)]
      cases a.testBit i <;> simp
  rw [Nat.mul_comm (2^t), Nat.mul_comm (2^t), ← Nat.shiftLeft_eq, ← Nat.shiftLeft_eq, ← Nat.shiftLeft_and_distrib, hand, Nat.shiftLeft_eq, Nat.one_mul]
theorem bn_low_zeros (x : Int64) (t a : Nat) (h : bn_u x = 2^t * (2 * a + 1)) : t < 64 ∧ fLong_bitCount ((x &&& -x) - 1) = Int32.ofNat t := by
  have hx := bn_u_lt x
  have ht : t < 64 := by
    rcases Nat.lt_or_ge t 64 with q | q
    · exact q
    · have h1 : 2^64 ≤ 2^t := Nat.pow_le_pow_right (by decide) q
      have h2 := Nat.mul_le_mul_left (2^t) (show 1 ≤ 2 * a + 1 by omega)
      omega
  refine ⟨ht, ?_⟩
  rw [← bn_bc_ones t (by omega)]
  congr 1
  apply bn_u_inj
  have hp := Nat.two_pow_pos t
  have hle : 2^t ≤ bn_u x := by rw [h]; have := Nat.mul_le_mul_left (2^t) (show 1 ≤ 2 * a + 1 by omega); omega
  have e1 : bn_u (x &&& -x) = 2^t := by
    rw [bn_u_and, bn_u_neg, Nat.mod_eq_of_lt (by omega), h]
    exact bn_low_bit t a (by omega)
  rw [bn_sub_u (by rw [e1]; show 1 ≤ _; omega), e1, bn_u_ofNat (by omega)]
  rfl

theorem bn_otherFormat (f t : Nat) (x : Int64) (hx : bn_ok f x) (h1 : fFormat_isNone f x = 0) (h2 : fFormat_isInfinite f x = 0) :
    fConversions_otherFormat f t x = if bn_mag f x = 0 then fFormat_signed t (fFormat_isNegative f x) 0 else bn_out t (fFormat_isNegative f x) (bn_M f x) (bn_S f x) := by
  unfold fConversions_otherFormat
  rw [if_pos h1, if_pos h2]
  have mx := bn_signif f x hx
  have sx := bn_scale f x hx
  have mxl := bn_M_lt53 f x
  have sx1 := bn_S_ge f x
  have sx2 := bn_S_le f x
  have hmn := bn_mn_le f
  by_cases q : bn_mag f x = 0
  · rw [if_pos q]
    have hM : bn_M f x = 0 := by
      unfold bn_M bn_ex; rw [q]; simp
    have : fFormat_significand f x = 0 := bn_u_zero.mpr (by omega)
    rw [this, bn_rounded_zero]
  · rw [if_neg q]
    have := bn_M_pos f x q
    rw [bn_rounded t _ _ _ (fun e => by rw [bn_u_zero] at e; omega) (by omega) (Or.inl (by omega)), mx, sx]; rfl
theorem bn_whole_rounded (k : Nat) (neg : Int32) (m : Int64) : fFormat_rounded k neg m 0 = if bn_u m = 0 then fFormat_signed k neg 0 else bn_out k neg (bn_u m) 0 := by
  by_cases q : bn_u m = 0
  · rw [if_pos q]
    have : m = 0 := bn_u_zero.mpr q
    rw [this, bn_rounded_zero]
  · rw [if_neg q]
    have hL : bn_len (bn_u m) ≤ 64 := bn_len_le.mpr (bn_u_lt m)
    have hmn := bn_mn_le k
    have hP := bn_P_le k
    have z0 : (0 : Int32).toInt = 0 := rfl
    rw [bn_rounded k _ _ _ (fun e => q (bn_u_zero.mp e)) (by rw [z0]; omega) (Or.inr (by rw [z0]; unfold bn_ns; omega))]; rfl
