theorem kt_trans {a b c : MS} (h : kt a b) (g : kt b c) : kt a c := ⟨⟨g.1.1.trans h.1.1, g.1.2.1.trans h.1.2.1, g.1.2.2.trans h.1.2.2⟩, g.2.trans h.2⟩
theorem kt_row (σ : MS) (v : Nat → Int32) : kt σ (ms_set_row σ v) := ⟨⟨rfl, rfl, rfl⟩, rfl⟩
theorem kt_other (σ : MS) (v : Nat → Int32) : kt σ (ms_set_other σ v) := ⟨⟨rfl, rfl, rfl⟩, rfl⟩
theorem kt_factor (σ : MS) (v : Nat → Int32) : kt σ (ms_set_factor σ v) := ⟨⟨rfl, rfl, rfl⟩, rfl⟩
theorem kt_base (σ : MS) (v : Int32) : kt σ (ms_set_base σ v) := ⟨⟨rfl, rfl, rfl⟩, rfl⟩
theorem kt_mode (σ : MS) (v : Int32) : kt σ (ms_set_mode σ v) := ⟨⟨rfl, rfl, rfl⟩, rfl⟩
theorem kt_scale (σ : MS) (v : Int32) : kt σ (ms_set_scale σ v) := ⟨⟨rfl, rfl, rfl⟩, rfl⟩
theorem kt_dividend (σ : MS) (v : Int64) : kt σ (ms_set_dividend σ v) := ⟨⟨rfl, rfl, rfl⟩, rfl⟩
theorem kt_divisor (σ : MS) (v : Int64) : kt σ (ms_set_divisor σ v) := ⟨⟨rfl, rfl, rfl⟩, rfl⟩
theorem out_mul (k : Nat) (neg : Int32) (m : Nat) (e : Int) (j : Nat) (h : 0 < m) : bn_out k neg (m * 2^j) e = bn_out k neg m (e + j) := by
  unfold bn_out; rw [bn_rn_mul _ _ m e j h]
theorem row_out (k : Nat) (neg : Int32) (σ : MS) (V : Nat) (B : Int) (hr : dg_ok (ms_row σ) 320) (hV : dgV (dg (ms_row σ)) 320 = V) (h56 : 56 ≤ bn_len V) (hB : (ms_base σ).toInt = B) (hb1 : -4000 ≤ B) (hb2 : B ≤ 3000) (hl : bn_len V ≤ 3000) :
    SM_roundedRow (tt k) neg σ ∧ (fM_roundedRow (tt k) neg σ).1 = bn_out k neg V B ∧ kt σ (fM_roundedRow (tt k) neg σ).2 := by
  have h0 : V ≠ 0 := fun q => by rw [q, bn_len_zero] at h56; omega
  have hb : -20000 ≤ (ms_base σ).toInt ∧ (ms_base σ).toInt ≤ 20000 := by omega
  obtain ⟨n, n1, n2, e, hst, hin, hne, htop⟩ := measured σ V hr hV h0 hb
  have hmn := bn_mn_le k
  have hbase : ms_base (fM_measure σ) = ms_base σ := by rw [e]; rfl
  have hk : kt σ (fM_measure σ) := by rw [e]; exact kt_refl σ
  have hO : ordOK V B (B + bn_len V - 56) (max (B + bn_len V) (bn_mn k) + 2) (fun τ => rowSt τ V ∧ ms_base τ = ms_base σ ∧ kt σ τ) := by
    intro τ hτ v ex hv h1 h2
    obtain ⟨t1, t2, t3⟩ := hτ
    have hS : ex.toInt - (ms_base τ).toInt = ((ex.toInt - B).toNat : Nat) := by rw [t2, hB]; clear hv; omega
    have hS2 : (ex.toInt - B).toNat ≤ 5000 := by clear hv; omega
    have hS3 : (B - ex.toInt).toNat = 0 := by clear hv; omega
    have w := order_row v ex τ V (ex.toInt - B).toNat t1 hS hS2 (by rw [t2]; exact hb)
    rw [w]
    refine ⟨?_, t1, t2, t3⟩
    unfold bn_sgn
    rw [hS3, Nat.pow_zero, Nat.mul_one]
  obtain ⟨τ, hτ, er⟩ := m_rounded k neg (fM_highestOfRow (fM_measure σ)).1 V B _ (fM_measure σ) ⟨hst, hbase, hk⟩ (Nat.pos_of_ne_zero h0) (Or.inl (by rw [htop, hB]; omega)) ⟨by omega, by omega⟩ hO
  unfold SM_roundedRow SM_roundedRow_4 SM_roundedRow_11 fM_roundedRow fM_roundedRow_4 fM_roundedRow_11
  have eh : (fM_highestOfRow (fM_measure σ)).2 = fM_measure σ := rfl
  rw [eh, er]
  exact ⟨⟨hin, hne, trivial⟩, rfl, hτ.2.2⟩
theorem value_out (k : Nat) (neg : Int32) (v : Int64) (e : Int32) (he : -2000 ≤ e.toInt ∧ e.toInt ≤ 2000) (σ : MS) :
    SM_valueOf (tt k) neg v e σ ∧ (fM_valueOf (tt k) neg v e σ).1 = (if bn_u v = 0 then fFormat_signed k neg 0 else bn_out k neg (bn_u v) e.toInt) ∧ kt σ (fM_valueOf (tt k) neg v e σ).2 := by
  unfold SM_valueOf fM_valueOf
  by_cases q : v = 0
  · rw [if_pos q, if_pos q, if_pos (bn_u_zero.mp q), m_signed]
    exact ⟨trivial, rfl, kt_refl σ⟩
  · have hq : ¬ bn_u v = 0 := fun w => q (bn_u_zero.mpr w)
    rw [if_neg q, if_neg q, if_neg hq]
    have hl := bn_len_le.mpr (bn_u_lt v)
    have hlen : bn_len (bn_u v * 2^64) = bn_len (bn_u v) + 64 := bn_len_mul (Nat.pos_of_ne_zero hq) 64
    have hb : (e - 64).toInt = e.toInt - 64 := by rw [bn_i_sub] <;> rw [show (64 : Int32).toInt = 64 from rfl] <;> omega
    obtain ⟨f, e1, e2, e3⟩ := set_row_val v 64 σ 64 rfl (by decide)
    unfold SM_valueOf_23 fM_valueOf_23
    rw [e1]
    have hA : 56 ≤ bn_len (bn_u v * 2^64) := by rw [hlen]; clear e3 hlen; omega
    have hZ : bn_len (bn_u v * 2^64) ≤ 3000 := by rw [hlen]; clear e3 hlen; omega
    have hB1 : -4000 ≤ e.toInt - 64 := by clear e3 hlen hA hZ; omega
    have hB2 : e.toInt - 64 ≤ 3000 := by clear e3 hlen hA hZ; omega
    obtain ⟨r1, r2, r3⟩ := row_out k neg (ms_set_base (ms_set_row σ f) (e - 64)) (bn_u v * 2^64) (e.toInt - 64) e2 e3 hA hb hB1 hB2 hZ
    refine ⟨⟨r1, trivial⟩, ?_, kt_trans (kt_trans (kt_row σ f) (kt_base _ _)) r3⟩
    rw [r2, out_mul k neg _ _ 64 (Nat.pos_of_ne_zero hq), show e.toInt - 64 + ((64 : Nat) : Int) = e.toInt by omega]
theorem clear_2 : ∀ (n k : Nat) (σ : MS), k + n = 321 → ∃ τ, fM_clearRows_2 n (nI k) σ = τ ∧ kt σ τ ∧ ms_factor τ = ms_factor σ ∧ ∀ j, ms_row τ j = if k ≤ j ∧ j < 320 then 0 else ms_row σ j := by
  intro n
  induction n with
  | zero =>
    intro k σ h
    exact ⟨σ, rfl, kt_refl σ, rfl, fun j => by rw [if_neg (by omega)]⟩
  | succ n ih =>
    intro k σ h
    unfold fM_clearRows_2
    by_cases q : 320 ≤ k
    · rw [if_pos (show (320 : Int32) ≤ nI k from nI_le (a := 320) q (by omega))]
      exact ⟨σ, rfl, kt_refl σ, rfl, fun j => by rw [if_neg (by omega)]⟩
    · rw [if_neg (show ¬ (320 : Int32) ≤ nI k from nI_ge (b := 320) (by omega) (by decide)), nI_1, nI_clamp (by omega)]
      obtain ⟨τ, e1, e2, e3, e4⟩ := ih (k + 1) (ms_set_other (ms_set_row σ (upd (ms_row σ) k 0)) (upd (ms_other (ms_set_row σ (upd (ms_row σ) k 0))) k 0)) (by omega)
      refine ⟨τ, e1, kt_trans (kt_trans (kt_row σ _) (kt_other _ _)) e2, by rw [e3, ms_factor_other, ms_factor_row], fun j => ?_⟩
      rw [e4 j, ms_row_other, ms_row_row]
      unfold upd
      by_cases w : j = k
      · rw [if_neg (by omega), if_pos w, if_pos (by omega)]
      · by_cases w2 : k ≤ j ∧ j < 320
        · rw [if_pos (by omega), if_pos w2]
        · rw [if_neg (by omega), if_neg w, if_neg w2]
theorem prod_120 (a1 : Int32) (x y : Int64) (neg : Int32) : ∀ (n i : Nat) (σ : MS), i + n = 17 → 1 ≤ n → ∃ τ, kt σ τ ∧ (∀ j, ms_row τ j = if i + 4 ≤ j ∧ j < 20 then ms_factor σ (j - 4) else ms_row σ j) ∧ fM_product_120 n a1 x y neg (nI i) σ = ((fM_roundedRow a1 neg (ms_set_base τ (((fM_scaleOf a1 x) + (fM_scaleOf a1 y)) - 64))).1, (fM_roundedRow a1 neg (ms_set_base τ (((fM_scaleOf a1 x) + (fM_scaleOf a1 y)) - 64))).2) ∧ (SM_roundedRow a1 neg (ms_set_base τ (((fM_scaleOf a1 x) + (fM_scaleOf a1 y)) - 64)) → SM_product_120 n a1 x y neg (nI i) σ) := by
  intro n
  induction n with
  | zero => intro i σ h h1; omega
  | succ n ih =>
    intro i σ h h1
    unfold fM_product_120 SM_product_120
    by_cases q : 16 ≤ i
    · have c : (16 : Int32) ≤ nI i := nI_le (a := 16) q (by omega)
      rw [if_pos c, if_pos c]
      exact ⟨σ, kt_refl σ, fun j => by rw [if_neg (by omega)], rfl, fun z => ⟨z, trivial⟩⟩
    · have c : ¬ (16 : Int32) ≤ nI i := nI_ge (b := 16) (by omega) (by decide)
      have c4 : (nI i + 4).toNatClampNeg = i + 4 := by rw [show nI i + 4 = nI (i + 4) from nI_add i 4, nI_clamp (by omega)]
      rw [if_neg c, if_neg c, c4, nI_clamp (by omega), nI_1]
      obtain ⟨τ, e1, e2, e3, e4⟩ := ih (i + 1) (ms_set_row σ (upd (ms_row σ) (i + 4) (ms_factor σ i))) (by omega) (by omega)
      refine ⟨τ, kt_trans (kt_row σ _) e1, fun j => ?_, e3, e4⟩
      rw [e2 j, ms_row_row, ms_factor_row]
      unfold upd
      by_cases w : j = i + 4
      · rw [if_neg (by omega), if_pos w, if_pos (by omega), w, Nat.add_sub_cancel]
      · by_cases w2 : i + 4 ≤ j ∧ j < 20
        · rw [if_pos (by omega), if_pos w2]
        · rw [if_neg (by omega), if_neg w, if_neg w2]
theorem fac_row (F : Nat → Int32) (g : Nat → Int32) (hF : dg_ok F 16) (hz : ∀ t, 8 ≤ t → t < 16 → F t = 0) (hg : ∀ j, j < 320 → g j = if 4 ≤ j ∧ j < 20 then F (j - 4) else 0) : dg_ok g 320 ∧ dgV (dg g) 320 = dgV (dg F) 8 * 2^64 := by
  have z0 : (0 : Int32).toInt = 0 := rfl
  constructor
  · intro j hj
    rw [hg j hj]
    split
    · exact hF _ (by omega)
    · rw [z0]; omega
  · have h1 : dgV (dg g) 320 = dgV (dg g) 12 := by
      refine dgV_zero_above (by decide) (fun j h1 h2 => ?_)
      unfold dg
      rw [hg j h2]
      by_cases w : 4 ≤ j ∧ j < 20
      · rw [if_pos w, hz _ (by omega) (by omega)]; rfl
      · rw [if_neg w]; rfl
    have h2 : dgV (dg g) (4 + 8) = dgV (dg g) 4 + 65536^4 * dgV (fun t => dg g (4 + t)) 8 := dgV_split (dg g) 4 8
    have h3 : dgV (dg g) 4 = 0 := by
      have : dgV (dg g) 4 = dgV (dg g) 0 := dgV_zero_above (Nat.zero_le 4) (fun j h1 h2 => by
        unfold dg
        rw [hg j (by omega), if_neg (by omega)]; rfl)
      rw [this]; rfl
    have h4 : dgV (fun t => dg g (4 + t)) 8 = dgV (dg F) 8 := dgV_ext (fun t ht => by
      show dg g (4 + t) = dg F t
      unfold dg
      rw [hg (4 + t) (by omega), if_pos (by omega), show 4 + t - 4 = t by omega])
    rw [h1, show (12 : Nat) = 4 + 8 from rfl, h2, h3, h4, Nat.zero_add, Nat.mul_comm, show (65536 : Nat)^4 = 2^64 from rfl]
theorem len_le53 {m : Nat} (h : m < 2^53) : bn_len m ≤ 53 := bn_len_le.mpr h
theorem S_rng (k : Nat) (x : Int64) : -1074 ≤ bn_S k x ∧ bn_S k x ≤ 973 := by
  have a := bn_S_ge k x
  have e := bn_ex_lt k x
  have c := bn_k2 k
  have d : bn_S k x = bn_mn k + (max (bn_ex k x) 1 : Nat) - 1 := rfl
  rcases c with ⟨c1, c2, c3⟩ | ⟨c1, c2, c3⟩
  · rw [c2] at a d; rw [c3] at e; omega
  · rw [c2] at a d; rw [c3] at e; omega
theorem scale_i (k : Nat) (x : Int64) : -2000 ≤ (fM_scaleOf (tt k) x).toInt ∧ (fM_scaleOf (tt k) x).toInt ≤ 2000 := by
  rw [m_scaleOf]; have := S_rng k x; omega
theorem prod_fin (k : Nat) (x y : Int64) (neg : Int32) (x0 : bn_mag k x ≠ 0) (y0 : bn_mag k y ≠ 0) (σ : MS) :
    SM_product_113 (tt k) x y neg (fM_multiply (fM_significand (tt k) x) (fM_significand (tt k) y) σ) ∧ (fM_product_113 (tt k) x y neg (fM_multiply (fM_significand (tt k) x) (fM_significand (tt k) y) σ)).1 = bn_out k neg (bn_M k x * bn_M k y) (bn_S k x + bn_S k y) ∧ kt σ (fM_product_113 (tt k) x y neg (fM_multiply (fM_significand (tt k) x) (fM_significand (tt k) y) σ)).2 := by
  obtain ⟨F, e1, e2, e3, e4⟩ := mul_val (fM_significand (tt k) x) (fM_significand (tt k) y) σ
  rw [m_significand, m_significand] at e4
  rw [e1]
  have hk0 : kt σ (ms_set_factor σ F) := kt_factor σ F
  have hf0 : ms_factor (ms_set_factor σ F) = F := ms_factor_factor σ F
  generalize ms_set_factor σ F = σ1 at *
  obtain ⟨σ2, g1, g2, g3, g4⟩ := clear_2 321 0 σ1 rfl
  have ec : fM_clearRows σ1 = σ2 := g1
  unfold SM_product_113 fM_product_113 SM_product_117 fM_product_117
  rw [ec]
  obtain ⟨τ, p1, p2, p3, p4⟩ := prod_120 (tt k) x y neg 17 0 σ2 rfl (by decide)
  have p3' : fM_product_120 17 (tt k) x y neg 0 σ2 = _ := p3
  have p4' : _ → SM_product_120 17 (tt k) x y neg 0 σ2 := p4
  rw [p3']
  have hk : kt σ τ := kt_trans (kt_trans hk0 g2) p1
  have hg : ∀ j, j < 320 → ms_row τ j = if 4 ≤ j ∧ j < 20 then F (j - 4) else 0 := by
    intro j hj
    rw [p2 j, g4 j, g3, hf0, if_pos (show 0 ≤ j ∧ j < 320 by omega), Nat.zero_add]
  clear p1 p2 p3 p3' p4 g1 g2 g3 g4 ec e1 hk0 hf0
  obtain ⟨d1, d2⟩ := fac_row F (ms_row τ) e2 e3 hg
  rw [e4] at d2
  have mx := bn_M_pos k x x0
  have my := bn_M_pos k y y0
  have hpos : 0 < bn_M k x * bn_M k y := Nat.mul_pos mx my
  have hlt : bn_M k x * bn_M k y < 2^53 * 2^53 := bn_mul_lt (bn_M_lt53 k x) (bn_M_lt53 k y)
  have hl : bn_len (bn_M k x * bn_M k y) ≤ 106 := bn_len_le.mpr (by rw [show (106 : Nat) = 53 + 53 from rfl, Nat.pow_add]; exact hlt)
  have hlen := bn_len_mul hpos 64
  have sx := S_rng k x
  have sy := S_rng k y
  have hA : 56 ≤ bn_len (bn_M k x * bn_M k y * 2^64) := by rw [hlen]; clear hlt hlen d2; omega
  have hZ : bn_len (bn_M k x * bn_M k y * 2^64) ≤ 3000 := by rw [hlen]; clear hlt hlen d2; omega
  have hb : (((fM_scaleOf (tt k) x) + (fM_scaleOf (tt k) y)) - 64).toInt = bn_S k x + bn_S k y - 64 := by
    have h1 := m_scaleOf k x
    have h2 := m_scaleOf k y
    have z64 : (64 : Int32).toInt = 64 := rfl
    have h3 : (fM_scaleOf (tt k) x + fM_scaleOf (tt k) y).toInt = bn_S k x + bn_S k y := by
      rw [bn_i_add (by clear hlt hlen d2 hA hZ; omega), h1, h2]
    rw [bn_i_sub (by clear hlt hlen d2 hA hZ; omega), h3, z64]
  have hB1 : -4000 ≤ bn_S k x + bn_S k y - 64 := by clear hlt hlen d2 hA hZ hb; omega
  have hB2 : bn_S k x + bn_S k y - 64 ≤ 3000 := by clear hlt hlen d2 hA hZ hb; omega
  obtain ⟨r1, r2, r3⟩ := row_out k neg (ms_set_base τ (((fM_scaleOf (tt k) x) + (fM_scaleOf (tt k) y)) - 64)) _ (bn_S k x + bn_S k y - 64) d1 d2 hA hb hB1 hB2 hZ
  refine ⟨p4' r1, ?_, ?_⟩
  · show (fM_roundedRow (tt k) neg (ms_set_base τ (((fM_scaleOf (tt k) x) + (fM_scaleOf (tt k) y)) - 64))).1 = _
    rw [r2, out_mul k neg _ _ 64 hpos, show bn_S k x + bn_S k y - 64 + ((64 : Nat) : Int) = bn_S k x + bn_S k y by omega]
  · exact kt_trans hk (kt_trans (kt_base τ _) r3)
theorem inf0 {k : Nat} {x : Int64} (hx : bn_ok k x) : fFormat_isInfinite k x = 0 ∨ fFormat_isInfinite k x = 1 := by
  rw [bn_isInfinite k x hx]; split
  · exact Or.inr rfl
  · exact Or.inl rfl
theorem zero_mag {k : Nat} {x : Int64} (hx : bn_ok k x) : (fFormat_isZero k x = 0) ↔ bn_mag k x ≠ 0 := by
  rw [bn_isZero k x hx]; split
  · next w => exact ⟨fun h => absurd h (by decide), fun h => absurd w h⟩
  · next w => exact ⟨fun _ => w, fun _ => rfl⟩
theorem inf_fm (k : Nat) : Int64.ofNat (bn_INF k) = fm_infinite k := (bn_inf k).symm
theorem m_product (k : Nat) (x y : Int64) (hx : bn_ok k x) (hy : bn_ok k y) (σ : MS) : SM_product (tt k) x y σ ∧ (fM_product (tt k) x y σ).1 = fFloating_product k x y ∧ kt σ (fM_product (tt k) x y σ).2 := by
  have h19 : ∀ neg : Int32, SM_product_19 (tt k) x y neg σ ∧ (fM_product_19 (tt k) x y neg σ).1 = fFloating_product_18 k x y neg ∧ kt σ (fM_product_19 (tt k) x y neg σ).2 := by
    intro neg
    have h62 : ∀ a : Int32, SM_product_62 (tt k) neg a σ ∧ (fM_product_62 (tt k) neg a σ).1 = fFloating_product_59 k neg a ∧ kt σ (fM_product_62 (tt k) neg a σ).2 := by
      intro a
      unfold SM_product_62 fM_product_62 fFloating_product_59
      rw [m_signed, m_infinite, inf_fm, m_theNone]
      split
      · exact ⟨trivial, rfl, kt_refl σ⟩
      · exact ⟨trivial, rfl, kt_refl σ⟩
    have h43 : ∀ a : Int32, (a = 0 → bn_mag k x ≠ 0 ∧ bn_mag k y ≠ 0) → SM_product_43 (tt k) x y neg a σ ∧ (fM_product_43 (tt k) x y neg a σ).1 = fFloating_product_41 k x y neg a ∧ kt σ (fM_product_43 (tt k) x y neg a σ).2 := by
      intro a ha
      unfold SM_product_43 fM_product_43 fFloating_product_41
      rw [m_isInfinite k x hx, m_isInfinite k y hy]
      by_cases i1 : fFormat_isInfinite k x = 0
      · rw [if_pos i1, if_pos i1, if_pos i1]
        by_cases i2 : fFormat_isInfinite k y = 0
        · rw [if_pos i2, if_pos i2, if_pos i2]
          by_cases q : a = 0
          · rw [if_pos q, if_pos q, if_pos q, bn_product_fin k x y hx hy neg (ha q).1 (ha q).2]
            exact prod_fin k x y neg (ha q).1 (ha q).2 σ
          · rw [if_neg q, if_neg q, if_neg q, m_signed]
            exact ⟨trivial, rfl, kt_refl σ⟩
        · rw [if_neg i2, if_neg i2, if_neg i2]; exact h62 a
      · rw [if_neg i1, if_neg i1, if_neg i1]; exact h62 a
    unfold SM_product_19 fM_product_19 fFloating_product_18 SM_product_38 fM_product_38 fFloating_product_36
    rw [m_isZero k x hx, m_isZero k y hy]
    by_cases z1 : fFormat_isZero k x = 0
    · rw [if_pos z1, if_pos z1, if_pos z1]
      by_cases z2 : fFormat_isZero k y = 0
      · rw [if_pos z2, if_pos z2, if_pos z2]
        exact h43 0 (fun _ => ⟨(zero_mag hx).mp z1, (zero_mag hy).mp z2⟩)
      · rw [if_neg z2, if_neg z2, if_neg z2]
        exact h43 1 (fun h => absurd h (by decide))
    · rw [if_neg z1, if_neg z1, if_neg z1]
      exact h43 1 (fun h => absurd h (by decide))
  unfold SM_product fM_product fFloating_product
  rw [m_isMinus, m_isMinus]
  by_cases q : fFormat_isNegative k x = fFormat_isNegative k y
  · rw [if_pos q, if_pos q, if_pos q]; exact h19 0
  · rw [if_neg q, if_neg q, if_neg q]; exact h19 1
