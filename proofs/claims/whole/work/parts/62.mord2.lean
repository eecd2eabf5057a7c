theorem dg_sg_neg2 (a b : Nat) : -(dg_sg a b) = dg_sg b a := by
  unfold dg_sg
  rcases Nat.lt_trichotomy a b with h | h | h
  · rw [if_pos h, if_neg (by omega), if_neg (by omega)]; decide
  · rw [if_neg (by omega), if_pos h, if_neg (by omega), if_pos h.symm]; decide
  · rw [if_neg (by omega), if_neg (by omega), if_pos h]
theorem cmpF_42 (v : Int64) (a3 a4 : Int32) (σ : MS) (Fm G : Nat → Nat) (hF : ∀ k, k < 20000 → (fM_shifted a4 (nI k) σ).2 = σ ∧ (fM_shifted a4 (nI k) σ).1.toInt = (Fm k : Int))
    (hG : ∀ k, k < 20000 → (fM_digit v (if a3 ≤ 0 then 0 else a3) (nI k)).toInt = (G k : Int)) : ∀ (n k : Nat) (i : Int32), k ≤ 10000 → i.toInt = (k : Int) - 1 → k < n →
    fM_compareFactor_42 n v a3 a4 i σ = (dg_cd Fm G k, σ) := by
  intro n
  induction n with
  | zero => intro k i _ _ h; omega
  | succ n ih =>
    intro k i hk hi hn
    have z0 : (0 : Int32).toInt = 0 := rfl
    rw [fM_compareFactor_42]
    cases k with
    | zero => rw [if_pos (show i < 0 by rw [Int32.lt_iff_toInt_lt, z0, hi]; omega)]; rfl
    | succ k =>
      rw [if_neg (show ¬ i < 0 by rw [Int32.lt_iff_toInt_lt, z0, hi]; omega)]
      have hik : i = nI k := Int32.toInt_inj.mp (by rw [hi, nI_toInt (by omega)]; omega)
      obtain ⟨f1, f2⟩ := hF k (by omega)
      have hd := hG k (by omega)
      rw [← hik] at f1 f2 hd
      have hi1 : (i + (-1)).toInt = (k : Int) - 1 := by
        rw [bn_i_add] <;> rw [show (-1 : Int32).toInt = -1 from rfl, hi] <;> omega
      have hfold : fM_compareFactor_55 (fM_compareFactor_42 n) v a3 a4 i (fM_shifted a4 i σ).1 (fM_shifted a4 i σ).2 = fM_compareFactor_74 (fM_compareFactor_42 n) v a3 a4 i (fM_shifted a4 i σ).1 (fM_digit v (if a3 ≤ 0 then 0 else a3) i) σ := by
        rw [f1]
        unfold fM_compareFactor_55 fM_compareFactor_57 fM_compareFactor_67
        split <;> rfl
      rw [hfold]
      generalize (fM_shifted a4 i σ).1 = mine at *
      generalize fM_digit v (if a3 ≤ 0 then 0 else a3) i = its at *
      unfold fM_compareFactor_74
      have e1 : (mine = its) ↔ Fm k = G k := by rw [← Int32.toInt_inj, f2, hd]; omega
      have e2 : (its ≤ mine) ↔ G k ≤ Fm k := by rw [Int32.le_iff_toInt_le, f2, hd]; omega
      rw [dg_cd]
      by_cases q : Fm k = G k
      · rw [if_pos (e1.mpr q), if_pos q, ih k _ (by omega) hi1 (by omega)]
      · rw [if_neg (fun w => q (e1.mp w)), if_neg q]
        by_cases g : G k ≤ Fm k
        · rw [if_pos (e2.mpr g), if_pos g]
        · rw [if_neg (fun w => g (e2.mp w)), if_neg g]
theorem dgz_val (f : Nat → Int32) (n : Nat) : dgV (dgz f 16) (16 + n) = dgV (dg f) 16 := by
  rw [dgV_zero_above (n := 16) (by omega) (fun k h1 _ => by unfold dgz; rw [if_neg (by omega)])]
  exact dgV_ext (fun k hk => by unfold dgz; rw [if_pos hk])
theorem shf_val (f : Nat → Int32) (U K : Nat) (hz : ∀ t, 8 ≤ t → t < 16 → f t = 0) (hok : dg_ok f 16) (hK : U / 16 + 9 ≤ K) :
    dgV (fun k => if k < U / 16 then 0 else sd (dgz f 16) (U % 16) (k - U / 16)) K = dgV (dg f) 16 * 2^U := by
  have hz8 : ∀ t, 8 ≤ t → dgz f 16 t = 0 := fun t ht => by
    unfold dgz
    split
    · unfold dg; rw [hz t ht (by assumption)]; rfl
    · rfl
  obtain ⟨n, hn⟩ : ∃ n, K = U / 16 + (9 + n) := ⟨K - U / 16 - 9, by omega⟩
  rw [hn, dgV_split]
  have e1 : dgV (fun k => if k < U / 16 then 0 else sd (dgz f 16) (U % 16) (k - U / 16)) (U / 16) = 0 := by
    have := dgV_zero_above (F := fun k => if k < U / 16 then 0 else sd (dgz f 16) (U % 16) (k - U / 16)) (n := 0) (m := U / 16) (by omega) (fun k _ h2 => if_pos h2)
    rw [this]; rfl
  have e2 : dgV (fun t => (fun k => if k < U / 16 then 0 else sd (dgz f 16) (U % 16) (k - U / 16)) (U / 16 + t)) (9 + n) = dgV (sd (dgz f 16) (U % 16)) (9 + n) := dgV_ext (fun t _ => by
    show (if U / 16 + t < U / 16 then 0 else sd (dgz f 16) (U % 16) (U / 16 + t - U / 16)) = _
    rw [if_neg (by omega), show U / 16 + t - U / 16 = t by omega])
  have e3 : dgV (sd (dgz f 16) (U % 16)) (9 + n) = dgV (sd (dgz f 16) (U % 16)) 9 := dgV_zero_above (by omega) (fun t h1 _ => by
    unfold sd
    rw [hz8 t (by omega), if_neg (by omega), hz8 (t - 1) (by omega)]; simp)
  have e4 := sd_val (dgz f 16) (U % 16) 8
  rw [hz8 8 (by omega), Nat.zero_mul, Nat.zero_div, Nat.zero_mul, Nat.add_zero] at e4
  have e5 : dgV (dgz f 16) 9 = dgV (dg f) 16 := by
    have h1 := dgV_zero_above (F := dgz f 16) (n := 9) (m := 16) (by omega) (fun t h1 _ => hz8 t (by omega))
    have h2 := dgz_val f 0
    rw [Nat.add_zero] at h2
    rw [← h1, h2]
  rw [e1, e2, e3, show (9 : Nat) = 8 + 1 from rfl, e4, show (8 + 1 : Nat) = 9 from rfl, e5, Nat.zero_add, dg_pow, ← Nat.mul_assoc, ← Nat.pow_add, Nat.mul_comm]
  congr 2
  omega
theorem cmpF_val (v : Int64) (sh : Int32) (σ : MS) (Z : Nat) (hok : dg_ok (ms_factor σ) 16) (hz : ∀ t, 8 ≤ t → t < 16 → ms_factor σ t = 0) (hZ : dgV (dg (ms_factor σ)) 16 = Z) (hs : -10000 ≤ sh.toInt ∧ sh.toInt ≤ 10000) :
    fM_compareFactor v sh σ = (dg_sg (Z * 2^(-sh.toInt).toNat) (bn_u v * 2^(sh.toInt).toNat), σ) := by
  have z0 : (0 : Int32).toInt = 0 := rfl
  have z144 : (144 : Int32).toInt = 144 := rfl
  have z5 : (5 : Int32).toInt = 5 := rfl
  have main : ∀ (up top : Int32) (U T : Nat), up.toInt = U → U = (-sh.toInt).toNat → top.toInt = T → T = (U + 144) / 16 + (if sh.toInt ≤ 0 then 0 else (sh.toInt).toNat / 16 + 5) →
      fM_compareFactor_38 v sh up top σ = (dg_sg (Z * 2^(-sh.toInt).toNat) (bn_u v * 2^(sh.toInt).toNat), σ) := by
    intro up top U T hu hU ht hT
    have hU2 : U ≤ 10000 := by omega
    have hT2 : T ≤ 9000 := by rw [hT]; split <;> omega
    obtain ⟨Sv, hSv⟩ : ∃ Sv : Nat, Sv = (sh.toInt).toNat := ⟨_, rfl⟩
    have hsp : (if sh ≤ 0 then 0 else sh).toInt = (Sv : Int) := by
      by_cases q : sh ≤ 0
      · rw [if_pos q]
        rw [Int32.le_iff_toInt_le, z0] at q
        rw [z0]; omega
      · rw [if_neg q]
        rw [Int32.le_iff_toInt_le, z0] at q
        omega
    have hK1 : U / 16 + 9 ≤ T + 1 := by rw [hT]; split <;> omega
    have hK2 : Sv + 64 ≤ 16 * (T + 1) := by rw [hT]; split <;> omega
    unfold fM_compareFactor_38
    rw [cmpF_42 v sh up σ (fun k => if k < U / 16 then 0 else sd (dgz (ms_factor σ) 16) (U % 16) (k - U / 16)) (fun j => bn_u v * 2^Sv / 65536^j % 65536)
      (fun k hk => shifted_val U k up (nI k) σ hu (nI_toInt (by omega)) (by omega) (by omega) hok)
      (fun k hk => dg_digit v _ Sv k hsp (by omega) (by omega)) _ (T + 1) top (by omega) (by rw [ht]; omega) (by rw [ht]; omega)]
    rw [dg_cd_sg (fun k hk => by
        show (if k < U / 16 then 0 else sd (dgz (ms_factor σ) 16) (U % 16) (k - U / 16)) < 65536
        split
        · decide
        · exact (sd_lt (dgz (ms_factor σ) 16) (U % 16) _ (Nat.mod_lt _ (by decide)) (fun j hj => by unfold dgz; rw [if_pos hj]; exact dg_lt hok j hj) (fun j hj => by unfold dgz; rw [if_neg (Nat.not_lt.mpr hj)])).1)
      (fun k hk => Nat.mod_lt _ (by decide))]
    rw [shf_val (ms_factor σ) U (T + 1) hz hok hK1, dgV_all (bn_u v * 2^Sv) (T + 1) (dg_fit v Sv (T + 1) hK2), hZ, hU, hSv]
  unfold fM_compareFactor
  have t35 : ∀ (up : Int32) (U : Nat), up.toInt = U → U = (-sh.toInt).toNat → fM_compareFactor_10 v sh up σ = (dg_sg (Z * 2^(-sh.toInt).toNat) (bn_u v * 2^(sh.toInt).toNat), σ) := by
    intro up U hu hU
    have u1 : (up + 144).toInt = U + 144 := by rw [bn_i_add] <;> rw [z144] <;> omega
    have u2 : ((up + 144) / 16).toInt = (U + 144) / 16 := by rw [i_div16 (by omega), u1]
    unfold fM_compareFactor_10 fM_compareFactor_35
    by_cases q : sh ≤ 0
    · rw [if_pos q]
      rw [Int32.le_iff_toInt_le, z0] at q
      refine main up _ U ((U + 144) / 16) hu hU ?_ (by rw [if_pos q]; omega)
      rw [bn_i_add] <;> rw [u2, z0] <;> omega
    · rw [if_neg q]
      rw [Int32.le_iff_toInt_le, z0] at q
      have u3 : (sh / 16).toInt = sh.toInt / 16 := i_div16 (by omega)
      have u4 : (sh / 16 + 5).toInt = sh.toInt / 16 + 5 := by rw [bn_i_add] <;> rw [u3, z5]; omega
      refine main up _ U ((U + 144) / 16 + ((sh.toInt).toNat / 16 + 5)) hu hU ?_ (by rw [if_neg q])
      rw [bn_i_add] <;> rw [u2, u4] <;> omega
  by_cases q : (0 : Int32) ≤ sh
  · rw [if_pos q]
    rw [Int32.le_iff_toInt_le, z0] at q
    exact t35 0 0 rfl (by omega)
  · rw [if_neg q]
    rw [Int32.le_iff_toInt_le, z0] at q
    exact t35 (-sh) (-sh.toInt).toNat (by rw [bn_i_neg] <;> omega) rfl
theorem order_fac (v w : Int64) (e : Int32) (σ : MS) (d : Int64) (sc x : Int32) (hsx : -10000 ≤ sc.toInt - x.toInt ∧ sc.toInt - x.toInt ≤ 10000) (hd : ms_dividend σ = d) (hsc : ms_scale σ = sc) (hm : (ms_mode σ = 1 ∧ x = e) ∨ (ms_mode σ ≠ 1 ∧ x = 2 * e)) :
    ∃ F, fM_order_139 e w v σ = (dg_sg (bn_u d * 2^(sc.toInt - x.toInt).toNat) (bn_u v * bn_u w * 2^(x.toInt - sc.toInt).toNat), ms_set_factor σ F) := by
  obtain ⟨F, e1, e2, e3, e4⟩ := mul_val v w σ
  refine ⟨F, ?_⟩
  unfold fM_order_139
  rw [e1]
  have hfold : fM_order_142 e (ms_set_factor σ F) = fM_order_166 x sc d (ms_set_factor σ F) := by
    unfold fM_order_142
    rw [ms_mode_factor, ms_scale_factor, ms_dividend_factor, hd, hsc]
    rcases hm with ⟨q, z⟩ | ⟨q, z⟩
    · rw [if_pos q, z]
    · rw [if_neg q, z]
  rw [hfold]
  unfold fM_order_166 fM_order_170
  have s1 : (sc - x).toInt = sc.toInt - x.toInt := by rw [bn_i_sub]; omega
  have hV : dgV (dg F) 16 = bn_u v * bn_u w := by
    rw [← e4]
    exact dgV_zero_above (by omega) (fun t h1 h2 => by unfold dg; rw [e3 t h1 h2]; rfl)
  rw [cmpF_val d (sc - x) (ms_set_factor σ F) (bn_u v * bn_u w) (by rw [ms_factor_factor]; exact e2) (by rw [ms_factor_factor]; exact e3) (by rw [ms_factor_factor]; exact hV) (by rw [s1]; omega), s1]
  show (-(dg_sg _ _), _) = _
  rw [dg_sg_neg2, show -(sc.toInt - x.toInt) = x.toInt - sc.toInt by omega]
