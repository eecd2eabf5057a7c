theorem i_div2 {a : Int32} (h : 0 ≤ a.toInt) : (a / 2).toInt = a.toInt / 2 := by
  have hne : a ≠ Int32.minValue := by
    intro q; rw [q] at h; revert h; decide
  rw [Int32.toInt_div_of_ne_left _ _ hne, show (2 : Int32).toInt = 2 from rfl, Int.tdiv_eq_ediv_of_nonneg h]
theorem i_twice {a : Int32} (h : -100000 ≤ a.toInt ∧ a.toInt ≤ 100000) : (2 * a).toInt = 2 * a.toInt := by
  rw [Int32.toInt_mul, show (2 : Int32).toInt = 2 from rfl, Int.bmod_eq_of_le] <;> omega
theorem sq_lt {a b : Nat} : a * a < b * b ↔ a < b := Nat.mul_self_lt_mul_self_iff
theorem sq_cmp (N E : Nat) (hE : E % 2 = 0) : dg_sg (bn_sq N) E = dg_sg N (E * E) := by
  obtain ⟨h1, h2⟩ := bn_isqrt_spec N
  generalize hs : bn_isqrt N = s at *
  have hd : s < E ↔ N < E * E := by
    constructor
    · intro h
      exact Nat.lt_of_lt_of_le h2 (Nat.mul_self_le_mul_self h)
    · intro h
      exact sq_lt.mp (Nat.lt_of_le_of_lt h1 h)
  unfold bn_sq
  rw [hs]
  by_cases r : s * s = N
  · rw [if_pos r]
    refine sg_congr hd ⟨fun w => by rw [← w]; exact r.symm, fun w => ?_⟩
    rw [← r] at w
    rcases Nat.lt_trichotomy s E with q | q | q
    · exact absurd w (Nat.ne_of_lt (sq_lt.mpr q))
    · exact q
    · exact absurd w (Nat.ne_of_gt (sq_lt.mpr q))
  · rw [if_neg r]
    obtain ⟨p1, p2⟩ := st_par (Q := s) hE
    refine sg_congr (p1.trans hd) ⟨fun w => absurd w p2, fun w => absurd ?_ r⟩
    rw [w] at h1 h2
    have q1 : s ≤ E := by
      rcases Nat.lt_or_ge E s with q | q
      · exact absurd (sq_lt.mpr q) (Nat.not_lt.mpr h1)
      · exact q
    have q2 : E < s + 1 := sq_lt.mp h2
    have q3 : s = E := Nat.le_antisymm q1 (Nat.lt_succ_iff.mp q2)
    rw [w, q3]
theorem sq_sgn (M v : Nat) (S e e0 : Int) (rc : Nat) (h0 : 2 * e0 = S - rc) (h : e0 + 1 ≤ e) : bn_sgn (bn_sq (M * 2^rc)) e0 v e = dg_sg (M * 2^(S - 2 * e).toNat) (v * v * 2^(2 * e - S).toNat) := by
  unfold bn_sgn
  have a0 : (e0 - e).toNat = 0 := by omega
  have hj : 1 ≤ (e - e0).toNat := by omega
  rw [a0, Nat.pow_zero, Nat.mul_one, sq_cmp _ _ (even_mul v _ hj)]
  have sq : v * 2^(e - e0).toNat * (v * 2^(e - e0).toNat) = v * v * 2^((e - e0).toNat + (e - e0).toNat) := by
    rw [Nat.pow_add, Nat.mul_mul_mul_comm]
  rw [sq]
  by_cases q : S ≤ 2 * e
  · have e1 : (S - 2 * e).toNat = 0 := by omega
    have e2 : (e - e0).toNat + (e - e0).toNat = (2 * e - S).toNat + rc := by omega
    rw [e1, e2, Nat.pow_zero, Nat.mul_one, Nat.pow_add, ← Nat.mul_assoc]
    exact sg_mul (Nat.two_pow_pos rc)
  · have e1 : (2 * e - S).toNat = 0 := by omega
    have e2 : rc = (S - 2 * e).toNat + ((e - e0).toNat + (e - e0).toNat) := by omega
    rw [e1, Nat.pow_zero, Nat.mul_one, e2, Nat.pow_add, ← Nat.mul_assoc]
    generalize (e - e0).toNat + (e - e0).toNat = j
    exact sg_mul (Nat.two_pow_pos j)
theorem sq_len (N : Nat) (hN : 10 ≤ bn_len N) : bn_len (bn_sq N) = (bn_len N + 1) / 2 := by
  obtain ⟨h1, h2⟩ := bn_isqrt_spec N
  have n0 : 0 < N := by
    rcases Nat.eq_zero_or_pos N with w | w
    · rw [w, bn_len_zero] at hN; omega
    · exact w
  have g1 := bn_len_lt N
  have g2 := bn_len_ge n0
  obtain ⟨h, hh⟩ : ∃ h, (bn_len N + 1) / 2 = h + 1 := ⟨(bn_len N + 1) / 2 - 1, by omega⟩
  have k1 : bn_len N ≤ (h + 1) + (h + 1) := by omega
  have k2 : h + h ≤ bn_len N - 1 := by omega
  have k3 : 2 ≤ h + 1 := by omega
  generalize bn_isqrt N = s at *
  have up : bn_isqrt N < 2^(h + 1) := by
    obtain ⟨i1, i2⟩ := bn_isqrt_spec N
    refine sq_lt.mp (Nat.lt_of_le_of_lt i1 (Nat.lt_of_lt_of_le g1 ?_))
    rw [← Nat.pow_add]
    exact Nat.pow_le_pow_right (by decide) k1
  have lo : 2^h ≤ bn_isqrt N := by
    obtain ⟨i1, i2⟩ := bn_isqrt_spec N
    rcases Nat.lt_or_ge (bn_isqrt N) (2^h) with w | w
    · exfalso
      have c1 : (bn_isqrt N + 1) * (bn_isqrt N + 1) ≤ 2^h * 2^h := Nat.mul_self_le_mul_self w
      rw [← Nat.pow_add] at c1
      have c2 : 2^(h + h) ≤ 2^(bn_len N - 1) := Nat.pow_le_pow_right (by decide) k2
      exact absurd (Nat.lt_of_lt_of_le i2 (Nat.le_trans c1 (Nat.le_trans c2 g2))) (Nat.lt_irrefl N)
    · exact w
  have el : bn_len (bn_isqrt N) = h + 1 := bn_len_eq lo up
  rw [len_half (bn_sq_half N) (by rw [el]; exact k3), el, hh]
theorem root_fin (k : Nat) (x : Int64) (x0 : bn_mag k x ≠ 0) (σ τ0 : MS) (hm : ms_mode τ0 = 2) (hd : ms_dividend τ0 = fM_significand (tt k) x) (hs : ms_scale τ0 = fM_scaleOf (tt k) x) (hk : kt σ τ0) :
    ∃ τ', kt σ τ' ∧ fM_root_70 (tt k) (fM_highest (ms_dividend τ0) + ms_scale τ0) τ0 = (bn_out k 0 (bn_sq (bn_M k x * 2^bn_rc k x)) ((bn_S k x - bn_rc k x) / 2), τ') := by
  have mx := bn_M_pos k x x0
  have ux := m_significand k x
  have lx := len_le53 (bn_M_lt53 k x)
  have lx0 := bn_len_pos mx
  have sx := S_rng k x
  have hmn := bn_mn_le k
  have scx := m_scaleOf k x
  have hrc : bn_rc k x = 200 + (bn_S k x % 2).toNat := rfl
  obtain ⟨e0, he0⟩ : ∃ e0 : Int, (bn_S k x - bn_rc k x) / 2 = e0 := ⟨_, rfl⟩
  have h0 : 2 * e0 = bn_S k x - bn_rc k x := by omega
  have hr200 : 200 ≤ bn_rc k x ∧ bn_rc k x ≤ 201 := by omega
  clear hrc
  generalize bn_rc k x = rc at *
  rw [he0]
  clear he0
  have hlN : bn_len (bn_M k x * 2^rc) = bn_len (bn_M k x) + rc := bn_len_mul mx rc
  have hlq : bn_len (bn_sq (bn_M k x * 2^rc)) = (bn_len (bn_M k x) + rc + 1) / 2 := by
    rw [sq_len _ (by rw [hlN]; omega), hlN]
  clear hlN
  have hx : (fM_highest (fM_significand (tt k) x)).toInt = (bn_len (bn_M k x) : Int) - 1 := by
    rw [highest_val _ (fun w => by rw [bn_u_zero, ux] at w; omega), ux]
  have ha4 : (fM_highest (ms_dividend τ0) + ms_scale τ0).toInt = (bn_len (bn_M k x) : Int) - 1 + bn_S k x := by
    rw [hd, hs, bn_i_add] <;> rw [hx, scx]; omega
  generalize fM_highest (ms_dividend τ0) + ms_scale τ0 = a4 at *
  have hpos : 0 < bn_sq (bn_M k x * 2^rc) := by
    rcases Nat.eq_zero_or_pos (bn_sq (bn_M k x * 2^rc)) with w | w
    · rw [w, bn_len_zero] at hlq; omega
    · exact w
  generalize hmm : bn_sq (bn_M k x * 2^rc) = mm at *
  have hO : ordOK mm e0 (e0 + bn_len mm - 56) (max (e0 + bn_len mm) (bn_mn k) + 2) (fun τ => ms_mode τ = 2 ∧ ms_dividend τ = fM_significand (tt k) x ∧ ms_scale τ = fM_scaleOf (tt k) x ∧ kt σ τ) := by
    intro τ hτ v ex hv h1 h2
    clear hv
    obtain ⟨t1, t2, t3, t4⟩ := hτ
    have hex : -100000 ≤ ex.toInt ∧ ex.toInt ≤ 100000 := by omega
    have h2e := i_twice hex
    have hr1 : -10000 ≤ (fM_scaleOf (tt k) x).toInt - (2 * ex).toInt ∧ (fM_scaleOf (tt k) x).toInt - (2 * ex).toInt ≤ 10000 := by rw [h2e, scx]; omega
    have hr2 : e0 + 1 ≤ ex.toInt := by omega
    obtain ⟨F, eF⟩ := order_fac v v ex τ (fM_significand (tt k) x) (fM_scaleOf (tt k) x) (2 * ex) hr1 t2 t3 (Or.inr ⟨by rw [t1]; decide, rfl⟩)
    have eo : fM_order v ex τ = fM_order_139 ex v v τ := by
      unfold fM_order
      rw [t1, if_neg (show ¬ (2 : Int32) = 0 by decide), if_neg (show ¬ (2 : Int32) = 1 by decide)]
    rw [eo, eF, ← hmm, sq_sgn _ _ (bn_S k x) _ _ rc h0 hr2, h2e, scx, ux]
    exact ⟨rfl, t1, t2, t3, kt_trans t4 (kt_factor τ F)⟩
  have htop : ∀ top : Int32, top.toInt = ((bn_len (bn_M k x) : Int) - 1 + bn_S k x) / 2 → ∃ τ', kt σ τ' ∧ fM_root_92 top 0 (tt k) τ0 = (bn_out k 0 mm e0, τ') := by
    intro top ht
    obtain ⟨τ', hτ', er⟩ := m_rounded k 0 top mm e0 _ τ0 ⟨hm, hd, hs, hk⟩ hpos (by rw [ht]; omega) ⟨by omega, by omega⟩ hO
    exact ⟨τ', hτ'.2.2.2, by unfold fM_root_92; rw [er]⟩
  unfold fM_root_70
  have z1 : (1 : Int32).toInt = 1 := rfl
  have z0 : (0 : Int32).toInt = 0 := rfl
  by_cases q : a4 < 0
  · rw [if_pos q]
    rw [Int32.lt_iff_toInt_lt, ha4, z0] at q
    apply htop
    have d1 : (1 - a4).toInt = 1 - a4.toInt := by rw [bn_i_sub] <;> rw [ha4, z1]; omega
    have d2 := i_div2 (a := 1 - a4) (by rw [d1, ha4]; omega)
    rw [bn_i_neg (by rw [d2, d1, ha4]; omega), d2, d1, ha4]
    omega
  · rw [if_neg q]
    rw [Int32.lt_iff_toInt_lt, ha4, z0] at q
    apply htop
    rw [i_div2 (by rw [ha4]; omega), ha4]
theorem m_root (k : Nat) (x : Int64) (hx : bn_ok k x) (σ : MS) : SM_root (tt k) x σ ∧ (fM_root (tt k) x σ).1 = fFloating_root k x ∧ kt σ (fM_root (tt k) x σ).2 := by
  unfold SM_root fM_root fFloating_root
  rw [m_isZero k x hx, m_isMinus, m_isInfinite k x hx, m_theNone]
  by_cases z1 : fFormat_isZero k x = 0
  · rw [if_pos z1, if_pos z1, if_pos z1]
    by_cases n1 : fFormat_isNegative k x = 0
    · rw [if_pos n1, if_pos n1, if_pos n1]
      by_cases i1 : fFormat_isInfinite k x = 0
      · rw [if_pos i1, if_pos i1, if_pos i1]
        have x0 := (zero_mag hx).mp z1
        rw [bn_root_fin k x hx x0]
        obtain ⟨τ', t1, t2⟩ := root_fin k x x0 σ (ms_set_scale (ms_set_dividend (ms_set_mode σ 2) (fM_significand (tt k) x)) (fM_scaleOf (tt k) x)) (by rw [ms_mode_scale, ms_mode_dividend, ms_mode_mode]) (by rw [ms_dividend_scale, ms_dividend_dividend]) (by rw [ms_scale_scale]) (kt_trans (kt_trans (kt_mode σ 2) (kt_dividend _ _)) (kt_scale _ _))
        rw [t2]
        refine ⟨⟨?_, ?_⟩, rfl, t1⟩
        · intro w
          rw [ms_dividend_scale, ms_dividend_dividend] at w
          have w2 : fM_significand (tt k) x = 0 := w
          rw [bn_u_zero, m_significand] at w2
          exact absurd w2 (Nat.ne_of_gt (bn_M_pos k x x0))
        · unfold SM_root_70 SM_root_92
          split <;> trivial
      · rw [if_neg i1, if_neg i1, if_neg i1]; exact ⟨trivial, rfl, kt_refl σ⟩
    · rw [if_neg n1, if_neg n1, if_neg n1]; exact ⟨trivial, rfl, kt_refl σ⟩
  · rw [if_neg z1, if_neg z1, if_neg z1]; exact ⟨trivial, rfl, kt_refl σ⟩
theorem inf_S {k : Nat} {x : Int64} (h : bn_mag k x = bn_INF k) : 0 ≤ bn_S k x := by
  have he : bn_ex k x = bn_E k := by
    unfold bn_ex
    rw [h]
    unfold bn_INF
    exact Nat.mul_div_cancel _ (Nat.two_pow_pos _)
  have d : bn_S k x = bn_mn k + (max (bn_ex k x) 1 : Nat) - 1 := rfl
  rcases bn_k2 k with ⟨c1, c2, c3⟩ | ⟨c1, c2, c3⟩
  · rw [c2, he, c3] at d; omega
  · rw [c2, he, c3] at d; omega
theorem zero_signed {k : Nat} {x : Int64} (hx : bn_ok k x) (h : bn_mag k x = 0) : fFormat_signed k (fFormat_isNegative k x) 0 = x := by
  have hs := bn_u_split k x
  have hl := bn_sg_le k x hx
  rw [h, Nat.add_zero] at hs
  rw [bn_isNegative k x hx]
  unfold fFormat_signed
  apply bn_u_inj
  rw [hs]
  by_cases q : bn_sg k x = 0
  · rw [if_pos q, if_pos rfl, q, Nat.zero_mul]; rfl
  · have e1 : bn_sg k x = 1 := by clear hs; omega
    rw [if_neg q, if_neg (show ¬ (1 : Int32) = 0 by decide), bn_u_or, show bn_u 0 = 0 from rfl, Nat.zero_or, bn_signBit, e1, Nat.one_mul]
theorem wn_zero (place neg : Int32) (d : Nat) : bn_wn place neg 0 d = 0 := by
  have hp := Nat.two_pow_pos d
  unfold bn_wn bn_rne
  rw [Nat.zero_mod, Nat.zero_div, if_pos (show (0 : Nat) = 0 from rfl), Nat.mul_zero, if_neg (show ¬ (2^d < 0 ∨ ((0 : Nat) = 2^d ∧ 0 % 2 = 1)) from fun z => z.elim (fun z => absurd z (Nat.not_lt_zero _)) (fun z => absurd z.1 (Nat.ne_of_lt hp)))]
  split <;> rfl
theorem pow_half (d : Nat) (h : 1 ≤ d) : 2^d = 2 * 2^(d - 1) := by
  obtain ⟨i, rfl⟩ : ∃ i, d = i + 1 := ⟨d - 1, by omega⟩
  rw [Nat.pow_succ', Nat.add_sub_cancel]
theorem tw_val (k : Nat) (neg : Int32) (v : Int64) (w : Nat) (h : bn_u v = w) (σ : MS) : (SM_valueOf (tt k) neg v 0 σ ∧ True) ∧ ((fM_valueOf (tt k) neg v 0 σ).1, (fM_valueOf (tt k) neg v 0 σ).2).1 = (if w = 0 then fFormat_signed k neg 0 else bn_out k neg w 0) ∧ kt σ ((fM_valueOf (tt k) neg v 0 σ).1, (fM_valueOf (tt k) neg v 0 σ).2).2 := by
  obtain ⟨r1, r2, r3⟩ := value_out k neg v 0 ⟨by decide, by decide⟩ σ
  rw [h] at r2
  exact ⟨⟨r1, trivial⟩, r2, r3⟩
theorem tw_108 (c : Nat) (hc : c = 2 ∨ c = 3 ∨ c = 4 ∨ c = 5) (k : Nat) (neg : Int32) (a9 a11 a13 : Int64) (σ : MS) (m d q : Nat) (hd : 1 ≤ d) (h9 : bn_u a9 = q) (hq : m / 2^d = q) (hq2 : q < 2^60) (l11 : bn_u a11 < 2^63) (l13 : bn_u a13 < 2^63) (hr : (bn_u a11 = 0) ↔ m % 2^d = 0) (hg : (bn_u a13 < bn_u a11) ↔ 2^d < 2 * (m % 2^d)) (he : (bn_u a11 = bn_u a13) ↔ 2 * (m % 2^d) = 2^d) :
    SM_towards_108 (nI c) (tt k) neg a9 a11 a13 σ ∧ (fM_towards_108 (nI c) (tt k) neg a9 a11 a13 σ).1 = (if bn_wn (nI c) neg m d = 0 then fFormat_signed k neg 0 else bn_out k neg (bn_wn (nI c) neg m d) 0) ∧ kt σ (fM_towards_108 (nI c) (tt k) neg a9 a11 a13 σ).2 := by
  have u1 : bn_u (a9 + 1) = q + 1 := by rw [bn_add_u (by rw [h9, show bn_u 1 = 1 from rfl]; omega), h9]; rfl
  have le0 : (a11 ≤ 0) ↔ bn_u a11 = 0 := by
    rw [bn_le l11 (by decide), show bn_u 0 = 0 from rfl]; exact Nat.le_zero
  have lt1 : (a13 < a11) ↔ bn_u a13 < bn_u a11 := bn_lt l13 l11
  have eq1 : (a11 = a13) ↔ bn_u a11 = bn_u a13 := bn_u_eq
  have odd : ((a9 &&& 1) = 1) ↔ q % 2 = 1 := by rw [bn_and1, h9]
  unfold SM_towards_108 fM_towards_108 SM_towards_129 fM_towards_129 SM_towards_154 fM_towards_154 SM_towards_188 fM_towards_188 SM_towards_192 fM_towards_192 SM_towards_193 fM_towards_193 SM_towards_213 fM_towards_213
  unfold bn_wn bn_rne
  rw [hq]
  rcases hc with rfl | rfl | rfl | rfl
  · rw [if_pos (show nI 2 = 2 from rfl), if_pos (show nI 2 = 2 from rfl), if_neg (show ¬ nI 2 = 5 by decide)]
    by_cases n : neg = 0
    · rw [if_pos n, if_pos n]
      by_cases w : a11 ≤ 0
      · rw [if_pos w, if_pos w, if_pos (hr.mp (le0.mp w)), if_pos rfl, if_pos rfl]
        exact tw_val k neg a9 q h9 σ
      · rw [if_neg w, if_neg w, if_neg (fun z => w (le0.mpr (hr.mpr z))), if_pos (Or.inl ⟨rfl, n⟩), if_neg (show ¬ (1 : Int32) = 0 by decide), if_neg (show ¬ (1 : Int32) = 0 by decide)]
        exact tw_val k neg (a9 + 1) (q + 1) u1 σ
    · rw [if_neg n, if_neg n, if_pos rfl, if_pos rfl, if_neg (show ¬ ((nI 2 = 2 ∧ neg = 0) ∨ (nI 2 = 3 ∧ neg ≠ 0)) from fun z => z.elim (fun z => n z.2) (fun z => absurd z.1 (by decide))), ite_self]
      exact tw_val k neg a9 q h9 σ
  · rw [if_neg (show ¬ nI 3 = 2 by decide), if_neg (show ¬ nI 3 = 2 by decide), if_pos (show nI 3 = 3 from rfl), if_pos (show nI 3 = 3 from rfl), if_neg (show ¬ nI 3 = 5 by decide)]
    by_cases n : neg = 0
    · rw [if_pos n, if_pos n, if_pos rfl, if_pos rfl, if_neg (show ¬ ((nI 3 = 2 ∧ neg = 0) ∨ (nI 3 = 3 ∧ neg ≠ 0)) from fun z => z.elim (fun z => absurd z.1 (by decide)) (fun z => z.2 n)), ite_self]
      exact tw_val k neg a9 q h9 σ
    · rw [if_neg n, if_neg n]
      by_cases w : a11 ≤ 0
      · rw [if_pos w, if_pos w, if_pos (hr.mp (le0.mp w)), if_pos rfl, if_pos rfl]
        exact tw_val k neg a9 q h9 σ
      · rw [if_neg w, if_neg w, if_neg (fun z => w (le0.mpr (hr.mpr z))), if_pos (Or.inr ⟨rfl, n⟩), if_neg (show ¬ (1 : Int32) = 0 by decide), if_neg (show ¬ (1 : Int32) = 0 by decide)]
        exact tw_val k neg (a9 + 1) (q + 1) u1 σ
  · rw [if_neg (show ¬ nI 4 = 2 by decide), if_neg (show ¬ nI 4 = 2 by decide), if_neg (show ¬ nI 4 = 3 by decide), if_neg (show ¬ nI 4 = 3 by decide), if_neg (show ¬ nI 4 = 5 by decide), if_neg (show ¬ nI 4 = 5 by decide), if_neg (show ¬ nI 4 = 5 by decide), if_pos rfl, if_pos rfl, if_neg (show ¬ ((nI 4 = 2 ∧ neg = 0) ∨ (nI 4 = 3 ∧ neg ≠ 0)) from fun z => z.elim (fun z => absurd z.1 (by decide)) (fun z => absurd z.1 (by decide))), ite_self]
    exact tw_val k neg a9 q h9 σ
  · rw [if_neg (show ¬ nI 5 = 2 by decide), if_neg (show ¬ nI 5 = 2 by decide), if_neg (show ¬ nI 5 = 3 by decide), if_neg (show ¬ nI 5 = 3 by decide), if_pos (show nI 5 = 5 from rfl), if_pos (show nI 5 = 5 from rfl), if_pos (show nI 5 = 5 from rfl)]
    by_cases g : a13 < a11
    · rw [if_pos g, if_pos g, if_neg (show ¬ (1 : Int32) = 0 by decide), if_neg (show ¬ (1 : Int32) = 0 by decide), if_pos (Or.inl (hg.mp (lt1.mp g)))]
      exact tw_val k neg (a9 + 1) (q + 1) u1 σ
    · rw [if_neg g, if_neg g]
      by_cases f : a11 = a13
      · rw [if_pos f, if_pos f]
        by_cases o : (a9 &&& 1) = 1
        · rw [if_pos o, if_pos o, if_neg (show ¬ (1 : Int32) = 0 by decide), if_neg (show ¬ (1 : Int32) = 0 by decide), if_pos (Or.inr ⟨he.mp (eq1.mp f), odd.mp o⟩)]
          exact tw_val k neg (a9 + 1) (q + 1) u1 σ
        · rw [if_neg o, if_neg o, if_pos rfl, if_pos rfl, if_neg (show ¬ (2^d < 2 * (m % 2^d) ∨ (2 * (m % 2^d) = 2^d ∧ q % 2 = 1)) from fun z => z.elim (fun z => g (lt1.mpr (hg.mpr z))) (fun z => o (odd.mpr z.2))), Nat.add_zero]
          exact tw_val k neg a9 q h9 σ
      · rw [if_neg f, if_neg f, if_pos rfl, if_pos rfl, if_neg (show ¬ (2^d < 2 * (m % 2^d) ∨ (2 * (m % 2^d) = 2^d ∧ q % 2 = 1)) from fun z => z.elim (fun z => g (lt1.mpr (hg.mpr z))) (fun z => f (eq1.mpr (he.mpr z.1)))), Nat.add_zero]
        exact tw_val k neg a9 q h9 σ
theorem tw_33 (c : Nat) (hc : c = 2 ∨ c = 3 ∨ c = 4 ∨ c = 5) (k : Nat) (x : Int64) (neg : Int32) (x0 : bn_mag k x ≠ 0) (hS : bn_S k x < 0) (σ : MS) :
    SM_towards_33 (nI c) (tt k) x neg σ ∧ (fM_towards_33 (nI c) (tt k) x neg σ).1 = (if bn_wn (nI c) neg (bn_M k x) (-bn_S k x).toNat = 0 then fFormat_signed k neg 0 else bn_out k neg (bn_wn (nI c) neg (bn_M k x) (-bn_S k x).toNat) 0) ∧ kt σ (fM_towards_33 (nI c) (tt k) x neg σ).2 := by
  have mx := bn_M_pos k x x0
  have ml := bn_M_lt53 k x
  have ux := m_significand k x
  have sx := S_rng k x
  have scx := m_scaleOf k x
  obtain ⟨d, hdd⟩ : ∃ d : Nat, (-bn_S k x).toNat = d := ⟨_, rfl⟩
  have hd1 : 1 ≤ d := by omega
  have hsc : (-(fM_scaleOf (tt k) x)).toInt = (d : Int) := by
    rw [bn_i_neg] <;> rw [scx] <;> omega
  rw [hdd]
  unfold SM_towards_33 fM_towards_33 SM_towards_40 fM_towards_40 SM_towards_48 fM_towards_48 SM_towards_64 fM_towards_64 SM_towards_66 fM_towards_66 SM_towards_85 fM_towards_85 SM_towards_87 fM_towards_87 SM_towards_106 fM_towards_106
  generalize -(fM_scaleOf (tt k) x) = a8 at *
  have z60 : (60 : Int32).toInt = 60 := rfl
  have hqle : bn_M k x / 2^d ≤ bn_M k x := Nat.div_le_self _ _
  by_cases q : a8 ≤ 60
  · rw [if_pos q, if_pos q, if_pos q, if_pos q, if_pos q, if_pos q]
    rw [Int32.le_iff_toInt_le, hsc, z60] at q
    have hd64 : d < 64 := by clear ml hqle; omega
    have hd164 : d - 1 < 64 := by clear ml hqle; omega
    have hd163 : d - 1 < 63 := by clear ml hqle; omega
    have hm1 : (a8 - 1).toInt = ((d - 1 : Nat) : Int) := by
      clear ml hqle
      rw [bn_i_sub] <;> rw [hsc, show (1 : Int32).toInt = 1 from rfl] <;> omega
    have u9 : bn_u (bn_sar (fM_significand (tt k) x) a8) = bn_M k x / 2^d := by
      rw [sar_pos (by rw [ux]; exact Nat.lt_trans ml (by decide)) hsc hd64, ux]
    have hdm := Nat.div_add_mod (bn_M k x) (2^d)
    have hmul : bn_M k x / 2^d * 2^d ≤ bn_M k x := Nat.div_mul_le_self _ _
    have ush : bn_u (bn_shl (bn_sar (fM_significand (tt k) x) a8) a8) = bn_M k x / 2^d * 2^d := by
      rw [bn_shl_u hsc hd64 (by rw [u9]; exact Nat.lt_of_le_of_lt hmul (Nat.lt_trans ml (by decide))), u9]
    have u11 : bn_u (fM_significand (tt k) x - bn_shl (bn_sar (fM_significand (tt k) x) a8) a8) = bn_M k x % 2^d := by
      rw [bn_sub_u (by rw [ush, ux]; exact hmul), ush, ux, Nat.mul_comm]
      generalize 2^d * (bn_M k x / 2^d) = Z at *
      clear u9 ush hmul hqle ml
      omega
    have u13 : bn_u (bn_shl 1 (a8 - 1)) = 2^(d - 1) := by
      rw [bn_shl_u hm1 hd164 (by rw [show bn_u 1 = 1 from rfl, Nat.one_mul]; exact Nat.pow_lt_pow_right (by decide) hd164), show bn_u 1 = 1 from rfl, Nat.one_mul]
    have hp := pow_half d hd1
    refine tw_108 c hc k neg _ _ _ σ (bn_M k x) d (bn_M k x / 2^d) hd1 u9 rfl (Nat.lt_of_le_of_lt hqle (Nat.lt_trans ml (by decide))) ?_ ?_ ?_ ?_ ?_
    · rw [u11]; exact Nat.lt_of_le_of_lt (Nat.mod_le _ _) (Nat.lt_trans ml (by decide))
    · rw [u13]; exact Nat.pow_lt_pow_right (by decide) hd163
    · rw [u11]
    · rw [u11, u13]
      clear u9 ush u11 u13 hmul hqle ml hdm
      generalize bn_M k x % 2^d = R
      generalize 2^(d - 1) = G at *
      generalize 2^d = H at *
      omega
    · rw [u11, u13]
      clear u9 ush u11 u13 hmul hqle ml hdm
      generalize bn_M k x % 2^d = R
      generalize 2^(d - 1) = G at *
      generalize 2^d = H at *
      omega
  · rw [if_neg q, if_neg q, if_neg q, if_neg q, if_neg q, if_neg q]
    rw [Int32.le_iff_toInt_le, hsc, z60] at q
    have hd54 : 54 ≤ d := by clear ml hqle; omega
    have hp : 2^54 ≤ 2^d := Nat.pow_le_pow_right (by decide) hd54
    have hlt : bn_M k x < 2^d := Nat.lt_of_lt_of_le (Nat.lt_trans ml (by decide)) hp
    have hq0 : bn_M k x / 2^d = 0 := Nat.div_eq_of_lt hlt
    have hmod : bn_M k x % 2^d = bn_M k x := Nat.mod_eq_of_lt hlt
    refine tw_108 c hc k neg 0 1 2 σ (bn_M k x) d 0 hd1 rfl hq0 (by decide) (by decide) (by decide) ?_ ?_ ?_
    · rw [hmod, show bn_u 1 = 1 from rfl]
      exact ⟨fun h => absurd h (by decide), fun h => absurd h (Nat.ne_of_gt mx)⟩
    · rw [hmod, show bn_u 1 = 1 from rfl, show bn_u 2 = 2 from rfl]
      refine ⟨fun h => absurd h (by decide), fun h => ?_⟩
      exfalso
      clear hq0 hmod hlt hqle
      generalize 2^d = H at *
      omega
    · rw [hmod, show bn_u 1 = 1 from rfl, show bn_u 2 = 2 from rfl]
      refine ⟨fun h => absurd h (by decide), fun h => ?_⟩
      exfalso
      clear hq0 hmod hlt hqle
      generalize 2^d = H at *
      omega
theorem m_towards (c : Nat) (hc : c = 2 ∨ c = 3 ∨ c = 4 ∨ c = 5) (k : Nat) (x : Int64) (hx : bn_ok k x) (σ : MS) : SM_towards (nI c) (tt k) x σ ∧ (fM_towards (nI c) (tt k) x σ).1 = fFloating_wholeNumber (nI c) k x ∧ kt σ (fM_towards (nI c) (tt k) x σ).2 := by
  rw [bn_whole (nI c) k x hx]
  unfold SM_towards fM_towards SM_towards_24 fM_towards_24
  rw [m_isInfinite k x hx, m_isZero k x hx, m_isMinus]
  by_cases i1 : fFormat_isInfinite k x = 0
  · rw [if_pos i1, if_pos i1]
    by_cases z1 : fFormat_isZero k x = 0
    · rw [if_pos z1, if_pos z1]
      have x0 := (zero_mag hx).mp z1
      have sc := m_scaleOf k x
      by_cases s : fM_scaleOf (tt k) x < 0
      · rw [if_pos s, if_pos s]
        rw [Int32.lt_iff_toInt_lt, sc, show (0 : Int32).toInt = 0 from rfl] at s
        rw [if_neg (Int.not_le.mpr s)]
        exact tw_33 c hc k x (fFormat_isNegative k x) x0 s σ
      · rw [if_neg s, if_neg s]
        rw [Int32.lt_iff_toInt_lt, sc, show (0 : Int32).toInt = 0 from rfl] at s
        rw [if_pos (Int.not_lt.mp s)]
        exact ⟨trivial, rfl, kt_refl σ⟩
    · rw [if_neg z1, if_neg z1]
      have m1 : bn_mag k x = 0 := Decidable.byContradiction (fun w => z1 ((zero_mag hx).mpr w))
      refine ⟨trivial, ?_, kt_refl σ⟩
      rw [(V_0 m1).2, wn_zero, if_pos (show (0 : Nat) = 0 from rfl), zero_signed hx m1, ite_self]
  · rw [if_neg i1, if_neg i1]
    have m1 : bn_mag k x = bn_INF k := by
      rw [bn_isInfinite k x hx] at i1
      refine Decidable.byContradiction (fun w => i1 ?_)
      rw [if_neg w]
    rw [if_pos (inf_S m1)]
    exact ⟨trivial, rfl, kt_refl σ⟩
theorem ok_xor {k : Nat} {y : Int64} (hy : bn_ok k y) : bn_ok k (y ^^^ fm_signBit k) := by
  show bn_u (y ^^^ fm_signBit k) < 2^bn_W k
  rw [bn_u_xor, bn_signBit]
  exact Nat.xor_lt_two_pow hy (Nat.pow_lt_pow_right (by decide) (by unfold bn_W; split <;> decide))
theorem f72_2 (a : Int32) (x y : Int64) (σ : MS) : fM_floating_72 (nI 2) a x y σ = ((fM_towards (nI 2) a x σ).1, (fM_towards (nI 2) a x σ).2) := by
  unfold fM_floating_72
  rw [if_neg (show ¬ nI 2 = 6 by decide), if_neg (show ¬ nI 2 = 7 by decide), if_neg (show ¬ nI 2 = 8 by decide), if_neg (show ¬ nI 2 = 9 by decide), if_neg (show ¬ nI 2 = 10 by decide), if_neg (show ¬ nI 2 = 11 by decide), if_neg (show ¬ nI 2 = 12 by decide)]
theorem s72_2 (a : Int32) (x y : Int64) (σ : MS) : SM_floating_72 (nI 2) a x y σ = (SM_towards (nI 2) a x σ ∧ True) := by
  unfold SM_floating_72
  rw [if_neg (show ¬ nI 2 = 6 by decide), if_neg (show ¬ nI 2 = 7 by decide), if_neg (show ¬ nI 2 = 8 by decide), if_neg (show ¬ nI 2 = 9 by decide), if_neg (show ¬ nI 2 = 10 by decide), if_neg (show ¬ nI 2 = 11 by decide), if_neg (show ¬ nI 2 = 12 by decide)]
theorem cal_2 (k : Nat) (x y : Int64) : fFloating_calculated (nI 2) k x y = (fFloating_wholeNumber (nI 2) k x) := by
  unfold fFloating_calculated
  rw [if_pos (show nI 2 = 2 from rfl)]
theorem f72_3 (a : Int32) (x y : Int64) (σ : MS) : fM_floating_72 (nI 3) a x y σ = ((fM_towards (nI 3) a x σ).1, (fM_towards (nI 3) a x σ).2) := by
  unfold fM_floating_72
  rw [if_neg (show ¬ nI 3 = 6 by decide), if_neg (show ¬ nI 3 = 7 by decide), if_neg (show ¬ nI 3 = 8 by decide), if_neg (show ¬ nI 3 = 9 by decide), if_neg (show ¬ nI 3 = 10 by decide), if_neg (show ¬ nI 3 = 11 by decide), if_neg (show ¬ nI 3 = 12 by decide)]
theorem s72_3 (a : Int32) (x y : Int64) (σ : MS) : SM_floating_72 (nI 3) a x y σ = (SM_towards (nI 3) a x σ ∧ True) := by
  unfold SM_floating_72
  rw [if_neg (show ¬ nI 3 = 6 by decide), if_neg (show ¬ nI 3 = 7 by decide), if_neg (show ¬ nI 3 = 8 by decide), if_neg (show ¬ nI 3 = 9 by decide), if_neg (show ¬ nI 3 = 10 by decide), if_neg (show ¬ nI 3 = 11 by decide), if_neg (show ¬ nI 3 = 12 by decide)]
theorem cal_3 (k : Nat) (x y : Int64) : fFloating_calculated (nI 3) k x y = (fFloating_wholeNumber (nI 3) k x) := by
  unfold fFloating_calculated
  rw [if_neg (show ¬ nI 3 = 2 by decide), if_pos (show nI 3 = 3 from rfl)]
theorem f72_4 (a : Int32) (x y : Int64) (σ : MS) : fM_floating_72 (nI 4) a x y σ = ((fM_towards (nI 4) a x σ).1, (fM_towards (nI 4) a x σ).2) := by
  unfold fM_floating_72
  rw [if_neg (show ¬ nI 4 = 6 by decide), if_neg (show ¬ nI 4 = 7 by decide), if_neg (show ¬ nI 4 = 8 by decide), if_neg (show ¬ nI 4 = 9 by decide), if_neg (show ¬ nI 4 = 10 by decide), if_neg (show ¬ nI 4 = 11 by decide), if_neg (show ¬ nI 4 = 12 by decide)]
theorem s72_4 (a : Int32) (x y : Int64) (σ : MS) : SM_floating_72 (nI 4) a x y σ = (SM_towards (nI 4) a x σ ∧ True) := by
  unfold SM_floating_72
  rw [if_neg (show ¬ nI 4 = 6 by decide), if_neg (show ¬ nI 4 = 7 by decide), if_neg (show ¬ nI 4 = 8 by decide), if_neg (show ¬ nI 4 = 9 by decide), if_neg (show ¬ nI 4 = 10 by decide), if_neg (show ¬ nI 4 = 11 by decide), if_neg (show ¬ nI 4 = 12 by decide)]
theorem cal_4 (k : Nat) (x y : Int64) : fFloating_calculated (nI 4) k x y = (fFloating_wholeNumber (nI 4) k x) := by
  unfold fFloating_calculated
  rw [if_neg (show ¬ nI 4 = 2 by decide), if_neg (show ¬ nI 4 = 3 by decide), if_pos (show nI 4 = 4 from rfl)]
theorem f72_5 (a : Int32) (x y : Int64) (σ : MS) : fM_floating_72 (nI 5) a x y σ = ((fM_towards (nI 5) a x σ).1, (fM_towards (nI 5) a x σ).2) := by
  unfold fM_floating_72
  rw [if_neg (show ¬ nI 5 = 6 by decide), if_neg (show ¬ nI 5 = 7 by decide), if_neg (show ¬ nI 5 = 8 by decide), if_neg (show ¬ nI 5 = 9 by decide), if_neg (show ¬ nI 5 = 10 by decide), if_neg (show ¬ nI 5 = 11 by decide), if_neg (show ¬ nI 5 = 12 by decide)]
theorem s72_5 (a : Int32) (x y : Int64) (σ : MS) : SM_floating_72 (nI 5) a x y σ = (SM_towards (nI 5) a x σ ∧ True) := by
  unfold SM_floating_72
  rw [if_neg (show ¬ nI 5 = 6 by decide), if_neg (show ¬ nI 5 = 7 by decide), if_neg (show ¬ nI 5 = 8 by decide), if_neg (show ¬ nI 5 = 9 by decide), if_neg (show ¬ nI 5 = 10 by decide), if_neg (show ¬ nI 5 = 11 by decide), if_neg (show ¬ nI 5 = 12 by decide)]
theorem cal_5 (k : Nat) (x y : Int64) : fFloating_calculated (nI 5) k x y = (fFloating_wholeNumber (nI 5) k x) := by
  unfold fFloating_calculated
  rw [if_neg (show ¬ nI 5 = 2 by decide), if_neg (show ¬ nI 5 = 3 by decide), if_neg (show ¬ nI 5 = 4 by decide), if_pos (show nI 5 = 5 from rfl)]
theorem f72_6 (a : Int32) (x y : Int64) (σ : MS) : fM_floating_72 (nI 6) a x y σ = ((fM_root a x σ).1, (fM_root a x σ).2) := by
  unfold fM_floating_72
  rw [if_pos (show nI 6 = 6 from rfl)]
theorem s72_6 (a : Int32) (x y : Int64) (σ : MS) : SM_floating_72 (nI 6) a x y σ = (SM_root a x σ ∧ True) := by
  unfold SM_floating_72
  rw [if_pos (show nI 6 = 6 from rfl)]
theorem cal_6 (k : Nat) (x y : Int64) : fFloating_calculated (nI 6) k x y = (fFloating_root k x) := by
  unfold fFloating_calculated
  rw [if_neg (show ¬ nI 6 = 2 by decide), if_neg (show ¬ nI 6 = 3 by decide), if_neg (show ¬ nI 6 = 4 by decide), if_neg (show ¬ nI 6 = 5 by decide), if_pos (show nI 6 = 6 from rfl)]
theorem f72_7 (a : Int32) (x y : Int64) (σ : MS) : fM_floating_72 (nI 7) a x y σ = ((fM_sum a x y σ).1, (fM_sum a x y σ).2) := by
  unfold fM_floating_72
  rw [if_neg (show ¬ nI 7 = 6 by decide), if_pos (show nI 7 = 7 from rfl)]
theorem s72_7 (a : Int32) (x y : Int64) (σ : MS) : SM_floating_72 (nI 7) a x y σ = (SM_sum a x y σ ∧ True) := by
  unfold SM_floating_72
  rw [if_neg (show ¬ nI 7 = 6 by decide), if_pos (show nI 7 = 7 from rfl)]
theorem cal_7 (k : Nat) (x y : Int64) : fFloating_calculated (nI 7) k x y = (fFloating_sum k x y) := by
  unfold fFloating_calculated
  rw [if_neg (show ¬ nI 7 = 2 by decide), if_neg (show ¬ nI 7 = 3 by decide), if_neg (show ¬ nI 7 = 4 by decide), if_neg (show ¬ nI 7 = 5 by decide), if_neg (show ¬ nI 7 = 6 by decide), if_pos (show nI 7 = 7 from rfl)]
theorem f72_8 (a : Int32) (x y : Int64) (σ : MS) : fM_floating_72 (nI 8) a x y σ = ((fM_sum a x (y ^^^ (fM_signOf a)) σ).1, (fM_sum a x (y ^^^ (fM_signOf a)) σ).2) := by
  unfold fM_floating_72
  rw [if_neg (show ¬ nI 8 = 6 by decide), if_neg (show ¬ nI 8 = 7 by decide), if_pos (show nI 8 = 8 from rfl)]
theorem s72_8 (a : Int32) (x y : Int64) (σ : MS) : SM_floating_72 (nI 8) a x y σ = (SM_sum a x (y ^^^ (fM_signOf a)) σ ∧ True) := by
  unfold SM_floating_72
  rw [if_neg (show ¬ nI 8 = 6 by decide), if_neg (show ¬ nI 8 = 7 by decide), if_pos (show nI 8 = 8 from rfl)]
theorem cal_8 (k : Nat) (x y : Int64) : fFloating_calculated (nI 8) k x y = (fFloating_sum k x (y ^^^ (fm_signBit k))) := by
  unfold fFloating_calculated
  rw [if_neg (show ¬ nI 8 = 2 by decide), if_neg (show ¬ nI 8 = 3 by decide), if_neg (show ¬ nI 8 = 4 by decide), if_neg (show ¬ nI 8 = 5 by decide), if_neg (show ¬ nI 8 = 6 by decide), if_neg (show ¬ nI 8 = 7 by decide), if_pos (show nI 8 = 8 from rfl)]
theorem f72_9 (a : Int32) (x y : Int64) (σ : MS) : fM_floating_72 (nI 9) a x y σ = ((fM_product a x y σ).1, (fM_product a x y σ).2) := by
  unfold fM_floating_72
  rw [if_neg (show ¬ nI 9 = 6 by decide), if_neg (show ¬ nI 9 = 7 by decide), if_neg (show ¬ nI 9 = 8 by decide), if_pos (show nI 9 = 9 from rfl)]
theorem s72_9 (a : Int32) (x y : Int64) (σ : MS) : SM_floating_72 (nI 9) a x y σ = (SM_product a x y σ ∧ True) := by
  unfold SM_floating_72
  rw [if_neg (show ¬ nI 9 = 6 by decide), if_neg (show ¬ nI 9 = 7 by decide), if_neg (show ¬ nI 9 = 8 by decide), if_pos (show nI 9 = 9 from rfl)]
theorem cal_9 (k : Nat) (x y : Int64) : fFloating_calculated (nI 9) k x y = (fFloating_product k x y) := by
  unfold fFloating_calculated
  rw [if_neg (show ¬ nI 9 = 2 by decide), if_neg (show ¬ nI 9 = 3 by decide), if_neg (show ¬ nI 9 = 4 by decide), if_neg (show ¬ nI 9 = 5 by decide), if_neg (show ¬ nI 9 = 6 by decide), if_neg (show ¬ nI 9 = 7 by decide), if_neg (show ¬ nI 9 = 8 by decide), if_pos (show nI 9 = 9 from rfl)]
theorem f72_10 (a : Int32) (x y : Int64) (σ : MS) : fM_floating_72 (nI 10) a x y σ = ((fM_byQuotient a x y σ).1, (fM_byQuotient a x y σ).2) := by
  unfold fM_floating_72
  rw [if_neg (show ¬ nI 10 = 6 by decide), if_neg (show ¬ nI 10 = 7 by decide), if_neg (show ¬ nI 10 = 8 by decide), if_neg (show ¬ nI 10 = 9 by decide), if_pos (show nI 10 = 10 from rfl)]
theorem s72_10 (a : Int32) (x y : Int64) (σ : MS) : SM_floating_72 (nI 10) a x y σ = (SM_byQuotient a x y σ ∧ True) := by
  unfold SM_floating_72
  rw [if_neg (show ¬ nI 10 = 6 by decide), if_neg (show ¬ nI 10 = 7 by decide), if_neg (show ¬ nI 10 = 8 by decide), if_neg (show ¬ nI 10 = 9 by decide), if_pos (show nI 10 = 10 from rfl)]
theorem cal_10 (k : Nat) (x y : Int64) : fFloating_calculated (nI 10) k x y = (fFloating_quotient k x y) := by
  unfold fFloating_calculated
  rw [if_neg (show ¬ nI 10 = 2 by decide), if_neg (show ¬ nI 10 = 3 by decide), if_neg (show ¬ nI 10 = 4 by decide), if_neg (show ¬ nI 10 = 5 by decide), if_neg (show ¬ nI 10 = 6 by decide), if_neg (show ¬ nI 10 = 7 by decide), if_neg (show ¬ nI 10 = 8 by decide), if_neg (show ¬ nI 10 = 9 by decide), if_pos (show nI 10 = 10 from rfl)]
theorem f72_11 (a : Int32) (x y : Int64) (σ : MS) : fM_floating_72 (nI 11) a x y σ = (if (fM_isLess a y x) = 0 then (x, σ) else (y, σ)) := by
  unfold fM_floating_72
  rw [if_neg (show ¬ nI 11 = 6 by decide), if_neg (show ¬ nI 11 = 7 by decide), if_neg (show ¬ nI 11 = 8 by decide), if_neg (show ¬ nI 11 = 9 by decide), if_neg (show ¬ nI 11 = 10 by decide), if_pos (show nI 11 = 11 from rfl)]
theorem s72_11 (a : Int32) (x y : Int64) (σ : MS) : SM_floating_72 (nI 11) a x y σ = True := by
  unfold SM_floating_72
  rw [if_neg (show ¬ nI 11 = 6 by decide), if_neg (show ¬ nI 11 = 7 by decide), if_neg (show ¬ nI 11 = 8 by decide), if_neg (show ¬ nI 11 = 9 by decide), if_neg (show ¬ nI 11 = 10 by decide), if_pos (show nI 11 = 11 from rfl)]
theorem cal_11 (k : Nat) (x y : Int64) : fFloating_calculated (nI 11) k x y = (if (fFloating_orderWithZeros k y) < (fFloating_orderWithZeros k x) then y else x) := by
  unfold fFloating_calculated
  rw [if_neg (show ¬ nI 11 = 2 by decide), if_neg (show ¬ nI 11 = 3 by decide), if_neg (show ¬ nI 11 = 4 by decide), if_neg (show ¬ nI 11 = 5 by decide), if_neg (show ¬ nI 11 = 6 by decide), if_neg (show ¬ nI 11 = 7 by decide), if_neg (show ¬ nI 11 = 8 by decide), if_neg (show ¬ nI 11 = 9 by decide), if_neg (show ¬ nI 11 = 10 by decide), if_pos (show nI 11 = 11 from rfl)]
theorem f72_12 (a : Int32) (x y : Int64) (σ : MS) : fM_floating_72 (nI 12) a x y σ = (if (fM_isLess a x y) = 0 then (x, σ) else (y, σ)) := by
  unfold fM_floating_72
  rw [if_neg (show ¬ nI 12 = 6 by decide), if_neg (show ¬ nI 12 = 7 by decide), if_neg (show ¬ nI 12 = 8 by decide), if_neg (show ¬ nI 12 = 9 by decide), if_neg (show ¬ nI 12 = 10 by decide), if_neg (show ¬ nI 12 = 11 by decide), if_pos (show nI 12 = 12 from rfl)]
theorem s72_12 (a : Int32) (x y : Int64) (σ : MS) : SM_floating_72 (nI 12) a x y σ = True := by
  unfold SM_floating_72
  rw [if_neg (show ¬ nI 12 = 6 by decide), if_neg (show ¬ nI 12 = 7 by decide), if_neg (show ¬ nI 12 = 8 by decide), if_neg (show ¬ nI 12 = 9 by decide), if_neg (show ¬ nI 12 = 10 by decide), if_neg (show ¬ nI 12 = 11 by decide), if_pos (show nI 12 = 12 from rfl)]
theorem cal_12 (k : Nat) (x y : Int64) : fFloating_calculated (nI 12) k x y = (if (fFloating_orderWithZeros k x) < (fFloating_orderWithZeros k y) then y else x) := by
  unfold fFloating_calculated
  rw [if_neg (show ¬ nI 12 = 2 by decide), if_neg (show ¬ nI 12 = 3 by decide), if_neg (show ¬ nI 12 = 4 by decide), if_neg (show ¬ nI 12 = 5 by decide), if_neg (show ¬ nI 12 = 6 by decide), if_neg (show ¬ nI 12 = 7 by decide), if_neg (show ¬ nI 12 = 8 by decide), if_neg (show ¬ nI 12 = 9 by decide), if_neg (show ¬ nI 12 = 10 by decide), if_neg (show ¬ nI 12 = 11 by decide), if_pos (show nI 12 = 12 from rfl)]
theorem flo_0 (a : Int32) (k : Nat) (x y : Int64) (σ : MS) : SM_floating (nI 0) a x y σ ∧ fM_floating (nI 0) a x y σ = (fM_rest a x, σ) ∧ fFloating_result (nI 0) k x y = fFormat_magnitude k x := by
  unfold SM_floating fM_floating fFloating_result
  rw [if_pos (show nI 0 = 0 from rfl), if_pos (show nI 0 = 0 from rfl), if_pos (show nI 0 = 0 from rfl)]
  exact ⟨trivial, rfl, rfl⟩
theorem flo_1 (a : Int32) (k : Nat) (x y : Int64) (σ : MS) : SM_floating (nI 1) a x y σ ∧ fM_floating (nI 1) a x y σ = (x ^^^ fM_signOf a, σ) ∧ fFloating_result (nI 1) k x y = x ^^^ fm_signBit k := by
  unfold SM_floating fM_floating fFloating_result
  rw [if_neg (show ¬ nI 1 = 0 by decide), if_neg (show ¬ nI 1 = 0 by decide), if_neg (show ¬ nI 1 = 0 by decide), if_pos (show nI 1 = 1 from rfl), if_pos (show nI 1 = 1 from rfl), if_pos (show nI 1 = 1 from rfl)]
  exact ⟨trivial, rfl, rfl⟩
theorem flo_13 (a : Int32) (k : Nat) (x y : Int64) (σ : MS) : SM_floating (nI 13) a x y σ ∧ fM_floating (nI 13) a x y σ = (fM_signed a (fM_isMinus a y) (fM_rest a x), σ) ∧ fFloating_result (nI 13) k x y = fFormat_signed k (fFormat_isNegative k y) (fFormat_magnitude k x) := by
  unfold SM_floating fM_floating fFloating_result
  rw [if_neg (show ¬ nI 13 = 0 by decide), if_neg (show ¬ nI 13 = 0 by decide), if_neg (show ¬ nI 13 = 0 by decide), if_neg (show ¬ nI 13 = 1 by decide), if_neg (show ¬ nI 13 = 1 by decide), if_neg (show ¬ nI 13 = 1 by decide), if_pos (show nI 13 = 13 from rfl), if_pos (show nI 13 = 13 from rfl), if_pos (show nI 13 = 13 from rfl)]
  exact ⟨trivial, rfl, rfl⟩
theorem m_floating (c : Nat) (hc : c < 14) (k : Nat) (x y : Int64) (hx : bn_ok k x) (hy : bn_ok k y) (h1 : c ≤ 6 → y = x) (σ : MS) : SM_floating (nI c) (tt k) x y σ ∧ (fM_floating (nI c) (tt k) x y σ).1 = fFloating_result (nI c) k x y ∧ kt σ (fM_floating (nI c) (tt k) x y σ).2 := by
  have hrest : fM_rest (tt k) x = fFormat_magnitude k x := bn_u_inj (by rw [m_rest, bn_magnitude k x hx])
  rcases (show c = 0 ∨ c = 1 ∨ c = 13 ∨ (2 ≤ c ∧ c ≤ 12) by omega) with rfl | rfl | rfl | hcc
  · obtain ⟨g1, g2, g3⟩ := flo_0 (tt k) k x y σ
    rw [g2, g3]
    exact ⟨g1, hrest, kt_refl σ⟩
  · obtain ⟨g1, g2, g3⟩ := flo_1 (tt k) k x y σ
    rw [g2, g3, m_signOf]
    exact ⟨g1, rfl, kt_refl σ⟩
  · obtain ⟨g1, g2, g3⟩ := flo_13 (tt k) k x y σ
    rw [g2, g3, m_signed, m_isMinus, hrest]
    exact ⟨g1, rfl, kt_refl σ⟩
  · have d0 : ¬ nI c = 0 := nI_ne0 (by omega) (by omega)
    have d1 : ¬ nI c = 1 := fun w => absurd ((nI_eq (b := 1) (by omega) (by decide)).mp w) (by omega)
    have d13 : ¬ nI c = 13 := fun w => absurd ((nI_eq (b := 13) (by omega) (by decide)).mp w) (by omega)
    have d6 : (nI c ≤ 6) ↔ c ≤ 6 := nI_leI (b := 6) (by omega) (by decide)
    have h72 : (c ≤ 6 ∨ fFormat_isNone k y = 0) → SM_floating_72 (nI c) (tt k) x y σ ∧ (fM_floating_72 (nI c) (tt k) x y σ).1 = fFloating_calculated (nI c) k x y ∧ kt σ (fM_floating_72 (nI c) (tt k) x y σ).2 := by
      intro _
      rcases (show (c = 2 ∨ c = 3 ∨ c = 4 ∨ c = 5) ∨ c = 6 ∨ c = 7 ∨ c = 8 ∨ c = 9 ∨ c = 10 ∨ c = 11 ∨ c = 12 by omega) with h | rfl | rfl | rfl | rfl | rfl | rfl | rfl
      · have e := m_towards c h k x hx σ
        rcases h with rfl | rfl | rfl | rfl
        · rw [s72_2, f72_2, cal_2]; exact ⟨⟨e.1, trivial⟩, e.2.1, e.2.2⟩
        · rw [s72_3, f72_3, cal_3]; exact ⟨⟨e.1, trivial⟩, e.2.1, e.2.2⟩
        · rw [s72_4, f72_4, cal_4]; exact ⟨⟨e.1, trivial⟩, e.2.1, e.2.2⟩
        · rw [s72_5, f72_5, cal_5]; exact ⟨⟨e.1, trivial⟩, e.2.1, e.2.2⟩
      · have e := m_root k x hx σ
        rw [s72_6, f72_6, cal_6]
        exact ⟨⟨e.1, trivial⟩, e.2.1, e.2.2⟩
      · have e := m_sum k x y hx hy σ
        rw [s72_7, f72_7, cal_7]
        exact ⟨⟨e.1, trivial⟩, e.2.1, e.2.2⟩
      · have e := m_sum k x (y ^^^ fm_signBit k) hx (ok_xor hy) σ
        rw [s72_8, f72_8, cal_8, m_signOf]
        exact ⟨⟨e.1, trivial⟩, e.2.1, e.2.2⟩
      · have e := m_product k x y hx hy σ
        rw [s72_9, f72_9, cal_9]
        exact ⟨⟨e.1, trivial⟩, e.2.1, e.2.2⟩
      · have e := m_quotient k x y hx hy σ
        rw [s72_10, f72_10, cal_10]
        exact ⟨⟨e.1, trivial⟩, e.2.1, e.2.2⟩
      · have e := less_owz k y x hy hx
        rw [s72_11, f72_11, cal_11]
        by_cases w : fM_isLess (tt k) y x = 0
        · rw [if_pos w, if_neg (e.mp w)]; exact ⟨trivial, rfl, kt_refl σ⟩
        · rw [if_neg w, if_pos (Decidable.byContradiction (fun z => w (e.mpr z)))]; exact ⟨trivial, rfl, kt_refl σ⟩
      · have e := less_owz k x y hx hy
        rw [s72_12, f72_12, cal_12]
        by_cases w : fM_isLess (tt k) x y = 0
        · rw [if_pos w, if_neg (e.mp w)]; exact ⟨trivial, rfl, kt_refl σ⟩
        · rw [if_neg w, if_pos (Decidable.byContradiction (fun z => w (e.mpr z)))]; exact ⟨trivial, rfl, kt_refl σ⟩
    unfold SM_floating fM_floating fFloating_result SM_floating_67 fM_floating_67 fFloating_result_82
    rw [if_neg d0, if_neg d0, if_neg d0, if_neg d1, if_neg d1, if_neg d1, if_neg d13, if_neg d13, if_neg d13, m_isNone k x hx, m_isNone k y hy, m_theNone]
    by_cases n1 : fFormat_isNone k x = 0
    · rw [if_pos n1, if_pos n1, if_pos n1]
      by_cases c6 : c ≤ 6
      · rw [if_pos (d6.mpr c6), if_pos (d6.mpr c6)]
        have n2 : fFormat_isNone k y = 0 := by rw [h1 c6]; exact n1
        rw [if_pos n2]
        exact h72 (Or.inl c6)
      · rw [if_neg (fun w => c6 (d6.mp w)), if_neg (fun w => c6 (d6.mp w))]
        by_cases n2 : fFormat_isNone k y = 0
        · rw [if_pos n2, if_pos n2, if_pos n2]
          exact h72 (Or.inr n2)
        · rw [if_neg n2, if_neg n2, if_neg n2]
          exact ⟨trivial, rfl, kt_refl σ⟩
    · rw [if_neg n1, if_neg n1, if_neg n1]
      exact ⟨trivial, rfl, kt_refl σ⟩
