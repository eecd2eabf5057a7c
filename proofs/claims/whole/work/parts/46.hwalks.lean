def fM_roundedRow_11 (s0 : Int32) (s1 : Int32) (s2 : Int32) (σ : MS) : Int64 × MS :=
  ((fM_rounded s2 s1 s0 σ).1, (fM_rounded s2 s1 s0 σ).2)
def SM_roundedRow_11 (s0 : Int32) (s1 : Int32) (s2 : Int32) (σ : MS) : Prop :=
  True
def fM_roundedRow_4 (a1 : Int32) (a2 : Int32) (σ : MS) : Int64 × MS :=
  (fM_roundedRow_11 ((fM_highestOfRow σ).1) a2 a1 ((fM_highestOfRow σ).2))
def SM_roundedRow_4 (a1 : Int32) (a2 : Int32) (σ : MS) : Prop :=
  ((vp_in (ms_held σ - 1) 320) ∧ ((ms_row σ (ms_held σ - 1).toNatClampNeg).toInt64 ≠ 0) ∧ (SM_roundedRow_11 ((fM_highestOfRow σ).1) a2 a1 ((fM_highestOfRow σ).2)))
def fM_roundedRow (a1 : Int32) (a2 : Int32) (σ : MS) : Int64 × MS :=
  (fM_roundedRow_4 a1 a2 (fM_measure σ))
def SM_roundedRow (a1 : Int32) (a2 : Int32) (σ : MS) : Prop :=
  (SM_roundedRow_4 a1 a2 (fM_measure σ))
def fM_valueOf_23 (a1 : Int32) (a2 : Int32) (a5 : Int32) (σ : MS) : Int64 × MS :=
  ((fM_roundedRow a1 a2 (ms_set_base σ (a5 - 64))).1, (fM_roundedRow a1 a2 (ms_set_base σ (a5 - 64))).2)
def SM_valueOf_23 (a1 : Int32) (a2 : Int32) (a5 : Int32) (σ : MS) : Prop :=
  ((SM_roundedRow a1 a2 (ms_set_base σ (a5 - 64))) ∧ True)
def fM_valueOf (a1 : Int32) (a2 : Int32) (a3 : Int64) (a5 : Int32) (σ : MS) : Int64 × MS :=
  (if a3 = 0 then (fM_signed a1 a2 0, σ) else (fM_valueOf_23 a1 a2 a5 (fM_set_row a3 64 σ)))
def SM_valueOf (a1 : Int32) (a2 : Int32) (a3 : Int64) (a5 : Int32) (σ : MS) : Prop :=
  (if a3 = 0 then True else (SM_valueOf_23 a1 a2 a5 (fM_set_row a3 64 σ)))
def fM_sum_239 (s0 : Int32) (s1 : Int32) (σ : MS) : Int64 × MS :=
  ((fM_roundedRow s1 s0 σ).1, (fM_roundedRow s1 s0 σ).2)
def SM_sum_239 (s0 : Int32) (s1 : Int32) (σ : MS) : Prop :=
  ((SM_roundedRow s1 s0 σ) ∧ True)
def fM_sum_232 (a6 : Int32) (s0 : Int32) (σ : MS) : Int64 × MS :=
  (fM_sum_239 a6 s0 σ)
def SM_sum_232 (a6 : Int32) (s0 : Int32) (σ : MS) : Prop :=
  (SM_sum_239 a6 s0 σ)
def fM_sum_218 (a1 : Int32) (a6 : Int32) (a7 : Int32) (a11 : Int32) (σ : MS) : Int64 × MS :=
  (if a6 = a7 then (fM_sum_232 a6 a1 σ) else (if a11 ≤ 0 then (fM_sum_239 a7 a1 σ) else (fM_sum_232 a6 a1 σ)))
def SM_sum_218 (a1 : Int32) (a6 : Int32) (a7 : Int32) (a11 : Int32) (σ : MS) : Prop :=
  (if a6 = a7 then (SM_sum_232 a6 a1 σ) else (if a11 ≤ 0 then (SM_sum_239 a7 a1 σ) else (SM_sum_232 a6 a1 σ)))
def fM_sum_215 (a1 : Int32) (a6 : Int32) (a7 : Int32) (a11 : Int32) (s0 : Int32) (σ : MS) : Int64 × MS :=
  (fM_sum_218 a1 a6 a7 a11 (fM_subtractRows s0 σ))
def SM_sum_215 (a1 : Int32) (a6 : Int32) (a7 : Int32) (a11 : Int32) (s0 : Int32) (σ : MS) : Prop :=
  (SM_sum_218 a1 a6 a7 a11 (fM_subtractRows s0 σ))
def fM_sum_194 (a1 : Int32) (a6 : Int32) (a7 : Int32) (a11 : Int32) (σ : MS) : Int64 × MS :=
  (fM_sum_218 a1 a6 a7 a11 σ)
def SM_sum_194 (a1 : Int32) (a6 : Int32) (a7 : Int32) (a11 : Int32) (σ : MS) : Prop :=
  (SM_sum_218 a1 a6 a7 a11 σ)
def fM_sum_183 (a1 : Int32) (a6 : Int32) (a7 : Int32) (a11 : Int32) (σ : MS) : Int64 × MS :=
  (if a6 = a7 then (fM_sum_194 a1 a6 a7 a11 (fM_addRows σ)) else (if a11 = 0 then (0, σ) else (if 0 ≤ a11 then (fM_sum_215 a1 a6 a7 a11 0 σ) else (fM_sum_215 a1 a6 a7 a11 1 σ))))
def SM_sum_183 (a1 : Int32) (a6 : Int32) (a7 : Int32) (a11 : Int32) (σ : MS) : Prop :=
  (if a6 = a7 then (SM_sum_194 a1 a6 a7 a11 (fM_addRows σ)) else (if a11 = 0 then True else (if 0 ≤ a11 then (SM_sum_215 a1 a6 a7 a11 0 σ) else (SM_sum_215 a1 a6 a7 a11 1 σ))))
def fM_sum_181 (a1 : Int32) (a6 : Int32) (a7 : Int32) (s0 : Int32) (σ : MS) : Int64 × MS :=
  (fM_sum_183 a1 a6 a7 s0 σ)
def SM_sum_181 (a1 : Int32) (a6 : Int32) (a7 : Int32) (s0 : Int32) (σ : MS) : Prop :=
  (SM_sum_183 a1 a6 a7 s0 σ)
def fM_sum_177 (a1 : Int32) (a6 : Int32) (a7 : Int32) (σ : MS) : Int64 × MS :=
  (fM_sum_181 a1 a6 a7 ((fM_compareRows σ).1) ((fM_compareRows σ).2))
def SM_sum_177 (a1 : Int32) (a6 : Int32) (a7 : Int32) (σ : MS) : Prop :=
  (SM_sum_181 a1 a6 a7 ((fM_compareRows σ).1) ((fM_compareRows σ).2))
def fM_sum_157 (a1 : Int32) (a4 : Int64) (a6 : Int32) (a7 : Int32) (a9 : Int32) (σ : MS) : Int64 × MS :=
  (fM_sum_177 a1 a6 a7 (fM_set_other (fM_significand a1 a4) (a9 - (ms_base σ)) σ))
def SM_sum_157 (a1 : Int32) (a4 : Int64) (a6 : Int32) (a7 : Int32) (a9 : Int32) (σ : MS) : Prop :=
  (SM_sum_177 a1 a6 a7 (fM_set_other (fM_significand a1 a4) (a9 - (ms_base σ)) σ))
def fM_sum_127 (a1 : Int32) (a2 : Int64) (a4 : Int64) (a6 : Int32) (a7 : Int32) (a8 : Int32) (a9 : Int32) (s0 : Int32) (σ : MS) : Int64 × MS :=
  (fM_sum_157 a1 a4 a6 a7 a9 (fM_set_row (fM_significand a1 a2) (a8 - (ms_base (ms_set_base σ (s0 - 64)))) (ms_set_base σ (s0 - 64))))
def SM_sum_127 (a1 : Int32) (a2 : Int64) (a4 : Int64) (a6 : Int32) (a7 : Int32) (a8 : Int32) (a9 : Int32) (s0 : Int32) (σ : MS) : Prop :=
  (SM_sum_157 a1 a4 a6 a7 a9 (fM_set_row (fM_significand a1 a2) (a8 - (ms_base (ms_set_base σ (s0 - 64)))) (ms_set_base σ (s0 - 64))))
def fM_sum_113 (a1 : Int32) (a2 : Int64) (a4 : Int64) (a6 : Int32) (a7 : Int32) (a8 : Int32) (a9 : Int32) (σ : MS) : Int64 × MS :=
  (if a9 ≤ a8 then (fM_sum_127 a1 a2 a4 a6 a7 a8 a9 a9 σ) else (fM_sum_127 a1 a2 a4 a6 a7 a8 a9 a8 σ))
def SM_sum_113 (a1 : Int32) (a2 : Int64) (a4 : Int64) (a6 : Int32) (a7 : Int32) (a8 : Int32) (a9 : Int32) (σ : MS) : Prop :=
  (if a9 ≤ a8 then (SM_sum_127 a1 a2 a4 a6 a7 a8 a9 a9 σ) else (SM_sum_127 a1 a2 a4 a6 a7 a8 a9 a8 σ))
def fM_sum_105 (a1 : Int32) (a2 : Int64) (a4 : Int64) (a6 : Int32) (a7 : Int32) (a8 : Int32) (σ : MS) : Int64 × MS :=
  (fM_sum_113 a1 a2 a4 a6 a7 a8 (fM_scaleOf a1 a4) σ)
def SM_sum_105 (a1 : Int32) (a2 : Int64) (a4 : Int64) (a6 : Int32) (a7 : Int32) (a8 : Int32) (σ : MS) : Prop :=
  (SM_sum_113 a1 a2 a4 a6 a7 a8 (fM_scaleOf a1 a4) σ)
def fM_sum_98 (a1 : Int32) (a2 : Int64) (a4 : Int64) (a6 : Int32) (a7 : Int32) (σ : MS) : Int64 × MS :=
  (fM_sum_105 a1 a2 a4 a6 a7 (fM_scaleOf a1 a2) σ)
def SM_sum_98 (a1 : Int32) (a2 : Int64) (a4 : Int64) (a6 : Int32) (a7 : Int32) (σ : MS) : Prop :=
  (SM_sum_105 a1 a2 a4 a6 a7 (fM_scaleOf a1 a2) σ)
def fM_sum_93 (s0 : Int32) (s1 : Int32) (σ : MS) : Int64 × MS :=
  (fM_signed s1 s0 0, σ)
def SM_sum_93 (s0 : Int32) (s1 : Int32) (σ : MS) : Prop :=
  True
def fM_sum_92 (s0 : Int32) (σ : MS) : Int64 × MS :=
  (fM_sum_93 0 s0 σ)
def SM_sum_92 (s0 : Int32) (σ : MS) : Prop :=
  (SM_sum_93 0 s0 σ)
def fM_sum_46 (a2 : Int64) (σ : MS) : Int64 × MS :=
  (a2, σ)
def SM_sum_46 (a2 : Int64) (σ : MS) : Prop :=
  True
def fM_sum_15 (a1 : Int32) (a2 : Int64) (a4 : Int64) (a6 : Int32) (a7 : Int32) (σ : MS) : Int64 × MS :=
  (if (fM_isInfinite a1 a2) = 0 then (if (fM_isInfinite a1 a4) = 0 then (if (fM_isZero a1 a2) = 0 then (fM_sum_98 a1 a2 a4 a6 a7 σ) else (if (fM_isZero a1 a4) = 0 then (fM_sum_98 a1 a2 a4 a6 a7 σ) else (if a6 = 0 then (fM_sum_92 a1 σ) else (if a7 = 0 then (fM_sum_92 a1 σ) else (fM_sum_93 1 a1 σ))))) else (a4, σ)) else (if (fM_isInfinite a1 a4) = 0 then (fM_sum_46 a2 σ) else (if a6 = a7 then (fM_sum_46 a2 σ) else (fM_theNone a1, σ))))
def SM_sum_15 (a1 : Int32) (a2 : Int64) (a4 : Int64) (a6 : Int32) (a7 : Int32) (σ : MS) : Prop :=
  (if (fM_isInfinite a1 a2) = 0 then (if (fM_isInfinite a1 a4) = 0 then (if (fM_isZero a1 a2) = 0 then (SM_sum_98 a1 a2 a4 a6 a7 σ) else (if (fM_isZero a1 a4) = 0 then (SM_sum_98 a1 a2 a4 a6 a7 σ) else (if a6 = 0 then (SM_sum_92 a1 σ) else (if a7 = 0 then (SM_sum_92 a1 σ) else (SM_sum_93 1 a1 σ))))) else True) else (if (fM_isInfinite a1 a4) = 0 then (SM_sum_46 a2 σ) else (if a6 = a7 then (SM_sum_46 a2 σ) else True)))
def fM_sum_7 (a1 : Int32) (a2 : Int64) (a4 : Int64) (a6 : Int32) (σ : MS) : Int64 × MS :=
  (fM_sum_15 a1 a2 a4 a6 (fM_isMinus a1 a4) σ)
def SM_sum_7 (a1 : Int32) (a2 : Int64) (a4 : Int64) (a6 : Int32) (σ : MS) : Prop :=
  (SM_sum_15 a1 a2 a4 a6 (fM_isMinus a1 a4) σ)
def fM_sum (a1 : Int32) (a2 : Int64) (a4 : Int64) (σ : MS) : Int64 × MS :=
  (fM_sum_7 a1 a2 a4 (fM_isMinus a1 a2) σ)
def SM_sum (a1 : Int32) (a2 : Int64) (a4 : Int64) (σ : MS) : Prop :=
  (SM_sum_7 a1 a2 a4 (fM_isMinus a1 a2) σ)
def fM_product_120 : Nat → Int32 → Int64 → Int64 → Int32 → Int32 → MS → Int64 × MS
  | 0, _, _, _, _, _, σ => (0, σ)
  | n + 1, a1, a2, a4, a6, a8, σ =>
    (if 16 ≤ a8 then ((fM_roundedRow a1 a6 (ms_set_base σ (((fM_scaleOf a1 a2) + (fM_scaleOf a1 a4)) - 64))).1, (fM_roundedRow a1 a6 (ms_set_base σ (((fM_scaleOf a1 a2) + (fM_scaleOf a1 a4)) - 64))).2) else (fM_product_120 n a1 a2 a4 a6 (a8 + 1) (ms_set_row σ (upd (ms_row σ) (a8 + 4).toNatClampNeg (ms_factor σ a8.toNatClampNeg)))))
def SM_product_120 : Nat → Int32 → Int64 → Int64 → Int32 → Int32 → MS → Prop
  | 0, _, _, _, _, _, _ => True
  | n + 1, a1, a2, a4, a6, a8, σ =>
    (if 16 ≤ a8 then ((SM_roundedRow a1 a6 (ms_set_base σ (((fM_scaleOf a1 a2) + (fM_scaleOf a1 a4)) - 64))) ∧ True) else (SM_product_120 n a1 a2 a4 a6 (a8 + 1) (ms_set_row σ (upd (ms_row σ) (a8 + 4).toNatClampNeg (ms_factor σ a8.toNatClampNeg)))))
def fM_product_117 (a1 : Int32) (a2 : Int64) (a4 : Int64) (a6 : Int32) (σ : MS) : Int64 × MS :=
  (fM_product_120 17 a1 a2 a4 a6 0 σ)
def SM_product_117 (a1 : Int32) (a2 : Int64) (a4 : Int64) (a6 : Int32) (σ : MS) : Prop :=
  (SM_product_120 17 a1 a2 a4 a6 0 σ)
def fM_product_113 (a1 : Int32) (a2 : Int64) (a4 : Int64) (a6 : Int32) (σ : MS) : Int64 × MS :=
  (fM_product_117 a1 a2 a4 a6 (fM_clearRows σ))
def SM_product_113 (a1 : Int32) (a2 : Int64) (a4 : Int64) (a6 : Int32) (σ : MS) : Prop :=
  (SM_product_117 a1 a2 a4 a6 (fM_clearRows σ))
def fM_product_62 (a1 : Int32) (a6 : Int32) (a7 : Int32) (σ : MS) : Int64 × MS :=
  (if a7 = 0 then (fM_signed a1 a6 (fM_infinite a1), σ) else (fM_theNone a1, σ))
def SM_product_62 (a1 : Int32) (a6 : Int32) (a7 : Int32) (σ : MS) : Prop :=
  True
def fM_product_43 (a1 : Int32) (a2 : Int64) (a4 : Int64) (a6 : Int32) (s0 : Int32) (σ : MS) : Int64 × MS :=
  (if (fM_isInfinite a1 a2) = 0 then (if (fM_isInfinite a1 a4) = 0 then (if s0 = 0 then (fM_product_113 a1 a2 a4 a6 (fM_multiply (fM_significand a1 a2) (fM_significand a1 a4) σ)) else (fM_signed a1 a6 0, σ)) else (fM_product_62 a1 a6 s0 σ)) else (fM_product_62 a1 a6 s0 σ))
def SM_product_43 (a1 : Int32) (a2 : Int64) (a4 : Int64) (a6 : Int32) (s0 : Int32) (σ : MS) : Prop :=
  (if (fM_isInfinite a1 a2) = 0 then (if (fM_isInfinite a1 a4) = 0 then (if s0 = 0 then (SM_product_113 a1 a2 a4 a6 (fM_multiply (fM_significand a1 a2) (fM_significand a1 a4) σ)) else True) else (SM_product_62 a1 a6 s0 σ)) else (SM_product_62 a1 a6 s0 σ))
def fM_product_38 (a1 : Int32) (a2 : Int64) (a4 : Int64) (a6 : Int32) (σ : MS) : Int64 × MS :=
  (fM_product_43 a1 a2 a4 a6 1 σ)
def SM_product_38 (a1 : Int32) (a2 : Int64) (a4 : Int64) (a6 : Int32) (σ : MS) : Prop :=
  (SM_product_43 a1 a2 a4 a6 1 σ)
def fM_product_19 (a1 : Int32) (a2 : Int64) (a4 : Int64) (s0 : Int32) (σ : MS) : Int64 × MS :=
  (if (fM_isZero a1 a2) = 0 then (if (fM_isZero a1 a4) = 0 then (fM_product_43 a1 a2 a4 s0 0 σ) else (fM_product_38 a1 a2 a4 s0 σ)) else (fM_product_38 a1 a2 a4 s0 σ))
def SM_product_19 (a1 : Int32) (a2 : Int64) (a4 : Int64) (s0 : Int32) (σ : MS) : Prop :=
  (if (fM_isZero a1 a2) = 0 then (if (fM_isZero a1 a4) = 0 then (SM_product_43 a1 a2 a4 s0 0 σ) else (SM_product_38 a1 a2 a4 s0 σ)) else (SM_product_38 a1 a2 a4 s0 σ))
def fM_product (a1 : Int32) (a2 : Int64) (a4 : Int64) (σ : MS) : Int64 × MS :=
  (if (fM_isMinus a1 a2) = (fM_isMinus a1 a4) then (fM_product_19 a1 a2 a4 0 σ) else (fM_product_19 a1 a2 a4 1 σ))
def SM_product (a1 : Int32) (a2 : Int64) (a4 : Int64) (σ : MS) : Prop :=
  (if (fM_isMinus a1 a2) = (fM_isMinus a1 a4) then (SM_product_19 a1 a2 a4 0 σ) else (SM_product_19 a1 a2 a4 1 σ))
def fM_byQuotient_117 (a1 : Int32) (a6 : Int32) (σ : MS) : Int64 × MS :=
  (fM_signed a1 a6 0, σ)
def SM_byQuotient_117 (a1 : Int32) (a6 : Int32) (σ : MS) : Prop :=
  True
def fM_byQuotient_89 (a1 : Int32) (a6 : Int32) (σ : MS) : Int64 × MS :=
  (fM_signed a1 a6 (fM_infinite a1), σ)
def SM_byQuotient_89 (a1 : Int32) (a6 : Int32) (σ : MS) : Prop :=
  True
def fM_byQuotient_60 (a1 : Int32) (a2 : Int64) (a4 : Int64) (a6 : Int32) (s0 : Int32) (σ : MS) : Int64 × MS :=
  (if s0 = 0 then (if (fM_isInfinite a1 a2) = 0 then (if (fM_isZero a1 a4) = 0 then (if (fM_isZero a1 a2) = 0 then (if (fM_isInfinite a1 a4) = 0 then ((fM_rounded a1 a6 (((fM_highest (ms_dividend (ms_set_scale (ms_set_divisor (ms_set_dividend (ms_set_mode σ 1) (fM_significand a1 a2)) (fM_significand a1 a4)) ((fM_scaleOf a1 a2) - (fM_scaleOf a1 a4))))) - (fM_highest (ms_divisor (ms_set_scale (ms_set_divisor (ms_set_dividend (ms_set_mode σ 1) (fM_significand a1 a2)) (fM_significand a1 a4)) ((fM_scaleOf a1 a2) - (fM_scaleOf a1 a4)))))) + (ms_scale (ms_set_scale (ms_set_divisor (ms_set_dividend (ms_set_mode σ 1) (fM_significand a1 a2)) (fM_significand a1 a4)) ((fM_scaleOf a1 a2) - (fM_scaleOf a1 a4))))) (ms_set_scale (ms_set_divisor (ms_set_dividend (ms_set_mode σ 1) (fM_significand a1 a2)) (fM_significand a1 a4)) ((fM_scaleOf a1 a2) - (fM_scaleOf a1 a4)))).1, (fM_rounded a1 a6 (((fM_highest (ms_dividend (ms_set_scale (ms_set_divisor (ms_set_dividend (ms_set_mode σ 1) (fM_significand a1 a2)) (fM_significand a1 a4)) ((fM_scaleOf a1 a2) - (fM_scaleOf a1 a4))))) - (fM_highest (ms_divisor (ms_set_scale (ms_set_divisor (ms_set_dividend (ms_set_mode σ 1) (fM_significand a1 a2)) (fM_significand a1 a4)) ((fM_scaleOf a1 a2) - (fM_scaleOf a1 a4)))))) + (ms_scale (ms_set_scale (ms_set_divisor (ms_set_dividend (ms_set_mode σ 1) (fM_significand a1 a2)) (fM_significand a1 a4)) ((fM_scaleOf a1 a2) - (fM_scaleOf a1 a4))))) (ms_set_scale (ms_set_divisor (ms_set_dividend (ms_set_mode σ 1) (fM_significand a1 a2)) (fM_significand a1 a4)) ((fM_scaleOf a1 a2) - (fM_scaleOf a1 a4)))).2) else (fM_byQuotient_117 a1 a6 σ)) else (fM_byQuotient_117 a1 a6 σ)) else (fM_byQuotient_89 a1 a6 σ)) else (fM_byQuotient_89 a1 a6 σ)) else (fM_theNone a1, σ))
def SM_byQuotient_60 (a1 : Int32) (a2 : Int64) (a4 : Int64) (a6 : Int32) (s0 : Int32) (σ : MS) : Prop :=
  (if s0 = 0 then (if (fM_isInfinite a1 a2) = 0 then (if (fM_isZero a1 a4) = 0 then (if (fM_isZero a1 a2) = 0 then (if (fM_isInfinite a1 a4) = 0 then (((ms_dividend (ms_set_scale (ms_set_divisor (ms_set_dividend (ms_set_mode σ 1) (fM_significand a1 a2)) (fM_significand a1 a4)) ((fM_scaleOf a1 a2) - (fM_scaleOf a1 a4)))) ≠ 0) ∧ (((ms_divisor (ms_set_scale (ms_set_divisor (ms_set_dividend (ms_set_mode σ 1) (fM_significand a1 a2)) (fM_significand a1 a4)) ((fM_scaleOf a1 a2) - (fM_scaleOf a1 a4)))) ≠ 0) ∧ True)) else (SM_byQuotient_117 a1 a6 σ)) else (SM_byQuotient_117 a1 a6 σ)) else (SM_byQuotient_89 a1 a6 σ)) else (SM_byQuotient_89 a1 a6 σ)) else True)
def fM_byQuotient_59 (a1 : Int32) (a2 : Int64) (a4 : Int64) (a6 : Int32) (σ : MS) : Int64 × MS :=
  (fM_byQuotient_60 a1 a2 a4 a6 0 σ)
def SM_byQuotient_59 (a1 : Int32) (a2 : Int64) (a4 : Int64) (a6 : Int32) (σ : MS) : Prop :=
  (SM_byQuotient_60 a1 a2 a4 a6 0 σ)
def fM_byQuotient_55 (a1 : Int32) (a2 : Int64) (a4 : Int64) (a6 : Int32) (σ : MS) : Int64 × MS :=
  (fM_byQuotient_60 a1 a2 a4 a6 1 σ)
def SM_byQuotient_55 (a1 : Int32) (a2 : Int64) (a4 : Int64) (a6 : Int32) (σ : MS) : Prop :=
  (SM_byQuotient_60 a1 a2 a4 a6 1 σ)
def fM_byQuotient_38 (a1 : Int32) (a2 : Int64) (a4 : Int64) (a6 : Int32) (σ : MS) : Int64 × MS :=
  (if (fM_isZero a1 a2) = 0 then (fM_byQuotient_59 a1 a2 a4 a6 σ) else (if (fM_isZero a1 a4) = 0 then (fM_byQuotient_59 a1 a2 a4 a6 σ) else (fM_byQuotient_55 a1 a2 a4 a6 σ)))
def SM_byQuotient_38 (a1 : Int32) (a2 : Int64) (a4 : Int64) (a6 : Int32) (σ : MS) : Prop :=
  (if (fM_isZero a1 a2) = 0 then (SM_byQuotient_59 a1 a2 a4 a6 σ) else (if (fM_isZero a1 a4) = 0 then (SM_byQuotient_59 a1 a2 a4 a6 σ) else (SM_byQuotient_55 a1 a2 a4 a6 σ)))
def fM_byQuotient_19 (a1 : Int32) (a2 : Int64) (a4 : Int64) (s0 : Int32) (σ : MS) : Int64 × MS :=
  (if (fM_isInfinite a1 a2) = 0 then (fM_byQuotient_38 a1 a2 a4 s0 σ) else (if (fM_isInfinite a1 a4) = 0 then (fM_byQuotient_38 a1 a2 a4 s0 σ) else (fM_byQuotient_55 a1 a2 a4 s0 σ)))
def SM_byQuotient_19 (a1 : Int32) (a2 : Int64) (a4 : Int64) (s0 : Int32) (σ : MS) : Prop :=
  (if (fM_isInfinite a1 a2) = 0 then (SM_byQuotient_38 a1 a2 a4 s0 σ) else (if (fM_isInfinite a1 a4) = 0 then (SM_byQuotient_38 a1 a2 a4 s0 σ) else (SM_byQuotient_55 a1 a2 a4 s0 σ)))
def fM_byQuotient (a1 : Int32) (a2 : Int64) (a4 : Int64) (σ : MS) : Int64 × MS :=
  (if (fM_isMinus a1 a2) = (fM_isMinus a1 a4) then (fM_byQuotient_19 a1 a2 a4 0 σ) else (fM_byQuotient_19 a1 a2 a4 1 σ))
def SM_byQuotient (a1 : Int32) (a2 : Int64) (a4 : Int64) (σ : MS) : Prop :=
  (if (fM_isMinus a1 a2) = (fM_isMinus a1 a4) then (SM_byQuotient_19 a1 a2 a4 0 σ) else (SM_byQuotient_19 a1 a2 a4 1 σ))
def fM_root_92 (s0 : Int32) (s1 : Int32) (s2 : Int32) (σ : MS) : Int64 × MS :=
  ((fM_rounded s2 s1 s0 σ).1, (fM_rounded s2 s1 s0 σ).2)
def SM_root_92 (s0 : Int32) (s1 : Int32) (s2 : Int32) (σ : MS) : Prop :=
  True
def fM_root_70 (a1 : Int32) (a4 : Int32) (σ : MS) : Int64 × MS :=
  (if a4 < 0 then (fM_root_92 (-((1 - a4) / 2)) 0 a1 σ) else (fM_root_92 (a4 / 2) 0 a1 σ))
def SM_root_70 (a1 : Int32) (a4 : Int32) (σ : MS) : Prop :=
  (if a4 < 0 then (SM_root_92 (-((1 - a4) / 2)) 0 a1 σ) else (SM_root_92 (a4 / 2) 0 a1 σ))
def fM_root (a1 : Int32) (a2 : Int64) (σ : MS) : Int64 × MS :=
  (if (fM_isZero a1 a2) = 0 then (if (fM_isMinus a1 a2) = 0 then (if (fM_isInfinite a1 a2) = 0 then (fM_root_70 a1 ((fM_highest (ms_dividend (ms_set_scale (ms_set_dividend (ms_set_mode σ 2) (fM_significand a1 a2)) (fM_scaleOf a1 a2)))) + (ms_scale (ms_set_scale (ms_set_dividend (ms_set_mode σ 2) (fM_significand a1 a2)) (fM_scaleOf a1 a2)))) (ms_set_scale (ms_set_dividend (ms_set_mode σ 2) (fM_significand a1 a2)) (fM_scaleOf a1 a2))) else (a2, σ)) else (fM_theNone a1, σ)) else (a2, σ))
def SM_root (a1 : Int32) (a2 : Int64) (σ : MS) : Prop :=
  (if (fM_isZero a1 a2) = 0 then (if (fM_isMinus a1 a2) = 0 then (if (fM_isInfinite a1 a2) = 0 then (((ms_dividend (ms_set_scale (ms_set_dividend (ms_set_mode σ 2) (fM_significand a1 a2)) (fM_scaleOf a1 a2))) ≠ 0) ∧ (SM_root_70 a1 ((fM_highest (ms_dividend (ms_set_scale (ms_set_dividend (ms_set_mode σ 2) (fM_significand a1 a2)) (fM_scaleOf a1 a2)))) + (ms_scale (ms_set_scale (ms_set_dividend (ms_set_mode σ 2) (fM_significand a1 a2)) (fM_scaleOf a1 a2)))) (ms_set_scale (ms_set_dividend (ms_set_mode σ 2) (fM_significand a1 a2)) (fM_scaleOf a1 a2)))) else True) else True) else True)
def fM_towards_213 (s0 : Int64) (s1 : Int32) (s2 : Int32) (σ : MS) : Int64 × MS :=
  ((fM_valueOf s2 s1 s0 0 σ).1, (fM_valueOf s2 s1 s0 0 σ).2)
def SM_towards_213 (s0 : Int64) (s1 : Int32) (s2 : Int32) (σ : MS) : Prop :=
  ((SM_valueOf s2 s1 s0 0 σ) ∧ True)
def fM_towards_193 (a2 : Int32) (a5 : Int32) (a9 : Int64) (s0 : Int32) (σ : MS) : Int64 × MS :=
  (if s0 = 0 then (fM_towards_213 a9 a5 a2 σ) else (fM_towards_213 (a9 + 1) a5 a2 σ))
def SM_towards_193 (a2 : Int32) (a5 : Int32) (a9 : Int64) (s0 : Int32) (σ : MS) : Prop :=
  (if s0 = 0 then (SM_towards_213 a9 a5 a2 σ) else (SM_towards_213 (a9 + 1) a5 a2 σ))
def fM_towards_192 (a2 : Int32) (a5 : Int32) (a9 : Int64) (σ : MS) : Int64 × MS :=
  (fM_towards_193 a2 a5 a9 0 σ)
def SM_towards_192 (a2 : Int32) (a5 : Int32) (a9 : Int64) (σ : MS) : Prop :=
  (SM_towards_193 a2 a5 a9 0 σ)
def fM_towards_188 (a2 : Int32) (a5 : Int32) (a9 : Int64) (σ : MS) : Int64 × MS :=
  (fM_towards_193 a2 a5 a9 1 σ)
def SM_towards_188 (a2 : Int32) (a5 : Int32) (a9 : Int64) (σ : MS) : Prop :=
  (SM_towards_193 a2 a5 a9 1 σ)
def fM_towards_154 (a2 : Int32) (a5 : Int32) (a9 : Int64) (σ : MS) : Int64 × MS :=
  (fM_towards_193 a2 a5 a9 0 σ)
def SM_towards_154 (a2 : Int32) (a5 : Int32) (a9 : Int64) (σ : MS) : Prop :=
  (SM_towards_193 a2 a5 a9 0 σ)
def fM_towards_129 (a2 : Int32) (a5 : Int32) (a9 : Int64) (σ : MS) : Int64 × MS :=
  (fM_towards_193 a2 a5 a9 0 σ)
def SM_towards_129 (a2 : Int32) (a5 : Int32) (a9 : Int64) (σ : MS) : Prop :=
  (SM_towards_193 a2 a5 a9 0 σ)
def fM_towards_108 (a1 : Int32) (a2 : Int32) (a5 : Int32) (a9 : Int64) (a11 : Int64) (a13 : Int64) (σ : MS) : Int64 × MS :=
  (if a1 = 2 then (if a5 = 0 then (if a11 ≤ 0 then (fM_towards_129 a2 a5 a9 σ) else (fM_towards_193 a2 a5 a9 1 σ)) else (fM_towards_129 a2 a5 a9 σ)) else (if a1 = 3 then (if a5 = 0 then (fM_towards_154 a2 a5 a9 σ) else (if a11 ≤ 0 then (fM_towards_154 a2 a5 a9 σ) else (fM_towards_193 a2 a5 a9 1 σ))) else (if a1 = 5 then (if a13 < a11 then (fM_towards_188 a2 a5 a9 σ) else (if a11 = a13 then (if (a9 &&& 1) = 1 then (fM_towards_188 a2 a5 a9 σ) else (fM_towards_192 a2 a5 a9 σ)) else (fM_towards_192 a2 a5 a9 σ))) else (fM_towards_192 a2 a5 a9 σ))))
def SM_towards_108 (a1 : Int32) (a2 : Int32) (a5 : Int32) (a9 : Int64) (a11 : Int64) (a13 : Int64) (σ : MS) : Prop :=
  (if a1 = 2 then (if a5 = 0 then (if a11 ≤ 0 then (SM_towards_129 a2 a5 a9 σ) else (SM_towards_193 a2 a5 a9 1 σ)) else (SM_towards_129 a2 a5 a9 σ)) else (if a1 = 3 then (if a5 = 0 then (SM_towards_154 a2 a5 a9 σ) else (if a11 ≤ 0 then (SM_towards_154 a2 a5 a9 σ) else (SM_towards_193 a2 a5 a9 1 σ))) else (if a1 = 5 then (if a13 < a11 then (SM_towards_188 a2 a5 a9 σ) else (if a11 = a13 then (if (a9 &&& 1) = 1 then (SM_towards_188 a2 a5 a9 σ) else (SM_towards_192 a2 a5 a9 σ)) else (SM_towards_192 a2 a5 a9 σ))) else (SM_towards_192 a2 a5 a9 σ))))
def fM_towards_106 (a1 : Int32) (a2 : Int32) (a5 : Int32) (a9 : Int64) (a11 : Int64) (s0 : Int64) (σ : MS) : Int64 × MS :=
  (fM_towards_108 a1 a2 a5 a9 a11 s0 σ)
def SM_towards_106 (a1 : Int32) (a2 : Int32) (a5 : Int32) (a9 : Int64) (a11 : Int64) (s0 : Int64) (σ : MS) : Prop :=
  (SM_towards_108 a1 a2 a5 a9 a11 s0 σ)
def fM_towards_87 (a1 : Int32) (a2 : Int32) (a5 : Int32) (a8 : Int32) (a9 : Int64) (a11 : Int64) (σ : MS) : Int64 × MS :=
  (if a8 ≤ 60 then (fM_towards_106 a1 a2 a5 a9 a11 (bn_shl 1 (a8 - 1)) σ) else (fM_towards_106 a1 a2 a5 a9 a11 2 σ))
def SM_towards_87 (a1 : Int32) (a2 : Int32) (a5 : Int32) (a8 : Int32) (a9 : Int64) (a11 : Int64) (σ : MS) : Prop :=
  (if a8 ≤ 60 then (SM_towards_106 a1 a2 a5 a9 a11 (bn_shl 1 (a8 - 1)) σ) else (SM_towards_106 a1 a2 a5 a9 a11 2 σ))
def fM_towards_85 (a1 : Int32) (a2 : Int32) (a5 : Int32) (a8 : Int32) (a9 : Int64) (s0 : Int64) (σ : MS) : Int64 × MS :=
  (fM_towards_87 a1 a2 a5 a8 a9 s0 σ)
def SM_towards_85 (a1 : Int32) (a2 : Int32) (a5 : Int32) (a8 : Int32) (a9 : Int64) (s0 : Int64) (σ : MS) : Prop :=
  (SM_towards_87 a1 a2 a5 a8 a9 s0 σ)
def fM_towards_66 (a1 : Int32) (a2 : Int32) (a5 : Int32) (a6 : Int64) (a8 : Int32) (a9 : Int64) (σ : MS) : Int64 × MS :=
  (if a8 ≤ 60 then (fM_towards_85 a1 a2 a5 a8 a9 (a6 - (bn_shl a9 a8)) σ) else (fM_towards_85 a1 a2 a5 a8 a9 1 σ))
def SM_towards_66 (a1 : Int32) (a2 : Int32) (a5 : Int32) (a6 : Int64) (a8 : Int32) (a9 : Int64) (σ : MS) : Prop :=
  (if a8 ≤ 60 then (SM_towards_85 a1 a2 a5 a8 a9 (a6 - (bn_shl a9 a8)) σ) else (SM_towards_85 a1 a2 a5 a8 a9 1 σ))
def fM_towards_64 (a1 : Int32) (a2 : Int32) (a5 : Int32) (a6 : Int64) (a8 : Int32) (s0 : Int64) (σ : MS) : Int64 × MS :=
  (fM_towards_66 a1 a2 a5 a6 a8 s0 σ)
def SM_towards_64 (a1 : Int32) (a2 : Int32) (a5 : Int32) (a6 : Int64) (a8 : Int32) (s0 : Int64) (σ : MS) : Prop :=
  (SM_towards_66 a1 a2 a5 a6 a8 s0 σ)
def fM_towards_48 (a1 : Int32) (a2 : Int32) (a5 : Int32) (a6 : Int64) (a8 : Int32) (σ : MS) : Int64 × MS :=
  (if a8 ≤ 60 then (fM_towards_64 a1 a2 a5 a6 a8 (bn_sar a6 a8) σ) else (fM_towards_64 a1 a2 a5 a6 a8 0 σ))
def SM_towards_48 (a1 : Int32) (a2 : Int32) (a5 : Int32) (a6 : Int64) (a8 : Int32) (σ : MS) : Prop :=
  (if a8 ≤ 60 then (SM_towards_64 a1 a2 a5 a6 a8 (bn_sar a6 a8) σ) else (SM_towards_64 a1 a2 a5 a6 a8 0 σ))
def fM_towards_40 (a1 : Int32) (a2 : Int32) (a3 : Int64) (a5 : Int32) (a6 : Int64) (σ : MS) : Int64 × MS :=
  (fM_towards_48 a1 a2 a5 a6 (-(fM_scaleOf a2 a3)) σ)
def SM_towards_40 (a1 : Int32) (a2 : Int32) (a3 : Int64) (a5 : Int32) (a6 : Int64) (σ : MS) : Prop :=
  (SM_towards_48 a1 a2 a5 a6 (-(fM_scaleOf a2 a3)) σ)
def fM_towards_33 (a1 : Int32) (a2 : Int32) (a3 : Int64) (a5 : Int32) (σ : MS) : Int64 × MS :=
  (fM_towards_40 a1 a2 a3 a5 (fM_significand a2 a3) σ)
def SM_towards_33 (a1 : Int32) (a2 : Int32) (a3 : Int64) (a5 : Int32) (σ : MS) : Prop :=
  (SM_towards_40 a1 a2 a3 a5 (fM_significand a2 a3) σ)
def fM_towards_24 (a3 : Int64) (σ : MS) : Int64 × MS :=
  (a3, σ)
def SM_towards_24 (a3 : Int64) (σ : MS) : Prop :=
  True
def fM_towards (a1 : Int32) (a2 : Int32) (a3 : Int64) (σ : MS) : Int64 × MS :=
  (if (fM_isInfinite a2 a3) = 0 then (if (fM_isZero a2 a3) = 0 then (if (fM_scaleOf a2 a3) < 0 then (fM_towards_33 a1 a2 a3 (fM_isMinus a2 a3) σ) else (fM_towards_24 a3 σ)) else (fM_towards_24 a3 σ)) else (fM_towards_24 a3 σ))
def SM_towards (a1 : Int32) (a2 : Int32) (a3 : Int64) (σ : MS) : Prop :=
  (if (fM_isInfinite a2 a3) = 0 then (if (fM_isZero a2 a3) = 0 then (if (fM_scaleOf a2 a3) < 0 then (SM_towards_33 a1 a2 a3 (fM_isMinus a2 a3) σ) else (SM_towards_24 a3 σ)) else (SM_towards_24 a3 σ)) else (SM_towards_24 a3 σ))
def fM_floating_72 (a1 : Int32) (a2 : Int32) (a3 : Int64) (a5 : Int64) (σ : MS) : Int64 × MS :=
  (if a1 = 6 then ((fM_root a2 a3 σ).1, (fM_root a2 a3 σ).2) else (if a1 = 7 then ((fM_sum a2 a3 a5 σ).1, (fM_sum a2 a3 a5 σ).2) else (if a1 = 8 then ((fM_sum a2 a3 (a5 ^^^ (fM_signOf a2)) σ).1, (fM_sum a2 a3 (a5 ^^^ (fM_signOf a2)) σ).2) else (if a1 = 9 then ((fM_product a2 a3 a5 σ).1, (fM_product a2 a3 a5 σ).2) else (if a1 = 10 then ((fM_byQuotient a2 a3 a5 σ).1, (fM_byQuotient a2 a3 a5 σ).2) else (if a1 = 11 then (if (fM_isLess a2 a5 a3) = 0 then (a3, σ) else (a5, σ)) else (if a1 = 12 then (if (fM_isLess a2 a3 a5) = 0 then (a3, σ) else (a5, σ)) else ((fM_towards a1 a2 a3 σ).1, (fM_towards a1 a2 a3 σ).2))))))))
def SM_floating_72 (a1 : Int32) (a2 : Int32) (a3 : Int64) (a5 : Int64) (σ : MS) : Prop :=
  (if a1 = 6 then ((SM_root a2 a3 σ) ∧ True) else (if a1 = 7 then ((SM_sum a2 a3 a5 σ) ∧ True) else (if a1 = 8 then ((SM_sum a2 a3 (a5 ^^^ (fM_signOf a2)) σ) ∧ True) else (if a1 = 9 then ((SM_product a2 a3 a5 σ) ∧ True) else (if a1 = 10 then ((SM_byQuotient a2 a3 a5 σ) ∧ True) else (if a1 = 11 then True else (if a1 = 12 then True else ((SM_towards a1 a2 a3 σ) ∧ True))))))))
def fM_floating_67 (a2 : Int32) (σ : MS) : Int64 × MS :=
  (fM_theNone a2, σ)
def SM_floating_67 (a2 : Int32) (σ : MS) : Prop :=
  True
def fM_floating (a1 : Int32) (a2 : Int32) (a3 : Int64) (a5 : Int64) (σ : MS) : Int64 × MS :=
  (if a1 = 0 then (fM_rest a2 a3, σ) else (if a1 = 1 then (a3 ^^^ (fM_signOf a2), σ) else (if a1 = 13 then (fM_signed a2 (fM_isMinus a2 a5) (fM_rest a2 a3), σ) else (if (fM_isNone a2 a3) = 0 then (if a1 ≤ 6 then (fM_floating_72 a1 a2 a3 a5 σ) else (if (fM_isNone a2 a5) = 0 then (fM_floating_72 a1 a2 a3 a5 σ) else (fM_floating_67 a2 σ))) else (fM_floating_67 a2 σ)))))
def SM_floating (a1 : Int32) (a2 : Int32) (a3 : Int64) (a5 : Int64) (σ : MS) : Prop :=
  (if a1 = 0 then True else (if a1 = 1 then True else (if a1 = 13 then True else (if (fM_isNone a2 a3) = 0 then (if a1 ≤ 6 then (SM_floating_72 a1 a2 a3 a5 σ) else (if (fM_isNone a2 a5) = 0 then (SM_floating_72 a1 a2 a3 a5 σ) else (SM_floating_67 a2 σ))) else (SM_floating_67 a2 σ)))))
def fM_toWhole_220 (a4 : Int32) (a7 : Int32) (a13 : Int64) (a18 : Int64) (s0 : Int64) (σ : MS) : Int64 × MS :=
  (if (fM_isBelow s0 a18) = 0 then (if a7 = 0 then (a18, σ) else (-a18, σ)) else ((fM_bound a4 2 a13 σ).1, (fM_bound a4 2 a13 σ).2))
def SM_toWhole_220 (a4 : Int32) (a7 : Int32) (a13 : Int64) (a18 : Int64) (s0 : Int64) (σ : MS) : Prop :=
  True
def fM_toWhole_196 (a3 : Int32) (a4 : Int32) (a7 : Int32) (a8 : Int32) (a9 : Int64) (a13 : Int64) (a18 : Int64) (σ : MS) : Int64 × MS :=
  (if a7 = 0 then (fM_toWhole_220 a4 a7 a13 a18 a9 σ) else (if a3 = 0 then (fM_toWhole_220 a4 a7 a13 a18 0 σ) else (fM_toWhole_220 a4 a7 a13 a18 (bn_shl 1 (a8 - 1)) σ)))
def SM_toWhole_196 (a3 : Int32) (a4 : Int32) (a7 : Int32) (a8 : Int32) (a9 : Int64) (a13 : Int64) (a18 : Int64) (σ : MS) : Prop :=
  (if a7 = 0 then (SM_toWhole_220 a4 a7 a13 a18 a9 σ) else (if a3 = 0 then (SM_toWhole_220 a4 a7 a13 a18 0 σ) else (SM_toWhole_220 a4 a7 a13 a18 (bn_shl 1 (a8 - 1)) σ)))
def fM_toWhole_194 (a3 : Int32) (a4 : Int32) (a7 : Int32) (a8 : Int32) (a9 : Int64) (a13 : Int64) (s0 : Int64) (σ : MS) : Int64 × MS :=
  (fM_toWhole_196 a3 a4 a7 a8 a9 a13 s0 σ)
def SM_toWhole_194 (a3 : Int32) (a4 : Int32) (a7 : Int32) (a8 : Int32) (a9 : Int64) (a13 : Int64) (s0 : Int64) (σ : MS) : Prop :=
  (SM_toWhole_196 a3 a4 a7 a8 a9 a13 s0 σ)
def fM_toWhole_132 (a3 : Int32) (a4 : Int32) (a7 : Int32) (a8 : Int32) (a9 : Int64) (a13 : Int64) (a15 : Int64) (a17 : Int32) (σ : MS) : Int64 × MS :=
  (if a15 = 0 then (0, σ) else (if ((fM_highest a15) + a17) ≤ 63 then (if a17 < 0 then (if (-63) ≤ a17 then (fM_toWhole_194 a3 a4 a7 a8 a9 a13 (bn_shr a15 (-a17)) σ) else (fM_toWhole_194 a3 a4 a7 a8 a9 a13 0 σ)) else (fM_toWhole_194 a3 a4 a7 a8 a9 a13 (bn_shl a15 a17) σ)) else ((fM_bound a4 2 a13 σ).1, (fM_bound a4 2 a13 σ).2)))
def SM_toWhole_132 (a3 : Int32) (a4 : Int32) (a7 : Int32) (a8 : Int32) (a9 : Int64) (a13 : Int64) (a15 : Int64) (a17 : Int32) (σ : MS) : Prop :=
  (if a15 = 0 then True else ((a15 ≠ 0) ∧ (if ((fM_highest a15) + a17) ≤ 63 then (if a17 < 0 then (if (-63) ≤ a17 then (SM_toWhole_194 a3 a4 a7 a8 a9 a13 (bn_shr a15 (-a17)) σ) else (SM_toWhole_194 a3 a4 a7 a8 a9 a13 0 σ)) else (SM_toWhole_194 a3 a4 a7 a8 a9 a13 (bn_shl a15 a17) σ)) else True)))
def fM_toWhole_124 (a1 : Int32) (a3 : Int32) (a4 : Int32) (a5 : Int64) (a7 : Int32) (a8 : Int32) (a9 : Int64) (a13 : Int64) (a15 : Int64) (σ : MS) : Int64 × MS :=
  (fM_toWhole_132 a3 a4 a7 a8 a9 a13 a15 (fM_scaleOf a1 a5) σ)
def SM_toWhole_124 (a1 : Int32) (a3 : Int32) (a4 : Int32) (a5 : Int64) (a7 : Int32) (a8 : Int32) (a9 : Int64) (a13 : Int64) (a15 : Int64) (σ : MS) : Prop :=
  (SM_toWhole_132 a3 a4 a7 a8 a9 a13 a15 (fM_scaleOf a1 a5) σ)
def fM_toWhole_95 (a1 : Int32) (a3 : Int32) (a4 : Int32) (a5 : Int64) (a7 : Int32) (a8 : Int32) (a9 : Int64) (s0 : Int64) (σ : MS) : Int64 × MS :=
  (if (fM_isInfinite a1 a5) = 0 then (fM_toWhole_124 a1 a3 a4 a5 a7 a8 a9 s0 (fM_significand a1 a5) σ) else ((fM_bound a4 2 s0 σ).1, (fM_bound a4 2 s0 σ).2))
def SM_toWhole_95 (a1 : Int32) (a3 : Int32) (a4 : Int32) (a5 : Int64) (a7 : Int32) (a8 : Int32) (a9 : Int64) (s0 : Int64) (σ : MS) : Prop :=
  (if (fM_isInfinite a1 a5) = 0 then (SM_toWhole_124 a1 a3 a4 a5 a7 a8 a9 s0 (fM_significand a1 a5) σ) else True)
def fM_toWhole_81 (a1 : Int32) (a3 : Int32) (a4 : Int32) (a5 : Int64) (a7 : Int32) (a8 : Int32) (a9 : Int64) (s0 : Int64) (σ : MS) : Int64 × MS :=
  (if a7 = 0 then (fM_toWhole_95 a1 a3 a4 a5 a7 a8 a9 a9 σ) else (fM_toWhole_95 a1 a3 a4 a5 a7 a8 a9 s0 σ))
def SM_toWhole_81 (a1 : Int32) (a3 : Int32) (a4 : Int32) (a5 : Int64) (a7 : Int32) (a8 : Int32) (a9 : Int64) (s0 : Int64) (σ : MS) : Prop :=
  (if a7 = 0 then (SM_toWhole_95 a1 a3 a4 a5 a7 a8 a9 a9 σ) else (SM_toWhole_95 a1 a3 a4 a5 a7 a8 a9 s0 σ))
def fM_toWhole_63 (a1 : Int32) (a3 : Int32) (a4 : Int32) (a5 : Int64) (a7 : Int32) (a8 : Int32) (s0 : Int64) (σ : MS) : Int64 × MS :=
  (if a3 = 0 then (fM_toWhole_81 a1 a3 a4 a5 a7 a8 s0 0 σ) else (fM_toWhole_81 a1 a3 a4 a5 a7 a8 s0 (bn_shl (-1) (a8 - 1)) σ))
def SM_toWhole_63 (a1 : Int32) (a3 : Int32) (a4 : Int32) (a5 : Int64) (a7 : Int32) (a8 : Int32) (s0 : Int64) (σ : MS) : Prop :=
  (if a3 = 0 then (SM_toWhole_81 a1 a3 a4 a5 a7 a8 s0 0 σ) else (SM_toWhole_81 a1 a3 a4 a5 a7 a8 s0 (bn_shl (-1) (a8 - 1)) σ))
def fM_toWhole_14 (a1 : Int32) (a3 : Int32) (a4 : Int32) (a5 : Int64) (a7 : Int32) (a8 : Int32) (σ : MS) : Int64 × MS :=
  (if (fM_isNone a1 a5) = 0 then (if a3 = 0 then (if a8 = 32 then (fM_toWhole_63 a1 a3 a4 a5 a7 a8 4294967295 σ) else (fM_toWhole_63 a1 a3 a4 a5 a7 a8 (-1) σ)) else (fM_toWhole_63 a1 a3 a4 a5 a7 a8 ((bn_shl 1 (a8 - 1)) - 1) σ)) else ((fM_bound a4 3 0 σ).1, (fM_bound a4 3 0 σ).2))
def SM_toWhole_14 (a1 : Int32) (a3 : Int32) (a4 : Int32) (a5 : Int64) (a7 : Int32) (a8 : Int32) (σ : MS) : Prop :=
  (if (fM_isNone a1 a5) = 0 then (if a3 = 0 then (if a8 = 32 then (SM_toWhole_63 a1 a3 a4 a5 a7 a8 4294967295 σ) else (SM_toWhole_63 a1 a3 a4 a5 a7 a8 (-1) σ)) else (SM_toWhole_63 a1 a3 a4 a5 a7 a8 ((bn_shl 1 (a8 - 1)) - 1) σ)) else True)
def fM_toWhole_8 (a1 : Int32) (a2 : Int32) (a3 : Int32) (a4 : Int32) (a5 : Int64) (a7 : Int32) (σ : MS) : Int64 × MS :=
  (fM_toWhole_14 a1 a3 a4 a5 a7 (fM_width a2) σ)
def SM_toWhole_8 (a1 : Int32) (a2 : Int32) (a3 : Int32) (a4 : Int32) (a5 : Int64) (a7 : Int32) (σ : MS) : Prop :=
  (SM_toWhole_14 a1 a3 a4 a5 a7 (fM_width a2) σ)
def fM_toWhole (a1 : Int32) (a2 : Int32) (a3 : Int32) (a4 : Int32) (a5 : Int64) (σ : MS) : Int64 × MS :=
  (fM_toWhole_8 a1 a2 a3 a4 a5 (fM_isMinus a1 a5) σ)
def SM_toWhole (a1 : Int32) (a2 : Int32) (a3 : Int32) (a4 : Int32) (a5 : Int64) (σ : MS) : Prop :=
  (SM_toWhole_8 a1 a2 a3 a4 a5 (fM_isMinus a1 a5) σ)
def fM_fromWhole_52 (s0 : Int64) (s1 : Int32) (s2 : Int32) (σ : MS) : Int64 × MS :=
  ((fM_valueOf s2 s1 s0 0 σ).1, (fM_valueOf s2 s1 s0 0 σ).2)
def SM_fromWhole_52 (s0 : Int64) (s1 : Int32) (s2 : Int32) (σ : MS) : Prop :=
  ((SM_valueOf s2 s1 s0 0 σ) ∧ True)
def fM_fromWhole_24 (a2 : Int32) (a3 : Int32) (a4 : Int64) (a6 : Int64) (s0 : Int32) (σ : MS) : Int64 × MS :=
  (if s0 = 0 then (if a3 = 0 then (fM_fromWhole_52 a4 s0 a2 σ) else (fM_fromWhole_52 a6 s0 a2 σ)) else (fM_fromWhole_52 (-a6) s0 a2 σ))
def SM_fromWhole_24 (a2 : Int32) (a3 : Int32) (a4 : Int64) (a6 : Int64) (s0 : Int32) (σ : MS) : Prop :=
  (if s0 = 0 then (if a3 = 0 then (SM_fromWhole_52 a4 s0 a2 σ) else (SM_fromWhole_52 a6 s0 a2 σ)) else (SM_fromWhole_52 (-a6) s0 a2 σ))
def fM_fromWhole_23 (a2 : Int32) (a3 : Int32) (a4 : Int64) (a6 : Int64) (σ : MS) : Int64 × MS :=
  (fM_fromWhole_24 a2 a3 a4 a6 0 σ)
def SM_fromWhole_23 (a2 : Int32) (a3 : Int32) (a4 : Int64) (a6 : Int64) (σ : MS) : Prop :=
  (SM_fromWhole_24 a2 a3 a4 a6 0 σ)
def fM_fromWhole_8 (a2 : Int32) (a3 : Int32) (a4 : Int64) (a6 : Int64) (σ : MS) : Int64 × MS :=
  (if a3 = 0 then (fM_fromWhole_23 a2 a3 a4 a6 σ) else (if 0 ≤ a6 then (fM_fromWhole_23 a2 a3 a4 a6 σ) else (fM_fromWhole_24 a2 a3 a4 a6 1 σ)))
def SM_fromWhole_8 (a2 : Int32) (a3 : Int32) (a4 : Int64) (a6 : Int64) (σ : MS) : Prop :=
  (if a3 = 0 then (SM_fromWhole_23 a2 a3 a4 a6 σ) else (if 0 ≤ a6 then (SM_fromWhole_23 a2 a3 a4 a6 σ) else (SM_fromWhole_24 a2 a3 a4 a6 1 σ)))
def fM_fromWhole (a1 : Int32) (a2 : Int32) (a3 : Int32) (a4 : Int64) (σ : MS) : Int64 × MS :=
  (fM_fromWhole_8 a2 a3 a4 (fM_withSign a1 a4) σ)
def SM_fromWhole (a1 : Int32) (a2 : Int32) (a3 : Int32) (a4 : Int64) (σ : MS) : Prop :=
  (SM_fromWhole_8 a2 a3 a4 (fM_withSign a1 a4) σ)
def fM_between_20 (a1 : Int32) (a2 : Int32) (a3 : Int64) (a5 : Int32) (σ : MS) : Int64 × MS :=
  (if (fM_isInfinite a1 a3) = 0 then ((fM_valueOf a2 a5 (fM_significand a1 a3) (fM_scaleOf a1 a3) σ).1, (fM_valueOf a2 a5 (fM_significand a1 a3) (fM_scaleOf a1 a3) σ).2) else (fM_signed a2 a5 (fM_infinite a2), σ))
def SM_between_20 (a1 : Int32) (a2 : Int32) (a3 : Int64) (a5 : Int32) (σ : MS) : Prop :=
  (if (fM_isInfinite a1 a3) = 0 then ((SM_valueOf a2 a5 (fM_significand a1 a3) (fM_scaleOf a1 a3) σ) ∧ True) else True)
def fM_between (a1 : Int32) (a2 : Int32) (a3 : Int64) (σ : MS) : Int64 × MS :=
  (if (fM_isNone a1 a3) = 0 then (fM_between_20 a1 a2 a3 (fM_isMinus a1 a3) σ) else (fM_theNone a2, σ))
def SM_between (a1 : Int32) (a2 : Int32) (a3 : Int64) (σ : MS) : Prop :=
  (if (fM_isNone a1 a3) = 0 then (SM_between_20 a1 a2 a3 (fM_isMinus a1 a3) σ) else True)
def fM_convert_246 (a2 : Int64) (s0 : Int32) (σ : MS) : Int64 × MS :=
  (bn_sar (bn_shl a2 s0) s0, σ)
def SM_convert_246 (a2 : Int64) (s0 : Int32) (σ : MS) : Prop :=
  True
def fM_convert_239 (a2 : Int64) (σ : MS) : Int64 × MS :=
  (fM_convert_246 a2 48 σ)
def SM_convert_239 (a2 : Int64) (σ : MS) : Prop :=
  (SM_convert_246 a2 48 σ)
def fM_convert_220 (a2 : Int64) (σ : MS) : Int64 × MS :=
  (fM_convert_246 a2 56 σ)
def SM_convert_220 (a2 : Int64) (σ : MS) : Prop :=
  (SM_convert_246 a2 56 σ)
def fM_convert_206 (a1 : Int32) (a2 : Int64) (σ : MS) : Int64 × MS :=
  (if a1 = 192 then (fM_convert_220 a2 σ) else (if a1 = 194 then (fM_convert_220 a2 σ) else (if a1 = 193 then (fM_convert_239 a2 σ) else (if a1 = 195 then (fM_convert_239 a2 σ) else (fM_convert_246 a2 32 σ)))))
def SM_convert_206 (a1 : Int32) (a2 : Int64) (σ : MS) : Prop :=
  (if a1 = 192 then (SM_convert_220 a2 σ) else (if a1 = 194 then (SM_convert_220 a2 σ) else (if a1 = 193 then (SM_convert_239 a2 σ) else (if a1 = 195 then (SM_convert_239 a2 σ) else (SM_convert_246 a2 32 σ)))))
def fM_convert_201 (a2 : Int64) (s0 : Int32) (s1 : Int32) (s2 : Int32) (σ : MS) : Int64 × MS :=
  ((fM_fromWhole s2 s1 s0 a2 σ).1, (fM_fromWhole s2 s1 s0 a2 σ).2)
def SM_convert_201 (a2 : Int64) (s0 : Int32) (s1 : Int32) (s2 : Int32) (σ : MS) : Prop :=
  ((SM_fromWhole s2 s1 s0 a2 σ) ∧ True)
def fM_convert_150 (a2 : Int64) (a4 : Int32) (a5 : Int32) (σ : MS) : Int64 × MS :=
  ((fM_between a4 a5 a2 σ).1, (fM_between a4 a5 a2 σ).2)
def SM_convert_150 (a2 : Int64) (a4 : Int32) (a5 : Int32) (σ : MS) : Prop :=
  ((SM_between a4 a5 a2 σ) ∧ True)
def fM_convert_121 (a2 : Int64) (a6 : Int32) (σ : MS) : Int64 × MS :=
  (if a6 = 0 then (a2, σ) else (fM_withSign 0 a2, σ))
def SM_convert_121 (a2 : Int64) (a6 : Int32) (σ : MS) : Prop :=
  True
def fM_convert_107 (a1 : Int32) (a2 : Int64) (a4 : Int32) (a5 : Int32) (a6 : Int32) (σ : MS) : Int64 × MS :=
  (if a1 = 172 then (fM_convert_121 a2 a6 σ) else (if a1 = 173 then (fM_convert_121 a2 a6 σ) else (if a1 = 182 then (fM_convert_150 a2 a4 a5 σ) else (if a1 = 187 then (fM_convert_150 a2 a4 a5 σ) else (if a1 ≤ 177 then (fM_convert_206 a1 a2 σ) else (if 187 ≤ a1 then (fM_convert_206 a1 a2 σ) else (if 182 ≤ a1 then (if a6 = 0 then (fM_convert_201 a2 1 a5 a4 σ) else (fM_convert_201 a2 0 a5 a4 σ)) else (fM_convert_201 a2 a6 a5 a4 σ))))))))
def SM_convert_107 (a1 : Int32) (a2 : Int64) (a4 : Int32) (a5 : Int32) (a6 : Int32) (σ : MS) : Prop :=
  (if a1 = 172 then (SM_convert_121 a2 a6 σ) else (if a1 = 173 then (SM_convert_121 a2 a6 σ) else (if a1 = 182 then (SM_convert_150 a2 a4 a5 σ) else (if a1 = 187 then (SM_convert_150 a2 a4 a5 σ) else (if a1 ≤ 177 then (SM_convert_206 a1 a2 σ) else (if 187 ≤ a1 then (SM_convert_206 a1 a2 σ) else (if 182 ≤ a1 then (if a6 = 0 then (SM_convert_201 a2 1 a5 a4 σ) else (SM_convert_201 a2 0 a5 a4 σ)) else (SM_convert_201 a2 a6 a5 a4 σ))))))))
def fM_convert_102 (a2 : Int64) (s0 : Int32) (s1 : Int32) (s2 : Int32) (s3 : Int32) (σ : MS) : Int64 × MS :=
  ((fM_toWhole s3 s2 s1 s0 a2 σ).1, (fM_toWhole s3 s2 s1 s0 a2 σ).2)
def SM_convert_102 (a2 : Int64) (s0 : Int32) (s1 : Int32) (s2 : Int32) (s3 : Int32) (σ : MS) : Prop :=
  ((SM_toWhole s3 s2 s1 s0 a2 σ) ∧ True)
def fM_convert_83 (a1 : Int32) (a2 : Int64) (a4 : Int32) (a5 : Int32) (a6 : Int32) (σ : MS) : Int64 × MS :=
  (if a1 ≤ 199 then (fM_convert_102 a2 0 a6 a5 a4 σ) else (fM_convert_102 a2 1 a6 a5 a4 σ))
def SM_convert_83 (a1 : Int32) (a2 : Int64) (a4 : Int32) (a5 : Int32) (a6 : Int32) (σ : MS) : Prop :=
  (if a1 ≤ 199 then (SM_convert_102 a2 0 a6 a5 a4 σ) else (SM_convert_102 a2 1 a6 a5 a4 σ))
def fM_convert_69 (a1 : Int32) (a2 : Int64) (a4 : Int32) (a5 : Int32) (a6 : Int32) (σ : MS) : Int64 × MS :=
  (if a1 ≤ 173 then (fM_convert_107 a1 a2 a4 a5 a6 σ) else (if 178 ≤ a1 then (fM_convert_107 a1 a2 a4 a5 a6 σ) else (fM_convert_83 a1 a2 a4 a5 a6 σ)))
def SM_convert_69 (a1 : Int32) (a2 : Int64) (a4 : Int32) (a5 : Int32) (a6 : Int32) (σ : MS) : Prop :=
  (if a1 ≤ 173 then (SM_convert_107 a1 a2 a4 a5 a6 σ) else (if 178 ≤ a1 then (SM_convert_107 a1 a2 a4 a5 a6 σ) else (SM_convert_83 a1 a2 a4 a5 a6 σ)))
def fM_convert_48 (a1 : Int32) (a2 : Int64) (a4 : Int32) (a5 : Int32) (a6 : Int32) (σ : MS) : Int64 × MS :=
  (if 199 < a1 then (fM_convert_83 a1 a2 a4 a5 a6 σ) else (if a1 ≤ 167 then (fM_convert_69 a1 a2 a4 a5 a6 σ) else (if a1 < 172 then (fM_convert_83 a1 a2 a4 a5 a6 σ) else (fM_convert_69 a1 a2 a4 a5 a6 σ))))
def SM_convert_48 (a1 : Int32) (a2 : Int64) (a4 : Int32) (a5 : Int32) (a6 : Int32) (σ : MS) : Prop :=
  (if 199 < a1 then (SM_convert_83 a1 a2 a4 a5 a6 σ) else (if a1 ≤ 167 then (SM_convert_69 a1 a2 a4 a5 a6 σ) else (if a1 < 172 then (SM_convert_83 a1 a2 a4 a5 a6 σ) else (SM_convert_69 a1 a2 a4 a5 a6 σ))))
def fM_convert_46 (a2 : Int64) (σ : MS) : Int64 × MS :=
  (a2, σ)
def SM_convert_46 (a2 : Int64) (σ : MS) : Prop :=
  True
def fM_convert_23 (a1 : Int32) (a2 : Int64) (a4 : Int32) (a5 : Int32) (s0 : Int32) (σ : MS) : Int64 × MS :=
  (if a1 = 167 then (fM_convert_46 a2 σ) else (if a1 ≤ 187 then (fM_convert_48 a1 a2 a4 a5 s0 σ) else (if 192 ≤ a1 then (fM_convert_48 a1 a2 a4 a5 s0 σ) else (fM_convert_46 a2 σ))))
def SM_convert_23 (a1 : Int32) (a2 : Int64) (a4 : Int32) (a5 : Int32) (s0 : Int32) (σ : MS) : Prop :=
  (if a1 = 167 then (SM_convert_46 a2 σ) else (if a1 ≤ 187 then (SM_convert_48 a1 a2 a4 a5 s0 σ) else (if 192 ≤ a1 then (SM_convert_48 a1 a2 a4 a5 s0 σ) else (SM_convert_46 a2 σ))))
def fM_convert_12 (a1 : Int32) (a2 : Int64) (a4 : Int32) (a5 : Int32) (σ : MS) : Int64 × MS :=
  (if (a1 &&& 1) = 0 then (fM_convert_23 a1 a2 a4 a5 1 σ) else (fM_convert_23 a1 a2 a4 a5 0 σ))
def SM_convert_12 (a1 : Int32) (a2 : Int64) (a4 : Int32) (a5 : Int32) (σ : MS) : Prop :=
  (if (a1 &&& 1) = 0 then (SM_convert_23 a1 a2 a4 a5 1 σ) else (SM_convert_23 a1 a2 a4 a5 0 σ))
def fM_convert_6 (a1 : Int32) (a2 : Int64) (a4 : Int32) (σ : MS) : Int64 × MS :=
  (fM_convert_12 a1 a2 a4 (fM_given a1) σ)
def SM_convert_6 (a1 : Int32) (a2 : Int64) (a4 : Int32) (σ : MS) : Prop :=
  (SM_convert_12 a1 a2 a4 (fM_given a1) σ)
def fM_convert (a1 : Int32) (a2 : Int64) (σ : MS) : Int64 × MS :=
  (fM_convert_6 a1 a2 (fM_taken a1) σ)
def SM_convert (a1 : Int32) (a2 : Int64) (σ : MS) : Prop :=
  (SM_convert_6 a1 a2 (fM_taken a1) σ)
def fM_worked_81 (a2 : Int32) (a3 : Int64) (a5 : Int64) (s0 : Int32) (σ : MS) : Int64 × MS :=
  (fM_compareFloating s0 a2 a3 a5, σ)
def SM_worked_81 (a2 : Int32) (a3 : Int64) (a5 : Int64) (s0 : Int32) (σ : MS) : Prop :=
  True
def fM_worked_50 (a2 : Int32) (a3 : Int64) (a5 : Int64) (s0 : Int32) (σ : MS) : Int64 × MS :=
  (fM_compareWhole s0 a2 a3 a5, σ)
def SM_worked_50 (a2 : Int32) (a3 : Int64) (a5 : Int64) (s0 : Int32) (σ : MS) : Prop :=
  True
def fM_worked_23 (s0 : Int32) (σ : MS) : Int64 × MS :=
  (fM_truth s0, σ)
def SM_worked_23 (s0 : Int32) (σ : MS) : Prop :=
  True
def fM_worked_12 (a3 : Int64) (σ : MS) : Int64 × MS :=
  (if a3 = 0 then (fM_worked_23 1 σ) else (fM_worked_23 0 σ))
def SM_worked_12 (a3 : Int64) (σ : MS) : Prop :=
  (if a3 = 0 then (SM_worked_23 1 σ) else (SM_worked_23 0 σ))
def fM_worked (a1 : Int32) (a2 : Int32) (a3 : Int64) (a5 : Int64) (σ : MS) : Int64 × MS :=
  (if a1 = 69 then (fM_worked_12 a3 σ) else (if a1 = 80 then (fM_worked_12 a3 σ) else (if 91 ≤ a1 then (if 103 ≤ a1 then (if 139 ≤ a1 then (if 167 ≤ a1 then ((fM_convert a1 a3 σ).1, (fM_convert a1 a3 σ).2) else ((fM_floating ((a1 - 139) - (a1 - 139) / 14 * 14) a2 a3 a5 σ).1, (fM_floating ((a1 - 139) - (a1 - 139) / 14 * 14) a2 a3 a5 σ).2)) else ((fM_whole ((a1 - 103) - (a1 - 103) / 18 * 18) a2 a3 a5 σ).1, (fM_whole ((a1 - 103) - (a1 - 103) / 18 * 18) a2 a3 a5 σ).2)) else (if 97 ≤ a1 then (fM_worked_81 a2 a3 a5 (a1 - 97) σ) else (fM_worked_81 a2 a3 a5 (a1 - 91) σ))) else (if 80 ≤ a1 then (fM_worked_50 a2 a3 a5 (a1 - 81) σ) else (fM_worked_50 a2 a3 a5 (a1 - 70) σ)))))
def SM_worked (a1 : Int32) (a2 : Int32) (a3 : Int64) (a5 : Int64) (σ : MS) : Prop :=
  (if a1 = 69 then (SM_worked_12 a3 σ) else (if a1 = 80 then (SM_worked_12 a3 σ) else (if 91 ≤ a1 then (if 103 ≤ a1 then (if 139 ≤ a1 then (if 167 ≤ a1 then ((SM_convert a1 a3 σ) ∧ True) else ((SM_floating ((a1 - 139) - (a1 - 139) / 14 * 14) a2 a3 a5 σ) ∧ True)) else ((fM_withSign a2 a5 ≠ 0 ∨ a5 = 0) ∧ True)) else (if 97 ≤ a1 then (SM_worked_81 a2 a3 a5 (a1 - 97) σ) else (SM_worked_81 a2 a3 a5 (a1 - 91) σ))) else (if 80 ≤ a1 then (SM_worked_50 a2 a3 a5 (a1 - 81) σ) else (SM_worked_50 a2 a3 a5 (a1 - 70) σ)))))
set_option maxHeartbeats 4000000 in
set_option maxRecDepth 100000 in
theorem kM_roundedRow_11 {p : Program} {l : Launch} {e : Env} {s : State} {m : MethodId} {args : Array Value} {below : List Frame} {meth : Method} {c : Code} (C : pw_C p s m args meth c cM_roundedRow 3 (some .long) "BitNumbersModel") {D : va_G} {ad : Nat → Nat} {A : Nat → Prop} (hK : va_K D clM (tyA ad) s) (hA : ∀ q, s.heap.size ≤ q → A q) (s0 : Int32) (s1 : Int32) (s2 : Int32) (σ : MS) (hS : SM_roundedRow_11 s0 s1 s2 σ) {H : Heap} {locs : List Loc} (hM : mw D ad A s.heap H locs σ) {ls : Array Slot} (hl : lv_has ls 3 []) : W p l e rmM_roundedRow s m args below meth c H locs 0 0 (MQ below (va_Ql (fun r u => (r, u) = fM_roundedRow_11 s0 s1 s2 σ) (mw_E D ad A) A) args s 0 0 A) (F0 m 11 ls [.int s0, .int s1, .int s2, .ref (ad 0)]) := by
  obtain ⟨hx, hb, hr, hml, hown, hts, hlocks⟩ := id C
  refine mw_calll (F := fM_rounded s2 s1 s0 σ) (va_runV (As := [.int s2, .int s1, .int s0]) (rest := []) ⟨hx, hb, hml, hown, hts⟩ (qM_rounded l D ad s2 s1 s0 σ H.size) (cwV 3 hts (gV w_675 w_677 w_9 w_34 w_678) rfl rfl rfl (by decide +kernel) ⟨Nat.le_of_ble_eq_true rfl, Nat.le_of_ble_eq_true rfl⟩) (mw_preV hK hM) rfl rfl hl.1 rfl (lv_room (Nat.le_of_ble_eq_true rfl)) dM_roundedRow_11 ⟨Nat.zero_le _, Nat.zero_le _⟩) hM hA (fun H locs hM => ?_)
  exact W.lret (v := (fM_rounded s2 s1 s0 σ).1) hx hb hr (fun t ht hW => ⟨⟨(fM_rounded s2 s1 s0 σ).1, (fM_rounded s2 s1 s0 σ).2, rfl, by rw [(show fM_roundedRow_11 s0 s1 s2 σ = ((fM_rounded s2 s1 s0 σ).1, (fM_rounded s2 s1 s0 σ).2) by rw [fM_roundedRow_11])], by rw [ht]; exact hM.1, va_K.moved hW.alike hK, hM.2.1⟩, hM.2.2.F ht⟩) hM.2.2.2.2 dM_roundedRow_14
set_option maxHeartbeats 4000000 in
set_option maxRecDepth 100000 in
theorem kM_roundedRow_4 {p : Program} {l : Launch} {e : Env} {s : State} {m : MethodId} {args : Array Value} {below : List Frame} {meth : Method} {c : Code} (C : pw_C p s m args meth c cM_roundedRow 3 (some .long) "BitNumbersModel") {D : va_G} {ad : Nat → Nat} {A : Nat → Prop} (hK : va_K D clM (tyA ad) s) (hA : ∀ q, s.heap.size ≤ q → A q) (a1 : Int32) (a2 : Int32) (σ : MS) (hS : SM_roundedRow_4 a1 a2 σ) {H : Heap} {locs : List Loc} (hM : mw D ad A s.heap H locs σ) {ls : Array Slot} (hl : lv_has ls 3 [(0, .ref (ad 0)), (1, .int a1), (2, .int a2)]) : W p l e rmM_roundedRow s m args below meth c H locs 0 0 (MQ below (va_Ql (fun r u => (r, u) = fM_roundedRow_4 a1 a2 σ) (mw_E D ad A) A) args s 0 0 A) (F0 m 4 ls []) := by
  obtain ⟨hx, hb, hr, hml, hown, hts, hlocks⟩ := id C
  refine lv_aload_n hx hb dM_roundedRow_4 rfl (lv_at hl 0 rfl) ?_
  refine lv_iload_n hx hb dM_roundedRow_5 rfl (lv_at hl 1 rfl) ?_
  refine lv_iload_n hx hb dM_roundedRow_6 rfl (lv_at hl 2 rfl) ?_
  refine lv_aload_n hx hb dM_roundedRow_7 rfl (lv_at hl 0 rfl) ?_
  have hS8 : ((vp_in (ms_held σ - 1) 320) ∧ ((ms_row σ (ms_held σ - 1).toNatClampNeg).toInt64 ≠ 0) ∧ (SM_roundedRow_11 ((fM_highestOfRow σ).1) a2 a1 ((fM_highestOfRow σ).2))) := by have w9 := hS; rw [SM_roundedRow_4] at w9; exact w9
  refine mw_calli (F := fM_highestOfRow σ) (va_runV (As := []) (rest := [.int a2, .int a1, .ref (ad 0)]) ⟨hx, hb, hml, hown, hts⟩ (qM_highestOfRow l D ad σ H.size hS8.1 hS8.2.1) (cwV 0 hts (gV w_730 w_732 w_20 w_34 w_733) rfl rfl rfl (by decide +kernel) ⟨Nat.le_of_ble_eq_true rfl, Nat.le_of_ble_eq_true rfl⟩) (mw_preV hK hM) rfl rfl hl.1 rfl (lv_room (Nat.le_of_ble_eq_true rfl)) dM_roundedRow_8 ⟨Nat.zero_le _, Nat.zero_le _⟩) hM hA (fun H locs hM => ?_)
  have hS9 : (SM_roundedRow_11 ((fM_highestOfRow σ).1) a2 a1 ((fM_highestOfRow σ).2)) := hS8.2.2
  rw [(show fM_roundedRow_4 a1 a2 σ = fM_roundedRow_11 ((fM_highestOfRow σ).1) a2 a1 ((fM_highestOfRow σ).2) by rw [fM_roundedRow_4])]
  exact kM_roundedRow_11 C hK hA ((fM_highestOfRow σ).1) a2 a1 ((fM_highestOfRow σ).2) (hS9) hM (lv_sub hl [] rfl)
set_option maxHeartbeats 4000000 in
set_option maxRecDepth 100000 in
theorem kM_roundedRow_0 {p : Program} {l : Launch} {e : Env} {s : State} {m : MethodId} {args : Array Value} {below : List Frame} {meth : Method} {c : Code} (C : pw_C p s m args meth c cM_roundedRow 3 (some .long) "BitNumbersModel") {D : va_G} {ad : Nat → Nat} {A : Nat → Prop} (hK : va_K D clM (tyA ad) s) (hA : ∀ q, s.heap.size ≤ q → A q) (a1 : Int32) (a2 : Int32) (σ : MS) (hS : SM_roundedRow a1 a2 σ) {H : Heap} {locs : List Loc} (hM : mw D ad A s.heap H locs σ) {ls : Array Slot} (hl : lv_has ls 3 [(0, .ref (ad 0)), (1, .int a1), (2, .int a2)]) : W p l e rmM_roundedRow s m args below meth c H locs 0 0 (MQ below (va_Ql (fun r u => (r, u) = fM_roundedRow a1 a2 σ) (mw_E D ad A) A) args s 0 0 A) (F0 m 0 ls []) := by
  obtain ⟨hx, hb, hr, hml, hown, hts, hlocks⟩ := id C
  refine lv_aload_n hx hb dM_roundedRow_0 rfl (lv_at hl 0 rfl) ?_
  refine mw_callv (F := fM_measure σ) (va_runV (As := []) (rest := []) ⟨hx, hb, hml, hown, hts⟩ (qM_measure l D ad σ H.size) (cwV 0 hts (gV w_726 w_728 w_19 w_34 w_729) rfl rfl rfl (by decide +kernel) ⟨Nat.le_of_ble_eq_true rfl, Nat.le_of_ble_eq_true rfl⟩) (mw_preV hK hM) rfl rfl hl.1 rfl (lv_room (Nat.le_of_ble_eq_true rfl)) dM_roundedRow_1 ⟨Nat.zero_le _, Nat.zero_le _⟩) hM hA (fun H locs hM => ?_)
  have hS9 : (SM_roundedRow_4 a1 a2 (fM_measure σ)) := by have w9 := hS; rw [SM_roundedRow] at w9; exact w9
  rw [(show fM_roundedRow a1 a2 σ = fM_roundedRow_4 a1 a2 (fM_measure σ) by rw [fM_roundedRow])]
  exact kM_roundedRow_4 C hK hA a1 a2 (fM_measure σ) (hS9) hM (lv_sub hl [0, 1, 2] rfl)
set_option maxHeartbeats 4000000 in
set_option maxRecDepth 100000 in
theorem qM_roundedRow (l : Launch) (D : va_G) (ad : Nat → Nat) (a1 : Int32) (a2 : Int32) (σ : MS) (sz : Nat) (hS : SM_roundedRow a1 a2 σ) : Met l yM_roundedRow wsM_roundedRow rmM_roundedRow (va_Pc [.ref (ad 0), .int a1, .int a2] (mw_B D ad σ sz)) (va_Ql (fun r u => (r, u) = fM_roundedRow a1 a2 σ) (mw_E D ad (va_A (mw_c ad σ) sz)) (va_A (mw_c ad σ) sz)) 0 0 (va_A (mw_c ad σ) sz) := by
  refine Met.ofW (cc := cM_roundedRow) (maxL := 3) (ret := (some .long)) (by decide) rfl ?_
  intro p e s m args below meth c s₁ B hml hv
  obtain ⟨rfl, hsz, hP, hK, hD⟩ := hv
  have hts0 := atoms_spec (ws := wsM_roundedRow) B.pre
  have hts := fun (w : Cond) (h : w ∈ aw) => hts0 w (List.mem_cons_of_mem _ h)
  have hown : s.vm.findClass "BitNumbersModel" = some m.cls := findClass_of_methodNamed B.named
  subst hsz
  have hl := lv_entry ([.ref (ad 0), .int a1, .int a2]) (n := 3) (Nat.le_of_ble_eq_true rfl)
  rw [lg_entry_eq]
  generalize (lg_sl ([.ref (ad 0), .int a1, .int a2]) ++ List.replicate (3 - (lg_sl ([.ref (ad 0), .int a1, .int a2])).length) Slot.unset).toArray = ls at hl ⊢
  exact kM_roundedRow_0 ⟨B.exec, B.bytes, B.returns, hml, hown, hts, B.notSynchronized⟩ hK (fun q h => Or.inr h) a1 a2 σ hS ⟨hP, hD.self, va_S.rf⟩ hl

set_option maxHeartbeats 4000000 in
set_option maxRecDepth 100000 in
theorem kM_valueOf_23 {p : Program} {l : Launch} {e : Env} {s : State} {m : MethodId} {args : Array Value} {below : List Frame} {meth : Method} {c : Code} (C : pw_C p s m args meth c cM_valueOf 6 (some .long) "BitNumbersModel") {D : va_G} {ad : Nat → Nat} {A : Nat → Prop} (hK : va_K D clM (tyA ad) s) (hA : ∀ q, s.heap.size ≤ q → A q) (a1 : Int32) (a2 : Int32) (a5 : Int32) (σ : MS) (hS : SM_valueOf_23 a1 a2 a5 σ) {H : Heap} {locs : List Loc} (hM : mw D ad A s.heap H locs σ) {ls : Array Slot} (hl : lv_has ls 6 [(0, .ref (ad 0)), (1, .int a1), (2, .int a2), (5, .int a5)]) : W p l e rmM_valueOf s m args below meth c H locs 0 0 (MQ below (va_Ql (fun r u => (r, u) = fM_valueOf_23 a1 a2 a5 σ) (mw_E D ad A) A) args s 0 0 A) (F0 m 23 ls []) := by
  obtain ⟨hx, hb, hr, hml, hown, hts, hlocks⟩ := id C
  refine lv_aload_n hx hb dM_valueOf_23 rfl (lv_at hl 0 rfl) ?_
  refine lv_iload hx hb dM_valueOf_24 (lv_at hl 3 rfl) ?_
  refine lv_bipush (v := 64) hx hb dM_valueOf_26 (by decide) ?_
  refine lv_isub hx hb dM_valueOf_28 ?_
  refine mw_put (v := .int (a5 - 64)) (ty := .int) (σ' := ms_set_base σ (a5 - 64)) hx hb hts hown hK hM 8 (by decide) (hts _ w_495) rfl (by decide +kernel) rfl rfl (mw_pt_base _ _ _) dM_valueOf_29 (fun H locs hM => ?_)
  refine lv_aload_n hx hb dM_valueOf_32 rfl (lv_at hl 0 rfl) ?_
  refine lv_iload_n hx hb dM_valueOf_33 rfl (lv_at hl 1 rfl) ?_
  refine lv_iload_n hx hb dM_valueOf_34 rfl (lv_at hl 2 rfl) ?_
  have hS35 : ((SM_roundedRow a1 a2 (ms_set_base σ (a5 - 64))) ∧ True) := by have w9 := hS; rw [SM_valueOf_23] at w9; exact w9
  refine mw_calll (F := fM_roundedRow a1 a2 (ms_set_base σ (a5 - 64))) (va_runV (As := [.int a1, .int a2]) (rest := []) ⟨hx, hb, hml, hown, hts⟩ (qM_roundedRow l D ad a1 a2 (ms_set_base σ (a5 - 64)) H.size hS35.1) (cwV 2 hts (gV w_722 w_724 w_18 w_34 w_725) rfl rfl rfl (by decide +kernel) ⟨Nat.le_of_ble_eq_true rfl, Nat.le_of_ble_eq_true rfl⟩) (mw_preV hK hM) rfl rfl hl.1 rfl (lv_room (Nat.le_of_ble_eq_true rfl)) dM_valueOf_35 ⟨Nat.zero_le _, Nat.zero_le _⟩) hM hA (fun H locs hM => ?_)
  exact W.lret (v := (fM_roundedRow a1 a2 (ms_set_base σ (a5 - 64))).1) hx hb hr (fun t ht hW => ⟨⟨(fM_roundedRow a1 a2 (ms_set_base σ (a5 - 64))).1, (fM_roundedRow a1 a2 (ms_set_base σ (a5 - 64))).2, rfl, by rw [(show fM_valueOf_23 a1 a2 a5 σ = ((fM_roundedRow a1 a2 (ms_set_base σ (a5 - 64))).1, (fM_roundedRow a1 a2 (ms_set_base σ (a5 - 64))).2) by rw [fM_valueOf_23])], by rw [ht]; exact hM.1, va_K.moved hW.alike hK, hM.2.1⟩, hM.2.2.F ht⟩) hM.2.2.2.2 dM_valueOf_38
set_option maxHeartbeats 4000000 in
set_option maxRecDepth 100000 in
theorem kM_valueOf_0 {p : Program} {l : Launch} {e : Env} {s : State} {m : MethodId} {args : Array Value} {below : List Frame} {meth : Method} {c : Code} (C : pw_C p s m args meth c cM_valueOf 6 (some .long) "BitNumbersModel") {D : va_G} {ad : Nat → Nat} {A : Nat → Prop} (hK : va_K D clM (tyA ad) s) (hA : ∀ q, s.heap.size ≤ q → A q) (a1 : Int32) (a2 : Int32) (a3 : Int64) (a5 : Int32) (σ : MS) (hS : SM_valueOf a1 a2 a3 a5 σ) {H : Heap} {locs : List Loc} (hM : mw D ad A s.heap H locs σ) {ls : Array Slot} (hl : lv_has ls 6 [(0, .ref (ad 0)), (1, .int a1), (2, .int a2), (3, .long a3), (5, .int a5)]) : W p l e rmM_valueOf s m args below meth c H locs 0 0 (MQ below (va_Ql (fun r u => (r, u) = fM_valueOf a1 a2 a3 a5 σ) (mw_E D ad A) A) args s 0 0 A) (F0 m 0 ls []) := by
  obtain ⟨hx, hb, hr, hml, hown, hts, hlocks⟩ := id C
  refine lv_lload_n hx hb dM_valueOf_0 rfl (lv_at hl 3 rfl) ?_
  refine lv_lconst (v := 0) hx hb dM_valueOf_1 (by decide) ?_
  refine W.lcmp hx hb dM_valueOf_2 ?_
  refine lv_if_ne (tgt := 13) hx hb dM_valueOf_3 (by decide) (fun h1 => ?_) (fun h1 => ?_)
  · have h1 : ¬ (a3 = 0) := fun w => h1 ((lg_cmp_eq _ _).mpr w)
    refine lv_aload_n hx hb dM_valueOf_13 rfl (lv_at hl 0 rfl) ?_
    refine mw_get (v := .ref (ad 3)) hx hb hts hown hK hM 5 (by decide) (hts _ w_492) (mw_fd_row _ _) dM_valueOf_14 ?_
    refine lv_lload_n hx hb dM_valueOf_17 rfl (lv_at hl 3 rfl) ?_
    refine lv_bipush (v := 64) hx hb dM_valueOf_18 (by decide) ?_
    refine mw_callv (F := fM_set_row a3 64 σ) (va_runS (As := [.ref (ad 3), .long a3, .int 64]) (rest := []) ⟨hx, hb, hml, hown, hts⟩ (qM_set_row l D ad a3 64 σ H.size) (va_cwS 3 hts (gS w_707 w_708 w_34 w_709) rfl rfl rfl (by decide +kernel) ⟨Nat.le_of_ble_eq_true rfl, Nat.le_of_ble_eq_true rfl⟩) (mw_preS hK hM) rfl rfl hl.1 rfl (lv_room (Nat.le_of_ble_eq_true rfl)) dM_valueOf_20 ⟨Nat.zero_le _, Nat.zero_le _⟩) hM hA (fun H locs hM => ?_)
    have hS9 : (SM_valueOf_23 a1 a2 a5 (fM_set_row a3 64 σ)) := by have w9 := hS; rw [SM_valueOf, if_neg h1] at w9; exact w9
    rw [(show fM_valueOf a1 a2 a3 a5 σ = fM_valueOf_23 a1 a2 a5 (fM_set_row a3 64 σ) by rw [fM_valueOf, if_neg h1])]
    exact kM_valueOf_23 C hK hA a1 a2 a5 (fM_set_row a3 64 σ) (hS9) hM (lv_sub hl [0, 1, 2, 4] rfl)
  · have h1 : a3 = 0 := (lg_cmp_eq _ _).mp h1
    refine lv_iload_n hx hb dM_valueOf_6 rfl (lv_at hl 1 rfl) ?_
    refine lv_iload_n hx hb dM_valueOf_7 rfl (lv_at hl 2 rfl) ?_
    refine lv_lconst (v := 0) hx hb dM_valueOf_8 (by decide) ?_
    refine pw_call (va_runS (As := [.int a1, .int a2, .long 0]) (rest := []) ⟨hx, hb, hml, hown, hts⟩ (qM_signed l a1 a2 0) (va_cwS 3 hts (gS w_648 w_649 w_34 w_650) rfl rfl rfl (by decide +kernel) ⟨Nat.le_of_ble_eq_true rfl, Nat.le_of_ble_eq_true rfl⟩) ⟨pw_bT, fun U hU hW => ⟨rfl, trivial⟩⟩ rfl rfl hl.1 rfl (lv_room (Nat.le_of_ble_eq_true rfl)) dM_valueOf_9 ⟨Nat.zero_le _, Nat.zero_le _⟩) ?_
    exact W.lret (v := fM_signed a1 a2 0) hx hb hr (fun t ht hW => ⟨⟨fM_signed a1 a2 0, σ, rfl, by rw [(show fM_valueOf a1 a2 a3 a5 σ = (fM_signed a1 a2 0, σ) by rw [fM_valueOf, if_pos h1])], by rw [ht]; exact hM.1, va_K.moved hW.alike hK, hM.2.1⟩, hM.2.2.F ht⟩) hM.2.2.2.2 dM_valueOf_12
set_option maxHeartbeats 4000000 in
set_option maxRecDepth 100000 in
theorem qM_valueOf (l : Launch) (D : va_G) (ad : Nat → Nat) (a1 : Int32) (a2 : Int32) (a3 : Int64) (a5 : Int32) (σ : MS) (sz : Nat) (hS : SM_valueOf a1 a2 a3 a5 σ) : Met l yM_valueOf wsM_valueOf rmM_valueOf (va_Pc [.ref (ad 0), .int a1, .int a2, .long a3, .int a5] (mw_B D ad σ sz)) (va_Ql (fun r u => (r, u) = fM_valueOf a1 a2 a3 a5 σ) (mw_E D ad (va_A (mw_c ad σ) sz)) (va_A (mw_c ad σ) sz)) 0 0 (va_A (mw_c ad σ) sz) := by
  refine Met.ofW (cc := cM_valueOf) (maxL := 6) (ret := (some .long)) (by decide) rfl ?_
  intro p e s m args below meth c s₁ B hml hv
  obtain ⟨rfl, hsz, hP, hK, hD⟩ := hv
  have hts0 := atoms_spec (ws := wsM_valueOf) B.pre
  have hts := fun (w : Cond) (h : w ∈ aw) => hts0 w (List.mem_cons_of_mem _ h)
  have hown : s.vm.findClass "BitNumbersModel" = some m.cls := findClass_of_methodNamed B.named
  subst hsz
  have hl := lv_entry ([.ref (ad 0), .int a1, .int a2, .long a3, .int a5]) (n := 6) (Nat.le_of_ble_eq_true rfl)
  rw [lg_entry_eq]
  generalize (lg_sl ([.ref (ad 0), .int a1, .int a2, .long a3, .int a5]) ++ List.replicate (6 - (lg_sl ([.ref (ad 0), .int a1, .int a2, .long a3, .int a5])).length) Slot.unset).toArray = ls at hl ⊢
  exact kM_valueOf_0 ⟨B.exec, B.bytes, B.returns, hml, hown, hts, B.notSynchronized⟩ hK (fun q h => Or.inr h) a1 a2 a3 a5 σ hS ⟨hP, hD.self, va_S.rf⟩ hl

set_option maxHeartbeats 4000000 in
set_option maxRecDepth 100000 in
theorem kM_sum_239 {p : Program} {l : Launch} {e : Env} {s : State} {m : MethodId} {args : Array Value} {below : List Frame} {meth : Method} {c : Code} (C : pw_C p s m args meth c cM_sum 12 (some .long) "BitNumbersModel") {D : va_G} {ad : Nat → Nat} {A : Nat → Prop} (hK : va_K D clM (tyA ad) s) (hA : ∀ q, s.heap.size ≤ q → A q) (s0 : Int32) (s1 : Int32) (σ : MS) (hzs0 : s0 = 0 ∨ s0 = 1) (hS : SM_sum_239 s0 s1 σ) {H : Heap} {locs : List Loc} (hM : mw D ad A s.heap H locs σ) {ls : Array Slot} (hl : lv_has ls 12 []) : W p l e rmM_sum s m args below meth c H locs 0 0 (MQ below (va_Ql (fun r u => (r, u) = fM_sum_239 s0 s1 σ) (mw_E D ad A) A) args s 0 0 A) (F0 m 239 ls [.int s0, .int s1, .ref (ad 0)]) := by
  obtain ⟨hx, hb, hr, hml, hown, hts, hlocks⟩ := id C
  have hS239 : ((SM_roundedRow s1 s0 σ) ∧ True) := by have w9 := hS; rw [SM_sum_239] at w9; exact w9
  refine mw_calll (F := fM_roundedRow s1 s0 σ) (va_runV (As := [.int s1, .int s0]) (rest := []) ⟨hx, hb, hml, hown, hts⟩ (qM_roundedRow l D ad s1 s0 σ H.size hS239.1) (cwV 2 hts (gV w_722 w_724 w_18 w_34 w_725) rfl rfl rfl (by decide +kernel) ⟨Nat.le_of_ble_eq_true rfl, Nat.le_of_ble_eq_true rfl⟩) (mw_preV hK hM) rfl rfl hl.1 rfl (lv_room (Nat.le_of_ble_eq_true rfl)) dM_sum_239 ⟨Nat.zero_le _, Nat.zero_le _⟩) hM hA (fun H locs hM => ?_)
  exact W.lret (v := (fM_roundedRow s1 s0 σ).1) hx hb hr (fun t ht hW => ⟨⟨(fM_roundedRow s1 s0 σ).1, (fM_roundedRow s1 s0 σ).2, rfl, by rw [(show fM_sum_239 s0 s1 σ = ((fM_roundedRow s1 s0 σ).1, (fM_roundedRow s1 s0 σ).2) by rw [fM_sum_239])], by rw [ht]; exact hM.1, va_K.moved hW.alike hK, hM.2.1⟩, hM.2.2.F ht⟩) hM.2.2.2.2 dM_sum_242
set_option maxHeartbeats 4000000 in
set_option maxRecDepth 100000 in
theorem kM_sum_232 {p : Program} {l : Launch} {e : Env} {s : State} {m : MethodId} {args : Array Value} {below : List Frame} {meth : Method} {c : Code} (C : pw_C p s m args meth c cM_sum 12 (some .long) "BitNumbersModel") {D : va_G} {ad : Nat → Nat} {A : Nat → Prop} (hK : va_K D clM (tyA ad) s) (hA : ∀ q, s.heap.size ≤ q → A q) (a6 : Int32) (s0 : Int32) (σ : MS) (hz6 : a6 = 0 ∨ a6 = 1) (hS : SM_sum_232 a6 s0 σ) {H : Heap} {locs : List Loc} (hM : mw D ad A s.heap H locs σ) {ls : Array Slot} (hl : lv_has ls 12 [(6, .int a6)]) : W p l e rmM_sum s m args below meth c H locs 0 0 (MQ below (va_Ql (fun r u => (r, u) = fM_sum_232 a6 s0 σ) (mw_E D ad A) A) args s 0 0 A) (F0 m 232 ls [.int s0, .ref (ad 0)]) := by
  obtain ⟨hx, hb, hr, hml, hown, hts, hlocks⟩ := id C
  refine lv_iload hx hb dM_sum_232 (lv_at hl 0 rfl) ?_
  refine lv_goto (tgt := 239) hx hb dM_sum_234 (by decide) ?_
  have hS9 : (SM_sum_239 a6 s0 σ) := by have w9 := hS; rw [SM_sum_232] at w9; exact w9
  rw [(show fM_sum_232 a6 s0 σ = fM_sum_239 a6 s0 σ by rw [fM_sum_232])]
  exact kM_sum_239 C hK hA a6 s0 σ hz6 (hS9) hM (lv_sub hl [] rfl)
set_option maxHeartbeats 4000000 in
set_option maxRecDepth 100000 in
theorem kM_sum_218 {p : Program} {l : Launch} {e : Env} {s : State} {m : MethodId} {args : Array Value} {below : List Frame} {meth : Method} {c : Code} (C : pw_C p s m args meth c cM_sum 12 (some .long) "BitNumbersModel") {D : va_G} {ad : Nat → Nat} {A : Nat → Prop} (hK : va_K D clM (tyA ad) s) (hA : ∀ q, s.heap.size ≤ q → A q) (a1 : Int32) (a6 : Int32) (a7 : Int32) (a11 : Int32) (σ : MS) (hz6 : a6 = 0 ∨ a6 = 1) (hz7 : a7 = 0 ∨ a7 = 1) (hS : SM_sum_218 a1 a6 a7 a11 σ) {H : Heap} {locs : List Loc} (hM : mw D ad A s.heap H locs σ) {ls : Array Slot} (hl : lv_has ls 12 [(0, .ref (ad 0)), (1, .int a1), (6, .int a6), (7, .int a7), (11, .int a11)]) : W p l e rmM_sum s m args below meth c H locs 0 0 (MQ below (va_Ql (fun r u => (r, u) = fM_sum_218 a1 a6 a7 a11 σ) (mw_E D ad A) A) args s 0 0 A) (F0 m 218 ls []) := by
  obtain ⟨hx, hb, hr, hml, hown, hts, hlocks⟩ := id C
  refine lv_aload_n hx hb dM_sum_218 rfl (lv_at hl 0 rfl) ?_
  refine lv_iload_n hx hb dM_sum_219 rfl (lv_at hl 1 rfl) ?_
  refine lv_iload hx hb dM_sum_220 (lv_at hl 2 rfl) ?_
  refine lv_iload hx hb dM_sum_222 (lv_at hl 3 rfl) ?_
  refine lv_icmp_eq (tgt := 232) hx hb dM_sum_224 (by decide) (fun h1 => ?_) (fun h1 => ?_)
  · have hS9 : (SM_sum_232 a6 a1 σ) := by have w9 := hS; rw [SM_sum_218, if_pos h1] at w9; exact w9
    rw [(show fM_sum_218 a1 a6 a7 a11 σ = fM_sum_232 a6 a1 σ by rw [fM_sum_218, if_pos h1])]
    exact kM_sum_232 C hK hA a6 a1 σ hz6 (hS9) hM (lv_sub hl [2] rfl)
  · refine lv_iload hx hb dM_sum_227 (lv_at hl 4 rfl) ?_
    refine lv_if_le (tgt := 237) hx hb dM_sum_229 (by decide) (fun h2 => ?_) (fun h2 => ?_)
    · refine lv_iload hx hb dM_sum_237 (lv_at hl 3 rfl) ?_
      have hS9 : (SM_sum_239 a7 a1 σ) := by have w9 := hS; rw [SM_sum_218, if_neg h1, if_pos h2] at w9; exact w9
      rw [(show fM_sum_218 a1 a6 a7 a11 σ = fM_sum_239 a7 a1 σ by rw [fM_sum_218, if_neg h1, if_pos h2])]
      exact kM_sum_239 C hK hA a7 a1 σ hz7 (hS9) hM (lv_sub hl [] rfl)
    · have hS9 : (SM_sum_232 a6 a1 σ) := by have w9 := hS; rw [SM_sum_218, if_neg h1, if_neg h2] at w9; exact w9
      rw [(show fM_sum_218 a1 a6 a7 a11 σ = fM_sum_232 a6 a1 σ by rw [fM_sum_218, if_neg h1, if_neg h2])]
      exact kM_sum_232 C hK hA a6 a1 σ hz6 (hS9) hM (lv_sub hl [2] rfl)
set_option maxHeartbeats 4000000 in
set_option maxRecDepth 100000 in
theorem kM_sum_215 {p : Program} {l : Launch} {e : Env} {s : State} {m : MethodId} {args : Array Value} {below : List Frame} {meth : Method} {c : Code} (C : pw_C p s m args meth c cM_sum 12 (some .long) "BitNumbersModel") {D : va_G} {ad : Nat → Nat} {A : Nat → Prop} (hK : va_K D clM (tyA ad) s) (hA : ∀ q, s.heap.size ≤ q → A q) (a1 : Int32) (a6 : Int32) (a7 : Int32) (a11 : Int32) (s0 : Int32) (σ : MS) (hz6 : a6 = 0 ∨ a6 = 1) (hz7 : a7 = 0 ∨ a7 = 1) (hzs0 : s0 = 0 ∨ s0 = 1) (hS : SM_sum_215 a1 a6 a7 a11 s0 σ) {H : Heap} {locs : List Loc} (hM : mw D ad A s.heap H locs σ) {ls : Array Slot} (hl : lv_has ls 12 [(0, .ref (ad 0)), (1, .int a1), (6, .int a6), (7, .int a7), (11, .int a11)]) : W p l e rmM_sum s m args below meth c H locs 0 0 (MQ below (va_Ql (fun r u => (r, u) = fM_sum_215 a1 a6 a7 a11 s0 σ) (mw_E D ad A) A) args s 0 0 A) (F0 m 215 ls [.int s0, .ref (ad 0)]) := by
  obtain ⟨hx, hb, hr, hml, hown, hts, hlocks⟩ := id C
  refine mw_callv (F := fM_subtractRows s0 σ) (va_runV (As := [.int s0]) (rest := []) ⟨hx, hb, hml, hown, hts⟩ (qM_subtractRows l D ad s0 σ H.size) (cwV 1 hts (gV w_718 w_720 w_17 w_34 w_721) rfl rfl rfl (by decide +kernel) ⟨Nat.le_of_ble_eq_true rfl, Nat.le_of_ble_eq_true rfl⟩) (mw_preV hK hM) rfl rfl hl.1 rfl (lv_room (Nat.le_of_ble_eq_true rfl)) dM_sum_215 ⟨Nat.zero_le _, Nat.zero_le _⟩) hM hA (fun H locs hM => ?_)
  have hS9 : (SM_sum_218 a1 a6 a7 a11 (fM_subtractRows s0 σ)) := by have w9 := hS; rw [SM_sum_215] at w9; exact w9
  rw [(show fM_sum_215 a1 a6 a7 a11 s0 σ = fM_sum_218 a1 a6 a7 a11 (fM_subtractRows s0 σ) by rw [fM_sum_215])]
  exact kM_sum_218 C hK hA a1 a6 a7 a11 (fM_subtractRows s0 σ) hz6 hz7 (hS9) hM (lv_sub hl [0, 1, 2, 3, 4] rfl)
set_option maxHeartbeats 4000000 in
set_option maxRecDepth 100000 in
theorem kM_sum_194 {p : Program} {l : Launch} {e : Env} {s : State} {m : MethodId} {args : Array Value} {below : List Frame} {meth : Method} {c : Code} (C : pw_C p s m args meth c cM_sum 12 (some .long) "BitNumbersModel") {D : va_G} {ad : Nat → Nat} {A : Nat → Prop} (hK : va_K D clM (tyA ad) s) (hA : ∀ q, s.heap.size ≤ q → A q) (a1 : Int32) (a6 : Int32) (a7 : Int32) (a11 : Int32) (σ : MS) (hz6 : a6 = 0 ∨ a6 = 1) (hz7 : a7 = 0 ∨ a7 = 1) (hS : SM_sum_194 a1 a6 a7 a11 σ) {H : Heap} {locs : List Loc} (hM : mw D ad A s.heap H locs σ) {ls : Array Slot} (hl : lv_has ls 12 [(0, .ref (ad 0)), (1, .int a1), (6, .int a6), (7, .int a7), (11, .int a11)]) : W p l e rmM_sum s m args below meth c H locs 0 0 (MQ below (va_Ql (fun r u => (r, u) = fM_sum_194 a1 a6 a7 a11 σ) (mw_E D ad A) A) args s 0 0 A) (F0 m 194 ls []) := by
  obtain ⟨hx, hb, hr, hml, hown, hts, hlocks⟩ := id C
  refine lv_goto (tgt := 218) hx hb dM_sum_194 (by decide) ?_
  have hS9 : (SM_sum_218 a1 a6 a7 a11 σ) := by have w9 := hS; rw [SM_sum_194] at w9; exact w9
  rw [(show fM_sum_194 a1 a6 a7 a11 σ = fM_sum_218 a1 a6 a7 a11 σ by rw [fM_sum_194])]
  exact kM_sum_218 C hK hA a1 a6 a7 a11 σ hz6 hz7 (hS9) hM (lv_sub hl [0, 1, 2, 3, 4] rfl)
set_option maxHeartbeats 4000000 in
set_option maxRecDepth 100000 in
theorem kM_sum_183 {p : Program} {l : Launch} {e : Env} {s : State} {m : MethodId} {args : Array Value} {below : List Frame} {meth : Method} {c : Code} (C : pw_C p s m args meth c cM_sum 12 (some .long) "BitNumbersModel") {D : va_G} {ad : Nat → Nat} {A : Nat → Prop} (hK : va_K D clM (tyA ad) s) (hA : ∀ q, s.heap.size ≤ q → A q) (a1 : Int32) (a6 : Int32) (a7 : Int32) (a11 : Int32) (σ : MS) (hz6 : a6 = 0 ∨ a6 = 1) (hz7 : a7 = 0 ∨ a7 = 1) (hS : SM_sum_183 a1 a6 a7 a11 σ) {H : Heap} {locs : List Loc} (hM : mw D ad A s.heap H locs σ) {ls : Array Slot} (hl : lv_has ls 12 [(0, .ref (ad 0)), (1, .int a1), (6, .int a6), (7, .int a7), (11, .int a11)]) : W p l e rmM_sum s m args below meth c H locs 0 0 (MQ below (va_Ql (fun r u => (r, u) = fM_sum_183 a1 a6 a7 a11 σ) (mw_E D ad A) A) args s 0 0 A) (F0 m 183 ls []) := by
  obtain ⟨hx, hb, hr, hml, hown, hts, hlocks⟩ := id C
  refine lv_iload hx hb dM_sum_183 (lv_at hl 2 rfl) ?_
  refine lv_iload hx hb dM_sum_185 (lv_at hl 3 rfl) ?_
  refine lv_icmp_ne (tgt := 197) hx hb dM_sum_187 (by decide) (fun h1 => ?_) (fun h1 => ?_)
  · refine lv_iload hx hb dM_sum_197 (lv_at hl 4 rfl) ?_
    refine lv_if_ne (tgt := 204) hx hb dM_sum_199 (by decide) (fun h2 => ?_) (fun h2 => ?_)
    · refine lv_aload_n hx hb dM_sum_204 rfl (lv_at hl 0 rfl) ?_
      refine lv_iload hx hb dM_sum_205 (lv_at hl 4 rfl) ?_
      refine lv_if_ge (tgt := 214) hx hb dM_sum_207 (by decide) (fun h3 => ?_) (fun h3 => ?_)
      · refine lv_iconst (v := 0) hx hb dM_sum_214 (by decide) ?_
        have hS9 : (SM_sum_215 a1 a6 a7 a11 0 σ) := by have w9 := hS; rw [SM_sum_183, if_neg h1, if_neg h2, if_pos h3] at w9; exact w9
        rw [(show fM_sum_183 a1 a6 a7 a11 σ = fM_sum_215 a1 a6 a7 a11 0 σ by rw [fM_sum_183, if_neg h1, if_neg h2, if_pos h3])]
        exact kM_sum_215 C hK hA a1 a6 a7 a11 0 σ hz6 hz7 (Or.inl rfl) (hS9) hM (lv_sub hl [0, 1, 2, 3, 4] rfl)
      · refine lv_iconst (v := 1) hx hb dM_sum_210 (by decide) ?_
        refine lv_goto (tgt := 215) hx hb dM_sum_211 (by decide) ?_
        have hS9 : (SM_sum_215 a1 a6 a7 a11 1 σ) := by have w9 := hS; rw [SM_sum_183, if_neg h1, if_neg h2, if_neg h3] at w9; exact w9
        rw [(show fM_sum_183 a1 a6 a7 a11 σ = fM_sum_215 a1 a6 a7 a11 1 σ by rw [fM_sum_183, if_neg h1, if_neg h2, if_neg h3])]
        exact kM_sum_215 C hK hA a1 a6 a7 a11 1 σ hz6 hz7 (Or.inr rfl) (hS9) hM (lv_sub hl [0, 1, 2, 3, 4] rfl)
    · refine lv_lconst (v := 0) hx hb dM_sum_202 (by decide) ?_
      exact W.lret (v := 0) hx hb hr (fun t ht hW => ⟨⟨0, σ, rfl, by rw [(show fM_sum_183 a1 a6 a7 a11 σ = (0, σ) by rw [fM_sum_183, if_neg h1, if_pos h2])], by rw [ht]; exact hM.1, va_K.moved hW.alike hK, hM.2.1⟩, hM.2.2.F ht⟩) hM.2.2.2.2 dM_sum_203
  · refine lv_aload_n hx hb dM_sum_190 rfl (lv_at hl 0 rfl) ?_
    refine mw_callv (F := fM_addRows σ) (va_runV (As := []) (rest := []) ⟨hx, hb, hml, hown, hts⟩ (qM_addRows l D ad σ H.size) (cwV 0 hts (gV w_714 w_716 w_16 w_34 w_717) rfl rfl rfl (by decide +kernel) ⟨Nat.le_of_ble_eq_true rfl, Nat.le_of_ble_eq_true rfl⟩) (mw_preV hK hM) rfl rfl hl.1 rfl (lv_room (Nat.le_of_ble_eq_true rfl)) dM_sum_191 ⟨Nat.zero_le _, Nat.zero_le _⟩) hM hA (fun H locs hM => ?_)
    have hS9 : (SM_sum_194 a1 a6 a7 a11 (fM_addRows σ)) := by have w9 := hS; rw [SM_sum_183, if_pos h1] at w9; exact w9
    rw [(show fM_sum_183 a1 a6 a7 a11 σ = fM_sum_194 a1 a6 a7 a11 (fM_addRows σ) by rw [fM_sum_183, if_pos h1])]
    exact kM_sum_194 C hK hA a1 a6 a7 a11 (fM_addRows σ) hz6 hz7 (hS9) hM (lv_sub hl [0, 1, 2, 3, 4] rfl)
set_option maxHeartbeats 4000000 in
set_option maxRecDepth 100000 in
theorem kM_sum_181 {p : Program} {l : Launch} {e : Env} {s : State} {m : MethodId} {args : Array Value} {below : List Frame} {meth : Method} {c : Code} (C : pw_C p s m args meth c cM_sum 12 (some .long) "BitNumbersModel") {D : va_G} {ad : Nat → Nat} {A : Nat → Prop} (hK : va_K D clM (tyA ad) s) (hA : ∀ q, s.heap.size ≤ q → A q) (a1 : Int32) (a6 : Int32) (a7 : Int32) (s0 : Int32) (σ : MS) (hz6 : a6 = 0 ∨ a6 = 1) (hz7 : a7 = 0 ∨ a7 = 1) (hS : SM_sum_181 a1 a6 a7 s0 σ) {H : Heap} {locs : List Loc} (hM : mw D ad A s.heap H locs σ) {ls : Array Slot} (hl : lv_has ls 12 [(0, .ref (ad 0)), (1, .int a1), (6, .int a6), (7, .int a7)]) : W p l e rmM_sum s m args below meth c H locs 0 0 (MQ below (va_Ql (fun r u => (r, u) = fM_sum_181 a1 a6 a7 s0 σ) (mw_E D ad A) A) args s 0 0 A) (F0 m 181 ls [.int s0]) := by
  obtain ⟨hx, hb, hr, hml, hown, hts, hlocks⟩ := id C
  refine lv_istore (lv' := [(11, .int s0), (0, .ref (ad 0)), (1, .int a1), (6, .int a6), (7, .int a7)]) hx hb dM_sum_181 hl (by decide) rfl (fun ls hl => ?_)
  have hS9 : (SM_sum_183 a1 a6 a7 s0 σ) := by have w9 := hS; rw [SM_sum_181] at w9; exact w9
  rw [(show fM_sum_181 a1 a6 a7 s0 σ = fM_sum_183 a1 a6 a7 s0 σ by rw [fM_sum_181])]
  exact kM_sum_183 C hK hA a1 a6 a7 s0 σ hz6 hz7 (hS9) hM (lv_sub hl [1, 2, 3, 4, 0] rfl)
set_option maxHeartbeats 4000000 in
set_option maxRecDepth 100000 in
theorem kM_sum_177 {p : Program} {l : Launch} {e : Env} {s : State} {m : MethodId} {args : Array Value} {below : List Frame} {meth : Method} {c : Code} (C : pw_C p s m args meth c cM_sum 12 (some .long) "BitNumbersModel") {D : va_G} {ad : Nat → Nat} {A : Nat → Prop} (hK : va_K D clM (tyA ad) s) (hA : ∀ q, s.heap.size ≤ q → A q) (a1 : Int32) (a6 : Int32) (a7 : Int32) (σ : MS) (hz6 : a6 = 0 ∨ a6 = 1) (hz7 : a7 = 0 ∨ a7 = 1) (hS : SM_sum_177 a1 a6 a7 σ) {H : Heap} {locs : List Loc} (hM : mw D ad A s.heap H locs σ) {ls : Array Slot} (hl : lv_has ls 12 [(0, .ref (ad 0)), (1, .int a1), (6, .int a6), (7, .int a7)]) : W p l e rmM_sum s m args below meth c H locs 0 0 (MQ below (va_Ql (fun r u => (r, u) = fM_sum_177 a1 a6 a7 σ) (mw_E D ad A) A) args s 0 0 A) (F0 m 177 ls []) := by
  obtain ⟨hx, hb, hr, hml, hown, hts, hlocks⟩ := id C
  refine lv_aload_n hx hb dM_sum_177 rfl (lv_at hl 0 rfl) ?_
  refine mw_calli (F := fM_compareRows σ) (va_runV (As := []) (rest := []) ⟨hx, hb, hml, hown, hts⟩ (qM_compareRows l D ad σ H.size) (cwV 0 hts (gV w_710 w_712 w_15 w_34 w_713) rfl rfl rfl (by decide +kernel) ⟨Nat.le_of_ble_eq_true rfl, Nat.le_of_ble_eq_true rfl⟩) (mw_preV hK hM) rfl rfl hl.1 rfl (lv_room (Nat.le_of_ble_eq_true rfl)) dM_sum_178 ⟨Nat.zero_le _, Nat.zero_le _⟩) hM hA (fun H locs hM => ?_)
  have hS9 : (SM_sum_181 a1 a6 a7 ((fM_compareRows σ).1) ((fM_compareRows σ).2)) := by have w9 := hS; rw [SM_sum_177] at w9; exact w9
  rw [(show fM_sum_177 a1 a6 a7 σ = fM_sum_181 a1 a6 a7 ((fM_compareRows σ).1) ((fM_compareRows σ).2) by rw [fM_sum_177])]
  exact kM_sum_181 C hK hA a1 a6 a7 ((fM_compareRows σ).1) ((fM_compareRows σ).2) hz6 hz7 (hS9) hM (lv_sub hl [0, 1, 2, 3] rfl)
set_option maxHeartbeats 4000000 in
set_option maxRecDepth 100000 in
theorem kM_sum_157 {p : Program} {l : Launch} {e : Env} {s : State} {m : MethodId} {args : Array Value} {below : List Frame} {meth : Method} {c : Code} (C : pw_C p s m args meth c cM_sum 12 (some .long) "BitNumbersModel") {D : va_G} {ad : Nat → Nat} {A : Nat → Prop} (hK : va_K D clM (tyA ad) s) (hA : ∀ q, s.heap.size ≤ q → A q) (a1 : Int32) (a4 : Int64) (a6 : Int32) (a7 : Int32) (a9 : Int32) (σ : MS) (hz6 : a6 = 0 ∨ a6 = 1) (hz7 : a7 = 0 ∨ a7 = 1) (hS : SM_sum_157 a1 a4 a6 a7 a9 σ) {H : Heap} {locs : List Loc} (hM : mw D ad A s.heap H locs σ) {ls : Array Slot} (hl : lv_has ls 12 [(0, .ref (ad 0)), (1, .int a1), (4, .long a4), (6, .int a6), (7, .int a7), (9, .int a9)]) : W p l e rmM_sum s m args below meth c H locs 0 0 (MQ below (va_Ql (fun r u => (r, u) = fM_sum_157 a1 a4 a6 a7 a9 σ) (mw_E D ad A) A) args s 0 0 A) (F0 m 157 ls []) := by
  obtain ⟨hx, hb, hr, hml, hown, hts, hlocks⟩ := id C
  refine lv_aload_n hx hb dM_sum_157 rfl (lv_at hl 0 rfl) ?_
  refine mw_get (v := .ref (ad 4)) hx hb hts hown hK hM 6 (by decide) (hts _ w_493) (mw_fd_other _ _) dM_sum_158 ?_
  refine lv_iload_n hx hb dM_sum_161 rfl (lv_at hl 1 rfl) ?_
  refine lv_lload hx hb dM_sum_162 (lv_at hl 2 rfl) ?_
  refine pw_call (va_runS (As := [.int a1, .long a4]) (rest := [.ref (ad 4)]) ⟨hx, hb, hml, hown, hts⟩ (qM_significand l a1 a4) (va_cwS 2 hts (gS w_663 w_664 w_34 w_665) rfl rfl rfl (by decide +kernel) ⟨Nat.le_of_ble_eq_true rfl, Nat.le_of_ble_eq_true rfl⟩) ⟨pw_bT, fun U hU hW => ⟨rfl, trivial⟩⟩ rfl rfl hl.1 rfl (lv_room (Nat.le_of_ble_eq_true rfl)) dM_sum_164 ⟨Nat.zero_le _, Nat.zero_le _⟩) ?_
  refine lv_iload hx hb dM_sum_167 (lv_at hl 5 rfl) ?_
  refine lv_aload_n hx hb dM_sum_169 rfl (lv_at hl 0 rfl) ?_
  refine mw_get (v := .int (ms_base σ)) hx hb hts hown hK hM 8 (by decide) (hts _ w_495) (mw_fd_base _ _) dM_sum_170 ?_
  refine lv_isub hx hb dM_sum_173 ?_
  refine mw_callv (F := fM_set_other (fM_significand a1 a4) (a9 - (ms_base σ)) σ) (va_runS (As := [.ref (ad 4), .long (fM_significand a1 a4), .int (a9 - (ms_base σ))]) (rest := []) ⟨hx, hb, hml, hown, hts⟩ (qM_set_other l D ad (fM_significand a1 a4) (a9 - (ms_base σ)) σ H.size) (va_cwS 3 hts (gS w_707 w_708 w_34 w_709) rfl rfl rfl (by decide +kernel) ⟨Nat.le_of_ble_eq_true rfl, Nat.le_of_ble_eq_true rfl⟩) (mw_preS hK hM) rfl rfl hl.1 rfl (lv_room (Nat.le_of_ble_eq_true rfl)) dM_sum_174 ⟨Nat.zero_le _, Nat.zero_le _⟩) hM hA (fun H locs hM => ?_)
  have hS9 : (SM_sum_177 a1 a6 a7 (fM_set_other (fM_significand a1 a4) (a9 - (ms_base σ)) σ)) := by have w9 := hS; rw [SM_sum_157] at w9; exact w9
  rw [(show fM_sum_157 a1 a4 a6 a7 a9 σ = fM_sum_177 a1 a6 a7 (fM_set_other (fM_significand a1 a4) (a9 - (ms_base σ)) σ) by rw [fM_sum_157])]
  exact kM_sum_177 C hK hA a1 a6 a7 (fM_set_other (fM_significand a1 a4) (a9 - (ms_base σ)) σ) hz6 hz7 (hS9) hM (lv_sub hl [0, 1, 3, 4] rfl)
set_option maxHeartbeats 4000000 in
set_option maxRecDepth 100000 in
theorem kM_sum_127 {p : Program} {l : Launch} {e : Env} {s : State} {m : MethodId} {args : Array Value} {below : List Frame} {meth : Method} {c : Code} (C : pw_C p s m args meth c cM_sum 12 (some .long) "BitNumbersModel") {D : va_G} {ad : Nat → Nat} {A : Nat → Prop} (hK : va_K D clM (tyA ad) s) (hA : ∀ q, s.heap.size ≤ q → A q) (a1 : Int32) (a2 : Int64) (a4 : Int64) (a6 : Int32) (a7 : Int32) (a8 : Int32) (a9 : Int32) (s0 : Int32) (σ : MS) (hz6 : a6 = 0 ∨ a6 = 1) (hz7 : a7 = 0 ∨ a7 = 1) (hS : SM_sum_127 a1 a2 a4 a6 a7 a8 a9 s0 σ) {H : Heap} {locs : List Loc} (hM : mw D ad A s.heap H locs σ) {ls : Array Slot} (hl : lv_has ls 12 [(0, .ref (ad 0)), (1, .int a1), (2, .long a2), (4, .long a4), (6, .int a6), (7, .int a7), (8, .int a8), (9, .int a9)]) : W p l e rmM_sum s m args below meth c H locs 0 0 (MQ below (va_Ql (fun r u => (r, u) = fM_sum_127 a1 a2 a4 a6 a7 a8 a9 s0 σ) (mw_E D ad A) A) args s 0 0 A) (F0 m 127 ls [.int s0]) := by
  obtain ⟨hx, hb, hr, hml, hown, hts, hlocks⟩ := id C
  refine lv_istore (lv' := [(10, .int s0), (0, .ref (ad 0)), (1, .int a1), (2, .long a2), (4, .long a4), (6, .int a6), (7, .int a7), (8, .int a8), (9, .int a9)]) hx hb dM_sum_127 hl (by decide) rfl (fun ls hl => ?_)
  refine lv_aload_n hx hb dM_sum_129 rfl (lv_at hl 1 rfl) ?_
  refine lv_iload hx hb dM_sum_130 (lv_at hl 0 rfl) ?_
  refine lv_bipush (v := 64) hx hb dM_sum_132 (by decide) ?_
  refine lv_isub hx hb dM_sum_134 ?_
  refine mw_put (v := .int (s0 - 64)) (ty := .int) (σ' := ms_set_base σ (s0 - 64)) hx hb hts hown hK hM 8 (by decide) (hts _ w_495) rfl (by decide +kernel) rfl rfl (mw_pt_base _ _ _) dM_sum_135 (fun H locs hM => ?_)
  refine lv_aload_n hx hb dM_sum_138 rfl (lv_at hl 1 rfl) ?_
  refine mw_get (v := .ref (ad 3)) hx hb hts hown hK hM 5 (by decide) (hts _ w_492) (mw_fd_row _ _) dM_sum_139 ?_
  refine lv_iload_n hx hb dM_sum_142 rfl (lv_at hl 2 rfl) ?_
  refine lv_lload_n hx hb dM_sum_143 rfl (lv_at hl 3 rfl) ?_
  refine pw_call (va_runS (As := [.int a1, .long a2]) (rest := [.ref (ad 3)]) ⟨hx, hb, hml, hown, hts⟩ (qM_significand l a1 a2) (va_cwS 2 hts (gS w_663 w_664 w_34 w_665) rfl rfl rfl (by decide +kernel) ⟨Nat.le_of_ble_eq_true rfl, Nat.le_of_ble_eq_true rfl⟩) ⟨pw_bT, fun U hU hW => ⟨rfl, trivial⟩⟩ rfl rfl hl.1 rfl (lv_room (Nat.le_of_ble_eq_true rfl)) dM_sum_144 ⟨Nat.zero_le _, Nat.zero_le _⟩) ?_
  refine lv_iload hx hb dM_sum_147 (lv_at hl 7 rfl) ?_
  refine lv_aload_n hx hb dM_sum_149 rfl (lv_at hl 1 rfl) ?_
  refine mw_get (v := .int (ms_base (ms_set_base σ (s0 - 64)))) hx hb hts hown hK hM 8 (by decide) (hts _ w_495) (mw_fd_base _ _) dM_sum_150 ?_
  refine lv_isub hx hb dM_sum_153 ?_
  refine mw_callv (F := fM_set_row (fM_significand a1 a2) (a8 - (ms_base (ms_set_base σ (s0 - 64)))) (ms_set_base σ (s0 - 64))) (va_runS (As := [.ref (ad 3), .long (fM_significand a1 a2), .int (a8 - (ms_base (ms_set_base σ (s0 - 64))))]) (rest := []) ⟨hx, hb, hml, hown, hts⟩ (qM_set_row l D ad (fM_significand a1 a2) (a8 - (ms_base (ms_set_base σ (s0 - 64)))) (ms_set_base σ (s0 - 64)) H.size) (va_cwS 3 hts (gS w_707 w_708 w_34 w_709) rfl rfl rfl (by decide +kernel) ⟨Nat.le_of_ble_eq_true rfl, Nat.le_of_ble_eq_true rfl⟩) (mw_preS hK hM) rfl rfl hl.1 rfl (lv_room (Nat.le_of_ble_eq_true rfl)) dM_sum_154 ⟨Nat.zero_le _, Nat.zero_le _⟩) hM hA (fun H locs hM => ?_)
  have hS9 : (SM_sum_157 a1 a4 a6 a7 a9 (fM_set_row (fM_significand a1 a2) (a8 - (ms_base (ms_set_base σ (s0 - 64)))) (ms_set_base σ (s0 - 64)))) := by have w9 := hS; rw [SM_sum_127] at w9; exact w9
  rw [(show fM_sum_127 a1 a2 a4 a6 a7 a8 a9 s0 σ = fM_sum_157 a1 a4 a6 a7 a9 (fM_set_row (fM_significand a1 a2) (a8 - (ms_base (ms_set_base σ (s0 - 64)))) (ms_set_base σ (s0 - 64))) by rw [fM_sum_127])]
  exact kM_sum_157 C hK hA a1 a4 a6 a7 a9 (fM_set_row (fM_significand a1 a2) (a8 - (ms_base (ms_set_base σ (s0 - 64)))) (ms_set_base σ (s0 - 64))) hz6 hz7 (hS9) hM (lv_sub hl [1, 2, 4, 5, 6, 8] rfl)
set_option maxHeartbeats 4000000 in
set_option maxRecDepth 100000 in
theorem kM_sum_113 {p : Program} {l : Launch} {e : Env} {s : State} {m : MethodId} {args : Array Value} {below : List Frame} {meth : Method} {c : Code} (C : pw_C p s m args meth c cM_sum 12 (some .long) "BitNumbersModel") {D : va_G} {ad : Nat → Nat} {A : Nat → Prop} (hK : va_K D clM (tyA ad) s) (hA : ∀ q, s.heap.size ≤ q → A q) (a1 : Int32) (a2 : Int64) (a4 : Int64) (a6 : Int32) (a7 : Int32) (a8 : Int32) (a9 : Int32) (σ : MS) (hz6 : a6 = 0 ∨ a6 = 1) (hz7 : a7 = 0 ∨ a7 = 1) (hS : SM_sum_113 a1 a2 a4 a6 a7 a8 a9 σ) {H : Heap} {locs : List Loc} (hM : mw D ad A s.heap H locs σ) {ls : Array Slot} (hl : lv_has ls 12 [(0, .ref (ad 0)), (1, .int a1), (2, .long a2), (4, .long a4), (6, .int a6), (7, .int a7), (8, .int a8), (9, .int a9)]) : W p l e rmM_sum s m args below meth c H locs 0 0 (MQ below (va_Ql (fun r u => (r, u) = fM_sum_113 a1 a2 a4 a6 a7 a8 a9 σ) (mw_E D ad A) A) args s 0 0 A) (F0 m 113 ls []) := by
  obtain ⟨hx, hb, hr, hml, hown, hts, hlocks⟩ := id C
  refine lv_iload hx hb dM_sum_113 (lv_at hl 6 rfl) ?_
  refine lv_iload hx hb dM_sum_115 (lv_at hl 7 rfl) ?_
  refine lv_icmp_ge (tgt := 125) hx hb dM_sum_117 (by decide) (fun h1 => ?_) (fun h1 => ?_)
  · refine lv_iload hx hb dM_sum_125 (lv_at hl 7 rfl) ?_
    have hS9 : (SM_sum_127 a1 a2 a4 a6 a7 a8 a9 a9 σ) := by have w9 := hS; rw [SM_sum_113, if_pos h1] at w9; exact w9
    rw [(show fM_sum_113 a1 a2 a4 a6 a7 a8 a9 σ = fM_sum_127 a1 a2 a4 a6 a7 a8 a9 a9 σ by rw [fM_sum_113, if_pos h1])]
    exact kM_sum_127 C hK hA a1 a2 a4 a6 a7 a8 a9 a9 σ hz6 hz7 (hS9) hM (lv_sub hl [0, 1, 2, 3, 4, 5, 6, 7] rfl)
  · refine lv_iload hx hb dM_sum_120 (lv_at hl 6 rfl) ?_
    refine lv_goto (tgt := 127) hx hb dM_sum_122 (by decide) ?_
    have hS9 : (SM_sum_127 a1 a2 a4 a6 a7 a8 a9 a8 σ) := by have w9 := hS; rw [SM_sum_113, if_neg h1] at w9; exact w9
    rw [(show fM_sum_113 a1 a2 a4 a6 a7 a8 a9 σ = fM_sum_127 a1 a2 a4 a6 a7 a8 a9 a8 σ by rw [fM_sum_113, if_neg h1])]
    exact kM_sum_127 C hK hA a1 a2 a4 a6 a7 a8 a9 a8 σ hz6 hz7 (hS9) hM (lv_sub hl [0, 1, 2, 3, 4, 5, 6, 7] rfl)
set_option maxHeartbeats 4000000 in
set_option maxRecDepth 100000 in
theorem kM_sum_105 {p : Program} {l : Launch} {e : Env} {s : State} {m : MethodId} {args : Array Value} {below : List Frame} {meth : Method} {c : Code} (C : pw_C p s m args meth c cM_sum 12 (some .long) "BitNumbersModel") {D : va_G} {ad : Nat → Nat} {A : Nat → Prop} (hK : va_K D clM (tyA ad) s) (hA : ∀ q, s.heap.size ≤ q → A q) (a1 : Int32) (a2 : Int64) (a4 : Int64) (a6 : Int32) (a7 : Int32) (a8 : Int32) (σ : MS) (hz6 : a6 = 0 ∨ a6 = 1) (hz7 : a7 = 0 ∨ a7 = 1) (hS : SM_sum_105 a1 a2 a4 a6 a7 a8 σ) {H : Heap} {locs : List Loc} (hM : mw D ad A s.heap H locs σ) {ls : Array Slot} (hl : lv_has ls 12 [(0, .ref (ad 0)), (1, .int a1), (2, .long a2), (4, .long a4), (6, .int a6), (7, .int a7), (8, .int a8)]) : W p l e rmM_sum s m args below meth c H locs 0 0 (MQ below (va_Ql (fun r u => (r, u) = fM_sum_105 a1 a2 a4 a6 a7 a8 σ) (mw_E D ad A) A) args s 0 0 A) (F0 m 105 ls []) := by
  obtain ⟨hx, hb, hr, hml, hown, hts, hlocks⟩ := id C
  refine lv_iload_n hx hb dM_sum_105 rfl (lv_at hl 1 rfl) ?_
  refine lv_lload hx hb dM_sum_106 (lv_at hl 3 rfl) ?_
  refine pw_call (va_runS (As := [.int a1, .long a4]) (rest := []) ⟨hx, hb, hml, hown, hts⟩ (qM_scaleOf l a1 a4) (va_cwS 2 hts (gS w_666 w_667 w_34 w_668) rfl rfl rfl (by decide +kernel) ⟨Nat.le_of_ble_eq_true rfl, Nat.le_of_ble_eq_true rfl⟩) ⟨pw_bT, fun U hU hW => ⟨rfl, trivial⟩⟩ rfl rfl hl.1 rfl (lv_room (Nat.le_of_ble_eq_true rfl)) dM_sum_108 ⟨Nat.zero_le _, Nat.zero_le _⟩) ?_
  refine lv_istore (lv' := [(9, .int (fM_scaleOf a1 a4)), (0, .ref (ad 0)), (1, .int a1), (2, .long a2), (4, .long a4), (6, .int a6), (7, .int a7), (8, .int a8)]) hx hb dM_sum_111 hl (by decide) rfl (fun ls hl => ?_)
  have hS9 : (SM_sum_113 a1 a2 a4 a6 a7 a8 (fM_scaleOf a1 a4) σ) := by have w9 := hS; rw [SM_sum_105] at w9; exact w9
  rw [(show fM_sum_105 a1 a2 a4 a6 a7 a8 σ = fM_sum_113 a1 a2 a4 a6 a7 a8 (fM_scaleOf a1 a4) σ by rw [fM_sum_105])]
  exact kM_sum_113 C hK hA a1 a2 a4 a6 a7 a8 (fM_scaleOf a1 a4) σ hz6 hz7 (hS9) hM (lv_sub hl [1, 2, 3, 4, 5, 6, 7, 0] rfl)
set_option maxHeartbeats 4000000 in
set_option maxRecDepth 100000 in
theorem kM_sum_98 {p : Program} {l : Launch} {e : Env} {s : State} {m : MethodId} {args : Array Value} {below : List Frame} {meth : Method} {c : Code} (C : pw_C p s m args meth c cM_sum 12 (some .long) "BitNumbersModel") {D : va_G} {ad : Nat → Nat} {A : Nat → Prop} (hK : va_K D clM (tyA ad) s) (hA : ∀ q, s.heap.size ≤ q → A q) (a1 : Int32) (a2 : Int64) (a4 : Int64) (a6 : Int32) (a7 : Int32) (σ : MS) (hz6 : a6 = 0 ∨ a6 = 1) (hz7 : a7 = 0 ∨ a7 = 1) (hS : SM_sum_98 a1 a2 a4 a6 a7 σ) {H : Heap} {locs : List Loc} (hM : mw D ad A s.heap H locs σ) {ls : Array Slot} (hl : lv_has ls 12 [(0, .ref (ad 0)), (1, .int a1), (2, .long a2), (4, .long a4), (6, .int a6), (7, .int a7)]) : W p l e rmM_sum s m args below meth c H locs 0 0 (MQ below (va_Ql (fun r u => (r, u) = fM_sum_98 a1 a2 a4 a6 a7 σ) (mw_E D ad A) A) args s 0 0 A) (F0 m 98 ls []) := by
  obtain ⟨hx, hb, hr, hml, hown, hts, hlocks⟩ := id C
  refine lv_iload_n hx hb dM_sum_98 rfl (lv_at hl 1 rfl) ?_
  refine lv_lload_n hx hb dM_sum_99 rfl (lv_at hl 2 rfl) ?_
  refine pw_call (va_runS (As := [.int a1, .long a2]) (rest := []) ⟨hx, hb, hml, hown, hts⟩ (qM_scaleOf l a1 a2) (va_cwS 2 hts (gS w_666 w_667 w_34 w_668) rfl rfl rfl (by decide +kernel) ⟨Nat.le_of_ble_eq_true rfl, Nat.le_of_ble_eq_true rfl⟩) ⟨pw_bT, fun U hU hW => ⟨rfl, trivial⟩⟩ rfl rfl hl.1 rfl (lv_room (Nat.le_of_ble_eq_true rfl)) dM_sum_100 ⟨Nat.zero_le _, Nat.zero_le _⟩) ?_
  refine lv_istore (lv' := [(8, .int (fM_scaleOf a1 a2)), (0, .ref (ad 0)), (1, .int a1), (2, .long a2), (4, .long a4), (6, .int a6), (7, .int a7)]) hx hb dM_sum_103 hl (by decide) rfl (fun ls hl => ?_)
  have hS9 : (SM_sum_105 a1 a2 a4 a6 a7 (fM_scaleOf a1 a2) σ) := by have w9 := hS; rw [SM_sum_98] at w9; exact w9
  rw [(show fM_sum_98 a1 a2 a4 a6 a7 σ = fM_sum_105 a1 a2 a4 a6 a7 (fM_scaleOf a1 a2) σ by rw [fM_sum_98])]
  exact kM_sum_105 C hK hA a1 a2 a4 a6 a7 (fM_scaleOf a1 a2) σ hz6 hz7 (hS9) hM (lv_sub hl [1, 2, 3, 4, 5, 6, 0] rfl)
set_option maxHeartbeats 4000000 in
set_option maxRecDepth 100000 in
theorem kM_sum_93 {p : Program} {l : Launch} {e : Env} {s : State} {m : MethodId} {args : Array Value} {below : List Frame} {meth : Method} {c : Code} (C : pw_C p s m args meth c cM_sum 12 (some .long) "BitNumbersModel") {D : va_G} {ad : Nat → Nat} {A : Nat → Prop} (hK : va_K D clM (tyA ad) s) (hA : ∀ q, s.heap.size ≤ q → A q) (s0 : Int32) (s1 : Int32) (σ : MS) (hzs0 : s0 = 0 ∨ s0 = 1) (hS : SM_sum_93 s0 s1 σ) {H : Heap} {locs : List Loc} (hM : mw D ad A s.heap H locs σ) {ls : Array Slot} (hl : lv_has ls 12 []) : W p l e rmM_sum s m args below meth c H locs 0 0 (MQ below (va_Ql (fun r u => (r, u) = fM_sum_93 s0 s1 σ) (mw_E D ad A) A) args s 0 0 A) (F0 m 93 ls [.int s0, .int s1]) := by
  obtain ⟨hx, hb, hr, hml, hown, hts, hlocks⟩ := id C
  refine lv_lconst (v := 0) hx hb dM_sum_93 (by decide) ?_
  refine pw_call (va_runS (As := [.int s1, .int s0, .long 0]) (rest := []) ⟨hx, hb, hml, hown, hts⟩ (qM_signed l s1 s0 0) (va_cwS 3 hts (gS w_648 w_649 w_34 w_650) rfl rfl rfl (by decide +kernel) ⟨Nat.le_of_ble_eq_true rfl, Nat.le_of_ble_eq_true rfl⟩) ⟨pw_bT, fun U hU hW => ⟨rfl, trivial⟩⟩ rfl rfl hl.1 rfl (lv_room (Nat.le_of_ble_eq_true rfl)) dM_sum_94 ⟨Nat.zero_le _, Nat.zero_le _⟩) ?_
  exact W.lret (v := fM_signed s1 s0 0) hx hb hr (fun t ht hW => ⟨⟨fM_signed s1 s0 0, σ, rfl, by rw [(show fM_sum_93 s0 s1 σ = (fM_signed s1 s0 0, σ) by rw [fM_sum_93])], by rw [ht]; exact hM.1, va_K.moved hW.alike hK, hM.2.1⟩, hM.2.2.F ht⟩) hM.2.2.2.2 dM_sum_97
set_option maxHeartbeats 4000000 in
set_option maxRecDepth 100000 in
theorem kM_sum_92 {p : Program} {l : Launch} {e : Env} {s : State} {m : MethodId} {args : Array Value} {below : List Frame} {meth : Method} {c : Code} (C : pw_C p s m args meth c cM_sum 12 (some .long) "BitNumbersModel") {D : va_G} {ad : Nat → Nat} {A : Nat → Prop} (hK : va_K D clM (tyA ad) s) (hA : ∀ q, s.heap.size ≤ q → A q) (s0 : Int32) (σ : MS) (hS : SM_sum_92 s0 σ) {H : Heap} {locs : List Loc} (hM : mw D ad A s.heap H locs σ) {ls : Array Slot} (hl : lv_has ls 12 []) : W p l e rmM_sum s m args below meth c H locs 0 0 (MQ below (va_Ql (fun r u => (r, u) = fM_sum_92 s0 σ) (mw_E D ad A) A) args s 0 0 A) (F0 m 92 ls [.int s0]) := by
  obtain ⟨hx, hb, hr, hml, hown, hts, hlocks⟩ := id C
  refine lv_iconst (v := 0) hx hb dM_sum_92 (by decide) ?_
  have hS9 : (SM_sum_93 0 s0 σ) := by have w9 := hS; rw [SM_sum_92] at w9; exact w9
  rw [(show fM_sum_92 s0 σ = fM_sum_93 0 s0 σ by rw [fM_sum_92])]
  exact kM_sum_93 C hK hA 0 s0 σ (Or.inl rfl) (hS9) hM (lv_sub hl [] rfl)
set_option maxHeartbeats 4000000 in
set_option maxRecDepth 100000 in
theorem kM_sum_46 {p : Program} {l : Launch} {e : Env} {s : State} {m : MethodId} {args : Array Value} {below : List Frame} {meth : Method} {c : Code} (C : pw_C p s m args meth c cM_sum 12 (some .long) "BitNumbersModel") {D : va_G} {ad : Nat → Nat} {A : Nat → Prop} (hK : va_K D clM (tyA ad) s) (hA : ∀ q, s.heap.size ≤ q → A q) (a2 : Int64) (σ : MS) (hS : SM_sum_46 a2 σ) {H : Heap} {locs : List Loc} (hM : mw D ad A s.heap H locs σ) {ls : Array Slot} (hl : lv_has ls 12 [(2, .long a2)]) : W p l e rmM_sum s m args below meth c H locs 0 0 (MQ below (va_Ql (fun r u => (r, u) = fM_sum_46 a2 σ) (mw_E D ad A) A) args s 0 0 A) (F0 m 46 ls []) := by
  obtain ⟨hx, hb, hr, hml, hown, hts, hlocks⟩ := id C
  refine lv_lload_n hx hb dM_sum_46 rfl (lv_at hl 0 rfl) ?_
  exact W.lret (v := a2) hx hb hr (fun t ht hW => ⟨⟨a2, σ, rfl, by rw [(show fM_sum_46 a2 σ = (a2, σ) by rw [fM_sum_46])], by rw [ht]; exact hM.1, va_K.moved hW.alike hK, hM.2.1⟩, hM.2.2.F ht⟩) hM.2.2.2.2 dM_sum_47
set_option maxHeartbeats 4000000 in
set_option maxRecDepth 100000 in
theorem kM_sum_15 {p : Program} {l : Launch} {e : Env} {s : State} {m : MethodId} {args : Array Value} {below : List Frame} {meth : Method} {c : Code} (C : pw_C p s m args meth c cM_sum 12 (some .long) "BitNumbersModel") {D : va_G} {ad : Nat → Nat} {A : Nat → Prop} (hK : va_K D clM (tyA ad) s) (hA : ∀ q, s.heap.size ≤ q → A q) (a1 : Int32) (a2 : Int64) (a4 : Int64) (a6 : Int32) (a7 : Int32) (σ : MS) (hz6 : a6 = 0 ∨ a6 = 1) (hz7 : a7 = 0 ∨ a7 = 1) (hS : SM_sum_15 a1 a2 a4 a6 a7 σ) {H : Heap} {locs : List Loc} (hM : mw D ad A s.heap H locs σ) {ls : Array Slot} (hl : lv_has ls 12 [(0, .ref (ad 0)), (1, .int a1), (2, .long a2), (4, .long a4), (6, .int a6), (7, .int a7)]) : W p l e rmM_sum s m args below meth c H locs 0 0 (MQ below (va_Ql (fun r u => (r, u) = fM_sum_15 a1 a2 a4 a6 a7 σ) (mw_E D ad A) A) args s 0 0 A) (F0 m 15 ls []) := by
  obtain ⟨hx, hb, hr, hml, hown, hts, hlocks⟩ := id C
  refine lv_iload_n hx hb dM_sum_15 rfl (lv_at hl 1 rfl) ?_
  refine lv_lload_n hx hb dM_sum_16 rfl (lv_at hl 2 rfl) ?_
  refine pw_call (va_runS (As := [.int a1, .long a2]) (rest := []) ⟨hx, hb, hml, hown, hts⟩ (qM_isInfinite l a1 a2) (va_cwS 2 hts (gS w_660 w_661 w_34 w_662) rfl rfl rfl (by decide +kernel) ⟨Nat.le_of_ble_eq_true rfl, Nat.le_of_ble_eq_true rfl⟩) ⟨pw_bT, fun U hU hW => ⟨rfl, trivial⟩⟩ rfl rfl hl.1 rfl (lv_room (Nat.le_of_ble_eq_true rfl)) dM_sum_17 ⟨Nat.zero_le _, Nat.zero_le _⟩) ?_
  refine lv_if_eq (tgt := 48) hx hb dM_sum_20 (by decide) (fun h1 => ?_) (fun h1 => ?_)
  · refine lv_iload_n hx hb dM_sum_48 rfl (lv_at hl 1 rfl) ?_
    refine lv_lload hx hb dM_sum_49 (lv_at hl 3 rfl) ?_
    refine pw_call (va_runS (As := [.int a1, .long a4]) (rest := []) ⟨hx, hb, hml, hown, hts⟩ (qM_isInfinite l a1 a4) (va_cwS 2 hts (gS w_660 w_661 w_34 w_662) rfl rfl rfl (by decide +kernel) ⟨Nat.le_of_ble_eq_true rfl, Nat.le_of_ble_eq_true rfl⟩) ⟨pw_bT, fun U hU hW => ⟨rfl, trivial⟩⟩ rfl rfl hl.1 rfl (lv_room (Nat.le_of_ble_eq_true rfl)) dM_sum_51 ⟨Nat.zero_le _, Nat.zero_le _⟩) ?_
    refine lv_if_eq (tgt := 60) hx hb dM_sum_54 (by decide) (fun h2 => ?_) (fun h2 => ?_)
    · refine lv_iload_n hx hb dM_sum_60 rfl (lv_at hl 1 rfl) ?_
      refine lv_lload_n hx hb dM_sum_61 rfl (lv_at hl 2 rfl) ?_
      refine pw_call (va_runS (As := [.int a1, .long a2]) (rest := []) ⟨hx, hb, hml, hown, hts⟩ (qM_isZero l a1 a2) (va_cwS 2 hts (gS w_609 w_610 w_34 w_611) rfl rfl rfl (by decide +kernel) ⟨Nat.le_of_ble_eq_true rfl, Nat.le_of_ble_eq_true rfl⟩) ⟨pw_bT, fun U hU hW => ⟨rfl, trivial⟩⟩ rfl rfl hl.1 rfl (lv_room (Nat.le_of_ble_eq_true rfl)) dM_sum_62 ⟨Nat.zero_le _, Nat.zero_le _⟩) ?_
      refine lv_if_eq (tgt := 98) hx hb dM_sum_65 (by decide) (fun h3 => ?_) (fun h3 => ?_)
      · have hS9 : (SM_sum_98 a1 a2 a4 a6 a7 σ) := by have w9 := hS; rw [SM_sum_15, if_pos h1, if_pos h2, if_pos h3] at w9; exact w9
        rw [(show fM_sum_15 a1 a2 a4 a6 a7 σ = fM_sum_98 a1 a2 a4 a6 a7 σ by rw [fM_sum_15, if_pos h1, if_pos h2, if_pos h3])]
        exact kM_sum_98 C hK hA a1 a2 a4 a6 a7 σ hz6 hz7 (hS9) hM (lv_sub hl [0, 1, 2, 3, 4, 5] rfl)
      · refine lv_iload_n hx hb dM_sum_68 rfl (lv_at hl 1 rfl) ?_
        refine lv_lload hx hb dM_sum_69 (lv_at hl 3 rfl) ?_
        refine pw_call (va_runS (As := [.int a1, .long a4]) (rest := []) ⟨hx, hb, hml, hown, hts⟩ (qM_isZero l a1 a4) (va_cwS 2 hts (gS w_609 w_610 w_34 w_611) rfl rfl rfl (by decide +kernel) ⟨Nat.le_of_ble_eq_true rfl, Nat.le_of_ble_eq_true rfl⟩) ⟨pw_bT, fun U hU hW => ⟨rfl, trivial⟩⟩ rfl rfl hl.1 rfl (lv_room (Nat.le_of_ble_eq_true rfl)) dM_sum_71 ⟨Nat.zero_le _, Nat.zero_le _⟩) ?_
        refine lv_if_eq (tgt := 98) hx hb dM_sum_74 (by decide) (fun h4 => ?_) (fun h4 => ?_)
        · have hS9 : (SM_sum_98 a1 a2 a4 a6 a7 σ) := by have w9 := hS; rw [SM_sum_15, if_pos h1, if_pos h2, if_neg h3, if_pos h4] at w9; exact w9
          rw [(show fM_sum_15 a1 a2 a4 a6 a7 σ = fM_sum_98 a1 a2 a4 a6 a7 σ by rw [fM_sum_15, if_pos h1, if_pos h2, if_neg h3, if_pos h4])]
          exact kM_sum_98 C hK hA a1 a2 a4 a6 a7 σ hz6 hz7 (hS9) hM (lv_sub hl [0, 1, 2, 3, 4, 5] rfl)
        · refine lv_iload_n hx hb dM_sum_77 rfl (lv_at hl 1 rfl) ?_
          refine lv_iload hx hb dM_sum_78 (lv_at hl 4 rfl) ?_
          refine lv_if_eq (tgt := 92) hx hb dM_sum_80 (by decide) (fun h5 => ?_) (fun h5 => ?_)
          · have hS9 : (SM_sum_92 a1 σ) := by have w9 := hS; rw [SM_sum_15, if_pos h1, if_pos h2, if_neg h3, if_neg h4, if_pos h5] at w9; exact w9
            rw [(show fM_sum_15 a1 a2 a4 a6 a7 σ = fM_sum_92 a1 σ by rw [fM_sum_15, if_pos h1, if_pos h2, if_neg h3, if_neg h4, if_pos h5])]
            exact kM_sum_92 C hK hA a1 σ (hS9) hM (lv_sub hl [] rfl)
          · refine lv_iload hx hb dM_sum_83 (lv_at hl 5 rfl) ?_
            refine lv_if_eq (tgt := 92) hx hb dM_sum_85 (by decide) (fun h6 => ?_) (fun h6 => ?_)
            · have hS9 : (SM_sum_92 a1 σ) := by have w9 := hS; rw [SM_sum_15, if_pos h1, if_pos h2, if_neg h3, if_neg h4, if_neg h5, if_pos h6] at w9; exact w9
              rw [(show fM_sum_15 a1 a2 a4 a6 a7 σ = fM_sum_92 a1 σ by rw [fM_sum_15, if_pos h1, if_pos h2, if_neg h3, if_neg h4, if_neg h5, if_pos h6])]
              exact kM_sum_92 C hK hA a1 σ (hS9) hM (lv_sub hl [] rfl)
            · refine lv_iconst (v := 1) hx hb dM_sum_88 (by decide) ?_
              refine lv_goto (tgt := 93) hx hb dM_sum_89 (by decide) ?_
              have hS9 : (SM_sum_93 1 a1 σ) := by have w9 := hS; rw [SM_sum_15, if_pos h1, if_pos h2, if_neg h3, if_neg h4, if_neg h5, if_neg h6] at w9; exact w9
              rw [(show fM_sum_15 a1 a2 a4 a6 a7 σ = fM_sum_93 1 a1 σ by rw [fM_sum_15, if_pos h1, if_pos h2, if_neg h3, if_neg h4, if_neg h5, if_neg h6])]
              exact kM_sum_93 C hK hA 1 a1 σ (Or.inr rfl) (hS9) hM (lv_sub hl [] rfl)
    · refine lv_lload hx hb dM_sum_57 (lv_at hl 3 rfl) ?_
      exact W.lret (v := a4) hx hb hr (fun t ht hW => ⟨⟨a4, σ, rfl, by rw [(show fM_sum_15 a1 a2 a4 a6 a7 σ = (a4, σ) by rw [fM_sum_15, if_pos h1, if_neg h2])], by rw [ht]; exact hM.1, va_K.moved hW.alike hK, hM.2.1⟩, hM.2.2.F ht⟩) hM.2.2.2.2 dM_sum_59
  · refine lv_iload_n hx hb dM_sum_23 rfl (lv_at hl 1 rfl) ?_
    refine lv_lload hx hb dM_sum_24 (lv_at hl 3 rfl) ?_
    refine pw_call (va_runS (As := [.int a1, .long a4]) (rest := []) ⟨hx, hb, hml, hown, hts⟩ (qM_isInfinite l a1 a4) (va_cwS 2 hts (gS w_660 w_661 w_34 w_662) rfl rfl rfl (by decide +kernel) ⟨Nat.le_of_ble_eq_true rfl, Nat.le_of_ble_eq_true rfl⟩) ⟨pw_bT, fun U hU hW => ⟨rfl, trivial⟩⟩ rfl rfl hl.1 rfl (lv_room (Nat.le_of_ble_eq_true rfl)) dM_sum_26 ⟨Nat.zero_le _, Nat.zero_le _⟩) ?_
    refine lv_if_eq (tgt := 46) hx hb dM_sum_29 (by decide) (fun h7 => ?_) (fun h7 => ?_)
    · have hS9 : (SM_sum_46 a2 σ) := by have w9 := hS; rw [SM_sum_15, if_neg h1, if_pos h7] at w9; exact w9
      rw [(show fM_sum_15 a1 a2 a4 a6 a7 σ = fM_sum_46 a2 σ by rw [fM_sum_15, if_neg h1, if_pos h7])]
      exact kM_sum_46 C hK hA a2 σ (hS9) hM (lv_sub hl [2] rfl)
    · refine lv_iload hx hb dM_sum_32 (lv_at hl 4 rfl) ?_
      refine lv_iload hx hb dM_sum_34 (lv_at hl 5 rfl) ?_
      refine lv_icmp_eq (tgt := 46) hx hb dM_sum_36 (by decide) (fun h8 => ?_) (fun h8 => ?_)
      · have hS9 : (SM_sum_46 a2 σ) := by have w9 := hS; rw [SM_sum_15, if_neg h1, if_neg h7, if_pos h8] at w9; exact w9
        rw [(show fM_sum_15 a1 a2 a4 a6 a7 σ = fM_sum_46 a2 σ by rw [fM_sum_15, if_neg h1, if_neg h7, if_pos h8])]
        exact kM_sum_46 C hK hA a2 σ (hS9) hM (lv_sub hl [2] rfl)
      · refine lv_iload_n hx hb dM_sum_39 rfl (lv_at hl 1 rfl) ?_
        refine pw_call (va_runS (As := [.int a1]) (rest := []) ⟨hx, hb, hml, hown, hts⟩ (qM_theNone l a1) (va_cwS 1 hts (gS w_651 w_652 w_34 w_653) rfl rfl rfl (by decide +kernel) ⟨Nat.le_of_ble_eq_true rfl, Nat.le_of_ble_eq_true rfl⟩) ⟨pw_bT, fun U hU hW => ⟨rfl, trivial⟩⟩ rfl rfl hl.1 rfl (lv_room (Nat.le_of_ble_eq_true rfl)) dM_sum_40 ⟨Nat.zero_le _, Nat.zero_le _⟩) ?_
        refine lv_goto (tgt := 47) hx hb dM_sum_43 (by decide) ?_
        exact W.lret (v := fM_theNone a1) hx hb hr (fun t ht hW => ⟨⟨fM_theNone a1, σ, rfl, by rw [(show fM_sum_15 a1 a2 a4 a6 a7 σ = (fM_theNone a1, σ) by rw [fM_sum_15, if_neg h1, if_neg h7, if_neg h8])], by rw [ht]; exact hM.1, va_K.moved hW.alike hK, hM.2.1⟩, hM.2.2.F ht⟩) hM.2.2.2.2 dM_sum_47
set_option maxHeartbeats 4000000 in
set_option maxRecDepth 100000 in
theorem kM_sum_7 {p : Program} {l : Launch} {e : Env} {s : State} {m : MethodId} {args : Array Value} {below : List Frame} {meth : Method} {c : Code} (C : pw_C p s m args meth c cM_sum 12 (some .long) "BitNumbersModel") {D : va_G} {ad : Nat → Nat} {A : Nat → Prop} (hK : va_K D clM (tyA ad) s) (hA : ∀ q, s.heap.size ≤ q → A q) (a1 : Int32) (a2 : Int64) (a4 : Int64) (a6 : Int32) (σ : MS) (hz6 : a6 = 0 ∨ a6 = 1) (hS : SM_sum_7 a1 a2 a4 a6 σ) {H : Heap} {locs : List Loc} (hM : mw D ad A s.heap H locs σ) {ls : Array Slot} (hl : lv_has ls 12 [(0, .ref (ad 0)), (1, .int a1), (2, .long a2), (4, .long a4), (6, .int a6)]) : W p l e rmM_sum s m args below meth c H locs 0 0 (MQ below (va_Ql (fun r u => (r, u) = fM_sum_7 a1 a2 a4 a6 σ) (mw_E D ad A) A) args s 0 0 A) (F0 m 7 ls []) := by
  obtain ⟨hx, hb, hr, hml, hown, hts, hlocks⟩ := id C
  refine lv_iload_n hx hb dM_sum_7 rfl (lv_at hl 1 rfl) ?_
  refine lv_lload hx hb dM_sum_8 (lv_at hl 3 rfl) ?_
  refine pw_call (va_runS (As := [.int a1, .long a4]) (rest := []) ⟨hx, hb, hml, hown, hts⟩ (qM_isMinus l a1 a4) (va_cwS 2 hts (gS w_615 w_616 w_34 w_617) rfl rfl rfl (by decide +kernel) ⟨Nat.le_of_ble_eq_true rfl, Nat.le_of_ble_eq_true rfl⟩) ⟨pw_bT, fun U hU hW => ⟨rfl, trivial⟩⟩ rfl rfl hl.1 rfl (lv_room (Nat.le_of_ble_eq_true rfl)) dM_sum_10 ⟨Nat.zero_le _, Nat.zero_le _⟩) ?_
  refine lv_istore (lv' := [(7, .int (fM_isMinus a1 a4)), (0, .ref (ad 0)), (1, .int a1), (2, .long a2), (4, .long a4), (6, .int a6)]) hx hb dM_sum_13 hl (by decide) rfl (fun ls hl => ?_)
  have hS9 : (SM_sum_15 a1 a2 a4 a6 (fM_isMinus a1 a4) σ) := by have w9 := hS; rw [SM_sum_7] at w9; exact w9
  rw [(show fM_sum_7 a1 a2 a4 a6 σ = fM_sum_15 a1 a2 a4 a6 (fM_isMinus a1 a4) σ by rw [fM_sum_7])]
  exact kM_sum_15 C hK hA a1 a2 a4 a6 (fM_isMinus a1 a4) σ hz6 (zM_isMinus a1 a4) (hS9) hM (lv_sub hl [1, 2, 3, 4, 5, 0] rfl)
set_option maxHeartbeats 4000000 in
set_option maxRecDepth 100000 in
theorem kM_sum_0 {p : Program} {l : Launch} {e : Env} {s : State} {m : MethodId} {args : Array Value} {below : List Frame} {meth : Method} {c : Code} (C : pw_C p s m args meth c cM_sum 12 (some .long) "BitNumbersModel") {D : va_G} {ad : Nat → Nat} {A : Nat → Prop} (hK : va_K D clM (tyA ad) s) (hA : ∀ q, s.heap.size ≤ q → A q) (a1 : Int32) (a2 : Int64) (a4 : Int64) (σ : MS) (hS : SM_sum a1 a2 a4 σ) {H : Heap} {locs : List Loc} (hM : mw D ad A s.heap H locs σ) {ls : Array Slot} (hl : lv_has ls 12 [(0, .ref (ad 0)), (1, .int a1), (2, .long a2), (4, .long a4)]) : W p l e rmM_sum s m args below meth c H locs 0 0 (MQ below (va_Ql (fun r u => (r, u) = fM_sum a1 a2 a4 σ) (mw_E D ad A) A) args s 0 0 A) (F0 m 0 ls []) := by
  obtain ⟨hx, hb, hr, hml, hown, hts, hlocks⟩ := id C
  refine lv_iload_n hx hb dM_sum_0 rfl (lv_at hl 1 rfl) ?_
  refine lv_lload_n hx hb dM_sum_1 rfl (lv_at hl 2 rfl) ?_
  refine pw_call (va_runS (As := [.int a1, .long a2]) (rest := []) ⟨hx, hb, hml, hown, hts⟩ (qM_isMinus l a1 a2) (va_cwS 2 hts (gS w_615 w_616 w_34 w_617) rfl rfl rfl (by decide +kernel) ⟨Nat.le_of_ble_eq_true rfl, Nat.le_of_ble_eq_true rfl⟩) ⟨pw_bT, fun U hU hW => ⟨rfl, trivial⟩⟩ rfl rfl hl.1 rfl (lv_room (Nat.le_of_ble_eq_true rfl)) dM_sum_2 ⟨Nat.zero_le _, Nat.zero_le _⟩) ?_
  refine lv_istore (lv' := [(6, .int (fM_isMinus a1 a2)), (0, .ref (ad 0)), (1, .int a1), (2, .long a2), (4, .long a4)]) hx hb dM_sum_5 hl (by decide) rfl (fun ls hl => ?_)
  have hS9 : (SM_sum_7 a1 a2 a4 (fM_isMinus a1 a2) σ) := by have w9 := hS; rw [SM_sum] at w9; exact w9
  rw [(show fM_sum a1 a2 a4 σ = fM_sum_7 a1 a2 a4 (fM_isMinus a1 a2) σ by rw [fM_sum])]
  exact kM_sum_7 C hK hA a1 a2 a4 (fM_isMinus a1 a2) σ (zM_isMinus a1 a2) (hS9) hM (lv_sub hl [1, 2, 3, 4, 0] rfl)
set_option maxHeartbeats 4000000 in
set_option maxRecDepth 100000 in
theorem qM_sum (l : Launch) (D : va_G) (ad : Nat → Nat) (a1 : Int32) (a2 : Int64) (a4 : Int64) (σ : MS) (sz : Nat) (hS : SM_sum a1 a2 a4 σ) : Met l yM_sum wsM_sum rmM_sum (va_Pc [.ref (ad 0), .int a1, .long a2, .long a4] (mw_B D ad σ sz)) (va_Ql (fun r u => (r, u) = fM_sum a1 a2 a4 σ) (mw_E D ad (va_A (mw_c ad σ) sz)) (va_A (mw_c ad σ) sz)) 0 0 (va_A (mw_c ad σ) sz) := by
  refine Met.ofW (cc := cM_sum) (maxL := 12) (ret := (some .long)) (by decide) rfl ?_
  intro p e s m args below meth c s₁ B hml hv
  obtain ⟨rfl, hsz, hP, hK, hD⟩ := hv
  have hts0 := atoms_spec (ws := wsM_sum) B.pre
  have hts := fun (w : Cond) (h : w ∈ aw) => hts0 w (List.mem_cons_of_mem _ h)
  have hown : s.vm.findClass "BitNumbersModel" = some m.cls := findClass_of_methodNamed B.named
  subst hsz
  have hl := lv_entry ([.ref (ad 0), .int a1, .long a2, .long a4]) (n := 12) (Nat.le_of_ble_eq_true rfl)
  rw [lg_entry_eq]
  generalize (lg_sl ([.ref (ad 0), .int a1, .long a2, .long a4]) ++ List.replicate (12 - (lg_sl ([.ref (ad 0), .int a1, .long a2, .long a4])).length) Slot.unset).toArray = ls at hl ⊢
  exact kM_sum_0 ⟨B.exec, B.bytes, B.returns, hml, hown, hts, B.notSynchronized⟩ hK (fun q h => Or.inr h) a1 a2 a4 σ hS ⟨hP, hD.self, va_S.rf⟩ hl

set_option maxHeartbeats 4000000 in
set_option maxRecDepth 100000 in
theorem kM_product_120 {p : Program} {l : Launch} {e : Env} {s : State} {m : MethodId} {args : Array Value} {below : List Frame} {meth : Method} {c : Code} (C : pw_C p s m args meth c cM_product 9 (some .long) "BitNumbersModel") {D : va_G} {ad : Nat → Nat} {A : Nat → Prop} (hK : va_K D clM (tyA ad) s) (hA : ∀ q, s.heap.size ≤ q → A q) : ∀ (n : Nat) (a1 : Int32) (a2 : Int64) (a4 : Int64) (a6 : Int32) (a8 : Int32) (σ : MS) (hz6 : a6 = 0 ∨ a6 = 1) (hS : SM_product_120 n a1 a2 a4 a6 a8 σ) (hI : pw_I a8 n 16) {H : Heap} {locs : List Loc} (hM : mw D ad A s.heap H locs σ) {ls : Array Slot} (hl : lv_has ls 9 [(0, .ref (ad 0)), (1, .int a1), (2, .long a2), (4, .long a4), (6, .int a6), (8, .int a8)]), W p l e rmM_product s m args below meth c H locs 0 0 (MQ below (va_Ql (fun r u => (r, u) = fM_product_120 n a1 a2 a4 a6 a8 σ) (mw_E D ad A) A) args s 0 0 A) (F0 m 120 ls []) := by
  obtain ⟨hx, hb, hr, hml, hown, hts, hlocks⟩ := id C
  intro n
  induction n with
  | zero =>
    intro a1 a2 a4 a6 a8 σ hz6 hS hI
    exact absurd hI pw_I_zero
  | succ n ih =>
    intro a1 a2 a4 a6 a8 σ hz6 hS hI H locs hM ls hl
    refine lv_iload hx hb dM_product_120 (lv_at hl 5 rfl) ?_
    refine lv_bipush (v := 16) hx hb dM_product_122 (by decide) ?_
    refine lv_icmp_ge (tgt := 149) hx hb dM_product_124 (by decide) (fun h1 => ?_) (fun h1 => ?_)
    · refine lv_aload_n hx hb dM_product_149 rfl (lv_at hl 0 rfl) ?_
      refine lv_iload_n hx hb dM_product_150 rfl (lv_at hl 1 rfl) ?_
      refine lv_lload_n hx hb dM_product_151 rfl (lv_at hl 2 rfl) ?_
      refine pw_call (va_runS (As := [.int a1, .long a2]) (rest := [.ref (ad 0)]) ⟨hx, hb, hml, hown, hts⟩ (qM_scaleOf l a1 a2) (va_cwS 2 hts (gS w_666 w_667 w_34 w_668) rfl rfl rfl (by decide +kernel) ⟨Nat.le_of_ble_eq_true rfl, Nat.le_of_ble_eq_true rfl⟩) ⟨pw_bT, fun U hU hW => ⟨rfl, trivial⟩⟩ rfl rfl hl.1 rfl (lv_room (Nat.le_of_ble_eq_true rfl)) dM_product_152 ⟨Nat.zero_le _, Nat.zero_le _⟩) ?_
      refine lv_iload_n hx hb dM_product_155 rfl (lv_at hl 1 rfl) ?_
      refine lv_lload hx hb dM_product_156 (lv_at hl 3 rfl) ?_
      refine pw_call (va_runS (As := [.int a1, .long a4]) (rest := [.int (fM_scaleOf a1 a2), .ref (ad 0)]) ⟨hx, hb, hml, hown, hts⟩ (qM_scaleOf l a1 a4) (va_cwS 2 hts (gS w_666 w_667 w_34 w_668) rfl rfl rfl (by decide +kernel) ⟨Nat.le_of_ble_eq_true rfl, Nat.le_of_ble_eq_true rfl⟩) ⟨pw_bT, fun U hU hW => ⟨rfl, trivial⟩⟩ rfl rfl hl.1 rfl (lv_room (Nat.le_of_ble_eq_true rfl)) dM_product_158 ⟨Nat.zero_le _, Nat.zero_le _⟩) ?_
      refine lv_iadd hx hb dM_product_161 ?_
      refine lv_bipush (v := 64) hx hb dM_product_162 (by decide) ?_
      refine lv_isub hx hb dM_product_164 ?_
      refine mw_put (v := .int (((fM_scaleOf a1 a2) + (fM_scaleOf a1 a4)) - 64)) (ty := .int) (σ' := ms_set_base σ (((fM_scaleOf a1 a2) + (fM_scaleOf a1 a4)) - 64)) hx hb hts hown hK hM 8 (by decide) (hts _ w_495) rfl (by decide +kernel) rfl rfl (mw_pt_base _ _ _) dM_product_165 (fun H locs hM => ?_)
      refine lv_aload_n hx hb dM_product_168 rfl (lv_at hl 0 rfl) ?_
      refine lv_iload_n hx hb dM_product_169 rfl (lv_at hl 1 rfl) ?_
      refine lv_iload hx hb dM_product_170 (lv_at hl 4 rfl) ?_
      have hS172 : ((SM_roundedRow a1 a6 (ms_set_base σ (((fM_scaleOf a1 a2) + (fM_scaleOf a1 a4)) - 64))) ∧ True) := by have w9 := hS; rw [SM_product_120, if_pos h1] at w9; exact w9
      refine mw_calll (F := fM_roundedRow a1 a6 (ms_set_base σ (((fM_scaleOf a1 a2) + (fM_scaleOf a1 a4)) - 64))) (va_runV (As := [.int a1, .int a6]) (rest := []) ⟨hx, hb, hml, hown, hts⟩ (qM_roundedRow l D ad a1 a6 (ms_set_base σ (((fM_scaleOf a1 a2) + (fM_scaleOf a1 a4)) - 64)) H.size hS172.1) (cwV 2 hts (gV w_722 w_724 w_18 w_34 w_725) rfl rfl rfl (by decide +kernel) ⟨Nat.le_of_ble_eq_true rfl, Nat.le_of_ble_eq_true rfl⟩) (mw_preV hK hM) rfl rfl hl.1 rfl (lv_room (Nat.le_of_ble_eq_true rfl)) dM_product_172 ⟨Nat.zero_le _, Nat.zero_le _⟩) hM hA (fun H locs hM => ?_)
      exact W.lret (v := (fM_roundedRow a1 a6 (ms_set_base σ (((fM_scaleOf a1 a2) + (fM_scaleOf a1 a4)) - 64))).1) hx hb hr (fun t ht hW => ⟨⟨(fM_roundedRow a1 a6 (ms_set_base σ (((fM_scaleOf a1 a2) + (fM_scaleOf a1 a4)) - 64))).1, (fM_roundedRow a1 a6 (ms_set_base σ (((fM_scaleOf a1 a2) + (fM_scaleOf a1 a4)) - 64))).2, rfl, by rw [(show fM_product_120 (n + 1) a1 a2 a4 a6 a8 σ = ((fM_roundedRow a1 a6 (ms_set_base σ (((fM_scaleOf a1 a2) + (fM_scaleOf a1 a4)) - 64))).1, (fM_roundedRow a1 a6 (ms_set_base σ (((fM_scaleOf a1 a2) + (fM_scaleOf a1 a4)) - 64))).2) by rw [fM_product_120, if_pos h1])], by rw [ht]; exact hM.1, va_K.moved hW.alike hK, hM.2.1⟩, hM.2.2.F ht⟩) hM.2.2.2.2 dM_product_175
    · refine lv_aload_n hx hb dM_product_127 rfl (lv_at hl 0 rfl) ?_
      refine mw_get (v := .ref (ad 3)) hx hb hts hown hK hM 5 (by decide) (hts _ w_492) (mw_fd_row _ _) dM_product_128 ?_
      refine lv_iload hx hb dM_product_131 (lv_at hl 5 rfl) ?_
      refine lv_iconst (v := 4) hx hb dM_product_133 (by decide) ?_
      refine lv_iadd hx hb dM_product_134 ?_
      refine lv_aload_n hx hb dM_product_135 rfl (lv_at hl 0 rfl) ?_
      refine mw_get (v := .ref (ad 5)) hx hb hts hown hK hM 7 (by decide) (hts _ w_494) (mw_fd_factor _ _) dM_product_136 ?_
      refine lv_iload hx hb dM_product_139 (lv_at hl 5 rfl) ?_
      refine mw_iald hx hb hK hM 5 (mw_ar_factor _ _) (pw_B_in (pw_I_body hI h1) (by decide)) dM_product_141 ?_
      refine mw_iast (σ' := ms_set_row σ (upd (ms_row σ) (a8 + 4).toNatClampNeg (ms_factor σ a8.toNatClampNeg))) hx hb hK hM 3 (mw_ar_row _ _) (pw_k4 (pw_I_body hI h1)) (mw_st_row _ _ _) dM_product_142 (fun H locs hM => ?_)
      refine lv_iinc (v := a8 + 1) (lv' := [(8, .int (a8 + 1)), (0, .ref (ad 0)), (1, .int a1), (2, .long a2), (4, .long a4), (6, .int a6)]) hx hb dM_product_143 hl (k := 5) rfl rfl (by decide) rfl (fun ls hl => ?_)
      refine lv_goto (tgt := 120) hx hb dM_product_146 (by decide) ?_
      have hS9 : (SM_product_120 n a1 a2 a4 a6 (a8 + 1) (ms_set_row σ (upd (ms_row σ) (a8 + 4).toNatClampNeg (ms_factor σ a8.toNatClampNeg)))) := by have w9 := hS; rw [SM_product_120, if_neg h1] at w9; exact w9
      rw [(show fM_product_120 (n + 1) a1 a2 a4 a6 a8 σ = fM_product_120 n a1 a2 a4 a6 (a8 + 1) (ms_set_row σ (upd (ms_row σ) (a8 + 4).toNatClampNeg (ms_factor σ a8.toNatClampNeg))) by rw [fM_product_120, if_neg h1])]
      exact ih a1 a2 a4 a6 (a8 + 1) (ms_set_row σ (upd (ms_row σ) (a8 + 4).toNatClampNeg (ms_factor σ a8.toNatClampNeg))) hz6 (hS9) (pw_B_next (pw_I_body hI h1)) hM (lv_sub hl [1, 2, 3, 4, 5, 0] rfl)
set_option maxHeartbeats 4000000 in
set_option maxRecDepth 100000 in
theorem kM_product_117 {p : Program} {l : Launch} {e : Env} {s : State} {m : MethodId} {args : Array Value} {below : List Frame} {meth : Method} {c : Code} (C : pw_C p s m args meth c cM_product 9 (some .long) "BitNumbersModel") {D : va_G} {ad : Nat → Nat} {A : Nat → Prop} (hK : va_K D clM (tyA ad) s) (hA : ∀ q, s.heap.size ≤ q → A q) (a1 : Int32) (a2 : Int64) (a4 : Int64) (a6 : Int32) (σ : MS) (hz6 : a6 = 0 ∨ a6 = 1) (hS : SM_product_117 a1 a2 a4 a6 σ) {H : Heap} {locs : List Loc} (hM : mw D ad A s.heap H locs σ) {ls : Array Slot} (hl : lv_has ls 9 [(0, .ref (ad 0)), (1, .int a1), (2, .long a2), (4, .long a4), (6, .int a6)]) : W p l e rmM_product s m args below meth c H locs 0 0 (MQ below (va_Ql (fun r u => (r, u) = fM_product_117 a1 a2 a4 a6 σ) (mw_E D ad A) A) args s 0 0 A) (F0 m 117 ls []) := by
  obtain ⟨hx, hb, hr, hml, hown, hts, hlocks⟩ := id C
  refine lv_iconst (v := 0) hx hb dM_product_117 (by decide) ?_
  refine lv_istore (lv' := [(8, .int 0), (0, .ref (ad 0)), (1, .int a1), (2, .long a2), (4, .long a4), (6, .int a6)]) hx hb dM_product_118 hl (by decide) rfl (fun ls hl => ?_)
  have hS9 : (SM_product_120 17 a1 a2 a4 a6 0 σ) := by have w9 := hS; rw [SM_product_117] at w9; exact w9
  rw [(show fM_product_117 a1 a2 a4 a6 σ = fM_product_120 17 a1 a2 a4 a6 0 σ by rw [fM_product_117])]
  exact kM_product_120 C hK hA 17 a1 a2 a4 a6 0 σ hz6 (hS9) (⟨0, by decide, by decide, by decide⟩ : pw_I 0 17 16) hM (lv_sub hl [1, 2, 3, 4, 5, 0] rfl)
set_option maxHeartbeats 4000000 in
set_option maxRecDepth 100000 in
theorem kM_product_113 {p : Program} {l : Launch} {e : Env} {s : State} {m : MethodId} {args : Array Value} {below : List Frame} {meth : Method} {c : Code} (C : pw_C p s m args meth c cM_product 9 (some .long) "BitNumbersModel") {D : va_G} {ad : Nat → Nat} {A : Nat → Prop} (hK : va_K D clM (tyA ad) s) (hA : ∀ q, s.heap.size ≤ q → A q) (a1 : Int32) (a2 : Int64) (a4 : Int64) (a6 : Int32) (σ : MS) (hz6 : a6 = 0 ∨ a6 = 1) (hS : SM_product_113 a1 a2 a4 a6 σ) {H : Heap} {locs : List Loc} (hM : mw D ad A s.heap H locs σ) {ls : Array Slot} (hl : lv_has ls 9 [(0, .ref (ad 0)), (1, .int a1), (2, .long a2), (4, .long a4), (6, .int a6)]) : W p l e rmM_product s m args below meth c H locs 0 0 (MQ below (va_Ql (fun r u => (r, u) = fM_product_113 a1 a2 a4 a6 σ) (mw_E D ad A) A) args s 0 0 A) (F0 m 113 ls []) := by
  obtain ⟨hx, hb, hr, hml, hown, hts, hlocks⟩ := id C
  refine lv_aload_n hx hb dM_product_113 rfl (lv_at hl 0 rfl) ?_
  refine mw_callv (F := fM_clearRows σ) (va_runV (As := []) (rest := []) ⟨hx, hb, hml, hown, hts⟩ (qM_clearRows l D ad σ H.size) (cwV 0 hts (gV w_738 w_740 w_22 w_34 w_741) rfl rfl rfl (by decide +kernel) ⟨Nat.le_of_ble_eq_true rfl, Nat.le_of_ble_eq_true rfl⟩) (mw_preV hK hM) rfl rfl hl.1 rfl (lv_room (Nat.le_of_ble_eq_true rfl)) dM_product_114 ⟨Nat.zero_le _, Nat.zero_le _⟩) hM hA (fun H locs hM => ?_)
  have hS9 : (SM_product_117 a1 a2 a4 a6 (fM_clearRows σ)) := by have w9 := hS; rw [SM_product_113] at w9; exact w9
  rw [(show fM_product_113 a1 a2 a4 a6 σ = fM_product_117 a1 a2 a4 a6 (fM_clearRows σ) by rw [fM_product_113])]
  exact kM_product_117 C hK hA a1 a2 a4 a6 (fM_clearRows σ) hz6 (hS9) hM (lv_sub hl [0, 1, 2, 3, 4] rfl)
set_option maxHeartbeats 4000000 in
set_option maxRecDepth 100000 in
theorem kM_product_62 {p : Program} {l : Launch} {e : Env} {s : State} {m : MethodId} {args : Array Value} {below : List Frame} {meth : Method} {c : Code} (C : pw_C p s m args meth c cM_product 9 (some .long) "BitNumbersModel") {D : va_G} {ad : Nat → Nat} {A : Nat → Prop} (hK : va_K D clM (tyA ad) s) (hA : ∀ q, s.heap.size ≤ q → A q) (a1 : Int32) (a6 : Int32) (a7 : Int32) (σ : MS) (hz6 : a6 = 0 ∨ a6 = 1) (hz7 : a7 = 0 ∨ a7 = 1) (hS : SM_product_62 a1 a6 a7 σ) {H : Heap} {locs : List Loc} (hM : mw D ad A s.heap H locs σ) {ls : Array Slot} (hl : lv_has ls 9 [(1, .int a1), (6, .int a6), (7, .int a7)]) : W p l e rmM_product s m args below meth c H locs 0 0 (MQ below (va_Ql (fun r u => (r, u) = fM_product_62 a1 a6 a7 σ) (mw_E D ad A) A) args s 0 0 A) (F0 m 62 ls []) := by
  obtain ⟨hx, hb, hr, hml, hown, hts, hlocks⟩ := id C
  refine lv_iload hx hb dM_product_62 (lv_at hl 2 rfl) ?_
  refine lv_if_eq (tgt := 74) hx hb dM_product_64 (by decide) (fun h1 => ?_) (fun h1 => ?_)
  · refine lv_iload_n hx hb dM_product_74 rfl (lv_at hl 0 rfl) ?_
    refine lv_iload hx hb dM_product_75 (lv_at hl 1 rfl) ?_
    refine lv_iload_n hx hb dM_product_77 rfl (lv_at hl 0 rfl) ?_
    refine pw_call (va_runS (As := [.int a1]) (rest := [.int a6, .int a1]) ⟨hx, hb, hml, hown, hts⟩ (qM_infinite l a1) (va_cwS 1 hts (gS w_700 w_701 w_34 w_702) rfl rfl rfl (by decide +kernel) ⟨Nat.le_of_ble_eq_true rfl, Nat.le_of_ble_eq_true rfl⟩) ⟨pw_bT, fun U hU hW => ⟨rfl, trivial⟩⟩ rfl rfl hl.1 rfl (lv_room (Nat.le_of_ble_eq_true rfl)) dM_product_78 ⟨Nat.zero_le _, Nat.zero_le _⟩) ?_
    refine pw_call (va_runS (As := [.int a1, .int a6, .long (fM_infinite a1)]) (rest := []) ⟨hx, hb, hml, hown, hts⟩ (qM_signed l a1 a6 (fM_infinite a1)) (va_cwS 3 hts (gS w_648 w_649 w_34 w_650) rfl rfl rfl (by decide +kernel) ⟨Nat.le_of_ble_eq_true rfl, Nat.le_of_ble_eq_true rfl⟩) ⟨pw_bT, fun U hU hW => ⟨rfl, trivial⟩⟩ rfl rfl hl.1 rfl (lv_room (Nat.le_of_ble_eq_true rfl)) dM_product_81 ⟨Nat.zero_le _, Nat.zero_le _⟩) ?_
    exact W.lret (v := fM_signed a1 a6 (fM_infinite a1)) hx hb hr (fun t ht hW => ⟨⟨fM_signed a1 a6 (fM_infinite a1), σ, rfl, by rw [(show fM_product_62 a1 a6 a7 σ = (fM_signed a1 a6 (fM_infinite a1), σ) by rw [fM_product_62, if_pos h1])], by rw [ht]; exact hM.1, va_K.moved hW.alike hK, hM.2.1⟩, hM.2.2.F ht⟩) hM.2.2.2.2 dM_product_84
  · refine lv_iload_n hx hb dM_product_67 rfl (lv_at hl 0 rfl) ?_
    refine pw_call (va_runS (As := [.int a1]) (rest := []) ⟨hx, hb, hml, hown, hts⟩ (qM_theNone l a1) (va_cwS 1 hts (gS w_651 w_652 w_34 w_653) rfl rfl rfl (by decide +kernel) ⟨Nat.le_of_ble_eq_true rfl, Nat.le_of_ble_eq_true rfl⟩) ⟨pw_bT, fun U hU hW => ⟨rfl, trivial⟩⟩ rfl rfl hl.1 rfl (lv_room (Nat.le_of_ble_eq_true rfl)) dM_product_68 ⟨Nat.zero_le _, Nat.zero_le _⟩) ?_
    refine lv_goto (tgt := 84) hx hb dM_product_71 (by decide) ?_
    exact W.lret (v := fM_theNone a1) hx hb hr (fun t ht hW => ⟨⟨fM_theNone a1, σ, rfl, by rw [(show fM_product_62 a1 a6 a7 σ = (fM_theNone a1, σ) by rw [fM_product_62, if_neg h1])], by rw [ht]; exact hM.1, va_K.moved hW.alike hK, hM.2.1⟩, hM.2.2.F ht⟩) hM.2.2.2.2 dM_product_84
set_option maxHeartbeats 4000000 in
set_option maxRecDepth 100000 in
theorem kM_product_43 {p : Program} {l : Launch} {e : Env} {s : State} {m : MethodId} {args : Array Value} {below : List Frame} {meth : Method} {c : Code} (C : pw_C p s m args meth c cM_product 9 (some .long) "BitNumbersModel") {D : va_G} {ad : Nat → Nat} {A : Nat → Prop} (hK : va_K D clM (tyA ad) s) (hA : ∀ q, s.heap.size ≤ q → A q) (a1 : Int32) (a2 : Int64) (a4 : Int64) (a6 : Int32) (s0 : Int32) (σ : MS) (hz6 : a6 = 0 ∨ a6 = 1) (hzs0 : s0 = 0 ∨ s0 = 1) (hS : SM_product_43 a1 a2 a4 a6 s0 σ) {H : Heap} {locs : List Loc} (hM : mw D ad A s.heap H locs σ) {ls : Array Slot} (hl : lv_has ls 9 [(0, .ref (ad 0)), (1, .int a1), (2, .long a2), (4, .long a4), (6, .int a6)]) : W p l e rmM_product s m args below meth c H locs 0 0 (MQ below (va_Ql (fun r u => (r, u) = fM_product_43 a1 a2 a4 a6 s0 σ) (mw_E D ad A) A) args s 0 0 A) (F0 m 43 ls [.int s0]) := by
  obtain ⟨hx, hb, hr, hml, hown, hts, hlocks⟩ := id C
  refine lv_istore (lv' := [(7, .int s0), (0, .ref (ad 0)), (1, .int a1), (2, .long a2), (4, .long a4), (6, .int a6)]) hx hb dM_product_43 hl (by decide) rfl (fun ls hl => ?_)
  refine lv_iload_n hx hb dM_product_45 rfl (lv_at hl 2 rfl) ?_
  refine lv_lload_n hx hb dM_product_46 rfl (lv_at hl 3 rfl) ?_
  refine pw_call (va_runS (As := [.int a1, .long a2]) (rest := []) ⟨hx, hb, hml, hown, hts⟩ (qM_isInfinite l a1 a2) (va_cwS 2 hts (gS w_660 w_661 w_34 w_662) rfl rfl rfl (by decide +kernel) ⟨Nat.le_of_ble_eq_true rfl, Nat.le_of_ble_eq_true rfl⟩) ⟨pw_bT, fun U hU hW => ⟨rfl, trivial⟩⟩ rfl rfl hl.1 rfl (lv_room (Nat.le_of_ble_eq_true rfl)) dM_product_47 ⟨Nat.zero_le _, Nat.zero_le _⟩) ?_
  refine lv_if_ne (tgt := 62) hx hb dM_product_50 (by decide) (fun h1 => ?_) (fun h1 => ?_)
  · have hS9 : (SM_product_62 a1 a6 s0 σ) := by have w9 := hS; rw [SM_product_43, if_neg h1] at w9; exact w9
    rw [(show fM_product_43 a1 a2 a4 a6 s0 σ = fM_product_62 a1 a6 s0 σ by rw [fM_product_43, if_neg h1])]
    exact kM_product_62 C hK hA a1 a6 s0 σ hz6 hzs0 (hS9) hM (lv_sub hl [2, 5, 0] rfl)
  · refine lv_iload_n hx hb dM_product_53 rfl (lv_at hl 2 rfl) ?_
    refine lv_lload hx hb dM_product_54 (lv_at hl 4 rfl) ?_
    refine pw_call (va_runS (As := [.int a1, .long a4]) (rest := []) ⟨hx, hb, hml, hown, hts⟩ (qM_isInfinite l a1 a4) (va_cwS 2 hts (gS w_660 w_661 w_34 w_662) rfl rfl rfl (by decide +kernel) ⟨Nat.le_of_ble_eq_true rfl, Nat.le_of_ble_eq_true rfl⟩) ⟨pw_bT, fun U hU hW => ⟨rfl, trivial⟩⟩ rfl rfl hl.1 rfl (lv_room (Nat.le_of_ble_eq_true rfl)) dM_product_56 ⟨Nat.zero_le _, Nat.zero_le _⟩) ?_
    refine lv_if_eq (tgt := 85) hx hb dM_product_59 (by decide) (fun h2 => ?_) (fun h2 => ?_)
    · refine lv_iload hx hb dM_product_85 (lv_at hl 0 rfl) ?_
      refine lv_if_eq (tgt := 98) hx hb dM_product_87 (by decide) (fun h3 => ?_) (fun h3 => ?_)
      · refine lv_aload_n hx hb dM_product_98 rfl (lv_at hl 1 rfl) ?_
        refine lv_iload_n hx hb dM_product_99 rfl (lv_at hl 2 rfl) ?_
        refine lv_lload_n hx hb dM_product_100 rfl (lv_at hl 3 rfl) ?_
        refine pw_call (va_runS (As := [.int a1, .long a2]) (rest := [.ref (ad 0)]) ⟨hx, hb, hml, hown, hts⟩ (qM_significand l a1 a2) (va_cwS 2 hts (gS w_663 w_664 w_34 w_665) rfl rfl rfl (by decide +kernel) ⟨Nat.le_of_ble_eq_true rfl, Nat.le_of_ble_eq_true rfl⟩) ⟨pw_bT, fun U hU hW => ⟨rfl, trivial⟩⟩ rfl rfl hl.1 rfl (lv_room (Nat.le_of_ble_eq_true rfl)) dM_product_101 ⟨Nat.zero_le _, Nat.zero_le _⟩) ?_
        refine lv_iload_n hx hb dM_product_104 rfl (lv_at hl 2 rfl) ?_
        refine lv_lload hx hb dM_product_105 (lv_at hl 4 rfl) ?_
        refine pw_call (va_runS (As := [.int a1, .long a4]) (rest := [.long (fM_significand a1 a2), .ref (ad 0)]) ⟨hx, hb, hml, hown, hts⟩ (qM_significand l a1 a4) (va_cwS 2 hts (gS w_663 w_664 w_34 w_665) rfl rfl rfl (by decide +kernel) ⟨Nat.le_of_ble_eq_true rfl, Nat.le_of_ble_eq_true rfl⟩) ⟨pw_bT, fun U hU hW => ⟨rfl, trivial⟩⟩ rfl rfl hl.1 rfl (lv_room (Nat.le_of_ble_eq_true rfl)) dM_product_107 ⟨Nat.zero_le _, Nat.zero_le _⟩) ?_
        refine mw_callv (F := fM_multiply (fM_significand a1 a2) (fM_significand a1 a4) σ) (va_runV (As := [.long (fM_significand a1 a2), .long (fM_significand a1 a4)]) (rest := []) ⟨hx, hb, hml, hown, hts⟩ (qM_multiply l D ad (fM_significand a1 a2) (fM_significand a1 a4) σ H.size) (cwV 2 hts (gV w_687 w_689 w_11 w_34 w_690) rfl rfl rfl (by decide +kernel) ⟨Nat.le_of_ble_eq_true rfl, Nat.le_of_ble_eq_true rfl⟩) (mw_preV hK hM) rfl rfl hl.1 rfl (lv_room (Nat.le_of_ble_eq_true rfl)) dM_product_110 ⟨Nat.zero_le _, Nat.zero_le _⟩) hM hA (fun H locs hM => ?_)
        have hS9 : (SM_product_113 a1 a2 a4 a6 (fM_multiply (fM_significand a1 a2) (fM_significand a1 a4) σ)) := by have w9 := hS; rw [SM_product_43, if_pos h1, if_pos h2, if_pos h3] at w9; exact w9
        rw [(show fM_product_43 a1 a2 a4 a6 s0 σ = fM_product_113 a1 a2 a4 a6 (fM_multiply (fM_significand a1 a2) (fM_significand a1 a4) σ) by rw [fM_product_43, if_pos h1, if_pos h2, if_pos h3])]
        exact kM_product_113 C hK hA a1 a2 a4 a6 (fM_multiply (fM_significand a1 a2) (fM_significand a1 a4) σ) hz6 (hS9) hM (lv_sub hl [1, 2, 3, 4, 5] rfl)
      · refine lv_iload_n hx hb dM_product_90 rfl (lv_at hl 2 rfl) ?_
        refine lv_iload hx hb dM_product_91 (lv_at hl 5 rfl) ?_
        refine lv_lconst (v := 0) hx hb dM_product_93 (by decide) ?_
        refine pw_call (va_runS (As := [.int a1, .int a6, .long 0]) (rest := []) ⟨hx, hb, hml, hown, hts⟩ (qM_signed l a1 a6 0) (va_cwS 3 hts (gS w_648 w_649 w_34 w_650) rfl rfl rfl (by decide +kernel) ⟨Nat.le_of_ble_eq_true rfl, Nat.le_of_ble_eq_true rfl⟩) ⟨pw_bT, fun U hU hW => ⟨rfl, trivial⟩⟩ rfl rfl hl.1 rfl (lv_room (Nat.le_of_ble_eq_true rfl)) dM_product_94 ⟨Nat.zero_le _, Nat.zero_le _⟩) ?_
        exact W.lret (v := fM_signed a1 a6 0) hx hb hr (fun t ht hW => ⟨⟨fM_signed a1 a6 0, σ, rfl, by rw [(show fM_product_43 a1 a2 a4 a6 s0 σ = (fM_signed a1 a6 0, σ) by rw [fM_product_43, if_pos h1, if_pos h2, if_neg h3])], by rw [ht]; exact hM.1, va_K.moved hW.alike hK, hM.2.1⟩, hM.2.2.F ht⟩) hM.2.2.2.2 dM_product_97
    · have hS9 : (SM_product_62 a1 a6 s0 σ) := by have w9 := hS; rw [SM_product_43, if_pos h1, if_neg h2] at w9; exact w9
      rw [(show fM_product_43 a1 a2 a4 a6 s0 σ = fM_product_62 a1 a6 s0 σ by rw [fM_product_43, if_pos h1, if_neg h2])]
      exact kM_product_62 C hK hA a1 a6 s0 σ hz6 hzs0 (hS9) hM (lv_sub hl [2, 5, 0] rfl)
set_option maxHeartbeats 4000000 in
set_option maxRecDepth 100000 in
theorem kM_product_38 {p : Program} {l : Launch} {e : Env} {s : State} {m : MethodId} {args : Array Value} {below : List Frame} {meth : Method} {c : Code} (C : pw_C p s m args meth c cM_product 9 (some .long) "BitNumbersModel") {D : va_G} {ad : Nat → Nat} {A : Nat → Prop} (hK : va_K D clM (tyA ad) s) (hA : ∀ q, s.heap.size ≤ q → A q) (a1 : Int32) (a2 : Int64) (a4 : Int64) (a6 : Int32) (σ : MS) (hz6 : a6 = 0 ∨ a6 = 1) (hS : SM_product_38 a1 a2 a4 a6 σ) {H : Heap} {locs : List Loc} (hM : mw D ad A s.heap H locs σ) {ls : Array Slot} (hl : lv_has ls 9 [(0, .ref (ad 0)), (1, .int a1), (2, .long a2), (4, .long a4), (6, .int a6)]) : W p l e rmM_product s m args below meth c H locs 0 0 (MQ below (va_Ql (fun r u => (r, u) = fM_product_38 a1 a2 a4 a6 σ) (mw_E D ad A) A) args s 0 0 A) (F0 m 38 ls []) := by
  obtain ⟨hx, hb, hr, hml, hown, hts, hlocks⟩ := id C
  refine lv_iconst (v := 1) hx hb dM_product_38 (by decide) ?_
  refine lv_goto (tgt := 43) hx hb dM_product_39 (by decide) ?_
  have hS9 : (SM_product_43 a1 a2 a4 a6 1 σ) := by have w9 := hS; rw [SM_product_38] at w9; exact w9
  rw [(show fM_product_38 a1 a2 a4 a6 σ = fM_product_43 a1 a2 a4 a6 1 σ by rw [fM_product_38])]
  exact kM_product_43 C hK hA a1 a2 a4 a6 1 σ hz6 (Or.inr rfl) (hS9) hM (lv_sub hl [0, 1, 2, 3, 4] rfl)
set_option maxHeartbeats 4000000 in
set_option maxRecDepth 100000 in
theorem kM_product_19 {p : Program} {l : Launch} {e : Env} {s : State} {m : MethodId} {args : Array Value} {below : List Frame} {meth : Method} {c : Code} (C : pw_C p s m args meth c cM_product 9 (some .long) "BitNumbersModel") {D : va_G} {ad : Nat → Nat} {A : Nat → Prop} (hK : va_K D clM (tyA ad) s) (hA : ∀ q, s.heap.size ≤ q → A q) (a1 : Int32) (a2 : Int64) (a4 : Int64) (s0 : Int32) (σ : MS) (hzs0 : s0 = 0 ∨ s0 = 1) (hS : SM_product_19 a1 a2 a4 s0 σ) {H : Heap} {locs : List Loc} (hM : mw D ad A s.heap H locs σ) {ls : Array Slot} (hl : lv_has ls 9 [(0, .ref (ad 0)), (1, .int a1), (2, .long a2), (4, .long a4)]) : W p l e rmM_product s m args below meth c H locs 0 0 (MQ below (va_Ql (fun r u => (r, u) = fM_product_19 a1 a2 a4 s0 σ) (mw_E D ad A) A) args s 0 0 A) (F0 m 19 ls [.int s0]) := by
  obtain ⟨hx, hb, hr, hml, hown, hts, hlocks⟩ := id C
  refine lv_istore (lv' := [(6, .int s0), (0, .ref (ad 0)), (1, .int a1), (2, .long a2), (4, .long a4)]) hx hb dM_product_19 hl (by decide) rfl (fun ls hl => ?_)
  refine lv_iload_n hx hb dM_product_21 rfl (lv_at hl 2 rfl) ?_
  refine lv_lload_n hx hb dM_product_22 rfl (lv_at hl 3 rfl) ?_
  refine pw_call (va_runS (As := [.int a1, .long a2]) (rest := []) ⟨hx, hb, hml, hown, hts⟩ (qM_isZero l a1 a2) (va_cwS 2 hts (gS w_609 w_610 w_34 w_611) rfl rfl rfl (by decide +kernel) ⟨Nat.le_of_ble_eq_true rfl, Nat.le_of_ble_eq_true rfl⟩) ⟨pw_bT, fun U hU hW => ⟨rfl, trivial⟩⟩ rfl rfl hl.1 rfl (lv_room (Nat.le_of_ble_eq_true rfl)) dM_product_23 ⟨Nat.zero_le _, Nat.zero_le _⟩) ?_
  refine lv_if_ne (tgt := 38) hx hb dM_product_26 (by decide) (fun h1 => ?_) (fun h1 => ?_)
  · have hS9 : (SM_product_38 a1 a2 a4 s0 σ) := by have w9 := hS; rw [SM_product_19, if_neg h1] at w9; exact w9
    rw [(show fM_product_19 a1 a2 a4 s0 σ = fM_product_38 a1 a2 a4 s0 σ by rw [fM_product_19, if_neg h1])]
    exact kM_product_38 C hK hA a1 a2 a4 s0 σ hzs0 (hS9) hM (lv_sub hl [1, 2, 3, 4, 0] rfl)
  · refine lv_iload_n hx hb dM_product_29 rfl (lv_at hl 2 rfl) ?_
    refine lv_lload hx hb dM_product_30 (lv_at hl 4 rfl) ?_
    refine pw_call (va_runS (As := [.int a1, .long a4]) (rest := []) ⟨hx, hb, hml, hown, hts⟩ (qM_isZero l a1 a4) (va_cwS 2 hts (gS w_609 w_610 w_34 w_611) rfl rfl rfl (by decide +kernel) ⟨Nat.le_of_ble_eq_true rfl, Nat.le_of_ble_eq_true rfl⟩) ⟨pw_bT, fun U hU hW => ⟨rfl, trivial⟩⟩ rfl rfl hl.1 rfl (lv_room (Nat.le_of_ble_eq_true rfl)) dM_product_32 ⟨Nat.zero_le _, Nat.zero_le _⟩) ?_
    refine lv_if_eq (tgt := 42) hx hb dM_product_35 (by decide) (fun h2 => ?_) (fun h2 => ?_)
    · refine lv_iconst (v := 0) hx hb dM_product_42 (by decide) ?_
      have hS9 : (SM_product_43 a1 a2 a4 s0 0 σ) := by have w9 := hS; rw [SM_product_19, if_pos h1, if_pos h2] at w9; exact w9
      rw [(show fM_product_19 a1 a2 a4 s0 σ = fM_product_43 a1 a2 a4 s0 0 σ by rw [fM_product_19, if_pos h1, if_pos h2])]
      exact kM_product_43 C hK hA a1 a2 a4 s0 0 σ hzs0 (Or.inl rfl) (hS9) hM (lv_sub hl [1, 2, 3, 4, 0] rfl)
    · have hS9 : (SM_product_38 a1 a2 a4 s0 σ) := by have w9 := hS; rw [SM_product_19, if_pos h1, if_neg h2] at w9; exact w9
      rw [(show fM_product_19 a1 a2 a4 s0 σ = fM_product_38 a1 a2 a4 s0 σ by rw [fM_product_19, if_pos h1, if_neg h2])]
      exact kM_product_38 C hK hA a1 a2 a4 s0 σ hzs0 (hS9) hM (lv_sub hl [1, 2, 3, 4, 0] rfl)
set_option maxHeartbeats 4000000 in
set_option maxRecDepth 100000 in
theorem kM_product_0 {p : Program} {l : Launch} {e : Env} {s : State} {m : MethodId} {args : Array Value} {below : List Frame} {meth : Method} {c : Code} (C : pw_C p s m args meth c cM_product 9 (some .long) "BitNumbersModel") {D : va_G} {ad : Nat → Nat} {A : Nat → Prop} (hK : va_K D clM (tyA ad) s) (hA : ∀ q, s.heap.size ≤ q → A q) (a1 : Int32) (a2 : Int64) (a4 : Int64) (σ : MS) (hS : SM_product a1 a2 a4 σ) {H : Heap} {locs : List Loc} (hM : mw D ad A s.heap H locs σ) {ls : Array Slot} (hl : lv_has ls 9 [(0, .ref (ad 0)), (1, .int a1), (2, .long a2), (4, .long a4)]) : W p l e rmM_product s m args below meth c H locs 0 0 (MQ below (va_Ql (fun r u => (r, u) = fM_product a1 a2 a4 σ) (mw_E D ad A) A) args s 0 0 A) (F0 m 0 ls []) := by
  obtain ⟨hx, hb, hr, hml, hown, hts, hlocks⟩ := id C
  refine lv_iload_n hx hb dM_product_0 rfl (lv_at hl 1 rfl) ?_
  refine lv_lload_n hx hb dM_product_1 rfl (lv_at hl 2 rfl) ?_
  refine pw_call (va_runS (As := [.int a1, .long a2]) (rest := []) ⟨hx, hb, hml, hown, hts⟩ (qM_isMinus l a1 a2) (va_cwS 2 hts (gS w_615 w_616 w_34 w_617) rfl rfl rfl (by decide +kernel) ⟨Nat.le_of_ble_eq_true rfl, Nat.le_of_ble_eq_true rfl⟩) ⟨pw_bT, fun U hU hW => ⟨rfl, trivial⟩⟩ rfl rfl hl.1 rfl (lv_room (Nat.le_of_ble_eq_true rfl)) dM_product_2 ⟨Nat.zero_le _, Nat.zero_le _⟩) ?_
  refine lv_iload_n hx hb dM_product_5 rfl (lv_at hl 1 rfl) ?_
  refine lv_lload hx hb dM_product_6 (lv_at hl 3 rfl) ?_
  refine pw_call (va_runS (As := [.int a1, .long a4]) (rest := [.int (fM_isMinus a1 a2)]) ⟨hx, hb, hml, hown, hts⟩ (qM_isMinus l a1 a4) (va_cwS 2 hts (gS w_615 w_616 w_34 w_617) rfl rfl rfl (by decide +kernel) ⟨Nat.le_of_ble_eq_true rfl, Nat.le_of_ble_eq_true rfl⟩) ⟨pw_bT, fun U hU hW => ⟨rfl, trivial⟩⟩ rfl rfl hl.1 rfl (lv_room (Nat.le_of_ble_eq_true rfl)) dM_product_8 ⟨Nat.zero_le _, Nat.zero_le _⟩) ?_
  refine lv_icmp_eq (tgt := 18) hx hb dM_product_11 (by decide) (fun h1 => ?_) (fun h1 => ?_)
  · refine lv_iconst (v := 0) hx hb dM_product_18 (by decide) ?_
    have hS9 : (SM_product_19 a1 a2 a4 0 σ) := by have w9 := hS; rw [SM_product, if_pos h1] at w9; exact w9
    rw [(show fM_product a1 a2 a4 σ = fM_product_19 a1 a2 a4 0 σ by rw [fM_product, if_pos h1])]
    exact kM_product_19 C hK hA a1 a2 a4 0 σ (Or.inl rfl) (hS9) hM (lv_sub hl [0, 1, 2, 3] rfl)
  · refine lv_iconst (v := 1) hx hb dM_product_14 (by decide) ?_
    refine lv_goto (tgt := 19) hx hb dM_product_15 (by decide) ?_
    have hS9 : (SM_product_19 a1 a2 a4 1 σ) := by have w9 := hS; rw [SM_product, if_neg h1] at w9; exact w9
    rw [(show fM_product a1 a2 a4 σ = fM_product_19 a1 a2 a4 1 σ by rw [fM_product, if_neg h1])]
    exact kM_product_19 C hK hA a1 a2 a4 1 σ (Or.inr rfl) (hS9) hM (lv_sub hl [0, 1, 2, 3] rfl)
set_option maxHeartbeats 4000000 in
set_option maxRecDepth 100000 in
theorem qM_product (l : Launch) (D : va_G) (ad : Nat → Nat) (a1 : Int32) (a2 : Int64) (a4 : Int64) (σ : MS) (sz : Nat) (hS : SM_product a1 a2 a4 σ) : Met l yM_product wsM_product rmM_product (va_Pc [.ref (ad 0), .int a1, .long a2, .long a4] (mw_B D ad σ sz)) (va_Ql (fun r u => (r, u) = fM_product a1 a2 a4 σ) (mw_E D ad (va_A (mw_c ad σ) sz)) (va_A (mw_c ad σ) sz)) 0 0 (va_A (mw_c ad σ) sz) := by
  refine Met.ofW (cc := cM_product) (maxL := 9) (ret := (some .long)) (by decide) rfl ?_
  intro p e s m args below meth c s₁ B hml hv
  obtain ⟨rfl, hsz, hP, hK, hD⟩ := hv
  have hts0 := atoms_spec (ws := wsM_product) B.pre
  have hts := fun (w : Cond) (h : w ∈ aw) => hts0 w (List.mem_cons_of_mem _ h)
  have hown : s.vm.findClass "BitNumbersModel" = some m.cls := findClass_of_methodNamed B.named
  subst hsz
  have hl := lv_entry ([.ref (ad 0), .int a1, .long a2, .long a4]) (n := 9) (Nat.le_of_ble_eq_true rfl)
  rw [lg_entry_eq]
  generalize (lg_sl ([.ref (ad 0), .int a1, .long a2, .long a4]) ++ List.replicate (9 - (lg_sl ([.ref (ad 0), .int a1, .long a2, .long a4])).length) Slot.unset).toArray = ls at hl ⊢
  exact kM_product_0 ⟨B.exec, B.bytes, B.returns, hml, hown, hts, B.notSynchronized⟩ hK (fun q h => Or.inr h) a1 a2 a4 σ hS ⟨hP, hD.self, va_S.rf⟩ hl

set_option maxHeartbeats 4000000 in
set_option maxRecDepth 100000 in
theorem kM_byQuotient_117 {p : Program} {l : Launch} {e : Env} {s : State} {m : MethodId} {args : Array Value} {below : List Frame} {meth : Method} {c : Code} (C : pw_C p s m args meth c cM_byQuotient 8 (some .long) "BitNumbersModel") {D : va_G} {ad : Nat → Nat} {A : Nat → Prop} (hK : va_K D clM (tyA ad) s) (hA : ∀ q, s.heap.size ≤ q → A q) (a1 : Int32) (a6 : Int32) (σ : MS) (hz6 : a6 = 0 ∨ a6 = 1) (hS : SM_byQuotient_117 a1 a6 σ) {H : Heap} {locs : List Loc} (hM : mw D ad A s.heap H locs σ) {ls : Array Slot} (hl : lv_has ls 8 [(1, .int a1), (6, .int a6)]) : W p l e rmM_byQuotient s m args below meth c H locs 0 0 (MQ below (va_Ql (fun r u => (r, u) = fM_byQuotient_117 a1 a6 σ) (mw_E D ad A) A) args s 0 0 A) (F0 m 117 ls []) := by
  obtain ⟨hx, hb, hr, hml, hown, hts, hlocks⟩ := id C
  refine lv_iload_n hx hb dM_byQuotient_117 rfl (lv_at hl 0 rfl) ?_
  refine lv_iload hx hb dM_byQuotient_118 (lv_at hl 1 rfl) ?_
  refine lv_lconst (v := 0) hx hb dM_byQuotient_120 (by decide) ?_
  refine pw_call (va_runS (As := [.int a1, .int a6, .long 0]) (rest := []) ⟨hx, hb, hml, hown, hts⟩ (qM_signed l a1 a6 0) (va_cwS 3 hts (gS w_648 w_649 w_34 w_650) rfl rfl rfl (by decide +kernel) ⟨Nat.le_of_ble_eq_true rfl, Nat.le_of_ble_eq_true rfl⟩) ⟨pw_bT, fun U hU hW => ⟨rfl, trivial⟩⟩ rfl rfl hl.1 rfl (lv_room (Nat.le_of_ble_eq_true rfl)) dM_byQuotient_121 ⟨Nat.zero_le _, Nat.zero_le _⟩) ?_
  exact W.lret (v := fM_signed a1 a6 0) hx hb hr (fun t ht hW => ⟨⟨fM_signed a1 a6 0, σ, rfl, by rw [(show fM_byQuotient_117 a1 a6 σ = (fM_signed a1 a6 0, σ) by rw [fM_byQuotient_117])], by rw [ht]; exact hM.1, va_K.moved hW.alike hK, hM.2.1⟩, hM.2.2.F ht⟩) hM.2.2.2.2 dM_byQuotient_124
set_option maxHeartbeats 4000000 in
set_option maxRecDepth 100000 in
theorem kM_byQuotient_89 {p : Program} {l : Launch} {e : Env} {s : State} {m : MethodId} {args : Array Value} {below : List Frame} {meth : Method} {c : Code} (C : pw_C p s m args meth c cM_byQuotient 8 (some .long) "BitNumbersModel") {D : va_G} {ad : Nat → Nat} {A : Nat → Prop} (hK : va_K D clM (tyA ad) s) (hA : ∀ q, s.heap.size ≤ q → A q) (a1 : Int32) (a6 : Int32) (σ : MS) (hz6 : a6 = 0 ∨ a6 = 1) (hS : SM_byQuotient_89 a1 a6 σ) {H : Heap} {locs : List Loc} (hM : mw D ad A s.heap H locs σ) {ls : Array Slot} (hl : lv_has ls 8 [(1, .int a1), (6, .int a6)]) : W p l e rmM_byQuotient s m args below meth c H locs 0 0 (MQ below (va_Ql (fun r u => (r, u) = fM_byQuotient_89 a1 a6 σ) (mw_E D ad A) A) args s 0 0 A) (F0 m 89 ls []) := by
  obtain ⟨hx, hb, hr, hml, hown, hts, hlocks⟩ := id C
  refine lv_iload_n hx hb dM_byQuotient_89 rfl (lv_at hl 0 rfl) ?_
  refine lv_iload hx hb dM_byQuotient_90 (lv_at hl 1 rfl) ?_
  refine lv_iload_n hx hb dM_byQuotient_92 rfl (lv_at hl 0 rfl) ?_
  refine pw_call (va_runS (As := [.int a1]) (rest := [.int a6, .int a1]) ⟨hx, hb, hml, hown, hts⟩ (qM_infinite l a1) (va_cwS 1 hts (gS w_700 w_701 w_34 w_702) rfl rfl rfl (by decide +kernel) ⟨Nat.le_of_ble_eq_true rfl, Nat.le_of_ble_eq_true rfl⟩) ⟨pw_bT, fun U hU hW => ⟨rfl, trivial⟩⟩ rfl rfl hl.1 rfl (lv_room (Nat.le_of_ble_eq_true rfl)) dM_byQuotient_93 ⟨Nat.zero_le _, Nat.zero_le _⟩) ?_
  refine pw_call (va_runS (As := [.int a1, .int a6, .long (fM_infinite a1)]) (rest := []) ⟨hx, hb, hml, hown, hts⟩ (qM_signed l a1 a6 (fM_infinite a1)) (va_cwS 3 hts (gS w_648 w_649 w_34 w_650) rfl rfl rfl (by decide +kernel) ⟨Nat.le_of_ble_eq_true rfl, Nat.le_of_ble_eq_true rfl⟩) ⟨pw_bT, fun U hU hW => ⟨rfl, trivial⟩⟩ rfl rfl hl.1 rfl (lv_room (Nat.le_of_ble_eq_true rfl)) dM_byQuotient_96 ⟨Nat.zero_le _, Nat.zero_le _⟩) ?_
  exact W.lret (v := fM_signed a1 a6 (fM_infinite a1)) hx hb hr (fun t ht hW => ⟨⟨fM_signed a1 a6 (fM_infinite a1), σ, rfl, by rw [(show fM_byQuotient_89 a1 a6 σ = (fM_signed a1 a6 (fM_infinite a1), σ) by rw [fM_byQuotient_89])], by rw [ht]; exact hM.1, va_K.moved hW.alike hK, hM.2.1⟩, hM.2.2.F ht⟩) hM.2.2.2.2 dM_byQuotient_99
set_option maxHeartbeats 4000000 in
set_option maxRecDepth 100000 in
theorem kM_byQuotient_60 {p : Program} {l : Launch} {e : Env} {s : State} {m : MethodId} {args : Array Value} {below : List Frame} {meth : Method} {c : Code} (C : pw_C p s m args meth c cM_byQuotient 8 (some .long) "BitNumbersModel") {D : va_G} {ad : Nat → Nat} {A : Nat → Prop} (hK : va_K D clM (tyA ad) s) (hA : ∀ q, s.heap.size ≤ q → A q) (a1 : Int32) (a2 : Int64) (a4 : Int64) (a6 : Int32) (s0 : Int32) (σ : MS) (hz6 : a6 = 0 ∨ a6 = 1) (hzs0 : s0 = 0 ∨ s0 = 1) (hS : SM_byQuotient_60 a1 a2 a4 a6 s0 σ) {H : Heap} {locs : List Loc} (hM : mw D ad A s.heap H locs σ) {ls : Array Slot} (hl : lv_has ls 8 [(0, .ref (ad 0)), (1, .int a1), (2, .long a2), (4, .long a4), (6, .int a6)]) : W p l e rmM_byQuotient s m args below meth c H locs 0 0 (MQ below (va_Ql (fun r u => (r, u) = fM_byQuotient_60 a1 a2 a4 a6 s0 σ) (mw_E D ad A) A) args s 0 0 A) (F0 m 60 ls [.int s0]) := by
  obtain ⟨hx, hb, hr, hml, hown, hts, hlocks⟩ := id C
  refine lv_istore (lv' := [(7, .int s0), (0, .ref (ad 0)), (1, .int a1), (2, .long a2), (4, .long a4), (6, .int a6)]) hx hb dM_byQuotient_60 hl (by decide) rfl (fun ls hl => ?_)
  refine lv_iload hx hb dM_byQuotient_62 (lv_at hl 0 rfl) ?_
  refine lv_if_eq (tgt := 72) hx hb dM_byQuotient_64 (by decide) (fun h1 => ?_) (fun h1 => ?_)
  · refine lv_iload_n hx hb dM_byQuotient_72 rfl (lv_at hl 2 rfl) ?_
    refine lv_lload_n hx hb dM_byQuotient_73 rfl (lv_at hl 3 rfl) ?_
    refine pw_call (va_runS (As := [.int a1, .long a2]) (rest := []) ⟨hx, hb, hml, hown, hts⟩ (qM_isInfinite l a1 a2) (va_cwS 2 hts (gS w_660 w_661 w_34 w_662) rfl rfl rfl (by decide +kernel) ⟨Nat.le_of_ble_eq_true rfl, Nat.le_of_ble_eq_true rfl⟩) ⟨pw_bT, fun U hU hW => ⟨rfl, trivial⟩⟩ rfl rfl hl.1 rfl (lv_room (Nat.le_of_ble_eq_true rfl)) dM_byQuotient_74 ⟨Nat.zero_le _, Nat.zero_le _⟩) ?_
    refine lv_if_ne (tgt := 89) hx hb dM_byQuotient_77 (by decide) (fun h2 => ?_) (fun h2 => ?_)
    · have hS9 : (SM_byQuotient_89 a1 a6 σ) := by have w9 := hS; rw [SM_byQuotient_60, if_pos h1, if_neg h2] at w9; exact w9
      rw [(show fM_byQuotient_60 a1 a2 a4 a6 s0 σ = fM_byQuotient_89 a1 a6 σ by rw [fM_byQuotient_60, if_pos h1, if_neg h2])]
      exact kM_byQuotient_89 C hK hA a1 a6 σ hz6 (hS9) hM (lv_sub hl [2, 5] rfl)
    · refine lv_iload_n hx hb dM_byQuotient_80 rfl (lv_at hl 2 rfl) ?_
      refine lv_lload hx hb dM_byQuotient_81 (lv_at hl 4 rfl) ?_
      refine pw_call (va_runS (As := [.int a1, .long a4]) (rest := []) ⟨hx, hb, hml, hown, hts⟩ (qM_isZero l a1 a4) (va_cwS 2 hts (gS w_609 w_610 w_34 w_611) rfl rfl rfl (by decide +kernel) ⟨Nat.le_of_ble_eq_true rfl, Nat.le_of_ble_eq_true rfl⟩) ⟨pw_bT, fun U hU hW => ⟨rfl, trivial⟩⟩ rfl rfl hl.1 rfl (lv_room (Nat.le_of_ble_eq_true rfl)) dM_byQuotient_83 ⟨Nat.zero_le _, Nat.zero_le _⟩) ?_
      refine lv_if_eq (tgt := 100) hx hb dM_byQuotient_86 (by decide) (fun h3 => ?_) (fun h3 => ?_)
      · refine lv_iload_n hx hb dM_byQuotient_100 rfl (lv_at hl 2 rfl) ?_
        refine lv_lload_n hx hb dM_byQuotient_101 rfl (lv_at hl 3 rfl) ?_
        refine pw_call (va_runS (As := [.int a1, .long a2]) (rest := []) ⟨hx, hb, hml, hown, hts⟩ (qM_isZero l a1 a2) (va_cwS 2 hts (gS w_609 w_610 w_34 w_611) rfl rfl rfl (by decide +kernel) ⟨Nat.le_of_ble_eq_true rfl, Nat.le_of_ble_eq_true rfl⟩) ⟨pw_bT, fun U hU hW => ⟨rfl, trivial⟩⟩ rfl rfl hl.1 rfl (lv_room (Nat.le_of_ble_eq_true rfl)) dM_byQuotient_102 ⟨Nat.zero_le _, Nat.zero_le _⟩) ?_
        refine lv_if_ne (tgt := 117) hx hb dM_byQuotient_105 (by decide) (fun h4 => ?_) (fun h4 => ?_)
        · have hS9 : (SM_byQuotient_117 a1 a6 σ) := by have w9 := hS; rw [SM_byQuotient_60, if_pos h1, if_pos h2, if_pos h3, if_neg h4] at w9; exact w9
          rw [(show fM_byQuotient_60 a1 a2 a4 a6 s0 σ = fM_byQuotient_117 a1 a6 σ by rw [fM_byQuotient_60, if_pos h1, if_pos h2, if_pos h3, if_neg h4])]
          exact kM_byQuotient_117 C hK hA a1 a6 σ hz6 (hS9) hM (lv_sub hl [2, 5] rfl)
        · refine lv_iload_n hx hb dM_byQuotient_108 rfl (lv_at hl 2 rfl) ?_
          refine lv_lload hx hb dM_byQuotient_109 (lv_at hl 4 rfl) ?_
          refine pw_call (va_runS (As := [.int a1, .long a4]) (rest := []) ⟨hx, hb, hml, hown, hts⟩ (qM_isInfinite l a1 a4) (va_cwS 2 hts (gS w_660 w_661 w_34 w_662) rfl rfl rfl (by decide +kernel) ⟨Nat.le_of_ble_eq_true rfl, Nat.le_of_ble_eq_true rfl⟩) ⟨pw_bT, fun U hU hW => ⟨rfl, trivial⟩⟩ rfl rfl hl.1 rfl (lv_room (Nat.le_of_ble_eq_true rfl)) dM_byQuotient_111 ⟨Nat.zero_le _, Nat.zero_le _⟩) ?_
          refine lv_if_eq (tgt := 125) hx hb dM_byQuotient_114 (by decide) (fun h5 => ?_) (fun h5 => ?_)
          · refine lv_aload_n hx hb dM_byQuotient_125 rfl (lv_at hl 1 rfl) ?_
            refine lv_iconst (v := 1) hx hb dM_byQuotient_126 (by decide) ?_
            refine mw_put (v := .int 1) (ty := .int) (σ' := ms_set_mode σ 1) hx hb hts hown hK hM 10 (by decide) (hts _ w_497) rfl (by decide +kernel) rfl rfl (mw_pt_mode _ _ _) dM_byQuotient_127 (fun H locs hM => ?_)
            refine lv_aload_n hx hb dM_byQuotient_130 rfl (lv_at hl 1 rfl) ?_
            refine lv_iload_n hx hb dM_byQuotient_131 rfl (lv_at hl 2 rfl) ?_
            refine lv_lload_n hx hb dM_byQuotient_132 rfl (lv_at hl 3 rfl) ?_
            refine pw_call (va_runS (As := [.int a1, .long a2]) (rest := [.ref (ad 0)]) ⟨hx, hb, hml, hown, hts⟩ (qM_significand l a1 a2) (va_cwS 2 hts (gS w_663 w_664 w_34 w_665) rfl rfl rfl (by decide +kernel) ⟨Nat.le_of_ble_eq_true rfl, Nat.le_of_ble_eq_true rfl⟩) ⟨pw_bT, fun U hU hW => ⟨rfl, trivial⟩⟩ rfl rfl hl.1 rfl (lv_room (Nat.le_of_ble_eq_true rfl)) dM_byQuotient_133 ⟨Nat.zero_le _, Nat.zero_le _⟩) ?_
            refine mw_put (v := .long (fM_significand a1 a2)) (ty := .long) (σ' := ms_set_dividend (ms_set_mode σ 1) (fM_significand a1 a2)) hx hb hts hown hK hM 11 (by decide) (hts _ w_498) rfl (by decide +kernel) rfl rfl (mw_pt_dividend _ _ _) dM_byQuotient_136 (fun H locs hM => ?_)
            refine lv_aload_n hx hb dM_byQuotient_139 rfl (lv_at hl 1 rfl) ?_
            refine lv_iload_n hx hb dM_byQuotient_140 rfl (lv_at hl 2 rfl) ?_
            refine lv_lload hx hb dM_byQuotient_141 (lv_at hl 4 rfl) ?_
            refine pw_call (va_runS (As := [.int a1, .long a4]) (rest := [.ref (ad 0)]) ⟨hx, hb, hml, hown, hts⟩ (qM_significand l a1 a4) (va_cwS 2 hts (gS w_663 w_664 w_34 w_665) rfl rfl rfl (by decide +kernel) ⟨Nat.le_of_ble_eq_true rfl, Nat.le_of_ble_eq_true rfl⟩) ⟨pw_bT, fun U hU hW => ⟨rfl, trivial⟩⟩ rfl rfl hl.1 rfl (lv_room (Nat.le_of_ble_eq_true rfl)) dM_byQuotient_143 ⟨Nat.zero_le _, Nat.zero_le _⟩) ?_
            refine mw_put (v := .long (fM_significand a1 a4)) (ty := .long) (σ' := ms_set_divisor (ms_set_dividend (ms_set_mode σ 1) (fM_significand a1 a2)) (fM_significand a1 a4)) hx hb hts hown hK hM 12 (by decide) (hts _ w_499) rfl (by decide +kernel) rfl rfl (mw_pt_divisor _ _ _) dM_byQuotient_146 (fun H locs hM => ?_)
            refine lv_aload_n hx hb dM_byQuotient_149 rfl (lv_at hl 1 rfl) ?_
            refine lv_iload_n hx hb dM_byQuotient_150 rfl (lv_at hl 2 rfl) ?_
            refine lv_lload_n hx hb dM_byQuotient_151 rfl (lv_at hl 3 rfl) ?_
            refine pw_call (va_runS (As := [.int a1, .long a2]) (rest := [.ref (ad 0)]) ⟨hx, hb, hml, hown, hts⟩ (qM_scaleOf l a1 a2) (va_cwS 2 hts (gS w_666 w_667 w_34 w_668) rfl rfl rfl (by decide +kernel) ⟨Nat.le_of_ble_eq_true rfl, Nat.le_of_ble_eq_true rfl⟩) ⟨pw_bT, fun U hU hW => ⟨rfl, trivial⟩⟩ rfl rfl hl.1 rfl (lv_room (Nat.le_of_ble_eq_true rfl)) dM_byQuotient_152 ⟨Nat.zero_le _, Nat.zero_le _⟩) ?_
            refine lv_iload_n hx hb dM_byQuotient_155 rfl (lv_at hl 2 rfl) ?_
            refine lv_lload hx hb dM_byQuotient_156 (lv_at hl 4 rfl) ?_
            refine pw_call (va_runS (As := [.int a1, .long a4]) (rest := [.int (fM_scaleOf a1 a2), .ref (ad 0)]) ⟨hx, hb, hml, hown, hts⟩ (qM_scaleOf l a1 a4) (va_cwS 2 hts (gS w_666 w_667 w_34 w_668) rfl rfl rfl (by decide +kernel) ⟨Nat.le_of_ble_eq_true rfl, Nat.le_of_ble_eq_true rfl⟩) ⟨pw_bT, fun U hU hW => ⟨rfl, trivial⟩⟩ rfl rfl hl.1 rfl (lv_room (Nat.le_of_ble_eq_true rfl)) dM_byQuotient_158 ⟨Nat.zero_le _, Nat.zero_le _⟩) ?_
            refine lv_isub hx hb dM_byQuotient_161 ?_
            refine mw_put (v := .int ((fM_scaleOf a1 a2) - (fM_scaleOf a1 a4))) (ty := .int) (σ' := ms_set_scale (ms_set_divisor (ms_set_dividend (ms_set_mode σ 1) (fM_significand a1 a2)) (fM_significand a1 a4)) ((fM_scaleOf a1 a2) - (fM_scaleOf a1 a4))) hx hb hts hown hK hM 13 (by decide) (hts _ w_500) rfl (by decide +kernel) rfl rfl (mw_pt_scale _ _ _) dM_byQuotient_162 (fun H locs hM => ?_)
            refine lv_aload_n hx hb dM_byQuotient_165 rfl (lv_at hl 1 rfl) ?_
            refine lv_iload_n hx hb dM_byQuotient_166 rfl (lv_at hl 2 rfl) ?_
            refine lv_iload hx hb dM_byQuotient_167 (lv_at hl 5 rfl) ?_
            refine lv_aload_n hx hb dM_byQuotient_169 rfl (lv_at hl 1 rfl) ?_
            refine mw_get (v := .long (ms_dividend (ms_set_scale (ms_set_divisor (ms_set_dividend (ms_set_mode σ 1) (fM_significand a1 a2)) (fM_significand a1 a4)) ((fM_scaleOf a1 a2) - (fM_scaleOf a1 a4))))) hx hb hts hown hK hM 11 (by decide) (hts _ w_498) (mw_fd_dividend _ _) dM_byQuotient_170 ?_
            have hS173 : (((ms_dividend (ms_set_scale (ms_set_divisor (ms_set_dividend (ms_set_mode σ 1) (fM_significand a1 a2)) (fM_significand a1 a4)) ((fM_scaleOf a1 a2) - (fM_scaleOf a1 a4)))) ≠ 0) ∧ (((ms_divisor (ms_set_scale (ms_set_divisor (ms_set_dividend (ms_set_mode σ 1) (fM_significand a1 a2)) (fM_significand a1 a4)) ((fM_scaleOf a1 a2) - (fM_scaleOf a1 a4)))) ≠ 0) ∧ True)) := by have w9 := hS; rw [SM_byQuotient_60, if_pos h1, if_pos h2, if_pos h3, if_pos h4, if_pos h5] at w9; exact w9
            refine pw_call (va_runS (As := [.long (ms_dividend (ms_set_scale (ms_set_divisor (ms_set_dividend (ms_set_mode σ 1) (fM_significand a1 a2)) (fM_significand a1 a4)) ((fM_scaleOf a1 a2) - (fM_scaleOf a1 a4))))]) (rest := [.int a6, .int a1, .ref (ad 0)]) ⟨hx, hb, hml, hown, hts⟩ (qM_highest l (ms_dividend (ms_set_scale (ms_set_divisor (ms_set_dividend (ms_set_mode σ 1) (fM_significand a1 a2)) (fM_significand a1 a4)) ((fM_scaleOf a1 a2) - (fM_scaleOf a1 a4)))) hS173.1) (va_cwS 1 hts (gS w_672 w_673 w_34 w_674) rfl rfl rfl (by decide +kernel) ⟨Nat.le_of_ble_eq_true rfl, Nat.le_of_ble_eq_true rfl⟩) ⟨pw_bT, fun U hU hW => ⟨rfl, trivial⟩⟩ rfl rfl hl.1 rfl (lv_room (Nat.le_of_ble_eq_true rfl)) dM_byQuotient_173 ⟨Nat.zero_le _, Nat.zero_le _⟩) ?_
            refine lv_aload_n hx hb dM_byQuotient_176 rfl (lv_at hl 1 rfl) ?_
            refine mw_get (v := .long (ms_divisor (ms_set_scale (ms_set_divisor (ms_set_dividend (ms_set_mode σ 1) (fM_significand a1 a2)) (fM_significand a1 a4)) ((fM_scaleOf a1 a2) - (fM_scaleOf a1 a4))))) hx hb hts hown hK hM 12 (by decide) (hts _ w_499) (mw_fd_divisor _ _) dM_byQuotient_177 ?_
            have hS180 : (((ms_divisor (ms_set_scale (ms_set_divisor (ms_set_dividend (ms_set_mode σ 1) (fM_significand a1 a2)) (fM_significand a1 a4)) ((fM_scaleOf a1 a2) - (fM_scaleOf a1 a4)))) ≠ 0) ∧ True) := hS173.2
            refine pw_call (va_runS (As := [.long (ms_divisor (ms_set_scale (ms_set_divisor (ms_set_dividend (ms_set_mode σ 1) (fM_significand a1 a2)) (fM_significand a1 a4)) ((fM_scaleOf a1 a2) - (fM_scaleOf a1 a4))))]) (rest := [.int (fM_highest (ms_dividend (ms_set_scale (ms_set_divisor (ms_set_dividend (ms_set_mode σ 1) (fM_significand a1 a2)) (fM_significand a1 a4)) ((fM_scaleOf a1 a2) - (fM_scaleOf a1 a4))))), .int a6, .int a1, .ref (ad 0)]) ⟨hx, hb, hml, hown, hts⟩ (qM_highest l (ms_divisor (ms_set_scale (ms_set_divisor (ms_set_dividend (ms_set_mode σ 1) (fM_significand a1 a2)) (fM_significand a1 a4)) ((fM_scaleOf a1 a2) - (fM_scaleOf a1 a4)))) hS180.1) (va_cwS 1 hts (gS w_672 w_673 w_34 w_674) rfl rfl rfl (by decide +kernel) ⟨Nat.le_of_ble_eq_true rfl, Nat.le_of_ble_eq_true rfl⟩) ⟨pw_bT, fun U hU hW => ⟨rfl, trivial⟩⟩ rfl rfl hl.1 rfl (lv_room (Nat.le_of_ble_eq_true rfl)) dM_byQuotient_180 ⟨Nat.zero_le _, Nat.zero_le _⟩) ?_
            refine lv_isub hx hb dM_byQuotient_183 ?_
            refine lv_aload_n hx hb dM_byQuotient_184 rfl (lv_at hl 1 rfl) ?_
            refine mw_get (v := .int (ms_scale (ms_set_scale (ms_set_divisor (ms_set_dividend (ms_set_mode σ 1) (fM_significand a1 a2)) (fM_significand a1 a4)) ((fM_scaleOf a1 a2) - (fM_scaleOf a1 a4))))) hx hb hts hown hK hM 13 (by decide) (hts _ w_500) (mw_fd_scale _ _) dM_byQuotient_185 ?_
            refine lv_iadd hx hb dM_byQuotient_188 ?_
            refine mw_calll (F := fM_rounded a1 a6 (((fM_highest (ms_dividend (ms_set_scale (ms_set_divisor (ms_set_dividend (ms_set_mode σ 1) (fM_significand a1 a2)) (fM_significand a1 a4)) ((fM_scaleOf a1 a2) - (fM_scaleOf a1 a4))))) - (fM_highest (ms_divisor (ms_set_scale (ms_set_divisor (ms_set_dividend (ms_set_mode σ 1) (fM_significand a1 a2)) (fM_significand a1 a4)) ((fM_scaleOf a1 a2) - (fM_scaleOf a1 a4)))))) + (ms_scale (ms_set_scale (ms_set_divisor (ms_set_dividend (ms_set_mode σ 1) (fM_significand a1 a2)) (fM_significand a1 a4)) ((fM_scaleOf a1 a2) - (fM_scaleOf a1 a4))))) (ms_set_scale (ms_set_divisor (ms_set_dividend (ms_set_mode σ 1) (fM_significand a1 a2)) (fM_significand a1 a4)) ((fM_scaleOf a1 a2) - (fM_scaleOf a1 a4)))) (va_runV (As := [.int a1, .int a6, .int (((fM_highest (ms_dividend (ms_set_scale (ms_set_divisor (ms_set_dividend (ms_set_mode σ 1) (fM_significand a1 a2)) (fM_significand a1 a4)) ((fM_scaleOf a1 a2) - (fM_scaleOf a1 a4))))) - (fM_highest (ms_divisor (ms_set_scale (ms_set_divisor (ms_set_dividend (ms_set_mode σ 1) (fM_significand a1 a2)) (fM_significand a1 a4)) ((fM_scaleOf a1 a2) - (fM_scaleOf a1 a4)))))) + (ms_scale (ms_set_scale (ms_set_divisor (ms_set_dividend (ms_set_mode σ 1) (fM_significand a1 a2)) (fM_significand a1 a4)) ((fM_scaleOf a1 a2) - (fM_scaleOf a1 a4)))))]) (rest := []) ⟨hx, hb, hml, hown, hts⟩ (qM_rounded l D ad a1 a6 (((fM_highest (ms_dividend (ms_set_scale (ms_set_divisor (ms_set_dividend (ms_set_mode σ 1) (fM_significand a1 a2)) (fM_significand a1 a4)) ((fM_scaleOf a1 a2) - (fM_scaleOf a1 a4))))) - (fM_highest (ms_divisor (ms_set_scale (ms_set_divisor (ms_set_dividend (ms_set_mode σ 1) (fM_significand a1 a2)) (fM_significand a1 a4)) ((fM_scaleOf a1 a2) - (fM_scaleOf a1 a4)))))) + (ms_scale (ms_set_scale (ms_set_divisor (ms_set_dividend (ms_set_mode σ 1) (fM_significand a1 a2)) (fM_significand a1 a4)) ((fM_scaleOf a1 a2) - (fM_scaleOf a1 a4))))) (ms_set_scale (ms_set_divisor (ms_set_dividend (ms_set_mode σ 1) (fM_significand a1 a2)) (fM_significand a1 a4)) ((fM_scaleOf a1 a2) - (fM_scaleOf a1 a4))) H.size) (cwV 3 hts (gV w_675 w_677 w_9 w_34 w_678) rfl rfl rfl (by decide +kernel) ⟨Nat.le_of_ble_eq_true rfl, Nat.le_of_ble_eq_true rfl⟩) (mw_preV hK hM) rfl rfl hl.1 rfl (lv_room (Nat.le_of_ble_eq_true rfl)) dM_byQuotient_189 ⟨Nat.zero_le _, Nat.zero_le _⟩) hM hA (fun H locs hM => ?_)
            exact W.lret (v := (fM_rounded a1 a6 (((fM_highest (ms_dividend (ms_set_scale (ms_set_divisor (ms_set_dividend (ms_set_mode σ 1) (fM_significand a1 a2)) (fM_significand a1 a4)) ((fM_scaleOf a1 a2) - (fM_scaleOf a1 a4))))) - (fM_highest (ms_divisor (ms_set_scale (ms_set_divisor (ms_set_dividend (ms_set_mode σ 1) (fM_significand a1 a2)) (fM_significand a1 a4)) ((fM_scaleOf a1 a2) - (fM_scaleOf a1 a4)))))) + (ms_scale (ms_set_scale (ms_set_divisor (ms_set_dividend (ms_set_mode σ 1) (fM_significand a1 a2)) (fM_significand a1 a4)) ((fM_scaleOf a1 a2) - (fM_scaleOf a1 a4))))) (ms_set_scale (ms_set_divisor (ms_set_dividend (ms_set_mode σ 1) (fM_significand a1 a2)) (fM_significand a1 a4)) ((fM_scaleOf a1 a2) - (fM_scaleOf a1 a4)))).1) hx hb hr (fun t ht hW => ⟨⟨(fM_rounded a1 a6 (((fM_highest (ms_dividend (ms_set_scale (ms_set_divisor (ms_set_dividend (ms_set_mode σ 1) (fM_significand a1 a2)) (fM_significand a1 a4)) ((fM_scaleOf a1 a2) - (fM_scaleOf a1 a4))))) - (fM_highest (ms_divisor (ms_set_scale (ms_set_divisor (ms_set_dividend (ms_set_mode σ 1) (fM_significand a1 a2)) (fM_significand a1 a4)) ((fM_scaleOf a1 a2) - (fM_scaleOf a1 a4)))))) + (ms_scale (ms_set_scale (ms_set_divisor (ms_set_dividend (ms_set_mode σ 1) (fM_significand a1 a2)) (fM_significand a1 a4)) ((fM_scaleOf a1 a2) - (fM_scaleOf a1 a4))))) (ms_set_scale (ms_set_divisor (ms_set_dividend (ms_set_mode σ 1) (fM_significand a1 a2)) (fM_significand a1 a4)) ((fM_scaleOf a1 a2) - (fM_scaleOf a1 a4)))).1, (fM_rounded a1 a6 (((fM_highest (ms_dividend (ms_set_scale (ms_set_divisor (ms_set_dividend (ms_set_mode σ 1) (fM_significand a1 a2)) (fM_significand a1 a4)) ((fM_scaleOf a1 a2) - (fM_scaleOf a1 a4))))) - (fM_highest (ms_divisor (ms_set_scale (ms_set_divisor (ms_set_dividend (ms_set_mode σ 1) (fM_significand a1 a2)) (fM_significand a1 a4)) ((fM_scaleOf a1 a2) - (fM_scaleOf a1 a4)))))) + (ms_scale (ms_set_scale (ms_set_divisor (ms_set_dividend (ms_set_mode σ 1) (fM_significand a1 a2)) (fM_significand a1 a4)) ((fM_scaleOf a1 a2) - (fM_scaleOf a1 a4))))) (ms_set_scale (ms_set_divisor (ms_set_dividend (ms_set_mode σ 1) (fM_significand a1 a2)) (fM_significand a1 a4)) ((fM_scaleOf a1 a2) - (fM_scaleOf a1 a4)))).2, rfl, by rw [(show fM_byQuotient_60 a1 a2 a4 a6 s0 σ = ((fM_rounded a1 a6 (((fM_highest (ms_dividend (ms_set_scale (ms_set_divisor (ms_set_dividend (ms_set_mode σ 1) (fM_significand a1 a2)) (fM_significand a1 a4)) ((fM_scaleOf a1 a2) - (fM_scaleOf a1 a4))))) - (fM_highest (ms_divisor (ms_set_scale (ms_set_divisor (ms_set_dividend (ms_set_mode σ 1) (fM_significand a1 a2)) (fM_significand a1 a4)) ((fM_scaleOf a1 a2) - (fM_scaleOf a1 a4)))))) + (ms_scale (ms_set_scale (ms_set_divisor (ms_set_dividend (ms_set_mode σ 1) (fM_significand a1 a2)) (fM_significand a1 a4)) ((fM_scaleOf a1 a2) - (fM_scaleOf a1 a4))))) (ms_set_scale (ms_set_divisor (ms_set_dividend (ms_set_mode σ 1) (fM_significand a1 a2)) (fM_significand a1 a4)) ((fM_scaleOf a1 a2) - (fM_scaleOf a1 a4)))).1, (fM_rounded a1 a6 (((fM_highest (ms_dividend (ms_set_scale (ms_set_divisor (ms_set_dividend (ms_set_mode σ 1) (fM_significand a1 a2)) (fM_significand a1 a4)) ((fM_scaleOf a1 a2) - (fM_scaleOf a1 a4))))) - (fM_highest (ms_divisor (ms_set_scale (ms_set_divisor (ms_set_dividend (ms_set_mode σ 1) (fM_significand a1 a2)) (fM_significand a1 a4)) ((fM_scaleOf a1 a2) - (fM_scaleOf a1 a4)))))) + (ms_scale (ms_set_scale (ms_set_divisor (ms_set_dividend (ms_set_mode σ 1) (fM_significand a1 a2)) (fM_significand a1 a4)) ((fM_scaleOf a1 a2) - (fM_scaleOf a1 a4))))) (ms_set_scale (ms_set_divisor (ms_set_dividend (ms_set_mode σ 1) (fM_significand a1 a2)) (fM_significand a1 a4)) ((fM_scaleOf a1 a2) - (fM_scaleOf a1 a4)))).2) by rw [fM_byQuotient_60, if_pos h1, if_pos h2, if_pos h3, if_pos h4, if_pos h5])], by rw [ht]; exact hM.1, va_K.moved hW.alike hK, hM.2.1⟩, hM.2.2.F ht⟩) hM.2.2.2.2 dM_byQuotient_192
          · have hS9 : (SM_byQuotient_117 a1 a6 σ) := by have w9 := hS; rw [SM_byQuotient_60, if_pos h1, if_pos h2, if_pos h3, if_pos h4, if_neg h5] at w9; exact w9
            rw [(show fM_byQuotient_60 a1 a2 a4 a6 s0 σ = fM_byQuotient_117 a1 a6 σ by rw [fM_byQuotient_60, if_pos h1, if_pos h2, if_pos h3, if_pos h4, if_neg h5])]
            exact kM_byQuotient_117 C hK hA a1 a6 σ hz6 (hS9) hM (lv_sub hl [2, 5] rfl)
      · have hS9 : (SM_byQuotient_89 a1 a6 σ) := by have w9 := hS; rw [SM_byQuotient_60, if_pos h1, if_pos h2, if_neg h3] at w9; exact w9
        rw [(show fM_byQuotient_60 a1 a2 a4 a6 s0 σ = fM_byQuotient_89 a1 a6 σ by rw [fM_byQuotient_60, if_pos h1, if_pos h2, if_neg h3])]
        exact kM_byQuotient_89 C hK hA a1 a6 σ hz6 (hS9) hM (lv_sub hl [2, 5] rfl)
  · refine lv_iload_n hx hb dM_byQuotient_67 rfl (lv_at hl 2 rfl) ?_
    refine pw_call (va_runS (As := [.int a1]) (rest := []) ⟨hx, hb, hml, hown, hts⟩ (qM_theNone l a1) (va_cwS 1 hts (gS w_651 w_652 w_34 w_653) rfl rfl rfl (by decide +kernel) ⟨Nat.le_of_ble_eq_true rfl, Nat.le_of_ble_eq_true rfl⟩) ⟨pw_bT, fun U hU hW => ⟨rfl, trivial⟩⟩ rfl rfl hl.1 rfl (lv_room (Nat.le_of_ble_eq_true rfl)) dM_byQuotient_68 ⟨Nat.zero_le _, Nat.zero_le _⟩) ?_
    exact W.lret (v := fM_theNone a1) hx hb hr (fun t ht hW => ⟨⟨fM_theNone a1, σ, rfl, by rw [(show fM_byQuotient_60 a1 a2 a4 a6 s0 σ = (fM_theNone a1, σ) by rw [fM_byQuotient_60, if_neg h1])], by rw [ht]; exact hM.1, va_K.moved hW.alike hK, hM.2.1⟩, hM.2.2.F ht⟩) hM.2.2.2.2 dM_byQuotient_71
set_option maxHeartbeats 4000000 in
set_option maxRecDepth 100000 in
theorem kM_byQuotient_59 {p : Program} {l : Launch} {e : Env} {s : State} {m : MethodId} {args : Array Value} {below : List Frame} {meth : Method} {c : Code} (C : pw_C p s m args meth c cM_byQuotient 8 (some .long) "BitNumbersModel") {D : va_G} {ad : Nat → Nat} {A : Nat → Prop} (hK : va_K D clM (tyA ad) s) (hA : ∀ q, s.heap.size ≤ q → A q) (a1 : Int32) (a2 : Int64) (a4 : Int64) (a6 : Int32) (σ : MS) (hz6 : a6 = 0 ∨ a6 = 1) (hS : SM_byQuotient_59 a1 a2 a4 a6 σ) {H : Heap} {locs : List Loc} (hM : mw D ad A s.heap H locs σ) {ls : Array Slot} (hl : lv_has ls 8 [(0, .ref (ad 0)), (1, .int a1), (2, .long a2), (4, .long a4), (6, .int a6)]) : W p l e rmM_byQuotient s m args below meth c H locs 0 0 (MQ below (va_Ql (fun r u => (r, u) = fM_byQuotient_59 a1 a2 a4 a6 σ) (mw_E D ad A) A) args s 0 0 A) (F0 m 59 ls []) := by
  obtain ⟨hx, hb, hr, hml, hown, hts, hlocks⟩ := id C
  refine lv_iconst (v := 0) hx hb dM_byQuotient_59 (by decide) ?_
  have hS9 : (SM_byQuotient_60 a1 a2 a4 a6 0 σ) := by have w9 := hS; rw [SM_byQuotient_59] at w9; exact w9
  rw [(show fM_byQuotient_59 a1 a2 a4 a6 σ = fM_byQuotient_60 a1 a2 a4 a6 0 σ by rw [fM_byQuotient_59])]
  exact kM_byQuotient_60 C hK hA a1 a2 a4 a6 0 σ hz6 (Or.inl rfl) (hS9) hM (lv_sub hl [0, 1, 2, 3, 4] rfl)
set_option maxHeartbeats 4000000 in
set_option maxRecDepth 100000 in
theorem kM_byQuotient_55 {p : Program} {l : Launch} {e : Env} {s : State} {m : MethodId} {args : Array Value} {below : List Frame} {meth : Method} {c : Code} (C : pw_C p s m args meth c cM_byQuotient 8 (some .long) "BitNumbersModel") {D : va_G} {ad : Nat → Nat} {A : Nat → Prop} (hK : va_K D clM (tyA ad) s) (hA : ∀ q, s.heap.size ≤ q → A q) (a1 : Int32) (a2 : Int64) (a4 : Int64) (a6 : Int32) (σ : MS) (hz6 : a6 = 0 ∨ a6 = 1) (hS : SM_byQuotient_55 a1 a2 a4 a6 σ) {H : Heap} {locs : List Loc} (hM : mw D ad A s.heap H locs σ) {ls : Array Slot} (hl : lv_has ls 8 [(0, .ref (ad 0)), (1, .int a1), (2, .long a2), (4, .long a4), (6, .int a6)]) : W p l e rmM_byQuotient s m args below meth c H locs 0 0 (MQ below (va_Ql (fun r u => (r, u) = fM_byQuotient_55 a1 a2 a4 a6 σ) (mw_E D ad A) A) args s 0 0 A) (F0 m 55 ls []) := by
  obtain ⟨hx, hb, hr, hml, hown, hts, hlocks⟩ := id C
  refine lv_iconst (v := 1) hx hb dM_byQuotient_55 (by decide) ?_
  refine lv_goto (tgt := 60) hx hb dM_byQuotient_56 (by decide) ?_
  have hS9 : (SM_byQuotient_60 a1 a2 a4 a6 1 σ) := by have w9 := hS; rw [SM_byQuotient_55] at w9; exact w9
  rw [(show fM_byQuotient_55 a1 a2 a4 a6 σ = fM_byQuotient_60 a1 a2 a4 a6 1 σ by rw [fM_byQuotient_55])]
  exact kM_byQuotient_60 C hK hA a1 a2 a4 a6 1 σ hz6 (Or.inr rfl) (hS9) hM (lv_sub hl [0, 1, 2, 3, 4] rfl)
set_option maxHeartbeats 4000000 in
set_option maxRecDepth 100000 in
theorem kM_byQuotient_38 {p : Program} {l : Launch} {e : Env} {s : State} {m : MethodId} {args : Array Value} {below : List Frame} {meth : Method} {c : Code} (C : pw_C p s m args meth c cM_byQuotient 8 (some .long) "BitNumbersModel") {D : va_G} {ad : Nat → Nat} {A : Nat → Prop} (hK : va_K D clM (tyA ad) s) (hA : ∀ q, s.heap.size ≤ q → A q) (a1 : Int32) (a2 : Int64) (a4 : Int64) (a6 : Int32) (σ : MS) (hz6 : a6 = 0 ∨ a6 = 1) (hS : SM_byQuotient_38 a1 a2 a4 a6 σ) {H : Heap} {locs : List Loc} (hM : mw D ad A s.heap H locs σ) {ls : Array Slot} (hl : lv_has ls 8 [(0, .ref (ad 0)), (1, .int a1), (2, .long a2), (4, .long a4), (6, .int a6)]) : W p l e rmM_byQuotient s m args below meth c H locs 0 0 (MQ below (va_Ql (fun r u => (r, u) = fM_byQuotient_38 a1 a2 a4 a6 σ) (mw_E D ad A) A) args s 0 0 A) (F0 m 38 ls []) := by
  obtain ⟨hx, hb, hr, hml, hown, hts, hlocks⟩ := id C
  refine lv_iload_n hx hb dM_byQuotient_38 rfl (lv_at hl 1 rfl) ?_
  refine lv_lload_n hx hb dM_byQuotient_39 rfl (lv_at hl 2 rfl) ?_
  refine pw_call (va_runS (As := [.int a1, .long a2]) (rest := []) ⟨hx, hb, hml, hown, hts⟩ (qM_isZero l a1 a2) (va_cwS 2 hts (gS w_609 w_610 w_34 w_611) rfl rfl rfl (by decide +kernel) ⟨Nat.le_of_ble_eq_true rfl, Nat.le_of_ble_eq_true rfl⟩) ⟨pw_bT, fun U hU hW => ⟨rfl, trivial⟩⟩ rfl rfl hl.1 rfl (lv_room (Nat.le_of_ble_eq_true rfl)) dM_byQuotient_40 ⟨Nat.zero_le _, Nat.zero_le _⟩) ?_
  refine lv_if_eq (tgt := 59) hx hb dM_byQuotient_43 (by decide) (fun h1 => ?_) (fun h1 => ?_)
  · have hS9 : (SM_byQuotient_59 a1 a2 a4 a6 σ) := by have w9 := hS; rw [SM_byQuotient_38, if_pos h1] at w9; exact w9
    rw [(show fM_byQuotient_38 a1 a2 a4 a6 σ = fM_byQuotient_59 a1 a2 a4 a6 σ by rw [fM_byQuotient_38, if_pos h1])]
    exact kM_byQuotient_59 C hK hA a1 a2 a4 a6 σ hz6 (hS9) hM (lv_sub hl [0, 1, 2, 3, 4] rfl)
  · refine lv_iload_n hx hb dM_byQuotient_46 rfl (lv_at hl 1 rfl) ?_
    refine lv_lload hx hb dM_byQuotient_47 (lv_at hl 3 rfl) ?_
    refine pw_call (va_runS (As := [.int a1, .long a4]) (rest := []) ⟨hx, hb, hml, hown, hts⟩ (qM_isZero l a1 a4) (va_cwS 2 hts (gS w_609 w_610 w_34 w_611) rfl rfl rfl (by decide +kernel) ⟨Nat.le_of_ble_eq_true rfl, Nat.le_of_ble_eq_true rfl⟩) ⟨pw_bT, fun U hU hW => ⟨rfl, trivial⟩⟩ rfl rfl hl.1 rfl (lv_room (Nat.le_of_ble_eq_true rfl)) dM_byQuotient_49 ⟨Nat.zero_le _, Nat.zero_le _⟩) ?_
    refine lv_if_eq (tgt := 59) hx hb dM_byQuotient_52 (by decide) (fun h2 => ?_) (fun h2 => ?_)
    · have hS9 : (SM_byQuotient_59 a1 a2 a4 a6 σ) := by have w9 := hS; rw [SM_byQuotient_38, if_neg h1, if_pos h2] at w9; exact w9
      rw [(show fM_byQuotient_38 a1 a2 a4 a6 σ = fM_byQuotient_59 a1 a2 a4 a6 σ by rw [fM_byQuotient_38, if_neg h1, if_pos h2])]
      exact kM_byQuotient_59 C hK hA a1 a2 a4 a6 σ hz6 (hS9) hM (lv_sub hl [0, 1, 2, 3, 4] rfl)
    · have hS9 : (SM_byQuotient_55 a1 a2 a4 a6 σ) := by have w9 := hS; rw [SM_byQuotient_38, if_neg h1, if_neg h2] at w9; exact w9
      rw [(show fM_byQuotient_38 a1 a2 a4 a6 σ = fM_byQuotient_55 a1 a2 a4 a6 σ by rw [fM_byQuotient_38, if_neg h1, if_neg h2])]
      exact kM_byQuotient_55 C hK hA a1 a2 a4 a6 σ hz6 (hS9) hM (lv_sub hl [0, 1, 2, 3, 4] rfl)
set_option maxHeartbeats 4000000 in
set_option maxRecDepth 100000 in
theorem kM_byQuotient_19 {p : Program} {l : Launch} {e : Env} {s : State} {m : MethodId} {args : Array Value} {below : List Frame} {meth : Method} {c : Code} (C : pw_C p s m args meth c cM_byQuotient 8 (some .long) "BitNumbersModel") {D : va_G} {ad : Nat → Nat} {A : Nat → Prop} (hK : va_K D clM (tyA ad) s) (hA : ∀ q, s.heap.size ≤ q → A q) (a1 : Int32) (a2 : Int64) (a4 : Int64) (s0 : Int32) (σ : MS) (hzs0 : s0 = 0 ∨ s0 = 1) (hS : SM_byQuotient_19 a1 a2 a4 s0 σ) {H : Heap} {locs : List Loc} (hM : mw D ad A s.heap H locs σ) {ls : Array Slot} (hl : lv_has ls 8 [(0, .ref (ad 0)), (1, .int a1), (2, .long a2), (4, .long a4)]) : W p l e rmM_byQuotient s m args below meth c H locs 0 0 (MQ below (va_Ql (fun r u => (r, u) = fM_byQuotient_19 a1 a2 a4 s0 σ) (mw_E D ad A) A) args s 0 0 A) (F0 m 19 ls [.int s0]) := by
  obtain ⟨hx, hb, hr, hml, hown, hts, hlocks⟩ := id C
  refine lv_istore (lv' := [(6, .int s0), (0, .ref (ad 0)), (1, .int a1), (2, .long a2), (4, .long a4)]) hx hb dM_byQuotient_19 hl (by decide) rfl (fun ls hl => ?_)
  refine lv_iload_n hx hb dM_byQuotient_21 rfl (lv_at hl 2 rfl) ?_
  refine lv_lload_n hx hb dM_byQuotient_22 rfl (lv_at hl 3 rfl) ?_
  refine pw_call (va_runS (As := [.int a1, .long a2]) (rest := []) ⟨hx, hb, hml, hown, hts⟩ (qM_isInfinite l a1 a2) (va_cwS 2 hts (gS w_660 w_661 w_34 w_662) rfl rfl rfl (by decide +kernel) ⟨Nat.le_of_ble_eq_true rfl, Nat.le_of_ble_eq_true rfl⟩) ⟨pw_bT, fun U hU hW => ⟨rfl, trivial⟩⟩ rfl rfl hl.1 rfl (lv_room (Nat.le_of_ble_eq_true rfl)) dM_byQuotient_23 ⟨Nat.zero_le _, Nat.zero_le _⟩) ?_
  refine lv_if_eq (tgt := 38) hx hb dM_byQuotient_26 (by decide) (fun h1 => ?_) (fun h1 => ?_)
  · have hS9 : (SM_byQuotient_38 a1 a2 a4 s0 σ) := by have w9 := hS; rw [SM_byQuotient_19, if_pos h1] at w9; exact w9
    rw [(show fM_byQuotient_19 a1 a2 a4 s0 σ = fM_byQuotient_38 a1 a2 a4 s0 σ by rw [fM_byQuotient_19, if_pos h1])]
    exact kM_byQuotient_38 C hK hA a1 a2 a4 s0 σ hzs0 (hS9) hM (lv_sub hl [1, 2, 3, 4, 0] rfl)
  · refine lv_iload_n hx hb dM_byQuotient_29 rfl (lv_at hl 2 rfl) ?_
    refine lv_lload hx hb dM_byQuotient_30 (lv_at hl 4 rfl) ?_
    refine pw_call (va_runS (As := [.int a1, .long a4]) (rest := []) ⟨hx, hb, hml, hown, hts⟩ (qM_isInfinite l a1 a4) (va_cwS 2 hts (gS w_660 w_661 w_34 w_662) rfl rfl rfl (by decide +kernel) ⟨Nat.le_of_ble_eq_true rfl, Nat.le_of_ble_eq_true rfl⟩) ⟨pw_bT, fun U hU hW => ⟨rfl, trivial⟩⟩ rfl rfl hl.1 rfl (lv_room (Nat.le_of_ble_eq_true rfl)) dM_byQuotient_32 ⟨Nat.zero_le _, Nat.zero_le _⟩) ?_
    refine lv_if_ne (tgt := 55) hx hb dM_byQuotient_35 (by decide) (fun h2 => ?_) (fun h2 => ?_)
    · have hS9 : (SM_byQuotient_55 a1 a2 a4 s0 σ) := by have w9 := hS; rw [SM_byQuotient_19, if_neg h1, if_neg h2] at w9; exact w9
      rw [(show fM_byQuotient_19 a1 a2 a4 s0 σ = fM_byQuotient_55 a1 a2 a4 s0 σ by rw [fM_byQuotient_19, if_neg h1, if_neg h2])]
      exact kM_byQuotient_55 C hK hA a1 a2 a4 s0 σ hzs0 (hS9) hM (lv_sub hl [1, 2, 3, 4, 0] rfl)
    · have hS9 : (SM_byQuotient_38 a1 a2 a4 s0 σ) := by have w9 := hS; rw [SM_byQuotient_19, if_neg h1, if_pos h2] at w9; exact w9
      rw [(show fM_byQuotient_19 a1 a2 a4 s0 σ = fM_byQuotient_38 a1 a2 a4 s0 σ by rw [fM_byQuotient_19, if_neg h1, if_pos h2])]
      exact kM_byQuotient_38 C hK hA a1 a2 a4 s0 σ hzs0 (hS9) hM (lv_sub hl [1, 2, 3, 4, 0] rfl)
set_option maxHeartbeats 4000000 in
set_option maxRecDepth 100000 in
theorem kM_byQuotient_0 {p : Program} {l : Launch} {e : Env} {s : State} {m : MethodId} {args : Array Value} {below : List Frame} {meth : Method} {c : Code} (C : pw_C p s m args meth c cM_byQuotient 8 (some .long) "BitNumbersModel") {D : va_G} {ad : Nat → Nat} {A : Nat → Prop} (hK : va_K D clM (tyA ad) s) (hA : ∀ q, s.heap.size ≤ q → A q) (a1 : Int32) (a2 : Int64) (a4 : Int64) (σ : MS) (hS : SM_byQuotient a1 a2 a4 σ) {H : Heap} {locs : List Loc} (hM : mw D ad A s.heap H locs σ) {ls : Array Slot} (hl : lv_has ls 8 [(0, .ref (ad 0)), (1, .int a1), (2, .long a2), (4, .long a4)]) : W p l e rmM_byQuotient s m args below meth c H locs 0 0 (MQ below (va_Ql (fun r u => (r, u) = fM_byQuotient a1 a2 a4 σ) (mw_E D ad A) A) args s 0 0 A) (F0 m 0 ls []) := by
  obtain ⟨hx, hb, hr, hml, hown, hts, hlocks⟩ := id C
  refine lv_iload_n hx hb dM_byQuotient_0 rfl (lv_at hl 1 rfl) ?_
  refine lv_lload_n hx hb dM_byQuotient_1 rfl (lv_at hl 2 rfl) ?_
  refine pw_call (va_runS (As := [.int a1, .long a2]) (rest := []) ⟨hx, hb, hml, hown, hts⟩ (qM_isMinus l a1 a2) (va_cwS 2 hts (gS w_615 w_616 w_34 w_617) rfl rfl rfl (by decide +kernel) ⟨Nat.le_of_ble_eq_true rfl, Nat.le_of_ble_eq_true rfl⟩) ⟨pw_bT, fun U hU hW => ⟨rfl, trivial⟩⟩ rfl rfl hl.1 rfl (lv_room (Nat.le_of_ble_eq_true rfl)) dM_byQuotient_2 ⟨Nat.zero_le _, Nat.zero_le _⟩) ?_
  refine lv_iload_n hx hb dM_byQuotient_5 rfl (lv_at hl 1 rfl) ?_
  refine lv_lload hx hb dM_byQuotient_6 (lv_at hl 3 rfl) ?_
  refine pw_call (va_runS (As := [.int a1, .long a4]) (rest := [.int (fM_isMinus a1 a2)]) ⟨hx, hb, hml, hown, hts⟩ (qM_isMinus l a1 a4) (va_cwS 2 hts (gS w_615 w_616 w_34 w_617) rfl rfl rfl (by decide +kernel) ⟨Nat.le_of_ble_eq_true rfl, Nat.le_of_ble_eq_true rfl⟩) ⟨pw_bT, fun U hU hW => ⟨rfl, trivial⟩⟩ rfl rfl hl.1 rfl (lv_room (Nat.le_of_ble_eq_true rfl)) dM_byQuotient_8 ⟨Nat.zero_le _, Nat.zero_le _⟩) ?_
  refine lv_icmp_eq (tgt := 18) hx hb dM_byQuotient_11 (by decide) (fun h1 => ?_) (fun h1 => ?_)
  · refine lv_iconst (v := 0) hx hb dM_byQuotient_18 (by decide) ?_
    have hS9 : (SM_byQuotient_19 a1 a2 a4 0 σ) := by have w9 := hS; rw [SM_byQuotient, if_pos h1] at w9; exact w9
    rw [(show fM_byQuotient a1 a2 a4 σ = fM_byQuotient_19 a1 a2 a4 0 σ by rw [fM_byQuotient, if_pos h1])]
    exact kM_byQuotient_19 C hK hA a1 a2 a4 0 σ (Or.inl rfl) (hS9) hM (lv_sub hl [0, 1, 2, 3] rfl)
  · refine lv_iconst (v := 1) hx hb dM_byQuotient_14 (by decide) ?_
    refine lv_goto (tgt := 19) hx hb dM_byQuotient_15 (by decide) ?_
    have hS9 : (SM_byQuotient_19 a1 a2 a4 1 σ) := by have w9 := hS; rw [SM_byQuotient, if_neg h1] at w9; exact w9
    rw [(show fM_byQuotient a1 a2 a4 σ = fM_byQuotient_19 a1 a2 a4 1 σ by rw [fM_byQuotient, if_neg h1])]
    exact kM_byQuotient_19 C hK hA a1 a2 a4 1 σ (Or.inr rfl) (hS9) hM (lv_sub hl [0, 1, 2, 3] rfl)
set_option maxHeartbeats 4000000 in
set_option maxRecDepth 100000 in
theorem qM_byQuotient (l : Launch) (D : va_G) (ad : Nat → Nat) (a1 : Int32) (a2 : Int64) (a4 : Int64) (σ : MS) (sz : Nat) (hS : SM_byQuotient a1 a2 a4 σ) : Met l yM_byQuotient wsM_byQuotient rmM_byQuotient (va_Pc [.ref (ad 0), .int a1, .long a2, .long a4] (mw_B D ad σ sz)) (va_Ql (fun r u => (r, u) = fM_byQuotient a1 a2 a4 σ) (mw_E D ad (va_A (mw_c ad σ) sz)) (va_A (mw_c ad σ) sz)) 0 0 (va_A (mw_c ad σ) sz) := by
  refine Met.ofW (cc := cM_byQuotient) (maxL := 8) (ret := (some .long)) (by decide) rfl ?_
  intro p e s m args below meth c s₁ B hml hv
  obtain ⟨rfl, hsz, hP, hK, hD⟩ := hv
  have hts0 := atoms_spec (ws := wsM_byQuotient) B.pre
  have hts := fun (w : Cond) (h : w ∈ aw) => hts0 w (List.mem_cons_of_mem _ h)
  have hown : s.vm.findClass "BitNumbersModel" = some m.cls := findClass_of_methodNamed B.named
  subst hsz
  have hl := lv_entry ([.ref (ad 0), .int a1, .long a2, .long a4]) (n := 8) (Nat.le_of_ble_eq_true rfl)
  rw [lg_entry_eq]
  generalize (lg_sl ([.ref (ad 0), .int a1, .long a2, .long a4]) ++ List.replicate (8 - (lg_sl ([.ref (ad 0), .int a1, .long a2, .long a4])).length) Slot.unset).toArray = ls at hl ⊢
  exact kM_byQuotient_0 ⟨B.exec, B.bytes, B.returns, hml, hown, hts, B.notSynchronized⟩ hK (fun q h => Or.inr h) a1 a2 a4 σ hS ⟨hP, hD.self, va_S.rf⟩ hl

set_option maxHeartbeats 4000000 in
set_option maxRecDepth 100000 in
theorem kM_root_92 {p : Program} {l : Launch} {e : Env} {s : State} {m : MethodId} {args : Array Value} {below : List Frame} {meth : Method} {c : Code} (C : pw_C p s m args meth c cM_root 5 (some .long) "BitNumbersModel") {D : va_G} {ad : Nat → Nat} {A : Nat → Prop} (hK : va_K D clM (tyA ad) s) (hA : ∀ q, s.heap.size ≤ q → A q) (s0 : Int32) (s1 : Int32) (s2 : Int32) (σ : MS) (hzs1 : s1 = 0 ∨ s1 = 1) (hS : SM_root_92 s0 s1 s2 σ) {H : Heap} {locs : List Loc} (hM : mw D ad A s.heap H locs σ) {ls : Array Slot} (hl : lv_has ls 5 []) : W p l e rmM_root s m args below meth c H locs 0 0 (MQ below (va_Ql (fun r u => (r, u) = fM_root_92 s0 s1 s2 σ) (mw_E D ad A) A) args s 0 0 A) (F0 m 92 ls [.int s0, .int s1, .int s2, .ref (ad 0)]) := by
  obtain ⟨hx, hb, hr, hml, hown, hts, hlocks⟩ := id C
  refine mw_calll (F := fM_rounded s2 s1 s0 σ) (va_runV (As := [.int s2, .int s1, .int s0]) (rest := []) ⟨hx, hb, hml, hown, hts⟩ (qM_rounded l D ad s2 s1 s0 σ H.size) (cwV 3 hts (gV w_675 w_677 w_9 w_34 w_678) rfl rfl rfl (by decide +kernel) ⟨Nat.le_of_ble_eq_true rfl, Nat.le_of_ble_eq_true rfl⟩) (mw_preV hK hM) rfl rfl hl.1 rfl (lv_room (Nat.le_of_ble_eq_true rfl)) dM_root_92 ⟨Nat.zero_le _, Nat.zero_le _⟩) hM hA (fun H locs hM => ?_)
  exact W.lret (v := (fM_rounded s2 s1 s0 σ).1) hx hb hr (fun t ht hW => ⟨⟨(fM_rounded s2 s1 s0 σ).1, (fM_rounded s2 s1 s0 σ).2, rfl, by rw [(show fM_root_92 s0 s1 s2 σ = ((fM_rounded s2 s1 s0 σ).1, (fM_rounded s2 s1 s0 σ).2) by rw [fM_root_92])], by rw [ht]; exact hM.1, va_K.moved hW.alike hK, hM.2.1⟩, hM.2.2.F ht⟩) hM.2.2.2.2 dM_root_95
set_option maxHeartbeats 4000000 in
set_option maxRecDepth 100000 in
theorem kM_root_70 {p : Program} {l : Launch} {e : Env} {s : State} {m : MethodId} {args : Array Value} {below : List Frame} {meth : Method} {c : Code} (C : pw_C p s m args meth c cM_root 5 (some .long) "BitNumbersModel") {D : va_G} {ad : Nat → Nat} {A : Nat → Prop} (hK : va_K D clM (tyA ad) s) (hA : ∀ q, s.heap.size ≤ q → A q) (a1 : Int32) (a4 : Int32) (σ : MS) (hS : SM_root_70 a1 a4 σ) {H : Heap} {locs : List Loc} (hM : mw D ad A s.heap H locs σ) {ls : Array Slot} (hl : lv_has ls 5 [(0, .ref (ad 0)), (1, .int a1), (4, .int a4)]) : W p l e rmM_root s m args below meth c H locs 0 0 (MQ below (va_Ql (fun r u => (r, u) = fM_root_70 a1 a4 σ) (mw_E D ad A) A) args s 0 0 A) (F0 m 70 ls []) := by
  obtain ⟨hx, hb, hr, hml, hown, hts, hlocks⟩ := id C
  refine lv_aload_n hx hb dM_root_70 rfl (lv_at hl 0 rfl) ?_
  refine lv_iload_n hx hb dM_root_71 rfl (lv_at hl 1 rfl) ?_
  refine lv_iconst (v := 0) hx hb dM_root_72 (by decide) ?_
  refine lv_iload hx hb dM_root_73 (lv_at hl 2 rfl) ?_
  refine lv_if_lt (tgt := 85) hx hb dM_root_75 (by decide) (fun h1 => ?_) (fun h1 => ?_)
  · refine lv_iconst (v := 1) hx hb dM_root_85 (by decide) ?_
    refine lv_iload hx hb dM_root_86 (lv_at hl 2 rfl) ?_
    refine lv_isub hx hb dM_root_88 ?_
    refine lv_iconst (v := 2) hx hb dM_root_89 (by decide) ?_
    refine lv_idiv hx hb dM_root_90 (by decide) ?_
    refine lv_ineg hx hb dM_root_91 ?_
    have hS9 : (SM_root_92 (-((1 - a4) / 2)) 0 a1 σ) := by have w9 := hS; rw [SM_root_70, if_pos h1] at w9; exact w9
    rw [(show fM_root_70 a1 a4 σ = fM_root_92 (-((1 - a4) / 2)) 0 a1 σ by rw [fM_root_70, if_pos h1])]
    exact kM_root_92 C hK hA (-((1 - a4) / 2)) 0 a1 σ (Or.inl rfl) (hS9) hM (lv_sub hl [] rfl)
  · refine lv_iload hx hb dM_root_78 (lv_at hl 2 rfl) ?_
    refine lv_iconst (v := 2) hx hb dM_root_80 (by decide) ?_
    refine lv_idiv hx hb dM_root_81 (by decide) ?_
    refine lv_goto (tgt := 92) hx hb dM_root_82 (by decide) ?_
    have hS9 : (SM_root_92 (a4 / 2) 0 a1 σ) := by have w9 := hS; rw [SM_root_70, if_neg h1] at w9; exact w9
    rw [(show fM_root_70 a1 a4 σ = fM_root_92 (a4 / 2) 0 a1 σ by rw [fM_root_70, if_neg h1])]
    exact kM_root_92 C hK hA (a4 / 2) 0 a1 σ (Or.inl rfl) (hS9) hM (lv_sub hl [] rfl)
set_option maxHeartbeats 4000000 in
set_option maxRecDepth 100000 in
theorem kM_root_0 {p : Program} {l : Launch} {e : Env} {s : State} {m : MethodId} {args : Array Value} {below : List Frame} {meth : Method} {c : Code} (C : pw_C p s m args meth c cM_root 5 (some .long) "BitNumbersModel") {D : va_G} {ad : Nat → Nat} {A : Nat → Prop} (hK : va_K D clM (tyA ad) s) (hA : ∀ q, s.heap.size ≤ q → A q) (a1 : Int32) (a2 : Int64) (σ : MS) (hS : SM_root a1 a2 σ) {H : Heap} {locs : List Loc} (hM : mw D ad A s.heap H locs σ) {ls : Array Slot} (hl : lv_has ls 5 [(0, .ref (ad 0)), (1, .int a1), (2, .long a2)]) : W p l e rmM_root s m args below meth c H locs 0 0 (MQ below (va_Ql (fun r u => (r, u) = fM_root a1 a2 σ) (mw_E D ad A) A) args s 0 0 A) (F0 m 0 ls []) := by
  obtain ⟨hx, hb, hr, hml, hown, hts, hlocks⟩ := id C
  refine lv_iload_n hx hb dM_root_0 rfl (lv_at hl 1 rfl) ?_
  refine lv_lload_n hx hb dM_root_1 rfl (lv_at hl 2 rfl) ?_
  refine pw_call (va_runS (As := [.int a1, .long a2]) (rest := []) ⟨hx, hb, hml, hown, hts⟩ (qM_isZero l a1 a2) (va_cwS 2 hts (gS w_609 w_610 w_34 w_611) rfl rfl rfl (by decide +kernel) ⟨Nat.le_of_ble_eq_true rfl, Nat.le_of_ble_eq_true rfl⟩) ⟨pw_bT, fun U hU hW => ⟨rfl, trivial⟩⟩ rfl rfl hl.1 rfl (lv_room (Nat.le_of_ble_eq_true rfl)) dM_root_2 ⟨Nat.zero_le _, Nat.zero_le _⟩) ?_
  refine lv_if_eq (tgt := 10) hx hb dM_root_5 (by decide) (fun h1 => ?_) (fun h1 => ?_)
  · refine lv_iload_n hx hb dM_root_10 rfl (lv_at hl 1 rfl) ?_
    refine lv_lload_n hx hb dM_root_11 rfl (lv_at hl 2 rfl) ?_
    refine pw_call (va_runS (As := [.int a1, .long a2]) (rest := []) ⟨hx, hb, hml, hown, hts⟩ (qM_isMinus l a1 a2) (va_cwS 2 hts (gS w_615 w_616 w_34 w_617) rfl rfl rfl (by decide +kernel) ⟨Nat.le_of_ble_eq_true rfl, Nat.le_of_ble_eq_true rfl⟩) ⟨pw_bT, fun U hU hW => ⟨rfl, trivial⟩⟩ rfl rfl hl.1 rfl (lv_room (Nat.le_of_ble_eq_true rfl)) dM_root_12 ⟨Nat.zero_le _, Nat.zero_le _⟩) ?_
    refine lv_if_eq (tgt := 23) hx hb dM_root_15 (by decide) (fun h2 => ?_) (fun h2 => ?_)
    · refine lv_iload_n hx hb dM_root_23 rfl (lv_at hl 1 rfl) ?_
      refine lv_lload_n hx hb dM_root_24 rfl (lv_at hl 2 rfl) ?_
      refine pw_call (va_runS (As := [.int a1, .long a2]) (rest := []) ⟨hx, hb, hml, hown, hts⟩ (qM_isInfinite l a1 a2) (va_cwS 2 hts (gS w_660 w_661 w_34 w_662) rfl rfl rfl (by decide +kernel) ⟨Nat.le_of_ble_eq_true rfl, Nat.le_of_ble_eq_true rfl⟩) ⟨pw_bT, fun U hU hW => ⟨rfl, trivial⟩⟩ rfl rfl hl.1 rfl (lv_room (Nat.le_of_ble_eq_true rfl)) dM_root_25 ⟨Nat.zero_le _, Nat.zero_le _⟩) ?_
      refine lv_if_eq (tgt := 33) hx hb dM_root_28 (by decide) (fun h3 => ?_) (fun h3 => ?_)
      · refine lv_aload_n hx hb dM_root_33 rfl (lv_at hl 0 rfl) ?_
        refine lv_iconst (v := 2) hx hb dM_root_34 (by decide) ?_
        refine mw_put (v := .int 2) (ty := .int) (σ' := ms_set_mode σ 2) hx hb hts hown hK hM 10 (by decide) (hts _ w_497) rfl (by decide +kernel) rfl rfl (mw_pt_mode _ _ _) dM_root_35 (fun H locs hM => ?_)
        refine lv_aload_n hx hb dM_root_38 rfl (lv_at hl 0 rfl) ?_
        refine lv_iload_n hx hb dM_root_39 rfl (lv_at hl 1 rfl) ?_
        refine lv_lload_n hx hb dM_root_40 rfl (lv_at hl 2 rfl) ?_
        refine pw_call (va_runS (As := [.int a1, .long a2]) (rest := [.ref (ad 0)]) ⟨hx, hb, hml, hown, hts⟩ (qM_significand l a1 a2) (va_cwS 2 hts (gS w_663 w_664 w_34 w_665) rfl rfl rfl (by decide +kernel) ⟨Nat.le_of_ble_eq_true rfl, Nat.le_of_ble_eq_true rfl⟩) ⟨pw_bT, fun U hU hW => ⟨rfl, trivial⟩⟩ rfl rfl hl.1 rfl (lv_room (Nat.le_of_ble_eq_true rfl)) dM_root_41 ⟨Nat.zero_le _, Nat.zero_le _⟩) ?_
        refine mw_put (v := .long (fM_significand a1 a2)) (ty := .long) (σ' := ms_set_dividend (ms_set_mode σ 2) (fM_significand a1 a2)) hx hb hts hown hK hM 11 (by decide) (hts _ w_498) rfl (by decide +kernel) rfl rfl (mw_pt_dividend _ _ _) dM_root_44 (fun H locs hM => ?_)
        refine lv_aload_n hx hb dM_root_47 rfl (lv_at hl 0 rfl) ?_
        refine lv_iload_n hx hb dM_root_48 rfl (lv_at hl 1 rfl) ?_
        refine lv_lload_n hx hb dM_root_49 rfl (lv_at hl 2 rfl) ?_
        refine pw_call (va_runS (As := [.int a1, .long a2]) (rest := [.ref (ad 0)]) ⟨hx, hb, hml, hown, hts⟩ (qM_scaleOf l a1 a2) (va_cwS 2 hts (gS w_666 w_667 w_34 w_668) rfl rfl rfl (by decide +kernel) ⟨Nat.le_of_ble_eq_true rfl, Nat.le_of_ble_eq_true rfl⟩) ⟨pw_bT, fun U hU hW => ⟨rfl, trivial⟩⟩ rfl rfl hl.1 rfl (lv_room (Nat.le_of_ble_eq_true rfl)) dM_root_50 ⟨Nat.zero_le _, Nat.zero_le _⟩) ?_
        refine mw_put (v := .int (fM_scaleOf a1 a2)) (ty := .int) (σ' := ms_set_scale (ms_set_dividend (ms_set_mode σ 2) (fM_significand a1 a2)) (fM_scaleOf a1 a2)) hx hb hts hown hK hM 13 (by decide) (hts _ w_500) rfl (by decide +kernel) rfl rfl (mw_pt_scale _ _ _) dM_root_53 (fun H locs hM => ?_)
        refine lv_aload_n hx hb dM_root_56 rfl (lv_at hl 0 rfl) ?_
        refine mw_get (v := .long (ms_dividend (ms_set_scale (ms_set_dividend (ms_set_mode σ 2) (fM_significand a1 a2)) (fM_scaleOf a1 a2)))) hx hb hts hown hK hM 11 (by decide) (hts _ w_498) (mw_fd_dividend _ _) dM_root_57 ?_
        have hS60 : (((ms_dividend (ms_set_scale (ms_set_dividend (ms_set_mode σ 2) (fM_significand a1 a2)) (fM_scaleOf a1 a2))) ≠ 0) ∧ (SM_root_70 a1 ((fM_highest (ms_dividend (ms_set_scale (ms_set_dividend (ms_set_mode σ 2) (fM_significand a1 a2)) (fM_scaleOf a1 a2)))) + (ms_scale (ms_set_scale (ms_set_dividend (ms_set_mode σ 2) (fM_significand a1 a2)) (fM_scaleOf a1 a2)))) (ms_set_scale (ms_set_dividend (ms_set_mode σ 2) (fM_significand a1 a2)) (fM_scaleOf a1 a2)))) := by have w9 := hS; rw [SM_root, if_pos h1, if_pos h2, if_pos h3] at w9; exact w9
        refine pw_call (va_runS (As := [.long (ms_dividend (ms_set_scale (ms_set_dividend (ms_set_mode σ 2) (fM_significand a1 a2)) (fM_scaleOf a1 a2)))]) (rest := []) ⟨hx, hb, hml, hown, hts⟩ (qM_highest l (ms_dividend (ms_set_scale (ms_set_dividend (ms_set_mode σ 2) (fM_significand a1 a2)) (fM_scaleOf a1 a2))) hS60.1) (va_cwS 1 hts (gS w_672 w_673 w_34 w_674) rfl rfl rfl (by decide +kernel) ⟨Nat.le_of_ble_eq_true rfl, Nat.le_of_ble_eq_true rfl⟩) ⟨pw_bT, fun U hU hW => ⟨rfl, trivial⟩⟩ rfl rfl hl.1 rfl (lv_room (Nat.le_of_ble_eq_true rfl)) dM_root_60 ⟨Nat.zero_le _, Nat.zero_le _⟩) ?_
        refine lv_aload_n hx hb dM_root_63 rfl (lv_at hl 0 rfl) ?_
        refine mw_get (v := .int (ms_scale (ms_set_scale (ms_set_dividend (ms_set_mode σ 2) (fM_significand a1 a2)) (fM_scaleOf a1 a2)))) hx hb hts hown hK hM 13 (by decide) (hts _ w_500) (mw_fd_scale _ _) dM_root_64 ?_
        refine lv_iadd hx hb dM_root_67 ?_
        refine lv_istore (lv' := [(4, .int ((fM_highest (ms_dividend (ms_set_scale (ms_set_dividend (ms_set_mode σ 2) (fM_significand a1 a2)) (fM_scaleOf a1 a2)))) + (ms_scale (ms_set_scale (ms_set_dividend (ms_set_mode σ 2) (fM_significand a1 a2)) (fM_scaleOf a1 a2))))), (0, .ref (ad 0)), (1, .int a1), (2, .long a2)]) hx hb dM_root_68 hl (by decide) rfl (fun ls hl => ?_)
        have hS9 : (SM_root_70 a1 ((fM_highest (ms_dividend (ms_set_scale (ms_set_dividend (ms_set_mode σ 2) (fM_significand a1 a2)) (fM_scaleOf a1 a2)))) + (ms_scale (ms_set_scale (ms_set_dividend (ms_set_mode σ 2) (fM_significand a1 a2)) (fM_scaleOf a1 a2)))) (ms_set_scale (ms_set_dividend (ms_set_mode σ 2) (fM_significand a1 a2)) (fM_scaleOf a1 a2))) := hS60.2
        rw [(show fM_root a1 a2 σ = fM_root_70 a1 ((fM_highest (ms_dividend (ms_set_scale (ms_set_dividend (ms_set_mode σ 2) (fM_significand a1 a2)) (fM_scaleOf a1 a2)))) + (ms_scale (ms_set_scale (ms_set_dividend (ms_set_mode σ 2) (fM_significand a1 a2)) (fM_scaleOf a1 a2)))) (ms_set_scale (ms_set_dividend (ms_set_mode σ 2) (fM_significand a1 a2)) (fM_scaleOf a1 a2)) by rw [fM_root, if_pos h1, if_pos h2, if_pos h3])]
        exact kM_root_70 C hK hA a1 ((fM_highest (ms_dividend (ms_set_scale (ms_set_dividend (ms_set_mode σ 2) (fM_significand a1 a2)) (fM_scaleOf a1 a2)))) + (ms_scale (ms_set_scale (ms_set_dividend (ms_set_mode σ 2) (fM_significand a1 a2)) (fM_scaleOf a1 a2)))) (ms_set_scale (ms_set_dividend (ms_set_mode σ 2) (fM_significand a1 a2)) (fM_scaleOf a1 a2)) (hS9) hM (lv_sub hl [1, 2, 0] rfl)
      · refine lv_lload_n hx hb dM_root_31 rfl (lv_at hl 2 rfl) ?_
        exact W.lret (v := a2) hx hb hr (fun t ht hW => ⟨⟨a2, σ, rfl, by rw [(show fM_root a1 a2 σ = (a2, σ) by rw [fM_root, if_pos h1, if_pos h2, if_neg h3])], by rw [ht]; exact hM.1, va_K.moved hW.alike hK, hM.2.1⟩, hM.2.2.F ht⟩) hM.2.2.2.2 dM_root_32
    · refine lv_iload_n hx hb dM_root_18 rfl (lv_at hl 1 rfl) ?_
      refine pw_call (va_runS (As := [.int a1]) (rest := []) ⟨hx, hb, hml, hown, hts⟩ (qM_theNone l a1) (va_cwS 1 hts (gS w_651 w_652 w_34 w_653) rfl rfl rfl (by decide +kernel) ⟨Nat.le_of_ble_eq_true rfl, Nat.le_of_ble_eq_true rfl⟩) ⟨pw_bT, fun U hU hW => ⟨rfl, trivial⟩⟩ rfl rfl hl.1 rfl (lv_room (Nat.le_of_ble_eq_true rfl)) dM_root_19 ⟨Nat.zero_le _, Nat.zero_le _⟩) ?_
      exact W.lret (v := fM_theNone a1) hx hb hr (fun t ht hW => ⟨⟨fM_theNone a1, σ, rfl, by rw [(show fM_root a1 a2 σ = (fM_theNone a1, σ) by rw [fM_root, if_pos h1, if_neg h2])], by rw [ht]; exact hM.1, va_K.moved hW.alike hK, hM.2.1⟩, hM.2.2.F ht⟩) hM.2.2.2.2 dM_root_22
  · refine lv_lload_n hx hb dM_root_8 rfl (lv_at hl 2 rfl) ?_
    exact W.lret (v := a2) hx hb hr (fun t ht hW => ⟨⟨a2, σ, rfl, by rw [(show fM_root a1 a2 σ = (a2, σ) by rw [fM_root, if_neg h1])], by rw [ht]; exact hM.1, va_K.moved hW.alike hK, hM.2.1⟩, hM.2.2.F ht⟩) hM.2.2.2.2 dM_root_9
set_option maxHeartbeats 4000000 in
set_option maxRecDepth 100000 in
theorem qM_root (l : Launch) (D : va_G) (ad : Nat → Nat) (a1 : Int32) (a2 : Int64) (σ : MS) (sz : Nat) (hS : SM_root a1 a2 σ) : Met l yM_root wsM_root rmM_root (va_Pc [.ref (ad 0), .int a1, .long a2] (mw_B D ad σ sz)) (va_Ql (fun r u => (r, u) = fM_root a1 a2 σ) (mw_E D ad (va_A (mw_c ad σ) sz)) (va_A (mw_c ad σ) sz)) 0 0 (va_A (mw_c ad σ) sz) := by
  refine Met.ofW (cc := cM_root) (maxL := 5) (ret := (some .long)) (by decide) rfl ?_
  intro p e s m args below meth c s₁ B hml hv
  obtain ⟨rfl, hsz, hP, hK, hD⟩ := hv
  have hts0 := atoms_spec (ws := wsM_root) B.pre
  have hts := fun (w : Cond) (h : w ∈ aw) => hts0 w (List.mem_cons_of_mem _ h)
  have hown : s.vm.findClass "BitNumbersModel" = some m.cls := findClass_of_methodNamed B.named
  subst hsz
  have hl := lv_entry ([.ref (ad 0), .int a1, .long a2]) (n := 5) (Nat.le_of_ble_eq_true rfl)
  rw [lg_entry_eq]
  generalize (lg_sl ([.ref (ad 0), .int a1, .long a2]) ++ List.replicate (5 - (lg_sl ([.ref (ad 0), .int a1, .long a2])).length) Slot.unset).toArray = ls at hl ⊢
  exact kM_root_0 ⟨B.exec, B.bytes, B.returns, hml, hown, hts, B.notSynchronized⟩ hK (fun q h => Or.inr h) a1 a2 σ hS ⟨hP, hD.self, va_S.rf⟩ hl

set_option maxHeartbeats 4000000 in
set_option maxRecDepth 100000 in
theorem kM_towards_213 {p : Program} {l : Launch} {e : Env} {s : State} {m : MethodId} {args : Array Value} {below : List Frame} {meth : Method} {c : Code} (C : pw_C p s m args meth c cM_towards 16 (some .long) "BitNumbersModel") {D : va_G} {ad : Nat → Nat} {A : Nat → Prop} (hK : va_K D clM (tyA ad) s) (hA : ∀ q, s.heap.size ≤ q → A q) (s0 : Int64) (s1 : Int32) (s2 : Int32) (σ : MS) (hzs1 : s1 = 0 ∨ s1 = 1) (hS : SM_towards_213 s0 s1 s2 σ) {H : Heap} {locs : List Loc} (hM : mw D ad A s.heap H locs σ) {ls : Array Slot} (hl : lv_has ls 16 []) : W p l e rmM_towards s m args below meth c H locs 0 0 (MQ below (va_Ql (fun r u => (r, u) = fM_towards_213 s0 s1 s2 σ) (mw_E D ad A) A) args s 0 0 A) (F0 m 213 ls [.long s0, .int s1, .int s2, .ref (ad 0)]) := by
  obtain ⟨hx, hb, hr, hml, hown, hts, hlocks⟩ := id C
  refine lv_iconst (v := 0) hx hb dM_towards_213 (by decide) ?_
  have hS214 : ((SM_valueOf s2 s1 s0 0 σ) ∧ True) := by have w9 := hS; rw [SM_towards_213] at w9; exact w9
  refine mw_calll (F := fM_valueOf s2 s1 s0 0 σ) (va_runV (As := [.int s2, .int s1, .long s0, .int 0]) (rest := []) ⟨hx, hb, hml, hown, hts⟩ (qM_valueOf l D ad s2 s1 s0 0 σ H.size hS214.1) (cwV 4 hts (gV w_750 w_752 w_25 w_34 w_753) rfl rfl rfl (by decide +kernel) ⟨Nat.le_of_ble_eq_true rfl, Nat.le_of_ble_eq_true rfl⟩) (mw_preV hK hM) rfl rfl hl.1 rfl (lv_room (Nat.le_of_ble_eq_true rfl)) dM_towards_214 ⟨Nat.zero_le _, Nat.zero_le _⟩) hM hA (fun H locs hM => ?_)
  exact W.lret (v := (fM_valueOf s2 s1 s0 0 σ).1) hx hb hr (fun t ht hW => ⟨⟨(fM_valueOf s2 s1 s0 0 σ).1, (fM_valueOf s2 s1 s0 0 σ).2, rfl, by rw [(show fM_towards_213 s0 s1 s2 σ = ((fM_valueOf s2 s1 s0 0 σ).1, (fM_valueOf s2 s1 s0 0 σ).2) by rw [fM_towards_213])], by rw [ht]; exact hM.1, va_K.moved hW.alike hK, hM.2.1⟩, hM.2.2.F ht⟩) hM.2.2.2.2 dM_towards_217
set_option maxHeartbeats 4000000 in
set_option maxRecDepth 100000 in
theorem kM_towards_193 {p : Program} {l : Launch} {e : Env} {s : State} {m : MethodId} {args : Array Value} {below : List Frame} {meth : Method} {c : Code} (C : pw_C p s m args meth c cM_towards 16 (some .long) "BitNumbersModel") {D : va_G} {ad : Nat → Nat} {A : Nat → Prop} (hK : va_K D clM (tyA ad) s) (hA : ∀ q, s.heap.size ≤ q → A q) (a2 : Int32) (a5 : Int32) (a9 : Int64) (s0 : Int32) (σ : MS) (hz5 : a5 = 0 ∨ a5 = 1) (hzs0 : s0 = 0 ∨ s0 = 1) (hS : SM_towards_193 a2 a5 a9 s0 σ) {H : Heap} {locs : List Loc} (hM : mw D ad A s.heap H locs σ) {ls : Array Slot} (hl : lv_has ls 16 [(0, .ref (ad 0)), (2, .int a2), (5, .int a5), (9, .long a9)]) : W p l e rmM_towards s m args below meth c H locs 0 0 (MQ below (va_Ql (fun r u => (r, u) = fM_towards_193 a2 a5 a9 s0 σ) (mw_E D ad A) A) args s 0 0 A) (F0 m 193 ls [.int s0]) := by
  obtain ⟨hx, hb, hr, hml, hown, hts, hlocks⟩ := id C
  refine lv_istore (lv' := [(15, .int s0), (0, .ref (ad 0)), (2, .int a2), (5, .int a5), (9, .long a9)]) hx hb dM_towards_193 hl (by decide) rfl (fun ls hl => ?_)
  refine lv_aload_n hx hb dM_towards_195 rfl (lv_at hl 1 rfl) ?_
  refine lv_iload_n hx hb dM_towards_196 rfl (lv_at hl 2 rfl) ?_
  refine lv_iload hx hb dM_towards_197 (lv_at hl 3 rfl) ?_
  refine lv_iload hx hb dM_towards_199 (lv_at hl 0 rfl) ?_
  refine lv_if_eq (tgt := 211) hx hb dM_towards_201 (by decide) (fun h1 => ?_) (fun h1 => ?_)
  · refine lv_lload hx hb dM_towards_211 (lv_at hl 4 rfl) ?_
    have hS9 : (SM_towards_213 a9 a5 a2 σ) := by have w9 := hS; rw [SM_towards_193, if_pos h1] at w9; exact w9
    rw [(show fM_towards_193 a2 a5 a9 s0 σ = fM_towards_213 a9 a5 a2 σ by rw [fM_towards_193, if_pos h1])]
    exact kM_towards_213 C hK hA a9 a5 a2 σ hz5 (hS9) hM (lv_sub hl [] rfl)
  · refine lv_lload hx hb dM_towards_204 (lv_at hl 4 rfl) ?_
    refine lv_lconst (v := 1) hx hb dM_towards_206 (by decide) ?_
    refine lv_ladd hx hb dM_towards_207 ?_
    refine lv_goto (tgt := 213) hx hb dM_towards_208 (by decide) ?_
    have hS9 : (SM_towards_213 (a9 + 1) a5 a2 σ) := by have w9 := hS; rw [SM_towards_193, if_neg h1] at w9; exact w9
    rw [(show fM_towards_193 a2 a5 a9 s0 σ = fM_towards_213 (a9 + 1) a5 a2 σ by rw [fM_towards_193, if_neg h1])]
    exact kM_towards_213 C hK hA (a9 + 1) a5 a2 σ hz5 (hS9) hM (lv_sub hl [] rfl)
set_option maxHeartbeats 4000000 in
set_option maxRecDepth 100000 in
theorem kM_towards_192 {p : Program} {l : Launch} {e : Env} {s : State} {m : MethodId} {args : Array Value} {below : List Frame} {meth : Method} {c : Code} (C : pw_C p s m args meth c cM_towards 16 (some .long) "BitNumbersModel") {D : va_G} {ad : Nat → Nat} {A : Nat → Prop} (hK : va_K D clM (tyA ad) s) (hA : ∀ q, s.heap.size ≤ q → A q) (a2 : Int32) (a5 : Int32) (a9 : Int64) (σ : MS) (hz5 : a5 = 0 ∨ a5 = 1) (hS : SM_towards_192 a2 a5 a9 σ) {H : Heap} {locs : List Loc} (hM : mw D ad A s.heap H locs σ) {ls : Array Slot} (hl : lv_has ls 16 [(0, .ref (ad 0)), (2, .int a2), (5, .int a5), (9, .long a9)]) : W p l e rmM_towards s m args below meth c H locs 0 0 (MQ below (va_Ql (fun r u => (r, u) = fM_towards_192 a2 a5 a9 σ) (mw_E D ad A) A) args s 0 0 A) (F0 m 192 ls []) := by
  obtain ⟨hx, hb, hr, hml, hown, hts, hlocks⟩ := id C
  refine lv_iconst (v := 0) hx hb dM_towards_192 (by decide) ?_
  have hS9 : (SM_towards_193 a2 a5 a9 0 σ) := by have w9 := hS; rw [SM_towards_192] at w9; exact w9
  rw [(show fM_towards_192 a2 a5 a9 σ = fM_towards_193 a2 a5 a9 0 σ by rw [fM_towards_192])]
  exact kM_towards_193 C hK hA a2 a5 a9 0 σ hz5 (Or.inl rfl) (hS9) hM (lv_sub hl [0, 1, 2, 3] rfl)
set_option maxHeartbeats 4000000 in
set_option maxRecDepth 100000 in
theorem kM_towards_188 {p : Program} {l : Launch} {e : Env} {s : State} {m : MethodId} {args : Array Value} {below : List Frame} {meth : Method} {c : Code} (C : pw_C p s m args meth c cM_towards 16 (some .long) "BitNumbersModel") {D : va_G} {ad : Nat → Nat} {A : Nat → Prop} (hK : va_K D clM (tyA ad) s) (hA : ∀ q, s.heap.size ≤ q → A q) (a2 : Int32) (a5 : Int32) (a9 : Int64) (σ : MS) (hz5 : a5 = 0 ∨ a5 = 1) (hS : SM_towards_188 a2 a5 a9 σ) {H : Heap} {locs : List Loc} (hM : mw D ad A s.heap H locs σ) {ls : Array Slot} (hl : lv_has ls 16 [(0, .ref (ad 0)), (2, .int a2), (5, .int a5), (9, .long a9)]) : W p l e rmM_towards s m args below meth c H locs 0 0 (MQ below (va_Ql (fun r u => (r, u) = fM_towards_188 a2 a5 a9 σ) (mw_E D ad A) A) args s 0 0 A) (F0 m 188 ls []) := by
  obtain ⟨hx, hb, hr, hml, hown, hts, hlocks⟩ := id C
  refine lv_iconst (v := 1) hx hb dM_towards_188 (by decide) ?_
  refine lv_goto (tgt := 193) hx hb dM_towards_189 (by decide) ?_
  have hS9 : (SM_towards_193 a2 a5 a9 1 σ) := by have w9 := hS; rw [SM_towards_188] at w9; exact w9
  rw [(show fM_towards_188 a2 a5 a9 σ = fM_towards_193 a2 a5 a9 1 σ by rw [fM_towards_188])]
  exact kM_towards_193 C hK hA a2 a5 a9 1 σ hz5 (Or.inr rfl) (hS9) hM (lv_sub hl [0, 1, 2, 3] rfl)
set_option maxHeartbeats 4000000 in
set_option maxRecDepth 100000 in
theorem kM_towards_154 {p : Program} {l : Launch} {e : Env} {s : State} {m : MethodId} {args : Array Value} {below : List Frame} {meth : Method} {c : Code} (C : pw_C p s m args meth c cM_towards 16 (some .long) "BitNumbersModel") {D : va_G} {ad : Nat → Nat} {A : Nat → Prop} (hK : va_K D clM (tyA ad) s) (hA : ∀ q, s.heap.size ≤ q → A q) (a2 : Int32) (a5 : Int32) (a9 : Int64) (σ : MS) (hz5 : a5 = 0 ∨ a5 = 1) (hS : SM_towards_154 a2 a5 a9 σ) {H : Heap} {locs : List Loc} (hM : mw D ad A s.heap H locs σ) {ls : Array Slot} (hl : lv_has ls 16 [(0, .ref (ad 0)), (2, .int a2), (5, .int a5), (9, .long a9)]) : W p l e rmM_towards s m args below meth c H locs 0 0 (MQ below (va_Ql (fun r u => (r, u) = fM_towards_154 a2 a5 a9 σ) (mw_E D ad A) A) args s 0 0 A) (F0 m 154 ls []) := by
  obtain ⟨hx, hb, hr, hml, hown, hts, hlocks⟩ := id C
  refine lv_iconst (v := 0) hx hb dM_towards_154 (by decide) ?_
  refine lv_goto (tgt := 193) hx hb dM_towards_155 (by decide) ?_
  have hS9 : (SM_towards_193 a2 a5 a9 0 σ) := by have w9 := hS; rw [SM_towards_154] at w9; exact w9
  rw [(show fM_towards_154 a2 a5 a9 σ = fM_towards_193 a2 a5 a9 0 σ by rw [fM_towards_154])]
  exact kM_towards_193 C hK hA a2 a5 a9 0 σ hz5 (Or.inl rfl) (hS9) hM (lv_sub hl [0, 1, 2, 3] rfl)
set_option maxHeartbeats 4000000 in
set_option maxRecDepth 100000 in
theorem kM_towards_129 {p : Program} {l : Launch} {e : Env} {s : State} {m : MethodId} {args : Array Value} {below : List Frame} {meth : Method} {c : Code} (C : pw_C p s m args meth c cM_towards 16 (some .long) "BitNumbersModel") {D : va_G} {ad : Nat → Nat} {A : Nat → Prop} (hK : va_K D clM (tyA ad) s) (hA : ∀ q, s.heap.size ≤ q → A q) (a2 : Int32) (a5 : Int32) (a9 : Int64) (σ : MS) (hz5 : a5 = 0 ∨ a5 = 1) (hS : SM_towards_129 a2 a5 a9 σ) {H : Heap} {locs : List Loc} (hM : mw D ad A s.heap H locs σ) {ls : Array Slot} (hl : lv_has ls 16 [(0, .ref (ad 0)), (2, .int a2), (5, .int a5), (9, .long a9)]) : W p l e rmM_towards s m args below meth c H locs 0 0 (MQ below (va_Ql (fun r u => (r, u) = fM_towards_129 a2 a5 a9 σ) (mw_E D ad A) A) args s 0 0 A) (F0 m 129 ls []) := by
  obtain ⟨hx, hb, hr, hml, hown, hts, hlocks⟩ := id C
  refine lv_iconst (v := 0) hx hb dM_towards_129 (by decide) ?_
  refine lv_goto (tgt := 193) hx hb dM_towards_130 (by decide) ?_
  have hS9 : (SM_towards_193 a2 a5 a9 0 σ) := by have w9 := hS; rw [SM_towards_129] at w9; exact w9
  rw [(show fM_towards_129 a2 a5 a9 σ = fM_towards_193 a2 a5 a9 0 σ by rw [fM_towards_129])]
  exact kM_towards_193 C hK hA a2 a5 a9 0 σ hz5 (Or.inl rfl) (hS9) hM (lv_sub hl [0, 1, 2, 3] rfl)
set_option maxHeartbeats 4000000 in
set_option maxRecDepth 100000 in
theorem kM_towards_108 {p : Program} {l : Launch} {e : Env} {s : State} {m : MethodId} {args : Array Value} {below : List Frame} {meth : Method} {c : Code} (C : pw_C p s m args meth c cM_towards 16 (some .long) "BitNumbersModel") {D : va_G} {ad : Nat → Nat} {A : Nat → Prop} (hK : va_K D clM (tyA ad) s) (hA : ∀ q, s.heap.size ≤ q → A q) (a1 : Int32) (a2 : Int32) (a5 : Int32) (a9 : Int64) (a11 : Int64) (a13 : Int64) (σ : MS) (hz5 : a5 = 0 ∨ a5 = 1) (hS : SM_towards_108 a1 a2 a5 a9 a11 a13 σ) {H : Heap} {locs : List Loc} (hM : mw D ad A s.heap H locs σ) {ls : Array Slot} (hl : lv_has ls 16 [(0, .ref (ad 0)), (1, .int a1), (2, .int a2), (5, .int a5), (9, .long a9), (11, .long a11), (13, .long a13)]) : W p l e rmM_towards s m args below meth c H locs 0 0 (MQ below (va_Ql (fun r u => (r, u) = fM_towards_108 a1 a2 a5 a9 a11 a13 σ) (mw_E D ad A) A) args s 0 0 A) (F0 m 108 ls []) := by
  obtain ⟨hx, hb, hr, hml, hown, hts, hlocks⟩ := id C
  refine lv_iload_n hx hb dM_towards_108 rfl (lv_at hl 1 rfl) ?_
  refine lv_iconst (v := 2) hx hb dM_towards_109 (by decide) ?_
  refine lv_icmp_ne (tgt := 133) hx hb dM_towards_110 (by decide) (fun h1 => ?_) (fun h1 => ?_)
  · refine lv_iload_n hx hb dM_towards_133 rfl (lv_at hl 1 rfl) ?_
    refine lv_iconst (v := 3) hx hb dM_towards_134 (by decide) ?_
    refine lv_icmp_ne (tgt := 158) hx hb dM_towards_135 (by decide) (fun h2 => ?_) (fun h2 => ?_)
    · refine lv_iload_n hx hb dM_towards_158 rfl (lv_at hl 1 rfl) ?_
      refine lv_iconst (v := 5) hx hb dM_towards_159 (by decide) ?_
      refine lv_icmp_ne (tgt := 192) hx hb dM_towards_160 (by decide) (fun h3 => ?_) (fun h3 => ?_)
      · have hS9 : (SM_towards_192 a2 a5 a9 σ) := by have w9 := hS; rw [SM_towards_108, if_neg h1, if_neg h2, if_neg h3] at w9; exact w9
        rw [(show fM_towards_108 a1 a2 a5 a9 a11 a13 σ = fM_towards_192 a2 a5 a9 σ by rw [fM_towards_108, if_neg h1, if_neg h2, if_neg h3])]
        exact kM_towards_192 C hK hA a2 a5 a9 σ hz5 (hS9) hM (lv_sub hl [0, 2, 3, 4] rfl)
      · refine lv_lload hx hb dM_towards_163 (lv_at hl 5 rfl) ?_
        refine lv_lload hx hb dM_towards_165 (lv_at hl 6 rfl) ?_
        refine W.lcmp hx hb dM_towards_167 ?_
        refine lv_if_gt (tgt := 188) hx hb dM_towards_168 (by decide) (fun h4 => ?_) (fun h4 => ?_)
        · have h4 : a13 < a11 := (lg_cmp_gt _ _).mp h4
          have hS9 : (SM_towards_188 a2 a5 a9 σ) := by have w9 := hS; rw [SM_towards_108, if_neg h1, if_neg h2, if_pos h3, if_pos h4] at w9; exact w9
          rw [(show fM_towards_108 a1 a2 a5 a9 a11 a13 σ = fM_towards_188 a2 a5 a9 σ by rw [fM_towards_108, if_neg h1, if_neg h2, if_pos h3, if_pos h4])]
          exact kM_towards_188 C hK hA a2 a5 a9 σ hz5 (hS9) hM (lv_sub hl [0, 2, 3, 4] rfl)
        · have h4 : ¬ (a13 < a11) := fun w => h4 ((lg_cmp_gt _ _).mpr w)
          refine lv_lload hx hb dM_towards_171 (lv_at hl 5 rfl) ?_
          refine lv_lload hx hb dM_towards_173 (lv_at hl 6 rfl) ?_
          refine W.lcmp hx hb dM_towards_175 ?_
          refine lv_if_ne (tgt := 192) hx hb dM_towards_176 (by decide) (fun h5 => ?_) (fun h5 => ?_)
          · have h5 : ¬ (a11 = a13) := fun w => h5 ((lg_cmp_eq _ _).mpr w)
            have hS9 : (SM_towards_192 a2 a5 a9 σ) := by have w9 := hS; rw [SM_towards_108, if_neg h1, if_neg h2, if_pos h3, if_neg h4, if_neg h5] at w9; exact w9
            rw [(show fM_towards_108 a1 a2 a5 a9 a11 a13 σ = fM_towards_192 a2 a5 a9 σ by rw [fM_towards_108, if_neg h1, if_neg h2, if_pos h3, if_neg h4, if_neg h5])]
            exact kM_towards_192 C hK hA a2 a5 a9 σ hz5 (hS9) hM (lv_sub hl [0, 2, 3, 4] rfl)
          · have h5 : a11 = a13 := (lg_cmp_eq _ _).mp h5
            refine lv_lload hx hb dM_towards_179 (lv_at hl 4 rfl) ?_
            refine lv_lconst (v := 1) hx hb dM_towards_181 (by decide) ?_
            refine lv_land hx hb dM_towards_182 ?_
            refine lv_lconst (v := 1) hx hb dM_towards_183 (by decide) ?_
            refine W.lcmp hx hb dM_towards_184 ?_
            refine lv_if_ne (tgt := 192) hx hb dM_towards_185 (by decide) (fun h6 => ?_) (fun h6 => ?_)
            · have h6 : ¬ ((a9 &&& 1) = 1) := fun w => h6 ((lg_cmp_eq _ _).mpr w)
              have hS9 : (SM_towards_192 a2 a5 a9 σ) := by have w9 := hS; rw [SM_towards_108, if_neg h1, if_neg h2, if_pos h3, if_neg h4, if_pos h5, if_neg h6] at w9; exact w9
              rw [(show fM_towards_108 a1 a2 a5 a9 a11 a13 σ = fM_towards_192 a2 a5 a9 σ by rw [fM_towards_108, if_neg h1, if_neg h2, if_pos h3, if_neg h4, if_pos h5, if_neg h6])]
              exact kM_towards_192 C hK hA a2 a5 a9 σ hz5 (hS9) hM (lv_sub hl [0, 2, 3, 4] rfl)
            · have h6 : (a9 &&& 1) = 1 := (lg_cmp_eq _ _).mp h6
              have hS9 : (SM_towards_188 a2 a5 a9 σ) := by have w9 := hS; rw [SM_towards_108, if_neg h1, if_neg h2, if_pos h3, if_neg h4, if_pos h5, if_pos h6] at w9; exact w9
              rw [(show fM_towards_108 a1 a2 a5 a9 a11 a13 σ = fM_towards_188 a2 a5 a9 σ by rw [fM_towards_108, if_neg h1, if_neg h2, if_pos h3, if_neg h4, if_pos h5, if_pos h6])]
              exact kM_towards_188 C hK hA a2 a5 a9 σ hz5 (hS9) hM (lv_sub hl [0, 2, 3, 4] rfl)
    · refine lv_iload hx hb dM_towards_138 (lv_at hl 3 rfl) ?_
      refine lv_if_eq (tgt := 154) hx hb dM_towards_140 (by decide) (fun h7 => ?_) (fun h7 => ?_)
      · have hS9 : (SM_towards_154 a2 a5 a9 σ) := by have w9 := hS; rw [SM_towards_108, if_neg h1, if_pos h2, if_pos h7] at w9; exact w9
        rw [(show fM_towards_108 a1 a2 a5 a9 a11 a13 σ = fM_towards_154 a2 a5 a9 σ by rw [fM_towards_108, if_neg h1, if_pos h2, if_pos h7])]
        exact kM_towards_154 C hK hA a2 a5 a9 σ hz5 (hS9) hM (lv_sub hl [0, 2, 3, 4] rfl)
      · refine lv_lload hx hb dM_towards_143 (lv_at hl 5 rfl) ?_
        refine lv_lconst (v := 0) hx hb dM_towards_145 (by decide) ?_
        refine W.lcmp hx hb dM_towards_146 ?_
        refine lv_if_le (tgt := 154) hx hb dM_towards_147 (by decide) (fun h8 => ?_) (fun h8 => ?_)
        · have h8 : a11 ≤ 0 := (lg_cmp_le _ _).mp h8
          have hS9 : (SM_towards_154 a2 a5 a9 σ) := by have w9 := hS; rw [SM_towards_108, if_neg h1, if_pos h2, if_neg h7, if_pos h8] at w9; exact w9
          rw [(show fM_towards_108 a1 a2 a5 a9 a11 a13 σ = fM_towards_154 a2 a5 a9 σ by rw [fM_towards_108, if_neg h1, if_pos h2, if_neg h7, if_pos h8])]
          exact kM_towards_154 C hK hA a2 a5 a9 σ hz5 (hS9) hM (lv_sub hl [0, 2, 3, 4] rfl)
        · have h8 : ¬ (a11 ≤ 0) := fun w => h8 ((lg_cmp_le _ _).mpr w)
          refine lv_iconst (v := 1) hx hb dM_towards_150 (by decide) ?_
          refine lv_goto (tgt := 193) hx hb dM_towards_151 (by decide) ?_
          have hS9 : (SM_towards_193 a2 a5 a9 1 σ) := by have w9 := hS; rw [SM_towards_108, if_neg h1, if_pos h2, if_neg h7, if_neg h8] at w9; exact w9
          rw [(show fM_towards_108 a1 a2 a5 a9 a11 a13 σ = fM_towards_193 a2 a5 a9 1 σ by rw [fM_towards_108, if_neg h1, if_pos h2, if_neg h7, if_neg h8])]
          exact kM_towards_193 C hK hA a2 a5 a9 1 σ hz5 (Or.inr rfl) (hS9) hM (lv_sub hl [0, 2, 3, 4] rfl)
  · refine lv_iload hx hb dM_towards_113 (lv_at hl 3 rfl) ?_
    refine lv_if_ne (tgt := 129) hx hb dM_towards_115 (by decide) (fun h9 => ?_) (fun h9 => ?_)
    · have hS9 : (SM_towards_129 a2 a5 a9 σ) := by have w9 := hS; rw [SM_towards_108, if_pos h1, if_neg h9] at w9; exact w9
      rw [(show fM_towards_108 a1 a2 a5 a9 a11 a13 σ = fM_towards_129 a2 a5 a9 σ by rw [fM_towards_108, if_pos h1, if_neg h9])]
      exact kM_towards_129 C hK hA a2 a5 a9 σ hz5 (hS9) hM (lv_sub hl [0, 2, 3, 4] rfl)
    · refine lv_lload hx hb dM_towards_118 (lv_at hl 5 rfl) ?_
      refine lv_lconst (v := 0) hx hb dM_towards_120 (by decide) ?_
      refine W.lcmp hx hb dM_towards_121 ?_
      refine lv_if_le (tgt := 129) hx hb dM_towards_122 (by decide) (fun h10 => ?_) (fun h10 => ?_)
      · have h10 : a11 ≤ 0 := (lg_cmp_le _ _).mp h10
        have hS9 : (SM_towards_129 a2 a5 a9 σ) := by have w9 := hS; rw [SM_towards_108, if_pos h1, if_pos h9, if_pos h10] at w9; exact w9
        rw [(show fM_towards_108 a1 a2 a5 a9 a11 a13 σ = fM_towards_129 a2 a5 a9 σ by rw [fM_towards_108, if_pos h1, if_pos h9, if_pos h10])]
        exact kM_towards_129 C hK hA a2 a5 a9 σ hz5 (hS9) hM (lv_sub hl [0, 2, 3, 4] rfl)
      · have h10 : ¬ (a11 ≤ 0) := fun w => h10 ((lg_cmp_le _ _).mpr w)
        refine lv_iconst (v := 1) hx hb dM_towards_125 (by decide) ?_
        refine lv_goto (tgt := 193) hx hb dM_towards_126 (by decide) ?_
        have hS9 : (SM_towards_193 a2 a5 a9 1 σ) := by have w9 := hS; rw [SM_towards_108, if_pos h1, if_pos h9, if_neg h10] at w9; exact w9
        rw [(show fM_towards_108 a1 a2 a5 a9 a11 a13 σ = fM_towards_193 a2 a5 a9 1 σ by rw [fM_towards_108, if_pos h1, if_pos h9, if_neg h10])]
        exact kM_towards_193 C hK hA a2 a5 a9 1 σ hz5 (Or.inr rfl) (hS9) hM (lv_sub hl [0, 2, 3, 4] rfl)
set_option maxHeartbeats 4000000 in
set_option maxRecDepth 100000 in
theorem kM_towards_106 {p : Program} {l : Launch} {e : Env} {s : State} {m : MethodId} {args : Array Value} {below : List Frame} {meth : Method} {c : Code} (C : pw_C p s m args meth c cM_towards 16 (some .long) "BitNumbersModel") {D : va_G} {ad : Nat → Nat} {A : Nat → Prop} (hK : va_K D clM (tyA ad) s) (hA : ∀ q, s.heap.size ≤ q → A q) (a1 : Int32) (a2 : Int32) (a5 : Int32) (a9 : Int64) (a11 : Int64) (s0 : Int64) (σ : MS) (hz5 : a5 = 0 ∨ a5 = 1) (hS : SM_towards_106 a1 a2 a5 a9 a11 s0 σ) {H : Heap} {locs : List Loc} (hM : mw D ad A s.heap H locs σ) {ls : Array Slot} (hl : lv_has ls 16 [(0, .ref (ad 0)), (1, .int a1), (2, .int a2), (5, .int a5), (9, .long a9), (11, .long a11)]) : W p l e rmM_towards s m args below meth c H locs 0 0 (MQ below (va_Ql (fun r u => (r, u) = fM_towards_106 a1 a2 a5 a9 a11 s0 σ) (mw_E D ad A) A) args s 0 0 A) (F0 m 106 ls [.long s0]) := by
  obtain ⟨hx, hb, hr, hml, hown, hts, hlocks⟩ := id C
  refine lv_lstore (lv' := [(13, .long s0), (0, .ref (ad 0)), (1, .int a1), (2, .int a2), (5, .int a5), (9, .long a9), (11, .long a11)]) hx hb dM_towards_106 hl (by decide) rfl (fun ls hl => ?_)
  have hS9 : (SM_towards_108 a1 a2 a5 a9 a11 s0 σ) := by have w9 := hS; rw [SM_towards_106] at w9; exact w9
  rw [(show fM_towards_106 a1 a2 a5 a9 a11 s0 σ = fM_towards_108 a1 a2 a5 a9 a11 s0 σ by rw [fM_towards_106])]
  exact kM_towards_108 C hK hA a1 a2 a5 a9 a11 s0 σ hz5 (hS9) hM (lv_sub hl [1, 2, 3, 4, 5, 6, 0] rfl)
set_option maxHeartbeats 4000000 in
set_option maxRecDepth 100000 in
theorem kM_towards_87 {p : Program} {l : Launch} {e : Env} {s : State} {m : MethodId} {args : Array Value} {below : List Frame} {meth : Method} {c : Code} (C : pw_C p s m args meth c cM_towards 16 (some .long) "BitNumbersModel") {D : va_G} {ad : Nat → Nat} {A : Nat → Prop} (hK : va_K D clM (tyA ad) s) (hA : ∀ q, s.heap.size ≤ q → A q) (a1 : Int32) (a2 : Int32) (a5 : Int32) (a8 : Int32) (a9 : Int64) (a11 : Int64) (σ : MS) (hz5 : a5 = 0 ∨ a5 = 1) (hS : SM_towards_87 a1 a2 a5 a8 a9 a11 σ) {H : Heap} {locs : List Loc} (hM : mw D ad A s.heap H locs σ) {ls : Array Slot} (hl : lv_has ls 16 [(0, .ref (ad 0)), (1, .int a1), (2, .int a2), (5, .int a5), (8, .int a8), (9, .long a9), (11, .long a11)]) : W p l e rmM_towards s m args below meth c H locs 0 0 (MQ below (va_Ql (fun r u => (r, u) = fM_towards_87 a1 a2 a5 a8 a9 a11 σ) (mw_E D ad A) A) args s 0 0 A) (F0 m 87 ls []) := by
  obtain ⟨hx, hb, hr, hml, hown, hts, hlocks⟩ := id C
  refine lv_iload hx hb dM_towards_87 (lv_at hl 4 rfl) ?_
  refine lv_bipush (v := 60) hx hb dM_towards_89 (by decide) ?_
  refine lv_icmp_le (tgt := 100) hx hb dM_towards_91 (by decide) (fun h1 => ?_) (fun h1 => ?_)
  · refine lv_lconst (v := 1) hx hb dM_towards_100 (by decide) ?_
    refine lv_iload hx hb dM_towards_101 (lv_at hl 4 rfl) ?_
    refine lv_iconst (v := 1) hx hb dM_towards_103 (by decide) ?_
    refine lv_isub hx hb dM_towards_104 ?_
    refine lv_lshl (v := bn_shl 1 (a8 - 1)) hx hb dM_towards_105 rfl ?_
    have hS9 : (SM_towards_106 a1 a2 a5 a9 a11 (bn_shl 1 (a8 - 1)) σ) := by have w9 := hS; rw [SM_towards_87, if_pos h1] at w9; exact w9
    rw [(show fM_towards_87 a1 a2 a5 a8 a9 a11 σ = fM_towards_106 a1 a2 a5 a9 a11 (bn_shl 1 (a8 - 1)) σ by rw [fM_towards_87, if_pos h1])]
    exact kM_towards_106 C hK hA a1 a2 a5 a9 a11 (bn_shl 1 (a8 - 1)) σ hz5 (hS9) hM (lv_sub hl [0, 1, 2, 3, 5, 6] rfl)
  · refine lv_ldc2 hx hb hown (hts _ w_641) dM_towards_94 ?_
    refine lv_goto (tgt := 106) hx hb dM_towards_97 (by decide) ?_
    have hS9 : (SM_towards_106 a1 a2 a5 a9 a11 2 σ) := by have w9 := hS; rw [SM_towards_87, if_neg h1] at w9; exact w9
    rw [(show fM_towards_87 a1 a2 a5 a8 a9 a11 σ = fM_towards_106 a1 a2 a5 a9 a11 2 σ by rw [fM_towards_87, if_neg h1])]
    exact kM_towards_106 C hK hA a1 a2 a5 a9 a11 2 σ hz5 (hS9) hM (lv_sub hl [0, 1, 2, 3, 5, 6] rfl)
set_option maxHeartbeats 4000000 in
set_option maxRecDepth 100000 in
theorem kM_towards_85 {p : Program} {l : Launch} {e : Env} {s : State} {m : MethodId} {args : Array Value} {below : List Frame} {meth : Method} {c : Code} (C : pw_C p s m args meth c cM_towards 16 (some .long) "BitNumbersModel") {D : va_G} {ad : Nat → Nat} {A : Nat → Prop} (hK : va_K D clM (tyA ad) s) (hA : ∀ q, s.heap.size ≤ q → A q) (a1 : Int32) (a2 : Int32) (a5 : Int32) (a8 : Int32) (a9 : Int64) (s0 : Int64) (σ : MS) (hz5 : a5 = 0 ∨ a5 = 1) (hS : SM_towards_85 a1 a2 a5 a8 a9 s0 σ) {H : Heap} {locs : List Loc} (hM : mw D ad A s.heap H locs σ) {ls : Array Slot} (hl : lv_has ls 16 [(0, .ref (ad 0)), (1, .int a1), (2, .int a2), (5, .int a5), (8, .int a8), (9, .long a9)]) : W p l e rmM_towards s m args below meth c H locs 0 0 (MQ below (va_Ql (fun r u => (r, u) = fM_towards_85 a1 a2 a5 a8 a9 s0 σ) (mw_E D ad A) A) args s 0 0 A) (F0 m 85 ls [.long s0]) := by
  obtain ⟨hx, hb, hr, hml, hown, hts, hlocks⟩ := id C
  refine lv_lstore (lv' := [(11, .long s0), (0, .ref (ad 0)), (1, .int a1), (2, .int a2), (5, .int a5), (8, .int a8), (9, .long a9)]) hx hb dM_towards_85 hl (by decide) rfl (fun ls hl => ?_)
  have hS9 : (SM_towards_87 a1 a2 a5 a8 a9 s0 σ) := by have w9 := hS; rw [SM_towards_85] at w9; exact w9
  rw [(show fM_towards_85 a1 a2 a5 a8 a9 s0 σ = fM_towards_87 a1 a2 a5 a8 a9 s0 σ by rw [fM_towards_85])]
  exact kM_towards_87 C hK hA a1 a2 a5 a8 a9 s0 σ hz5 (hS9) hM (lv_sub hl [1, 2, 3, 4, 5, 6, 0] rfl)
set_option maxHeartbeats 4000000 in
set_option maxRecDepth 100000 in
theorem kM_towards_66 {p : Program} {l : Launch} {e : Env} {s : State} {m : MethodId} {args : Array Value} {below : List Frame} {meth : Method} {c : Code} (C : pw_C p s m args meth c cM_towards 16 (some .long) "BitNumbersModel") {D : va_G} {ad : Nat → Nat} {A : Nat → Prop} (hK : va_K D clM (tyA ad) s) (hA : ∀ q, s.heap.size ≤ q → A q) (a1 : Int32) (a2 : Int32) (a5 : Int32) (a6 : Int64) (a8 : Int32) (a9 : Int64) (σ : MS) (hz5 : a5 = 0 ∨ a5 = 1) (hS : SM_towards_66 a1 a2 a5 a6 a8 a9 σ) {H : Heap} {locs : List Loc} (hM : mw D ad A s.heap H locs σ) {ls : Array Slot} (hl : lv_has ls 16 [(0, .ref (ad 0)), (1, .int a1), (2, .int a2), (5, .int a5), (6, .long a6), (8, .int a8), (9, .long a9)]) : W p l e rmM_towards s m args below meth c H locs 0 0 (MQ below (va_Ql (fun r u => (r, u) = fM_towards_66 a1 a2 a5 a6 a8 a9 σ) (mw_E D ad A) A) args s 0 0 A) (F0 m 66 ls []) := by
  obtain ⟨hx, hb, hr, hml, hown, hts, hlocks⟩ := id C
  refine lv_iload hx hb dM_towards_66 (lv_at hl 5 rfl) ?_
  refine lv_bipush (v := 60) hx hb dM_towards_68 (by decide) ?_
  refine lv_icmp_le (tgt := 77) hx hb dM_towards_70 (by decide) (fun h1 => ?_) (fun h1 => ?_)
  · refine lv_lload hx hb dM_towards_77 (lv_at hl 4 rfl) ?_
    refine lv_lload hx hb dM_towards_79 (lv_at hl 6 rfl) ?_
    refine lv_iload hx hb dM_towards_81 (lv_at hl 5 rfl) ?_
    refine lv_lshl (v := bn_shl a9 a8) hx hb dM_towards_83 rfl ?_
    refine lv_lsub hx hb dM_towards_84 ?_
    have hS9 : (SM_towards_85 a1 a2 a5 a8 a9 (a6 - (bn_shl a9 a8)) σ) := by have w9 := hS; rw [SM_towards_66, if_pos h1] at w9; exact w9
    rw [(show fM_towards_66 a1 a2 a5 a6 a8 a9 σ = fM_towards_85 a1 a2 a5 a8 a9 (a6 - (bn_shl a9 a8)) σ by rw [fM_towards_66, if_pos h1])]
    exact kM_towards_85 C hK hA a1 a2 a5 a8 a9 (a6 - (bn_shl a9 a8)) σ hz5 (hS9) hM (lv_sub hl [0, 1, 2, 3, 5, 6] rfl)
  · refine lv_lconst (v := 1) hx hb dM_towards_73 (by decide) ?_
    refine lv_goto (tgt := 85) hx hb dM_towards_74 (by decide) ?_
    have hS9 : (SM_towards_85 a1 a2 a5 a8 a9 1 σ) := by have w9 := hS; rw [SM_towards_66, if_neg h1] at w9; exact w9
    rw [(show fM_towards_66 a1 a2 a5 a6 a8 a9 σ = fM_towards_85 a1 a2 a5 a8 a9 1 σ by rw [fM_towards_66, if_neg h1])]
    exact kM_towards_85 C hK hA a1 a2 a5 a8 a9 1 σ hz5 (hS9) hM (lv_sub hl [0, 1, 2, 3, 5, 6] rfl)
set_option maxHeartbeats 4000000 in
set_option maxRecDepth 100000 in
theorem kM_towards_64 {p : Program} {l : Launch} {e : Env} {s : State} {m : MethodId} {args : Array Value} {below : List Frame} {meth : Method} {c : Code} (C : pw_C p s m args meth c cM_towards 16 (some .long) "BitNumbersModel") {D : va_G} {ad : Nat → Nat} {A : Nat → Prop} (hK : va_K D clM (tyA ad) s) (hA : ∀ q, s.heap.size ≤ q → A q) (a1 : Int32) (a2 : Int32) (a5 : Int32) (a6 : Int64) (a8 : Int32) (s0 : Int64) (σ : MS) (hz5 : a5 = 0 ∨ a5 = 1) (hS : SM_towards_64 a1 a2 a5 a6 a8 s0 σ) {H : Heap} {locs : List Loc} (hM : mw D ad A s.heap H locs σ) {ls : Array Slot} (hl : lv_has ls 16 [(0, .ref (ad 0)), (1, .int a1), (2, .int a2), (5, .int a5), (6, .long a6), (8, .int a8)]) : W p l e rmM_towards s m args below meth c H locs 0 0 (MQ below (va_Ql (fun r u => (r, u) = fM_towards_64 a1 a2 a5 a6 a8 s0 σ) (mw_E D ad A) A) args s 0 0 A) (F0 m 64 ls [.long s0]) := by
  obtain ⟨hx, hb, hr, hml, hown, hts, hlocks⟩ := id C
  refine lv_lstore (lv' := [(9, .long s0), (0, .ref (ad 0)), (1, .int a1), (2, .int a2), (5, .int a5), (6, .long a6), (8, .int a8)]) hx hb dM_towards_64 hl (by decide) rfl (fun ls hl => ?_)
  have hS9 : (SM_towards_66 a1 a2 a5 a6 a8 s0 σ) := by have w9 := hS; rw [SM_towards_64] at w9; exact w9
  rw [(show fM_towards_64 a1 a2 a5 a6 a8 s0 σ = fM_towards_66 a1 a2 a5 a6 a8 s0 σ by rw [fM_towards_64])]
  exact kM_towards_66 C hK hA a1 a2 a5 a6 a8 s0 σ hz5 (hS9) hM (lv_sub hl [1, 2, 3, 4, 5, 6, 0] rfl)
set_option maxHeartbeats 4000000 in
set_option maxRecDepth 100000 in
theorem kM_towards_48 {p : Program} {l : Launch} {e : Env} {s : State} {m : MethodId} {args : Array Value} {below : List Frame} {meth : Method} {c : Code} (C : pw_C p s m args meth c cM_towards 16 (some .long) "BitNumbersModel") {D : va_G} {ad : Nat → Nat} {A : Nat → Prop} (hK : va_K D clM (tyA ad) s) (hA : ∀ q, s.heap.size ≤ q → A q) (a1 : Int32) (a2 : Int32) (a5 : Int32) (a6 : Int64) (a8 : Int32) (σ : MS) (hz5 : a5 = 0 ∨ a5 = 1) (hS : SM_towards_48 a1 a2 a5 a6 a8 σ) {H : Heap} {locs : List Loc} (hM : mw D ad A s.heap H locs σ) {ls : Array Slot} (hl : lv_has ls 16 [(0, .ref (ad 0)), (1, .int a1), (2, .int a2), (5, .int a5), (6, .long a6), (8, .int a8)]) : W p l e rmM_towards s m args below meth c H locs 0 0 (MQ below (va_Ql (fun r u => (r, u) = fM_towards_48 a1 a2 a5 a6 a8 σ) (mw_E D ad A) A) args s 0 0 A) (F0 m 48 ls []) := by
  obtain ⟨hx, hb, hr, hml, hown, hts, hlocks⟩ := id C
  refine lv_iload hx hb dM_towards_48 (lv_at hl 5 rfl) ?_
  refine lv_bipush (v := 60) hx hb dM_towards_50 (by decide) ?_
  refine lv_icmp_le (tgt := 59) hx hb dM_towards_52 (by decide) (fun h1 => ?_) (fun h1 => ?_)
  · refine lv_lload hx hb dM_towards_59 (lv_at hl 4 rfl) ?_
    refine lv_iload hx hb dM_towards_61 (lv_at hl 5 rfl) ?_
    refine lv_lshr (v := bn_sar a6 a8) hx hb dM_towards_63 rfl ?_
    have hS9 : (SM_towards_64 a1 a2 a5 a6 a8 (bn_sar a6 a8) σ) := by have w9 := hS; rw [SM_towards_48, if_pos h1] at w9; exact w9
    rw [(show fM_towards_48 a1 a2 a5 a6 a8 σ = fM_towards_64 a1 a2 a5 a6 a8 (bn_sar a6 a8) σ by rw [fM_towards_48, if_pos h1])]
    exact kM_towards_64 C hK hA a1 a2 a5 a6 a8 (bn_sar a6 a8) σ hz5 (hS9) hM (lv_sub hl [0, 1, 2, 3, 4, 5] rfl)
  · refine lv_lconst (v := 0) hx hb dM_towards_55 (by decide) ?_
    refine lv_goto (tgt := 64) hx hb dM_towards_56 (by decide) ?_
    have hS9 : (SM_towards_64 a1 a2 a5 a6 a8 0 σ) := by have w9 := hS; rw [SM_towards_48, if_neg h1] at w9; exact w9
    rw [(show fM_towards_48 a1 a2 a5 a6 a8 σ = fM_towards_64 a1 a2 a5 a6 a8 0 σ by rw [fM_towards_48, if_neg h1])]
    exact kM_towards_64 C hK hA a1 a2 a5 a6 a8 0 σ hz5 (hS9) hM (lv_sub hl [0, 1, 2, 3, 4, 5] rfl)
set_option maxHeartbeats 4000000 in
set_option maxRecDepth 100000 in
theorem kM_towards_40 {p : Program} {l : Launch} {e : Env} {s : State} {m : MethodId} {args : Array Value} {below : List Frame} {meth : Method} {c : Code} (C : pw_C p s m args meth c cM_towards 16 (some .long) "BitNumbersModel") {D : va_G} {ad : Nat → Nat} {A : Nat → Prop} (hK : va_K D clM (tyA ad) s) (hA : ∀ q, s.heap.size ≤ q → A q) (a1 : Int32) (a2 : Int32) (a3 : Int64) (a5 : Int32) (a6 : Int64) (σ : MS) (hz5 : a5 = 0 ∨ a5 = 1) (hS : SM_towards_40 a1 a2 a3 a5 a6 σ) {H : Heap} {locs : List Loc} (hM : mw D ad A s.heap H locs σ) {ls : Array Slot} (hl : lv_has ls 16 [(0, .ref (ad 0)), (1, .int a1), (2, .int a2), (3, .long a3), (5, .int a5), (6, .long a6)]) : W p l e rmM_towards s m args below meth c H locs 0 0 (MQ below (va_Ql (fun r u => (r, u) = fM_towards_40 a1 a2 a3 a5 a6 σ) (mw_E D ad A) A) args s 0 0 A) (F0 m 40 ls []) := by
  obtain ⟨hx, hb, hr, hml, hown, hts, hlocks⟩ := id C
  refine lv_iload_n hx hb dM_towards_40 rfl (lv_at hl 2 rfl) ?_
  refine lv_lload_n hx hb dM_towards_41 rfl (lv_at hl 3 rfl) ?_
  refine pw_call (va_runS (As := [.int a2, .long a3]) (rest := []) ⟨hx, hb, hml, hown, hts⟩ (qM_scaleOf l a2 a3) (va_cwS 2 hts (gS w_666 w_667 w_34 w_668) rfl rfl rfl (by decide +kernel) ⟨Nat.le_of_ble_eq_true rfl, Nat.le_of_ble_eq_true rfl⟩) ⟨pw_bT, fun U hU hW => ⟨rfl, trivial⟩⟩ rfl rfl hl.1 rfl (lv_room (Nat.le_of_ble_eq_true rfl)) dM_towards_42 ⟨Nat.zero_le _, Nat.zero_le _⟩) ?_
  refine lv_ineg hx hb dM_towards_45 ?_
  refine lv_istore (lv' := [(8, .int (-(fM_scaleOf a2 a3))), (0, .ref (ad 0)), (1, .int a1), (2, .int a2), (3, .long a3), (5, .int a5), (6, .long a6)]) hx hb dM_towards_46 hl (by decide) rfl (fun ls hl => ?_)
  have hS9 : (SM_towards_48 a1 a2 a5 a6 (-(fM_scaleOf a2 a3)) σ) := by have w9 := hS; rw [SM_towards_40] at w9; exact w9
  rw [(show fM_towards_40 a1 a2 a3 a5 a6 σ = fM_towards_48 a1 a2 a5 a6 (-(fM_scaleOf a2 a3)) σ by rw [fM_towards_40])]
  exact kM_towards_48 C hK hA a1 a2 a5 a6 (-(fM_scaleOf a2 a3)) σ hz5 (hS9) hM (lv_sub hl [1, 2, 3, 5, 6, 0] rfl)
set_option maxHeartbeats 4000000 in
set_option maxRecDepth 100000 in
theorem kM_towards_33 {p : Program} {l : Launch} {e : Env} {s : State} {m : MethodId} {args : Array Value} {below : List Frame} {meth : Method} {c : Code} (C : pw_C p s m args meth c cM_towards 16 (some .long) "BitNumbersModel") {D : va_G} {ad : Nat → Nat} {A : Nat → Prop} (hK : va_K D clM (tyA ad) s) (hA : ∀ q, s.heap.size ≤ q → A q) (a1 : Int32) (a2 : Int32) (a3 : Int64) (a5 : Int32) (σ : MS) (hz5 : a5 = 0 ∨ a5 = 1) (hS : SM_towards_33 a1 a2 a3 a5 σ) {H : Heap} {locs : List Loc} (hM : mw D ad A s.heap H locs σ) {ls : Array Slot} (hl : lv_has ls 16 [(0, .ref (ad 0)), (1, .int a1), (2, .int a2), (3, .long a3), (5, .int a5)]) : W p l e rmM_towards s m args below meth c H locs 0 0 (MQ below (va_Ql (fun r u => (r, u) = fM_towards_33 a1 a2 a3 a5 σ) (mw_E D ad A) A) args s 0 0 A) (F0 m 33 ls []) := by
  obtain ⟨hx, hb, hr, hml, hown, hts, hlocks⟩ := id C
  refine lv_iload_n hx hb dM_towards_33 rfl (lv_at hl 2 rfl) ?_
  refine lv_lload_n hx hb dM_towards_34 rfl (lv_at hl 3 rfl) ?_
  refine pw_call (va_runS (As := [.int a2, .long a3]) (rest := []) ⟨hx, hb, hml, hown, hts⟩ (qM_significand l a2 a3) (va_cwS 2 hts (gS w_663 w_664 w_34 w_665) rfl rfl rfl (by decide +kernel) ⟨Nat.le_of_ble_eq_true rfl, Nat.le_of_ble_eq_true rfl⟩) ⟨pw_bT, fun U hU hW => ⟨rfl, trivial⟩⟩ rfl rfl hl.1 rfl (lv_room (Nat.le_of_ble_eq_true rfl)) dM_towards_35 ⟨Nat.zero_le _, Nat.zero_le _⟩) ?_
  refine lv_lstore (lv' := [(6, .long (fM_significand a2 a3)), (0, .ref (ad 0)), (1, .int a1), (2, .int a2), (3, .long a3), (5, .int a5)]) hx hb dM_towards_38 hl (by decide) rfl (fun ls hl => ?_)
  have hS9 : (SM_towards_40 a1 a2 a3 a5 (fM_significand a2 a3) σ) := by have w9 := hS; rw [SM_towards_33] at w9; exact w9
  rw [(show fM_towards_33 a1 a2 a3 a5 σ = fM_towards_40 a1 a2 a3 a5 (fM_significand a2 a3) σ by rw [fM_towards_33])]
  exact kM_towards_40 C hK hA a1 a2 a3 a5 (fM_significand a2 a3) σ hz5 (hS9) hM (lv_sub hl [1, 2, 3, 4, 5, 0] rfl)
set_option maxHeartbeats 4000000 in
set_option maxRecDepth 100000 in
theorem kM_towards_24 {p : Program} {l : Launch} {e : Env} {s : State} {m : MethodId} {args : Array Value} {below : List Frame} {meth : Method} {c : Code} (C : pw_C p s m args meth c cM_towards 16 (some .long) "BitNumbersModel") {D : va_G} {ad : Nat → Nat} {A : Nat → Prop} (hK : va_K D clM (tyA ad) s) (hA : ∀ q, s.heap.size ≤ q → A q) (a3 : Int64) (σ : MS) (hS : SM_towards_24 a3 σ) {H : Heap} {locs : List Loc} (hM : mw D ad A s.heap H locs σ) {ls : Array Slot} (hl : lv_has ls 16 [(3, .long a3)]) : W p l e rmM_towards s m args below meth c H locs 0 0 (MQ below (va_Ql (fun r u => (r, u) = fM_towards_24 a3 σ) (mw_E D ad A) A) args s 0 0 A) (F0 m 24 ls []) := by
  obtain ⟨hx, hb, hr, hml, hown, hts, hlocks⟩ := id C
  refine lv_lload_n hx hb dM_towards_24 rfl (lv_at hl 0 rfl) ?_
  exact W.lret (v := a3) hx hb hr (fun t ht hW => ⟨⟨a3, σ, rfl, by rw [(show fM_towards_24 a3 σ = (a3, σ) by rw [fM_towards_24])], by rw [ht]; exact hM.1, va_K.moved hW.alike hK, hM.2.1⟩, hM.2.2.F ht⟩) hM.2.2.2.2 dM_towards_25
set_option maxHeartbeats 4000000 in
set_option maxRecDepth 100000 in
theorem kM_towards_0 {p : Program} {l : Launch} {e : Env} {s : State} {m : MethodId} {args : Array Value} {below : List Frame} {meth : Method} {c : Code} (C : pw_C p s m args meth c cM_towards 16 (some .long) "BitNumbersModel") {D : va_G} {ad : Nat → Nat} {A : Nat → Prop} (hK : va_K D clM (tyA ad) s) (hA : ∀ q, s.heap.size ≤ q → A q) (a1 : Int32) (a2 : Int32) (a3 : Int64) (σ : MS) (hS : SM_towards a1 a2 a3 σ) {H : Heap} {locs : List Loc} (hM : mw D ad A s.heap H locs σ) {ls : Array Slot} (hl : lv_has ls 16 [(0, .ref (ad 0)), (1, .int a1), (2, .int a2), (3, .long a3)]) : W p l e rmM_towards s m args below meth c H locs 0 0 (MQ below (va_Ql (fun r u => (r, u) = fM_towards a1 a2 a3 σ) (mw_E D ad A) A) args s 0 0 A) (F0 m 0 ls []) := by
  obtain ⟨hx, hb, hr, hml, hown, hts, hlocks⟩ := id C
  refine lv_iload_n hx hb dM_towards_0 rfl (lv_at hl 2 rfl) ?_
  refine lv_lload_n hx hb dM_towards_1 rfl (lv_at hl 3 rfl) ?_
  refine pw_call (va_runS (As := [.int a2, .long a3]) (rest := []) ⟨hx, hb, hml, hown, hts⟩ (qM_isInfinite l a2 a3) (va_cwS 2 hts (gS w_660 w_661 w_34 w_662) rfl rfl rfl (by decide +kernel) ⟨Nat.le_of_ble_eq_true rfl, Nat.le_of_ble_eq_true rfl⟩) ⟨pw_bT, fun U hU hW => ⟨rfl, trivial⟩⟩ rfl rfl hl.1 rfl (lv_room (Nat.le_of_ble_eq_true rfl)) dM_towards_2 ⟨Nat.zero_le _, Nat.zero_le _⟩) ?_
  refine lv_if_ne (tgt := 24) hx hb dM_towards_5 (by decide) (fun h1 => ?_) (fun h1 => ?_)
  · have hS9 : (SM_towards_24 a3 σ) := by have w9 := hS; rw [SM_towards, if_neg h1] at w9; exact w9
    rw [(show fM_towards a1 a2 a3 σ = fM_towards_24 a3 σ by rw [fM_towards, if_neg h1])]
    exact kM_towards_24 C hK hA a3 σ (hS9) hM (lv_sub hl [3] rfl)
  · refine lv_iload_n hx hb dM_towards_8 rfl (lv_at hl 2 rfl) ?_
    refine lv_lload_n hx hb dM_towards_9 rfl (lv_at hl 3 rfl) ?_
    refine pw_call (va_runS (As := [.int a2, .long a3]) (rest := []) ⟨hx, hb, hml, hown, hts⟩ (qM_isZero l a2 a3) (va_cwS 2 hts (gS w_609 w_610 w_34 w_611) rfl rfl rfl (by decide +kernel) ⟨Nat.le_of_ble_eq_true rfl, Nat.le_of_ble_eq_true rfl⟩) ⟨pw_bT, fun U hU hW => ⟨rfl, trivial⟩⟩ rfl rfl hl.1 rfl (lv_room (Nat.le_of_ble_eq_true rfl)) dM_towards_10 ⟨Nat.zero_le _, Nat.zero_le _⟩) ?_
    refine lv_if_ne (tgt := 24) hx hb dM_towards_13 (by decide) (fun h2 => ?_) (fun h2 => ?_)
    · have hS9 : (SM_towards_24 a3 σ) := by have w9 := hS; rw [SM_towards, if_pos h1, if_neg h2] at w9; exact w9
      rw [(show fM_towards a1 a2 a3 σ = fM_towards_24 a3 σ by rw [fM_towards, if_pos h1, if_neg h2])]
      exact kM_towards_24 C hK hA a3 σ (hS9) hM (lv_sub hl [3] rfl)
    · refine lv_iload_n hx hb dM_towards_16 rfl (lv_at hl 2 rfl) ?_
      refine lv_lload_n hx hb dM_towards_17 rfl (lv_at hl 3 rfl) ?_
      refine pw_call (va_runS (As := [.int a2, .long a3]) (rest := []) ⟨hx, hb, hml, hown, hts⟩ (qM_scaleOf l a2 a3) (va_cwS 2 hts (gS w_666 w_667 w_34 w_668) rfl rfl rfl (by decide +kernel) ⟨Nat.le_of_ble_eq_true rfl, Nat.le_of_ble_eq_true rfl⟩) ⟨pw_bT, fun U hU hW => ⟨rfl, trivial⟩⟩ rfl rfl hl.1 rfl (lv_room (Nat.le_of_ble_eq_true rfl)) dM_towards_18 ⟨Nat.zero_le _, Nat.zero_le _⟩) ?_
      refine lv_if_lt (tgt := 26) hx hb dM_towards_21 (by decide) (fun h3 => ?_) (fun h3 => ?_)
      · refine lv_iload_n hx hb dM_towards_26 rfl (lv_at hl 2 rfl) ?_
        refine lv_lload_n hx hb dM_towards_27 rfl (lv_at hl 3 rfl) ?_
        refine pw_call (va_runS (As := [.int a2, .long a3]) (rest := []) ⟨hx, hb, hml, hown, hts⟩ (qM_isMinus l a2 a3) (va_cwS 2 hts (gS w_615 w_616 w_34 w_617) rfl rfl rfl (by decide +kernel) ⟨Nat.le_of_ble_eq_true rfl, Nat.le_of_ble_eq_true rfl⟩) ⟨pw_bT, fun U hU hW => ⟨rfl, trivial⟩⟩ rfl rfl hl.1 rfl (lv_room (Nat.le_of_ble_eq_true rfl)) dM_towards_28 ⟨Nat.zero_le _, Nat.zero_le _⟩) ?_
        refine lv_istore (lv' := [(5, .int (fM_isMinus a2 a3)), (0, .ref (ad 0)), (1, .int a1), (2, .int a2), (3, .long a3)]) hx hb dM_towards_31 hl (by decide) rfl (fun ls hl => ?_)
        have hS9 : (SM_towards_33 a1 a2 a3 (fM_isMinus a2 a3) σ) := by have w9 := hS; rw [SM_towards, if_pos h1, if_pos h2, if_pos h3] at w9; exact w9
        rw [(show fM_towards a1 a2 a3 σ = fM_towards_33 a1 a2 a3 (fM_isMinus a2 a3) σ by rw [fM_towards, if_pos h1, if_pos h2, if_pos h3])]
        exact kM_towards_33 C hK hA a1 a2 a3 (fM_isMinus a2 a3) σ (zM_isMinus a2 a3) (hS9) hM (lv_sub hl [1, 2, 3, 4, 0] rfl)
      · have hS9 : (SM_towards_24 a3 σ) := by have w9 := hS; rw [SM_towards, if_pos h1, if_pos h2, if_neg h3] at w9; exact w9
        rw [(show fM_towards a1 a2 a3 σ = fM_towards_24 a3 σ by rw [fM_towards, if_pos h1, if_pos h2, if_neg h3])]
        exact kM_towards_24 C hK hA a3 σ (hS9) hM (lv_sub hl [3] rfl)
set_option maxHeartbeats 4000000 in
set_option maxRecDepth 100000 in
theorem qM_towards (l : Launch) (D : va_G) (ad : Nat → Nat) (a1 : Int32) (a2 : Int32) (a3 : Int64) (σ : MS) (sz : Nat) (hS : SM_towards a1 a2 a3 σ) : Met l yM_towards wsM_towards rmM_towards (va_Pc [.ref (ad 0), .int a1, .int a2, .long a3] (mw_B D ad σ sz)) (va_Ql (fun r u => (r, u) = fM_towards a1 a2 a3 σ) (mw_E D ad (va_A (mw_c ad σ) sz)) (va_A (mw_c ad σ) sz)) 0 0 (va_A (mw_c ad σ) sz) := by
  refine Met.ofW (cc := cM_towards) (maxL := 16) (ret := (some .long)) (by decide) rfl ?_
  intro p e s m args below meth c s₁ B hml hv
  obtain ⟨rfl, hsz, hP, hK, hD⟩ := hv
  have hts0 := atoms_spec (ws := wsM_towards) B.pre
  have hts := fun (w : Cond) (h : w ∈ aw) => hts0 w (List.mem_cons_of_mem _ h)
  have hown : s.vm.findClass "BitNumbersModel" = some m.cls := findClass_of_methodNamed B.named
  subst hsz
  have hl := lv_entry ([.ref (ad 0), .int a1, .int a2, .long a3]) (n := 16) (Nat.le_of_ble_eq_true rfl)
  rw [lg_entry_eq]
  generalize (lg_sl ([.ref (ad 0), .int a1, .int a2, .long a3]) ++ List.replicate (16 - (lg_sl ([.ref (ad 0), .int a1, .int a2, .long a3])).length) Slot.unset).toArray = ls at hl ⊢
  exact kM_towards_0 ⟨B.exec, B.bytes, B.returns, hml, hown, hts, B.notSynchronized⟩ hK (fun q h => Or.inr h) a1 a2 a3 σ hS ⟨hP, hD.self, va_S.rf⟩ hl

set_option maxHeartbeats 4000000 in
set_option maxRecDepth 100000 in
theorem kM_floating_72 {p : Program} {l : Launch} {e : Env} {s : State} {m : MethodId} {args : Array Value} {below : List Frame} {meth : Method} {c : Code} (C : pw_C p s m args meth c cM_floating 7 (some .long) "BitNumbersModel") {D : va_G} {ad : Nat → Nat} {A : Nat → Prop} (hK : va_K D clM (tyA ad) s) (hA : ∀ q, s.heap.size ≤ q → A q) (a1 : Int32) (a2 : Int32) (a3 : Int64) (a5 : Int64) (σ : MS) (hS : SM_floating_72 a1 a2 a3 a5 σ) {H : Heap} {locs : List Loc} (hM : mw D ad A s.heap H locs σ) {ls : Array Slot} (hl : lv_has ls 7 [(0, .ref (ad 0)), (1, .int a1), (2, .int a2), (3, .long a3), (5, .long a5)]) : W p l e rmM_floating s m args below meth c H locs 0 0 (MQ below (va_Ql (fun r u => (r, u) = fM_floating_72 a1 a2 a3 a5 σ) (mw_E D ad A) A) args s 0 0 A) (F0 m 72 ls []) := by
  obtain ⟨hx, hb, hr, hml, hown, hts, hlocks⟩ := id C
  refine lv_iload_n hx hb dM_floating_72 rfl (lv_at hl 1 rfl) ?_
  by_cases h1 : a1 = 6
  · refine lv_tableIn (tgt := 116) hx hb dM_floating_73 (by rw [h1]; decide) (by rw [h1]; decide) (off := 43) (by rw [h1]; rfl) (by decide) ?_
    refine lv_aload_n hx hb dM_floating_116 rfl (lv_at hl 0 rfl) ?_
    refine lv_iload_n hx hb dM_floating_117 rfl (lv_at hl 2 rfl) ?_
    refine lv_lload_n hx hb dM_floating_118 rfl (lv_at hl 3 rfl) ?_
    have hS119 : ((SM_root a2 a3 σ) ∧ True) := by have w9 := hS; rw [SM_floating_72, if_pos h1] at w9; exact w9
    refine mw_calll (F := fM_root a2 a3 σ) (va_runV (As := [.int a2, .long a3]) (rest := []) ⟨hx, hb, hml, hown, hts⟩ (qM_root l D ad a2 a3 σ H.size hS119.1) (cwV 2 hts (gV w_656 w_658 w_8 w_34 w_659) rfl rfl rfl (by decide +kernel) ⟨Nat.le_of_ble_eq_true rfl, Nat.le_of_ble_eq_true rfl⟩) (mw_preV hK hM) rfl rfl hl.1 rfl (lv_room (Nat.le_of_ble_eq_true rfl)) dM_floating_119 ⟨Nat.zero_le _, Nat.zero_le _⟩) hM hA (fun H locs hM => ?_)
    exact W.lret (v := (fM_root a2 a3 σ).1) hx hb hr (fun t ht hW => ⟨⟨(fM_root a2 a3 σ).1, (fM_root a2 a3 σ).2, rfl, by rw [(show fM_floating_72 a1 a2 a3 a5 σ = ((fM_root a2 a3 σ).1, (fM_root a2 a3 σ).2) by rw [fM_floating_72, if_pos h1])], by rw [ht]; exact hM.1, va_K.moved hW.alike hK, hM.2.1⟩, hM.2.2.F ht⟩) hM.2.2.2.2 dM_floating_122
  by_cases h2 : a1 = 7
  · refine lv_tableIn (tgt := 123) hx hb dM_floating_73 (by rw [h2]; decide) (by rw [h2]; decide) (off := 50) (by rw [h2]; rfl) (by decide) ?_
    refine lv_aload_n hx hb dM_floating_123 rfl (lv_at hl 0 rfl) ?_
    refine lv_iload_n hx hb dM_floating_124 rfl (lv_at hl 2 rfl) ?_
    refine lv_lload_n hx hb dM_floating_125 rfl (lv_at hl 3 rfl) ?_
    refine lv_lload hx hb dM_floating_126 (lv_at hl 4 rfl) ?_
    have hS128 : ((SM_sum a2 a3 a5 σ) ∧ True) := by have w9 := hS; rw [SM_floating_72, if_neg h1, if_pos h2] at w9; exact w9
    refine mw_calll (F := fM_sum a2 a3 a5 σ) (va_runV (As := [.int a2, .long a3, .long a5]) (rest := []) ⟨hx, hb, hml, hown, hts⟩ (qM_sum l D ad a2 a3 a5 σ H.size hS128.1) (cwV 3 hts (gV w_703 w_705 w_14 w_34 w_706) rfl rfl rfl (by decide +kernel) ⟨Nat.le_of_ble_eq_true rfl, Nat.le_of_ble_eq_true rfl⟩) (mw_preV hK hM) rfl rfl hl.1 rfl (lv_room (Nat.le_of_ble_eq_true rfl)) dM_floating_128 ⟨Nat.zero_le _, Nat.zero_le _⟩) hM hA (fun H locs hM => ?_)
    exact W.lret (v := (fM_sum a2 a3 a5 σ).1) hx hb hr (fun t ht hW => ⟨⟨(fM_sum a2 a3 a5 σ).1, (fM_sum a2 a3 a5 σ).2, rfl, by rw [(show fM_floating_72 a1 a2 a3 a5 σ = ((fM_sum a2 a3 a5 σ).1, (fM_sum a2 a3 a5 σ).2) by rw [fM_floating_72, if_neg h1, if_pos h2])], by rw [ht]; exact hM.1, va_K.moved hW.alike hK, hM.2.1⟩, hM.2.2.F ht⟩) hM.2.2.2.2 dM_floating_131
  by_cases h3 : a1 = 8
  · refine lv_tableIn (tgt := 132) hx hb dM_floating_73 (by rw [h3]; decide) (by rw [h3]; decide) (off := 59) (by rw [h3]; rfl) (by decide) ?_
    refine lv_aload_n hx hb dM_floating_132 rfl (lv_at hl 0 rfl) ?_
    refine lv_iload_n hx hb dM_floating_133 rfl (lv_at hl 2 rfl) ?_
    refine lv_lload_n hx hb dM_floating_134 rfl (lv_at hl 3 rfl) ?_
    refine lv_lload hx hb dM_floating_135 (lv_at hl 4 rfl) ?_
    refine lv_iload_n hx hb dM_floating_137 rfl (lv_at hl 2 rfl) ?_
    refine pw_call (va_runS (As := [.int a2]) (rest := [.long a5, .long a3, .int a2, .ref (ad 0)]) ⟨hx, hb, hml, hown, hts⟩ (qM_signOf l a2) (va_cwS 1 hts (gS w_591 w_592 w_34 w_593) rfl rfl rfl (by decide +kernel) ⟨Nat.le_of_ble_eq_true rfl, Nat.le_of_ble_eq_true rfl⟩) ⟨pw_bT, fun U hU hW => ⟨rfl, trivial⟩⟩ rfl rfl hl.1 rfl (lv_room (Nat.le_of_ble_eq_true rfl)) dM_floating_138 ⟨Nat.zero_le _, Nat.zero_le _⟩) ?_
    refine lv_lxor hx hb dM_floating_141 ?_
    have hS142 : ((SM_sum a2 a3 (a5 ^^^ (fM_signOf a2)) σ) ∧ True) := by have w9 := hS; rw [SM_floating_72, if_neg h1, if_neg h2, if_pos h3] at w9; exact w9
    refine mw_calll (F := fM_sum a2 a3 (a5 ^^^ (fM_signOf a2)) σ) (va_runV (As := [.int a2, .long a3, .long (a5 ^^^ (fM_signOf a2))]) (rest := []) ⟨hx, hb, hml, hown, hts⟩ (qM_sum l D ad a2 a3 (a5 ^^^ (fM_signOf a2)) σ H.size hS142.1) (cwV 3 hts (gV w_703 w_705 w_14 w_34 w_706) rfl rfl rfl (by decide +kernel) ⟨Nat.le_of_ble_eq_true rfl, Nat.le_of_ble_eq_true rfl⟩) (mw_preV hK hM) rfl rfl hl.1 rfl (lv_room (Nat.le_of_ble_eq_true rfl)) dM_floating_142 ⟨Nat.zero_le _, Nat.zero_le _⟩) hM hA (fun H locs hM => ?_)
    exact W.lret (v := (fM_sum a2 a3 (a5 ^^^ (fM_signOf a2)) σ).1) hx hb hr (fun t ht hW => ⟨⟨(fM_sum a2 a3 (a5 ^^^ (fM_signOf a2)) σ).1, (fM_sum a2 a3 (a5 ^^^ (fM_signOf a2)) σ).2, rfl, by rw [(show fM_floating_72 a1 a2 a3 a5 σ = ((fM_sum a2 a3 (a5 ^^^ (fM_signOf a2)) σ).1, (fM_sum a2 a3 (a5 ^^^ (fM_signOf a2)) σ).2) by rw [fM_floating_72, if_neg h1, if_neg h2, if_pos h3])], by rw [ht]; exact hM.1, va_K.moved hW.alike hK, hM.2.1⟩, hM.2.2.F ht⟩) hM.2.2.2.2 dM_floating_145
  by_cases h4 : a1 = 9
  · refine lv_tableIn (tgt := 146) hx hb dM_floating_73 (by rw [h4]; decide) (by rw [h4]; decide) (off := 73) (by rw [h4]; rfl) (by decide) ?_
    refine lv_aload_n hx hb dM_floating_146 rfl (lv_at hl 0 rfl) ?_
    refine lv_iload_n hx hb dM_floating_147 rfl (lv_at hl 2 rfl) ?_
    refine lv_lload_n hx hb dM_floating_148 rfl (lv_at hl 3 rfl) ?_
    refine lv_lload hx hb dM_floating_149 (lv_at hl 4 rfl) ?_
    have hS151 : ((SM_product a2 a3 a5 σ) ∧ True) := by have w9 := hS; rw [SM_floating_72, if_neg h1, if_neg h2, if_neg h3, if_pos h4] at w9; exact w9
    refine mw_calll (F := fM_product a2 a3 a5 σ) (va_runV (As := [.int a2, .long a3, .long a5]) (rest := []) ⟨hx, hb, hml, hown, hts⟩ (qM_product l D ad a2 a3 a5 σ H.size hS151.1) (cwV 3 hts (gV w_734 w_736 w_21 w_34 w_737) rfl rfl rfl (by decide +kernel) ⟨Nat.le_of_ble_eq_true rfl, Nat.le_of_ble_eq_true rfl⟩) (mw_preV hK hM) rfl rfl hl.1 rfl (lv_room (Nat.le_of_ble_eq_true rfl)) dM_floating_151 ⟨Nat.zero_le _, Nat.zero_le _⟩) hM hA (fun H locs hM => ?_)
    exact W.lret (v := (fM_product a2 a3 a5 σ).1) hx hb hr (fun t ht hW => ⟨⟨(fM_product a2 a3 a5 σ).1, (fM_product a2 a3 a5 σ).2, rfl, by rw [(show fM_floating_72 a1 a2 a3 a5 σ = ((fM_product a2 a3 a5 σ).1, (fM_product a2 a3 a5 σ).2) by rw [fM_floating_72, if_neg h1, if_neg h2, if_neg h3, if_pos h4])], by rw [ht]; exact hM.1, va_K.moved hW.alike hK, hM.2.1⟩, hM.2.2.F ht⟩) hM.2.2.2.2 dM_floating_154
  by_cases h5 : a1 = 10
  · refine lv_tableIn (tgt := 155) hx hb dM_floating_73 (by rw [h5]; decide) (by rw [h5]; decide) (off := 82) (by rw [h5]; rfl) (by decide) ?_
    refine lv_aload_n hx hb dM_floating_155 rfl (lv_at hl 0 rfl) ?_
    refine lv_iload_n hx hb dM_floating_156 rfl (lv_at hl 2 rfl) ?_
    refine lv_lload_n hx hb dM_floating_157 rfl (lv_at hl 3 rfl) ?_
    refine lv_lload hx hb dM_floating_158 (lv_at hl 4 rfl) ?_
    have hS160 : ((SM_byQuotient a2 a3 a5 σ) ∧ True) := by have w9 := hS; rw [SM_floating_72, if_neg h1, if_neg h2, if_neg h3, if_neg h4, if_pos h5] at w9; exact w9
    refine mw_calll (F := fM_byQuotient a2 a3 a5 σ) (va_runV (As := [.int a2, .long a3, .long a5]) (rest := []) ⟨hx, hb, hml, hown, hts⟩ (qM_byQuotient l D ad a2 a3 a5 σ H.size hS160.1) (cwV 3 hts (gV w_742 w_744 w_23 w_34 w_745) rfl rfl rfl (by decide +kernel) ⟨Nat.le_of_ble_eq_true rfl, Nat.le_of_ble_eq_true rfl⟩) (mw_preV hK hM) rfl rfl hl.1 rfl (lv_room (Nat.le_of_ble_eq_true rfl)) dM_floating_160 ⟨Nat.zero_le _, Nat.zero_le _⟩) hM hA (fun H locs hM => ?_)
    exact W.lret (v := (fM_byQuotient a2 a3 a5 σ).1) hx hb hr (fun t ht hW => ⟨⟨(fM_byQuotient a2 a3 a5 σ).1, (fM_byQuotient a2 a3 a5 σ).2, rfl, by rw [(show fM_floating_72 a1 a2 a3 a5 σ = ((fM_byQuotient a2 a3 a5 σ).1, (fM_byQuotient a2 a3 a5 σ).2) by rw [fM_floating_72, if_neg h1, if_neg h2, if_neg h3, if_neg h4, if_pos h5])], by rw [ht]; exact hM.1, va_K.moved hW.alike hK, hM.2.1⟩, hM.2.2.F ht⟩) hM.2.2.2.2 dM_floating_163
  by_cases h6 : a1 = 11
  · refine lv_tableIn (tgt := 164) hx hb dM_floating_73 (by rw [h6]; decide) (by rw [h6]; decide) (off := 91) (by rw [h6]; rfl) (by decide) ?_
    refine lv_iload_n hx hb dM_floating_164 rfl (lv_at hl 2 rfl) ?_
    refine lv_lload hx hb dM_floating_165 (lv_at hl 4 rfl) ?_
    refine lv_lload_n hx hb dM_floating_167 rfl (lv_at hl 3 rfl) ?_
    refine pw_call (va_runS (As := [.int a2, .long a5, .long a3]) (rest := []) ⟨hx, hb, hml, hown, hts⟩ (qM_isLess l a2 a5 a3) (va_cwS 3 hts (gS w_612 w_613 w_34 w_614) rfl rfl rfl (by decide +kernel) ⟨Nat.le_of_ble_eq_true rfl, Nat.le_of_ble_eq_true rfl⟩) ⟨pw_bT, fun U hU hW => ⟨rfl, trivial⟩⟩ rfl rfl hl.1 rfl (lv_room (Nat.le_of_ble_eq_true rfl)) dM_floating_168 ⟨Nat.zero_le _, Nat.zero_le _⟩) ?_
    refine lv_if_eq (tgt := 179) hx hb dM_floating_171 (by decide) (fun h7 => ?_) (fun h7 => ?_)
    · refine lv_lload_n hx hb dM_floating_179 rfl (lv_at hl 3 rfl) ?_
      exact W.lret (v := a3) hx hb hr (fun t ht hW => ⟨⟨a3, σ, rfl, by rw [(show fM_floating_72 a1 a2 a3 a5 σ = (a3, σ) by rw [fM_floating_72, if_neg h1, if_neg h2, if_neg h3, if_neg h4, if_neg h5, if_pos h6, if_pos h7])], by rw [ht]; exact hM.1, va_K.moved hW.alike hK, hM.2.1⟩, hM.2.2.F ht⟩) hM.2.2.2.2 dM_floating_180
    · refine lv_lload hx hb dM_floating_174 (lv_at hl 4 rfl) ?_
      refine lv_goto (tgt := 180) hx hb dM_floating_176 (by decide) ?_
      exact W.lret (v := a5) hx hb hr (fun t ht hW => ⟨⟨a5, σ, rfl, by rw [(show fM_floating_72 a1 a2 a3 a5 σ = (a5, σ) by rw [fM_floating_72, if_neg h1, if_neg h2, if_neg h3, if_neg h4, if_neg h5, if_pos h6, if_neg h7])], by rw [ht]; exact hM.1, va_K.moved hW.alike hK, hM.2.1⟩, hM.2.2.F ht⟩) hM.2.2.2.2 dM_floating_180
  by_cases h8 : a1 = 12
  · refine lv_tableIn (tgt := 181) hx hb dM_floating_73 (by rw [h8]; decide) (by rw [h8]; decide) (off := 108) (by rw [h8]; rfl) (by decide) ?_
    refine lv_iload_n hx hb dM_floating_181 rfl (lv_at hl 2 rfl) ?_
    refine lv_lload_n hx hb dM_floating_182 rfl (lv_at hl 3 rfl) ?_
    refine lv_lload hx hb dM_floating_183 (lv_at hl 4 rfl) ?_
    refine pw_call (va_runS (As := [.int a2, .long a3, .long a5]) (rest := []) ⟨hx, hb, hml, hown, hts⟩ (qM_isLess l a2 a3 a5) (va_cwS 3 hts (gS w_612 w_613 w_34 w_614) rfl rfl rfl (by decide +kernel) ⟨Nat.le_of_ble_eq_true rfl, Nat.le_of_ble_eq_true rfl⟩) ⟨pw_bT, fun U hU hW => ⟨rfl, trivial⟩⟩ rfl rfl hl.1 rfl (lv_room (Nat.le_of_ble_eq_true rfl)) dM_floating_185 ⟨Nat.zero_le _, Nat.zero_le _⟩) ?_
    refine lv_if_eq (tgt := 196) hx hb dM_floating_188 (by decide) (fun h9 => ?_) (fun h9 => ?_)
    · refine lv_lload_n hx hb dM_floating_196 rfl (lv_at hl 3 rfl) ?_
      exact W.lret (v := a3) hx hb hr (fun t ht hW => ⟨⟨a3, σ, rfl, by rw [(show fM_floating_72 a1 a2 a3 a5 σ = (a3, σ) by rw [fM_floating_72, if_neg h1, if_neg h2, if_neg h3, if_neg h4, if_neg h5, if_neg h6, if_pos h8, if_pos h9])], by rw [ht]; exact hM.1, va_K.moved hW.alike hK, hM.2.1⟩, hM.2.2.F ht⟩) hM.2.2.2.2 dM_floating_197
    · refine lv_lload hx hb dM_floating_191 (lv_at hl 4 rfl) ?_
      refine lv_goto (tgt := 197) hx hb dM_floating_193 (by decide) ?_
      exact W.lret (v := a5) hx hb hr (fun t ht hW => ⟨⟨a5, σ, rfl, by rw [(show fM_floating_72 a1 a2 a3 a5 σ = (a5, σ) by rw [fM_floating_72, if_neg h1, if_neg h2, if_neg h3, if_neg h4, if_neg h5, if_neg h6, if_pos h8, if_neg h9])], by rw [ht]; exact hM.1, va_K.moved hW.alike hK, hM.2.1⟩, hM.2.2.F ht⟩) hM.2.2.2.2 dM_floating_197
  refine pw_tableD (tgt := 198) hx hb dM_floating_73 ?_ (by decide) ?_
  · have th1 := lv_neT h1 (a := 6) (by decide)
    have th2 := lv_neT h2 (a := 7) (by decide)
    have th3 := lv_neT h3 (a := 8) (by decide)
    have th4 := lv_neT h4 (a := 9) (by decide)
    have th5 := lv_neT h5 (a := 10) (by decide)
    have th6 := lv_neT h6 (a := 11) (by decide)
    have th8 := lv_neT h8 (a := 12) (by decide)
    exact (show a1.toInt < 6 ∨ 12 < a1.toInt by omega).elim Or.inl (fun q => Or.inr (Or.inl q))
  refine lv_aload_n hx hb dM_floating_198 rfl (lv_at hl 0 rfl) ?_
  refine lv_iload_n hx hb dM_floating_199 rfl (lv_at hl 1 rfl) ?_
  refine lv_iload_n hx hb dM_floating_200 rfl (lv_at hl 2 rfl) ?_
  refine lv_lload_n hx hb dM_floating_201 rfl (lv_at hl 3 rfl) ?_
  have hS202 : ((SM_towards a1 a2 a3 σ) ∧ True) := by have w9 := hS; rw [SM_floating_72, if_neg h1, if_neg h2, if_neg h3, if_neg h4, if_neg h5, if_neg h6, if_neg h8] at w9; exact w9
  refine mw_calll (F := fM_towards a1 a2 a3 σ) (va_runV (As := [.int a1, .int a2, .long a3]) (rest := []) ⟨hx, hb, hml, hown, hts⟩ (qM_towards l D ad a1 a2 a3 σ H.size hS202.1) (cwV 3 hts (gV w_746 w_748 w_24 w_34 w_749) rfl rfl rfl (by decide +kernel) ⟨Nat.le_of_ble_eq_true rfl, Nat.le_of_ble_eq_true rfl⟩) (mw_preV hK hM) rfl rfl hl.1 rfl (lv_room (Nat.le_of_ble_eq_true rfl)) dM_floating_202 ⟨Nat.zero_le _, Nat.zero_le _⟩) hM hA (fun H locs hM => ?_)
  exact W.lret (v := (fM_towards a1 a2 a3 σ).1) hx hb hr (fun t ht hW => ⟨⟨(fM_towards a1 a2 a3 σ).1, (fM_towards a1 a2 a3 σ).2, rfl, by rw [(show fM_floating_72 a1 a2 a3 a5 σ = ((fM_towards a1 a2 a3 σ).1, (fM_towards a1 a2 a3 σ).2) by rw [fM_floating_72, if_neg h1, if_neg h2, if_neg h3, if_neg h4, if_neg h5, if_neg h6, if_neg h8])], by rw [ht]; exact hM.1, va_K.moved hW.alike hK, hM.2.1⟩, hM.2.2.F ht⟩) hM.2.2.2.2 dM_floating_205
set_option maxHeartbeats 4000000 in
set_option maxRecDepth 100000 in
theorem kM_floating_67 {p : Program} {l : Launch} {e : Env} {s : State} {m : MethodId} {args : Array Value} {below : List Frame} {meth : Method} {c : Code} (C : pw_C p s m args meth c cM_floating 7 (some .long) "BitNumbersModel") {D : va_G} {ad : Nat → Nat} {A : Nat → Prop} (hK : va_K D clM (tyA ad) s) (hA : ∀ q, s.heap.size ≤ q → A q) (a2 : Int32) (σ : MS) (hS : SM_floating_67 a2 σ) {H : Heap} {locs : List Loc} (hM : mw D ad A s.heap H locs σ) {ls : Array Slot} (hl : lv_has ls 7 [(2, .int a2)]) : W p l e rmM_floating s m args below meth c H locs 0 0 (MQ below (va_Ql (fun r u => (r, u) = fM_floating_67 a2 σ) (mw_E D ad A) A) args s 0 0 A) (F0 m 67 ls []) := by
  obtain ⟨hx, hb, hr, hml, hown, hts, hlocks⟩ := id C
  refine lv_iload_n hx hb dM_floating_67 rfl (lv_at hl 0 rfl) ?_
  refine pw_call (va_runS (As := [.int a2]) (rest := []) ⟨hx, hb, hml, hown, hts⟩ (qM_theNone l a2) (va_cwS 1 hts (gS w_651 w_652 w_34 w_653) rfl rfl rfl (by decide +kernel) ⟨Nat.le_of_ble_eq_true rfl, Nat.le_of_ble_eq_true rfl⟩) ⟨pw_bT, fun U hU hW => ⟨rfl, trivial⟩⟩ rfl rfl hl.1 rfl (lv_room (Nat.le_of_ble_eq_true rfl)) dM_floating_68 ⟨Nat.zero_le _, Nat.zero_le _⟩) ?_
  exact W.lret (v := fM_theNone a2) hx hb hr (fun t ht hW => ⟨⟨fM_theNone a2, σ, rfl, by rw [(show fM_floating_67 a2 σ = (fM_theNone a2, σ) by rw [fM_floating_67])], by rw [ht]; exact hM.1, va_K.moved hW.alike hK, hM.2.1⟩, hM.2.2.F ht⟩) hM.2.2.2.2 dM_floating_71
set_option maxHeartbeats 4000000 in
set_option maxRecDepth 100000 in
theorem kM_floating_0 {p : Program} {l : Launch} {e : Env} {s : State} {m : MethodId} {args : Array Value} {below : List Frame} {meth : Method} {c : Code} (C : pw_C p s m args meth c cM_floating 7 (some .long) "BitNumbersModel") {D : va_G} {ad : Nat → Nat} {A : Nat → Prop} (hK : va_K D clM (tyA ad) s) (hA : ∀ q, s.heap.size ≤ q → A q) (a1 : Int32) (a2 : Int32) (a3 : Int64) (a5 : Int64) (σ : MS) (hS : SM_floating a1 a2 a3 a5 σ) {H : Heap} {locs : List Loc} (hM : mw D ad A s.heap H locs σ) {ls : Array Slot} (hl : lv_has ls 7 [(0, .ref (ad 0)), (1, .int a1), (2, .int a2), (3, .long a3), (5, .long a5)]) : W p l e rmM_floating s m args below meth c H locs 0 0 (MQ below (va_Ql (fun r u => (r, u) = fM_floating a1 a2 a3 a5 σ) (mw_E D ad A) A) args s 0 0 A) (F0 m 0 ls []) := by
  obtain ⟨hx, hb, hr, hml, hown, hts, hlocks⟩ := id C
  refine lv_iload_n hx hb dM_floating_0 rfl (lv_at hl 1 rfl) ?_
  refine lv_if_ne (tgt := 10) hx hb dM_floating_1 (by decide) (fun h1 => ?_) (fun h1 => ?_)
  · refine lv_iload_n hx hb dM_floating_10 rfl (lv_at hl 1 rfl) ?_
    refine lv_iconst (v := 1) hx hb dM_floating_11 (by decide) ?_
    refine lv_icmp_ne (tgt := 22) hx hb dM_floating_12 (by decide) (fun h2 => ?_) (fun h2 => ?_)
    · refine lv_iload_n hx hb dM_floating_22 rfl (lv_at hl 1 rfl) ?_
      refine lv_bipush (v := 13) hx hb dM_floating_23 (by decide) ?_
      refine lv_icmp_ne (tgt := 44) hx hb dM_floating_25 (by decide) (fun h3 => ?_) (fun h3 => ?_)
      · refine lv_iload_n hx hb dM_floating_44 rfl (lv_at hl 2 rfl) ?_
        refine lv_lload_n hx hb dM_floating_45 rfl (lv_at hl 3 rfl) ?_
        refine pw_call (va_runS (As := [.int a2, .long a3]) (rest := []) ⟨hx, hb, hml, hown, hts⟩ (qM_isNone l a2 a3) (va_cwS 2 hts (gS w_582 w_583 w_34 w_584) rfl rfl rfl (by decide +kernel) ⟨Nat.le_of_ble_eq_true rfl, Nat.le_of_ble_eq_true rfl⟩) ⟨pw_bT, fun U hU hW => ⟨rfl, trivial⟩⟩ rfl rfl hl.1 rfl (lv_room (Nat.le_of_ble_eq_true rfl)) dM_floating_46 ⟨Nat.zero_le _, Nat.zero_le _⟩) ?_
        refine lv_if_ne (tgt := 67) hx hb dM_floating_49 (by decide) (fun h4 => ?_) (fun h4 => ?_)
        · have hS9 : (SM_floating_67 a2 σ) := by have w9 := hS; rw [SM_floating, if_neg h1, if_neg h2, if_neg h3, if_neg h4] at w9; exact w9
          rw [(show fM_floating a1 a2 a3 a5 σ = fM_floating_67 a2 σ by rw [fM_floating, if_neg h1, if_neg h2, if_neg h3, if_neg h4])]
          exact kM_floating_67 C hK hA a2 σ (hS9) hM (lv_sub hl [2] rfl)
        · refine lv_iload_n hx hb dM_floating_52 rfl (lv_at hl 1 rfl) ?_
          refine lv_bipush (v := 6) hx hb dM_floating_53 (by decide) ?_
          refine lv_icmp_le (tgt := 72) hx hb dM_floating_55 (by decide) (fun h5 => ?_) (fun h5 => ?_)
          · have hS9 : (SM_floating_72 a1 a2 a3 a5 σ) := by have w9 := hS; rw [SM_floating, if_neg h1, if_neg h2, if_neg h3, if_pos h4, if_pos h5] at w9; exact w9
            rw [(show fM_floating a1 a2 a3 a5 σ = fM_floating_72 a1 a2 a3 a5 σ by rw [fM_floating, if_neg h1, if_neg h2, if_neg h3, if_pos h4, if_pos h5])]
            exact kM_floating_72 C hK hA a1 a2 a3 a5 σ (hS9) hM (lv_sub hl [0, 1, 2, 3, 4] rfl)
          · refine lv_iload_n hx hb dM_floating_58 rfl (lv_at hl 2 rfl) ?_
            refine lv_lload hx hb dM_floating_59 (lv_at hl 4 rfl) ?_
            refine pw_call (va_runS (As := [.int a2, .long a5]) (rest := []) ⟨hx, hb, hml, hown, hts⟩ (qM_isNone l a2 a5) (va_cwS 2 hts (gS w_582 w_583 w_34 w_584) rfl rfl rfl (by decide +kernel) ⟨Nat.le_of_ble_eq_true rfl, Nat.le_of_ble_eq_true rfl⟩) ⟨pw_bT, fun U hU hW => ⟨rfl, trivial⟩⟩ rfl rfl hl.1 rfl (lv_room (Nat.le_of_ble_eq_true rfl)) dM_floating_61 ⟨Nat.zero_le _, Nat.zero_le _⟩) ?_
            refine lv_if_eq (tgt := 72) hx hb dM_floating_64 (by decide) (fun h6 => ?_) (fun h6 => ?_)
            · have hS9 : (SM_floating_72 a1 a2 a3 a5 σ) := by have w9 := hS; rw [SM_floating, if_neg h1, if_neg h2, if_neg h3, if_pos h4, if_neg h5, if_pos h6] at w9; exact w9
              rw [(show fM_floating a1 a2 a3 a5 σ = fM_floating_72 a1 a2 a3 a5 σ by rw [fM_floating, if_neg h1, if_neg h2, if_neg h3, if_pos h4, if_neg h5, if_pos h6])]
              exact kM_floating_72 C hK hA a1 a2 a3 a5 σ (hS9) hM (lv_sub hl [0, 1, 2, 3, 4] rfl)
            · have hS9 : (SM_floating_67 a2 σ) := by have w9 := hS; rw [SM_floating, if_neg h1, if_neg h2, if_neg h3, if_pos h4, if_neg h5, if_neg h6] at w9; exact w9
              rw [(show fM_floating a1 a2 a3 a5 σ = fM_floating_67 a2 σ by rw [fM_floating, if_neg h1, if_neg h2, if_neg h3, if_pos h4, if_neg h5, if_neg h6])]
              exact kM_floating_67 C hK hA a2 σ (hS9) hM (lv_sub hl [2] rfl)
      · refine lv_iload_n hx hb dM_floating_28 rfl (lv_at hl 2 rfl) ?_
        refine lv_iload_n hx hb dM_floating_29 rfl (lv_at hl 2 rfl) ?_
        refine lv_lload hx hb dM_floating_30 (lv_at hl 4 rfl) ?_
        refine pw_call (va_runS (As := [.int a2, .long a5]) (rest := [.int a2]) ⟨hx, hb, hml, hown, hts⟩ (qM_isMinus l a2 a5) (va_cwS 2 hts (gS w_615 w_616 w_34 w_617) rfl rfl rfl (by decide +kernel) ⟨Nat.le_of_ble_eq_true rfl, Nat.le_of_ble_eq_true rfl⟩) ⟨pw_bT, fun U hU hW => ⟨rfl, trivial⟩⟩ rfl rfl hl.1 rfl (lv_room (Nat.le_of_ble_eq_true rfl)) dM_floating_32 ⟨Nat.zero_le _, Nat.zero_le _⟩) ?_
        refine lv_iload_n hx hb dM_floating_35 rfl (lv_at hl 2 rfl) ?_
        refine lv_lload_n hx hb dM_floating_36 rfl (lv_at hl 3 rfl) ?_
        refine pw_call (va_runS (As := [.int a2, .long a3]) (rest := [.int (fM_isMinus a2 a5), .int a2]) ⟨hx, hb, hml, hown, hts⟩ (qM_rest l a2 a3) (va_cwS 2 hts (gS w_588 w_589 w_34 w_590) rfl rfl rfl (by decide +kernel) ⟨Nat.le_of_ble_eq_true rfl, Nat.le_of_ble_eq_true rfl⟩) ⟨pw_bT, fun U hU hW => ⟨rfl, trivial⟩⟩ rfl rfl hl.1 rfl (lv_room (Nat.le_of_ble_eq_true rfl)) dM_floating_37 ⟨Nat.zero_le _, Nat.zero_le _⟩) ?_
        refine pw_call (va_runS (As := [.int a2, .int (fM_isMinus a2 a5), .long (fM_rest a2 a3)]) (rest := []) ⟨hx, hb, hml, hown, hts⟩ (qM_signed l a2 (fM_isMinus a2 a5) (fM_rest a2 a3)) (va_cwS 3 hts (gS w_648 w_649 w_34 w_650) rfl rfl rfl (by decide +kernel) ⟨Nat.le_of_ble_eq_true rfl, Nat.le_of_ble_eq_true rfl⟩) ⟨pw_bT, fun U hU hW => ⟨rfl, trivial⟩⟩ rfl rfl hl.1 rfl (lv_room (Nat.le_of_ble_eq_true rfl)) dM_floating_40 ⟨Nat.zero_le _, Nat.zero_le _⟩) ?_
        exact W.lret (v := fM_signed a2 (fM_isMinus a2 a5) (fM_rest a2 a3)) hx hb hr (fun t ht hW => ⟨⟨fM_signed a2 (fM_isMinus a2 a5) (fM_rest a2 a3), σ, rfl, by rw [(show fM_floating a1 a2 a3 a5 σ = (fM_signed a2 (fM_isMinus a2 a5) (fM_rest a2 a3), σ) by rw [fM_floating, if_neg h1, if_neg h2, if_pos h3])], by rw [ht]; exact hM.1, va_K.moved hW.alike hK, hM.2.1⟩, hM.2.2.F ht⟩) hM.2.2.2.2 dM_floating_43
    · refine lv_lload_n hx hb dM_floating_15 rfl (lv_at hl 3 rfl) ?_
      refine lv_iload_n hx hb dM_floating_16 rfl (lv_at hl 2 rfl) ?_
      refine pw_call (va_runS (As := [.int a2]) (rest := [.long a3]) ⟨hx, hb, hml, hown, hts⟩ (qM_signOf l a2) (va_cwS 1 hts (gS w_591 w_592 w_34 w_593) rfl rfl rfl (by decide +kernel) ⟨Nat.le_of_ble_eq_true rfl, Nat.le_of_ble_eq_true rfl⟩) ⟨pw_bT, fun U hU hW => ⟨rfl, trivial⟩⟩ rfl rfl hl.1 rfl (lv_room (Nat.le_of_ble_eq_true rfl)) dM_floating_17 ⟨Nat.zero_le _, Nat.zero_le _⟩) ?_
      refine lv_lxor hx hb dM_floating_20 ?_
      exact W.lret (v := a3 ^^^ (fM_signOf a2)) hx hb hr (fun t ht hW => ⟨⟨a3 ^^^ (fM_signOf a2), σ, rfl, by rw [(show fM_floating a1 a2 a3 a5 σ = (a3 ^^^ (fM_signOf a2), σ) by rw [fM_floating, if_neg h1, if_pos h2])], by rw [ht]; exact hM.1, va_K.moved hW.alike hK, hM.2.1⟩, hM.2.2.F ht⟩) hM.2.2.2.2 dM_floating_21
  · refine lv_iload_n hx hb dM_floating_4 rfl (lv_at hl 2 rfl) ?_
    refine lv_lload_n hx hb dM_floating_5 rfl (lv_at hl 3 rfl) ?_
    refine pw_call (va_runS (As := [.int a2, .long a3]) (rest := []) ⟨hx, hb, hml, hown, hts⟩ (qM_rest l a2 a3) (va_cwS 2 hts (gS w_588 w_589 w_34 w_590) rfl rfl rfl (by decide +kernel) ⟨Nat.le_of_ble_eq_true rfl, Nat.le_of_ble_eq_true rfl⟩) ⟨pw_bT, fun U hU hW => ⟨rfl, trivial⟩⟩ rfl rfl hl.1 rfl (lv_room (Nat.le_of_ble_eq_true rfl)) dM_floating_6 ⟨Nat.zero_le _, Nat.zero_le _⟩) ?_
    exact W.lret (v := fM_rest a2 a3) hx hb hr (fun t ht hW => ⟨⟨fM_rest a2 a3, σ, rfl, by rw [(show fM_floating a1 a2 a3 a5 σ = (fM_rest a2 a3, σ) by rw [fM_floating, if_pos h1])], by rw [ht]; exact hM.1, va_K.moved hW.alike hK, hM.2.1⟩, hM.2.2.F ht⟩) hM.2.2.2.2 dM_floating_9
set_option maxHeartbeats 4000000 in
set_option maxRecDepth 100000 in
theorem qM_floating (l : Launch) (D : va_G) (ad : Nat → Nat) (a1 : Int32) (a2 : Int32) (a3 : Int64) (a5 : Int64) (σ : MS) (sz : Nat) (hS : SM_floating a1 a2 a3 a5 σ) : Met l yM_floating wsM_floating rmM_floating (va_Pc [.ref (ad 0), .int a1, .int a2, .long a3, .long a5] (mw_B D ad σ sz)) (va_Ql (fun r u => (r, u) = fM_floating a1 a2 a3 a5 σ) (mw_E D ad (va_A (mw_c ad σ) sz)) (va_A (mw_c ad σ) sz)) 0 0 (va_A (mw_c ad σ) sz) := by
  refine Met.ofW (cc := cM_floating) (maxL := 7) (ret := (some .long)) (by decide) rfl ?_
  intro p e s m args below meth c s₁ B hml hv
  obtain ⟨rfl, hsz, hP, hK, hD⟩ := hv
  have hts0 := atoms_spec (ws := wsM_floating) B.pre
  have hts := fun (w : Cond) (h : w ∈ aw) => hts0 w (List.mem_cons_of_mem _ h)
  have hown : s.vm.findClass "BitNumbersModel" = some m.cls := findClass_of_methodNamed B.named
  subst hsz
  have hl := lv_entry ([.ref (ad 0), .int a1, .int a2, .long a3, .long a5]) (n := 7) (Nat.le_of_ble_eq_true rfl)
  rw [lg_entry_eq]
  generalize (lg_sl ([.ref (ad 0), .int a1, .int a2, .long a3, .long a5]) ++ List.replicate (7 - (lg_sl ([.ref (ad 0), .int a1, .int a2, .long a3, .long a5])).length) Slot.unset).toArray = ls at hl ⊢
  exact kM_floating_0 ⟨B.exec, B.bytes, B.returns, hml, hown, hts, B.notSynchronized⟩ hK (fun q h => Or.inr h) a1 a2 a3 a5 σ hS ⟨hP, hD.self, va_S.rf⟩ hl

set_option maxHeartbeats 4000000 in
set_option maxRecDepth 100000 in
theorem kM_toWhole_220 {p : Program} {l : Launch} {e : Env} {s : State} {m : MethodId} {args : Array Value} {below : List Frame} {meth : Method} {c : Code} (C : pw_C p s m args meth c cM_toWhole 22 (some .long) "BitNumbersModel") {D : va_G} {ad : Nat → Nat} {A : Nat → Prop} (hK : va_K D clM (tyA ad) s) (hA : ∀ q, s.heap.size ≤ q → A q) (a4 : Int32) (a7 : Int32) (a13 : Int64) (a18 : Int64) (s0 : Int64) (σ : MS) (hz7 : a7 = 0 ∨ a7 = 1) (hS : SM_toWhole_220 a4 a7 a13 a18 s0 σ) {H : Heap} {locs : List Loc} (hM : mw D ad A s.heap H locs σ) {ls : Array Slot} (hl : lv_has ls 22 [(0, .ref (ad 0)), (4, .int a4), (7, .int a7), (13, .long a13), (18, .long a18)]) : W p l e rmM_toWhole s m args below meth c H locs 0 0 (MQ below (va_Ql (fun r u => (r, u) = fM_toWhole_220 a4 a7 a13 a18 s0 σ) (mw_E D ad A) A) args s 0 0 A) (F0 m 220 ls [.long s0]) := by
  obtain ⟨hx, hb, hr, hml, hown, hts, hlocks⟩ := id C
  refine lv_lstore (lv' := [(20, .long s0), (0, .ref (ad 0)), (4, .int a4), (7, .int a7), (13, .long a13), (18, .long a18)]) hx hb dM_toWhole_220 hl (by decide) rfl (fun ls hl => ?_)
  refine lv_lload hx hb dM_toWhole_222 (lv_at hl 0 rfl) ?_
  refine lv_lload hx hb dM_toWhole_224 (lv_at hl 5 rfl) ?_
  refine pw_call (va_runS (As := [.long s0, .long a18]) (rest := []) ⟨hx, hb, hml, hown, hts⟩ (qM_isBelow l s0 a18) (va_cwS 2 hts (gS w_575 w_576 w_34 w_577) rfl rfl rfl (by decide +kernel) ⟨Nat.le_of_ble_eq_true rfl, Nat.le_of_ble_eq_true rfl⟩) ⟨pw_bT, fun U hU hW => ⟨rfl, trivial⟩⟩ rfl rfl hl.1 rfl (lv_room (Nat.le_of_ble_eq_true rfl)) dM_toWhole_226 ⟨Nat.zero_le _, Nat.zero_le _⟩) ?_
  refine lv_if_eq (tgt := 242) hx hb dM_toWhole_229 (by decide) (fun h1 => ?_) (fun h1 => ?_)
  · refine lv_iload hx hb dM_toWhole_242 (lv_at hl 3 rfl) ?_
    refine lv_if_eq (tgt := 253) hx hb dM_toWhole_244 (by decide) (fun h2 => ?_) (fun h2 => ?_)
    · refine lv_lload hx hb dM_toWhole_253 (lv_at hl 5 rfl) ?_
      exact W.lret (v := a18) hx hb hr (fun t ht hW => ⟨⟨a18, σ, rfl, by rw [(show fM_toWhole_220 a4 a7 a13 a18 s0 σ = (a18, σ) by rw [fM_toWhole_220, if_pos h1, if_pos h2])], by rw [ht]; exact hM.1, va_K.moved hW.alike hK, hM.2.1⟩, hM.2.2.F ht⟩) hM.2.2.2.2 dM_toWhole_255
    · refine lv_lload hx hb dM_toWhole_247 (lv_at hl 5 rfl) ?_
      refine lv_lneg hx hb dM_toWhole_249 ?_
      refine lv_goto (tgt := 255) hx hb dM_toWhole_250 (by decide) ?_
      exact W.lret (v := -a18) hx hb hr (fun t ht hW => ⟨⟨-a18, σ, rfl, by rw [(show fM_toWhole_220 a4 a7 a13 a18 s0 σ = (-a18, σ) by rw [fM_toWhole_220, if_pos h1, if_neg h2])], by rw [ht]; exact hM.1, va_K.moved hW.alike hK, hM.2.1⟩, hM.2.2.F ht⟩) hM.2.2.2.2 dM_toWhole_255
  · refine lv_aload_n hx hb dM_toWhole_232 rfl (lv_at hl 1 rfl) ?_
    refine lv_iload hx hb dM_toWhole_233 (lv_at hl 2 rfl) ?_
    refine lv_iconst (v := 2) hx hb dM_toWhole_235 (by decide) ?_
    refine lv_lload hx hb dM_toWhole_236 (lv_at hl 4 rfl) ?_
    refine mw_calll (F := fM_bound a4 2 a13 σ) (va_runV (As := [.int a4, .int 2, .long a13]) (rest := []) ⟨hx, hb, hml, hown, hts⟩ (qM_bound l D ad a4 2 a13 σ H.size) (cwV 3 hts (gV w_762 w_764 w_28 w_34 w_765) rfl rfl rfl (by decide +kernel) ⟨Nat.le_of_ble_eq_true rfl, Nat.le_of_ble_eq_true rfl⟩) (mw_preV hK hM) rfl rfl hl.1 rfl (lv_room (Nat.le_of_ble_eq_true rfl)) dM_toWhole_238 ⟨Nat.zero_le _, Nat.zero_le _⟩) hM hA (fun H locs hM => ?_)
    exact W.lret (v := (fM_bound a4 2 a13 σ).1) hx hb hr (fun t ht hW => ⟨⟨(fM_bound a4 2 a13 σ).1, (fM_bound a4 2 a13 σ).2, rfl, by rw [(show fM_toWhole_220 a4 a7 a13 a18 s0 σ = ((fM_bound a4 2 a13 σ).1, (fM_bound a4 2 a13 σ).2) by rw [fM_toWhole_220, if_neg h1])], by rw [ht]; exact hM.1, va_K.moved hW.alike hK, hM.2.1⟩, hM.2.2.F ht⟩) hM.2.2.2.2 dM_toWhole_241
set_option maxHeartbeats 4000000 in
set_option maxRecDepth 100000 in
theorem kM_toWhole_196 {p : Program} {l : Launch} {e : Env} {s : State} {m : MethodId} {args : Array Value} {below : List Frame} {meth : Method} {c : Code} (C : pw_C p s m args meth c cM_toWhole 22 (some .long) "BitNumbersModel") {D : va_G} {ad : Nat → Nat} {A : Nat → Prop} (hK : va_K D clM (tyA ad) s) (hA : ∀ q, s.heap.size ≤ q → A q) (a3 : Int32) (a4 : Int32) (a7 : Int32) (a8 : Int32) (a9 : Int64) (a13 : Int64) (a18 : Int64) (σ : MS) (hz7 : a7 = 0 ∨ a7 = 1) (hS : SM_toWhole_196 a3 a4 a7 a8 a9 a13 a18 σ) {H : Heap} {locs : List Loc} (hM : mw D ad A s.heap H locs σ) {ls : Array Slot} (hl : lv_has ls 22 [(0, .ref (ad 0)), (3, .int a3), (4, .int a4), (7, .int a7), (8, .int a8), (9, .long a9), (13, .long a13), (18, .long a18)]) : W p l e rmM_toWhole s m args below meth c H locs 0 0 (MQ below (va_Ql (fun r u => (r, u) = fM_toWhole_196 a3 a4 a7 a8 a9 a13 a18 σ) (mw_E D ad A) A) args s 0 0 A) (F0 m 196 ls []) := by
  obtain ⟨hx, hb, hr, hml, hown, hts, hlocks⟩ := id C
  refine lv_iload hx hb dM_toWhole_196 (lv_at hl 3 rfl) ?_
  refine lv_if_ne (tgt := 206) hx hb dM_toWhole_198 (by decide) (fun h1 => ?_) (fun h1 => ?_)
  · refine lv_iload_n hx hb dM_toWhole_206 rfl (lv_at hl 1 rfl) ?_
    refine lv_if_eq (tgt := 219) hx hb dM_toWhole_207 (by decide) (fun h2 => ?_) (fun h2 => ?_)
    · refine lv_lconst (v := 0) hx hb dM_toWhole_219 (by decide) ?_
      have hS9 : (SM_toWhole_220 a4 a7 a13 a18 0 σ) := by have w9 := hS; rw [SM_toWhole_196, if_neg h1, if_pos h2] at w9; exact w9
      rw [(show fM_toWhole_196 a3 a4 a7 a8 a9 a13 a18 σ = fM_toWhole_220 a4 a7 a13 a18 0 σ by rw [fM_toWhole_196, if_neg h1, if_pos h2])]
      exact kM_toWhole_220 C hK hA a4 a7 a13 a18 0 σ hz7 (hS9) hM (lv_sub hl [0, 2, 3, 6, 7] rfl)
    · refine lv_lconst (v := 1) hx hb dM_toWhole_210 (by decide) ?_
      refine lv_iload hx hb dM_toWhole_211 (lv_at hl 4 rfl) ?_
      refine lv_iconst (v := 1) hx hb dM_toWhole_213 (by decide) ?_
      refine lv_isub hx hb dM_toWhole_214 ?_
      refine lv_lshl (v := bn_shl 1 (a8 - 1)) hx hb dM_toWhole_215 rfl ?_
      refine lv_goto (tgt := 220) hx hb dM_toWhole_216 (by decide) ?_
      have hS9 : (SM_toWhole_220 a4 a7 a13 a18 (bn_shl 1 (a8 - 1)) σ) := by have w9 := hS; rw [SM_toWhole_196, if_neg h1, if_neg h2] at w9; exact w9
      rw [(show fM_toWhole_196 a3 a4 a7 a8 a9 a13 a18 σ = fM_toWhole_220 a4 a7 a13 a18 (bn_shl 1 (a8 - 1)) σ by rw [fM_toWhole_196, if_neg h1, if_neg h2])]
      exact kM_toWhole_220 C hK hA a4 a7 a13 a18 (bn_shl 1 (a8 - 1)) σ hz7 (hS9) hM (lv_sub hl [0, 2, 3, 6, 7] rfl)
  · refine lv_lload hx hb dM_toWhole_201 (lv_at hl 5 rfl) ?_
    refine lv_goto (tgt := 220) hx hb dM_toWhole_203 (by decide) ?_
    have hS9 : (SM_toWhole_220 a4 a7 a13 a18 a9 σ) := by have w9 := hS; rw [SM_toWhole_196, if_pos h1] at w9; exact w9
    rw [(show fM_toWhole_196 a3 a4 a7 a8 a9 a13 a18 σ = fM_toWhole_220 a4 a7 a13 a18 a9 σ by rw [fM_toWhole_196, if_pos h1])]
    exact kM_toWhole_220 C hK hA a4 a7 a13 a18 a9 σ hz7 (hS9) hM (lv_sub hl [0, 2, 3, 6, 7] rfl)
set_option maxHeartbeats 4000000 in
set_option maxRecDepth 100000 in
theorem kM_toWhole_194 {p : Program} {l : Launch} {e : Env} {s : State} {m : MethodId} {args : Array Value} {below : List Frame} {meth : Method} {c : Code} (C : pw_C p s m args meth c cM_toWhole 22 (some .long) "BitNumbersModel") {D : va_G} {ad : Nat → Nat} {A : Nat → Prop} (hK : va_K D clM (tyA ad) s) (hA : ∀ q, s.heap.size ≤ q → A q) (a3 : Int32) (a4 : Int32) (a7 : Int32) (a8 : Int32) (a9 : Int64) (a13 : Int64) (s0 : Int64) (σ : MS) (hz7 : a7 = 0 ∨ a7 = 1) (hS : SM_toWhole_194 a3 a4 a7 a8 a9 a13 s0 σ) {H : Heap} {locs : List Loc} (hM : mw D ad A s.heap H locs σ) {ls : Array Slot} (hl : lv_has ls 22 [(0, .ref (ad 0)), (3, .int a3), (4, .int a4), (7, .int a7), (8, .int a8), (9, .long a9), (13, .long a13)]) : W p l e rmM_toWhole s m args below meth c H locs 0 0 (MQ below (va_Ql (fun r u => (r, u) = fM_toWhole_194 a3 a4 a7 a8 a9 a13 s0 σ) (mw_E D ad A) A) args s 0 0 A) (F0 m 194 ls [.long s0]) := by
  obtain ⟨hx, hb, hr, hml, hown, hts, hlocks⟩ := id C
  refine lv_lstore (lv' := [(18, .long s0), (0, .ref (ad 0)), (3, .int a3), (4, .int a4), (7, .int a7), (8, .int a8), (9, .long a9), (13, .long a13)]) hx hb dM_toWhole_194 hl (by decide) rfl (fun ls hl => ?_)
  have hS9 : (SM_toWhole_196 a3 a4 a7 a8 a9 a13 s0 σ) := by have w9 := hS; rw [SM_toWhole_194] at w9; exact w9
  rw [(show fM_toWhole_194 a3 a4 a7 a8 a9 a13 s0 σ = fM_toWhole_196 a3 a4 a7 a8 a9 a13 s0 σ by rw [fM_toWhole_194])]
  exact kM_toWhole_196 C hK hA a3 a4 a7 a8 a9 a13 s0 σ hz7 (hS9) hM (lv_sub hl [1, 2, 3, 4, 5, 6, 7, 0] rfl)
set_option maxHeartbeats 4000000 in
set_option maxRecDepth 100000 in
theorem kM_toWhole_132 {p : Program} {l : Launch} {e : Env} {s : State} {m : MethodId} {args : Array Value} {below : List Frame} {meth : Method} {c : Code} (C : pw_C p s m args meth c cM_toWhole 22 (some .long) "BitNumbersModel") {D : va_G} {ad : Nat → Nat} {A : Nat → Prop} (hK : va_K D clM (tyA ad) s) (hA : ∀ q, s.heap.size ≤ q → A q) (a3 : Int32) (a4 : Int32) (a7 : Int32) (a8 : Int32) (a9 : Int64) (a13 : Int64) (a15 : Int64) (a17 : Int32) (σ : MS) (hz7 : a7 = 0 ∨ a7 = 1) (hS : SM_toWhole_132 a3 a4 a7 a8 a9 a13 a15 a17 σ) {H : Heap} {locs : List Loc} (hM : mw D ad A s.heap H locs σ) {ls : Array Slot} (hl : lv_has ls 22 [(0, .ref (ad 0)), (3, .int a3), (4, .int a4), (7, .int a7), (8, .int a8), (9, .long a9), (13, .long a13), (15, .long a15), (17, .int a17)]) : W p l e rmM_toWhole s m args below meth c H locs 0 0 (MQ below (va_Ql (fun r u => (r, u) = fM_toWhole_132 a3 a4 a7 a8 a9 a13 a15 a17 σ) (mw_E D ad A) A) args s 0 0 A) (F0 m 132 ls []) := by
  obtain ⟨hx, hb, hr, hml, hown, hts, hlocks⟩ := id C
  refine lv_lload hx hb dM_toWhole_132 (lv_at hl 7 rfl) ?_
  refine lv_lconst (v := 0) hx hb dM_toWhole_134 (by decide) ?_
  refine W.lcmp hx hb dM_toWhole_135 ?_
  refine lv_if_ne (tgt := 141) hx hb dM_toWhole_136 (by decide) (fun h1 => ?_) (fun h1 => ?_)
  · have h1 : ¬ (a15 = 0) := fun w => h1 ((lg_cmp_eq _ _).mpr w)
    refine lv_lload hx hb dM_toWhole_141 (lv_at hl 7 rfl) ?_
    have hS143 : ((a15 ≠ 0) ∧ (if ((fM_highest a15) + a17) ≤ 63 then (if a17 < 0 then (if (-63) ≤ a17 then (SM_toWhole_194 a3 a4 a7 a8 a9 a13 (bn_shr a15 (-a17)) σ) else (SM_toWhole_194 a3 a4 a7 a8 a9 a13 0 σ)) else (SM_toWhole_194 a3 a4 a7 a8 a9 a13 (bn_shl a15 a17) σ)) else True)) := by have w9 := hS; rw [SM_toWhole_132, if_neg h1] at w9; exact w9
    refine pw_call (va_runS (As := [.long a15]) (rest := []) ⟨hx, hb, hml, hown, hts⟩ (qM_highest l a15 hS143.1) (va_cwS 1 hts (gS w_672 w_673 w_34 w_674) rfl rfl rfl (by decide +kernel) ⟨Nat.le_of_ble_eq_true rfl, Nat.le_of_ble_eq_true rfl⟩) ⟨pw_bT, fun U hU hW => ⟨rfl, trivial⟩⟩ rfl rfl hl.1 rfl (lv_room (Nat.le_of_ble_eq_true rfl)) dM_toWhole_143 ⟨Nat.zero_le _, Nat.zero_le _⟩) ?_
    refine lv_iload hx hb dM_toWhole_146 (lv_at hl 8 rfl) ?_
    refine lv_iadd hx hb dM_toWhole_148 ?_
    refine lv_bipush (v := 63) hx hb dM_toWhole_149 (by decide) ?_
    refine lv_icmp_le (tgt := 164) hx hb dM_toWhole_151 (by decide) (fun h2 => ?_) (fun h2 => ?_)
    · refine lv_iload hx hb dM_toWhole_164 (lv_at hl 8 rfl) ?_
      refine lv_if_lt (tgt := 177) hx hb dM_toWhole_166 (by decide) (fun h3 => ?_) (fun h3 => ?_)
      · refine lv_iload hx hb dM_toWhole_177 (lv_at hl 8 rfl) ?_
        refine lv_bipush (v := (-63)) hx hb dM_toWhole_179 (by decide) ?_
        refine lv_icmp_ge (tgt := 188) hx hb dM_toWhole_181 (by decide) (fun h4 => ?_) (fun h4 => ?_)
        · refine lv_lload hx hb dM_toWhole_188 (lv_at hl 7 rfl) ?_
          refine lv_iload hx hb dM_toWhole_190 (lv_at hl 8 rfl) ?_
          refine lv_ineg hx hb dM_toWhole_192 ?_
          refine lv_lushr (v := bn_shr a15 (-a17)) hx hb dM_toWhole_193 rfl ?_
          have hS9 : (SM_toWhole_194 a3 a4 a7 a8 a9 a13 (bn_shr a15 (-a17)) σ) := by have w9 := hS143.2; rw [if_pos h2, if_pos h3, if_pos h4] at w9; exact w9
          rw [(show fM_toWhole_132 a3 a4 a7 a8 a9 a13 a15 a17 σ = fM_toWhole_194 a3 a4 a7 a8 a9 a13 (bn_shr a15 (-a17)) σ by rw [fM_toWhole_132, if_neg h1, if_pos h2, if_pos h3, if_pos h4])]
          exact kM_toWhole_194 C hK hA a3 a4 a7 a8 a9 a13 (bn_shr a15 (-a17)) σ hz7 (hS9) hM (lv_sub hl [0, 1, 2, 3, 4, 5, 6] rfl)
        · refine lv_lconst (v := 0) hx hb dM_toWhole_184 (by decide) ?_
          refine lv_goto (tgt := 194) hx hb dM_toWhole_185 (by decide) ?_
          have hS9 : (SM_toWhole_194 a3 a4 a7 a8 a9 a13 0 σ) := by have w9 := hS143.2; rw [if_pos h2, if_pos h3, if_neg h4] at w9; exact w9
          rw [(show fM_toWhole_132 a3 a4 a7 a8 a9 a13 a15 a17 σ = fM_toWhole_194 a3 a4 a7 a8 a9 a13 0 σ by rw [fM_toWhole_132, if_neg h1, if_pos h2, if_pos h3, if_neg h4])]
          exact kM_toWhole_194 C hK hA a3 a4 a7 a8 a9 a13 0 σ hz7 (hS9) hM (lv_sub hl [0, 1, 2, 3, 4, 5, 6] rfl)
      · refine lv_lload hx hb dM_toWhole_169 (lv_at hl 7 rfl) ?_
        refine lv_iload hx hb dM_toWhole_171 (lv_at hl 8 rfl) ?_
        refine lv_lshl (v := bn_shl a15 a17) hx hb dM_toWhole_173 rfl ?_
        refine lv_goto (tgt := 194) hx hb dM_toWhole_174 (by decide) ?_
        have hS9 : (SM_toWhole_194 a3 a4 a7 a8 a9 a13 (bn_shl a15 a17) σ) := by have w9 := hS143.2; rw [if_pos h2, if_neg h3] at w9; exact w9
        rw [(show fM_toWhole_132 a3 a4 a7 a8 a9 a13 a15 a17 σ = fM_toWhole_194 a3 a4 a7 a8 a9 a13 (bn_shl a15 a17) σ by rw [fM_toWhole_132, if_neg h1, if_pos h2, if_neg h3])]
        exact kM_toWhole_194 C hK hA a3 a4 a7 a8 a9 a13 (bn_shl a15 a17) σ hz7 (hS9) hM (lv_sub hl [0, 1, 2, 3, 4, 5, 6] rfl)
    · refine lv_aload_n hx hb dM_toWhole_154 rfl (lv_at hl 0 rfl) ?_
      refine lv_iload hx hb dM_toWhole_155 (lv_at hl 2 rfl) ?_
      refine lv_iconst (v := 2) hx hb dM_toWhole_157 (by decide) ?_
      refine lv_lload hx hb dM_toWhole_158 (lv_at hl 6 rfl) ?_
      refine mw_calll (F := fM_bound a4 2 a13 σ) (va_runV (As := [.int a4, .int 2, .long a13]) (rest := []) ⟨hx, hb, hml, hown, hts⟩ (qM_bound l D ad a4 2 a13 σ H.size) (cwV 3 hts (gV w_762 w_764 w_28 w_34 w_765) rfl rfl rfl (by decide +kernel) ⟨Nat.le_of_ble_eq_true rfl, Nat.le_of_ble_eq_true rfl⟩) (mw_preV hK hM) rfl rfl hl.1 rfl (lv_room (Nat.le_of_ble_eq_true rfl)) dM_toWhole_160 ⟨Nat.zero_le _, Nat.zero_le _⟩) hM hA (fun H locs hM => ?_)
      exact W.lret (v := (fM_bound a4 2 a13 σ).1) hx hb hr (fun t ht hW => ⟨⟨(fM_bound a4 2 a13 σ).1, (fM_bound a4 2 a13 σ).2, rfl, by rw [(show fM_toWhole_132 a3 a4 a7 a8 a9 a13 a15 a17 σ = ((fM_bound a4 2 a13 σ).1, (fM_bound a4 2 a13 σ).2) by rw [fM_toWhole_132, if_neg h1, if_neg h2])], by rw [ht]; exact hM.1, va_K.moved hW.alike hK, hM.2.1⟩, hM.2.2.F ht⟩) hM.2.2.2.2 dM_toWhole_163
  · have h1 : a15 = 0 := (lg_cmp_eq _ _).mp h1
    refine lv_lconst (v := 0) hx hb dM_toWhole_139 (by decide) ?_
    exact W.lret (v := 0) hx hb hr (fun t ht hW => ⟨⟨0, σ, rfl, by rw [(show fM_toWhole_132 a3 a4 a7 a8 a9 a13 a15 a17 σ = (0, σ) by rw [fM_toWhole_132, if_pos h1])], by rw [ht]; exact hM.1, va_K.moved hW.alike hK, hM.2.1⟩, hM.2.2.F ht⟩) hM.2.2.2.2 dM_toWhole_140
set_option maxHeartbeats 4000000 in
set_option maxRecDepth 100000 in
theorem kM_toWhole_124 {p : Program} {l : Launch} {e : Env} {s : State} {m : MethodId} {args : Array Value} {below : List Frame} {meth : Method} {c : Code} (C : pw_C p s m args meth c cM_toWhole 22 (some .long) "BitNumbersModel") {D : va_G} {ad : Nat → Nat} {A : Nat → Prop} (hK : va_K D clM (tyA ad) s) (hA : ∀ q, s.heap.size ≤ q → A q) (a1 : Int32) (a3 : Int32) (a4 : Int32) (a5 : Int64) (a7 : Int32) (a8 : Int32) (a9 : Int64) (a13 : Int64) (a15 : Int64) (σ : MS) (hz7 : a7 = 0 ∨ a7 = 1) (hS : SM_toWhole_124 a1 a3 a4 a5 a7 a8 a9 a13 a15 σ) {H : Heap} {locs : List Loc} (hM : mw D ad A s.heap H locs σ) {ls : Array Slot} (hl : lv_has ls 22 [(0, .ref (ad 0)), (1, .int a1), (3, .int a3), (4, .int a4), (5, .long a5), (7, .int a7), (8, .int a8), (9, .long a9), (13, .long a13), (15, .long a15)]) : W p l e rmM_toWhole s m args below meth c H locs 0 0 (MQ below (va_Ql (fun r u => (r, u) = fM_toWhole_124 a1 a3 a4 a5 a7 a8 a9 a13 a15 σ) (mw_E D ad A) A) args s 0 0 A) (F0 m 124 ls []) := by
  obtain ⟨hx, hb, hr, hml, hown, hts, hlocks⟩ := id C
  refine lv_iload_n hx hb dM_toWhole_124 rfl (lv_at hl 1 rfl) ?_
  refine lv_lload hx hb dM_toWhole_125 (lv_at hl 4 rfl) ?_
  refine pw_call (va_runS (As := [.int a1, .long a5]) (rest := []) ⟨hx, hb, hml, hown, hts⟩ (qM_scaleOf l a1 a5) (va_cwS 2 hts (gS w_666 w_667 w_34 w_668) rfl rfl rfl (by decide +kernel) ⟨Nat.le_of_ble_eq_true rfl, Nat.le_of_ble_eq_true rfl⟩) ⟨pw_bT, fun U hU hW => ⟨rfl, trivial⟩⟩ rfl rfl hl.1 rfl (lv_room (Nat.le_of_ble_eq_true rfl)) dM_toWhole_127 ⟨Nat.zero_le _, Nat.zero_le _⟩) ?_
  refine lv_istore (lv' := [(17, .int (fM_scaleOf a1 a5)), (0, .ref (ad 0)), (1, .int a1), (3, .int a3), (4, .int a4), (5, .long a5), (7, .int a7), (8, .int a8), (9, .long a9), (13, .long a13), (15, .long a15)]) hx hb dM_toWhole_130 hl (by decide) rfl (fun ls hl => ?_)
  have hS9 : (SM_toWhole_132 a3 a4 a7 a8 a9 a13 a15 (fM_scaleOf a1 a5) σ) := by have w9 := hS; rw [SM_toWhole_124] at w9; exact w9
  rw [(show fM_toWhole_124 a1 a3 a4 a5 a7 a8 a9 a13 a15 σ = fM_toWhole_132 a3 a4 a7 a8 a9 a13 a15 (fM_scaleOf a1 a5) σ by rw [fM_toWhole_124])]
  exact kM_toWhole_132 C hK hA a3 a4 a7 a8 a9 a13 a15 (fM_scaleOf a1 a5) σ hz7 (hS9) hM (lv_sub hl [1, 3, 4, 6, 7, 8, 9, 10, 0] rfl)
set_option maxHeartbeats 4000000 in
set_option maxRecDepth 100000 in
theorem kM_toWhole_95 {p : Program} {l : Launch} {e : Env} {s : State} {m : MethodId} {args : Array Value} {below : List Frame} {meth : Method} {c : Code} (C : pw_C p s m args meth c cM_toWhole 22 (some .long) "BitNumbersModel") {D : va_G} {ad : Nat → Nat} {A : Nat → Prop} (hK : va_K D clM (tyA ad) s) (hA : ∀ q, s.heap.size ≤ q → A q) (a1 : Int32) (a3 : Int32) (a4 : Int32) (a5 : Int64) (a7 : Int32) (a8 : Int32) (a9 : Int64) (s0 : Int64) (σ : MS) (hz7 : a7 = 0 ∨ a7 = 1) (hS : SM_toWhole_95 a1 a3 a4 a5 a7 a8 a9 s0 σ) {H : Heap} {locs : List Loc} (hM : mw D ad A s.heap H locs σ) {ls : Array Slot} (hl : lv_has ls 22 [(0, .ref (ad 0)), (1, .int a1), (3, .int a3), (4, .int a4), (5, .long a5), (7, .int a7), (8, .int a8), (9, .long a9)]) : W p l e rmM_toWhole s m args below meth c H locs 0 0 (MQ below (va_Ql (fun r u => (r, u) = fM_toWhole_95 a1 a3 a4 a5 a7 a8 a9 s0 σ) (mw_E D ad A) A) args s 0 0 A) (F0 m 95 ls [.long s0]) := by
  obtain ⟨hx, hb, hr, hml, hown, hts, hlocks⟩ := id C
  refine lv_lstore (lv' := [(13, .long s0), (0, .ref (ad 0)), (1, .int a1), (3, .int a3), (4, .int a4), (5, .long a5), (7, .int a7), (8, .int a8), (9, .long a9)]) hx hb dM_toWhole_95 hl (by decide) rfl (fun ls hl => ?_)
  refine lv_iload_n hx hb dM_toWhole_97 rfl (lv_at hl 2 rfl) ?_
  refine lv_lload hx hb dM_toWhole_98 (lv_at hl 5 rfl) ?_
  refine pw_call (va_runS (As := [.int a1, .long a5]) (rest := []) ⟨hx, hb, hml, hown, hts⟩ (qM_isInfinite l a1 a5) (va_cwS 2 hts (gS w_660 w_661 w_34 w_662) rfl rfl rfl (by decide +kernel) ⟨Nat.le_of_ble_eq_true rfl, Nat.le_of_ble_eq_true rfl⟩) ⟨pw_bT, fun U hU hW => ⟨rfl, trivial⟩⟩ rfl rfl hl.1 rfl (lv_room (Nat.le_of_ble_eq_true rfl)) dM_toWhole_100 ⟨Nat.zero_le _, Nat.zero_le _⟩) ?_
  refine lv_if_eq (tgt := 116) hx hb dM_toWhole_103 (by decide) (fun h1 => ?_) (fun h1 => ?_)
  · refine lv_iload_n hx hb dM_toWhole_116 rfl (lv_at hl 2 rfl) ?_
    refine lv_lload hx hb dM_toWhole_117 (lv_at hl 5 rfl) ?_
    refine pw_call (va_runS (As := [.int a1, .long a5]) (rest := []) ⟨hx, hb, hml, hown, hts⟩ (qM_significand l a1 a5) (va_cwS 2 hts (gS w_663 w_664 w_34 w_665) rfl rfl rfl (by decide +kernel) ⟨Nat.le_of_ble_eq_true rfl, Nat.le_of_ble_eq_true rfl⟩) ⟨pw_bT, fun U hU hW => ⟨rfl, trivial⟩⟩ rfl rfl hl.1 rfl (lv_room (Nat.le_of_ble_eq_true rfl)) dM_toWhole_119 ⟨Nat.zero_le _, Nat.zero_le _⟩) ?_
    refine lv_lstore (lv' := [(15, .long (fM_significand a1 a5)), (13, .long s0), (0, .ref (ad 0)), (1, .int a1), (3, .int a3), (4, .int a4), (5, .long a5), (7, .int a7), (8, .int a8), (9, .long a9)]) hx hb dM_toWhole_122 hl (by decide) rfl (fun ls hl => ?_)
    have hS9 : (SM_toWhole_124 a1 a3 a4 a5 a7 a8 a9 s0 (fM_significand a1 a5) σ) := by have w9 := hS; rw [SM_toWhole_95, if_pos h1] at w9; exact w9
    rw [(show fM_toWhole_95 a1 a3 a4 a5 a7 a8 a9 s0 σ = fM_toWhole_124 a1 a3 a4 a5 a7 a8 a9 s0 (fM_significand a1 a5) σ by rw [fM_toWhole_95, if_pos h1])]
    exact kM_toWhole_124 C hK hA a1 a3 a4 a5 a7 a8 a9 s0 (fM_significand a1 a5) σ hz7 (hS9) hM (lv_sub hl [2, 3, 4, 5, 6, 7, 8, 9, 1, 0] rfl)
  · refine lv_aload_n hx hb dM_toWhole_106 rfl (lv_at hl 1 rfl) ?_
    refine lv_iload hx hb dM_toWhole_107 (lv_at hl 4 rfl) ?_
    refine lv_iconst (v := 2) hx hb dM_toWhole_109 (by decide) ?_
    refine lv_lload hx hb dM_toWhole_110 (lv_at hl 0 rfl) ?_
    refine mw_calll (F := fM_bound a4 2 s0 σ) (va_runV (As := [.int a4, .int 2, .long s0]) (rest := []) ⟨hx, hb, hml, hown, hts⟩ (qM_bound l D ad a4 2 s0 σ H.size) (cwV 3 hts (gV w_762 w_764 w_28 w_34 w_765) rfl rfl rfl (by decide +kernel) ⟨Nat.le_of_ble_eq_true rfl, Nat.le_of_ble_eq_true rfl⟩) (mw_preV hK hM) rfl rfl hl.1 rfl (lv_room (Nat.le_of_ble_eq_true rfl)) dM_toWhole_112 ⟨Nat.zero_le _, Nat.zero_le _⟩) hM hA (fun H locs hM => ?_)
    exact W.lret (v := (fM_bound a4 2 s0 σ).1) hx hb hr (fun t ht hW => ⟨⟨(fM_bound a4 2 s0 σ).1, (fM_bound a4 2 s0 σ).2, rfl, by rw [(show fM_toWhole_95 a1 a3 a4 a5 a7 a8 a9 s0 σ = ((fM_bound a4 2 s0 σ).1, (fM_bound a4 2 s0 σ).2) by rw [fM_toWhole_95, if_neg h1])], by rw [ht]; exact hM.1, va_K.moved hW.alike hK, hM.2.1⟩, hM.2.2.F ht⟩) hM.2.2.2.2 dM_toWhole_115
set_option maxHeartbeats 4000000 in
set_option maxRecDepth 100000 in
theorem kM_toWhole_81 {p : Program} {l : Launch} {e : Env} {s : State} {m : MethodId} {args : Array Value} {below : List Frame} {meth : Method} {c : Code} (C : pw_C p s m args meth c cM_toWhole 22 (some .long) "BitNumbersModel") {D : va_G} {ad : Nat → Nat} {A : Nat → Prop} (hK : va_K D clM (tyA ad) s) (hA : ∀ q, s.heap.size ≤ q → A q) (a1 : Int32) (a3 : Int32) (a4 : Int32) (a5 : Int64) (a7 : Int32) (a8 : Int32) (a9 : Int64) (s0 : Int64) (σ : MS) (hz7 : a7 = 0 ∨ a7 = 1) (hS : SM_toWhole_81 a1 a3 a4 a5 a7 a8 a9 s0 σ) {H : Heap} {locs : List Loc} (hM : mw D ad A s.heap H locs σ) {ls : Array Slot} (hl : lv_has ls 22 [(0, .ref (ad 0)), (1, .int a1), (3, .int a3), (4, .int a4), (5, .long a5), (7, .int a7), (8, .int a8), (9, .long a9)]) : W p l e rmM_toWhole s m args below meth c H locs 0 0 (MQ below (va_Ql (fun r u => (r, u) = fM_toWhole_81 a1 a3 a4 a5 a7 a8 a9 s0 σ) (mw_E D ad A) A) args s 0 0 A) (F0 m 81 ls [.long s0]) := by
  obtain ⟨hx, hb, hr, hml, hown, hts, hlocks⟩ := id C
  refine lv_lstore (lv' := [(11, .long s0), (0, .ref (ad 0)), (1, .int a1), (3, .int a3), (4, .int a4), (5, .long a5), (7, .int a7), (8, .int a8), (9, .long a9)]) hx hb dM_toWhole_81 hl (by decide) rfl (fun ls hl => ?_)
  refine lv_iload hx hb dM_toWhole_83 (lv_at hl 6 rfl) ?_
  refine lv_if_eq (tgt := 93) hx hb dM_toWhole_85 (by decide) (fun h1 => ?_) (fun h1 => ?_)
  · refine lv_lload hx hb dM_toWhole_93 (lv_at hl 8 rfl) ?_
    have hS9 : (SM_toWhole_95 a1 a3 a4 a5 a7 a8 a9 a9 σ) := by have w9 := hS; rw [SM_toWhole_81, if_pos h1] at w9; exact w9
    rw [(show fM_toWhole_81 a1 a3 a4 a5 a7 a8 a9 s0 σ = fM_toWhole_95 a1 a3 a4 a5 a7 a8 a9 a9 σ by rw [fM_toWhole_81, if_pos h1])]
    exact kM_toWhole_95 C hK hA a1 a3 a4 a5 a7 a8 a9 a9 σ hz7 (hS9) hM (lv_sub hl [1, 2, 3, 4, 5, 6, 7, 8] rfl)
  · refine lv_lload hx hb dM_toWhole_88 (lv_at hl 0 rfl) ?_
    refine lv_goto (tgt := 95) hx hb dM_toWhole_90 (by decide) ?_
    have hS9 : (SM_toWhole_95 a1 a3 a4 a5 a7 a8 a9 s0 σ) := by have w9 := hS; rw [SM_toWhole_81, if_neg h1] at w9; exact w9
    rw [(show fM_toWhole_81 a1 a3 a4 a5 a7 a8 a9 s0 σ = fM_toWhole_95 a1 a3 a4 a5 a7 a8 a9 s0 σ by rw [fM_toWhole_81, if_neg h1])]
    exact kM_toWhole_95 C hK hA a1 a3 a4 a5 a7 a8 a9 s0 σ hz7 (hS9) hM (lv_sub hl [1, 2, 3, 4, 5, 6, 7, 8] rfl)
set_option maxHeartbeats 4000000 in
set_option maxRecDepth 100000 in
theorem kM_toWhole_63 {p : Program} {l : Launch} {e : Env} {s : State} {m : MethodId} {args : Array Value} {below : List Frame} {meth : Method} {c : Code} (C : pw_C p s m args meth c cM_toWhole 22 (some .long) "BitNumbersModel") {D : va_G} {ad : Nat → Nat} {A : Nat → Prop} (hK : va_K D clM (tyA ad) s) (hA : ∀ q, s.heap.size ≤ q → A q) (a1 : Int32) (a3 : Int32) (a4 : Int32) (a5 : Int64) (a7 : Int32) (a8 : Int32) (s0 : Int64) (σ : MS) (hz7 : a7 = 0 ∨ a7 = 1) (hS : SM_toWhole_63 a1 a3 a4 a5 a7 a8 s0 σ) {H : Heap} {locs : List Loc} (hM : mw D ad A s.heap H locs σ) {ls : Array Slot} (hl : lv_has ls 22 [(0, .ref (ad 0)), (1, .int a1), (3, .int a3), (4, .int a4), (5, .long a5), (7, .int a7), (8, .int a8)]) : W p l e rmM_toWhole s m args below meth c H locs 0 0 (MQ below (va_Ql (fun r u => (r, u) = fM_toWhole_63 a1 a3 a4 a5 a7 a8 s0 σ) (mw_E D ad A) A) args s 0 0 A) (F0 m 63 ls [.long s0]) := by
  obtain ⟨hx, hb, hr, hml, hown, hts, hlocks⟩ := id C
  refine lv_lstore (lv' := [(9, .long s0), (0, .ref (ad 0)), (1, .int a1), (3, .int a3), (4, .int a4), (5, .long a5), (7, .int a7), (8, .int a8)]) hx hb dM_toWhole_63 hl (by decide) rfl (fun ls hl => ?_)
  refine lv_iload_n hx hb dM_toWhole_65 rfl (lv_at hl 3 rfl) ?_
  refine lv_if_eq (tgt := 80) hx hb dM_toWhole_66 (by decide) (fun h1 => ?_) (fun h1 => ?_)
  · refine lv_lconst (v := 0) hx hb dM_toWhole_80 (by decide) ?_
    have hS9 : (SM_toWhole_81 a1 a3 a4 a5 a7 a8 s0 0 σ) := by have w9 := hS; rw [SM_toWhole_63, if_pos h1] at w9; exact w9
    rw [(show fM_toWhole_63 a1 a3 a4 a5 a7 a8 s0 σ = fM_toWhole_81 a1 a3 a4 a5 a7 a8 s0 0 σ by rw [fM_toWhole_63, if_pos h1])]
    exact kM_toWhole_81 C hK hA a1 a3 a4 a5 a7 a8 s0 0 σ hz7 (hS9) hM (lv_sub hl [1, 2, 3, 4, 5, 6, 7, 0] rfl)
  · refine lv_ldc2 hx hb hown (hts _ w_643) dM_toWhole_69 ?_
    refine lv_iload hx hb dM_toWhole_72 (lv_at hl 7 rfl) ?_
    refine lv_iconst (v := 1) hx hb dM_toWhole_74 (by decide) ?_
    refine lv_isub hx hb dM_toWhole_75 ?_
    refine lv_lshl (v := bn_shl (-1) (a8 - 1)) hx hb dM_toWhole_76 rfl ?_
    refine lv_goto (tgt := 81) hx hb dM_toWhole_77 (by decide) ?_
    have hS9 : (SM_toWhole_81 a1 a3 a4 a5 a7 a8 s0 (bn_shl (-1) (a8 - 1)) σ) := by have w9 := hS; rw [SM_toWhole_63, if_neg h1] at w9; exact w9
    rw [(show fM_toWhole_63 a1 a3 a4 a5 a7 a8 s0 σ = fM_toWhole_81 a1 a3 a4 a5 a7 a8 s0 (bn_shl (-1) (a8 - 1)) σ by rw [fM_toWhole_63, if_neg h1])]
    exact kM_toWhole_81 C hK hA a1 a3 a4 a5 a7 a8 s0 (bn_shl (-1) (a8 - 1)) σ hz7 (hS9) hM (lv_sub hl [1, 2, 3, 4, 5, 6, 7, 0] rfl)
set_option maxHeartbeats 4000000 in
set_option maxRecDepth 100000 in
theorem kM_toWhole_14 {p : Program} {l : Launch} {e : Env} {s : State} {m : MethodId} {args : Array Value} {below : List Frame} {meth : Method} {c : Code} (C : pw_C p s m args meth c cM_toWhole 22 (some .long) "BitNumbersModel") {D : va_G} {ad : Nat → Nat} {A : Nat → Prop} (hK : va_K D clM (tyA ad) s) (hA : ∀ q, s.heap.size ≤ q → A q) (a1 : Int32) (a3 : Int32) (a4 : Int32) (a5 : Int64) (a7 : Int32) (a8 : Int32) (σ : MS) (hz7 : a7 = 0 ∨ a7 = 1) (hS : SM_toWhole_14 a1 a3 a4 a5 a7 a8 σ) {H : Heap} {locs : List Loc} (hM : mw D ad A s.heap H locs σ) {ls : Array Slot} (hl : lv_has ls 22 [(0, .ref (ad 0)), (1, .int a1), (3, .int a3), (4, .int a4), (5, .long a5), (7, .int a7), (8, .int a8)]) : W p l e rmM_toWhole s m args below meth c H locs 0 0 (MQ below (va_Ql (fun r u => (r, u) = fM_toWhole_14 a1 a3 a4 a5 a7 a8 σ) (mw_E D ad A) A) args s 0 0 A) (F0 m 14 ls []) := by
  obtain ⟨hx, hb, hr, hml, hown, hts, hlocks⟩ := id C
  refine lv_iload_n hx hb dM_toWhole_14 rfl (lv_at hl 1 rfl) ?_
  refine lv_lload hx hb dM_toWhole_15 (lv_at hl 4 rfl) ?_
  refine pw_call (va_runS (As := [.int a1, .long a5]) (rest := []) ⟨hx, hb, hml, hown, hts⟩ (qM_isNone l a1 a5) (va_cwS 2 hts (gS w_582 w_583 w_34 w_584) rfl rfl rfl (by decide +kernel) ⟨Nat.le_of_ble_eq_true rfl, Nat.le_of_ble_eq_true rfl⟩) ⟨pw_bT, fun U hU hW => ⟨rfl, trivial⟩⟩ rfl rfl hl.1 rfl (lv_room (Nat.le_of_ble_eq_true rfl)) dM_toWhole_17 ⟨Nat.zero_le _, Nat.zero_le _⟩) ?_
  refine lv_if_eq (tgt := 32) hx hb dM_toWhole_20 (by decide) (fun h1 => ?_) (fun h1 => ?_)
  · refine lv_iload_n hx hb dM_toWhole_32 rfl (lv_at hl 2 rfl) ?_
    refine lv_if_eq (tgt := 47) hx hb dM_toWhole_33 (by decide) (fun h2 => ?_) (fun h2 => ?_)
    · refine lv_iload hx hb dM_toWhole_47 (lv_at hl 6 rfl) ?_
      refine lv_bipush (v := 32) hx hb dM_toWhole_49 (by decide) ?_
      refine lv_icmp_ne (tgt := 60) hx hb dM_toWhole_51 (by decide) (fun h3 => ?_) (fun h3 => ?_)
      · refine lv_ldc2 hx hb hown (hts _ w_643) dM_toWhole_60 ?_
        have hS9 : (SM_toWhole_63 a1 a3 a4 a5 a7 a8 (-1) σ) := by have w9 := hS; rw [SM_toWhole_14, if_pos h1, if_pos h2, if_neg h3] at w9; exact w9
        rw [(show fM_toWhole_14 a1 a3 a4 a5 a7 a8 σ = fM_toWhole_63 a1 a3 a4 a5 a7 a8 (-1) σ by rw [fM_toWhole_14, if_pos h1, if_pos h2, if_neg h3])]
        exact kM_toWhole_63 C hK hA a1 a3 a4 a5 a7 a8 (-1) σ hz7 (hS9) hM (lv_sub hl [0, 1, 2, 3, 4, 5, 6] rfl)
      · refine lv_ldc2 hx hb hown (hts _ w_541) dM_toWhole_54 ?_
        refine lv_goto (tgt := 63) hx hb dM_toWhole_57 (by decide) ?_
        have hS9 : (SM_toWhole_63 a1 a3 a4 a5 a7 a8 4294967295 σ) := by have w9 := hS; rw [SM_toWhole_14, if_pos h1, if_pos h2, if_pos h3] at w9; exact w9
        rw [(show fM_toWhole_14 a1 a3 a4 a5 a7 a8 σ = fM_toWhole_63 a1 a3 a4 a5 a7 a8 4294967295 σ by rw [fM_toWhole_14, if_pos h1, if_pos h2, if_pos h3])]
        exact kM_toWhole_63 C hK hA a1 a3 a4 a5 a7 a8 4294967295 σ hz7 (hS9) hM (lv_sub hl [0, 1, 2, 3, 4, 5, 6] rfl)
    · refine lv_lconst (v := 1) hx hb dM_toWhole_36 (by decide) ?_
      refine lv_iload hx hb dM_toWhole_37 (lv_at hl 6 rfl) ?_
      refine lv_iconst (v := 1) hx hb dM_toWhole_39 (by decide) ?_
      refine lv_isub hx hb dM_toWhole_40 ?_
      refine lv_lshl (v := bn_shl 1 (a8 - 1)) hx hb dM_toWhole_41 rfl ?_
      refine lv_lconst (v := 1) hx hb dM_toWhole_42 (by decide) ?_
      refine lv_lsub hx hb dM_toWhole_43 ?_
      refine lv_goto (tgt := 63) hx hb dM_toWhole_44 (by decide) ?_
      have hS9 : (SM_toWhole_63 a1 a3 a4 a5 a7 a8 ((bn_shl 1 (a8 - 1)) - 1) σ) := by have w9 := hS; rw [SM_toWhole_14, if_pos h1, if_neg h2] at w9; exact w9
      rw [(show fM_toWhole_14 a1 a3 a4 a5 a7 a8 σ = fM_toWhole_63 a1 a3 a4 a5 a7 a8 ((bn_shl 1 (a8 - 1)) - 1) σ by rw [fM_toWhole_14, if_pos h1, if_neg h2])]
      exact kM_toWhole_63 C hK hA a1 a3 a4 a5 a7 a8 ((bn_shl 1 (a8 - 1)) - 1) σ hz7 (hS9) hM (lv_sub hl [0, 1, 2, 3, 4, 5, 6] rfl)
  · refine lv_aload_n hx hb dM_toWhole_23 rfl (lv_at hl 0 rfl) ?_
    refine lv_iload hx hb dM_toWhole_24 (lv_at hl 3 rfl) ?_
    refine lv_iconst (v := 3) hx hb dM_toWhole_26 (by decide) ?_
    refine lv_lconst (v := 0) hx hb dM_toWhole_27 (by decide) ?_
    refine mw_calll (F := fM_bound a4 3 0 σ) (va_runV (As := [.int a4, .int 3, .long 0]) (rest := []) ⟨hx, hb, hml, hown, hts⟩ (qM_bound l D ad a4 3 0 σ H.size) (cwV 3 hts (gV w_762 w_764 w_28 w_34 w_765) rfl rfl rfl (by decide +kernel) ⟨Nat.le_of_ble_eq_true rfl, Nat.le_of_ble_eq_true rfl⟩) (mw_preV hK hM) rfl rfl hl.1 rfl (lv_room (Nat.le_of_ble_eq_true rfl)) dM_toWhole_28 ⟨Nat.zero_le _, Nat.zero_le _⟩) hM hA (fun H locs hM => ?_)
    exact W.lret (v := (fM_bound a4 3 0 σ).1) hx hb hr (fun t ht hW => ⟨⟨(fM_bound a4 3 0 σ).1, (fM_bound a4 3 0 σ).2, rfl, by rw [(show fM_toWhole_14 a1 a3 a4 a5 a7 a8 σ = ((fM_bound a4 3 0 σ).1, (fM_bound a4 3 0 σ).2) by rw [fM_toWhole_14, if_neg h1])], by rw [ht]; exact hM.1, va_K.moved hW.alike hK, hM.2.1⟩, hM.2.2.F ht⟩) hM.2.2.2.2 dM_toWhole_31
set_option maxHeartbeats 4000000 in
set_option maxRecDepth 100000 in
theorem kM_toWhole_8 {p : Program} {l : Launch} {e : Env} {s : State} {m : MethodId} {args : Array Value} {below : List Frame} {meth : Method} {c : Code} (C : pw_C p s m args meth c cM_toWhole 22 (some .long) "BitNumbersModel") {D : va_G} {ad : Nat → Nat} {A : Nat → Prop} (hK : va_K D clM (tyA ad) s) (hA : ∀ q, s.heap.size ≤ q → A q) (a1 : Int32) (a2 : Int32) (a3 : Int32) (a4 : Int32) (a5 : Int64) (a7 : Int32) (σ : MS) (hz7 : a7 = 0 ∨ a7 = 1) (hS : SM_toWhole_8 a1 a2 a3 a4 a5 a7 σ) {H : Heap} {locs : List Loc} (hM : mw D ad A s.heap H locs σ) {ls : Array Slot} (hl : lv_has ls 22 [(0, .ref (ad 0)), (1, .int a1), (2, .int a2), (3, .int a3), (4, .int a4), (5, .long a5), (7, .int a7)]) : W p l e rmM_toWhole s m args below meth c H locs 0 0 (MQ below (va_Ql (fun r u => (r, u) = fM_toWhole_8 a1 a2 a3 a4 a5 a7 σ) (mw_E D ad A) A) args s 0 0 A) (F0 m 8 ls []) := by
  obtain ⟨hx, hb, hr, hml, hown, hts, hlocks⟩ := id C
  refine lv_iload_n hx hb dM_toWhole_8 rfl (lv_at hl 2 rfl) ?_
  refine pw_call (va_runS (As := [.int a2]) (rest := []) ⟨hx, hb, hml, hown, hts⟩ (qM_width l a2) (va_cwS 1 hts (gS w_594 w_595 w_34 w_596) rfl rfl rfl (by decide +kernel) ⟨Nat.le_of_ble_eq_true rfl, Nat.le_of_ble_eq_true rfl⟩) ⟨pw_bT, fun U hU hW => ⟨rfl, trivial⟩⟩ rfl rfl hl.1 rfl (lv_room (Nat.le_of_ble_eq_true rfl)) dM_toWhole_9 ⟨Nat.zero_le _, Nat.zero_le _⟩) ?_
  refine lv_istore (lv' := [(8, .int (fM_width a2)), (0, .ref (ad 0)), (1, .int a1), (2, .int a2), (3, .int a3), (4, .int a4), (5, .long a5), (7, .int a7)]) hx hb dM_toWhole_12 hl (by decide) rfl (fun ls hl => ?_)
  have hS9 : (SM_toWhole_14 a1 a3 a4 a5 a7 (fM_width a2) σ) := by have w9 := hS; rw [SM_toWhole_8] at w9; exact w9
  rw [(show fM_toWhole_8 a1 a2 a3 a4 a5 a7 σ = fM_toWhole_14 a1 a3 a4 a5 a7 (fM_width a2) σ by rw [fM_toWhole_8])]
  exact kM_toWhole_14 C hK hA a1 a3 a4 a5 a7 (fM_width a2) σ hz7 (hS9) hM (lv_sub hl [1, 2, 4, 5, 6, 7, 0] rfl)
set_option maxHeartbeats 4000000 in
set_option maxRecDepth 100000 in
theorem kM_toWhole_0 {p : Program} {l : Launch} {e : Env} {s : State} {m : MethodId} {args : Array Value} {below : List Frame} {meth : Method} {c : Code} (C : pw_C p s m args meth c cM_toWhole 22 (some .long) "BitNumbersModel") {D : va_G} {ad : Nat → Nat} {A : Nat → Prop} (hK : va_K D clM (tyA ad) s) (hA : ∀ q, s.heap.size ≤ q → A q) (a1 : Int32) (a2 : Int32) (a3 : Int32) (a4 : Int32) (a5 : Int64) (σ : MS) (hS : SM_toWhole a1 a2 a3 a4 a5 σ) {H : Heap} {locs : List Loc} (hM : mw D ad A s.heap H locs σ) {ls : Array Slot} (hl : lv_has ls 22 [(0, .ref (ad 0)), (1, .int a1), (2, .int a2), (3, .int a3), (4, .int a4), (5, .long a5)]) : W p l e rmM_toWhole s m args below meth c H locs 0 0 (MQ below (va_Ql (fun r u => (r, u) = fM_toWhole a1 a2 a3 a4 a5 σ) (mw_E D ad A) A) args s 0 0 A) (F0 m 0 ls []) := by
  obtain ⟨hx, hb, hr, hml, hown, hts, hlocks⟩ := id C
  refine lv_iload_n hx hb dM_toWhole_0 rfl (lv_at hl 1 rfl) ?_
  refine lv_lload hx hb dM_toWhole_1 (lv_at hl 5 rfl) ?_
  refine pw_call (va_runS (As := [.int a1, .long a5]) (rest := []) ⟨hx, hb, hml, hown, hts⟩ (qM_isMinus l a1 a5) (va_cwS 2 hts (gS w_615 w_616 w_34 w_617) rfl rfl rfl (by decide +kernel) ⟨Nat.le_of_ble_eq_true rfl, Nat.le_of_ble_eq_true rfl⟩) ⟨pw_bT, fun U hU hW => ⟨rfl, trivial⟩⟩ rfl rfl hl.1 rfl (lv_room (Nat.le_of_ble_eq_true rfl)) dM_toWhole_3 ⟨Nat.zero_le _, Nat.zero_le _⟩) ?_
  refine lv_istore (lv' := [(7, .int (fM_isMinus a1 a5)), (0, .ref (ad 0)), (1, .int a1), (2, .int a2), (3, .int a3), (4, .int a4), (5, .long a5)]) hx hb dM_toWhole_6 hl (by decide) rfl (fun ls hl => ?_)
  have hS9 : (SM_toWhole_8 a1 a2 a3 a4 a5 (fM_isMinus a1 a5) σ) := by have w9 := hS; rw [SM_toWhole] at w9; exact w9
  rw [(show fM_toWhole a1 a2 a3 a4 a5 σ = fM_toWhole_8 a1 a2 a3 a4 a5 (fM_isMinus a1 a5) σ by rw [fM_toWhole])]
  exact kM_toWhole_8 C hK hA a1 a2 a3 a4 a5 (fM_isMinus a1 a5) σ (zM_isMinus a1 a5) (hS9) hM (lv_sub hl [1, 2, 3, 4, 5, 6, 0] rfl)
set_option maxHeartbeats 4000000 in
set_option maxRecDepth 100000 in
theorem qM_toWhole (l : Launch) (D : va_G) (ad : Nat → Nat) (a1 : Int32) (a2 : Int32) (a3 : Int32) (a4 : Int32) (a5 : Int64) (σ : MS) (sz : Nat) (hS : SM_toWhole a1 a2 a3 a4 a5 σ) : Met l yM_toWhole wsM_toWhole rmM_toWhole (va_Pc [.ref (ad 0), .int a1, .int a2, .int a3, .int a4, .long a5] (mw_B D ad σ sz)) (va_Ql (fun r u => (r, u) = fM_toWhole a1 a2 a3 a4 a5 σ) (mw_E D ad (va_A (mw_c ad σ) sz)) (va_A (mw_c ad σ) sz)) 0 0 (va_A (mw_c ad σ) sz) := by
  refine Met.ofW (cc := cM_toWhole) (maxL := 22) (ret := (some .long)) (by decide) rfl ?_
  intro p e s m args below meth c s₁ B hml hv
  obtain ⟨rfl, hsz, hP, hK, hD⟩ := hv
  have hts0 := atoms_spec (ws := wsM_toWhole) B.pre
  have hts := fun (w : Cond) (h : w ∈ aw) => hts0 w (List.mem_cons_of_mem _ h)
  have hown : s.vm.findClass "BitNumbersModel" = some m.cls := findClass_of_methodNamed B.named
  subst hsz
  have hl := lv_entry ([.ref (ad 0), .int a1, .int a2, .int a3, .int a4, .long a5]) (n := 22) (Nat.le_of_ble_eq_true rfl)
  rw [lg_entry_eq]
  generalize (lg_sl ([.ref (ad 0), .int a1, .int a2, .int a3, .int a4, .long a5]) ++ List.replicate (22 - (lg_sl ([.ref (ad 0), .int a1, .int a2, .int a3, .int a4, .long a5])).length) Slot.unset).toArray = ls at hl ⊢
  exact kM_toWhole_0 ⟨B.exec, B.bytes, B.returns, hml, hown, hts, B.notSynchronized⟩ hK (fun q h => Or.inr h) a1 a2 a3 a4 a5 σ hS ⟨hP, hD.self, va_S.rf⟩ hl

set_option maxHeartbeats 4000000 in
set_option maxRecDepth 100000 in
theorem kM_fromWhole_52 {p : Program} {l : Launch} {e : Env} {s : State} {m : MethodId} {args : Array Value} {below : List Frame} {meth : Method} {c : Code} (C : pw_C p s m args meth c cM_fromWhole 9 (some .long) "BitNumbersModel") {D : va_G} {ad : Nat → Nat} {A : Nat → Prop} (hK : va_K D clM (tyA ad) s) (hA : ∀ q, s.heap.size ≤ q → A q) (s0 : Int64) (s1 : Int32) (s2 : Int32) (σ : MS) (hzs1 : s1 = 0 ∨ s1 = 1) (hS : SM_fromWhole_52 s0 s1 s2 σ) {H : Heap} {locs : List Loc} (hM : mw D ad A s.heap H locs σ) {ls : Array Slot} (hl : lv_has ls 9 []) : W p l e rmM_fromWhole s m args below meth c H locs 0 0 (MQ below (va_Ql (fun r u => (r, u) = fM_fromWhole_52 s0 s1 s2 σ) (mw_E D ad A) A) args s 0 0 A) (F0 m 52 ls [.long s0, .int s1, .int s2, .ref (ad 0)]) := by
  obtain ⟨hx, hb, hr, hml, hown, hts, hlocks⟩ := id C
  refine lv_iconst (v := 0) hx hb dM_fromWhole_52 (by decide) ?_
  have hS53 : ((SM_valueOf s2 s1 s0 0 σ) ∧ True) := by have w9 := hS; rw [SM_fromWhole_52] at w9; exact w9
  refine mw_calll (F := fM_valueOf s2 s1 s0 0 σ) (va_runV (As := [.int s2, .int s1, .long s0, .int 0]) (rest := []) ⟨hx, hb, hml, hown, hts⟩ (qM_valueOf l D ad s2 s1 s0 0 σ H.size hS53.1) (cwV 4 hts (gV w_750 w_752 w_25 w_34 w_753) rfl rfl rfl (by decide +kernel) ⟨Nat.le_of_ble_eq_true rfl, Nat.le_of_ble_eq_true rfl⟩) (mw_preV hK hM) rfl rfl hl.1 rfl (lv_room (Nat.le_of_ble_eq_true rfl)) dM_fromWhole_53 ⟨Nat.zero_le _, Nat.zero_le _⟩) hM hA (fun H locs hM => ?_)
  exact W.lret (v := (fM_valueOf s2 s1 s0 0 σ).1) hx hb hr (fun t ht hW => ⟨⟨(fM_valueOf s2 s1 s0 0 σ).1, (fM_valueOf s2 s1 s0 0 σ).2, rfl, by rw [(show fM_fromWhole_52 s0 s1 s2 σ = ((fM_valueOf s2 s1 s0 0 σ).1, (fM_valueOf s2 s1 s0 0 σ).2) by rw [fM_fromWhole_52])], by rw [ht]; exact hM.1, va_K.moved hW.alike hK, hM.2.1⟩, hM.2.2.F ht⟩) hM.2.2.2.2 dM_fromWhole_56
set_option maxHeartbeats 4000000 in
set_option maxRecDepth 100000 in
theorem kM_fromWhole_24 {p : Program} {l : Launch} {e : Env} {s : State} {m : MethodId} {args : Array Value} {below : List Frame} {meth : Method} {c : Code} (C : pw_C p s m args meth c cM_fromWhole 9 (some .long) "BitNumbersModel") {D : va_G} {ad : Nat → Nat} {A : Nat → Prop} (hK : va_K D clM (tyA ad) s) (hA : ∀ q, s.heap.size ≤ q → A q) (a2 : Int32) (a3 : Int32) (a4 : Int64) (a6 : Int64) (s0 : Int32) (σ : MS) (hzs0 : s0 = 0 ∨ s0 = 1) (hS : SM_fromWhole_24 a2 a3 a4 a6 s0 σ) {H : Heap} {locs : List Loc} (hM : mw D ad A s.heap H locs σ) {ls : Array Slot} (hl : lv_has ls 9 [(0, .ref (ad 0)), (2, .int a2), (3, .int a3), (4, .long a4), (6, .long a6)]) : W p l e rmM_fromWhole s m args below meth c H locs 0 0 (MQ below (va_Ql (fun r u => (r, u) = fM_fromWhole_24 a2 a3 a4 a6 s0 σ) (mw_E D ad A) A) args s 0 0 A) (F0 m 24 ls [.int s0]) := by
  obtain ⟨hx, hb, hr, hml, hown, hts, hlocks⟩ := id C
  refine lv_istore (lv' := [(8, .int s0), (0, .ref (ad 0)), (2, .int a2), (3, .int a3), (4, .long a4), (6, .long a6)]) hx hb dM_fromWhole_24 hl (by decide) rfl (fun ls hl => ?_)
  refine lv_aload_n hx hb dM_fromWhole_26 rfl (lv_at hl 1 rfl) ?_
  refine lv_iload_n hx hb dM_fromWhole_27 rfl (lv_at hl 2 rfl) ?_
  refine lv_iload hx hb dM_fromWhole_28 (lv_at hl 0 rfl) ?_
  refine lv_iload hx hb dM_fromWhole_30 (lv_at hl 0 rfl) ?_
  refine lv_if_eq (tgt := 41) hx hb dM_fromWhole_32 (by decide) (fun h1 => ?_) (fun h1 => ?_)
  · refine lv_iload_n hx hb dM_fromWhole_41 rfl (lv_at hl 3 rfl) ?_
    refine lv_if_eq (tgt := 50) hx hb dM_fromWhole_42 (by decide) (fun h2 => ?_) (fun h2 => ?_)
    · refine lv_lload hx hb dM_fromWhole_50 (lv_at hl 4 rfl) ?_
      have hS9 : (SM_fromWhole_52 a4 s0 a2 σ) := by have w9 := hS; rw [SM_fromWhole_24, if_pos h1, if_pos h2] at w9; exact w9
      rw [(show fM_fromWhole_24 a2 a3 a4 a6 s0 σ = fM_fromWhole_52 a4 s0 a2 σ by rw [fM_fromWhole_24, if_pos h1, if_pos h2])]
      exact kM_fromWhole_52 C hK hA a4 s0 a2 σ hzs0 (hS9) hM (lv_sub hl [] rfl)
    · refine lv_lload hx hb dM_fromWhole_45 (lv_at hl 5 rfl) ?_
      refine lv_goto (tgt := 52) hx hb dM_fromWhole_47 (by decide) ?_
      have hS9 : (SM_fromWhole_52 a6 s0 a2 σ) := by have w9 := hS; rw [SM_fromWhole_24, if_pos h1, if_neg h2] at w9; exact w9
      rw [(show fM_fromWhole_24 a2 a3 a4 a6 s0 σ = fM_fromWhole_52 a6 s0 a2 σ by rw [fM_fromWhole_24, if_pos h1, if_neg h2])]
      exact kM_fromWhole_52 C hK hA a6 s0 a2 σ hzs0 (hS9) hM (lv_sub hl [] rfl)
  · refine lv_lload hx hb dM_fromWhole_35 (lv_at hl 5 rfl) ?_
    refine lv_lneg hx hb dM_fromWhole_37 ?_
    refine lv_goto (tgt := 52) hx hb dM_fromWhole_38 (by decide) ?_
    have hS9 : (SM_fromWhole_52 (-a6) s0 a2 σ) := by have w9 := hS; rw [SM_fromWhole_24, if_neg h1] at w9; exact w9
    rw [(show fM_fromWhole_24 a2 a3 a4 a6 s0 σ = fM_fromWhole_52 (-a6) s0 a2 σ by rw [fM_fromWhole_24, if_neg h1])]
    exact kM_fromWhole_52 C hK hA (-a6) s0 a2 σ hzs0 (hS9) hM (lv_sub hl [] rfl)
set_option maxHeartbeats 4000000 in
set_option maxRecDepth 100000 in
theorem kM_fromWhole_23 {p : Program} {l : Launch} {e : Env} {s : State} {m : MethodId} {args : Array Value} {below : List Frame} {meth : Method} {c : Code} (C : pw_C p s m args meth c cM_fromWhole 9 (some .long) "BitNumbersModel") {D : va_G} {ad : Nat → Nat} {A : Nat → Prop} (hK : va_K D clM (tyA ad) s) (hA : ∀ q, s.heap.size ≤ q → A q) (a2 : Int32) (a3 : Int32) (a4 : Int64) (a6 : Int64) (σ : MS) (hS : SM_fromWhole_23 a2 a3 a4 a6 σ) {H : Heap} {locs : List Loc} (hM : mw D ad A s.heap H locs σ) {ls : Array Slot} (hl : lv_has ls 9 [(0, .ref (ad 0)), (2, .int a2), (3, .int a3), (4, .long a4), (6, .long a6)]) : W p l e rmM_fromWhole s m args below meth c H locs 0 0 (MQ below (va_Ql (fun r u => (r, u) = fM_fromWhole_23 a2 a3 a4 a6 σ) (mw_E D ad A) A) args s 0 0 A) (F0 m 23 ls []) := by
  obtain ⟨hx, hb, hr, hml, hown, hts, hlocks⟩ := id C
  refine lv_iconst (v := 0) hx hb dM_fromWhole_23 (by decide) ?_
  have hS9 : (SM_fromWhole_24 a2 a3 a4 a6 0 σ) := by have w9 := hS; rw [SM_fromWhole_23] at w9; exact w9
  rw [(show fM_fromWhole_23 a2 a3 a4 a6 σ = fM_fromWhole_24 a2 a3 a4 a6 0 σ by rw [fM_fromWhole_23])]
  exact kM_fromWhole_24 C hK hA a2 a3 a4 a6 0 σ (Or.inl rfl) (hS9) hM (lv_sub hl [0, 1, 2, 3, 4] rfl)
set_option maxHeartbeats 4000000 in
set_option maxRecDepth 100000 in
theorem kM_fromWhole_8 {p : Program} {l : Launch} {e : Env} {s : State} {m : MethodId} {args : Array Value} {below : List Frame} {meth : Method} {c : Code} (C : pw_C p s m args meth c cM_fromWhole 9 (some .long) "BitNumbersModel") {D : va_G} {ad : Nat → Nat} {A : Nat → Prop} (hK : va_K D clM (tyA ad) s) (hA : ∀ q, s.heap.size ≤ q → A q) (a2 : Int32) (a3 : Int32) (a4 : Int64) (a6 : Int64) (σ : MS) (hS : SM_fromWhole_8 a2 a3 a4 a6 σ) {H : Heap} {locs : List Loc} (hM : mw D ad A s.heap H locs σ) {ls : Array Slot} (hl : lv_has ls 9 [(0, .ref (ad 0)), (2, .int a2), (3, .int a3), (4, .long a4), (6, .long a6)]) : W p l e rmM_fromWhole s m args below meth c H locs 0 0 (MQ below (va_Ql (fun r u => (r, u) = fM_fromWhole_8 a2 a3 a4 a6 σ) (mw_E D ad A) A) args s 0 0 A) (F0 m 8 ls []) := by
  obtain ⟨hx, hb, hr, hml, hown, hts, hlocks⟩ := id C
  refine lv_iload_n hx hb dM_fromWhole_8 rfl (lv_at hl 2 rfl) ?_
  refine lv_if_eq (tgt := 23) hx hb dM_fromWhole_9 (by decide) (fun h1 => ?_) (fun h1 => ?_)
  · have hS9 : (SM_fromWhole_23 a2 a3 a4 a6 σ) := by have w9 := hS; rw [SM_fromWhole_8, if_pos h1] at w9; exact w9
    rw [(show fM_fromWhole_8 a2 a3 a4 a6 σ = fM_fromWhole_23 a2 a3 a4 a6 σ by rw [fM_fromWhole_8, if_pos h1])]
    exact kM_fromWhole_23 C hK hA a2 a3 a4 a6 σ (hS9) hM (lv_sub hl [0, 1, 2, 3, 4] rfl)
  · refine lv_lload hx hb dM_fromWhole_12 (lv_at hl 4 rfl) ?_
    refine lv_lconst (v := 0) hx hb dM_fromWhole_14 (by decide) ?_
    refine W.lcmp hx hb dM_fromWhole_15 ?_
    refine lv_if_ge (tgt := 23) hx hb dM_fromWhole_16 (by decide) (fun h2 => ?_) (fun h2 => ?_)
    · have h2 : 0 ≤ a6 := (lg_cmp_ge _ _).mp h2
      have hS9 : (SM_fromWhole_23 a2 a3 a4 a6 σ) := by have w9 := hS; rw [SM_fromWhole_8, if_neg h1, if_pos h2] at w9; exact w9
      rw [(show fM_fromWhole_8 a2 a3 a4 a6 σ = fM_fromWhole_23 a2 a3 a4 a6 σ by rw [fM_fromWhole_8, if_neg h1, if_pos h2])]
      exact kM_fromWhole_23 C hK hA a2 a3 a4 a6 σ (hS9) hM (lv_sub hl [0, 1, 2, 3, 4] rfl)
    · have h2 : ¬ (0 ≤ a6) := fun w => h2 ((lg_cmp_ge _ _).mpr w)
      refine lv_iconst (v := 1) hx hb dM_fromWhole_19 (by decide) ?_
      refine lv_goto (tgt := 24) hx hb dM_fromWhole_20 (by decide) ?_
      have hS9 : (SM_fromWhole_24 a2 a3 a4 a6 1 σ) := by have w9 := hS; rw [SM_fromWhole_8, if_neg h1, if_neg h2] at w9; exact w9
      rw [(show fM_fromWhole_8 a2 a3 a4 a6 σ = fM_fromWhole_24 a2 a3 a4 a6 1 σ by rw [fM_fromWhole_8, if_neg h1, if_neg h2])]
      exact kM_fromWhole_24 C hK hA a2 a3 a4 a6 1 σ (Or.inr rfl) (hS9) hM (lv_sub hl [0, 1, 2, 3, 4] rfl)
set_option maxHeartbeats 4000000 in
set_option maxRecDepth 100000 in
theorem kM_fromWhole_0 {p : Program} {l : Launch} {e : Env} {s : State} {m : MethodId} {args : Array Value} {below : List Frame} {meth : Method} {c : Code} (C : pw_C p s m args meth c cM_fromWhole 9 (some .long) "BitNumbersModel") {D : va_G} {ad : Nat → Nat} {A : Nat → Prop} (hK : va_K D clM (tyA ad) s) (hA : ∀ q, s.heap.size ≤ q → A q) (a1 : Int32) (a2 : Int32) (a3 : Int32) (a4 : Int64) (σ : MS) (hS : SM_fromWhole a1 a2 a3 a4 σ) {H : Heap} {locs : List Loc} (hM : mw D ad A s.heap H locs σ) {ls : Array Slot} (hl : lv_has ls 9 [(0, .ref (ad 0)), (1, .int a1), (2, .int a2), (3, .int a3), (4, .long a4)]) : W p l e rmM_fromWhole s m args below meth c H locs 0 0 (MQ below (va_Ql (fun r u => (r, u) = fM_fromWhole a1 a2 a3 a4 σ) (mw_E D ad A) A) args s 0 0 A) (F0 m 0 ls []) := by
  obtain ⟨hx, hb, hr, hml, hown, hts, hlocks⟩ := id C
  refine lv_iload_n hx hb dM_fromWhole_0 rfl (lv_at hl 1 rfl) ?_
  refine lv_lload hx hb dM_fromWhole_1 (lv_at hl 4 rfl) ?_
  refine pw_call (va_runS (As := [.int a1, .long a4]) (rest := []) ⟨hx, hb, hml, hown, hts⟩ (qM_withSign l a1 a4) (va_cwS 2 hts (gS w_572 w_573 w_34 w_574) rfl rfl rfl (by decide +kernel) ⟨Nat.le_of_ble_eq_true rfl, Nat.le_of_ble_eq_true rfl⟩) ⟨pw_bT, fun U hU hW => ⟨rfl, trivial⟩⟩ rfl rfl hl.1 rfl (lv_room (Nat.le_of_ble_eq_true rfl)) dM_fromWhole_3 ⟨Nat.zero_le _, Nat.zero_le _⟩) ?_
  refine lv_lstore (lv' := [(6, .long (fM_withSign a1 a4)), (0, .ref (ad 0)), (1, .int a1), (2, .int a2), (3, .int a3), (4, .long a4)]) hx hb dM_fromWhole_6 hl (by decide) rfl (fun ls hl => ?_)
  have hS9 : (SM_fromWhole_8 a2 a3 a4 (fM_withSign a1 a4) σ) := by have w9 := hS; rw [SM_fromWhole] at w9; exact w9
  rw [(show fM_fromWhole a1 a2 a3 a4 σ = fM_fromWhole_8 a2 a3 a4 (fM_withSign a1 a4) σ by rw [fM_fromWhole])]
  exact kM_fromWhole_8 C hK hA a2 a3 a4 (fM_withSign a1 a4) σ (hS9) hM (lv_sub hl [1, 3, 4, 5, 0] rfl)
set_option maxHeartbeats 4000000 in
set_option maxRecDepth 100000 in
theorem qM_fromWhole (l : Launch) (D : va_G) (ad : Nat → Nat) (a1 : Int32) (a2 : Int32) (a3 : Int32) (a4 : Int64) (σ : MS) (sz : Nat) (hS : SM_fromWhole a1 a2 a3 a4 σ) : Met l yM_fromWhole wsM_fromWhole rmM_fromWhole (va_Pc [.ref (ad 0), .int a1, .int a2, .int a3, .long a4] (mw_B D ad σ sz)) (va_Ql (fun r u => (r, u) = fM_fromWhole a1 a2 a3 a4 σ) (mw_E D ad (va_A (mw_c ad σ) sz)) (va_A (mw_c ad σ) sz)) 0 0 (va_A (mw_c ad σ) sz) := by
  refine Met.ofW (cc := cM_fromWhole) (maxL := 9) (ret := (some .long)) (by decide) rfl ?_
  intro p e s m args below meth c s₁ B hml hv
  obtain ⟨rfl, hsz, hP, hK, hD⟩ := hv
  have hts0 := atoms_spec (ws := wsM_fromWhole) B.pre
  have hts := fun (w : Cond) (h : w ∈ aw) => hts0 w (List.mem_cons_of_mem _ h)
  have hown : s.vm.findClass "BitNumbersModel" = some m.cls := findClass_of_methodNamed B.named
  subst hsz
  have hl := lv_entry ([.ref (ad 0), .int a1, .int a2, .int a3, .long a4]) (n := 9) (Nat.le_of_ble_eq_true rfl)
  rw [lg_entry_eq]
  generalize (lg_sl ([.ref (ad 0), .int a1, .int a2, .int a3, .long a4]) ++ List.replicate (9 - (lg_sl ([.ref (ad 0), .int a1, .int a2, .int a3, .long a4])).length) Slot.unset).toArray = ls at hl ⊢
  exact kM_fromWhole_0 ⟨B.exec, B.bytes, B.returns, hml, hown, hts, B.notSynchronized⟩ hK (fun q h => Or.inr h) a1 a2 a3 a4 σ hS ⟨hP, hD.self, va_S.rf⟩ hl

set_option maxHeartbeats 4000000 in
set_option maxRecDepth 100000 in
theorem kM_between_20 {p : Program} {l : Launch} {e : Env} {s : State} {m : MethodId} {args : Array Value} {below : List Frame} {meth : Method} {c : Code} (C : pw_C p s m args meth c cM_between 6 (some .long) "BitNumbersModel") {D : va_G} {ad : Nat → Nat} {A : Nat → Prop} (hK : va_K D clM (tyA ad) s) (hA : ∀ q, s.heap.size ≤ q → A q) (a1 : Int32) (a2 : Int32) (a3 : Int64) (a5 : Int32) (σ : MS) (hz5 : a5 = 0 ∨ a5 = 1) (hS : SM_between_20 a1 a2 a3 a5 σ) {H : Heap} {locs : List Loc} (hM : mw D ad A s.heap H locs σ) {ls : Array Slot} (hl : lv_has ls 6 [(0, .ref (ad 0)), (1, .int a1), (2, .int a2), (3, .long a3), (5, .int a5)]) : W p l e rmM_between s m args below meth c H locs 0 0 (MQ below (va_Ql (fun r u => (r, u) = fM_between_20 a1 a2 a3 a5 σ) (mw_E D ad A) A) args s 0 0 A) (F0 m 20 ls []) := by
  obtain ⟨hx, hb, hr, hml, hown, hts, hlocks⟩ := id C
  refine lv_iload_n hx hb dM_between_20 rfl (lv_at hl 1 rfl) ?_
  refine lv_lload_n hx hb dM_between_21 rfl (lv_at hl 3 rfl) ?_
  refine pw_call (va_runS (As := [.int a1, .long a3]) (rest := []) ⟨hx, hb, hml, hown, hts⟩ (qM_isInfinite l a1 a3) (va_cwS 2 hts (gS w_660 w_661 w_34 w_662) rfl rfl rfl (by decide +kernel) ⟨Nat.le_of_ble_eq_true rfl, Nat.le_of_ble_eq_true rfl⟩) ⟨pw_bT, fun U hU hW => ⟨rfl, trivial⟩⟩ rfl rfl hl.1 rfl (lv_room (Nat.le_of_ble_eq_true rfl)) dM_between_22 ⟨Nat.zero_le _, Nat.zero_le _⟩) ?_
  refine lv_if_eq (tgt := 39) hx hb dM_between_25 (by decide) (fun h1 => ?_) (fun h1 => ?_)
  · refine lv_aload_n hx hb dM_between_39 rfl (lv_at hl 0 rfl) ?_
    refine lv_iload_n hx hb dM_between_40 rfl (lv_at hl 2 rfl) ?_
    refine lv_iload hx hb dM_between_41 (lv_at hl 4 rfl) ?_
    refine lv_iload_n hx hb dM_between_43 rfl (lv_at hl 1 rfl) ?_
    refine lv_lload_n hx hb dM_between_44 rfl (lv_at hl 3 rfl) ?_
    refine pw_call (va_runS (As := [.int a1, .long a3]) (rest := [.int a5, .int a2, .ref (ad 0)]) ⟨hx, hb, hml, hown, hts⟩ (qM_significand l a1 a3) (va_cwS 2 hts (gS w_663 w_664 w_34 w_665) rfl rfl rfl (by decide +kernel) ⟨Nat.le_of_ble_eq_true rfl, Nat.le_of_ble_eq_true rfl⟩) ⟨pw_bT, fun U hU hW => ⟨rfl, trivial⟩⟩ rfl rfl hl.1 rfl (lv_room (Nat.le_of_ble_eq_true rfl)) dM_between_45 ⟨Nat.zero_le _, Nat.zero_le _⟩) ?_
    refine lv_iload_n hx hb dM_between_48 rfl (lv_at hl 1 rfl) ?_
    refine lv_lload_n hx hb dM_between_49 rfl (lv_at hl 3 rfl) ?_
    refine pw_call (va_runS (As := [.int a1, .long a3]) (rest := [.long (fM_significand a1 a3), .int a5, .int a2, .ref (ad 0)]) ⟨hx, hb, hml, hown, hts⟩ (qM_scaleOf l a1 a3) (va_cwS 2 hts (gS w_666 w_667 w_34 w_668) rfl rfl rfl (by decide +kernel) ⟨Nat.le_of_ble_eq_true rfl, Nat.le_of_ble_eq_true rfl⟩) ⟨pw_bT, fun U hU hW => ⟨rfl, trivial⟩⟩ rfl rfl hl.1 rfl (lv_room (Nat.le_of_ble_eq_true rfl)) dM_between_50 ⟨Nat.zero_le _, Nat.zero_le _⟩) ?_
    have hS53 : ((SM_valueOf a2 a5 (fM_significand a1 a3) (fM_scaleOf a1 a3) σ) ∧ True) := by have w9 := hS; rw [SM_between_20, if_pos h1] at w9; exact w9
    refine mw_calll (F := fM_valueOf a2 a5 (fM_significand a1 a3) (fM_scaleOf a1 a3) σ) (va_runV (As := [.int a2, .int a5, .long (fM_significand a1 a3), .int (fM_scaleOf a1 a3)]) (rest := []) ⟨hx, hb, hml, hown, hts⟩ (qM_valueOf l D ad a2 a5 (fM_significand a1 a3) (fM_scaleOf a1 a3) σ H.size hS53.1) (cwV 4 hts (gV w_750 w_752 w_25 w_34 w_753) rfl rfl rfl (by decide +kernel) ⟨Nat.le_of_ble_eq_true rfl, Nat.le_of_ble_eq_true rfl⟩) (mw_preV hK hM) rfl rfl hl.1 rfl (lv_room (Nat.le_of_ble_eq_true rfl)) dM_between_53 ⟨Nat.zero_le _, Nat.zero_le _⟩) hM hA (fun H locs hM => ?_)
    exact W.lret (v := (fM_valueOf a2 a5 (fM_significand a1 a3) (fM_scaleOf a1 a3) σ).1) hx hb hr (fun t ht hW => ⟨⟨(fM_valueOf a2 a5 (fM_significand a1 a3) (fM_scaleOf a1 a3) σ).1, (fM_valueOf a2 a5 (fM_significand a1 a3) (fM_scaleOf a1 a3) σ).2, rfl, by rw [(show fM_between_20 a1 a2 a3 a5 σ = ((fM_valueOf a2 a5 (fM_significand a1 a3) (fM_scaleOf a1 a3) σ).1, (fM_valueOf a2 a5 (fM_significand a1 a3) (fM_scaleOf a1 a3) σ).2) by rw [fM_between_20, if_pos h1])], by rw [ht]; exact hM.1, va_K.moved hW.alike hK, hM.2.1⟩, hM.2.2.F ht⟩) hM.2.2.2.2 dM_between_56
  · refine lv_iload_n hx hb dM_between_28 rfl (lv_at hl 2 rfl) ?_
    refine lv_iload hx hb dM_between_29 (lv_at hl 4 rfl) ?_
    refine lv_iload_n hx hb dM_between_31 rfl (lv_at hl 2 rfl) ?_
    refine pw_call (va_runS (As := [.int a2]) (rest := [.int a5, .int a2]) ⟨hx, hb, hml, hown, hts⟩ (qM_infinite l a2) (va_cwS 1 hts (gS w_700 w_701 w_34 w_702) rfl rfl rfl (by decide +kernel) ⟨Nat.le_of_ble_eq_true rfl, Nat.le_of_ble_eq_true rfl⟩) ⟨pw_bT, fun U hU hW => ⟨rfl, trivial⟩⟩ rfl rfl hl.1 rfl (lv_room (Nat.le_of_ble_eq_true rfl)) dM_between_32 ⟨Nat.zero_le _, Nat.zero_le _⟩) ?_
    refine pw_call (va_runS (As := [.int a2, .int a5, .long (fM_infinite a2)]) (rest := []) ⟨hx, hb, hml, hown, hts⟩ (qM_signed l a2 a5 (fM_infinite a2)) (va_cwS 3 hts (gS w_648 w_649 w_34 w_650) rfl rfl rfl (by decide +kernel) ⟨Nat.le_of_ble_eq_true rfl, Nat.le_of_ble_eq_true rfl⟩) ⟨pw_bT, fun U hU hW => ⟨rfl, trivial⟩⟩ rfl rfl hl.1 rfl (lv_room (Nat.le_of_ble_eq_true rfl)) dM_between_35 ⟨Nat.zero_le _, Nat.zero_le _⟩) ?_
    exact W.lret (v := fM_signed a2 a5 (fM_infinite a2)) hx hb hr (fun t ht hW => ⟨⟨fM_signed a2 a5 (fM_infinite a2), σ, rfl, by rw [(show fM_between_20 a1 a2 a3 a5 σ = (fM_signed a2 a5 (fM_infinite a2), σ) by rw [fM_between_20, if_neg h1])], by rw [ht]; exact hM.1, va_K.moved hW.alike hK, hM.2.1⟩, hM.2.2.F ht⟩) hM.2.2.2.2 dM_between_38
set_option maxHeartbeats 4000000 in
set_option maxRecDepth 100000 in
theorem kM_between_0 {p : Program} {l : Launch} {e : Env} {s : State} {m : MethodId} {args : Array Value} {below : List Frame} {meth : Method} {c : Code} (C : pw_C p s m args meth c cM_between 6 (some .long) "BitNumbersModel") {D : va_G} {ad : Nat → Nat} {A : Nat → Prop} (hK : va_K D clM (tyA ad) s) (hA : ∀ q, s.heap.size ≤ q → A q) (a1 : Int32) (a2 : Int32) (a3 : Int64) (σ : MS) (hS : SM_between a1 a2 a3 σ) {H : Heap} {locs : List Loc} (hM : mw D ad A s.heap H locs σ) {ls : Array Slot} (hl : lv_has ls 6 [(0, .ref (ad 0)), (1, .int a1), (2, .int a2), (3, .long a3)]) : W p l e rmM_between s m args below meth c H locs 0 0 (MQ below (va_Ql (fun r u => (r, u) = fM_between a1 a2 a3 σ) (mw_E D ad A) A) args s 0 0 A) (F0 m 0 ls []) := by
  obtain ⟨hx, hb, hr, hml, hown, hts, hlocks⟩ := id C
  refine lv_iload_n hx hb dM_between_0 rfl (lv_at hl 1 rfl) ?_
  refine lv_lload_n hx hb dM_between_1 rfl (lv_at hl 3 rfl) ?_
  refine pw_call (va_runS (As := [.int a1, .long a3]) (rest := []) ⟨hx, hb, hml, hown, hts⟩ (qM_isNone l a1 a3) (va_cwS 2 hts (gS w_582 w_583 w_34 w_584) rfl rfl rfl (by decide +kernel) ⟨Nat.le_of_ble_eq_true rfl, Nat.le_of_ble_eq_true rfl⟩) ⟨pw_bT, fun U hU hW => ⟨rfl, trivial⟩⟩ rfl rfl hl.1 rfl (lv_room (Nat.le_of_ble_eq_true rfl)) dM_between_2 ⟨Nat.zero_le _, Nat.zero_le _⟩) ?_
  refine lv_if_eq (tgt := 13) hx hb dM_between_5 (by decide) (fun h1 => ?_) (fun h1 => ?_)
  · refine lv_iload_n hx hb dM_between_13 rfl (lv_at hl 1 rfl) ?_
    refine lv_lload_n hx hb dM_between_14 rfl (lv_at hl 3 rfl) ?_
    refine pw_call (va_runS (As := [.int a1, .long a3]) (rest := []) ⟨hx, hb, hml, hown, hts⟩ (qM_isMinus l a1 a3) (va_cwS 2 hts (gS w_615 w_616 w_34 w_617) rfl rfl rfl (by decide +kernel) ⟨Nat.le_of_ble_eq_true rfl, Nat.le_of_ble_eq_true rfl⟩) ⟨pw_bT, fun U hU hW => ⟨rfl, trivial⟩⟩ rfl rfl hl.1 rfl (lv_room (Nat.le_of_ble_eq_true rfl)) dM_between_15 ⟨Nat.zero_le _, Nat.zero_le _⟩) ?_
    refine lv_istore (lv' := [(5, .int (fM_isMinus a1 a3)), (0, .ref (ad 0)), (1, .int a1), (2, .int a2), (3, .long a3)]) hx hb dM_between_18 hl (by decide) rfl (fun ls hl => ?_)
    have hS9 : (SM_between_20 a1 a2 a3 (fM_isMinus a1 a3) σ) := by have w9 := hS; rw [SM_between, if_pos h1] at w9; exact w9
    rw [(show fM_between a1 a2 a3 σ = fM_between_20 a1 a2 a3 (fM_isMinus a1 a3) σ by rw [fM_between, if_pos h1])]
    exact kM_between_20 C hK hA a1 a2 a3 (fM_isMinus a1 a3) σ (zM_isMinus a1 a3) (hS9) hM (lv_sub hl [1, 2, 3, 4, 0] rfl)
  · refine lv_iload_n hx hb dM_between_8 rfl (lv_at hl 2 rfl) ?_
    refine pw_call (va_runS (As := [.int a2]) (rest := []) ⟨hx, hb, hml, hown, hts⟩ (qM_theNone l a2) (va_cwS 1 hts (gS w_651 w_652 w_34 w_653) rfl rfl rfl (by decide +kernel) ⟨Nat.le_of_ble_eq_true rfl, Nat.le_of_ble_eq_true rfl⟩) ⟨pw_bT, fun U hU hW => ⟨rfl, trivial⟩⟩ rfl rfl hl.1 rfl (lv_room (Nat.le_of_ble_eq_true rfl)) dM_between_9 ⟨Nat.zero_le _, Nat.zero_le _⟩) ?_
    exact W.lret (v := fM_theNone a2) hx hb hr (fun t ht hW => ⟨⟨fM_theNone a2, σ, rfl, by rw [(show fM_between a1 a2 a3 σ = (fM_theNone a2, σ) by rw [fM_between, if_neg h1])], by rw [ht]; exact hM.1, va_K.moved hW.alike hK, hM.2.1⟩, hM.2.2.F ht⟩) hM.2.2.2.2 dM_between_12
set_option maxHeartbeats 4000000 in
set_option maxRecDepth 100000 in
theorem qM_between (l : Launch) (D : va_G) (ad : Nat → Nat) (a1 : Int32) (a2 : Int32) (a3 : Int64) (σ : MS) (sz : Nat) (hS : SM_between a1 a2 a3 σ) : Met l yM_between wsM_between rmM_between (va_Pc [.ref (ad 0), .int a1, .int a2, .long a3] (mw_B D ad σ sz)) (va_Ql (fun r u => (r, u) = fM_between a1 a2 a3 σ) (mw_E D ad (va_A (mw_c ad σ) sz)) (va_A (mw_c ad σ) sz)) 0 0 (va_A (mw_c ad σ) sz) := by
  refine Met.ofW (cc := cM_between) (maxL := 6) (ret := (some .long)) (by decide) rfl ?_
  intro p e s m args below meth c s₁ B hml hv
  obtain ⟨rfl, hsz, hP, hK, hD⟩ := hv
  have hts0 := atoms_spec (ws := wsM_between) B.pre
  have hts := fun (w : Cond) (h : w ∈ aw) => hts0 w (List.mem_cons_of_mem _ h)
  have hown : s.vm.findClass "BitNumbersModel" = some m.cls := findClass_of_methodNamed B.named
  subst hsz
  have hl := lv_entry ([.ref (ad 0), .int a1, .int a2, .long a3]) (n := 6) (Nat.le_of_ble_eq_true rfl)
  rw [lg_entry_eq]
  generalize (lg_sl ([.ref (ad 0), .int a1, .int a2, .long a3]) ++ List.replicate (6 - (lg_sl ([.ref (ad 0), .int a1, .int a2, .long a3])).length) Slot.unset).toArray = ls at hl ⊢
  exact kM_between_0 ⟨B.exec, B.bytes, B.returns, hml, hown, hts, B.notSynchronized⟩ hK (fun q h => Or.inr h) a1 a2 a3 σ hS ⟨hP, hD.self, va_S.rf⟩ hl

set_option maxHeartbeats 4000000 in
set_option maxRecDepth 100000 in
theorem kM_convert_246 {p : Program} {l : Launch} {e : Env} {s : State} {m : MethodId} {args : Array Value} {below : List Frame} {meth : Method} {c : Code} (C : pw_C p s m args meth c cM_convert 8 (some .long) "BitNumbersModel") {D : va_G} {ad : Nat → Nat} {A : Nat → Prop} (hK : va_K D clM (tyA ad) s) (hA : ∀ q, s.heap.size ≤ q → A q) (a2 : Int64) (s0 : Int32) (σ : MS) (hS : SM_convert_246 a2 s0 σ) {H : Heap} {locs : List Loc} (hM : mw D ad A s.heap H locs σ) {ls : Array Slot} (hl : lv_has ls 8 [(2, .long a2)]) : W p l e rmM_convert s m args below meth c H locs 0 0 (MQ below (va_Ql (fun r u => (r, u) = fM_convert_246 a2 s0 σ) (mw_E D ad A) A) args s 0 0 A) (F0 m 246 ls [.int s0]) := by
  obtain ⟨hx, hb, hr, hml, hown, hts, hlocks⟩ := id C
  refine lv_istore (lv' := [(7, .int s0), (2, .long a2)]) hx hb dM_convert_246 hl (by decide) rfl (fun ls hl => ?_)
  refine lv_lload_n hx hb dM_convert_248 rfl (lv_at hl 1 rfl) ?_
  refine lv_iload hx hb dM_convert_249 (lv_at hl 0 rfl) ?_
  refine lv_lshl (v := bn_shl a2 s0) hx hb dM_convert_251 rfl ?_
  refine lv_iload hx hb dM_convert_252 (lv_at hl 0 rfl) ?_
  refine lv_lshr (v := bn_sar (bn_shl a2 s0) s0) hx hb dM_convert_254 rfl ?_
  exact W.lret (v := bn_sar (bn_shl a2 s0) s0) hx hb hr (fun t ht hW => ⟨⟨bn_sar (bn_shl a2 s0) s0, σ, rfl, by rw [(show fM_convert_246 a2 s0 σ = (bn_sar (bn_shl a2 s0) s0, σ) by rw [fM_convert_246])], by rw [ht]; exact hM.1, va_K.moved hW.alike hK, hM.2.1⟩, hM.2.2.F ht⟩) hM.2.2.2.2 dM_convert_255
set_option maxHeartbeats 4000000 in
set_option maxRecDepth 100000 in
theorem kM_convert_239 {p : Program} {l : Launch} {e : Env} {s : State} {m : MethodId} {args : Array Value} {below : List Frame} {meth : Method} {c : Code} (C : pw_C p s m args meth c cM_convert 8 (some .long) "BitNumbersModel") {D : va_G} {ad : Nat → Nat} {A : Nat → Prop} (hK : va_K D clM (tyA ad) s) (hA : ∀ q, s.heap.size ≤ q → A q) (a2 : Int64) (σ : MS) (hS : SM_convert_239 a2 σ) {H : Heap} {locs : List Loc} (hM : mw D ad A s.heap H locs σ) {ls : Array Slot} (hl : lv_has ls 8 [(2, .long a2)]) : W p l e rmM_convert s m args below meth c H locs 0 0 (MQ below (va_Ql (fun r u => (r, u) = fM_convert_239 a2 σ) (mw_E D ad A) A) args s 0 0 A) (F0 m 239 ls []) := by
  obtain ⟨hx, hb, hr, hml, hown, hts, hlocks⟩ := id C
  refine lv_bipush (v := 48) hx hb dM_convert_239 (by decide) ?_
  refine lv_goto (tgt := 246) hx hb dM_convert_241 (by decide) ?_
  have hS9 : (SM_convert_246 a2 48 σ) := by have w9 := hS; rw [SM_convert_239] at w9; exact w9
  rw [(show fM_convert_239 a2 σ = fM_convert_246 a2 48 σ by rw [fM_convert_239])]
  exact kM_convert_246 C hK hA a2 48 σ (hS9) hM (lv_sub hl [0] rfl)
set_option maxHeartbeats 4000000 in
set_option maxRecDepth 100000 in
theorem kM_convert_220 {p : Program} {l : Launch} {e : Env} {s : State} {m : MethodId} {args : Array Value} {below : List Frame} {meth : Method} {c : Code} (C : pw_C p s m args meth c cM_convert 8 (some .long) "BitNumbersModel") {D : va_G} {ad : Nat → Nat} {A : Nat → Prop} (hK : va_K D clM (tyA ad) s) (hA : ∀ q, s.heap.size ≤ q → A q) (a2 : Int64) (σ : MS) (hS : SM_convert_220 a2 σ) {H : Heap} {locs : List Loc} (hM : mw D ad A s.heap H locs σ) {ls : Array Slot} (hl : lv_has ls 8 [(2, .long a2)]) : W p l e rmM_convert s m args below meth c H locs 0 0 (MQ below (va_Ql (fun r u => (r, u) = fM_convert_220 a2 σ) (mw_E D ad A) A) args s 0 0 A) (F0 m 220 ls []) := by
  obtain ⟨hx, hb, hr, hml, hown, hts, hlocks⟩ := id C
  refine lv_bipush (v := 56) hx hb dM_convert_220 (by decide) ?_
  refine lv_goto (tgt := 246) hx hb dM_convert_222 (by decide) ?_
  have hS9 : (SM_convert_246 a2 56 σ) := by have w9 := hS; rw [SM_convert_220] at w9; exact w9
  rw [(show fM_convert_220 a2 σ = fM_convert_246 a2 56 σ by rw [fM_convert_220])]
  exact kM_convert_246 C hK hA a2 56 σ (hS9) hM (lv_sub hl [0] rfl)
set_option maxHeartbeats 4000000 in
set_option maxRecDepth 100000 in
theorem kM_convert_206 {p : Program} {l : Launch} {e : Env} {s : State} {m : MethodId} {args : Array Value} {below : List Frame} {meth : Method} {c : Code} (C : pw_C p s m args meth c cM_convert 8 (some .long) "BitNumbersModel") {D : va_G} {ad : Nat → Nat} {A : Nat → Prop} (hK : va_K D clM (tyA ad) s) (hA : ∀ q, s.heap.size ≤ q → A q) (a1 : Int32) (a2 : Int64) (σ : MS) (hS : SM_convert_206 a1 a2 σ) {H : Heap} {locs : List Loc} (hM : mw D ad A s.heap H locs σ) {ls : Array Slot} (hl : lv_has ls 8 [(1, .int a1), (2, .long a2)]) : W p l e rmM_convert s m args below meth c H locs 0 0 (MQ below (va_Ql (fun r u => (r, u) = fM_convert_206 a1 a2 σ) (mw_E D ad A) A) args s 0 0 A) (F0 m 206 ls []) := by
  obtain ⟨hx, hb, hr, hml, hown, hts, hlocks⟩ := id C
  refine lv_iload_n hx hb dM_convert_206 rfl (lv_at hl 0 rfl) ?_
  refine lv_sipush (v := 192) hx hb dM_convert_207 (by decide) ?_
  refine lv_icmp_eq (tgt := 220) hx hb dM_convert_210 (by decide) (fun h1 => ?_) (fun h1 => ?_)
  · have hS9 : (SM_convert_220 a2 σ) := by have w9 := hS; rw [SM_convert_206, if_pos h1] at w9; exact w9
    rw [(show fM_convert_206 a1 a2 σ = fM_convert_220 a2 σ by rw [fM_convert_206, if_pos h1])]
    exact kM_convert_220 C hK hA a2 σ (hS9) hM (lv_sub hl [1] rfl)
  · refine lv_iload_n hx hb dM_convert_213 rfl (lv_at hl 0 rfl) ?_
    refine lv_sipush (v := 194) hx hb dM_convert_214 (by decide) ?_
    refine lv_icmp_ne (tgt := 225) hx hb dM_convert_217 (by decide) (fun h2 => ?_) (fun h2 => ?_)
    · refine lv_iload_n hx hb dM_convert_225 rfl (lv_at hl 0 rfl) ?_
      refine lv_sipush (v := 193) hx hb dM_convert_226 (by decide) ?_
      refine lv_icmp_eq (tgt := 239) hx hb dM_convert_229 (by decide) (fun h3 => ?_) (fun h3 => ?_)
      · have hS9 : (SM_convert_239 a2 σ) := by have w9 := hS; rw [SM_convert_206, if_neg h1, if_neg h2, if_pos h3] at w9; exact w9
        rw [(show fM_convert_206 a1 a2 σ = fM_convert_239 a2 σ by rw [fM_convert_206, if_neg h1, if_neg h2, if_pos h3])]
        exact kM_convert_239 C hK hA a2 σ (hS9) hM (lv_sub hl [1] rfl)
      · refine lv_iload_n hx hb dM_convert_232 rfl (lv_at hl 0 rfl) ?_
        refine lv_sipush (v := 195) hx hb dM_convert_233 (by decide) ?_
        refine lv_icmp_ne (tgt := 244) hx hb dM_convert_236 (by decide) (fun h4 => ?_) (fun h4 => ?_)
        · refine lv_bipush (v := 32) hx hb dM_convert_244 (by decide) ?_
          have hS9 : (SM_convert_246 a2 32 σ) := by have w9 := hS; rw [SM_convert_206, if_neg h1, if_neg h2, if_neg h3, if_neg h4] at w9; exact w9
          rw [(show fM_convert_206 a1 a2 σ = fM_convert_246 a2 32 σ by rw [fM_convert_206, if_neg h1, if_neg h2, if_neg h3, if_neg h4])]
          exact kM_convert_246 C hK hA a2 32 σ (hS9) hM (lv_sub hl [1] rfl)
        · have hS9 : (SM_convert_239 a2 σ) := by have w9 := hS; rw [SM_convert_206, if_neg h1, if_neg h2, if_neg h3, if_pos h4] at w9; exact w9
          rw [(show fM_convert_206 a1 a2 σ = fM_convert_239 a2 σ by rw [fM_convert_206, if_neg h1, if_neg h2, if_neg h3, if_pos h4])]
          exact kM_convert_239 C hK hA a2 σ (hS9) hM (lv_sub hl [1] rfl)
    · have hS9 : (SM_convert_220 a2 σ) := by have w9 := hS; rw [SM_convert_206, if_neg h1, if_pos h2] at w9; exact w9
      rw [(show fM_convert_206 a1 a2 σ = fM_convert_220 a2 σ by rw [fM_convert_206, if_neg h1, if_pos h2])]
      exact kM_convert_220 C hK hA a2 σ (hS9) hM (lv_sub hl [1] rfl)
set_option maxHeartbeats 4000000 in
set_option maxRecDepth 100000 in
theorem kM_convert_201 {p : Program} {l : Launch} {e : Env} {s : State} {m : MethodId} {args : Array Value} {below : List Frame} {meth : Method} {c : Code} (C : pw_C p s m args meth c cM_convert 8 (some .long) "BitNumbersModel") {D : va_G} {ad : Nat → Nat} {A : Nat → Prop} (hK : va_K D clM (tyA ad) s) (hA : ∀ q, s.heap.size ≤ q → A q) (a2 : Int64) (s0 : Int32) (s1 : Int32) (s2 : Int32) (σ : MS) (hzs0 : s0 = 0 ∨ s0 = 1) (hS : SM_convert_201 a2 s0 s1 s2 σ) {H : Heap} {locs : List Loc} (hM : mw D ad A s.heap H locs σ) {ls : Array Slot} (hl : lv_has ls 8 [(2, .long a2)]) : W p l e rmM_convert s m args below meth c H locs 0 0 (MQ below (va_Ql (fun r u => (r, u) = fM_convert_201 a2 s0 s1 s2 σ) (mw_E D ad A) A) args s 0 0 A) (F0 m 201 ls [.int s0, .int s1, .int s2, .ref (ad 0)]) := by
  obtain ⟨hx, hb, hr, hml, hown, hts, hlocks⟩ := id C
  refine lv_lload_n hx hb dM_convert_201 rfl (lv_at hl 0 rfl) ?_
  have hS202 : ((SM_fromWhole s2 s1 s0 a2 σ) ∧ True) := by have w9 := hS; rw [SM_convert_201] at w9; exact w9
  refine mw_calll (F := fM_fromWhole s2 s1 s0 a2 σ) (va_runV (As := [.int s2, .int s1, .int s0, .long a2]) (rest := []) ⟨hx, hb, hml, hown, hts⟩ (qM_fromWhole l D ad s2 s1 s0 a2 σ H.size hS202.1) (cwV 4 hts (gV w_770 w_772 w_30 w_34 w_773) rfl rfl rfl (by decide +kernel) ⟨Nat.le_of_ble_eq_true rfl, Nat.le_of_ble_eq_true rfl⟩) (mw_preV hK hM) rfl rfl hl.1 rfl (lv_room (Nat.le_of_ble_eq_true rfl)) dM_convert_202 ⟨Nat.zero_le _, Nat.zero_le _⟩) hM hA (fun H locs hM => ?_)
  exact W.lret (v := (fM_fromWhole s2 s1 s0 a2 σ).1) hx hb hr (fun t ht hW => ⟨⟨(fM_fromWhole s2 s1 s0 a2 σ).1, (fM_fromWhole s2 s1 s0 a2 σ).2, rfl, by rw [(show fM_convert_201 a2 s0 s1 s2 σ = ((fM_fromWhole s2 s1 s0 a2 σ).1, (fM_fromWhole s2 s1 s0 a2 σ).2) by rw [fM_convert_201])], by rw [ht]; exact hM.1, va_K.moved hW.alike hK, hM.2.1⟩, hM.2.2.F ht⟩) hM.2.2.2.2 dM_convert_205
set_option maxHeartbeats 4000000 in
set_option maxRecDepth 100000 in
theorem kM_convert_150 {p : Program} {l : Launch} {e : Env} {s : State} {m : MethodId} {args : Array Value} {below : List Frame} {meth : Method} {c : Code} (C : pw_C p s m args meth c cM_convert 8 (some .long) "BitNumbersModel") {D : va_G} {ad : Nat → Nat} {A : Nat → Prop} (hK : va_K D clM (tyA ad) s) (hA : ∀ q, s.heap.size ≤ q → A q) (a2 : Int64) (a4 : Int32) (a5 : Int32) (σ : MS) (hS : SM_convert_150 a2 a4 a5 σ) {H : Heap} {locs : List Loc} (hM : mw D ad A s.heap H locs σ) {ls : Array Slot} (hl : lv_has ls 8 [(0, .ref (ad 0)), (2, .long a2), (4, .int a4), (5, .int a5)]) : W p l e rmM_convert s m args below meth c H locs 0 0 (MQ below (va_Ql (fun r u => (r, u) = fM_convert_150 a2 a4 a5 σ) (mw_E D ad A) A) args s 0 0 A) (F0 m 150 ls []) := by
  obtain ⟨hx, hb, hr, hml, hown, hts, hlocks⟩ := id C
  refine lv_aload_n hx hb dM_convert_150 rfl (lv_at hl 0 rfl) ?_
  refine lv_iload hx hb dM_convert_151 (lv_at hl 2 rfl) ?_
  refine lv_iload hx hb dM_convert_153 (lv_at hl 3 rfl) ?_
  refine lv_lload_n hx hb dM_convert_155 rfl (lv_at hl 1 rfl) ?_
  have hS156 : ((SM_between a4 a5 a2 σ) ∧ True) := by have w9 := hS; rw [SM_convert_150] at w9; exact w9
  refine mw_calll (F := fM_between a4 a5 a2 σ) (va_runV (As := [.int a4, .int a5, .long a2]) (rest := []) ⟨hx, hb, hml, hown, hts⟩ (qM_between l D ad a4 a5 a2 σ H.size hS156.1) (cwV 3 hts (gV w_766 w_768 w_29 w_34 w_769) rfl rfl rfl (by decide +kernel) ⟨Nat.le_of_ble_eq_true rfl, Nat.le_of_ble_eq_true rfl⟩) (mw_preV hK hM) rfl rfl hl.1 rfl (lv_room (Nat.le_of_ble_eq_true rfl)) dM_convert_156 ⟨Nat.zero_le _, Nat.zero_le _⟩) hM hA (fun H locs hM => ?_)
  exact W.lret (v := (fM_between a4 a5 a2 σ).1) hx hb hr (fun t ht hW => ⟨⟨(fM_between a4 a5 a2 σ).1, (fM_between a4 a5 a2 σ).2, rfl, by rw [(show fM_convert_150 a2 a4 a5 σ = ((fM_between a4 a5 a2 σ).1, (fM_between a4 a5 a2 σ).2) by rw [fM_convert_150])], by rw [ht]; exact hM.1, va_K.moved hW.alike hK, hM.2.1⟩, hM.2.2.F ht⟩) hM.2.2.2.2 dM_convert_159
set_option maxHeartbeats 4000000 in
set_option maxRecDepth 100000 in
theorem kM_convert_121 {p : Program} {l : Launch} {e : Env} {s : State} {m : MethodId} {args : Array Value} {below : List Frame} {meth : Method} {c : Code} (C : pw_C p s m args meth c cM_convert 8 (some .long) "BitNumbersModel") {D : va_G} {ad : Nat → Nat} {A : Nat → Prop} (hK : va_K D clM (tyA ad) s) (hA : ∀ q, s.heap.size ≤ q → A q) (a2 : Int64) (a6 : Int32) (σ : MS) (hz6 : a6 = 0 ∨ a6 = 1) (hS : SM_convert_121 a2 a6 σ) {H : Heap} {locs : List Loc} (hM : mw D ad A s.heap H locs σ) {ls : Array Slot} (hl : lv_has ls 8 [(2, .long a2), (6, .int a6)]) : W p l e rmM_convert s m args below meth c H locs 0 0 (MQ below (va_Ql (fun r u => (r, u) = fM_convert_121 a2 a6 σ) (mw_E D ad A) A) args s 0 0 A) (F0 m 121 ls []) := by
  obtain ⟨hx, hb, hr, hml, hown, hts, hlocks⟩ := id C
  refine lv_iload hx hb dM_convert_121 (lv_at hl 1 rfl) ?_
  refine lv_if_eq (tgt := 134) hx hb dM_convert_123 (by decide) (fun h1 => ?_) (fun h1 => ?_)
  · refine lv_lload_n hx hb dM_convert_134 rfl (lv_at hl 0 rfl) ?_
    exact W.lret (v := a2) hx hb hr (fun t ht hW => ⟨⟨a2, σ, rfl, by rw [(show fM_convert_121 a2 a6 σ = (a2, σ) by rw [fM_convert_121, if_pos h1])], by rw [ht]; exact hM.1, va_K.moved hW.alike hK, hM.2.1⟩, hM.2.2.F ht⟩) hM.2.2.2.2 dM_convert_135
  · refine lv_iconst (v := 0) hx hb dM_convert_126 (by decide) ?_
    refine lv_lload_n hx hb dM_convert_127 rfl (lv_at hl 0 rfl) ?_
    refine pw_call (va_runS (As := [.int 0, .long a2]) (rest := []) ⟨hx, hb, hml, hown, hts⟩ (qM_withSign l 0 a2) (va_cwS 2 hts (gS w_572 w_573 w_34 w_574) rfl rfl rfl (by decide +kernel) ⟨Nat.le_of_ble_eq_true rfl, Nat.le_of_ble_eq_true rfl⟩) ⟨pw_bT, fun U hU hW => ⟨rfl, trivial⟩⟩ rfl rfl hl.1 rfl (lv_room (Nat.le_of_ble_eq_true rfl)) dM_convert_128 ⟨Nat.zero_le _, Nat.zero_le _⟩) ?_
    refine lv_goto (tgt := 135) hx hb dM_convert_131 (by decide) ?_
    exact W.lret (v := fM_withSign 0 a2) hx hb hr (fun t ht hW => ⟨⟨fM_withSign 0 a2, σ, rfl, by rw [(show fM_convert_121 a2 a6 σ = (fM_withSign 0 a2, σ) by rw [fM_convert_121, if_neg h1])], by rw [ht]; exact hM.1, va_K.moved hW.alike hK, hM.2.1⟩, hM.2.2.F ht⟩) hM.2.2.2.2 dM_convert_135
set_option maxHeartbeats 4000000 in
set_option maxRecDepth 100000 in
theorem kM_convert_107 {p : Program} {l : Launch} {e : Env} {s : State} {m : MethodId} {args : Array Value} {below : List Frame} {meth : Method} {c : Code} (C : pw_C p s m args meth c cM_convert 8 (some .long) "BitNumbersModel") {D : va_G} {ad : Nat → Nat} {A : Nat → Prop} (hK : va_K D clM (tyA ad) s) (hA : ∀ q, s.heap.size ≤ q → A q) (a1 : Int32) (a2 : Int64) (a4 : Int32) (a5 : Int32) (a6 : Int32) (σ : MS) (hz6 : a6 = 0 ∨ a6 = 1) (hS : SM_convert_107 a1 a2 a4 a5 a6 σ) {H : Heap} {locs : List Loc} (hM : mw D ad A s.heap H locs σ) {ls : Array Slot} (hl : lv_has ls 8 [(0, .ref (ad 0)), (1, .int a1), (2, .long a2), (4, .int a4), (5, .int a5), (6, .int a6)]) : W p l e rmM_convert s m args below meth c H locs 0 0 (MQ below (va_Ql (fun r u => (r, u) = fM_convert_107 a1 a2 a4 a5 a6 σ) (mw_E D ad A) A) args s 0 0 A) (F0 m 107 ls []) := by
  obtain ⟨hx, hb, hr, hml, hown, hts, hlocks⟩ := id C
  refine lv_iload_n hx hb dM_convert_107 rfl (lv_at hl 1 rfl) ?_
  refine lv_sipush (v := 172) hx hb dM_convert_108 (by decide) ?_
  refine lv_icmp_eq (tgt := 121) hx hb dM_convert_111 (by decide) (fun h1 => ?_) (fun h1 => ?_)
  · have hS9 : (SM_convert_121 a2 a6 σ) := by have w9 := hS; rw [SM_convert_107, if_pos h1] at w9; exact w9
    rw [(show fM_convert_107 a1 a2 a4 a5 a6 σ = fM_convert_121 a2 a6 σ by rw [fM_convert_107, if_pos h1])]
    exact kM_convert_121 C hK hA a2 a6 σ hz6 (hS9) hM (lv_sub hl [2, 5] rfl)
  · refine lv_iload_n hx hb dM_convert_114 rfl (lv_at hl 1 rfl) ?_
    refine lv_sipush (v := 173) hx hb dM_convert_115 (by decide) ?_
    refine lv_icmp_ne (tgt := 136) hx hb dM_convert_118 (by decide) (fun h2 => ?_) (fun h2 => ?_)
    · refine lv_iload_n hx hb dM_convert_136 rfl (lv_at hl 1 rfl) ?_
      refine lv_sipush (v := 182) hx hb dM_convert_137 (by decide) ?_
      refine lv_icmp_eq (tgt := 150) hx hb dM_convert_140 (by decide) (fun h3 => ?_) (fun h3 => ?_)
      · have hS9 : (SM_convert_150 a2 a4 a5 σ) := by have w9 := hS; rw [SM_convert_107, if_neg h1, if_neg h2, if_pos h3] at w9; exact w9
        rw [(show fM_convert_107 a1 a2 a4 a5 a6 σ = fM_convert_150 a2 a4 a5 σ by rw [fM_convert_107, if_neg h1, if_neg h2, if_pos h3])]
        exact kM_convert_150 C hK hA a2 a4 a5 σ (hS9) hM (lv_sub hl [0, 2, 3, 4] rfl)
      · refine lv_iload_n hx hb dM_convert_143 rfl (lv_at hl 1 rfl) ?_
        refine lv_sipush (v := 187) hx hb dM_convert_144 (by decide) ?_
        refine lv_icmp_ne (tgt := 160) hx hb dM_convert_147 (by decide) (fun h4 => ?_) (fun h4 => ?_)
        · refine lv_iload_n hx hb dM_convert_160 rfl (lv_at hl 1 rfl) ?_
          refine lv_sipush (v := 177) hx hb dM_convert_161 (by decide) ?_
          refine lv_icmp_le (tgt := 206) hx hb dM_convert_164 (by decide) (fun h5 => ?_) (fun h5 => ?_)
          · have hS9 : (SM_convert_206 a1 a2 σ) := by have w9 := hS; rw [SM_convert_107, if_neg h1, if_neg h2, if_neg h3, if_neg h4, if_pos h5] at w9; exact w9
            rw [(show fM_convert_107 a1 a2 a4 a5 a6 σ = fM_convert_206 a1 a2 σ by rw [fM_convert_107, if_neg h1, if_neg h2, if_neg h3, if_neg h4, if_pos h5])]
            exact kM_convert_206 C hK hA a1 a2 σ (hS9) hM (lv_sub hl [1, 2] rfl)
          · refine lv_iload_n hx hb dM_convert_167 rfl (lv_at hl 1 rfl) ?_
            refine lv_sipush (v := 187) hx hb dM_convert_168 (by decide) ?_
            refine lv_icmp_ge (tgt := 206) hx hb dM_convert_171 (by decide) (fun h6 => ?_) (fun h6 => ?_)
            · have hS9 : (SM_convert_206 a1 a2 σ) := by have w9 := hS; rw [SM_convert_107, if_neg h1, if_neg h2, if_neg h3, if_neg h4, if_neg h5, if_pos h6] at w9; exact w9
              rw [(show fM_convert_107 a1 a2 a4 a5 a6 σ = fM_convert_206 a1 a2 σ by rw [fM_convert_107, if_neg h1, if_neg h2, if_neg h3, if_neg h4, if_neg h5, if_pos h6])]
              exact kM_convert_206 C hK hA a1 a2 σ (hS9) hM (lv_sub hl [1, 2] rfl)
            · refine lv_aload_n hx hb dM_convert_174 rfl (lv_at hl 0 rfl) ?_
              refine lv_iload hx hb dM_convert_175 (lv_at hl 3 rfl) ?_
              refine lv_iload hx hb dM_convert_177 (lv_at hl 4 rfl) ?_
              refine lv_iload_n hx hb dM_convert_179 rfl (lv_at hl 1 rfl) ?_
              refine lv_sipush (v := 182) hx hb dM_convert_180 (by decide) ?_
              refine lv_icmp_ge (tgt := 191) hx hb dM_convert_183 (by decide) (fun h7 => ?_) (fun h7 => ?_)
              · refine lv_iload hx hb dM_convert_191 (lv_at hl 5 rfl) ?_
                refine lv_if_ne (tgt := 200) hx hb dM_convert_193 (by decide) (fun h8 => ?_) (fun h8 => ?_)
                · refine lv_iconst (v := 0) hx hb dM_convert_200 (by decide) ?_
                  have hS9 : (SM_convert_201 a2 0 a5 a4 σ) := by have w9 := hS; rw [SM_convert_107, if_neg h1, if_neg h2, if_neg h3, if_neg h4, if_neg h5, if_neg h6, if_pos h7, if_neg h8] at w9; exact w9
                  rw [(show fM_convert_107 a1 a2 a4 a5 a6 σ = fM_convert_201 a2 0 a5 a4 σ by rw [fM_convert_107, if_neg h1, if_neg h2, if_neg h3, if_neg h4, if_neg h5, if_neg h6, if_pos h7, if_neg h8])]
                  exact kM_convert_201 C hK hA a2 0 a5 a4 σ (Or.inl rfl) (hS9) hM (lv_sub hl [2] rfl)
                · refine lv_iconst (v := 1) hx hb dM_convert_196 (by decide) ?_
                  refine lv_goto (tgt := 201) hx hb dM_convert_197 (by decide) ?_
                  have hS9 : (SM_convert_201 a2 1 a5 a4 σ) := by have w9 := hS; rw [SM_convert_107, if_neg h1, if_neg h2, if_neg h3, if_neg h4, if_neg h5, if_neg h6, if_pos h7, if_pos h8] at w9; exact w9
                  rw [(show fM_convert_107 a1 a2 a4 a5 a6 σ = fM_convert_201 a2 1 a5 a4 σ by rw [fM_convert_107, if_neg h1, if_neg h2, if_neg h3, if_neg h4, if_neg h5, if_neg h6, if_pos h7, if_pos h8])]
                  exact kM_convert_201 C hK hA a2 1 a5 a4 σ (Or.inr rfl) (hS9) hM (lv_sub hl [2] rfl)
              · refine lv_iload hx hb dM_convert_186 (lv_at hl 5 rfl) ?_
                refine lv_goto (tgt := 201) hx hb dM_convert_188 (by decide) ?_
                have hS9 : (SM_convert_201 a2 a6 a5 a4 σ) := by have w9 := hS; rw [SM_convert_107, if_neg h1, if_neg h2, if_neg h3, if_neg h4, if_neg h5, if_neg h6, if_neg h7] at w9; exact w9
                rw [(show fM_convert_107 a1 a2 a4 a5 a6 σ = fM_convert_201 a2 a6 a5 a4 σ by rw [fM_convert_107, if_neg h1, if_neg h2, if_neg h3, if_neg h4, if_neg h5, if_neg h6, if_neg h7])]
                exact kM_convert_201 C hK hA a2 a6 a5 a4 σ hz6 (hS9) hM (lv_sub hl [2] rfl)
        · have hS9 : (SM_convert_150 a2 a4 a5 σ) := by have w9 := hS; rw [SM_convert_107, if_neg h1, if_neg h2, if_neg h3, if_pos h4] at w9; exact w9
          rw [(show fM_convert_107 a1 a2 a4 a5 a6 σ = fM_convert_150 a2 a4 a5 σ by rw [fM_convert_107, if_neg h1, if_neg h2, if_neg h3, if_pos h4])]
          exact kM_convert_150 C hK hA a2 a4 a5 σ (hS9) hM (lv_sub hl [0, 2, 3, 4] rfl)
    · have hS9 : (SM_convert_121 a2 a6 σ) := by have w9 := hS; rw [SM_convert_107, if_neg h1, if_pos h2] at w9; exact w9
      rw [(show fM_convert_107 a1 a2 a4 a5 a6 σ = fM_convert_121 a2 a6 σ by rw [fM_convert_107, if_neg h1, if_pos h2])]
      exact kM_convert_121 C hK hA a2 a6 σ hz6 (hS9) hM (lv_sub hl [2, 5] rfl)
set_option maxHeartbeats 4000000 in
set_option maxRecDepth 100000 in
theorem kM_convert_102 {p : Program} {l : Launch} {e : Env} {s : State} {m : MethodId} {args : Array Value} {below : List Frame} {meth : Method} {c : Code} (C : pw_C p s m args meth c cM_convert 8 (some .long) "BitNumbersModel") {D : va_G} {ad : Nat → Nat} {A : Nat → Prop} (hK : va_K D clM (tyA ad) s) (hA : ∀ q, s.heap.size ≤ q → A q) (a2 : Int64) (s0 : Int32) (s1 : Int32) (s2 : Int32) (s3 : Int32) (σ : MS) (hzs0 : s0 = 0 ∨ s0 = 1) (hzs1 : s1 = 0 ∨ s1 = 1) (hS : SM_convert_102 a2 s0 s1 s2 s3 σ) {H : Heap} {locs : List Loc} (hM : mw D ad A s.heap H locs σ) {ls : Array Slot} (hl : lv_has ls 8 [(2, .long a2)]) : W p l e rmM_convert s m args below meth c H locs 0 0 (MQ below (va_Ql (fun r u => (r, u) = fM_convert_102 a2 s0 s1 s2 s3 σ) (mw_E D ad A) A) args s 0 0 A) (F0 m 102 ls [.int s0, .int s1, .int s2, .int s3, .ref (ad 0)]) := by
  obtain ⟨hx, hb, hr, hml, hown, hts, hlocks⟩ := id C
  refine lv_lload_n hx hb dM_convert_102 rfl (lv_at hl 0 rfl) ?_
  have hS103 : ((SM_toWhole s3 s2 s1 s0 a2 σ) ∧ True) := by have w9 := hS; rw [SM_convert_102] at w9; exact w9
  refine mw_calll (F := fM_toWhole s3 s2 s1 s0 a2 σ) (va_runV (As := [.int s3, .int s2, .int s1, .int s0, .long a2]) (rest := []) ⟨hx, hb, hml, hown, hts⟩ (qM_toWhole l D ad s3 s2 s1 s0 a2 σ H.size hS103.1) (cwV 5 hts (gV w_758 w_760 w_27 w_34 w_761) rfl rfl rfl (by decide +kernel) ⟨Nat.le_of_ble_eq_true rfl, Nat.le_of_ble_eq_true rfl⟩) (mw_preV hK hM) rfl rfl hl.1 rfl (lv_room (Nat.le_of_ble_eq_true rfl)) dM_convert_103 ⟨Nat.zero_le _, Nat.zero_le _⟩) hM hA (fun H locs hM => ?_)
  exact W.lret (v := (fM_toWhole s3 s2 s1 s0 a2 σ).1) hx hb hr (fun t ht hW => ⟨⟨(fM_toWhole s3 s2 s1 s0 a2 σ).1, (fM_toWhole s3 s2 s1 s0 a2 σ).2, rfl, by rw [(show fM_convert_102 a2 s0 s1 s2 s3 σ = ((fM_toWhole s3 s2 s1 s0 a2 σ).1, (fM_toWhole s3 s2 s1 s0 a2 σ).2) by rw [fM_convert_102])], by rw [ht]; exact hM.1, va_K.moved hW.alike hK, hM.2.1⟩, hM.2.2.F ht⟩) hM.2.2.2.2 dM_convert_106
set_option maxHeartbeats 4000000 in
set_option maxRecDepth 100000 in
theorem kM_convert_83 {p : Program} {l : Launch} {e : Env} {s : State} {m : MethodId} {args : Array Value} {below : List Frame} {meth : Method} {c : Code} (C : pw_C p s m args meth c cM_convert 8 (some .long) "BitNumbersModel") {D : va_G} {ad : Nat → Nat} {A : Nat → Prop} (hK : va_K D clM (tyA ad) s) (hA : ∀ q, s.heap.size ≤ q → A q) (a1 : Int32) (a2 : Int64) (a4 : Int32) (a5 : Int32) (a6 : Int32) (σ : MS) (hz6 : a6 = 0 ∨ a6 = 1) (hS : SM_convert_83 a1 a2 a4 a5 a6 σ) {H : Heap} {locs : List Loc} (hM : mw D ad A s.heap H locs σ) {ls : Array Slot} (hl : lv_has ls 8 [(0, .ref (ad 0)), (1, .int a1), (2, .long a2), (4, .int a4), (5, .int a5), (6, .int a6)]) : W p l e rmM_convert s m args below meth c H locs 0 0 (MQ below (va_Ql (fun r u => (r, u) = fM_convert_83 a1 a2 a4 a5 a6 σ) (mw_E D ad A) A) args s 0 0 A) (F0 m 83 ls []) := by
  obtain ⟨hx, hb, hr, hml, hown, hts, hlocks⟩ := id C
  refine lv_aload_n hx hb dM_convert_83 rfl (lv_at hl 0 rfl) ?_
  refine lv_iload hx hb dM_convert_84 (lv_at hl 3 rfl) ?_
  refine lv_iload hx hb dM_convert_86 (lv_at hl 4 rfl) ?_
  refine lv_iload hx hb dM_convert_88 (lv_at hl 5 rfl) ?_
  refine lv_iload_n hx hb dM_convert_90 rfl (lv_at hl 1 rfl) ?_
  refine lv_sipush (v := 199) hx hb dM_convert_91 (by decide) ?_
  refine lv_icmp_le (tgt := 101) hx hb dM_convert_94 (by decide) (fun h1 => ?_) (fun h1 => ?_)
  · refine lv_iconst (v := 0) hx hb dM_convert_101 (by decide) ?_
    have hS9 : (SM_convert_102 a2 0 a6 a5 a4 σ) := by have w9 := hS; rw [SM_convert_83, if_pos h1] at w9; exact w9
    rw [(show fM_convert_83 a1 a2 a4 a5 a6 σ = fM_convert_102 a2 0 a6 a5 a4 σ by rw [fM_convert_83, if_pos h1])]
    exact kM_convert_102 C hK hA a2 0 a6 a5 a4 σ (Or.inl rfl) hz6 (hS9) hM (lv_sub hl [2] rfl)
  · refine lv_iconst (v := 1) hx hb dM_convert_97 (by decide) ?_
    refine lv_goto (tgt := 102) hx hb dM_convert_98 (by decide) ?_
    have hS9 : (SM_convert_102 a2 1 a6 a5 a4 σ) := by have w9 := hS; rw [SM_convert_83, if_neg h1] at w9; exact w9
    rw [(show fM_convert_83 a1 a2 a4 a5 a6 σ = fM_convert_102 a2 1 a6 a5 a4 σ by rw [fM_convert_83, if_neg h1])]
    exact kM_convert_102 C hK hA a2 1 a6 a5 a4 σ (Or.inr rfl) hz6 (hS9) hM (lv_sub hl [2] rfl)
set_option maxHeartbeats 4000000 in
set_option maxRecDepth 100000 in
theorem kM_convert_69 {p : Program} {l : Launch} {e : Env} {s : State} {m : MethodId} {args : Array Value} {below : List Frame} {meth : Method} {c : Code} (C : pw_C p s m args meth c cM_convert 8 (some .long) "BitNumbersModel") {D : va_G} {ad : Nat → Nat} {A : Nat → Prop} (hK : va_K D clM (tyA ad) s) (hA : ∀ q, s.heap.size ≤ q → A q) (a1 : Int32) (a2 : Int64) (a4 : Int32) (a5 : Int32) (a6 : Int32) (σ : MS) (hz6 : a6 = 0 ∨ a6 = 1) (hS : SM_convert_69 a1 a2 a4 a5 a6 σ) {H : Heap} {locs : List Loc} (hM : mw D ad A s.heap H locs σ) {ls : Array Slot} (hl : lv_has ls 8 [(0, .ref (ad 0)), (1, .int a1), (2, .long a2), (4, .int a4), (5, .int a5), (6, .int a6)]) : W p l e rmM_convert s m args below meth c H locs 0 0 (MQ below (va_Ql (fun r u => (r, u) = fM_convert_69 a1 a2 a4 a5 a6 σ) (mw_E D ad A) A) args s 0 0 A) (F0 m 69 ls []) := by
  obtain ⟨hx, hb, hr, hml, hown, hts, hlocks⟩ := id C
  refine lv_iload_n hx hb dM_convert_69 rfl (lv_at hl 1 rfl) ?_
  refine lv_sipush (v := 173) hx hb dM_convert_70 (by decide) ?_
  refine lv_icmp_le (tgt := 107) hx hb dM_convert_73 (by decide) (fun h1 => ?_) (fun h1 => ?_)
  · have hS9 : (SM_convert_107 a1 a2 a4 a5 a6 σ) := by have w9 := hS; rw [SM_convert_69, if_pos h1] at w9; exact w9
    rw [(show fM_convert_69 a1 a2 a4 a5 a6 σ = fM_convert_107 a1 a2 a4 a5 a6 σ by rw [fM_convert_69, if_pos h1])]
    exact kM_convert_107 C hK hA a1 a2 a4 a5 a6 σ hz6 (hS9) hM (lv_sub hl [0, 1, 2, 3, 4, 5] rfl)
  · refine lv_iload_n hx hb dM_convert_76 rfl (lv_at hl 1 rfl) ?_
    refine lv_sipush (v := 178) hx hb dM_convert_77 (by decide) ?_
    refine lv_icmp_ge (tgt := 107) hx hb dM_convert_80 (by decide) (fun h2 => ?_) (fun h2 => ?_)
    · have hS9 : (SM_convert_107 a1 a2 a4 a5 a6 σ) := by have w9 := hS; rw [SM_convert_69, if_neg h1, if_pos h2] at w9; exact w9
      rw [(show fM_convert_69 a1 a2 a4 a5 a6 σ = fM_convert_107 a1 a2 a4 a5 a6 σ by rw [fM_convert_69, if_neg h1, if_pos h2])]
      exact kM_convert_107 C hK hA a1 a2 a4 a5 a6 σ hz6 (hS9) hM (lv_sub hl [0, 1, 2, 3, 4, 5] rfl)
    · have hS9 : (SM_convert_83 a1 a2 a4 a5 a6 σ) := by have w9 := hS; rw [SM_convert_69, if_neg h1, if_neg h2] at w9; exact w9
      rw [(show fM_convert_69 a1 a2 a4 a5 a6 σ = fM_convert_83 a1 a2 a4 a5 a6 σ by rw [fM_convert_69, if_neg h1, if_neg h2])]
      exact kM_convert_83 C hK hA a1 a2 a4 a5 a6 σ hz6 (hS9) hM (lv_sub hl [0, 1, 2, 3, 4, 5] rfl)
set_option maxHeartbeats 4000000 in
set_option maxRecDepth 100000 in
theorem kM_convert_48 {p : Program} {l : Launch} {e : Env} {s : State} {m : MethodId} {args : Array Value} {below : List Frame} {meth : Method} {c : Code} (C : pw_C p s m args meth c cM_convert 8 (some .long) "BitNumbersModel") {D : va_G} {ad : Nat → Nat} {A : Nat → Prop} (hK : va_K D clM (tyA ad) s) (hA : ∀ q, s.heap.size ≤ q → A q) (a1 : Int32) (a2 : Int64) (a4 : Int32) (a5 : Int32) (a6 : Int32) (σ : MS) (hz6 : a6 = 0 ∨ a6 = 1) (hS : SM_convert_48 a1 a2 a4 a5 a6 σ) {H : Heap} {locs : List Loc} (hM : mw D ad A s.heap H locs σ) {ls : Array Slot} (hl : lv_has ls 8 [(0, .ref (ad 0)), (1, .int a1), (2, .long a2), (4, .int a4), (5, .int a5), (6, .int a6)]) : W p l e rmM_convert s m args below meth c H locs 0 0 (MQ below (va_Ql (fun r u => (r, u) = fM_convert_48 a1 a2 a4 a5 a6 σ) (mw_E D ad A) A) args s 0 0 A) (F0 m 48 ls []) := by
  obtain ⟨hx, hb, hr, hml, hown, hts, hlocks⟩ := id C
  refine lv_iload_n hx hb dM_convert_48 rfl (lv_at hl 1 rfl) ?_
  refine lv_sipush (v := 199) hx hb dM_convert_49 (by decide) ?_
  refine lv_icmp_gt (tgt := 83) hx hb dM_convert_52 (by decide) (fun h1 => ?_) (fun h1 => ?_)
  · have hS9 : (SM_convert_83 a1 a2 a4 a5 a6 σ) := by have w9 := hS; rw [SM_convert_48, if_pos h1] at w9; exact w9
    rw [(show fM_convert_48 a1 a2 a4 a5 a6 σ = fM_convert_83 a1 a2 a4 a5 a6 σ by rw [fM_convert_48, if_pos h1])]
    exact kM_convert_83 C hK hA a1 a2 a4 a5 a6 σ hz6 (hS9) hM (lv_sub hl [0, 1, 2, 3, 4, 5] rfl)
  · refine lv_iload_n hx hb dM_convert_55 rfl (lv_at hl 1 rfl) ?_
    refine lv_sipush (v := 167) hx hb dM_convert_56 (by decide) ?_
    refine lv_icmp_le (tgt := 69) hx hb dM_convert_59 (by decide) (fun h2 => ?_) (fun h2 => ?_)
    · have hS9 : (SM_convert_69 a1 a2 a4 a5 a6 σ) := by have w9 := hS; rw [SM_convert_48, if_neg h1, if_pos h2] at w9; exact w9
      rw [(show fM_convert_48 a1 a2 a4 a5 a6 σ = fM_convert_69 a1 a2 a4 a5 a6 σ by rw [fM_convert_48, if_neg h1, if_pos h2])]
      exact kM_convert_69 C hK hA a1 a2 a4 a5 a6 σ hz6 (hS9) hM (lv_sub hl [0, 1, 2, 3, 4, 5] rfl)
    · refine lv_iload_n hx hb dM_convert_62 rfl (lv_at hl 1 rfl) ?_
      refine lv_sipush (v := 172) hx hb dM_convert_63 (by decide) ?_
      refine lv_icmp_lt (tgt := 83) hx hb dM_convert_66 (by decide) (fun h3 => ?_) (fun h3 => ?_)
      · have hS9 : (SM_convert_83 a1 a2 a4 a5 a6 σ) := by have w9 := hS; rw [SM_convert_48, if_neg h1, if_neg h2, if_pos h3] at w9; exact w9
        rw [(show fM_convert_48 a1 a2 a4 a5 a6 σ = fM_convert_83 a1 a2 a4 a5 a6 σ by rw [fM_convert_48, if_neg h1, if_neg h2, if_pos h3])]
        exact kM_convert_83 C hK hA a1 a2 a4 a5 a6 σ hz6 (hS9) hM (lv_sub hl [0, 1, 2, 3, 4, 5] rfl)
      · have hS9 : (SM_convert_69 a1 a2 a4 a5 a6 σ) := by have w9 := hS; rw [SM_convert_48, if_neg h1, if_neg h2, if_neg h3] at w9; exact w9
        rw [(show fM_convert_48 a1 a2 a4 a5 a6 σ = fM_convert_69 a1 a2 a4 a5 a6 σ by rw [fM_convert_48, if_neg h1, if_neg h2, if_neg h3])]
        exact kM_convert_69 C hK hA a1 a2 a4 a5 a6 σ hz6 (hS9) hM (lv_sub hl [0, 1, 2, 3, 4, 5] rfl)
set_option maxHeartbeats 4000000 in
set_option maxRecDepth 100000 in
theorem kM_convert_46 {p : Program} {l : Launch} {e : Env} {s : State} {m : MethodId} {args : Array Value} {below : List Frame} {meth : Method} {c : Code} (C : pw_C p s m args meth c cM_convert 8 (some .long) "BitNumbersModel") {D : va_G} {ad : Nat → Nat} {A : Nat → Prop} (hK : va_K D clM (tyA ad) s) (hA : ∀ q, s.heap.size ≤ q → A q) (a2 : Int64) (σ : MS) (hS : SM_convert_46 a2 σ) {H : Heap} {locs : List Loc} (hM : mw D ad A s.heap H locs σ) {ls : Array Slot} (hl : lv_has ls 8 [(2, .long a2)]) : W p l e rmM_convert s m args below meth c H locs 0 0 (MQ below (va_Ql (fun r u => (r, u) = fM_convert_46 a2 σ) (mw_E D ad A) A) args s 0 0 A) (F0 m 46 ls []) := by
  obtain ⟨hx, hb, hr, hml, hown, hts, hlocks⟩ := id C
  refine lv_lload_n hx hb dM_convert_46 rfl (lv_at hl 0 rfl) ?_
  exact W.lret (v := a2) hx hb hr (fun t ht hW => ⟨⟨a2, σ, rfl, by rw [(show fM_convert_46 a2 σ = (a2, σ) by rw [fM_convert_46])], by rw [ht]; exact hM.1, va_K.moved hW.alike hK, hM.2.1⟩, hM.2.2.F ht⟩) hM.2.2.2.2 dM_convert_47
set_option maxHeartbeats 4000000 in
set_option maxRecDepth 100000 in
theorem kM_convert_23 {p : Program} {l : Launch} {e : Env} {s : State} {m : MethodId} {args : Array Value} {below : List Frame} {meth : Method} {c : Code} (C : pw_C p s m args meth c cM_convert 8 (some .long) "BitNumbersModel") {D : va_G} {ad : Nat → Nat} {A : Nat → Prop} (hK : va_K D clM (tyA ad) s) (hA : ∀ q, s.heap.size ≤ q → A q) (a1 : Int32) (a2 : Int64) (a4 : Int32) (a5 : Int32) (s0 : Int32) (σ : MS) (hzs0 : s0 = 0 ∨ s0 = 1) (hS : SM_convert_23 a1 a2 a4 a5 s0 σ) {H : Heap} {locs : List Loc} (hM : mw D ad A s.heap H locs σ) {ls : Array Slot} (hl : lv_has ls 8 [(0, .ref (ad 0)), (1, .int a1), (2, .long a2), (4, .int a4), (5, .int a5)]) : W p l e rmM_convert s m args below meth c H locs 0 0 (MQ below (va_Ql (fun r u => (r, u) = fM_convert_23 a1 a2 a4 a5 s0 σ) (mw_E D ad A) A) args s 0 0 A) (F0 m 23 ls [.int s0]) := by
  obtain ⟨hx, hb, hr, hml, hown, hts, hlocks⟩ := id C
  refine lv_istore (lv' := [(6, .int s0), (0, .ref (ad 0)), (1, .int a1), (2, .long a2), (4, .int a4), (5, .int a5)]) hx hb dM_convert_23 hl (by decide) rfl (fun ls hl => ?_)
  refine lv_iload_n hx hb dM_convert_25 rfl (lv_at hl 2 rfl) ?_
  refine lv_sipush (v := 167) hx hb dM_convert_26 (by decide) ?_
  refine lv_icmp_eq (tgt := 46) hx hb dM_convert_29 (by decide) (fun h1 => ?_) (fun h1 => ?_)
  · have hS9 : (SM_convert_46 a2 σ) := by have w9 := hS; rw [SM_convert_23, if_pos h1] at w9; exact w9
    rw [(show fM_convert_23 a1 a2 a4 a5 s0 σ = fM_convert_46 a2 σ by rw [fM_convert_23, if_pos h1])]
    exact kM_convert_46 C hK hA a2 σ (hS9) hM (lv_sub hl [3] rfl)
  · refine lv_iload_n hx hb dM_convert_32 rfl (lv_at hl 2 rfl) ?_
    refine lv_sipush (v := 187) hx hb dM_convert_33 (by decide) ?_
    refine lv_icmp_le (tgt := 48) hx hb dM_convert_36 (by decide) (fun h2 => ?_) (fun h2 => ?_)
    · have hS9 : (SM_convert_48 a1 a2 a4 a5 s0 σ) := by have w9 := hS; rw [SM_convert_23, if_neg h1, if_pos h2] at w9; exact w9
      rw [(show fM_convert_23 a1 a2 a4 a5 s0 σ = fM_convert_48 a1 a2 a4 a5 s0 σ by rw [fM_convert_23, if_neg h1, if_pos h2])]
      exact kM_convert_48 C hK hA a1 a2 a4 a5 s0 σ hzs0 (hS9) hM (lv_sub hl [1, 2, 3, 4, 5, 0] rfl)
    · refine lv_iload_n hx hb dM_convert_39 rfl (lv_at hl 2 rfl) ?_
      refine lv_sipush (v := 192) hx hb dM_convert_40 (by decide) ?_
      refine lv_icmp_ge (tgt := 48) hx hb dM_convert_43 (by decide) (fun h3 => ?_) (fun h3 => ?_)
      · have hS9 : (SM_convert_48 a1 a2 a4 a5 s0 σ) := by have w9 := hS; rw [SM_convert_23, if_neg h1, if_neg h2, if_pos h3] at w9; exact w9
        rw [(show fM_convert_23 a1 a2 a4 a5 s0 σ = fM_convert_48 a1 a2 a4 a5 s0 σ by rw [fM_convert_23, if_neg h1, if_neg h2, if_pos h3])]
        exact kM_convert_48 C hK hA a1 a2 a4 a5 s0 σ hzs0 (hS9) hM (lv_sub hl [1, 2, 3, 4, 5, 0] rfl)
      · have hS9 : (SM_convert_46 a2 σ) := by have w9 := hS; rw [SM_convert_23, if_neg h1, if_neg h2, if_neg h3] at w9; exact w9
        rw [(show fM_convert_23 a1 a2 a4 a5 s0 σ = fM_convert_46 a2 σ by rw [fM_convert_23, if_neg h1, if_neg h2, if_neg h3])]
        exact kM_convert_46 C hK hA a2 σ (hS9) hM (lv_sub hl [3] rfl)
set_option maxHeartbeats 4000000 in
set_option maxRecDepth 100000 in
theorem kM_convert_12 {p : Program} {l : Launch} {e : Env} {s : State} {m : MethodId} {args : Array Value} {below : List Frame} {meth : Method} {c : Code} (C : pw_C p s m args meth c cM_convert 8 (some .long) "BitNumbersModel") {D : va_G} {ad : Nat → Nat} {A : Nat → Prop} (hK : va_K D clM (tyA ad) s) (hA : ∀ q, s.heap.size ≤ q → A q) (a1 : Int32) (a2 : Int64) (a4 : Int32) (a5 : Int32) (σ : MS) (hS : SM_convert_12 a1 a2 a4 a5 σ) {H : Heap} {locs : List Loc} (hM : mw D ad A s.heap H locs σ) {ls : Array Slot} (hl : lv_has ls 8 [(0, .ref (ad 0)), (1, .int a1), (2, .long a2), (4, .int a4), (5, .int a5)]) : W p l e rmM_convert s m args below meth c H locs 0 0 (MQ below (va_Ql (fun r u => (r, u) = fM_convert_12 a1 a2 a4 a5 σ) (mw_E D ad A) A) args s 0 0 A) (F0 m 12 ls []) := by
  obtain ⟨hx, hb, hr, hml, hown, hts, hlocks⟩ := id C
  refine lv_iload_n hx hb dM_convert_12 rfl (lv_at hl 1 rfl) ?_
  refine lv_iconst (v := 1) hx hb dM_convert_13 (by decide) ?_
  refine lv_iand hx hb dM_convert_14 ?_
  refine lv_if_ne (tgt := 22) hx hb dM_convert_15 (by decide) (fun h1 => ?_) (fun h1 => ?_)
  · refine lv_iconst (v := 0) hx hb dM_convert_22 (by decide) ?_
    have hS9 : (SM_convert_23 a1 a2 a4 a5 0 σ) := by have w9 := hS; rw [SM_convert_12, if_neg h1] at w9; exact w9
    rw [(show fM_convert_12 a1 a2 a4 a5 σ = fM_convert_23 a1 a2 a4 a5 0 σ by rw [fM_convert_12, if_neg h1])]
    exact kM_convert_23 C hK hA a1 a2 a4 a5 0 σ (Or.inl rfl) (hS9) hM (lv_sub hl [0, 1, 2, 3, 4] rfl)
  · refine lv_iconst (v := 1) hx hb dM_convert_18 (by decide) ?_
    refine lv_goto (tgt := 23) hx hb dM_convert_19 (by decide) ?_
    have hS9 : (SM_convert_23 a1 a2 a4 a5 1 σ) := by have w9 := hS; rw [SM_convert_12, if_pos h1] at w9; exact w9
    rw [(show fM_convert_12 a1 a2 a4 a5 σ = fM_convert_23 a1 a2 a4 a5 1 σ by rw [fM_convert_12, if_pos h1])]
    exact kM_convert_23 C hK hA a1 a2 a4 a5 1 σ (Or.inr rfl) (hS9) hM (lv_sub hl [0, 1, 2, 3, 4] rfl)
set_option maxHeartbeats 4000000 in
set_option maxRecDepth 100000 in
theorem kM_convert_6 {p : Program} {l : Launch} {e : Env} {s : State} {m : MethodId} {args : Array Value} {below : List Frame} {meth : Method} {c : Code} (C : pw_C p s m args meth c cM_convert 8 (some .long) "BitNumbersModel") {D : va_G} {ad : Nat → Nat} {A : Nat → Prop} (hK : va_K D clM (tyA ad) s) (hA : ∀ q, s.heap.size ≤ q → A q) (a1 : Int32) (a2 : Int64) (a4 : Int32) (σ : MS) (hS : SM_convert_6 a1 a2 a4 σ) {H : Heap} {locs : List Loc} (hM : mw D ad A s.heap H locs σ) {ls : Array Slot} (hl : lv_has ls 8 [(0, .ref (ad 0)), (1, .int a1), (2, .long a2), (4, .int a4)]) : W p l e rmM_convert s m args below meth c H locs 0 0 (MQ below (va_Ql (fun r u => (r, u) = fM_convert_6 a1 a2 a4 σ) (mw_E D ad A) A) args s 0 0 A) (F0 m 6 ls []) := by
  obtain ⟨hx, hb, hr, hml, hown, hts, hlocks⟩ := id C
  refine lv_iload_n hx hb dM_convert_6 rfl (lv_at hl 1 rfl) ?_
  refine pw_call (va_runS (As := [.int a1]) (rest := []) ⟨hx, hb, hml, hown, hts⟩ (qM_given l a1) (va_cwS 1 hts (gS w_559 w_560 w_34 w_561) rfl rfl rfl (by decide +kernel) ⟨Nat.le_of_ble_eq_true rfl, Nat.le_of_ble_eq_true rfl⟩) ⟨pw_bT, fun U hU hW => ⟨rfl, trivial⟩⟩ rfl rfl hl.1 rfl (lv_room (Nat.le_of_ble_eq_true rfl)) dM_convert_7 ⟨Nat.zero_le _, Nat.zero_le _⟩) ?_
  refine lv_istore (lv' := [(5, .int (fM_given a1)), (0, .ref (ad 0)), (1, .int a1), (2, .long a2), (4, .int a4)]) hx hb dM_convert_10 hl (by decide) rfl (fun ls hl => ?_)
  have hS9 : (SM_convert_12 a1 a2 a4 (fM_given a1) σ) := by have w9 := hS; rw [SM_convert_6] at w9; exact w9
  rw [(show fM_convert_6 a1 a2 a4 σ = fM_convert_12 a1 a2 a4 (fM_given a1) σ by rw [fM_convert_6])]
  exact kM_convert_12 C hK hA a1 a2 a4 (fM_given a1) σ (hS9) hM (lv_sub hl [1, 2, 3, 4, 0] rfl)
set_option maxHeartbeats 4000000 in
set_option maxRecDepth 100000 in
theorem kM_convert_0 {p : Program} {l : Launch} {e : Env} {s : State} {m : MethodId} {args : Array Value} {below : List Frame} {meth : Method} {c : Code} (C : pw_C p s m args meth c cM_convert 8 (some .long) "BitNumbersModel") {D : va_G} {ad : Nat → Nat} {A : Nat → Prop} (hK : va_K D clM (tyA ad) s) (hA : ∀ q, s.heap.size ≤ q → A q) (a1 : Int32) (a2 : Int64) (σ : MS) (hS : SM_convert a1 a2 σ) {H : Heap} {locs : List Loc} (hM : mw D ad A s.heap H locs σ) {ls : Array Slot} (hl : lv_has ls 8 [(0, .ref (ad 0)), (1, .int a1), (2, .long a2)]) : W p l e rmM_convert s m args below meth c H locs 0 0 (MQ below (va_Ql (fun r u => (r, u) = fM_convert a1 a2 σ) (mw_E D ad A) A) args s 0 0 A) (F0 m 0 ls []) := by
  obtain ⟨hx, hb, hr, hml, hown, hts, hlocks⟩ := id C
  refine lv_iload_n hx hb dM_convert_0 rfl (lv_at hl 1 rfl) ?_
  refine pw_call (va_runS (As := [.int a1]) (rest := []) ⟨hx, hb, hml, hown, hts⟩ (qM_taken l a1) (va_cwS 1 hts (gS w_556 w_557 w_34 w_558) rfl rfl rfl (by decide +kernel) ⟨Nat.le_of_ble_eq_true rfl, Nat.le_of_ble_eq_true rfl⟩) ⟨pw_bT, fun U hU hW => ⟨rfl, trivial⟩⟩ rfl rfl hl.1 rfl (lv_room (Nat.le_of_ble_eq_true rfl)) dM_convert_1 ⟨Nat.zero_le _, Nat.zero_le _⟩) ?_
  refine lv_istore (lv' := [(4, .int (fM_taken a1)), (0, .ref (ad 0)), (1, .int a1), (2, .long a2)]) hx hb dM_convert_4 hl (by decide) rfl (fun ls hl => ?_)
  have hS9 : (SM_convert_6 a1 a2 (fM_taken a1) σ) := by have w9 := hS; rw [SM_convert] at w9; exact w9
  rw [(show fM_convert a1 a2 σ = fM_convert_6 a1 a2 (fM_taken a1) σ by rw [fM_convert])]
  exact kM_convert_6 C hK hA a1 a2 (fM_taken a1) σ (hS9) hM (lv_sub hl [1, 2, 3, 0] rfl)
set_option maxHeartbeats 4000000 in
set_option maxRecDepth 100000 in
theorem qM_convert (l : Launch) (D : va_G) (ad : Nat → Nat) (a1 : Int32) (a2 : Int64) (σ : MS) (sz : Nat) (hS : SM_convert a1 a2 σ) : Met l yM_convert wsM_convert rmM_convert (va_Pc [.ref (ad 0), .int a1, .long a2] (mw_B D ad σ sz)) (va_Ql (fun r u => (r, u) = fM_convert a1 a2 σ) (mw_E D ad (va_A (mw_c ad σ) sz)) (va_A (mw_c ad σ) sz)) 0 0 (va_A (mw_c ad σ) sz) := by
  refine Met.ofW (cc := cM_convert) (maxL := 8) (ret := (some .long)) (by decide) rfl ?_
  intro p e s m args below meth c s₁ B hml hv
  obtain ⟨rfl, hsz, hP, hK, hD⟩ := hv
  have hts0 := atoms_spec (ws := wsM_convert) B.pre
  have hts := fun (w : Cond) (h : w ∈ aw) => hts0 w (List.mem_cons_of_mem _ h)
  have hown : s.vm.findClass "BitNumbersModel" = some m.cls := findClass_of_methodNamed B.named
  subst hsz
  have hl := lv_entry ([.ref (ad 0), .int a1, .long a2]) (n := 8) (Nat.le_of_ble_eq_true rfl)
  rw [lg_entry_eq]
  generalize (lg_sl ([.ref (ad 0), .int a1, .long a2]) ++ List.replicate (8 - (lg_sl ([.ref (ad 0), .int a1, .long a2])).length) Slot.unset).toArray = ls at hl ⊢
  exact kM_convert_0 ⟨B.exec, B.bytes, B.returns, hml, hown, hts, B.notSynchronized⟩ hK (fun q h => Or.inr h) a1 a2 σ hS ⟨hP, hD.self, va_S.rf⟩ hl

set_option maxHeartbeats 4000000 in
set_option maxRecDepth 100000 in
theorem kM_worked_81 {p : Program} {l : Launch} {e : Env} {s : State} {m : MethodId} {args : Array Value} {below : List Frame} {meth : Method} {c : Code} (C : pw_C p s m args meth c cM_worked 7 (some .long) "BitNumbersModel") {D : va_G} {ad : Nat → Nat} {A : Nat → Prop} (hK : va_K D clM (tyA ad) s) (hA : ∀ q, s.heap.size ≤ q → A q) (a2 : Int32) (a3 : Int64) (a5 : Int64) (s0 : Int32) (σ : MS) (hS : SM_worked_81 a2 a3 a5 s0 σ) {H : Heap} {locs : List Loc} (hM : mw D ad A s.heap H locs σ) {ls : Array Slot} (hl : lv_has ls 7 [(2, .int a2), (3, .long a3), (5, .long a5)]) : W p l e rmM_worked s m args below meth c H locs 0 0 (MQ below (va_Ql (fun r u => (r, u) = fM_worked_81 a2 a3 a5 s0 σ) (mw_E D ad A) A) args s 0 0 A) (F0 m 81 ls [.int s0]) := by
  obtain ⟨hx, hb, hr, hml, hown, hts, hlocks⟩ := id C
  refine lv_iload_n hx hb dM_worked_81 rfl (lv_at hl 0 rfl) ?_
  refine lv_lload_n hx hb dM_worked_82 rfl (lv_at hl 1 rfl) ?_
  refine lv_lload hx hb dM_worked_83 (lv_at hl 2 rfl) ?_
  refine pw_call (va_runS (As := [.int s0, .int a2, .long a3, .long a5]) (rest := []) ⟨hx, hb, hml, hown, hts⟩ (qM_compareFloating l s0 a2 a3 a5) (va_cwS 4 hts (gS w_579 w_580 w_34 w_581) rfl rfl rfl (by decide +kernel) ⟨Nat.le_of_ble_eq_true rfl, Nat.le_of_ble_eq_true rfl⟩) ⟨pw_bT, fun U hU hW => ⟨rfl, trivial⟩⟩ rfl rfl hl.1 rfl (lv_room (Nat.le_of_ble_eq_true rfl)) dM_worked_85 ⟨Nat.zero_le _, Nat.zero_le _⟩) ?_
  exact W.lret (v := fM_compareFloating s0 a2 a3 a5) hx hb hr (fun t ht hW => ⟨⟨fM_compareFloating s0 a2 a3 a5, σ, rfl, by rw [(show fM_worked_81 a2 a3 a5 s0 σ = (fM_compareFloating s0 a2 a3 a5, σ) by rw [fM_worked_81])], by rw [ht]; exact hM.1, va_K.moved hW.alike hK, hM.2.1⟩, hM.2.2.F ht⟩) hM.2.2.2.2 dM_worked_88
set_option maxHeartbeats 4000000 in
set_option maxRecDepth 100000 in
theorem kM_worked_50 {p : Program} {l : Launch} {e : Env} {s : State} {m : MethodId} {args : Array Value} {below : List Frame} {meth : Method} {c : Code} (C : pw_C p s m args meth c cM_worked 7 (some .long) "BitNumbersModel") {D : va_G} {ad : Nat → Nat} {A : Nat → Prop} (hK : va_K D clM (tyA ad) s) (hA : ∀ q, s.heap.size ≤ q → A q) (a2 : Int32) (a3 : Int64) (a5 : Int64) (s0 : Int32) (σ : MS) (hS : SM_worked_50 a2 a3 a5 s0 σ) {H : Heap} {locs : List Loc} (hM : mw D ad A s.heap H locs σ) {ls : Array Slot} (hl : lv_has ls 7 [(2, .int a2), (3, .long a3), (5, .long a5)]) : W p l e rmM_worked s m args below meth c H locs 0 0 (MQ below (va_Ql (fun r u => (r, u) = fM_worked_50 a2 a3 a5 s0 σ) (mw_E D ad A) A) args s 0 0 A) (F0 m 50 ls [.int s0]) := by
  obtain ⟨hx, hb, hr, hml, hown, hts, hlocks⟩ := id C
  refine lv_iload_n hx hb dM_worked_50 rfl (lv_at hl 0 rfl) ?_
  refine lv_lload_n hx hb dM_worked_51 rfl (lv_at hl 1 rfl) ?_
  refine lv_lload hx hb dM_worked_52 (lv_at hl 2 rfl) ?_
  refine pw_call (va_runS (As := [.int s0, .int a2, .long a3, .long a5]) (rest := []) ⟨hx, hb, hml, hown, hts⟩ (qM_compareWhole l s0 a2 a3 a5) (va_cwS 4 hts (gS w_569 w_570 w_34 w_571) rfl rfl rfl (by decide +kernel) ⟨Nat.le_of_ble_eq_true rfl, Nat.le_of_ble_eq_true rfl⟩) ⟨pw_bT, fun U hU hW => ⟨rfl, trivial⟩⟩ rfl rfl hl.1 rfl (lv_room (Nat.le_of_ble_eq_true rfl)) dM_worked_54 ⟨Nat.zero_le _, Nat.zero_le _⟩) ?_
  exact W.lret (v := fM_compareWhole s0 a2 a3 a5) hx hb hr (fun t ht hW => ⟨⟨fM_compareWhole s0 a2 a3 a5, σ, rfl, by rw [(show fM_worked_50 a2 a3 a5 s0 σ = (fM_compareWhole s0 a2 a3 a5, σ) by rw [fM_worked_50])], by rw [ht]; exact hM.1, va_K.moved hW.alike hK, hM.2.1⟩, hM.2.2.F ht⟩) hM.2.2.2.2 dM_worked_57
set_option maxHeartbeats 4000000 in
set_option maxRecDepth 100000 in
theorem kM_worked_23 {p : Program} {l : Launch} {e : Env} {s : State} {m : MethodId} {args : Array Value} {below : List Frame} {meth : Method} {c : Code} (C : pw_C p s m args meth c cM_worked 7 (some .long) "BitNumbersModel") {D : va_G} {ad : Nat → Nat} {A : Nat → Prop} (hK : va_K D clM (tyA ad) s) (hA : ∀ q, s.heap.size ≤ q → A q) (s0 : Int32) (σ : MS) (hzs0 : s0 = 0 ∨ s0 = 1) (hS : SM_worked_23 s0 σ) {H : Heap} {locs : List Loc} (hM : mw D ad A s.heap H locs σ) {ls : Array Slot} (hl : lv_has ls 7 []) : W p l e rmM_worked s m args below meth c H locs 0 0 (MQ below (va_Ql (fun r u => (r, u) = fM_worked_23 s0 σ) (mw_E D ad A) A) args s 0 0 A) (F0 m 23 ls [.int s0]) := by
  obtain ⟨hx, hb, hr, hml, hown, hts, hlocks⟩ := id C
  refine pw_call (va_runS (As := [.int s0]) (rest := []) ⟨hx, hb, hml, hown, hts⟩ (qM_truth l s0) (va_cwS 1 hts (gS w_566 w_567 w_34 w_568) rfl rfl rfl (by decide +kernel) ⟨Nat.le_of_ble_eq_true rfl, Nat.le_of_ble_eq_true rfl⟩) ⟨pw_bT, fun U hU hW => ⟨rfl, trivial⟩⟩ rfl rfl hl.1 rfl (lv_room (Nat.le_of_ble_eq_true rfl)) dM_worked_23 ⟨Nat.zero_le _, Nat.zero_le _⟩) ?_
  exact W.lret (v := fM_truth s0) hx hb hr (fun t ht hW => ⟨⟨fM_truth s0, σ, rfl, by rw [(show fM_worked_23 s0 σ = (fM_truth s0, σ) by rw [fM_worked_23])], by rw [ht]; exact hM.1, va_K.moved hW.alike hK, hM.2.1⟩, hM.2.2.F ht⟩) hM.2.2.2.2 dM_worked_26
set_option maxHeartbeats 4000000 in
set_option maxRecDepth 100000 in
theorem kM_worked_12 {p : Program} {l : Launch} {e : Env} {s : State} {m : MethodId} {args : Array Value} {below : List Frame} {meth : Method} {c : Code} (C : pw_C p s m args meth c cM_worked 7 (some .long) "BitNumbersModel") {D : va_G} {ad : Nat → Nat} {A : Nat → Prop} (hK : va_K D clM (tyA ad) s) (hA : ∀ q, s.heap.size ≤ q → A q) (a3 : Int64) (σ : MS) (hS : SM_worked_12 a3 σ) {H : Heap} {locs : List Loc} (hM : mw D ad A s.heap H locs σ) {ls : Array Slot} (hl : lv_has ls 7 [(3, .long a3)]) : W p l e rmM_worked s m args below meth c H locs 0 0 (MQ below (va_Ql (fun r u => (r, u) = fM_worked_12 a3 σ) (mw_E D ad A) A) args s 0 0 A) (F0 m 12 ls []) := by
  obtain ⟨hx, hb, hr, hml, hown, hts, hlocks⟩ := id C
  refine lv_lload_n hx hb dM_worked_12 rfl (lv_at hl 0 rfl) ?_
  refine lv_lconst (v := 0) hx hb dM_worked_13 (by decide) ?_
  refine W.lcmp hx hb dM_worked_14 ?_
  refine lv_if_ne (tgt := 22) hx hb dM_worked_15 (by decide) (fun h1 => ?_) (fun h1 => ?_)
  · have h1 : ¬ (a3 = 0) := fun w => h1 ((lg_cmp_eq _ _).mpr w)
    refine lv_iconst (v := 0) hx hb dM_worked_22 (by decide) ?_
    have hS9 : (SM_worked_23 0 σ) := by have w9 := hS; rw [SM_worked_12, if_neg h1] at w9; exact w9
    rw [(show fM_worked_12 a3 σ = fM_worked_23 0 σ by rw [fM_worked_12, if_neg h1])]
    exact kM_worked_23 C hK hA 0 σ (Or.inl rfl) (hS9) hM (lv_sub hl [] rfl)
  · have h1 : a3 = 0 := (lg_cmp_eq _ _).mp h1
    refine lv_iconst (v := 1) hx hb dM_worked_18 (by decide) ?_
    refine lv_goto (tgt := 23) hx hb dM_worked_19 (by decide) ?_
    have hS9 : (SM_worked_23 1 σ) := by have w9 := hS; rw [SM_worked_12, if_pos h1] at w9; exact w9
    rw [(show fM_worked_12 a3 σ = fM_worked_23 1 σ by rw [fM_worked_12, if_pos h1])]
    exact kM_worked_23 C hK hA 1 σ (Or.inr rfl) (hS9) hM (lv_sub hl [] rfl)
set_option maxHeartbeats 4000000 in
set_option maxRecDepth 100000 in
theorem kM_worked_0 {p : Program} {l : Launch} {e : Env} {s : State} {m : MethodId} {args : Array Value} {below : List Frame} {meth : Method} {c : Code} (C : pw_C p s m args meth c cM_worked 7 (some .long) "BitNumbersModel") {D : va_G} {ad : Nat → Nat} {A : Nat → Prop} (hK : va_K D clM (tyA ad) s) (hA : ∀ q, s.heap.size ≤ q → A q) (a1 : Int32) (a2 : Int32) (a3 : Int64) (a5 : Int64) (σ : MS) (hS : SM_worked a1 a2 a3 a5 σ) {H : Heap} {locs : List Loc} (hM : mw D ad A s.heap H locs σ) {ls : Array Slot} (hl : lv_has ls 7 [(0, .ref (ad 0)), (1, .int a1), (2, .int a2), (3, .long a3), (5, .long a5)]) : W p l e rmM_worked s m args below meth c H locs 0 0 (MQ below (va_Ql (fun r u => (r, u) = fM_worked a1 a2 a3 a5 σ) (mw_E D ad A) A) args s 0 0 A) (F0 m 0 ls []) := by
  obtain ⟨hx, hb, hr, hml, hown, hts, hlocks⟩ := id C
  refine lv_iload_n hx hb dM_worked_0 rfl (lv_at hl 1 rfl) ?_
  refine lv_bipush (v := 69) hx hb dM_worked_1 (by decide) ?_
  refine lv_icmp_eq (tgt := 12) hx hb dM_worked_3 (by decide) (fun h1 => ?_) (fun h1 => ?_)
  · have hS9 : (SM_worked_12 a3 σ) := by have w9 := hS; rw [SM_worked, if_pos h1] at w9; exact w9
    rw [(show fM_worked a1 a2 a3 a5 σ = fM_worked_12 a3 σ by rw [fM_worked, if_pos h1])]
    exact kM_worked_12 C hK hA a3 σ (hS9) hM (lv_sub hl [3] rfl)
  · refine lv_iload_n hx hb dM_worked_6 rfl (lv_at hl 1 rfl) ?_
    refine lv_bipush (v := 80) hx hb dM_worked_7 (by decide) ?_
    refine lv_icmp_ne (tgt := 27) hx hb dM_worked_9 (by decide) (fun h2 => ?_) (fun h2 => ?_)
    · refine lv_iload_n hx hb dM_worked_27 rfl (lv_at hl 1 rfl) ?_
      refine lv_bipush (v := 91) hx hb dM_worked_28 (by decide) ?_
      refine lv_icmp_ge (tgt := 58) hx hb dM_worked_30 (by decide) (fun h3 => ?_) (fun h3 => ?_)
      · refine lv_iload_n hx hb dM_worked_58 rfl (lv_at hl 1 rfl) ?_
        refine lv_bipush (v := 103) hx hb dM_worked_59 (by decide) ?_
        refine lv_icmp_ge (tgt := 89) hx hb dM_worked_61 (by decide) (fun h4 => ?_) (fun h4 => ?_)
        · refine lv_iload_n hx hb dM_worked_89 rfl (lv_at hl 1 rfl) ?_
          refine lv_sipush (v := 139) hx hb dM_worked_90 (by decide) ?_
          refine lv_icmp_ge (tgt := 112) hx hb dM_worked_93 (by decide) (fun h5 => ?_) (fun h5 => ?_)
          · refine lv_iload_n hx hb dM_worked_112 rfl (lv_at hl 1 rfl) ?_
            refine lv_sipush (v := 167) hx hb dM_worked_113 (by decide) ?_
            refine lv_icmp_ge (tgt := 136) hx hb dM_worked_116 (by decide) (fun h6 => ?_) (fun h6 => ?_)
            · refine lv_aload_n hx hb dM_worked_136 rfl (lv_at hl 0 rfl) ?_
              refine lv_iload_n hx hb dM_worked_137 rfl (lv_at hl 1 rfl) ?_
              refine lv_lload_n hx hb dM_worked_138 rfl (lv_at hl 3 rfl) ?_
              have hS139 : ((SM_convert a1 a3 σ) ∧ True) := by have w9 := hS; rw [SM_worked, if_neg h1, if_neg h2, if_pos h3, if_pos h4, if_pos h5, if_pos h6] at w9; exact w9
              refine mw_calll (F := fM_convert a1 a3 σ) (va_runV (As := [.int a1, .long a3]) (rest := []) ⟨hx, hb, hml, hown, hts⟩ (qM_convert l D ad a1 a3 σ H.size hS139.1) (cwV 2 hts (gV w_754 w_756 w_26 w_34 w_757) rfl rfl rfl (by decide +kernel) ⟨Nat.le_of_ble_eq_true rfl, Nat.le_of_ble_eq_true rfl⟩) (mw_preV hK hM) rfl rfl hl.1 rfl (lv_room (Nat.le_of_ble_eq_true rfl)) dM_worked_139 ⟨Nat.zero_le _, Nat.zero_le _⟩) hM hA (fun H locs hM => ?_)
              exact W.lret (v := (fM_convert a1 a3 σ).1) hx hb hr (fun t ht hW => ⟨⟨(fM_convert a1 a3 σ).1, (fM_convert a1 a3 σ).2, rfl, by rw [(show fM_worked a1 a2 a3 a5 σ = ((fM_convert a1 a3 σ).1, (fM_convert a1 a3 σ).2) by rw [fM_worked, if_neg h1, if_neg h2, if_pos h3, if_pos h4, if_pos h5, if_pos h6])], by rw [ht]; exact hM.1, va_K.moved hW.alike hK, hM.2.1⟩, hM.2.2.F ht⟩) hM.2.2.2.2 dM_worked_142
            · refine lv_aload_n hx hb dM_worked_119 rfl (lv_at hl 0 rfl) ?_
              refine lv_iload_n hx hb dM_worked_120 rfl (lv_at hl 1 rfl) ?_
              refine lv_sipush (v := 139) hx hb dM_worked_121 (by decide) ?_
              refine lv_isub hx hb dM_worked_124 ?_
              refine lv_bipush (v := 14) hx hb dM_worked_125 (by decide) ?_
              refine lv_irem hx hb dM_worked_127 (by decide) ?_
              refine lv_iload_n hx hb dM_worked_128 rfl (lv_at hl 2 rfl) ?_
              refine lv_lload_n hx hb dM_worked_129 rfl (lv_at hl 3 rfl) ?_
              refine lv_lload hx hb dM_worked_130 (lv_at hl 4 rfl) ?_
              have hS132 : ((SM_floating ((a1 - 139) - (a1 - 139) / 14 * 14) a2 a3 a5 σ) ∧ True) := by have w9 := hS; rw [SM_worked, if_neg h1, if_neg h2, if_pos h3, if_pos h4, if_pos h5, if_neg h6] at w9; exact w9
              refine mw_calll (F := fM_floating ((a1 - 139) - (a1 - 139) / 14 * 14) a2 a3 a5 σ) (va_runV (As := [.int ((a1 - 139) - (a1 - 139) / 14 * 14), .int a2, .long a3, .long a5]) (rest := []) ⟨hx, hb, hml, hown, hts⟩ (qM_floating l D ad ((a1 - 139) - (a1 - 139) / 14 * 14) a2 a3 a5 σ H.size hS132.1) (cwV 4 hts (gV w_644 w_646 w_7 w_34 w_647) rfl rfl rfl (by decide +kernel) ⟨Nat.le_of_ble_eq_true rfl, Nat.le_of_ble_eq_true rfl⟩) (mw_preV hK hM) rfl rfl hl.1 rfl (lv_room (Nat.le_of_ble_eq_true rfl)) dM_worked_132 ⟨Nat.zero_le _, Nat.zero_le _⟩) hM hA (fun H locs hM => ?_)
              exact W.lret (v := (fM_floating ((a1 - 139) - (a1 - 139) / 14 * 14) a2 a3 a5 σ).1) hx hb hr (fun t ht hW => ⟨⟨(fM_floating ((a1 - 139) - (a1 - 139) / 14 * 14) a2 a3 a5 σ).1, (fM_floating ((a1 - 139) - (a1 - 139) / 14 * 14) a2 a3 a5 σ).2, rfl, by rw [(show fM_worked a1 a2 a3 a5 σ = ((fM_floating ((a1 - 139) - (a1 - 139) / 14 * 14) a2 a3 a5 σ).1, (fM_floating ((a1 - 139) - (a1 - 139) / 14 * 14) a2 a3 a5 σ).2) by rw [fM_worked, if_neg h1, if_neg h2, if_pos h3, if_pos h4, if_pos h5, if_neg h6])], by rw [ht]; exact hM.1, va_K.moved hW.alike hK, hM.2.1⟩, hM.2.2.F ht⟩) hM.2.2.2.2 dM_worked_135
          · refine lv_aload_n hx hb dM_worked_96 rfl (lv_at hl 0 rfl) ?_
            refine lv_iload_n hx hb dM_worked_97 rfl (lv_at hl 1 rfl) ?_
            refine lv_bipush (v := 103) hx hb dM_worked_98 (by decide) ?_
            refine lv_isub hx hb dM_worked_100 ?_
            refine lv_bipush (v := 18) hx hb dM_worked_101 (by decide) ?_
            refine lv_irem hx hb dM_worked_103 (by decide) ?_
            refine lv_iload_n hx hb dM_worked_104 rfl (lv_at hl 2 rfl) ?_
            refine lv_lload_n hx hb dM_worked_105 rfl (lv_at hl 3 rfl) ?_
            refine lv_lload hx hb dM_worked_106 (lv_at hl 4 rfl) ?_
            have hS108 : ((fM_withSign a2 a5 ≠ 0 ∨ a5 = 0) ∧ True) := by have w9 := hS; rw [SM_worked, if_neg h1, if_neg h2, if_pos h3, if_pos h4, if_neg h5] at w9; exact w9
            refine mw_calll (F := fM_whole ((a1 - 103) - (a1 - 103) / 18 * 18) a2 a3 a5 σ) (va_runV (As := [.int ((a1 - 103) - (a1 - 103) / 18 * 18), .int a2, .long a3, .long a5]) (rest := []) ⟨hx, hb, hml, hown, hts⟩ (qM_whole l D ad ((a1 - 103) - (a1 - 103) / 18 * 18) a2 a3 a5 σ H.size hS108.1) (cwV 4 hts (gV w_618 w_620 w_5 w_34 w_621) rfl rfl rfl (by decide +kernel) ⟨Nat.le_of_ble_eq_true rfl, Nat.le_of_ble_eq_true rfl⟩) (mw_preV hK hM) rfl rfl hl.1 rfl (lv_room (Nat.le_of_ble_eq_true rfl)) dM_worked_108 ⟨Nat.zero_le _, Nat.zero_le _⟩) hM hA (fun H locs hM => ?_)
            exact W.lret (v := (fM_whole ((a1 - 103) - (a1 - 103) / 18 * 18) a2 a3 a5 σ).1) hx hb hr (fun t ht hW => ⟨⟨(fM_whole ((a1 - 103) - (a1 - 103) / 18 * 18) a2 a3 a5 σ).1, (fM_whole ((a1 - 103) - (a1 - 103) / 18 * 18) a2 a3 a5 σ).2, rfl, by rw [(show fM_worked a1 a2 a3 a5 σ = ((fM_whole ((a1 - 103) - (a1 - 103) / 18 * 18) a2 a3 a5 σ).1, (fM_whole ((a1 - 103) - (a1 - 103) / 18 * 18) a2 a3 a5 σ).2) by rw [fM_worked, if_neg h1, if_neg h2, if_pos h3, if_pos h4, if_neg h5])], by rw [ht]; exact hM.1, va_K.moved hW.alike hK, hM.2.1⟩, hM.2.2.F ht⟩) hM.2.2.2.2 dM_worked_111
        · refine lv_iload_n hx hb dM_worked_64 rfl (lv_at hl 1 rfl) ?_
          refine lv_bipush (v := 97) hx hb dM_worked_65 (by decide) ?_
          refine lv_icmp_ge (tgt := 77) hx hb dM_worked_67 (by decide) (fun h7 => ?_) (fun h7 => ?_)
          · refine lv_iload_n hx hb dM_worked_77 rfl (lv_at hl 1 rfl) ?_
            refine lv_bipush (v := 97) hx hb dM_worked_78 (by decide) ?_
            refine lv_isub hx hb dM_worked_80 ?_
            have hS9 : (SM_worked_81 a2 a3 a5 (a1 - 97) σ) := by have w9 := hS; rw [SM_worked, if_neg h1, if_neg h2, if_pos h3, if_neg h4, if_pos h7] at w9; exact w9
            rw [(show fM_worked a1 a2 a3 a5 σ = fM_worked_81 a2 a3 a5 (a1 - 97) σ by rw [fM_worked, if_neg h1, if_neg h2, if_pos h3, if_neg h4, if_pos h7])]
            exact kM_worked_81 C hK hA a2 a3 a5 (a1 - 97) σ (hS9) hM (lv_sub hl [2, 3, 4] rfl)
          · refine lv_iload_n hx hb dM_worked_70 rfl (lv_at hl 1 rfl) ?_
            refine lv_bipush (v := 91) hx hb dM_worked_71 (by decide) ?_
            refine lv_isub hx hb dM_worked_73 ?_
            refine lv_goto (tgt := 81) hx hb dM_worked_74 (by decide) ?_
            have hS9 : (SM_worked_81 a2 a3 a5 (a1 - 91) σ) := by have w9 := hS; rw [SM_worked, if_neg h1, if_neg h2, if_pos h3, if_neg h4, if_neg h7] at w9; exact w9
            rw [(show fM_worked a1 a2 a3 a5 σ = fM_worked_81 a2 a3 a5 (a1 - 91) σ by rw [fM_worked, if_neg h1, if_neg h2, if_pos h3, if_neg h4, if_neg h7])]
            exact kM_worked_81 C hK hA a2 a3 a5 (a1 - 91) σ (hS9) hM (lv_sub hl [2, 3, 4] rfl)
      · refine lv_iload_n hx hb dM_worked_33 rfl (lv_at hl 1 rfl) ?_
        refine lv_bipush (v := 80) hx hb dM_worked_34 (by decide) ?_
        refine lv_icmp_ge (tgt := 46) hx hb dM_worked_36 (by decide) (fun h8 => ?_) (fun h8 => ?_)
        · refine lv_iload_n hx hb dM_worked_46 rfl (lv_at hl 1 rfl) ?_
          refine lv_bipush (v := 81) hx hb dM_worked_47 (by decide) ?_
          refine lv_isub hx hb dM_worked_49 ?_
          have hS9 : (SM_worked_50 a2 a3 a5 (a1 - 81) σ) := by have w9 := hS; rw [SM_worked, if_neg h1, if_neg h2, if_neg h3, if_pos h8] at w9; exact w9
          rw [(show fM_worked a1 a2 a3 a5 σ = fM_worked_50 a2 a3 a5 (a1 - 81) σ by rw [fM_worked, if_neg h1, if_neg h2, if_neg h3, if_pos h8])]
          exact kM_worked_50 C hK hA a2 a3 a5 (a1 - 81) σ (hS9) hM (lv_sub hl [2, 3, 4] rfl)
        · refine lv_iload_n hx hb dM_worked_39 rfl (lv_at hl 1 rfl) ?_
          refine lv_bipush (v := 70) hx hb dM_worked_40 (by decide) ?_
          refine lv_isub hx hb dM_worked_42 ?_
          refine lv_goto (tgt := 50) hx hb dM_worked_43 (by decide) ?_
          have hS9 : (SM_worked_50 a2 a3 a5 (a1 - 70) σ) := by have w9 := hS; rw [SM_worked, if_neg h1, if_neg h2, if_neg h3, if_neg h8] at w9; exact w9
          rw [(show fM_worked a1 a2 a3 a5 σ = fM_worked_50 a2 a3 a5 (a1 - 70) σ by rw [fM_worked, if_neg h1, if_neg h2, if_neg h3, if_neg h8])]
          exact kM_worked_50 C hK hA a2 a3 a5 (a1 - 70) σ (hS9) hM (lv_sub hl [2, 3, 4] rfl)
    · have hS9 : (SM_worked_12 a3 σ) := by have w9 := hS; rw [SM_worked, if_neg h1, if_pos h2] at w9; exact w9
      rw [(show fM_worked a1 a2 a3 a5 σ = fM_worked_12 a3 σ by rw [fM_worked, if_neg h1, if_pos h2])]
      exact kM_worked_12 C hK hA a3 σ (hS9) hM (lv_sub hl [3] rfl)
set_option maxHeartbeats 4000000 in
set_option maxRecDepth 100000 in
theorem qM_worked (l : Launch) (D : va_G) (ad : Nat → Nat) (a1 : Int32) (a2 : Int32) (a3 : Int64) (a5 : Int64) (σ : MS) (sz : Nat) (hS : SM_worked a1 a2 a3 a5 σ) : Met l yM_worked wsM_worked rmM_worked (va_Pc [.ref (ad 0), .int a1, .int a2, .long a3, .long a5] (mw_B D ad σ sz)) (va_Ql (fun r u => (r, u) = fM_worked a1 a2 a3 a5 σ) (mw_E D ad (va_A (mw_c ad σ) sz)) (va_A (mw_c ad σ) sz)) 0 0 (va_A (mw_c ad σ) sz) := by
  refine Met.ofW (cc := cM_worked) (maxL := 7) (ret := (some .long)) (by decide) rfl ?_
  intro p e s m args below meth c s₁ B hml hv
  obtain ⟨rfl, hsz, hP, hK, hD⟩ := hv
  have hts0 := atoms_spec (ws := wsM_worked) B.pre
  have hts := fun (w : Cond) (h : w ∈ aw) => hts0 w (List.mem_cons_of_mem _ h)
  have hown : s.vm.findClass "BitNumbersModel" = some m.cls := findClass_of_methodNamed B.named
  subst hsz
  have hl := lv_entry ([.ref (ad 0), .int a1, .int a2, .long a3, .long a5]) (n := 7) (Nat.le_of_ble_eq_true rfl)
  rw [lg_entry_eq]
  generalize (lg_sl ([.ref (ad 0), .int a1, .int a2, .long a3, .long a5]) ++ List.replicate (7 - (lg_sl ([.ref (ad 0), .int a1, .int a2, .long a3, .long a5])).length) Slot.unset).toArray = ls at hl ⊢
  exact kM_worked_0 ⟨B.exec, B.bytes, B.returns, hml, hown, hts, B.notSynchronized⟩ hK (fun q h => Or.inr h) a1 a2 a3 a5 σ hS ⟨hP, hD.self, va_S.rf⟩ hl

