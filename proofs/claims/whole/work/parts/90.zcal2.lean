/-! PURE LAYER, 70: the class's small calls, on -/
section ZCA2
variable {T : List mv_T} {J : Nat → Int → Int} {R : Nat → Nat → Option Nat} {G : Nat → Nat → Int64} {d p q : Nat} {Y : Int} {A : Int → Int}
theorem zv_rf_c (A : Int → Int) (a b : Int) : (zv_rf A a b = -1 ∧ ¬ ((0 ≤ a ∧ a < A 0 * A 1) ∧ (0 ≤ b ∧ b < A 0 * A 1) ∧ a ≠ b)) ∨ (zv_rf A a b = -3 ∧ ((0 ≤ a ∧ a < A 0 * A 1) ∧ (0 ≤ b ∧ b < A 0 * A 1) ∧ a ≠ b) ∧ ¬ zz_mh A a b) ∨ (zv_rf A a b = 0 ∧ ((0 ≤ a ∧ a < A 0 * A 1) ∧ (0 ≤ b ∧ b < A 0 * A 1) ∧ a ≠ b) ∧ zz_mh A a b) := by
  unfold zv_rf
  by_cases h : (0 ≤ a ∧ a < A 0 * A 1) ∧ (0 ≤ b ∧ b < A 0 * A 1) ∧ a ≠ b
  · rw [if_pos h]
    by_cases h' : zz_mh A a b
    · rw [if_pos h']
      exact Or.inr (Or.inr ⟨rfl, h, h'⟩)
    · rw [if_neg h']
      exact Or.inr (Or.inl ⟨rfl, h, h'⟩)
  · rw [if_neg h]
    exact Or.inl ⟨rfl, h⟩
theorem c_127 {a b : Int} (hd : 3 ≤ d) (hL : ZL T R) (hA : zz_ok Y A) (hR : zc_rep T R J 17 A) (h1 : -2147483648 ≤ a) (h2 : a ≤ 2147483647) (h3 : -2147483648 ≤ b) (h4 : b ≤ 2147483647) : mv_cax d 127 [.inr (.inr (some 16)), .inl (mv_c a), .inl (mv_c b)] (zz_S T J R G) = some (some (.inl (mv_c (zv_rf A a b))), (zz_S T J R G)) := by
  have hn := hA.n
  have ca := c_33 (T := T) (J := J) (R := R) (G := G) (d := d - 1) (p := 17) (c := a) (by omega) hL (by omega) hA hR h1 h2
  have cb := c_33 (T := T) (J := J) (R := R) (G := G) (d := d - 1) (p := 17) (c := b) (by omega) hL (by omega) hA hR h3 h4
  have c54 := c_54 (T := T) (J := J) (R := R) (G := G) (d := d - 1) (p := 17) (a := a) (b := b) (by omega) hL (by omega) hA hR h1 h2 h3 h4
  by_cases ha : 0 ≤ a ∧ a < A 0 * A 1
  · rw [zz_b_t ha] at ca
    by_cases hb : 0 ≤ b ∧ b < A 0 * A 1
    · rw [zz_b_t hb] at cb
      by_cases hab : a = b
      · refine zz_c (zz_call (by omega) t_127 rfl (fun n => e_127 _ _ _ _) ?_)
        simp (maxSteps := 5000000) (disch := first | assumption | omega) only [ca, cb, zr_16_0, zr_16_1, zr_16_2, zr_16_3, zg_16_4, zp_16_4, zr_16_5, zr_16_6, zr_16_7, zr_16_8, zr_16_9, zr_16_10, zr_16_11, zr_16_12, zi_16, za_105, zs_105, zl_105, za_106, zs_106, zl_106, zl_107, za_114, zs_114, zl_114, zr_pl, za_pl, zs_pl, zl_pl, zz_0, zz_31, zz_add, zz_sub, zz_mul, zz_neg, zz_lt, zz_le, zz_eq, zz_div, zz_md, zz_dv, zz_abs, zz_max, zz_min, zz_nI, zz_be0, zz_be1, zz_zb, zz_z, zz_l0, zz_l, zz_lcmp, zo_rf, zo_nl, zo_nn, zo_rI, zo_rL, zo_rR, zo_rV, Int.add_zero, Int.zero_add, Int.mul_zero, Int.zero_mul, Int.one_mul, Int.mul_one, if_true, if_false, not_true_eq_false, not_false_eq_true, zg_L_0, zp_L_0, zg_L_1, zp_L_1, zg_L_2, zp_L_2, zg_L_3, zp_L_3, zg_L_4, zp_L_4, zg_L_5, zp_L_5, zg_L_6, zp_L_6, zg_L_7, zp_L_7, zi_L, zr_L_8, za_L_1, zs_L_1, zr_L_9, za_L_2, zs_L_2, zr_L_10, za_L_3, zs_L_3, zr_L_11, za_L_4, zs_L_4, zr_L_12, za_L_5, zs_L_5, zr_L_13, za_L_6, zs_L_6, zr_L_14, za_L_7, zs_L_7, zr_L_15, za_L_8, zs_L_8, zr_L_16, za_L_9, zs_L_9, zr_L_17, za_L_10, zs_L_10, zr_L_18, za_L_11, zs_L_11, zr_L_19, za_L_12, zs_L_12]
        try (refine zz_Ei (fun h => absurd (show (1 : Int) = 0 from h) (by omega)) (fun _ => ?_))
        try (refine zz_Ei (fun h => absurd (show (1 : Int) = 0 from h) (by omega)) (fun _ => ?_))
        refine zz_Ei (fun h => ?_) (fun h => absurd hab h)
        exact zz_Er (by rw [zv_rf, if_neg (fun q => q.2.2 hab)])
      · by_cases hm : zz_mh A a b
        · rw [zz_b_t ⟨ha, hb, hm⟩] at c54
          refine zz_c (zz_call (by omega) t_127 rfl (fun n => e_127 _ _ _ _) ?_)
          simp (maxSteps := 5000000) (disch := first | assumption | omega) only [ca, cb, c54, zr_16_0, zr_16_1, zr_16_2, zr_16_3, zg_16_4, zp_16_4, zr_16_5, zr_16_6, zr_16_7, zr_16_8, zr_16_9, zr_16_10, zr_16_11, zr_16_12, zi_16, za_105, zs_105, zl_105, za_106, zs_106, zl_106, zl_107, za_114, zs_114, zl_114, zr_pl, za_pl, zs_pl, zl_pl, zz_0, zz_31, zz_add, zz_sub, zz_mul, zz_neg, zz_lt, zz_le, zz_eq, zz_div, zz_md, zz_dv, zz_abs, zz_max, zz_min, zz_nI, zz_be0, zz_be1, zz_zb, zz_z, zz_l0, zz_l, zz_lcmp, zo_rf, zo_nl, zo_nn, zo_rI, zo_rL, zo_rR, zo_rV, Int.add_zero, Int.zero_add, Int.mul_zero, Int.zero_mul, Int.one_mul, Int.mul_one, if_true, if_false, not_true_eq_false, not_false_eq_true, zg_L_0, zp_L_0, zg_L_1, zp_L_1, zg_L_2, zp_L_2, zg_L_3, zp_L_3, zg_L_4, zp_L_4, zg_L_5, zp_L_5, zg_L_6, zp_L_6, zg_L_7, zp_L_7, zi_L, zr_L_8, za_L_1, zs_L_1, zr_L_9, za_L_2, zs_L_2, zr_L_10, za_L_3, zs_L_3, zr_L_11, za_L_4, zs_L_4, zr_L_12, za_L_5, zs_L_5, zr_L_13, za_L_6, zs_L_6, zr_L_14, za_L_7, zs_L_7, zr_L_15, za_L_8, zs_L_8, zr_L_16, za_L_9, zs_L_9, zr_L_17, za_L_10, zs_L_10, zr_L_18, za_L_11, zs_L_11, zr_L_19, za_L_12, zs_L_12]
          try (refine zz_Ei (fun h => absurd (show (1 : Int) = 0 from h) (by omega)) (fun _ => ?_))
          try (refine zz_Ei (fun h => absurd (show (1 : Int) = 0 from h) (by omega)) (fun _ => ?_))
          refine zz_Ei (fun h => absurd h hab) (fun h => ?_)
          try (refine zz_Ei (fun h => absurd (show (1 : Int) = 0 from h) (by omega)) (fun _ => ?_))
          exact zz_Er (by rw [zv_rf, if_pos ⟨ha, hb, hab⟩, if_pos hm])
        · rw [zz_b_f (fun q => hm q.2.2)] at c54
          refine zz_c (zz_call (by omega) t_127 rfl (fun n => e_127 _ _ _ _) ?_)
          simp (maxSteps := 5000000) (disch := first | assumption | omega) only [ca, cb, c54, zr_16_0, zr_16_1, zr_16_2, zr_16_3, zg_16_4, zp_16_4, zr_16_5, zr_16_6, zr_16_7, zr_16_8, zr_16_9, zr_16_10, zr_16_11, zr_16_12, zi_16, za_105, zs_105, zl_105, za_106, zs_106, zl_106, zl_107, za_114, zs_114, zl_114, zr_pl, za_pl, zs_pl, zl_pl, zz_0, zz_31, zz_add, zz_sub, zz_mul, zz_neg, zz_lt, zz_le, zz_eq, zz_div, zz_md, zz_dv, zz_abs, zz_max, zz_min, zz_nI, zz_be0, zz_be1, zz_zb, zz_z, zz_l0, zz_l, zz_lcmp, zo_rf, zo_nl, zo_nn, zo_rI, zo_rL, zo_rR, zo_rV, Int.add_zero, Int.zero_add, Int.mul_zero, Int.zero_mul, Int.one_mul, Int.mul_one, if_true, if_false, not_true_eq_false, not_false_eq_true, zg_L_0, zp_L_0, zg_L_1, zp_L_1, zg_L_2, zp_L_2, zg_L_3, zp_L_3, zg_L_4, zp_L_4, zg_L_5, zp_L_5, zg_L_6, zp_L_6, zg_L_7, zp_L_7, zi_L, zr_L_8, za_L_1, zs_L_1, zr_L_9, za_L_2, zs_L_2, zr_L_10, za_L_3, zs_L_3, zr_L_11, za_L_4, zs_L_4, zr_L_12, za_L_5, zs_L_5, zr_L_13, za_L_6, zs_L_6, zr_L_14, za_L_7, zs_L_7, zr_L_15, za_L_8, zs_L_8, zr_L_16, za_L_9, zs_L_9, zr_L_17, za_L_10, zs_L_10, zr_L_18, za_L_11, zs_L_11, zr_L_19, za_L_12, zs_L_12]
          try (refine zz_Ei (fun h => absurd (show (1 : Int) = 0 from h) (by omega)) (fun _ => ?_))
          try (refine zz_Ei (fun h => absurd (show (1 : Int) = 0 from h) (by omega)) (fun _ => ?_))
          refine zz_Ei (fun h => absurd h hab) (fun h => ?_)
          exact zz_Er (by rw [zv_rf, if_pos ⟨ha, hb, hab⟩, if_neg hm])
    · rw [zz_b_f hb] at cb
      refine zz_c (zz_call (by omega) t_127 rfl (fun n => e_127 _ _ _ _) ?_)
      simp (maxSteps := 5000000) (disch := first | assumption | omega) only [ca, cb, zr_16_0, zr_16_1, zr_16_2, zr_16_3, zg_16_4, zp_16_4, zr_16_5, zr_16_6, zr_16_7, zr_16_8, zr_16_9, zr_16_10, zr_16_11, zr_16_12, zi_16, za_105, zs_105, zl_105, za_106, zs_106, zl_106, zl_107, za_114, zs_114, zl_114, zr_pl, za_pl, zs_pl, zl_pl, zz_0, zz_31, zz_add, zz_sub, zz_mul, zz_neg, zz_lt, zz_le, zz_eq, zz_div, zz_md, zz_dv, zz_abs, zz_max, zz_min, zz_nI, zz_be0, zz_be1, zz_zb, zz_z, zz_l0, zz_l, zz_lcmp, zo_rf, zo_nl, zo_nn, zo_rI, zo_rL, zo_rR, zo_rV, Int.add_zero, Int.zero_add, Int.mul_zero, Int.zero_mul, Int.one_mul, Int.mul_one, if_true, if_false, not_true_eq_false, not_false_eq_true, zg_L_0, zp_L_0, zg_L_1, zp_L_1, zg_L_2, zp_L_2, zg_L_3, zp_L_3, zg_L_4, zp_L_4, zg_L_5, zp_L_5, zg_L_6, zp_L_6, zg_L_7, zp_L_7, zi_L, zr_L_8, za_L_1, zs_L_1, zr_L_9, za_L_2, zs_L_2, zr_L_10, za_L_3, zs_L_3, zr_L_11, za_L_4, zs_L_4, zr_L_12, za_L_5, zs_L_5, zr_L_13, za_L_6, zs_L_6, zr_L_14, za_L_7, zs_L_7, zr_L_15, za_L_8, zs_L_8, zr_L_16, za_L_9, zs_L_9, zr_L_17, za_L_10, zs_L_10, zr_L_18, za_L_11, zs_L_11, zr_L_19, za_L_12, zs_L_12]
      try (refine zz_Ei (fun h => absurd (show (1 : Int) = 0 from h) (by omega)) (fun _ => ?_))
      exact zz_Er (by rw [zv_rf, if_neg (fun q => hb q.2.1)])
  · rw [zz_b_f ha] at ca
    refine zz_c (zz_call (by omega) t_127 rfl (fun n => e_127 _ _ _ _) ?_)
    simp (maxSteps := 5000000) (disch := first | assumption | omega) only [ca, zr_16_0, zr_16_1, zr_16_2, zr_16_3, zg_16_4, zp_16_4, zr_16_5, zr_16_6, zr_16_7, zr_16_8, zr_16_9, zr_16_10, zr_16_11, zr_16_12, zi_16, za_105, zs_105, zl_105, za_106, zs_106, zl_106, zl_107, za_114, zs_114, zl_114, zr_pl, za_pl, zs_pl, zl_pl, zz_0, zz_31, zz_add, zz_sub, zz_mul, zz_neg, zz_lt, zz_le, zz_eq, zz_div, zz_md, zz_dv, zz_abs, zz_max, zz_min, zz_nI, zz_be0, zz_be1, zz_zb, zz_z, zz_l0, zz_l, zz_lcmp, zo_rf, zo_nl, zo_nn, zo_rI, zo_rL, zo_rR, zo_rV, Int.add_zero, Int.zero_add, Int.mul_zero, Int.zero_mul, Int.one_mul, Int.mul_one, if_true, if_false, not_true_eq_false, not_false_eq_true, zg_L_0, zp_L_0, zg_L_1, zp_L_1, zg_L_2, zp_L_2, zg_L_3, zp_L_3, zg_L_4, zp_L_4, zg_L_5, zp_L_5, zg_L_6, zp_L_6, zg_L_7, zp_L_7, zi_L, zr_L_8, za_L_1, zs_L_1, zr_L_9, za_L_2, zs_L_2, zr_L_10, za_L_3, zs_L_3, zr_L_11, za_L_4, zs_L_4, zr_L_12, za_L_5, zs_L_5, zr_L_13, za_L_6, zs_L_6, zr_L_14, za_L_7, zs_L_7, zr_L_15, za_L_8, zs_L_8, zr_L_16, za_L_9, zs_L_9, zr_L_17, za_L_10, zs_L_10, zr_L_18, za_L_11, zs_L_11, zr_L_19, za_L_12, zs_L_12]
    exact zz_Er (by rw [zv_rf, if_neg (fun q => ha q.1)])
theorem c_99 {a b : Int} (hd : 4 ≤ d) (hL : ZL T R) (hA : zz_ok Y A) (hR : zc_rep T R J 17 A) (h1 : -2147483648 ≤ a) (h2 : a ≤ 2147483647) (h3 : -2147483648 ≤ b) (h4 : b ≤ 2147483647) : mv_cax d 99 [.inr (.inr (some 16)), .inl (mv_c a), .inl (mv_c b)] (zz_S T J R G) = some (some (.inl (mv_c (zv_hours A a b))), (zz_S T J R G)) := by
  have c127 := c_127 (T := T) (J := J) (R := R) (G := G) (d := d - 1) (a := a) (b := b) (by omega) hL hA hR h1 h2 h3 h4
  rcases zv_rf_c A a b with ⟨e, h⟩ | ⟨e, h, h'⟩ | ⟨e, h, h'⟩
  · rw [zv_hours, if_neg (by omega)]
    rw [e] at c127 ⊢
    refine zz_c (zz_call (by omega) t_99 rfl (fun n => e_99 _ _ _ _) ?_)
    simp (maxSteps := 5000000) (disch := first | assumption | omega) only [c127, zr_16_0, zr_16_1, zr_16_2, zr_16_3, zg_16_4, zp_16_4, zr_16_5, zr_16_6, zr_16_7, zr_16_8, zr_16_9, zr_16_10, zr_16_11, zr_16_12, zi_16, za_105, zs_105, zl_105, za_106, zs_106, zl_106, zl_107, za_114, zs_114, zl_114, zr_pl, za_pl, zs_pl, zl_pl, zz_0, zz_31, zz_add, zz_sub, zz_mul, zz_neg, zz_lt, zz_le, zz_eq, zz_div, zz_md, zz_dv, zz_abs, zz_max, zz_min, zz_nI, zz_be0, zz_be1, zz_zb, zz_z, zz_l0, zz_l, zz_lcmp, zo_rf, zo_nl, zo_nn, zo_rI, zo_rL, zo_rR, zo_rV, Int.add_zero, Int.zero_add, Int.mul_zero, Int.zero_mul, Int.one_mul, Int.mul_one, if_true, if_false, not_true_eq_false, not_false_eq_true, zg_L_0, zp_L_0, zg_L_1, zp_L_1, zg_L_2, zp_L_2, zg_L_3, zp_L_3, zg_L_4, zp_L_4, zg_L_5, zp_L_5, zg_L_6, zp_L_6, zg_L_7, zp_L_7, zi_L, zr_L_8, za_L_1, zs_L_1, zr_L_9, za_L_2, zs_L_2, zr_L_10, za_L_3, zs_L_3, zr_L_11, za_L_4, zs_L_4, zr_L_12, za_L_5, zs_L_5, zr_L_13, za_L_6, zs_L_6, zr_L_14, za_L_7, zs_L_7, zr_L_15, za_L_8, zs_L_8, zr_L_16, za_L_9, zs_L_9, zr_L_17, za_L_10, zs_L_10, zr_L_18, za_L_11, zs_L_11, zr_L_19, za_L_12, zs_L_12]
    first
      | exact zz_Er rfl
      | exact zz_Ei (fun h => absurd h (by omega)) (fun _ => zz_Er rfl)
  · rw [zv_hours, if_neg (by omega)]
    rw [e] at c127 ⊢
    refine zz_c (zz_call (by omega) t_99 rfl (fun n => e_99 _ _ _ _) ?_)
    simp (maxSteps := 5000000) (disch := first | assumption | omega) only [c127, zr_16_0, zr_16_1, zr_16_2, zr_16_3, zg_16_4, zp_16_4, zr_16_5, zr_16_6, zr_16_7, zr_16_8, zr_16_9, zr_16_10, zr_16_11, zr_16_12, zi_16, za_105, zs_105, zl_105, za_106, zs_106, zl_106, zl_107, za_114, zs_114, zl_114, zr_pl, za_pl, zs_pl, zl_pl, zz_0, zz_31, zz_add, zz_sub, zz_mul, zz_neg, zz_lt, zz_le, zz_eq, zz_div, zz_md, zz_dv, zz_abs, zz_max, zz_min, zz_nI, zz_be0, zz_be1, zz_zb, zz_z, zz_l0, zz_l, zz_lcmp, zo_rf, zo_nl, zo_nn, zo_rI, zo_rL, zo_rR, zo_rV, Int.add_zero, Int.zero_add, Int.mul_zero, Int.zero_mul, Int.one_mul, Int.mul_one, if_true, if_false, not_true_eq_false, not_false_eq_true, zg_L_0, zp_L_0, zg_L_1, zp_L_1, zg_L_2, zp_L_2, zg_L_3, zp_L_3, zg_L_4, zp_L_4, zg_L_5, zp_L_5, zg_L_6, zp_L_6, zg_L_7, zp_L_7, zi_L, zr_L_8, za_L_1, zs_L_1, zr_L_9, za_L_2, zs_L_2, zr_L_10, za_L_3, zs_L_3, zr_L_11, za_L_4, zs_L_4, zr_L_12, za_L_5, zs_L_5, zr_L_13, za_L_6, zs_L_6, zr_L_14, za_L_7, zs_L_7, zr_L_15, za_L_8, zs_L_8, zr_L_16, za_L_9, zs_L_9, zr_L_17, za_L_10, zs_L_10, zr_L_18, za_L_11, zs_L_11, zr_L_19, za_L_12, zs_L_12]
    first
      | exact zz_Er rfl
      | exact zz_Ei (fun h => absurd h (by omega)) (fun _ => zz_Er rfl)
  · rw [zv_hours, if_pos e]
    rw [e] at c127
    have c55 := c_55 (T := T) (J := J) (R := R) (G := G) (d := d - 1) (p := 17) (a := a) (b := b) (by omega) hL (by omega) hA hR h.1.1 h.1.2 h.2.1.1 h.2.1.2
    refine zz_c (zz_call (by omega) t_99 rfl (fun n => e_99 _ _ _ _) ?_)
    simp (maxSteps := 5000000) (disch := first | assumption | omega) only [c127, c55, zr_16_0, zr_16_1, zr_16_2, zr_16_3, zg_16_4, zp_16_4, zr_16_5, zr_16_6, zr_16_7, zr_16_8, zr_16_9, zr_16_10, zr_16_11, zr_16_12, zi_16, za_105, zs_105, zl_105, za_106, zs_106, zl_106, zl_107, za_114, zs_114, zl_114, zr_pl, za_pl, zs_pl, zl_pl, zz_0, zz_31, zz_add, zz_sub, zz_mul, zz_neg, zz_lt, zz_le, zz_eq, zz_div, zz_md, zz_dv, zz_abs, zz_max, zz_min, zz_nI, zz_be0, zz_be1, zz_zb, zz_z, zz_l0, zz_l, zz_lcmp, zo_rf, zo_nl, zo_nn, zo_rI, zo_rL, zo_rR, zo_rV, Int.add_zero, Int.zero_add, Int.mul_zero, Int.zero_mul, Int.one_mul, Int.mul_one, if_true, if_false, not_true_eq_false, not_false_eq_true, zg_L_0, zp_L_0, zg_L_1, zp_L_1, zg_L_2, zp_L_2, zg_L_3, zp_L_3, zg_L_4, zp_L_4, zg_L_5, zp_L_5, zg_L_6, zp_L_6, zg_L_7, zp_L_7, zi_L, zr_L_8, za_L_1, zs_L_1, zr_L_9, za_L_2, zs_L_2, zr_L_10, za_L_3, zs_L_3, zr_L_11, za_L_4, zs_L_4, zr_L_12, za_L_5, zs_L_5, zr_L_13, za_L_6, zs_L_6, zr_L_14, za_L_7, zs_L_7, zr_L_15, za_L_8, zs_L_8, zr_L_16, za_L_9, zs_L_9, zr_L_17, za_L_10, zs_L_10, zr_L_18, za_L_11, zs_L_11, zr_L_19, za_L_12, zs_L_12]
    exact zz_Er rfl
theorem c_100 {a b : Int} (hd : 4 ≤ d) (hL : ZL T R) (hA : zz_ok Y A) (hR : zc_rep T R J 17 A) (hraw : ∀ p, Lnd p → zk_raw T R J p) (h1 : -2147483648 ≤ a) (h2 : a ≤ 2147483647) (h3 : -2147483648 ≤ b) (h4 : b ≤ 2147483647) : ∃ J', mv_cax d 100 [.inr (.inr (some 16)), .inl (mv_c a), .inl (mv_c b)] (zz_S T J R G) = some (some (.inl (mv_c (zv_hours A a b))), zz_S T J' R G) ∧ zk_op T R R J J' (zv_haulA A a b) := by
  have o0 : zk_op T R R J J A := zk_op_0 hraw hR (fun _ _ => rfl) ⟨rfl, rfl, rfl⟩
  have c127 := c_127 (T := T) (J := J) (R := R) (G := G) (d := d - 1) (a := a) (b := b) (by omega) hL hA hR h1 h2 h3 h4
  rcases zv_rf_c A a b with ⟨e, h⟩ | ⟨e, h, h'⟩ | ⟨e, h, h'⟩
  · rw [zv_hours, zv_haulA, if_neg (by omega), if_neg (by omega)]
    rw [e] at c127 ⊢
    refine ⟨J, ?_, o0⟩
    refine zz_c (zz_call (by omega) t_100 rfl (fun n => e_100 _ _ _ _) ?_)
    simp (maxSteps := 5000000) (disch := first | assumption | omega) only [c127, zr_16_0, zr_16_1, zr_16_2, zr_16_3, zg_16_4, zp_16_4, zr_16_5, zr_16_6, zr_16_7, zr_16_8, zr_16_9, zr_16_10, zr_16_11, zr_16_12, zi_16, za_105, zs_105, zl_105, za_106, zs_106, zl_106, zl_107, za_114, zs_114, zl_114, zr_pl, za_pl, zs_pl, zl_pl, zz_0, zz_31, zz_add, zz_sub, zz_mul, zz_neg, zz_lt, zz_le, zz_eq, zz_div, zz_md, zz_dv, zz_abs, zz_max, zz_min, zz_nI, zz_be0, zz_be1, zz_zb, zz_z, zz_l0, zz_l, zz_lcmp, zo_rf, zo_nl, zo_nn, zo_rI, zo_rL, zo_rR, zo_rV, Int.add_zero, Int.zero_add, Int.mul_zero, Int.zero_mul, Int.one_mul, Int.mul_one, if_true, if_false, not_true_eq_false, not_false_eq_true, zg_L_0, zp_L_0, zg_L_1, zp_L_1, zg_L_2, zp_L_2, zg_L_3, zp_L_3, zg_L_4, zp_L_4, zg_L_5, zp_L_5, zg_L_6, zp_L_6, zg_L_7, zp_L_7, zi_L, zr_L_8, za_L_1, zs_L_1, zr_L_9, za_L_2, zs_L_2, zr_L_10, za_L_3, zs_L_3, zr_L_11, za_L_4, zs_L_4, zr_L_12, za_L_5, zs_L_5, zr_L_13, za_L_6, zs_L_6, zr_L_14, za_L_7, zs_L_7, zr_L_15, za_L_8, zs_L_8, zr_L_16, za_L_9, zs_L_9, zr_L_17, za_L_10, zs_L_10, zr_L_18, za_L_11, zs_L_11, zr_L_19, za_L_12, zs_L_12]
    first
      | exact zz_Er rfl
      | exact zz_Ei (fun h => absurd h (by omega)) (fun _ => zz_Er rfl)
  · rw [zv_hours, zv_haulA, if_neg (by omega), if_neg (by omega)]
    rw [e] at c127 ⊢
    refine ⟨J, ?_, o0⟩
    refine zz_c (zz_call (by omega) t_100 rfl (fun n => e_100 _ _ _ _) ?_)
    simp (maxSteps := 5000000) (disch := first | assumption | omega) only [c127, zr_16_0, zr_16_1, zr_16_2, zr_16_3, zg_16_4, zp_16_4, zr_16_5, zr_16_6, zr_16_7, zr_16_8, zr_16_9, zr_16_10, zr_16_11, zr_16_12, zi_16, za_105, zs_105, zl_105, za_106, zs_106, zl_106, zl_107, za_114, zs_114, zl_114, zr_pl, za_pl, zs_pl, zl_pl, zz_0, zz_31, zz_add, zz_sub, zz_mul, zz_neg, zz_lt, zz_le, zz_eq, zz_div, zz_md, zz_dv, zz_abs, zz_max, zz_min, zz_nI, zz_be0, zz_be1, zz_zb, zz_z, zz_l0, zz_l, zz_lcmp, zo_rf, zo_nl, zo_nn, zo_rI, zo_rL, zo_rR, zo_rV, Int.add_zero, Int.zero_add, Int.mul_zero, Int.zero_mul, Int.one_mul, Int.mul_one, if_true, if_false, not_true_eq_false, not_false_eq_true, zg_L_0, zp_L_0, zg_L_1, zp_L_1, zg_L_2, zp_L_2, zg_L_3, zp_L_3, zg_L_4, zp_L_4, zg_L_5, zp_L_5, zg_L_6, zp_L_6, zg_L_7, zp_L_7, zi_L, zr_L_8, za_L_1, zs_L_1, zr_L_9, za_L_2, zs_L_2, zr_L_10, za_L_3, zs_L_3, zr_L_11, za_L_4, zs_L_4, zr_L_12, za_L_5, zs_L_5, zr_L_13, za_L_6, zs_L_6, zr_L_14, za_L_7, zs_L_7, zr_L_15, za_L_8, zs_L_8, zr_L_16, za_L_9, zs_L_9, zr_L_17, za_L_10, zs_L_10, zr_L_18, za_L_11, zs_L_11, zr_L_19, za_L_12, zs_L_12]
    first
      | exact zz_Er rfl
      | exact zz_Ei (fun h => absurd h (by omega)) (fun _ => zz_Er rfl)
  · rw [zv_hours, zv_haulA, if_pos e, if_pos e]
    rw [e] at c127
    have c55 := c_55 (T := T) (J := J) (R := R) (G := G) (d := d - 1) (p := 17) (a := a) (b := b) (by omega) hL (by omega) hA hR h.1.1 h.1.2 h.2.1.1 h.2.1.2
    obtain ⟨O, c56, hR'⟩ := c_56 (T := T) (J := J) (R := R) (G := G) (d := d - 1) (p := 17) (a := a) (b := b) (by omega) hL (by omega) hA hR h.1.1 h.1.2 h.2.1.1 h.2.1.2 h.2.2
    refine ⟨zz_w J (17 + 4) O, ?_, zk_op_0 hraw hR' (fun x hx => zw_n (by omega)) ⟨zw_n (by omega), zw_n (by omega), zw_n (by omega)⟩⟩
    refine zz_c (zz_call (by omega) t_100 rfl (fun n => e_100 _ _ _ _) ?_)
    simp (maxSteps := 5000000) (disch := first | assumption | omega) only [c127, c55, c56, zr_16_0, zr_16_1, zr_16_2, zr_16_3, zg_16_4, zp_16_4, zr_16_5, zr_16_6, zr_16_7, zr_16_8, zr_16_9, zr_16_10, zr_16_11, zr_16_12, zi_16, za_105, zs_105, zl_105, za_106, zs_106, zl_106, zl_107, za_114, zs_114, zl_114, zr_pl, za_pl, zs_pl, zl_pl, zz_0, zz_31, zz_add, zz_sub, zz_mul, zz_neg, zz_lt, zz_le, zz_eq, zz_div, zz_md, zz_dv, zz_abs, zz_max, zz_min, zz_nI, zz_be0, zz_be1, zz_zb, zz_z, zz_l0, zz_l, zz_lcmp, zo_rf, zo_nl, zo_nn, zo_rI, zo_rL, zo_rR, zo_rV, Int.add_zero, Int.zero_add, Int.mul_zero, Int.zero_mul, Int.one_mul, Int.mul_one, if_true, if_false, not_true_eq_false, not_false_eq_true, zg_L_0, zp_L_0, zg_L_1, zp_L_1, zg_L_2, zp_L_2, zg_L_3, zp_L_3, zg_L_4, zp_L_4, zg_L_5, zp_L_5, zg_L_6, zp_L_6, zg_L_7, zp_L_7, zi_L, zr_L_8, za_L_1, zs_L_1, zr_L_9, za_L_2, zs_L_2, zr_L_10, za_L_3, zs_L_3, zr_L_11, za_L_4, zs_L_4, zr_L_12, za_L_5, zs_L_5, zr_L_13, za_L_6, zs_L_6, zr_L_14, za_L_7, zs_L_7, zr_L_15, za_L_8, zs_L_8, zr_L_16, za_L_9, zs_L_9, zr_L_17, za_L_10, zs_L_10, zr_L_18, za_L_11, zs_L_11, zr_L_19, za_L_12, zs_L_12]
    exact zz_Er rfl
theorem c_39 (hd : 2 ≤ d) (hL : ZL T R) (hp : Lnd p) (hA : zz_ok Y A) (hR : zc_rep T R J p A) : ∃ v, mv_cax d 39 [.inr (.inr (some p))] (zz_S T J R G) = some (some (.inl (mv_c v)), (zz_S T J R G)) ∧ zv_fu A v := by
  have hn := hA.n
  have e2 := hR.1.1.2.2
  suffices h : ∃ r, mv_cax d 39 [.inr (.inr (some p))] (zz_S T J R G) = some r ∧ ∃ v, r = (some (.inl (mv_c v)), (zz_S T J R G)) ∧ zv_fu A v by
    obtain ⟨r, h1, v, rfl, h2⟩ := h
    exact ⟨v, h1, h2⟩
  refine zz_call (by omega) t_39 rfl (fun n => e_39 _ _) ?_
  refine zz_loop (α := Unit) (run := fun c _ n => mv_run (mv_cax (d - 1)) mm_39 n 2 [(0, .inr (.inr (some p))), (1, .inl (mv_c c))] [] (zz_S T J R G)) (A 0 * A 1) (fun c _ => 0 ≤ c ∧ ∀ i, 0 ≤ i → i < c → zz_tw A i = A (8 + i)) ?_ ?_ (A 0 * A 1).toNat 0 () (by omega) ⟨by omega, fun i _ _ => by omega⟩
  · rintro c _ ⟨hc, hi⟩ hlt kk
    have hcA := hA.2.2.2.2.2.2.2.1 c hc hlt
    have q1 := (hR.2.2.1 c hc hlt).1
    have htw : 0 ≤ zz_tw A c ∧ zz_tw A c ≤ 9 := by
      unfold zz_tw
      split <;> omega
    have c38 := c_38 (T := T) (J := J) (R := R) (G := G) (d := d - 1) (p := p) (c := c) (by omega) hL hp hA hR hc hlt
    refine zz_Es (fun n => e_39_2 _ _ _) ?_
    simp (maxSteps := 5000000) (disch := first | assumption | omega) only [e2, q1, c38, zg_L_0, zp_L_0, zg_L_1, zp_L_1, zg_L_2, zp_L_2, zg_L_3, zp_L_3, zg_L_4, zp_L_4, zg_L_5, zp_L_5, zg_L_6, zp_L_6, zg_L_7, zp_L_7, zi_L, zr_L_8, za_L_1, zs_L_1, zr_L_9, za_L_2, zs_L_2, zr_L_10, za_L_3, zs_L_3, zr_L_11, za_L_4, zs_L_4, zr_L_12, za_L_5, zs_L_5, zr_L_13, za_L_6, zs_L_6, zr_L_14, za_L_7, zs_L_7, zr_L_15, za_L_8, zs_L_8, zr_L_16, za_L_9, zs_L_9, zr_L_17, za_L_10, zs_L_10, zr_L_18, za_L_11, zs_L_11, zr_L_19, za_L_12, zs_L_12, zz_0, zz_31, zz_add, zz_sub, zz_mul, zz_neg, zz_lt, zz_le, zz_eq, zz_div, zz_md, zz_dv, zz_abs, zz_max, zz_min, zz_nI, zz_be0, zz_be1, zz_zb, zz_z, zz_l0, zz_l, zz_lcmp, zo_rf, zo_nl, zo_nn, zo_rI, zo_rL, zo_rR, zo_rV, Int.add_zero, Int.zero_add, Int.mul_zero, Int.zero_mul, Int.one_mul, Int.mul_one, if_true, if_false, not_true_eq_false, not_false_eq_true]
    refine zz_Ei (fun h => absurd h (by omega)) (fun _ => ?_)
    refine zz_Ei (fun h => ?_) (fun h => ?_)
    · refine kk () ⟨by omega, fun i i0 i1 => ?_⟩
      by_cases e : i = c
      · rw [e]; exact h
      · exact hi i i0 (by omega)
    · exact zz_Er ⟨c, rfl, Or.inr ⟨⟨hc, hlt⟩, h, hi⟩⟩
  · rintro _ ⟨_, hi⟩
    refine zz_Es (fun n => e_39_2 _ _ _) ?_
    simp (maxSteps := 5000000) (disch := first | assumption | omega) only [zo_rf, zg_L_2, e2, zz_le]
    refine zz_Ei (fun _ => ?_) (fun h => absurd (Int.le_refl _) h)
    exact zz_Er ⟨-4, rfl, Or.inl ⟨rfl, hi⟩⟩
theorem c_101 {w : Int} (hd : 3 ≤ d) (hL : ZL T R) (hA : zz_ok Y A) (hR : zc_rep T R J 17 A) (h3 : -2147483648 ≤ w) (h4 : w ≤ 2147483647) : ∃ v, mv_cax d 101 [.inr (.inr (some 16)), .inl (mv_c w)] (zz_S T J R G) = some (some (.inl (mv_c v)), (zz_S T J R G)) ∧ zv_like A w v := by
  obtain ⟨v, c39, hv⟩ := c_39 (T := T) (J := J) (R := R) (G := G) (d := d - 1) (p := 17) (by omega) hL (by omega) hA hR
  have c40 := c_40 (T := T) (J := J) (R := R) (G := G) (d := d - 1) (p := 17) (by omega) hL (by omega) hA hR
  rw [zv_off hA] at c40
  by_cases h0 : w = 0
  · refine ⟨v, ?_, Or.inl ⟨h0, hv⟩⟩
    refine zz_c (zz_call (by omega) t_101 rfl (fun n => e_101 _ _ _) ?_)
    simp (maxSteps := 5000000) (disch := first | assumption | omega) only [c39, c40, zr_16_0, zr_16_1, zr_16_2, zr_16_3, zg_16_4, zp_16_4, zr_16_5, zr_16_6, zr_16_7, zr_16_8, zr_16_9, zr_16_10, zr_16_11, zr_16_12, zi_16, za_105, zs_105, zl_105, za_106, zs_106, zl_106, zl_107, za_114, zs_114, zl_114, zr_pl, za_pl, zs_pl, zl_pl, zz_0, zz_31, zz_add, zz_sub, zz_mul, zz_neg, zz_lt, zz_le, zz_eq, zz_div, zz_md, zz_dv, zz_abs, zz_max, zz_min, zz_nI, zz_be0, zz_be1, zz_zb, zz_z, zz_l0, zz_l, zz_lcmp, zo_rf, zo_nl, zo_nn, zo_rI, zo_rL, zo_rR, zo_rV, Int.add_zero, Int.zero_add, Int.mul_zero, Int.zero_mul, Int.one_mul, Int.mul_one, if_true, if_false, not_true_eq_false, not_false_eq_true, zg_L_0, zp_L_0, zg_L_1, zp_L_1, zg_L_2, zp_L_2, zg_L_3, zp_L_3, zg_L_4, zp_L_4, zg_L_5, zp_L_5, zg_L_6, zp_L_6, zg_L_7, zp_L_7, zi_L, zr_L_8, za_L_1, zs_L_1, zr_L_9, za_L_2, zs_L_2, zr_L_10, za_L_3, zs_L_3, zr_L_11, za_L_4, zs_L_4, zr_L_12, za_L_5, zs_L_5, zr_L_13, za_L_6, zs_L_6, zr_L_14, za_L_7, zs_L_7, zr_L_15, za_L_8, zs_L_8, zr_L_16, za_L_9, zs_L_9, zr_L_17, za_L_10, zs_L_10, zr_L_18, za_L_11, zs_L_11, zr_L_19, za_L_12, zs_L_12]
    refine zz_Ei (fun _ => zz_Er rfl) (fun h => absurd h0 h)
  · by_cases h1 : w = 1
    · refine ⟨_, ?_, Or.inr (Or.inl ⟨h1, rfl⟩)⟩
      refine zz_c (zz_call (by omega) t_101 rfl (fun n => e_101 _ _ _) ?_)
      simp (maxSteps := 5000000) (disch := first | assumption | omega) only [c39, c40, zr_16_0, zr_16_1, zr_16_2, zr_16_3, zg_16_4, zp_16_4, zr_16_5, zr_16_6, zr_16_7, zr_16_8, zr_16_9, zr_16_10, zr_16_11, zr_16_12, zi_16, za_105, zs_105, zl_105, za_106, zs_106, zl_106, zl_107, za_114, zs_114, zl_114, zr_pl, za_pl, zs_pl, zl_pl, zz_0, zz_31, zz_add, zz_sub, zz_mul, zz_neg, zz_lt, zz_le, zz_eq, zz_div, zz_md, zz_dv, zz_abs, zz_max, zz_min, zz_nI, zz_be0, zz_be1, zz_zb, zz_z, zz_l0, zz_l, zz_lcmp, zo_rf, zo_nl, zo_nn, zo_rI, zo_rL, zo_rR, zo_rV, Int.add_zero, Int.zero_add, Int.mul_zero, Int.zero_mul, Int.one_mul, Int.mul_one, if_true, if_false, not_true_eq_false, not_false_eq_true, zg_L_0, zp_L_0, zg_L_1, zp_L_1, zg_L_2, zp_L_2, zg_L_3, zp_L_3, zg_L_4, zp_L_4, zg_L_5, zp_L_5, zg_L_6, zp_L_6, zg_L_7, zp_L_7, zi_L, zr_L_8, za_L_1, zs_L_1, zr_L_9, za_L_2, zs_L_2, zr_L_10, za_L_3, zs_L_3, zr_L_11, za_L_4, zs_L_4, zr_L_12, za_L_5, zs_L_5, zr_L_13, za_L_6, zs_L_6, zr_L_14, za_L_7, zs_L_7, zr_L_15, za_L_8, zs_L_8, zr_L_16, za_L_9, zs_L_9, zr_L_17, za_L_10, zs_L_10, zr_L_18, za_L_11, zs_L_11, zr_L_19, za_L_12, zs_L_12]
      refine zz_Ei (fun h => absurd h h0) (fun _ => ?_)
      refine zz_Ei (fun _ => zz_Er rfl) (fun h => absurd h1 h)
    · refine ⟨-1, ?_, Or.inr (Or.inr ⟨by omega, rfl⟩)⟩
      refine zz_c (zz_call (by omega) t_101 rfl (fun n => e_101 _ _ _) ?_)
      simp (maxSteps := 5000000) (disch := first | assumption | omega) only [c39, c40, zr_16_0, zr_16_1, zr_16_2, zr_16_3, zg_16_4, zp_16_4, zr_16_5, zr_16_6, zr_16_7, zr_16_8, zr_16_9, zr_16_10, zr_16_11, zr_16_12, zi_16, za_105, zs_105, zl_105, za_106, zs_106, zl_106, zl_107, za_114, zs_114, zl_114, zr_pl, za_pl, zs_pl, zl_pl, zz_0, zz_31, zz_add, zz_sub, zz_mul, zz_neg, zz_lt, zz_le, zz_eq, zz_div, zz_md, zz_dv, zz_abs, zz_max, zz_min, zz_nI, zz_be0, zz_be1, zz_zb, zz_z, zz_l0, zz_l, zz_lcmp, zo_rf, zo_nl, zo_nn, zo_rI, zo_rL, zo_rR, zo_rV, Int.add_zero, Int.zero_add, Int.mul_zero, Int.zero_mul, Int.one_mul, Int.mul_one, if_true, if_false, not_true_eq_false, not_false_eq_true, zg_L_0, zp_L_0, zg_L_1, zp_L_1, zg_L_2, zp_L_2, zg_L_3, zp_L_3, zg_L_4, zp_L_4, zg_L_5, zp_L_5, zg_L_6, zp_L_6, zg_L_7, zp_L_7, zi_L, zr_L_8, za_L_1, zs_L_1, zr_L_9, za_L_2, zs_L_2, zr_L_10, za_L_3, zs_L_3, zr_L_11, za_L_4, zs_L_4, zr_L_12, za_L_5, zs_L_5, zr_L_13, za_L_6, zs_L_6, zr_L_14, za_L_7, zs_L_7, zr_L_15, za_L_8, zs_L_8, zr_L_16, za_L_9, zs_L_9, zr_L_17, za_L_10, zs_L_10, zr_L_18, za_L_11, zs_L_11, zr_L_19, za_L_12, zs_L_12]
      refine zz_Ei (fun h => absurd h h0) (fun _ => ?_)
      refine zz_Ei (fun h => absurd h h1) (fun _ => zz_Er rfl)
theorem c_102 (hd : 6 ≤ d) (hL : ZL T R) (hA : zz_ok Y A) (hR : zc_rep T R J 17 A) (hraw : ∀ p, Lnd p → zk_raw T R J p) : ∃ K J', mv_cax d 102 [.inr (.inr (some 16))] (zz_S T J R G) = some (some (.inl (mv_c K)), zz_S T J' R G) ∧ zk_op T R R J J' A ∧ zz_lst A (zz_ex A (fun c => A (24 + c))) K := by
  have hn := hA.n
  obtain ⟨K, J2, h19, hK, hE, ⟨hf, hf2⟩⟩ := c_19 (T := T) (J := J) (R := R) (G := G) (d := d - 1) (p := 17) (Y := Y) (A := A) (q := 17 + 5) (by omega) hL (by omega) hA hR (by omega) (fun J' c k c0 c1 => za_L_5 hL (by omega) c0 (by omega)) (fun c c0 c1 => (zs_sdr hA hR c0 c1).1)
  have hex : ∀ c, 0 ≤ c → c < A 0 * A 1 → zz_ex A (J (17 + 5)) c = zz_ex A (fun c => A (24 + c)) c := fun c c0 c1 => (zs_sdr hA hR c0 c1).2
  have hK' : zz_lst A (zz_ex A (fun c => A (24 + c))) K := by
    rcases hK with ⟨k1, k2⟩ | ⟨k1, k2, k3, k4⟩
    · exact Or.inl ⟨(zs_bad_c (by omega) hex).mp k1, k2⟩
    · exact Or.inr ⟨fun q => k1 ((zs_bad_c (by omega) hex).mpr q), k2, k3, zs_cert_c hex k4⟩
  refine ⟨K, J2, ?_, zk_op_0 hraw (zc_rep_f hR (fun x hx => hf x (by omega) (by omega))) (fun x hx => hf x (by omega) (by omega)) ⟨hf 23 (by omega) (by omega), hf 36 (by omega) (by omega), hf 49 (by omega) (by omega)⟩, hK'⟩
  refine zz_c (zz_call (by omega) t_102 rfl (fun n => e_102 _ _) ?_)
  simp (maxSteps := 5000000) (disch := first | assumption | omega) only [h19, zi_78, zr_16_0, zr_16_1, zr_16_2, zr_16_3, zg_16_4, zp_16_4, zr_16_5, zr_16_6, zr_16_7, zr_16_8, zr_16_9, zr_16_10, zr_16_11, zr_16_12, zi_16, za_105, zs_105, zl_105, za_106, zs_106, zl_106, zl_107, za_114, zs_114, zl_114, zr_pl, za_pl, zs_pl, zl_pl, zz_0, zz_31, zz_add, zz_sub, zz_mul, zz_neg, zz_lt, zz_le, zz_eq, zz_div, zz_md, zz_dv, zz_abs, zz_max, zz_min, zz_nI, zz_be0, zz_be1, zz_zb, zz_z, zz_l0, zz_l, zz_lcmp, zo_rf, zo_nl, zo_nn, zo_rI, zo_rL, zo_rR, zo_rV, Int.add_zero, Int.zero_add, Int.mul_zero, Int.zero_mul, Int.one_mul, Int.mul_one, if_true, if_false, not_true_eq_false, not_false_eq_true, zg_L_0, zp_L_0, zg_L_1, zp_L_1, zg_L_2, zp_L_2, zg_L_3, zp_L_3, zg_L_4, zp_L_4, zg_L_5, zp_L_5, zg_L_6, zp_L_6, zg_L_7, zp_L_7, zi_L, zr_L_8, za_L_1, zs_L_1, zr_L_9, za_L_2, zs_L_2, zr_L_10, za_L_3, zs_L_3, zr_L_11, za_L_4, zs_L_4, zr_L_12, za_L_5, zs_L_5, zr_L_13, za_L_6, zs_L_6, zr_L_14, za_L_7, zs_L_7, zr_L_15, za_L_8, zs_L_8, zr_L_16, za_L_9, zs_L_9, zr_L_17, za_L_10, zs_L_10, zr_L_18, za_L_11, zs_L_11, zr_L_19, za_L_12, zs_L_12]
  exact zz_Er rfl
theorem c_104 {w : Int} (hd : 9 ≤ d) (hL : ZL T R) (hA : zz_ok Y A) (hR : zc_rep T R J 17 A) (hraw : ∀ p, Lnd p → zk_raw T R J p) (h3 : -2147483648 ≤ w) (h4 : w ≤ 2147483647) : ∃ v J' R', mv_cax d 104 [.inr (.inr (some 16)), .inl (mv_c w)] (zz_S T J R G) = some (some (.inl (mv_c v)), zz_S T J' R' G) ∧ zk_op T R R' J J' A ∧ zv_dig A w v := by
  by_cases hw : 0 ≤ w ∧ w ≤ 2
  · obtain ⟨J1, R1, m1, hL1, hR30, hR17, m2, m3, m4⟩ := zk_mind (T := T) (J := J) (R := R) (G := G) (d := d - 1) (by omega) hL hA hR hraw
    obtain ⟨J2, A2, h14, hA2, hR2, -, f2, hr, hdg⟩ := c_14 (T := T) (J := J1) (R := R1) (G := G) (d := d - 1) (p := 30) (Y := Y) (A := A) (by omega) hL1 (by omega) hA hR30
    have c40 := c_40 (T := T) (J := J2) (R := R1) (G := G) (d := d - 1) (p := 30) (by omega) hL1 (by omega) hA2 hR2
    rw [zv_off hA2] at c40
    have hop : zk_op T R R1 J J2 A := zk_mf_op hR17 m2 m3 m4 (fun x hx => f2 x (by omega) (by omega) (by omega) (by omega))
    rcases (show w = 0 ∨ w = 1 ∨ w = 2 by omega) with rfl | rfl | rfl
    · refine ⟨_, J2, R1, ?_, hop, Or.inr ⟨hw, A2, _, _, hdg, rfl⟩⟩
      refine zz_c (zz_call (by omega) t_104 rfl (fun n => e_104 _ _ _) ?_)
      simp (maxSteps := 5000000) (disch := first | assumption | omega) only [m1, h14, c40, zi_78, zg_78_0, zg_78_1, zr_16_0, zr_16_1, zr_16_2, zr_16_3, zg_16_4, zp_16_4, zr_16_5, zr_16_6, zr_16_7, zr_16_8, zr_16_9, zr_16_10, zr_16_11, zr_16_12, zi_16, za_105, zs_105, zl_105, za_106, zs_106, zl_106, zl_107, za_114, zs_114, zl_114, zr_pl, za_pl, zs_pl, zl_pl, zz_0, zz_31, zz_add, zz_sub, zz_mul, zz_neg, zz_lt, zz_le, zz_eq, zz_div, zz_md, zz_dv, zz_abs, zz_max, zz_min, zz_nI, zz_be0, zz_be1, zz_zb, zz_z, zz_l0, zz_l, zz_lcmp, zo_rf, zo_nl, zo_nn, zo_rI, zo_rL, zo_rR, zo_rV, Int.add_zero, Int.zero_add, Int.mul_zero, Int.zero_mul, Int.one_mul, Int.mul_one, if_true, if_false, not_true_eq_false, not_false_eq_true, zg_L_0, zp_L_0, zg_L_1, zp_L_1, zg_L_2, zp_L_2, zg_L_3, zp_L_3, zg_L_4, zp_L_4, zg_L_5, zp_L_5, zg_L_6, zp_L_6, zg_L_7, zp_L_7, zi_L, zr_L_8, za_L_1, zs_L_1, zr_L_9, za_L_2, zs_L_2, zr_L_10, za_L_3, zs_L_3, zr_L_11, za_L_4, zs_L_4, zr_L_12, za_L_5, zs_L_5, zr_L_13, za_L_6, zs_L_6, zr_L_14, za_L_7, zs_L_7, zr_L_15, za_L_8, zs_L_8, zr_L_16, za_L_9, zs_L_9, zr_L_17, za_L_10, zs_L_10, zr_L_18, za_L_11, zs_L_11, zr_L_19, za_L_12, zs_L_12]
      repeat' (first | exact zz_Er rfl | refine zz_Ei (fun h => ?_) (fun g => ?_))
      all_goals (exfalso; omega)
    · refine ⟨J2 78 0, J2, R1, ?_, hop, Or.inr ⟨hw, A2, _, _, hdg, rfl⟩⟩
      refine zz_c (zz_call (by omega) t_104 rfl (fun n => e_104 _ _ _) ?_)
      simp (maxSteps := 5000000) (disch := first | assumption | omega) only [m1, h14, c40, zi_78, zg_78_0, zg_78_1, zr_16_0, zr_16_1, zr_16_2, zr_16_3, zg_16_4, zp_16_4, zr_16_5, zr_16_6, zr_16_7, zr_16_8, zr_16_9, zr_16_10, zr_16_11, zr_16_12, zi_16, za_105, zs_105, zl_105, za_106, zs_106, zl_106, zl_107, za_114, zs_114, zl_114, zr_pl, za_pl, zs_pl, zl_pl, zz_0, zz_31, zz_add, zz_sub, zz_mul, zz_neg, zz_lt, zz_le, zz_eq, zz_div, zz_md, zz_dv, zz_abs, zz_max, zz_min, zz_nI, zz_be0, zz_be1, zz_zb, zz_z, zz_l0, zz_l, zz_lcmp, zo_rf, zo_nl, zo_nn, zo_rI, zo_rL, zo_rR, zo_rV, Int.add_zero, Int.zero_add, Int.mul_zero, Int.zero_mul, Int.one_mul, Int.mul_one, if_true, if_false, not_true_eq_false, not_false_eq_true, zg_L_0, zp_L_0, zg_L_1, zp_L_1, zg_L_2, zp_L_2, zg_L_3, zp_L_3, zg_L_4, zp_L_4, zg_L_5, zp_L_5, zg_L_6, zp_L_6, zg_L_7, zp_L_7, zi_L, zr_L_8, za_L_1, zs_L_1, zr_L_9, za_L_2, zs_L_2, zr_L_10, za_L_3, zs_L_3, zr_L_11, za_L_4, zs_L_4, zr_L_12, za_L_5, zs_L_5, zr_L_13, za_L_6, zs_L_6, zr_L_14, za_L_7, zs_L_7, zr_L_15, za_L_8, zs_L_8, zr_L_16, za_L_9, zs_L_9, zr_L_17, za_L_10, zs_L_10, zr_L_18, za_L_11, zs_L_11, zr_L_19, za_L_12, zs_L_12]
      repeat' (first | exact zz_Er rfl | refine zz_Ei (fun h => ?_) (fun g => ?_))
      all_goals (exfalso; omega)
    · refine ⟨J2 78 1, J2, R1, ?_, hop, Or.inr ⟨hw, A2, _, _, hdg, rfl⟩⟩
      refine zz_c (zz_call (by omega) t_104 rfl (fun n => e_104 _ _ _) ?_)
      simp (maxSteps := 5000000) (disch := first | assumption | omega) only [m1, h14, c40, zi_78, zg_78_0, zg_78_1, zr_16_0, zr_16_1, zr_16_2, zr_16_3, zg_16_4, zp_16_4, zr_16_5, zr_16_6, zr_16_7, zr_16_8, zr_16_9, zr_16_10, zr_16_11, zr_16_12, zi_16, za_105, zs_105, zl_105, za_106, zs_106, zl_106, zl_107, za_114, zs_114, zl_114, zr_pl, za_pl, zs_pl, zl_pl, zz_0, zz_31, zz_add, zz_sub, zz_mul, zz_neg, zz_lt, zz_le, zz_eq, zz_div, zz_md, zz_dv, zz_abs, zz_max, zz_min, zz_nI, zz_be0, zz_be1, zz_zb, zz_z, zz_l0, zz_l, zz_lcmp, zo_rf, zo_nl, zo_nn, zo_rI, zo_rL, zo_rR, zo_rV, Int.add_zero, Int.zero_add, Int.mul_zero, Int.zero_mul, Int.one_mul, Int.mul_one, if_true, if_false, not_true_eq_false, not_false_eq_true, zg_L_0, zp_L_0, zg_L_1, zp_L_1, zg_L_2, zp_L_2, zg_L_3, zp_L_3, zg_L_4, zp_L_4, zg_L_5, zp_L_5, zg_L_6, zp_L_6, zg_L_7, zp_L_7, zi_L, zr_L_8, za_L_1, zs_L_1, zr_L_9, za_L_2, zs_L_2, zr_L_10, za_L_3, zs_L_3, zr_L_11, za_L_4, zs_L_4, zr_L_12, za_L_5, zs_L_5, zr_L_13, za_L_6, zs_L_6, zr_L_14, za_L_7, zs_L_7, zr_L_15, za_L_8, zs_L_8, zr_L_16, za_L_9, zs_L_9, zr_L_17, za_L_10, zs_L_10, zr_L_18, za_L_11, zs_L_11, zr_L_19, za_L_12, zs_L_12]
      repeat' (first | exact zz_Er rfl | refine zz_Ei (fun h => ?_) (fun g => ?_))
      all_goals (exfalso; omega)
  · refine ⟨-1, J, R, ?_, zk_op_0 hraw hR (fun _ _ => rfl) ⟨rfl, rfl, rfl⟩, Or.inl ⟨hw, rfl⟩⟩
    refine zz_c (zz_call (by omega) t_104 rfl (fun n => e_104 _ _ _) ?_)
    simp (maxSteps := 5000000) (disch := first | assumption | omega) only [zz_0, zz_31, zz_add, zz_sub, zz_mul, zz_neg, zz_lt, zz_le, zz_eq, zz_div, zz_md, zz_dv, zz_abs, zz_max, zz_min, zz_nI, zz_be0, zz_be1, zz_zb, zz_z, zz_l0, zz_l, zz_lcmp, zo_rf, zo_nl, zo_nn, zo_rI, zo_rL, zo_rR, zo_rV, Int.add_zero, Int.zero_add, Int.mul_zero, Int.zero_mul, Int.one_mul, Int.mul_one, if_true, if_false, not_true_eq_false, not_false_eq_true]
    refine zz_Ei (fun _ => zz_Er rfl) (fun g => ?_)
    refine zz_Ei (fun h => absurd (by omega) hw) (fun _ => zz_Er rfl)
theorem c_105 {e w : Int} (hd : 4 ≤ d) (hL : ZL T R) (hA : zz_ok Y A) (hR : zc_rep T R J 17 A) (h1 : -2147483648 ≤ e) (h2 : e ≤ 2147483647) (h3 : -2147483648 ≤ w) (h4 : w ≤ 2147483647) : mv_cax d 105 [.inr (.inr (some 16)), .inl (mv_c e), .inl (mv_c w)] (zz_S T J R G) = some (some (.inl (mv_c (zv_drawer A e w))), (zz_S T J R G)) := by
  have hn := hA.n
  have h7 := hA.2.2.2.2.2.2.1
  have c34 := c_34 (T := T) (J := J) (R := R) (G := G) (d := d - 1) (p := 17) (e := e) (by omega) hL (by omega) hA hR h1 h2
  by_cases he : 0 ≤ e ∧ e < A 7
  · obtain ⟨⟨a, a1, a2, a3, a4, a5, a6⟩, a8, -⟩ := hR.2.2.2 e he.1 he.2
    have a8 : J 25 e = A (42 + 15 * e) := a8
    rw [if_pos he, a1] at c34
    have hh : ∀ c, 0 ≤ c → c < A 0 * A 1 → J 21 c = zz_H A c := fun c c0 c1 => (hR.2.2.1 c c0 c1).1
    have c58 := c_58 (T := T) (J := J) (R := R) (G := G) (d := d - 1) (p := 17) (e := e) (g := 21) (by omega) hL (by omega) hA hR he.1 he.2 (hL.at 5 (by rfl)) (fun c c0 c1 => by rw [hh c c0 c1]; exact (hA.2.2.2.2.2.2.2.1 c c0 c1).1)
    have ew : zz_wo A (J 21) e = zz_wo A (zz_H A) e := by
      have hD := hA.2.2.2.2.2.2.2.2 e he.1 he.2
      exact zz_sum_c hD.2.2.1.1 (fun w w0 w1 => by
        have hW := (hD.2.2.2 w w0 w1).1
        show zz_wi A e w (J 21 (A (43 + 15 * e + 3 * w))) = zz_wi A e w (zz_H A (A (43 + 15 * e + 3 * w)))
        rw [hh _ hW.1 hW.2])
    rw [ew] at c58
    refine zz_c (zz_call (by omega) t_105 rfl (fun n => e_105 _ _ _ _) ?_)
    simp (maxSteps := 5000000) (disch := first | assumption | omega) only [c34, c58, zg_D_1, zg_D_2, a5, a6, a8, zr_16_0, zr_16_1, zr_16_2, zr_16_3, zg_16_4, zp_16_4, zr_16_5, zr_16_6, zr_16_7, zr_16_8, zr_16_9, zr_16_10, zr_16_11, zr_16_12, zi_16, za_105, zs_105, zl_105, za_106, zs_106, zl_106, zl_107, za_114, zs_114, zl_114, zr_pl, za_pl, zs_pl, zl_pl, zz_0, zz_31, zz_add, zz_sub, zz_mul, zz_neg, zz_lt, zz_le, zz_eq, zz_div, zz_md, zz_dv, zz_abs, zz_max, zz_min, zz_nI, zz_be0, zz_be1, zz_zb, zz_z, zz_l0, zz_l, zz_lcmp, zo_rf, zo_nl, zo_nn, zo_rI, zo_rL, zo_rR, zo_rV, Int.add_zero, Int.zero_add, Int.mul_zero, Int.zero_mul, Int.one_mul, Int.mul_one, if_true, if_false, not_true_eq_false, not_false_eq_true, zg_L_0, zp_L_0, zg_L_1, zp_L_1, zg_L_2, zp_L_2, zg_L_3, zp_L_3, zg_L_4, zp_L_4, zg_L_5, zp_L_5, zg_L_6, zp_L_6, zg_L_7, zp_L_7, zi_L, zr_L_8, za_L_1, zs_L_1, zr_L_9, za_L_2, zs_L_2, zr_L_10, za_L_3, zs_L_3, zr_L_11, za_L_4, zs_L_4, zr_L_12, za_L_5, zs_L_5, zr_L_13, za_L_6, zs_L_6, zr_L_14, za_L_7, zs_L_7, zr_L_15, za_L_8, zs_L_8, zr_L_16, za_L_9, zs_L_9, zr_L_17, za_L_10, zs_L_10, zr_L_18, za_L_11, zs_L_11, zr_L_19, za_L_12, zs_L_12]
    repeat' (first | (refine zz_Ei (fun h => ?_) (fun g => ?_)) | exact zz_Er (by simp (disch := first | assumption | omega) only [zv_drawer, if_pos, if_neg]))
  · rw [if_neg he] at c34
    refine zz_c (zz_call (by omega) t_105 rfl (fun n => e_105 _ _ _ _) ?_)
    simp (maxSteps := 5000000) (disch := first | assumption | omega) only [c34, zr_16_0, zr_16_1, zr_16_2, zr_16_3, zg_16_4, zp_16_4, zr_16_5, zr_16_6, zr_16_7, zr_16_8, zr_16_9, zr_16_10, zr_16_11, zr_16_12, zi_16, za_105, zs_105, zl_105, za_106, zs_106, zl_106, zl_107, za_114, zs_114, zl_114, zr_pl, za_pl, zs_pl, zl_pl, zz_0, zz_31, zz_add, zz_sub, zz_mul, zz_neg, zz_lt, zz_le, zz_eq, zz_div, zz_md, zz_dv, zz_abs, zz_max, zz_min, zz_nI, zz_be0, zz_be1, zz_zb, zz_z, zz_l0, zz_l, zz_lcmp, zo_rf, zo_nl, zo_nn, zo_rI, zo_rL, zo_rR, zo_rV, Int.add_zero, Int.zero_add, Int.mul_zero, Int.zero_mul, Int.one_mul, Int.mul_one, if_true, if_false, not_true_eq_false, not_false_eq_true, zg_L_0, zp_L_0, zg_L_1, zp_L_1, zg_L_2, zp_L_2, zg_L_3, zp_L_3, zg_L_4, zp_L_4, zg_L_5, zp_L_5, zg_L_6, zp_L_6, zg_L_7, zp_L_7, zi_L, zr_L_8, za_L_1, zs_L_1, zr_L_9, za_L_2, zs_L_2, zr_L_10, za_L_3, zs_L_3, zr_L_11, za_L_4, zs_L_4, zr_L_12, za_L_5, zs_L_5, zr_L_13, za_L_6, zs_L_6, zr_L_14, za_L_7, zs_L_7, zr_L_15, za_L_8, zs_L_8, zr_L_16, za_L_9, zs_L_9, zr_L_17, za_L_10, zs_L_10, zr_L_18, za_L_11, zs_L_11, zr_L_19, za_L_12, zs_L_12]
    exact zz_Er (by simp (disch := first | assumption | omega) only [zv_drawer, if_pos, if_neg])
theorem c_126 {k : Int} (hd : 1 ≤ d) (hL : ZL T R) (h1 : -2147483648 ≤ k) (h2 : k ≤ 2147483647) : mv_cax d 126 [.inr (.inr (some 16)), .inl (mv_c k)] (zz_S T J R G) = some (some (.inr (.inr (if 0 ≤ k ∧ k < 8 then some (115 + 2 * k.toNat) else none))), (zz_S T J R G)) := by
  by_cases h : 0 ≤ k ∧ k < 8
  · rw [if_pos h]
    refine zz_c (zz_call (by omega) t_126 rfl (fun n => e_126 _ _ _) ?_)
    simp (maxSteps := 5000000) (disch := first | assumption | omega) only [zr_sh, zg_H_1, zp_H_1, zg_H_2, zp_H_2, zg_H_3, zp_H_3, zr_H_0, zq_H_0, zr_H_4, zi_H, za_H, zs_H, zl_H, zz_0, zz_31, zz_add, zz_sub, zz_mul, zz_neg, zz_lt, zz_le, zz_eq, zz_div, zz_md, zz_dv, zz_abs, zz_max, zz_min, zz_nI, zz_be0, zz_be1, zz_zb, zz_z, zz_l0, zz_l, zz_lcmp, zo_rf, zo_nl, zo_nn, zo_rI, zo_rL, zo_rR, zo_rV, Int.add_zero, Int.zero_add, Int.mul_zero, Int.zero_mul, Int.one_mul, Int.mul_one, if_true, if_false, not_true_eq_false, not_false_eq_true, zr_16_0, zr_16_1, zr_16_2, zr_16_3, zg_16_4, zp_16_4, zr_16_5, zr_16_6, zr_16_7, zr_16_8, zr_16_9, zr_16_10, zr_16_11, zr_16_12, zi_16, za_105, zs_105, zl_105, za_106, zs_106, zl_106, zl_107, za_114, zs_114, zl_114, zr_pl, za_pl, zs_pl, zl_pl]
    refine zz_Ei (fun g => absurd g (by omega)) (fun _ => ?_)
    refine zz_Ei (fun g => absurd g (by omega)) (fun _ => ?_)
    exact zz_Er rfl
  · rw [if_neg h]
    refine zz_c (zz_call (by omega) t_126 rfl (fun n => e_126 _ _ _) ?_)
    simp (maxSteps := 5000000) (disch := first | assumption | omega) only [zz_0, zz_31, zz_add, zz_sub, zz_mul, zz_neg, zz_lt, zz_le, zz_eq, zz_div, zz_md, zz_dv, zz_abs, zz_max, zz_min, zz_nI, zz_be0, zz_be1, zz_zb, zz_z, zz_l0, zz_l, zz_lcmp, zo_rf, zo_nl, zo_nn, zo_rI, zo_rL, zo_rR, zo_rV, Int.add_zero, Int.zero_add, Int.mul_zero, Int.zero_mul, Int.one_mul, Int.mul_one, if_true, if_false, not_true_eq_false, not_false_eq_true]
    refine zz_Ei (fun g => zz_Er rfl) (fun g => ?_)
    refine zz_Ei (fun g => zz_Er rfl) (fun g => ?_)
    exact absurd (by omega) h
end ZCA2
