/-! PURE LAYER, 69: what calls say; the class's small calls -/
noncomputable def zv_cell (A : Int → Int) (c w : Int) : Int := if 0 ≤ c ∧ c < A 0 * A 1 then (if w = 0 then A (8 + c) else if w = 1 then zz_bit (A 6) c else if w = 2 then A (24 + c) else if w = 3 then zz_b (c ∈ zz_way A) else -1) else -1
def zv_state (A : Int → Int) (w : Int) : Int := if w = 0 then A 0 else if w = 1 then A 1 else if w = 2 then A 2 else if w = 3 then A 3 else if w = 4 then A 4 else if w = 5 then A 5 else -1
def zv_set (A : Int → Int) (w n : Int) : Int := if w = 0 ∧ 0 ≤ n ∧ n ≤ 999 then A 2 else if w = 1 ∧ 0 ≤ n ∧ n ≤ 2 then A 3 else -1
def zv_setA (A : Int → Int) (w n : Int) : Int → Int := if w = 0 ∧ 0 ≤ n ∧ n ≤ 999 then zz_f A 2 n else if w = 1 ∧ 0 ≤ n ∧ n ≤ 2 then zz_f A 3 n else A
def zv_says (A : Int → Int) (c h : Int) : Int := if (0 ≤ c ∧ c < A 0 * A 1) ∧ -1 ≤ h ∧ h ≤ 9 then A (24 + c) else -1
def zv_saysA (A : Int → Int) (c h : Int) : Int → Int := if (0 ≤ c ∧ c < A 0 * A 1) ∧ -1 ≤ h ∧ h ≤ 9 then zz_f A (24 + c) (if h < 0 then -4 else h) else A
noncomputable def zv_water (A : Int → Int) (w : Int) : Int := if w = 0 then zz_stn A else if w = 1 then ((zz_way A).length : Int) else if w = 2 then zz_b (zz_ls A) else -1
/-- whether a haul can be: 0, -1, -3 -/
noncomputable def zv_rf (A : Int → Int) (a b : Int) : Int := if (0 ≤ a ∧ a < A 0 * A 1) ∧ (0 ≤ b ∧ b < A 0 * A 1) ∧ a ≠ b then (@ite Int (zz_mh A a b) (Classical.propDecidable _) 0 (-3)) else -1
noncomputable def zv_hours (A : Int → Int) (a b : Int) : Int := if zv_rf A a b = 0 then zz_hh A a b else zv_rf A a b
noncomputable def zv_haulA (A : Int → Int) (a b : Int) : Int → Int := if zv_rf A a b = 0 then zz_mv A a b else A
def zv_fu (A : Int → Int) (v : Int) : Prop := (v = -4 ∧ ∀ c, 0 ≤ c → c < A 0 * A 1 → zz_tw A c = A (8 + c)) ∨ ((0 ≤ v ∧ v < A 0 * A 1) ∧ zz_tw A v ≠ A (8 + v) ∧ ∀ c, 0 ≤ c → c < v → zz_tw A c = A (8 + c))
theorem zv_fu_u {A : Int → Int} {v v' : Int} (h : zv_fu A v) (h' : zv_fu A v') : v = v' := by
  rcases h with ⟨p1, p2⟩ | ⟨p1, p2, p3⟩
  · rcases h' with ⟨q1, q2⟩ | ⟨q1, q2, q3⟩
    · omega
    · exact absurd (p2 _ q1.1 q1.2) q2
  · rcases h' with ⟨q1, q2⟩ | ⟨q1, q2, q3⟩
    · exact absurd (q2 _ p1.1 p1.2) p2
    · rcases Int.lt_trichotomy v v' with e | e | e
      · exact absurd (q3 v p1.1 e) p2
      · exact e
      · exact absurd (p3 v' q1.1 e) q2
def zv_like (A : Int → Int) (w v : Int) : Prop := (w = 0 ∧ zv_fu A v) ∨ (w = 1 ∧ v = zz_of A (fun c => A (24 + c))) ∨ (¬ (0 ≤ w ∧ w ≤ 1) ∧ v = -1)
theorem zv_like_u {A : Int → Int} {w v v' : Int} (h : zv_like A w v) (h' : zv_like A w v') : v = v' := by
  rcases h with ⟨p1, p2⟩ | ⟨p1, p2⟩ | ⟨p1, p2⟩
  · rcases h' with ⟨q1, q2⟩ | ⟨q1, q2⟩ | ⟨q1, q2⟩
    · exact zv_fu_u p2 q2
    · omega
    · omega
  · rcases h' with ⟨q1, q2⟩ | ⟨q1, q2⟩ | ⟨q1, q2⟩ <;> omega
  · rcases h' with ⟨q1, q2⟩ | ⟨q1, q2⟩ | ⟨q1, q2⟩ <;> omega
def zv_dig (A : Int → Int) (w v : Int) : Prop := (¬ (0 ≤ w ∧ w ≤ 2) ∧ v = -1) ∨ ((0 ≤ w ∧ w ≤ 2) ∧ ∃ A' l u, zz_dgd A A' l u ∧ v = if w = 0 then zz_of A' (fun c => A' (24 + c)) else if w = 1 then u else l)
theorem zv_dig_u {A : Int → Int} {w v v' : Int} (hn : 0 ≤ A 0 * A 1) (h : zv_dig A w v) (h' : zv_dig A w v') : v = v' := by
  rcases h with ⟨p1, p2⟩ | ⟨p1, A1, l1, u1, p2, p3⟩
  · rcases h' with ⟨q1, q2⟩ | ⟨q1, A2, l2, u2, q2, q3⟩
    · omega
    · exact absurd q1 p1
  · rcases h' with ⟨q1, q2⟩ | ⟨q1, A2, l2, u2, q2, q3⟩
    · exact absurd p1 q1
    · obtain ⟨rfl, rfl, rfl⟩ := zz_dgd_u hn p2 q2
      rw [p3, q3]
noncomputable def zv_drawer (A : Int → Int) (e w : Int) : Int := if 0 ≤ e ∧ e < A 7 then (if w = 0 then A (40 + 15 * e) else if w = 1 then A (41 + 15 * e) else if w = 2 then A (42 + 15 * e) else if w = 3 then zz_wo A (zz_H A) e else -1) else -1
/-- off: by what is wanted, by what is said -/
theorem zv_off {Y : Int} {A : Int → Int} (hA : zz_ok Y A) : zz_sum (fun c => ((A (8 + c) - zz_tw A c).natAbs : Int)) (A 0 * A 1) = zz_of A (fun c => A (24 + c)) := by
  have hn := hA.n
  refine zz_sum_c (by omega) (fun c c0 c1 => ?_)
  show ((A (8 + c) - zz_tw A c).natAbs : Int) = if A (24 + c) < 0 then 0 else ((A (8 + c) - A (24 + c)).natAbs : Int)
  unfold zz_tw
  split
  · omega
  · rfl
section ZCAL
variable {T : List mv_T} {J : Nat → Int → Int} {R : Nat → Nat → Option Nat} {G : Nat → Nat → Int64} {d p q : Nat} {Y : Int} {A : Int → Int}
theorem c_93 {c w : Int} (hd : 4 ≤ d) (hL : ZL T R) (hA : zz_ok Y A) (hR : zc_rep T R J 17 A) (hraw : ∀ p, Lnd p → zk_raw T R J p) (h1 : -2147483648 ≤ c) (h2 : c ≤ 2147483647) (h3 : -2147483648 ≤ w) (h4 : w ≤ 2147483647) : ∃ J', mv_cax d 93 [.inr (.inr (some 16)), .inl (mv_c c), .inl (mv_c w)] (zz_S T J R G) = some (some (.inl (mv_c (zv_cell A c w))), zz_S T J' R G) ∧ zk_op T R R J J' A := by
  have hn := hA.n
  have o0 : zk_op T R R J J A := zk_op_0 hraw hR (fun _ _ => rfl) ⟨rfl, rfl, rfl⟩
  have c33 := c_33 (T := T) (J := J) (R := R) (G := G) (d := d - 1) (p := 17) (c := c) (by omega) hL (by omega) hA hR h1 h2
  by_cases hc : 0 ≤ c ∧ c < A 0 * A 1
  · obtain ⟨q1, q2, q3⟩ := hR.2.2.1 c hc.1 hc.2
    have q1 : J 21 c = A (8 + c) := q1
    have q3 : J 23 c = zz_bit (A 6) c := q3
    have hb := zz_bit01 (A 6) c
    have c37 := c_37 (T := T) (J := J) (R := R) (G := G) (d := d - 1) (p := 17) (c := c) (by omega) hL (by omega) hA hR hc.1 hc.2
    by_cases hw3 : w = 3
    · subst hw3
      obtain ⟨O, c48⟩ := c_48 (T := T) (J := J) (R := R) (G := G) (d := d - 1) (p := 17) (c := c) (by omega) hL (by omega) hA hR hc.1 hc.2
      rw [zz_b_t hc] at c33
      refine ⟨zz_w J (17 + 12) O, ?_, zk_op_0 hraw (zc_rep_w (by omega) hR) (fun x hx => zw_n (by omega)) ⟨zw_n (by omega), zw_n (by omega), zw_n (by omega)⟩⟩
      by_cases hin : c ∈ zz_way A
      · rw [zz_b_t hin] at c48
        refine zz_c (zz_call (by omega) t_93 rfl (fun n => e_93 _ _ _ _) ?_)
        simp (maxSteps := 5000000) (disch := first | assumption | omega) only [c33, c48, zr_16_0, zr_16_1, zr_16_2, zr_16_3, zg_16_4, zp_16_4, zr_16_5, zr_16_6, zr_16_7, zr_16_8, zr_16_9, zr_16_10, zr_16_11, zr_16_12, zi_16, za_105, zs_105, zl_105, za_106, zs_106, zl_106, zl_107, za_114, zs_114, zl_114, zr_pl, za_pl, zs_pl, zl_pl, zz_0, zz_31, zz_add, zz_sub, zz_mul, zz_neg, zz_lt, zz_le, zz_eq, zz_div, zz_md, zz_dv, zz_abs, zz_max, zz_min, zz_nI, zz_be0, zz_be1, zz_zb, zz_z, zz_l0, zz_l, zz_lcmp, zo_rf, zo_nl, zo_nn, zo_rI, zo_rL, zo_rR, zo_rV, Int.add_zero, Int.zero_add, Int.mul_zero, Int.zero_mul, Int.one_mul, Int.mul_one, if_true, if_false, not_true_eq_false, not_false_eq_true, zg_L_0, zp_L_0, zg_L_1, zp_L_1, zg_L_2, zp_L_2, zg_L_3, zp_L_3, zg_L_4, zp_L_4, zg_L_5, zp_L_5, zg_L_6, zp_L_6, zg_L_7, zp_L_7, zi_L, zr_L_8, za_L_1, zs_L_1, zr_L_9, za_L_2, zs_L_2, zr_L_10, za_L_3, zs_L_3, zr_L_11, za_L_4, zs_L_4, zr_L_12, za_L_5, zs_L_5, zr_L_13, za_L_6, zs_L_6, zr_L_14, za_L_7, zs_L_7, zr_L_15, za_L_8, zs_L_8, zr_L_16, za_L_9, zs_L_9, zr_L_17, za_L_10, zs_L_10, zr_L_18, za_L_11, zs_L_11, zr_L_19, za_L_12, zs_L_12]
        repeat' (refine zz_Ei (fun h => absurd h (by omega)) (fun _ => ?_))
        exact zz_Er (by rw [zv_cell, if_pos hc, zz_b_t hin]; rfl)
      · rw [zz_b_f hin] at c48
        refine zz_c (zz_call (by omega) t_93 rfl (fun n => e_93 _ _ _ _) ?_)
        simp (maxSteps := 5000000) (disch := first | assumption | omega) only [c33, c48, zr_16_0, zr_16_1, zr_16_2, zr_16_3, zg_16_4, zp_16_4, zr_16_5, zr_16_6, zr_16_7, zr_16_8, zr_16_9, zr_16_10, zr_16_11, zr_16_12, zi_16, za_105, zs_105, zl_105, za_106, zs_106, zl_106, zl_107, za_114, zs_114, zl_114, zr_pl, za_pl, zs_pl, zl_pl, zz_0, zz_31, zz_add, zz_sub, zz_mul, zz_neg, zz_lt, zz_le, zz_eq, zz_div, zz_md, zz_dv, zz_abs, zz_max, zz_min, zz_nI, zz_be0, zz_be1, zz_zb, zz_z, zz_l0, zz_l, zz_lcmp, zo_rf, zo_nl, zo_nn, zo_rI, zo_rL, zo_rR, zo_rV, Int.add_zero, Int.zero_add, Int.mul_zero, Int.zero_mul, Int.one_mul, Int.mul_one, if_true, if_false, not_true_eq_false, not_false_eq_true, zg_L_0, zp_L_0, zg_L_1, zp_L_1, zg_L_2, zp_L_2, zg_L_3, zp_L_3, zg_L_4, zp_L_4, zg_L_5, zp_L_5, zg_L_6, zp_L_6, zg_L_7, zp_L_7, zi_L, zr_L_8, za_L_1, zs_L_1, zr_L_9, za_L_2, zs_L_2, zr_L_10, za_L_3, zs_L_3, zr_L_11, za_L_4, zs_L_4, zr_L_12, za_L_5, zs_L_5, zr_L_13, za_L_6, zs_L_6, zr_L_14, za_L_7, zs_L_7, zr_L_15, za_L_8, zs_L_8, zr_L_16, za_L_9, zs_L_9, zr_L_17, za_L_10, zs_L_10, zr_L_18, za_L_11, zs_L_11, zr_L_19, za_L_12, zs_L_12]
        exact zz_Er (by rw [zv_cell, if_pos hc, zz_b_f hin]; rfl)
    · rw [zz_b_t hc] at c33
      refine ⟨J, ?_, o0⟩
      refine zz_c (zz_call (by omega) t_93 rfl (fun n => e_93 _ _ _ _) ?_)
      simp (maxSteps := 5000000) (disch := first | assumption | omega) only [c33, c37, q1, q3, zr_16_0, zr_16_1, zr_16_2, zr_16_3, zg_16_4, zp_16_4, zr_16_5, zr_16_6, zr_16_7, zr_16_8, zr_16_9, zr_16_10, zr_16_11, zr_16_12, zi_16, za_105, zs_105, zl_105, za_106, zs_106, zl_106, zl_107, za_114, zs_114, zl_114, zr_pl, za_pl, zs_pl, zl_pl, zz_0, zz_31, zz_add, zz_sub, zz_mul, zz_neg, zz_lt, zz_le, zz_eq, zz_div, zz_md, zz_dv, zz_abs, zz_max, zz_min, zz_nI, zz_be0, zz_be1, zz_zb, zz_z, zz_l0, zz_l, zz_lcmp, zo_rf, zo_nl, zo_nn, zo_rI, zo_rL, zo_rR, zo_rV, Int.add_zero, Int.zero_add, Int.mul_zero, Int.zero_mul, Int.one_mul, Int.mul_one, if_true, if_false, not_true_eq_false, not_false_eq_true, zg_L_0, zp_L_0, zg_L_1, zp_L_1, zg_L_2, zp_L_2, zg_L_3, zp_L_3, zg_L_4, zp_L_4, zg_L_5, zp_L_5, zg_L_6, zp_L_6, zg_L_7, zp_L_7, zi_L, zr_L_8, za_L_1, zs_L_1, zr_L_9, za_L_2, zs_L_2, zr_L_10, za_L_3, zs_L_3, zr_L_11, za_L_4, zs_L_4, zr_L_12, za_L_5, zs_L_5, zr_L_13, za_L_6, zs_L_6, zr_L_14, za_L_7, zs_L_7, zr_L_15, za_L_8, zs_L_8, zr_L_16, za_L_9, zs_L_9, zr_L_17, za_L_10, zs_L_10, zr_L_18, za_L_11, zs_L_11, zr_L_19, za_L_12, zs_L_12]
      try (refine zz_Ei (fun h => absurd (show (1 : Int) = 0 from h) (by omega)) (fun _ => ?_))
      refine zz_Ei (fun h => ?_) (fun g0 => ?_)
      · exact zz_Er (by simp (disch := first | assumption | omega) only [zv_cell, if_pos, if_neg])
      refine zz_Ei (fun h => ?_) (fun g1 => ?_)
      · refine zz_Ei (fun h' => ?_) (fun h' => ?_)
        · exact zz_Er (by rw [zv_cell, if_pos hc, if_neg g0, if_pos h, h'])
        · exact zz_Er (by rw [zv_cell, if_pos hc, if_neg g0, if_pos h, show zz_bit (A 6) c = 1 by omega])
      refine zz_Ei (fun h => ?_) (fun g2 => ?_)
      · exact zz_Er (by simp (disch := first | assumption | omega) only [zv_cell, if_pos, if_neg])
      refine zz_Ei (fun h => absurd h hw3) (fun g3 => ?_)
      exact zz_Er (by simp (disch := first | assumption | omega) only [zv_cell, if_pos, if_neg])
  · rw [zz_b_f hc] at c33
    refine ⟨J, ?_, o0⟩
    refine zz_c (zz_call (by omega) t_93 rfl (fun n => e_93 _ _ _ _) ?_)
    simp (maxSteps := 5000000) (disch := first | assumption | omega) only [c33, zr_16_0, zr_16_1, zr_16_2, zr_16_3, zg_16_4, zp_16_4, zr_16_5, zr_16_6, zr_16_7, zr_16_8, zr_16_9, zr_16_10, zr_16_11, zr_16_12, zi_16, za_105, zs_105, zl_105, za_106, zs_106, zl_106, zl_107, za_114, zs_114, zl_114, zr_pl, za_pl, zs_pl, zl_pl, zz_0, zz_31, zz_add, zz_sub, zz_mul, zz_neg, zz_lt, zz_le, zz_eq, zz_div, zz_md, zz_dv, zz_abs, zz_max, zz_min, zz_nI, zz_be0, zz_be1, zz_zb, zz_z, zz_l0, zz_l, zz_lcmp, zo_rf, zo_nl, zo_nn, zo_rI, zo_rL, zo_rR, zo_rV, Int.add_zero, Int.zero_add, Int.mul_zero, Int.zero_mul, Int.one_mul, Int.mul_one, if_true, if_false, not_true_eq_false, not_false_eq_true, zg_L_0, zp_L_0, zg_L_1, zp_L_1, zg_L_2, zp_L_2, zg_L_3, zp_L_3, zg_L_4, zp_L_4, zg_L_5, zp_L_5, zg_L_6, zp_L_6, zg_L_7, zp_L_7, zi_L, zr_L_8, za_L_1, zs_L_1, zr_L_9, za_L_2, zs_L_2, zr_L_10, za_L_3, zs_L_3, zr_L_11, za_L_4, zs_L_4, zr_L_12, za_L_5, zs_L_5, zr_L_13, za_L_6, zs_L_6, zr_L_14, za_L_7, zs_L_7, zr_L_15, za_L_8, zs_L_8, zr_L_16, za_L_9, zs_L_9, zr_L_17, za_L_10, zs_L_10, zr_L_18, za_L_11, zs_L_11, zr_L_19, za_L_12, zs_L_12]
    exact zz_Er (by simp (disch := first | assumption | omega) only [zv_cell, if_pos, if_neg])
theorem c_94 {w : Int} (hd : 1 ≤ d) (hL : ZL T R) (hA : zz_ok Y A) (hR : zc_rep T R J 17 A) (h3 : -2147483648 ≤ w) (h4 : w ≤ 2147483647) : mv_cax d 94 [.inr (.inr (some 16)), .inl (mv_c w)] (zz_S T J R G) = some (some (.inl (mv_c (zv_state A w))), (zz_S T J R G)) := by
  obtain ⟨⟨r0, r1, -⟩, -⟩ := hR.1
  obtain ⟨r3, r4, r5, r6, -⟩ := hR.2.1
  refine zz_c (zz_call (by omega) t_94 rfl (fun n => e_94 _ _ _) ?_)
  simp (maxSteps := 5000000) (disch := first | assumption | omega) only [r0, r1, r3, r4, r5, r6, zr_16_0, zr_16_1, zr_16_2, zr_16_3, zg_16_4, zp_16_4, zr_16_5, zr_16_6, zr_16_7, zr_16_8, zr_16_9, zr_16_10, zr_16_11, zr_16_12, zi_16, za_105, zs_105, zl_105, za_106, zs_106, zl_106, zl_107, za_114, zs_114, zl_114, zr_pl, za_pl, zs_pl, zl_pl, zz_0, zz_31, zz_add, zz_sub, zz_mul, zz_neg, zz_lt, zz_le, zz_eq, zz_div, zz_md, zz_dv, zz_abs, zz_max, zz_min, zz_nI, zz_be0, zz_be1, zz_zb, zz_z, zz_l0, zz_l, zz_lcmp, zo_rf, zo_nl, zo_nn, zo_rI, zo_rL, zo_rR, zo_rV, Int.add_zero, Int.zero_add, Int.mul_zero, Int.zero_mul, Int.one_mul, Int.mul_one, if_true, if_false, not_true_eq_false, not_false_eq_true, zg_L_0, zp_L_0, zg_L_1, zp_L_1, zg_L_2, zp_L_2, zg_L_3, zp_L_3, zg_L_4, zp_L_4, zg_L_5, zp_L_5, zg_L_6, zp_L_6, zg_L_7, zp_L_7, zi_L, zr_L_8, za_L_1, zs_L_1, zr_L_9, za_L_2, zs_L_2, zr_L_10, za_L_3, zs_L_3, zr_L_11, za_L_4, zs_L_4, zr_L_12, za_L_5, zs_L_5, zr_L_13, za_L_6, zs_L_6, zr_L_14, za_L_7, zs_L_7, zr_L_15, za_L_8, zs_L_8, zr_L_16, za_L_9, zs_L_9, zr_L_17, za_L_10, zs_L_10, zr_L_18, za_L_11, zs_L_11, zr_L_19, za_L_12, zs_L_12]
  repeat' (first | (refine zz_Ei (fun h => ?_) (fun g => ?_)) | exact zz_Er (by simp (disch := first | assumption | omega) only [zv_state, if_pos, if_neg]))
theorem zk_op_h {J' : Nat → Int → Int} {A' : Int → Int} (hA : zz_ok Y A) (hR : zc_rep T R J 17 A) (hraw : ∀ p, Lnd p → zk_raw T R J p) (m : ∀ y, y < 2 ∨ (4 < y ∧ y < 8) ∨ 40 ≤ y → A' y = A y) (hf : ∀ x, x ≠ 17 → x ≠ 21 → x ≠ 22 → x ≠ 29 → J' x = J x) (hpf : ∀ y, y ≠ 4 → y ≠ 5 → y ≠ 6 → J' 17 y = J 17 y) (hps : J' 17 4 = A' 2 ∧ J' 17 5 = A' 3 ∧ J' 17 6 = A' 4) (h4 : ∀ c, 0 ≤ c → c < A 0 * A 1 → J' 21 c = A' (8 + c)) (h5 : ∀ c, 0 ≤ c → c < A 0 * A 1 → J' 22 c = zc_sd (A' (24 + c))) : zk_op T R R J J' A' :=
  zk_op_0 hraw (zc_rep_m (by omega) hR m (fun x x1 x2 x3 x4 => hf x (by omega) (by omega) (by omega) (by omega)) hpf hps h4 h5) (fun x hx => hf x (by omega) (by omega) (by omega) (by omega)) ⟨hf 23 (by omega) (by omega) (by omega) (by omega), hf 36 (by omega) (by omega) (by omega) (by omega), hf 49 (by omega) (by omega) (by omega) (by omega)⟩
theorem c_95 {w m : Int} (hd : 1 ≤ d) (hL : ZL T R) (hA : zz_ok Y A) (hR : zc_rep T R J 17 A) (hraw : ∀ p, Lnd p → zk_raw T R J p) (h1 : -2147483648 ≤ m) (h2 : m ≤ 2147483647) (h3 : -2147483648 ≤ w) (h4 : w ≤ 2147483647) : ∃ J', mv_cax d 95 [.inr (.inr (some 16)), .inl (mv_c w), .inl (mv_c m)] (zz_S T J R G) = some (some (.inl (mv_c (zv_set A w m))), zz_S T J' R G) ∧ zk_op T R R J J' (zv_setA A w m) := by
  have o0 : zk_op T R R J J A := zk_op_0 hraw hR (fun _ _ => rfl) ⟨rfl, rfl, rfl⟩
  obtain ⟨-, r4, r5, r6, -⟩ := hR.2.1
  by_cases hw0 : w = 0 ∧ 0 ≤ m ∧ m ≤ 999
  · rw [zv_set, zv_setA, if_pos hw0, if_pos hw0]
    refine ⟨zz_u J 17 4 m, ?_, zk_op_h hA hR hraw (fun y hy => zf_n (by omega)) (fun x x1 _ _ _ => zu_A x1) (fun y y4 _ _ => zu_k y4) ⟨by rw [zu_s, zf_s], by rw [zu_k (by omega), zf_n (by omega)]; exact r5, by rw [zu_k (by omega), zf_n (by omega)]; exact r6⟩ (fun c c0 c1 => by rw [zu_A (by omega), zf_n (by omega)]; exact (hR.2.2.1 c c0 c1).1) (fun c c0 c1 => by rw [zu_A (by omega), zf_n (by omega)]; exact (hR.2.2.1 c c0 c1).2.1)⟩
    refine zz_c (zz_call (by omega) t_95 rfl (fun n => e_95 _ _ _ _) ?_)
    simp (maxSteps := 5000000) (disch := first | assumption | omega) only [r4, zr_16_0, zr_16_1, zr_16_2, zr_16_3, zg_16_4, zp_16_4, zr_16_5, zr_16_6, zr_16_7, zr_16_8, zr_16_9, zr_16_10, zr_16_11, zr_16_12, zi_16, za_105, zs_105, zl_105, za_106, zs_106, zl_106, zl_107, za_114, zs_114, zl_114, zr_pl, za_pl, zs_pl, zl_pl, zz_0, zz_31, zz_add, zz_sub, zz_mul, zz_neg, zz_lt, zz_le, zz_eq, zz_div, zz_md, zz_dv, zz_abs, zz_max, zz_min, zz_nI, zz_be0, zz_be1, zz_zb, zz_z, zz_l0, zz_l, zz_lcmp, zo_rf, zo_nl, zo_nn, zo_rI, zo_rL, zo_rR, zo_rV, Int.add_zero, Int.zero_add, Int.mul_zero, Int.zero_mul, Int.one_mul, Int.mul_one, if_true, if_false, not_true_eq_false, not_false_eq_true, zg_L_0, zp_L_0, zg_L_1, zp_L_1, zg_L_2, zp_L_2, zg_L_3, zp_L_3, zg_L_4, zp_L_4, zg_L_5, zp_L_5, zg_L_6, zp_L_6, zg_L_7, zp_L_7, zi_L, zr_L_8, za_L_1, zs_L_1, zr_L_9, za_L_2, zs_L_2, zr_L_10, za_L_3, zs_L_3, zr_L_11, za_L_4, zs_L_4, zr_L_12, za_L_5, zs_L_5, zr_L_13, za_L_6, zs_L_6, zr_L_14, za_L_7, zs_L_7, zr_L_15, za_L_8, zs_L_8, zr_L_16, za_L_9, zs_L_9, zr_L_17, za_L_10, zs_L_10, zr_L_18, za_L_11, zs_L_11, zr_L_19, za_L_12, zs_L_12]
    refine zz_Ei (fun _ => ?_) (fun h => absurd hw0.1 h)
    refine zz_Ei (fun h => absurd h (by omega)) (fun _ => ?_)
    refine zz_Ei (fun h => absurd h (by omega)) (fun _ => ?_)
    exact zz_Er rfl
  · rw [zv_set, zv_setA, if_neg hw0, if_neg hw0]
    by_cases hw1 : w = 1 ∧ 0 ≤ m ∧ m ≤ 2
    · rw [if_pos hw1, if_pos hw1]
      refine ⟨zz_u J 17 5 m, ?_, zk_op_h hA hR hraw (fun y hy => zf_n (by omega)) (fun x x1 _ _ _ => zu_A x1) (fun y _ y5 _ => zu_k y5) ⟨by rw [zu_k (by omega), zf_n (by omega)]; exact r4, by rw [zu_s, zf_s], by rw [zu_k (by omega), zf_n (by omega)]; exact r6⟩ (fun c c0 c1 => by rw [zu_A (by omega), zf_n (by omega)]; exact (hR.2.2.1 c c0 c1).1) (fun c c0 c1 => by rw [zu_A (by omega), zf_n (by omega)]; exact (hR.2.2.1 c c0 c1).2.1)⟩
      refine zz_c (zz_call (by omega) t_95 rfl (fun n => e_95 _ _ _ _) ?_)
      simp (maxSteps := 5000000) (disch := first | assumption | omega) only [r5, zr_16_0, zr_16_1, zr_16_2, zr_16_3, zg_16_4, zp_16_4, zr_16_5, zr_16_6, zr_16_7, zr_16_8, zr_16_9, zr_16_10, zr_16_11, zr_16_12, zi_16, za_105, zs_105, zl_105, za_106, zs_106, zl_106, zl_107, za_114, zs_114, zl_114, zr_pl, za_pl, zs_pl, zl_pl, zz_0, zz_31, zz_add, zz_sub, zz_mul, zz_neg, zz_lt, zz_le, zz_eq, zz_div, zz_md, zz_dv, zz_abs, zz_max, zz_min, zz_nI, zz_be0, zz_be1, zz_zb, zz_z, zz_l0, zz_l, zz_lcmp, zo_rf, zo_nl, zo_nn, zo_rI, zo_rL, zo_rR, zo_rV, Int.add_zero, Int.zero_add, Int.mul_zero, Int.zero_mul, Int.one_mul, Int.mul_one, if_true, if_false, not_true_eq_false, not_false_eq_true, zg_L_0, zp_L_0, zg_L_1, zp_L_1, zg_L_2, zp_L_2, zg_L_3, zp_L_3, zg_L_4, zp_L_4, zg_L_5, zp_L_5, zg_L_6, zp_L_6, zg_L_7, zp_L_7, zi_L, zr_L_8, za_L_1, zs_L_1, zr_L_9, za_L_2, zs_L_2, zr_L_10, za_L_3, zs_L_3, zr_L_11, za_L_4, zs_L_4, zr_L_12, za_L_5, zs_L_5, zr_L_13, za_L_6, zs_L_6, zr_L_14, za_L_7, zs_L_7, zr_L_15, za_L_8, zs_L_8, zr_L_16, za_L_9, zs_L_9, zr_L_17, za_L_10, zs_L_10, zr_L_18, za_L_11, zs_L_11, zr_L_19, za_L_12, zs_L_12]
      refine zz_Ei (fun h => absurd h (by omega)) (fun _ => ?_)
      refine zz_Ei (fun _ => ?_) (fun h => absurd hw1.1 h)
      refine zz_Ei (fun h => absurd h (by omega)) (fun _ => ?_)
      refine zz_Ei (fun h => absurd h (by omega)) (fun _ => ?_)
      exact zz_Er rfl
    · rw [if_neg hw1, if_neg hw1]
      refine ⟨J, ?_, o0⟩
      refine zz_c (zz_call (by omega) t_95 rfl (fun n => e_95 _ _ _ _) ?_)
      simp (maxSteps := 5000000) (disch := first | assumption | omega) only [r4, r5, zr_16_0, zr_16_1, zr_16_2, zr_16_3, zg_16_4, zp_16_4, zr_16_5, zr_16_6, zr_16_7, zr_16_8, zr_16_9, zr_16_10, zr_16_11, zr_16_12, zi_16, za_105, zs_105, zl_105, za_106, zs_106, zl_106, zl_107, za_114, zs_114, zl_114, zr_pl, za_pl, zs_pl, zl_pl, zz_0, zz_31, zz_add, zz_sub, zz_mul, zz_neg, zz_lt, zz_le, zz_eq, zz_div, zz_md, zz_dv, zz_abs, zz_max, zz_min, zz_nI, zz_be0, zz_be1, zz_zb, zz_z, zz_l0, zz_l, zz_lcmp, zo_rf, zo_nl, zo_nn, zo_rI, zo_rL, zo_rR, zo_rV, Int.add_zero, Int.zero_add, Int.mul_zero, Int.zero_mul, Int.one_mul, Int.mul_one, if_true, if_false, not_true_eq_false, not_false_eq_true, zg_L_0, zp_L_0, zg_L_1, zp_L_1, zg_L_2, zp_L_2, zg_L_3, zp_L_3, zg_L_4, zp_L_4, zg_L_5, zp_L_5, zg_L_6, zp_L_6, zg_L_7, zp_L_7, zi_L, zr_L_8, za_L_1, zs_L_1, zr_L_9, za_L_2, zs_L_2, zr_L_10, za_L_3, zs_L_3, zr_L_11, za_L_4, zs_L_4, zr_L_12, za_L_5, zs_L_5, zr_L_13, za_L_6, zs_L_6, zr_L_14, za_L_7, zs_L_7, zr_L_15, za_L_8, zs_L_8, zr_L_16, za_L_9, zs_L_9, zr_L_17, za_L_10, zs_L_10, zr_L_18, za_L_11, zs_L_11, zr_L_19, za_L_12, zs_L_12]
      repeat' (first | (refine zz_Ei (fun h => ?_) (fun g => ?_)) | (exact zz_Er rfl) | (exfalso; omega))
theorem c_96 {c h : Int} (hd : 2 ≤ d) (hL : ZL T R) (hA : zz_ok Y A) (hR : zc_rep T R J 17 A) (hraw : ∀ p, Lnd p → zk_raw T R J p) (h1 : -2147483648 ≤ c) (h2 : c ≤ 2147483647) (h3 : -2147483648 ≤ h) (h4 : h ≤ 2147483647) : ∃ J', mv_cax d 96 [.inr (.inr (some 16)), .inl (mv_c c), .inl (mv_c h)] (zz_S T J R G) = some (some (.inl (mv_c (zv_says A c h))), zz_S T J' R G) ∧ zk_op T R R J J' (zv_saysA A c h) := by
  have hn := hA.n
  have o0 : zk_op T R R J J A := zk_op_0 hraw hR (fun _ _ => rfl) ⟨rfl, rfl, rfl⟩
  obtain ⟨-, r4, r5, r6, -⟩ := hR.2.1
  have c33 := c_33 (T := T) (J := J) (R := R) (G := G) (d := d - 1) (p := 17) (c := c) (by omega) hL (by omega) hA hR h1 h2
  by_cases hw0 : (0 ≤ c ∧ c < A 0 * A 1) ∧ -1 ≤ h ∧ h ≤ 9
  · rw [zv_says, zv_saysA, if_pos hw0, if_pos hw0]
    have c37 := c_37 (T := T) (J := J) (R := R) (G := G) (d := d - 1) (p := 17) (c := c) (by omega) hL (by omega) hA hR hw0.1.1 hw0.1.2
    rw [zz_b_t hw0.1] at c33
    refine ⟨zz_u J 22 c h, ?_, zk_op_h hA hR hraw (fun y hy => zf_n (by omega)) (fun x _ _ x3 _ => zu_A x3) (fun y _ _ _ => zu_a (by omega)) ⟨by rw [zu_A (by omega), zf_n (by omega)]; exact r4, by rw [zu_A (by omega), zf_n (by omega)]; exact r5, by rw [zu_A (by omega), zf_n (by omega)]; exact r6⟩ (fun c' c0 c1 => by rw [zu_A (by omega), zf_n (by omega)]; exact (hR.2.2.1 c' c0 c1).1) (fun c' c0 c1 => ?_)⟩
    · refine zz_c (zz_call (by omega) t_96 rfl (fun n => e_96 _ _ _ _) ?_)
      simp (maxSteps := 5000000) (disch := first | assumption | omega) only [c33, c37, zr_16_0, zr_16_1, zr_16_2, zr_16_3, zg_16_4, zp_16_4, zr_16_5, zr_16_6, zr_16_7, zr_16_8, zr_16_9, zr_16_10, zr_16_11, zr_16_12, zi_16, za_105, zs_105, zl_105, za_106, zs_106, zl_106, zl_107, za_114, zs_114, zl_114, zr_pl, za_pl, zs_pl, zl_pl, zz_0, zz_31, zz_add, zz_sub, zz_mul, zz_neg, zz_lt, zz_le, zz_eq, zz_div, zz_md, zz_dv, zz_abs, zz_max, zz_min, zz_nI, zz_be0, zz_be1, zz_zb, zz_z, zz_l0, zz_l, zz_lcmp, zo_rf, zo_nl, zo_nn, zo_rI, zo_rL, zo_rR, zo_rV, Int.add_zero, Int.zero_add, Int.mul_zero, Int.zero_mul, Int.one_mul, Int.mul_one, if_true, if_false, not_true_eq_false, not_false_eq_true, zg_L_0, zp_L_0, zg_L_1, zp_L_1, zg_L_2, zp_L_2, zg_L_3, zp_L_3, zg_L_4, zp_L_4, zg_L_5, zp_L_5, zg_L_6, zp_L_6, zg_L_7, zp_L_7, zi_L, zr_L_8, za_L_1, zs_L_1, zr_L_9, za_L_2, zs_L_2, zr_L_10, za_L_3, zs_L_3, zr_L_11, za_L_4, zs_L_4, zr_L_12, za_L_5, zs_L_5, zr_L_13, za_L_6, zs_L_6, zr_L_14, za_L_7, zs_L_7, zr_L_15, za_L_8, zs_L_8, zr_L_16, za_L_9, zs_L_9, zr_L_17, za_L_10, zs_L_10, zr_L_18, za_L_11, zs_L_11, zr_L_19, za_L_12, zs_L_12]
      try (refine zz_Ei (fun h => absurd (show (1 : Int) = 0 from h) (by omega)) (fun _ => ?_))
      refine zz_Ei (fun h => absurd h (by omega)) (fun _ => ?_)
      refine zz_Ei (fun _ => ?_) (fun h => absurd (by omega) h)
      exact zz_Er rfl
    · by_cases e : c' = c
      · rw [e, zu_s, zf_s]
        unfold zc_sd
        by_cases e' : h < 0
        · rw [if_pos e', if_pos (by omega)]
          omega
        · rw [if_neg e', if_neg e']
      · rw [zu_k e, zf_n (by omega)]
        exact (hR.2.2.1 c' c0 c1).2.1
  · rw [zv_says, zv_saysA, if_neg hw0, if_neg hw0]
    refine ⟨J, ?_, o0⟩
    refine zz_c (zz_call (by omega) t_96 rfl (fun n => e_96 _ _ _ _) ?_)
    simp (maxSteps := 5000000) (disch := first | assumption | omega) only [c33, zr_16_0, zr_16_1, zr_16_2, zr_16_3, zg_16_4, zp_16_4, zr_16_5, zr_16_6, zr_16_7, zr_16_8, zr_16_9, zr_16_10, zr_16_11, zr_16_12, zi_16, za_105, zs_105, zl_105, za_106, zs_106, zl_106, zl_107, za_114, zs_114, zl_114, zr_pl, za_pl, zs_pl, zl_pl, zz_0, zz_31, zz_add, zz_sub, zz_mul, zz_neg, zz_lt, zz_le, zz_eq, zz_div, zz_md, zz_dv, zz_abs, zz_max, zz_min, zz_nI, zz_be0, zz_be1, zz_zb, zz_z, zz_l0, zz_l, zz_lcmp, zo_rf, zo_nl, zo_nn, zo_rI, zo_rL, zo_rR, zo_rV, Int.add_zero, Int.zero_add, Int.mul_zero, Int.zero_mul, Int.one_mul, Int.mul_one, if_true, if_false, not_true_eq_false, not_false_eq_true, zg_L_0, zp_L_0, zg_L_1, zp_L_1, zg_L_2, zp_L_2, zg_L_3, zp_L_3, zg_L_4, zp_L_4, zg_L_5, zp_L_5, zg_L_6, zp_L_6, zg_L_7, zp_L_7, zi_L, zr_L_8, za_L_1, zs_L_1, zr_L_9, za_L_2, zs_L_2, zr_L_10, za_L_3, zs_L_3, zr_L_11, za_L_4, zs_L_4, zr_L_12, za_L_5, zs_L_5, zr_L_13, za_L_6, zs_L_6, zr_L_14, za_L_7, zs_L_7, zr_L_15, za_L_8, zs_L_8, zr_L_16, za_L_9, zs_L_9, zr_L_17, za_L_10, zs_L_10, zr_L_18, za_L_11, zs_L_11, zr_L_19, za_L_12, zs_L_12]
    refine zz_Ei (fun h => zz_Er rfl) (fun g => ?_)
    try rw [zz_be0] at g
    refine zz_Ei (fun h => zz_Er rfl) (fun g' => ?_)
    refine zz_Ei (fun h => ?_) (fun g' => zz_Er rfl)
    exfalso
    omega
theorem c_98 {w : Int} (hd : 3 ≤ d) (hL : ZL T R) (hA : zz_ok Y A) (hR : zc_rep T R J 17 A) (hraw : ∀ p, Lnd p → zk_raw T R J p) (h3 : -2147483648 ≤ w) (h4 : w ≤ 2147483647) : ∃ J', mv_cax d 98 [.inr (.inr (some 16)), .inl (mv_c w)] (zz_S T J R G) = some (some (.inl (mv_c (zv_water A w))), zz_S T J' R G) ∧ zk_op T R R J J' A := by
  have hs := zz_stn_r hA
  obtain ⟨O, c46, hO⟩ := c_46 (T := T) (J := J) (R := R) (G := G) (d := d - 1) (p := 17) (by omega) hL (by omega) hA hR
  have c47 := c_47 (T := T) (J := J) (R := R) (G := G) (d := d - 1) (p := 17) (by omega) hL (by omega) hA hO
  have c50 := c_50 (T := T) (J := zz_w J (17 + 12) O) (R := R) (G := G) (d := d - 1) (p := 17) (by omega) hL (by omega) hA (zc_rep_w (by omega) hR) hs.1 hs.2
  refine ⟨zz_w J (17 + 12) O, ?_, zk_op_0 hraw (zc_rep_w (by omega) hR) (fun x hx => zw_n (by omega)) ⟨zw_n (by omega), zw_n (by omega), zw_n (by omega)⟩⟩
  by_cases hls : zz_ls A
  · rw [zz_b_t (show (zz_stn A / A 1 = 0 ∨ zz_stn A % A 1 = 0 ∨ zz_stn A / A 1 = A 0 - 1 ∨ zz_stn A % A 1 = A 1 - 1) from hls)] at c50
    refine zz_c (zz_call (by omega) t_98 rfl (fun n => e_98 _ _ _) ?_)
    simp (maxSteps := 5000000) (disch := first | assumption | omega) only [c46, c47, c50, zr_16_0, zr_16_1, zr_16_2, zr_16_3, zg_16_4, zp_16_4, zr_16_5, zr_16_6, zr_16_7, zr_16_8, zr_16_9, zr_16_10, zr_16_11, zr_16_12, zi_16, za_105, zs_105, zl_105, za_106, zs_106, zl_106, zl_107, za_114, zs_114, zl_114, zr_pl, za_pl, zs_pl, zl_pl, zz_0, zz_31, zz_add, zz_sub, zz_mul, zz_neg, zz_lt, zz_le, zz_eq, zz_div, zz_md, zz_dv, zz_abs, zz_max, zz_min, zz_nI, zz_be0, zz_be1, zz_zb, zz_z, zz_l0, zz_l, zz_lcmp, zo_rf, zo_nl, zo_nn, zo_rI, zo_rL, zo_rR, zo_rV, Int.add_zero, Int.zero_add, Int.mul_zero, Int.zero_mul, Int.one_mul, Int.mul_one, if_true, if_false, not_true_eq_false, not_false_eq_true, zg_L_0, zp_L_0, zg_L_1, zp_L_1, zg_L_2, zp_L_2, zg_L_3, zp_L_3, zg_L_4, zp_L_4, zg_L_5, zp_L_5, zg_L_6, zp_L_6, zg_L_7, zp_L_7, zi_L, zr_L_8, za_L_1, zs_L_1, zr_L_9, za_L_2, zs_L_2, zr_L_10, za_L_3, zs_L_3, zr_L_11, za_L_4, zs_L_4, zr_L_12, za_L_5, zs_L_5, zr_L_13, za_L_6, zs_L_6, zr_L_14, za_L_7, zs_L_7, zr_L_15, za_L_8, zs_L_8, zr_L_16, za_L_9, zs_L_9, zr_L_17, za_L_10, zs_L_10, zr_L_18, za_L_11, zs_L_11, zr_L_19, za_L_12, zs_L_12]
    refine zz_Ei (fun h => ?_) (fun g0 => ?_)
    · exact zz_Er (by simp (disch := first | assumption | omega) only [zv_water, if_pos, if_neg])
    refine zz_Ei (fun h => ?_) (fun g1 => ?_)
    · exact zz_Er (by simp (disch := first | assumption | omega) only [zv_water, if_pos, if_neg])
    refine zz_Ei (fun h => ?_) (fun g2 => ?_)
    · try (refine zz_Ei (fun h => absurd (show (1 : Int) = 0 from h) (by omega)) (fun _ => ?_))
      exact zz_Er (by rw [zv_water, if_neg g0, if_neg g1, if_pos h, zz_b_t hls])
    exact zz_Er (by simp (disch := first | assumption | omega) only [zv_water, if_pos, if_neg])
  · rw [zz_b_f (show ¬ (zz_stn A / A 1 = 0 ∨ zz_stn A % A 1 = 0 ∨ zz_stn A / A 1 = A 0 - 1 ∨ zz_stn A % A 1 = A 1 - 1) from hls)] at c50
    refine zz_c (zz_call (by omega) t_98 rfl (fun n => e_98 _ _ _) ?_)
    simp (maxSteps := 5000000) (disch := first | assumption | omega) only [c46, c47, c50, zr_16_0, zr_16_1, zr_16_2, zr_16_3, zg_16_4, zp_16_4, zr_16_5, zr_16_6, zr_16_7, zr_16_8, zr_16_9, zr_16_10, zr_16_11, zr_16_12, zi_16, za_105, zs_105, zl_105, za_106, zs_106, zl_106, zl_107, za_114, zs_114, zl_114, zr_pl, za_pl, zs_pl, zl_pl, zz_0, zz_31, zz_add, zz_sub, zz_mul, zz_neg, zz_lt, zz_le, zz_eq, zz_div, zz_md, zz_dv, zz_abs, zz_max, zz_min, zz_nI, zz_be0, zz_be1, zz_zb, zz_z, zz_l0, zz_l, zz_lcmp, zo_rf, zo_nl, zo_nn, zo_rI, zo_rL, zo_rR, zo_rV, Int.add_zero, Int.zero_add, Int.mul_zero, Int.zero_mul, Int.one_mul, Int.mul_one, if_true, if_false, not_true_eq_false, not_false_eq_true, zg_L_0, zp_L_0, zg_L_1, zp_L_1, zg_L_2, zp_L_2, zg_L_3, zp_L_3, zg_L_4, zp_L_4, zg_L_5, zp_L_5, zg_L_6, zp_L_6, zg_L_7, zp_L_7, zi_L, zr_L_8, za_L_1, zs_L_1, zr_L_9, za_L_2, zs_L_2, zr_L_10, za_L_3, zs_L_3, zr_L_11, za_L_4, zs_L_4, zr_L_12, za_L_5, zs_L_5, zr_L_13, za_L_6, zs_L_6, zr_L_14, za_L_7, zs_L_7, zr_L_15, za_L_8, zs_L_8, zr_L_16, za_L_9, zs_L_9, zr_L_17, za_L_10, zs_L_10, zr_L_18, za_L_11, zs_L_11, zr_L_19, za_L_12, zs_L_12]
    refine zz_Ei (fun h => ?_) (fun g0 => ?_)
    · exact zz_Er (by simp (disch := first | assumption | omega) only [zv_water, if_pos, if_neg])
    refine zz_Ei (fun h => ?_) (fun g1 => ?_)
    · exact zz_Er (by simp (disch := first | assumption | omega) only [zv_water, if_pos, if_neg])
    refine zz_Ei (fun h => ?_) (fun g2 => ?_)
    · exact zz_Er (by rw [zv_water, if_neg g0, if_neg g1, if_pos h, zz_b_f hls])
    exact zz_Er (by simp (disch := first | assumption | omega) only [zv_water, if_pos, if_neg])
end ZCAL
