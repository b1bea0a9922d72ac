/-! PURE LAYER, 68: the class: rings, what a drawer draws -/
theorem zc_rep_R {T : List mv_T} {R R' : Nat → Nat → Option Nat} {J : Nat → Int → Int} {p : Nat} {A : Int → Int} (h : zc_rep T R J p A) (h7 : ∀ k, R' (p + 7) k = R (p + 7) k) : zc_rep T R' J p A := by
  obtain ⟨r1, r2, r3, r4⟩ := h
  exact ⟨r1, r2, r3, fun e e0 e1 => by
    obtain ⟨⟨a, q1, q2⟩, q3⟩ := r4 e e0 e1
    exact ⟨⟨a, by rw [h7]; exact q1, q2⟩, q3⟩⟩
section ZRNG
variable {T : List mv_T} {J : Nat → Int → Int} {R : Nat → Nat → Option Nat} {G : Nat → Nat → Int64} {d p q : Nat} {Y : Int} {A : Int → Int}
theorem c_109 (hd : 10 ≤ d) (hL : ZL T R) (hA : zz_ok Y A) (hY : Y + 100 ≤ 1000000000) (hR : zc_rep T R J 17 A) (hraw : ∀ p, Lnd p → zk_raw T R J p) : ∃ v J' R', mv_cax d 109 [.inr (.inr (some 16))] (zz_S T J R G) = some (some (.inl (mv_c v)), zz_S T J' R' G) ∧ zk_op T R R' J J' A ∧ ((A 7 = 0 ∧ v = -3) ∨ (A 7 ≠ 0 ∧ v = zz_rgf (zz_H (zz_it 60 A)) 30 (zz_it 60 A))) := by
  have hn := hA.n
  have h7 := hA.2.2.2.2.2.2.1
  have hy := hA.2.2.2.1
  have e7 := hR.2.1.2.2.2.2
  by_cases hz : A 7 = 0
  · refine ⟨-3, J, R, ?_, zk_op_0 hraw hR (fun _ _ => rfl) ⟨rfl, rfl, rfl⟩, Or.inl ⟨hz, rfl⟩⟩
    rw [hz] at e7
    refine zz_c (zz_call (by omega) t_109 rfl (fun n => e_109 _ _) ?_)
    simp (maxSteps := 5000000) (disch := first | assumption | omega) only [e7, zr_16_0, zr_16_1, zr_16_2, zr_16_3, zg_16_4, zp_16_4, zr_16_5, zr_16_6, zr_16_7, zr_16_8, zr_16_9, zr_16_10, zr_16_11, zr_16_12, zi_16, za_105, zs_105, zl_105, za_106, zs_106, zl_106, zl_107, za_114, zs_114, zl_114, zr_pl, za_pl, zs_pl, zl_pl, zz_0, zz_31, zz_add, zz_sub, zz_mul, zz_neg, zz_lt, zz_le, zz_eq, zz_div, zz_md, zz_dv, zz_abs, zz_max, zz_min, zz_nI, zz_be0, zz_be1, zz_zb, zz_z, zz_l0, zz_l, zz_lcmp, zo_rf, zo_nl, zo_nn, zo_rI, zo_rL, zo_rR, zo_rV, Int.add_zero, Int.zero_add, Int.mul_zero, Int.zero_mul, Int.one_mul, Int.mul_one, if_true, if_false, not_true_eq_false, not_false_eq_true, zg_L_0, zp_L_0, zg_L_1, zp_L_1, zg_L_2, zp_L_2, zg_L_3, zp_L_3, zg_L_4, zp_L_4, zg_L_5, zp_L_5, zg_L_6, zp_L_6, zg_L_7, zp_L_7, zi_L, zr_L_8, za_L_1, zs_L_1, zr_L_9, za_L_2, zs_L_2, zr_L_10, za_L_3, zs_L_3, zr_L_11, za_L_4, zs_L_4, zr_L_12, za_L_5, zs_L_5, zr_L_13, za_L_6, zs_L_6, zr_L_14, za_L_7, zs_L_7, zr_L_15, za_L_8, zs_L_8, zr_L_16, za_L_9, zs_L_9, zr_L_17, za_L_10, zs_L_10, zr_L_18, za_L_11, zs_L_11, zr_L_19, za_L_12, zs_L_12]
    exact zz_Er rfl
  · suffices h : ∃ r, mv_cax d 109 [.inr (.inr (some 16))] (zz_S T J R G) = some r ∧ ∃ J' R', r = (some (.inl (mv_c (zz_rgf (zz_H (zz_it 60 A)) 30 (zz_it 60 A)))), zz_S T J' R' G) ∧ zk_op T R R' J J' A by
      obtain ⟨r, h1, J', R', rfl, h2⟩ := h
      exact ⟨_, J', R', h1, h2, Or.inr ⟨hz, rfl⟩⟩
    refine zz_call (by omega) t_109 rfl (fun n => e_109 _ _) ?_
    obtain ⟨J1, R1, m1, hL1, hR30, hR17, m2, m3, m4⟩ := zk_mind (T := T) (J := J) (R := R) (G := G) (d := d - 1) (by omega) hL hA hR hraw
    simp (maxSteps := 5000000) (disch := first | assumption | omega) only [e7, m1, zr_16_0, zr_16_1, zr_16_2, zr_16_3, zg_16_4, zp_16_4, zr_16_5, zr_16_6, zr_16_7, zr_16_8, zr_16_9, zr_16_10, zr_16_11, zr_16_12, zi_16, za_105, zs_105, zl_105, za_106, zs_106, zl_106, zl_107, za_114, zs_114, zl_114, zr_pl, za_pl, zs_pl, zl_pl, zz_0, zz_31, zz_add, zz_sub, zz_mul, zz_neg, zz_lt, zz_le, zz_eq, zz_div, zz_md, zz_dv, zz_abs, zz_max, zz_min, zz_nI, zz_be0, zz_be1, zz_zb, zz_z, zz_l0, zz_l, zz_lcmp, zo_rf, zo_nl, zo_nn, zo_rI, zo_rL, zo_rR, zo_rV, Int.add_zero, Int.zero_add, Int.mul_zero, Int.zero_mul, Int.one_mul, Int.mul_one, if_true, if_false, not_true_eq_false, not_false_eq_true, zg_L_0, zp_L_0, zg_L_1, zp_L_1, zg_L_2, zp_L_2, zg_L_3, zp_L_3, zg_L_4, zp_L_4, zg_L_5, zp_L_5, zg_L_6, zp_L_6, zg_L_7, zp_L_7, zi_L, zr_L_8, za_L_1, zs_L_1, zr_L_9, za_L_2, zs_L_2, zr_L_10, za_L_3, zs_L_3, zr_L_11, za_L_4, zs_L_4, zr_L_12, za_L_5, zs_L_5, zr_L_13, za_L_6, zs_L_6, zr_L_14, za_L_7, zs_L_7, zr_L_15, za_L_8, zs_L_8, zr_L_16, za_L_9, zs_L_9, zr_L_17, za_L_10, zs_L_10, zr_L_18, za_L_11, zs_L_11, zr_L_19, za_L_12, zs_L_12]
    refine zz_Ei (fun _ => ?_) (fun h => absurd (by omega) h)
    generalize hW : zz_it 60 A = W
    generalize hV : zz_rgf (zz_H W) 30 W = V
    have hit : ∀ k A, zz_it (k + 1) A = zz_it k (zz_yn A) := fun _ _ => rfl
    -- the thirty years behind
    have k2 : ∀ (R2 : Nat → Nat → Option Nat) (J2 : Nat → Int → Int), ZL T R2 → zc_rep T R2 J2 17 A → (∀ x, (x < 17 ∨ (56 ≤ x ∧ x ≤ 67) ∨ 115 ≤ x) → J2 x = J x) → (∀ x k, x ≠ 37 → x ≠ 50 → R2 x k = R x k) → (∀ p, Lnd p → zk_raw T R2 J2 p) → (∀ c, 0 ≤ c → c < A 0 * A 1 → J2 47 c = zz_H W c ∧ 0 ≤ J2 47 c ∧ J2 47 c ≤ 9) → ∀ (k : Nat) (B : Int → Int) (J3 : Nat → Int → Int), k ≤ 30 → zk_mf J2 J3 → zc_rep T R2 J3 30 B → zz_ok (Y + 60 + (30 - k)) B → (∀ y, (y < 4 ∨ 4 < y ∧ y < 8 ∨ 40 ≤ y) → B y = A y) → zz_rgf (zz_H W) k B = V → zz_E (fun n => mv_run (mv_cax (d - 1)) mm_109 n 72 [(0, .inr (.inr (some 16))), (1, .inl (mv_c (A 7))), (2, .inl (mv_c (31 - k)))] [] (zz_S T J3 R2 G)) (fun r => ∃ J' R', r = (some (.inl (mv_c V)), zz_S T J' R' G) ∧ zk_op T R R' J J' A) := by
      intro R2 J2 hL2 h17 hf2 hr2 hraw2 h47 k
      have fin : ∀ J3, zk_mf J2 J3 → ∃ J' R', ((some (.inl (mv_c V)), zz_S T J3 R2 G) : Option mv_V × mv_S) = (some (.inl (mv_c V)), zz_S T J' R' G) ∧ zk_op T R R' J J' A := fun J3 h => ⟨J3, R2, rfl, zc_rep_f h17 (fun x hx => h x (by omega)), fun x hx => by rw [h x (by omega), hf2 x hx], hr2, fun p hp => zk_raw_f (hraw2 p hp) (fun c _ _ => by rw [h _ (by rcases hp with rfl | rfl | rfl | rfl <;> omega)]) (fun _ _ => rfl)⟩
      induction k with
      | zero =>
        intro B J3 hk g1 g2 g3 gA g4
        have g4 : -4 = V := g4
        refine zz_Es (fun n => e_109_72 _ _ _ _) ?_
        simp (maxSteps := 5000000) (disch := first | assumption | omega) only [zr_16_0, zr_16_1, zr_16_2, zr_16_3, zg_16_4, zp_16_4, zr_16_5, zr_16_6, zr_16_7, zr_16_8, zr_16_9, zr_16_10, zr_16_11, zr_16_12, zi_16, za_105, zs_105, zl_105, za_106, zs_106, zl_106, zl_107, za_114, zs_114, zl_114, zr_pl, za_pl, zs_pl, zl_pl, zz_0, zz_31, zz_add, zz_sub, zz_mul, zz_neg, zz_lt, zz_le, zz_eq, zz_div, zz_md, zz_dv, zz_abs, zz_max, zz_min, zz_nI, zz_be0, zz_be1, zz_zb, zz_z, zz_l0, zz_l, zz_lcmp, zo_rf, zo_nl, zo_nn, zo_rI, zo_rL, zo_rR, zo_rV, Int.add_zero, Int.zero_add, Int.mul_zero, Int.zero_mul, Int.one_mul, Int.mul_one, if_true, if_false, not_true_eq_false, not_false_eq_true, zg_L_0, zp_L_0, zg_L_1, zp_L_1, zg_L_2, zp_L_2, zg_L_3, zp_L_3, zg_L_4, zp_L_4, zg_L_5, zp_L_5, zg_L_6, zp_L_6, zg_L_7, zp_L_7, zi_L, zr_L_8, za_L_1, zs_L_1, zr_L_9, za_L_2, zs_L_2, zr_L_10, za_L_3, zs_L_3, zr_L_11, za_L_4, zs_L_4, zr_L_12, za_L_5, zs_L_5, zr_L_13, za_L_6, zs_L_6, zr_L_14, za_L_7, zs_L_7, zr_L_15, za_L_8, zs_L_8, zr_L_16, za_L_9, zs_L_9, zr_L_17, za_L_10, zs_L_10, zr_L_18, za_L_11, zs_L_11, zr_L_19, za_L_12, zs_L_12]
        refine zz_Ei (fun _ => ?_) (fun h => absurd (by omega) h)
        rw [g4]
        exact zz_Er (fin J3 g1)
      | succ k ih =>
        intro B J3 hk g1 g2 g3 gA g4
        have g7 : B 7 = A 7 := gA 7 (by omega)
        have hm := zz_yn_y (A := B) (by omega)
        have g24 := g3.2.2.2.1
        obtain ⟨J4, v1, v2, v3, v4, v5⟩ := zk_year (T := T) (R := R2) (G := G) (d := d - 1) (Y := Y + 60 + (30 - ((k + 1 : Nat) : Int))) (B := B) (e := B 4 % B 7) (J1 := J2) (J2 := J3) (by omega) hL2 g3 (by omega) g2 g1 hm.1 hm.2
        have e6 : J3 30 6 = B 4 := g2.2.1.2.2.2.1
        have hob := zk_ofb g3 v3 (v4 0 (by omega)) (v4 1 (by omega))
        have y0 : zz_yn B 0 = A 0 := by rw [show zz_yn B = zz_yf B (B 4 % B 7) from rfl, v4 0 (by omega), gA 0 (by omega)]
        have y1 : zz_yn B 1 = A 1 := by rw [show zz_yn B = zz_yf B (B 4 % B 7) from rfl, v4 1 (by omega), gA 1 (by omega)]
        have j47 : J4 47 = J2 47 := v5 47 (by omega)
        have h41 := c_41 (T := T) (J := J4) (R := R2) (G := G) (d := d - 1) (p := 30) (A := zz_yn B) (g := 47) (by omega) hL2 (by omega) v3 v2 (hL2.at 31 (by rfl)) (fun c c0 c1 => by
          rw [y0, y1] at c1
          rw [j47]
          exact (h47 c c0 c1).2)
        have hof : zz_sum (fun c => ((zz_yn B (8 + c) - J4 47 c).natAbs : Int)) (zz_yn B 0 * zz_yn B 1) = zz_of (zz_yn B) (zz_H W) := by
          unfold zz_of
          rw [y0, y1]
          refine zz_sum_c (by omega) (fun c c0 c1 => ?_)
          have hc := h47 c c0 c1
          show ((zz_yn B (8 + c) - J4 47 c).natAbs : Int) = if zz_H W c < 0 then 0 else ((zz_yn B (8 + c) - zz_H W c).natAbs : Int)
          rw [j47, ← hc.1, if_neg (by omega)]
        rw [hof] at h41
        have hob2 : 0 ≤ zz_of (zz_yn B) (zz_H W) ∧ zz_of (zz_yn B) (zz_H W) ≤ 144 := zz_of_b v3 (fun c c0 c1 => by
          have c1 : c < zz_yn B 0 * zz_yn B 1 := c1
          rw [y0, y1] at c1
          have := h47 c c0 c1
          omega)
        rw [g7] at v1
        unfold zz_rgf at g4
        refine zz_Es (fun n => e_109_72 _ _ _ _) ?_
        simp (maxSteps := 5000000) (disch := first | assumption | omega) only [e6, v1, h41, zr_16_0, zr_16_1, zr_16_2, zr_16_3, zg_16_4, zp_16_4, zr_16_5, zr_16_6, zr_16_7, zr_16_8, zr_16_9, zr_16_10, zr_16_11, zr_16_12, zi_16, za_105, zs_105, zl_105, za_106, zs_106, zl_106, zl_107, za_114, zs_114, zl_114, zr_pl, za_pl, zs_pl, zl_pl, zz_0, zz_31, zz_add, zz_sub, zz_mul, zz_neg, zz_lt, zz_le, zz_eq, zz_div, zz_md, zz_dv, zz_abs, zz_max, zz_min, zz_nI, zz_be0, zz_be1, zz_zb, zz_z, zz_l0, zz_l, zz_lcmp, zo_rf, zo_nl, zo_nn, zo_rI, zo_rL, zo_rR, zo_rV, Int.add_zero, Int.zero_add, Int.mul_zero, Int.zero_mul, Int.one_mul, Int.mul_one, if_true, if_false, not_true_eq_false, not_false_eq_true, zg_L_0, zp_L_0, zg_L_1, zp_L_1, zg_L_2, zp_L_2, zg_L_3, zp_L_3, zg_L_4, zp_L_4, zg_L_5, zp_L_5, zg_L_6, zp_L_6, zg_L_7, zp_L_7, zi_L, zr_L_8, za_L_1, zs_L_1, zr_L_9, za_L_2, zs_L_2, zr_L_10, za_L_3, zs_L_3, zr_L_11, za_L_4, zs_L_4, zr_L_12, za_L_5, zs_L_5, zr_L_13, za_L_6, zs_L_6, zr_L_14, za_L_7, zs_L_7, zr_L_15, za_L_8, zs_L_8, zr_L_16, za_L_9, zs_L_9, zr_L_17, za_L_10, zs_L_10, zr_L_18, za_L_11, zs_L_11, zr_L_19, za_L_12, zs_L_12]
        refine zz_Ei (fun h => absurd h (by omega)) (fun _ => ?_)
        refine zz_Ei (fun h => ?_) (fun h => ?_)
        · rw [if_pos h] at g4
          rw [show 31 - ((k + 1 : Nat) : Int) = V by omega]
          exact zz_Er (fin J4 v5)
        · rw [if_neg h] at g4
          rw [show 31 - ((k + 1 : Nat) : Int) + 1 = 31 - (k : Int) by omega]
          refine ih (zz_yn B) J4 (by omega) v5 v2 ?_ (fun y hy => by rw [show zz_yn B = zz_yf B (B 4 % B 7) from rfl, v4 y hy, gA y hy]) g4
          rw [show Y + 60 + (30 - (k : Int)) = Y + 60 + (30 - ((k + 1 : Nat) : Int)) + 1 by omega]
          exact v3
    have k1 : ∀ (k : Nat) (B : Int → Int) (J2 : Nat → Int → Int), k ≤ 60 → zk_mf J1 J2 → zc_rep T R1 J2 30 B → zz_ok (Y + (60 - k)) B → (∀ y, (y < 4 ∨ 4 < y ∧ y < 8 ∨ 40 ≤ y) → B y = A y) → zz_it k B = W → zz_E (fun n => mv_run (mv_cax (d - 1)) mm_109 n 29 [(0, .inr (.inr (some 16))), (1, .inl (mv_c (A 7))), (2, .inl (mv_c (60 - k)))] [] (zz_S T J2 R1 G)) (fun r => ∃ J' R', r = (some (.inl (mv_c V)), zz_S T J' R' G) ∧ zk_op T R R' J J' A) := by
      intro k
      induction k with
      | zero =>
        intro B J2 hk g1 g2 g3 gA g4
        have g4 : B = W := g4
        subst g4
        have hraw2 : ∀ p, Lnd p → zk_raw T R1 J2 p := fun p hp => zk_raw_f (m4 p hp) (fun c _ _ => by rw [g1 _ (by rcases hp with rfl | rfl | rfl | rfl <;> omega)]) (fun _ _ => rfl)
        obtain ⟨J3, R2, h32, hc, hf, hr⟩ := c_32 (T := T) (J := J2) (R := R1) (G := G) (d := d - 1) (p := 30) (q := 43) (by omega) hL1 (by omega) (by omega) (by omega) (hraw2 30 (by omega))
        have hL2 : ZL T R2 := ZL_R hL1 (fun x k x1 x2 x3 x4 x5 => hr x k (by omega))
        refine zz_Es (fun n => e_109_29 _ _ _ _) ?_
        simp (maxSteps := 5000000) (disch := first | assumption | omega) only [h32, zr_16_0, zr_16_1, zr_16_2, zr_16_3, zg_16_4, zp_16_4, zr_16_5, zr_16_6, zr_16_7, zr_16_8, zr_16_9, zr_16_10, zr_16_11, zr_16_12, zi_16, za_105, zs_105, zl_105, za_106, zs_106, zl_106, zl_107, za_114, zs_114, zl_114, zr_pl, za_pl, zs_pl, zl_pl, zz_0, zz_31, zz_add, zz_sub, zz_mul, zz_neg, zz_lt, zz_le, zz_eq, zz_div, zz_md, zz_dv, zz_abs, zz_max, zz_min, zz_nI, zz_be0, zz_be1, zz_zb, zz_z, zz_l0, zz_l, zz_lcmp, zo_rf, zo_nl, zo_nn, zo_rI, zo_rL, zo_rR, zo_rV, Int.add_zero, Int.zero_add, Int.mul_zero, Int.zero_mul, Int.one_mul, Int.mul_one, if_true, if_false, not_true_eq_false, not_false_eq_true, zg_L_0, zp_L_0, zg_L_1, zp_L_1, zg_L_2, zp_L_2, zg_L_3, zp_L_3, zg_L_4, zp_L_4, zg_L_5, zp_L_5, zg_L_6, zp_L_6, zg_L_7, zp_L_7, zi_L, zr_L_8, za_L_1, zs_L_1, zr_L_9, za_L_2, zs_L_2, zr_L_10, za_L_3, zs_L_3, zr_L_11, za_L_4, zs_L_4, zr_L_12, za_L_5, zs_L_5, zr_L_13, za_L_6, zs_L_6, zr_L_14, za_L_7, zs_L_7, zr_L_15, za_L_8, zs_L_8, zr_L_16, za_L_9, zs_L_9, zr_L_17, za_L_10, zs_L_10, zr_L_18, za_L_11, zs_L_11, zr_L_19, za_L_12, zs_L_12]
        refine zz_Ei (fun _ => ?_) (fun h => absurd (by omega) h)
        have g3' : zz_ok (Y + 60 + (30 - (30 : Nat))) B := by
          rw [show Y + 60 + (30 - ((30 : Nat) : Int)) = Y + (60 - ((0 : Nat) : Int)) by omega]
          exact g3
        refine k2 R2 J3 hL2 (zc_rep_R (zc_rep_f hR17 (fun x hx => by rw [hf x (by omega), g1 x (by omega)])) (fun k => hr 24 k (by omega))) (fun x hx => by rw [hf x (by omega), g1 x (by omega), m2 x (by omega)]) (fun x k x1 x2 => by rw [hr x k x2, m3 x k x1]) ?_ (fun c c0 c1 => ?_) 30 B J3 (by omega) (fun _ _ => rfl) (zc_rep_R (zc_rep_f g2 (fun x hx => hf x (by omega))) (fun k => hr 37 k (by omega))) g3' gA hV
        · intro p hp
          rcases hp with rfl | rfl | rfl | rfl
          · exact zk_raw_f (hraw2 17 (by omega)) (fun c _ _ => by rw [hf (17 + 6) (by omega)]) (fun k _ => hr _ _ (by omega))
          · exact zk_raw_f (hraw2 30 (by omega)) (fun c _ _ => by rw [hf (30 + 6) (by omega)]) (fun k _ => hr _ _ (by omega))
          · exact zk_raw_c (hraw2 30 (by omega)) hc
          · exact zk_raw_f (hraw2 56 (by omega)) (fun c _ _ => by rw [hf (56 + 6) (by omega)]) (fun k _ => hr _ _ (by omega))
        · have u := hc.2.2.2.2.1 c c0 (by omega)
          have w := (g2.2.2.1 c c0 (by rw [gA 0 (by omega), gA 1 (by omega)]; exact c1)).1
          have b := (g3.2.2.2.2.2.2.2.1 c c0 (by rw [gA 0 (by omega), gA 1 (by omega)]; exact c1)).1
          have u : J3 47 c = J2 34 c := u
          have w : J2 34 c = B (8 + c) := w
          rw [u, w]
          exact ⟨rfl, b⟩
      | succ k ih =>
        intro B J2 hk g1 g2 g3 gA g4
        have g7 : B 7 = A 7 := gA 7 (by omega)
        have hm := zz_yn_y (A := B) (by omega)
        have g24 := g3.2.2.2.1
        obtain ⟨J4, v1, v2, v3, v4, v5⟩ := zk_year (T := T) (R := R1) (G := G) (d := d - 1) (Y := Y + (60 - ((k + 1 : Nat) : Int))) (B := B) (e := B 4 % B 7) (J1 := J1) (J2 := J2) (by omega) hL1 g3 (by omega) g2 g1 hm.1 hm.2
        have e6 : J2 30 6 = B 4 := g2.2.1.2.2.2.1
        rw [g7] at v1
        refine zz_Es (fun n => e_109_29 _ _ _ _) ?_
        simp (maxSteps := 5000000) (disch := first | assumption | omega) only [e6, v1, zr_16_0, zr_16_1, zr_16_2, zr_16_3, zg_16_4, zp_16_4, zr_16_5, zr_16_6, zr_16_7, zr_16_8, zr_16_9, zr_16_10, zr_16_11, zr_16_12, zi_16, za_105, zs_105, zl_105, za_106, zs_106, zl_106, zl_107, za_114, zs_114, zl_114, zr_pl, za_pl, zs_pl, zl_pl, zz_0, zz_31, zz_add, zz_sub, zz_mul, zz_neg, zz_lt, zz_le, zz_eq, zz_div, zz_md, zz_dv, zz_abs, zz_max, zz_min, zz_nI, zz_be0, zz_be1, zz_zb, zz_z, zz_l0, zz_l, zz_lcmp, zo_rf, zo_nl, zo_nn, zo_rI, zo_rL, zo_rR, zo_rV, Int.add_zero, Int.zero_add, Int.mul_zero, Int.zero_mul, Int.one_mul, Int.mul_one, if_true, if_false, not_true_eq_false, not_false_eq_true, zg_L_0, zp_L_0, zg_L_1, zp_L_1, zg_L_2, zp_L_2, zg_L_3, zp_L_3, zg_L_4, zp_L_4, zg_L_5, zp_L_5, zg_L_6, zp_L_6, zg_L_7, zp_L_7, zi_L, zr_L_8, za_L_1, zs_L_1, zr_L_9, za_L_2, zs_L_2, zr_L_10, za_L_3, zs_L_3, zr_L_11, za_L_4, zs_L_4, zr_L_12, za_L_5, zs_L_5, zr_L_13, za_L_6, zs_L_6, zr_L_14, za_L_7, zs_L_7, zr_L_15, za_L_8, zs_L_8, zr_L_16, za_L_9, zs_L_9, zr_L_17, za_L_10, zs_L_10, zr_L_18, za_L_11, zs_L_11, zr_L_19, za_L_12, zs_L_12]
        refine zz_Ei (fun h => absurd h (by omega)) (fun _ => ?_)
        rw [show 60 - ((k + 1 : Nat) : Int) + 1 = 60 - (k : Int) by omega]
        refine ih (zz_yn B) J4 (by omega) v5 v2 ?_ (fun y hy => by rw [show zz_yn B = zz_yf B (B 4 % B 7) from rfl, v4 y hy, gA y hy]) (by rw [← hit]; exact g4)
        rw [show Y + (60 - (k : Int)) = Y + (60 - ((k + 1 : Nat) : Int)) + 1 by omega]
        exact v3
    exact k1 60 A J1 (by omega) (fun _ _ => rfl) hR30 (by rw [show Y + (60 - ((60 : Nat) : Int)) = Y by omega]; exact hA) (fun _ _ => rfl) hW
theorem c_106 {e c : Int} (hd : 9 ≤ d) (hL : ZL T R) (hA : zz_ok Y A) (hR : zc_rep T R J 17 A) (hraw : ∀ p, Lnd p → zk_raw T R J p) (h1 : -2147483648 ≤ e) (h2 : e ≤ 2147483647) (h3 : -2147483648 ≤ c) (h4 : c ≤ 2147483647) : ∃ v J', mv_cax d 106 [.inr (.inr (some 16)), .inl (mv_c e), .inl (mv_c c)] (zz_S T J R G) = some (some (.inl (mv_c v)), zz_S T J' R G) ∧ zk_op T R R J J' A ∧ ((¬ ((0 ≤ e ∧ e < A 7) ∧ 0 ≤ c ∧ c < A 0 * A 1) ∧ v = -1) ∨ (((0 ≤ e ∧ e < A 7) ∧ 0 ≤ c ∧ c < A 0 * A 1) ∧ ∃ g, zz_dr A e g ∧ v = g c)) := by
  have hn := hA.n
  have c34 := c_34 (T := T) (J := J) (R := R) (G := G) (d := d - 1) (p := 17) (e := e) (by omega) hL (by omega) hA hR h1 h2
  have c33 := c_33 (T := T) (J := J) (R := R) (G := G) (d := d - 1) (p := 17) (c := c) (by omega) hL (by omega) hA hR h3 h4
  have o0 : zk_op T R R J J A := zk_op_0 hraw hR (fun _ _ => rfl) ⟨rfl, rfl, rfl⟩
  by_cases he : 0 ≤ e ∧ e < A 7
  · obtain ⟨⟨a, a1, a2⟩, -⟩ := hR.2.2.2 e he.1 he.2
    rw [if_pos he, a1] at c34
    by_cases hc : 0 ≤ c ∧ c < A 0 * A 1
    · rw [zz_b_t hc] at c33
      obtain ⟨J1, s1, s2, s3, s4⟩ := c_1 (T := T) (J := J) (R := R) (G := G) (d := d - 1) (p := 17) (g := 105) (e := e) (by omega) hL (by omega) hA hR he.1 he.2 (hL.at 89 (by rfl)) (by omega) (by omega)
      refine ⟨J1 105 c, J1, ?_, zk_op_0 hraw s2 (fun x hx => s3 x (by omega) (by omega) (by omega) (by omega)) ⟨s3 23 (by omega) (by omega) (by omega) (by omega), s3 36 (by omega) (by omega) (by omega) (by omega), s3 49 (by omega) (by omega) (by omega) (by omega)⟩, Or.inr ⟨⟨he, hc⟩, _, s4, rfl⟩⟩
      refine zz_c (zz_call (by omega) t_106 rfl (fun n => e_106 _ _ _ _) ?_)
      simp (maxSteps := 5000000) (disch := first | assumption | omega) only [c34, c33, s1, zi_73, zr_16_0, zr_16_1, zr_16_2, zr_16_3, zg_16_4, zp_16_4, zr_16_5, zr_16_6, zr_16_7, zr_16_8, zr_16_9, zr_16_10, zr_16_11, zr_16_12, zi_16, za_105, zs_105, zl_105, za_106, zs_106, zl_106, zl_107, za_114, zs_114, zl_114, zr_pl, za_pl, zs_pl, zl_pl, zz_0, zz_31, zz_add, zz_sub, zz_mul, zz_neg, zz_lt, zz_le, zz_eq, zz_div, zz_md, zz_dv, zz_abs, zz_max, zz_min, zz_nI, zz_be0, zz_be1, zz_zb, zz_z, zz_l0, zz_l, zz_lcmp, zo_rf, zo_nl, zo_nn, zo_rI, zo_rL, zo_rR, zo_rV, Int.add_zero, Int.zero_add, Int.mul_zero, Int.zero_mul, Int.one_mul, Int.mul_one, if_true, if_false, not_true_eq_false, not_false_eq_true, zg_L_0, zp_L_0, zg_L_1, zp_L_1, zg_L_2, zp_L_2, zg_L_3, zp_L_3, zg_L_4, zp_L_4, zg_L_5, zp_L_5, zg_L_6, zp_L_6, zg_L_7, zp_L_7, zi_L, zr_L_8, za_L_1, zs_L_1, zr_L_9, za_L_2, zs_L_2, zr_L_10, za_L_3, zs_L_3, zr_L_11, za_L_4, zs_L_4, zr_L_12, za_L_5, zs_L_5, zr_L_13, za_L_6, zs_L_6, zr_L_14, za_L_7, zs_L_7, zr_L_15, za_L_8, zs_L_8, zr_L_16, za_L_9, zs_L_9, zr_L_17, za_L_10, zs_L_10, zr_L_18, za_L_11, zs_L_11, zr_L_19, za_L_12, zs_L_12]
      try (refine zz_Ei (fun h => absurd (show (1 : Int) = 0 from h) (by omega)) (fun _ => ?_))
      exact zz_Er rfl
    · rw [zz_b_f hc] at c33
      refine ⟨-1, J, ?_, o0, Or.inl ⟨fun q => hc q.2, rfl⟩⟩
      refine zz_c (zz_call (by omega) t_106 rfl (fun n => e_106 _ _ _ _) ?_)
      simp (maxSteps := 5000000) (disch := first | assumption | omega) only [c34, c33, zr_16_0, zr_16_1, zr_16_2, zr_16_3, zg_16_4, zp_16_4, zr_16_5, zr_16_6, zr_16_7, zr_16_8, zr_16_9, zr_16_10, zr_16_11, zr_16_12, zi_16, za_105, zs_105, zl_105, za_106, zs_106, zl_106, zl_107, za_114, zs_114, zl_114, zr_pl, za_pl, zs_pl, zl_pl, zz_0, zz_31, zz_add, zz_sub, zz_mul, zz_neg, zz_lt, zz_le, zz_eq, zz_div, zz_md, zz_dv, zz_abs, zz_max, zz_min, zz_nI, zz_be0, zz_be1, zz_zb, zz_z, zz_l0, zz_l, zz_lcmp, zo_rf, zo_nl, zo_nn, zo_rI, zo_rL, zo_rR, zo_rV, Int.add_zero, Int.zero_add, Int.mul_zero, Int.zero_mul, Int.one_mul, Int.mul_one, if_true, if_false, not_true_eq_false, not_false_eq_true, zg_L_0, zp_L_0, zg_L_1, zp_L_1, zg_L_2, zp_L_2, zg_L_3, zp_L_3, zg_L_4, zp_L_4, zg_L_5, zp_L_5, zg_L_6, zp_L_6, zg_L_7, zp_L_7, zi_L, zr_L_8, za_L_1, zs_L_1, zr_L_9, za_L_2, zs_L_2, zr_L_10, za_L_3, zs_L_3, zr_L_11, za_L_4, zs_L_4, zr_L_12, za_L_5, zs_L_5, zr_L_13, za_L_6, zs_L_6, zr_L_14, za_L_7, zs_L_7, zr_L_15, za_L_8, zs_L_8, zr_L_16, za_L_9, zs_L_9, zr_L_17, za_L_10, zs_L_10, zr_L_18, za_L_11, zs_L_11, zr_L_19, za_L_12, zs_L_12]
      exact zz_Er rfl
  · rw [if_neg he] at c34
    refine ⟨-1, J, ?_, o0, Or.inl ⟨fun q => he q.1, rfl⟩⟩
    refine zz_c (zz_call (by omega) t_106 rfl (fun n => e_106 _ _ _ _) ?_)
    simp (maxSteps := 5000000) (disch := first | assumption | omega) only [c34, zr_16_0, zr_16_1, zr_16_2, zr_16_3, zg_16_4, zp_16_4, zr_16_5, zr_16_6, zr_16_7, zr_16_8, zr_16_9, zr_16_10, zr_16_11, zr_16_12, zi_16, za_105, zs_105, zl_105, za_106, zs_106, zl_106, zl_107, za_114, zs_114, zl_114, zr_pl, za_pl, zs_pl, zl_pl, zz_0, zz_31, zz_add, zz_sub, zz_mul, zz_neg, zz_lt, zz_le, zz_eq, zz_div, zz_md, zz_dv, zz_abs, zz_max, zz_min, zz_nI, zz_be0, zz_be1, zz_zb, zz_z, zz_l0, zz_l, zz_lcmp, zo_rf, zo_nl, zo_nn, zo_rI, zo_rL, zo_rR, zo_rV, Int.add_zero, Int.zero_add, Int.mul_zero, Int.zero_mul, Int.one_mul, Int.mul_one, if_true, if_false, not_true_eq_false, not_false_eq_true, zg_L_0, zp_L_0, zg_L_1, zp_L_1, zg_L_2, zp_L_2, zg_L_3, zp_L_3, zg_L_4, zp_L_4, zg_L_5, zp_L_5, zg_L_6, zp_L_6, zg_L_7, zp_L_7, zi_L, zr_L_8, za_L_1, zs_L_1, zr_L_9, za_L_2, zs_L_2, zr_L_10, za_L_3, zs_L_3, zr_L_11, za_L_4, zs_L_4, zr_L_12, za_L_5, zs_L_5, zr_L_13, za_L_6, zs_L_6, zr_L_14, za_L_7, zs_L_7, zr_L_15, za_L_8, zs_L_8, zr_L_16, za_L_9, zs_L_9, zr_L_17, za_L_10, zs_L_10, zr_L_18, za_L_11, zs_L_11, zr_L_19, za_L_12, zs_L_12]
    exact zz_Er rfl
end ZRNG
