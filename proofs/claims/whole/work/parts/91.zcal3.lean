/-! PURE LAYER, 71: the class: blots, harm, the image, counts -/
theorem zk_wo_c {Y : Int} {A g g' : Int → Int} {e : Int} (hA : zz_ok Y A) (e0 : 0 ≤ e) (e1 : e < A 7) (h : ∀ c, 0 ≤ c → c < A 0 * A 1 → g c = g' c) : zz_wo A g e = zz_wo A g' e := by
  have hD := hA.2.2.2.2.2.2.2.2 e e0 e1
  exact zz_sum_c hD.2.2.1.1 (fun w w0 w1 => by
    have hW := (hD.2.2.2 w w0 w1).1
    show zz_wi A e w (g (A (43 + 15 * e + 3 * w))) = zz_wi A e w (g' (A (43 + 15 * e + 3 * w)))
    rw [h _ hW.1 hW.2])
theorem zk_wa_c {Y : Int} {A g g' : Int → Int} (hA : zz_ok Y A) (h : ∀ c, 0 ≤ c → c < A 0 * A 1 → g c = g' c) : zz_wa A g = zz_wa A g' := zz_sum_c hA.2.2.2.2.2.2.1.1 (fun e e0 e1 => zk_wo_c hA e0 e1 h)
theorem zk_lst_c {A ex ex' : Int → Int} {K : Int} (hn : 0 ≤ A 0 * A 1) (he : ∀ c, 0 ≤ c → c < A 0 * A 1 → ex c = ex' c) (h : zz_lst A ex K) : zz_lst A ex' K := by
  rcases h with ⟨k1, k2⟩ | ⟨k1, k2, k3, k4⟩
  · exact Or.inl ⟨(zs_bad_c hn he).mp k1, k2⟩
  · exact Or.inr ⟨fun q => k1 ((zs_bad_c hn he).mpr q), k2, k3, zs_cert_c he k4⟩
theorem zk_lst_b {A ex : Int → Int} {K : Int} (h : zz_lst A ex K) : -4 ≤ K ∧ K ≤ 2000 := by
  rcases h with ⟨k1, k2⟩ | ⟨k1, k2, k3, k4⟩ <;> omega
/-- the map with a blot -/
def zv_bm (A : Int → Int) (a b : Int) : Int → Int := fun c => if c = a then zz_tw A a + 1 else if c = b then zz_tw A b - 1 else A (24 + c)
def zv_blot (A : Int → Int) (a b v : Int) : Prop := (¬ ((0 ≤ a ∧ a < A 0 * A 1) ∧ (0 ≤ b ∧ b < A 0 * A 1) ∧ a ≠ b) ∧ v = -1000000001) ∨ (((0 ≤ a ∧ a < A 0 * A 1) ∧ (0 ≤ b ∧ b < A 0 * A 1) ∧ a ≠ b) ∧ ((¬ (zz_tw A a ≤ 8 ∧ 1 ≤ zz_tw A b) ∧ v = -1000000003) ∨ ((zz_tw A a ≤ 8 ∧ 1 ≤ zz_tw A b) ∧ ∃ K1 K2, zz_lst A (zz_ex A (zv_bm A a b)) K1 ∧ zz_lst A (zz_ex A (fun c => A (24 + c))) K2 ∧ v = if K1 < 0 ∨ K2 < 0 then -1000000004 else K1 - K2)))
theorem zv_blot_u {A : Int → Int} {a b v v' : Int} (hn : 0 ≤ A 0 * A 1) (h : zv_blot A a b v) (h' : zv_blot A a b v') : v = v' := by
  rcases h with ⟨p1, p2⟩ | ⟨p1, p2⟩
  · rcases h' with ⟨q1, q2⟩ | ⟨q1, q2⟩
    · omega
    · exact absurd q1 p1
  · rcases h' with ⟨q1, q2⟩ | ⟨q1, q2⟩
    · exact absurd p1 q1
    · rcases p2 with ⟨p2, p3⟩ | ⟨p2, K1, K2, p3, p4, p5⟩
      · rcases q2 with ⟨q2, q3⟩ | ⟨q2, L1, L2, q3, q4, q5⟩
        · omega
        · exact absurd q2 p2
      · rcases q2 with ⟨q2, q3⟩ | ⟨q2, L1, L2, q3, q4, q5⟩
        · exact absurd p2 q2
        · rw [p5, q5, zz_lst_u hn p3 q3, zz_lst_u hn p4 q4]
noncomputable def zv_harm (A : Int → Int) (a b : Int) : Int := if zv_rf A a b = 0 then zz_wa A (zz_H A) - zz_wa (zz_mv A a b) (zz_H (zz_mv A a b)) else -1000000000 + zv_rf A a b
def zv_count (A : Int → Int) (w : Int) : Int := if w = 0 then A 0 * A 1 else if w = 1 then A 7 else if w = 2 then zz_sum (fun c => zz_bit (A 6) c) (A 0 * A 1) else if w = 3 then zz_sum (fun c => if A (24 + c) < 0 then 0 else 1) (A 0 * A 1) else if w = 4 then zz_sum (fun c => A (8 + c)) (A 0 * A 1) else if w = 5 then zz_sum (fun e => A (42 + 15 * e)) (A 7) else -1
section ZCA3
variable {T : List mv_T} {J : Nat → Int → Int} {R : Nat → Nat → Option Nat} {G : Nat → Nat → Int64} {d p q : Nat} {Y : Int} {A B : Int → Int}
theorem c_112 {a b : Int} (hd : 6 ≤ d) (hL : ZL T R) (hA : zz_ok Y A) (hR : zc_rep T R J 17 A) (hraw : ∀ p, Lnd p → zk_raw T R J p) (h1 : -2147483648 ≤ a) (h2 : a ≤ 2147483647) (h3 : -2147483648 ≤ b) (h4 : b ≤ 2147483647) : ∃ v J', mv_cax d 112 [.inr (.inr (some 16)), .inl (mv_c a), .inl (mv_c b)] (zz_S T J R G) = some (some (.inl (mv_c v)), zz_S T J' R G) ∧ zk_op T R R J J' A ∧ zv_blot A a b v := by
  have hn := hA.n
  have o0 : zk_op T R R J J A := zk_op_0 hraw hR (fun _ _ => rfl) ⟨rfl, rfl, rfl⟩
  have ca := c_33 (T := T) (J := J) (R := R) (G := G) (d := d - 1) (p := 17) (c := a) (by omega) hL (by omega) hA hR h1 h2
  have cb := c_33 (T := T) (J := J) (R := R) (G := G) (d := d - 1) (p := 17) (c := b) (by omega) hL (by omega) hA hR h3 h4
  by_cases ha : 0 ≤ a ∧ a < A 0 * A 1
  · rw [zz_b_t ha] at ca
    by_cases hb : 0 ≤ b ∧ b < A 0 * A 1
    · rw [zz_b_t hb] at cb
      by_cases hab : a = b
      · refine ⟨-1000000001, J, ?_, o0, Or.inl ⟨fun q => q.2.2 hab, rfl⟩⟩
        refine zz_c (zz_call (by omega) t_112 rfl (fun n => e_112 _ _ _ _) ?_)
        simp (maxSteps := 5000000) (disch := first | assumption | omega) only [ca, cb, zr_16_0, zr_16_1, zr_16_2, zr_16_3, zg_16_4, zp_16_4, zr_16_5, zr_16_6, zr_16_7, zr_16_8, zr_16_9, zr_16_10, zr_16_11, zr_16_12, zi_16, za_105, zs_105, zl_105, za_106, zs_106, zl_106, zl_107, za_114, zs_114, zl_114, zr_pl, za_pl, zs_pl, zl_pl, zz_0, zz_31, zz_add, zz_sub, zz_mul, zz_neg, zz_lt, zz_le, zz_eq, zz_div, zz_md, zz_dv, zz_abs, zz_max, zz_min, zz_nI, zz_be0, zz_be1, zz_zb, zz_z, zz_l0, zz_l, zz_lcmp, zo_rf, zo_nl, zo_nn, zo_rI, zo_rL, zo_rR, zo_rV, Int.add_zero, Int.zero_add, Int.mul_zero, Int.zero_mul, Int.one_mul, Int.mul_one, if_true, if_false, not_true_eq_false, not_false_eq_true, zg_L_0, zp_L_0, zg_L_1, zp_L_1, zg_L_2, zp_L_2, zg_L_3, zp_L_3, zg_L_4, zp_L_4, zg_L_5, zp_L_5, zg_L_6, zp_L_6, zg_L_7, zp_L_7, zi_L, zr_L_8, za_L_1, zs_L_1, zr_L_9, za_L_2, zs_L_2, zr_L_10, za_L_3, zs_L_3, zr_L_11, za_L_4, zs_L_4, zr_L_12, za_L_5, zs_L_5, zr_L_13, za_L_6, zs_L_6, zr_L_14, za_L_7, zs_L_7, zr_L_15, za_L_8, zs_L_8, zr_L_16, za_L_9, zs_L_9, zr_L_17, za_L_10, zs_L_10, zr_L_18, za_L_11, zs_L_11, zr_L_19, za_L_12, zs_L_12]
        try (refine zz_Ei (fun h => absurd (show (1 : Int) = 0 from h) (by omega)) (fun _ => ?_))
        try (refine zz_Ei (fun h => absurd (show (1 : Int) = 0 from h) (by omega)) (fun _ => ?_))
        exact zz_Ei (fun _ => zz_Er rfl) (fun h => absurd hab h)
      · have ta := c_38 (T := T) (J := J) (R := R) (G := G) (d := d - 1) (p := 17) (c := a) (by omega) hL (by omega) hA hR ha.1 ha.2
        have tb := c_38 (T := T) (J := J) (R := R) (G := G) (d := d - 1) (p := 17) (c := b) (by omega) hL (by omega) hA hR hb.1 hb.2
        have hta : 0 ≤ zz_tw A a ∧ zz_tw A a ≤ 9 := by
          have := hA.2.2.2.2.2.2.2.1 a ha.1 ha.2
          unfold zz_tw
          split <;> omega
        have htb : 0 ≤ zz_tw A b ∧ zz_tw A b ≤ 9 := by
          have := hA.2.2.2.2.2.2.2.1 b hb.1 hb.2
          unfold zz_tw
          split <;> omega
        by_cases hg : zz_tw A a ≤ 8 ∧ 1 ≤ zz_tw A b
        · obtain ⟨J1, c1, f1, v1⟩ := zk_cpx (T := T) (J := J) (R := R) (G := G) (a := 17 + 5) (b := 105) (n := 16) (by omega) (by omega) (zz_Lt5 hL (by omega)) (hL.at 89 (by rfl)) rfl (by omega)
          obtain ⟨J2, hJ2⟩ : ∃ J2, J2 = zz_u (zz_u J1 105 a (zz_tw A a + 1)) 105 b (zz_tw A b - 1) := ⟨_, rfl⟩
          have f2 : ∀ x, x ≠ 105 → J2 x = J x := fun x hx => by rw [hJ2, zu_A hx, zu_A hx, f1 x hx]
          have v2 : ∀ c, 0 ≤ c → c < A 0 * A 1 → J2 105 c = if c = a then zz_tw A a + 1 else if c = b then zz_tw A b - 1 else J 22 c := by
            intro c c0 c1
            rw [hJ2]
            by_cases qb : c = b
            · rw [qb, zu_s, if_neg (fun h => hab h.symm), if_pos rfl]
            · rw [zu_k qb]
              by_cases qa : c = a
              · rw [qa, zu_s, if_pos rfl]
              · rw [zu_k qa, if_neg qa, if_neg qb]
                exact v1 c c0 (by omega)
          have hR2 : zc_rep T R J2 17 A := zc_rep_f hR (fun x hx => f2 x (by omega))
          have hs : ∀ c, 0 ≤ c → c < A 0 * A 1 → J 22 c = zc_sd (A (24 + c)) := fun c c0 c1 => (hR.2.2.1 c c0 c1).2.1
          have hsb : ∀ c, 0 ≤ c → c < A 0 * A 1 → -1 ≤ zc_sd (A (24 + c)) ∧ zc_sd (A (24 + c)) ≤ 9 ∧ (zc_sd (A (24 + c)) < 0 ↔ A (24 + c) < 0) ∧ (0 ≤ A (24 + c) → zc_sd (A (24 + c)) = A (24 + c)) := by
            intro c c0 c1
            have := (hA.2.2.2.2.2.2.2.1 c c0 c1).2
            unfold zc_sd
            split <;> omega
          obtain ⟨K1, J3, h19, hK1, -, ⟨g3, -⟩⟩ := c_19 (T := T) (J := J2) (R := R) (G := G) (d := d - 1) (p := 17) (Y := Y) (A := A) (q := 105) (by omega) hL (by omega) hA hR2 (by omega) (fun J' c k c0 c1 => za_105 hL c0 (by omega)) (fun c c0 c1 => by
            rw [v2 c c0 c1]
            split
            · omega
            · split
              · omega
              · rw [hs c c0 c1]
                have := hsb c c0 c1
                omega)
          have hR3 : zc_rep T R J3 17 A := zc_rep_f hR2 (fun x hx => g3 x (by omega) (by omega))
          obtain ⟨K2, J4, h19', hK2, -, ⟨g4, -⟩⟩ := c_19 (T := T) (J := J3) (R := R) (G := G) (d := d - 1) (p := 17) (Y := Y) (A := A) (q := 17 + 5) (by omega) hL (by omega) hA hR3 (by omega) (fun J' c k c0 c1 => za_L_5 hL (by omega) c0 (by omega)) (fun c c0 c1 => (zs_sdr hA hR3 c0 c1).1)
          have hL1 : zz_lst A (zz_ex A (zv_bm A a b)) K1 := zk_lst_c (by omega) (fun c c0 c1 => by
            have h5 := hsb c c0 c1
            show (if J2 105 c < 0 then 0 else A (8 + c) - J2 105 c) = if zv_bm A a b c < 0 then 0 else A (8 + c) - zv_bm A a b c
            rw [v2 c c0 c1]
            unfold zv_bm
            by_cases qa : c = a
            · rw [if_pos qa, if_pos qa]
            · rw [if_neg qa, if_neg qa]
              by_cases qb : c = b
              · rw [if_pos qb, if_pos qb]
              · rw [if_neg qb, if_neg qb, hs c c0 c1]
                by_cases q : A (24 + c) < 0
                · rw [if_pos (by omega), if_pos q]
                · rw [if_neg (by omega), if_neg q, h5.2.2.2 (by omega)]) hK1
          have hL2 : zz_lst A (zz_ex A (fun c => A (24 + c))) K2 := zk_lst_c (by omega) (fun c c0 c1 => (zs_sdr hA hR3 c0 c1).2) hK2
          have b1 := zk_lst_b hL1
          have b2 := zk_lst_b hL2
          have o4 : zk_op T R R J J4 A := zk_op_0 hraw (zc_rep_f hR3 (fun x hx => g4 x (by omega) (by omega))) (fun x hx => by rw [g4 x (by omega) (by omega), g3 x (by omega) (by omega), f2 x (by omega)]) ⟨by rw [g4 23 (by omega) (by omega), g3 23 (by omega) (by omega), f2 23 (by omega)], by rw [g4 36 (by omega) (by omega), g3 36 (by omega) (by omega), f2 36 (by omega)], by rw [g4 49 (by omega) (by omega), g3 49 (by omega) (by omega), f2 49 (by omega)]⟩
          have w2 : zz_u (zz_u J1 105 a (zz_tw A a + 1)) 105 b (zz_tw A b - 1) = J2 := hJ2.symm
          refine ⟨if K1 < 0 ∨ K2 < 0 then -1000000004 else K1 - K2, J4, ?_, o4, Or.inr ⟨⟨ha, hb, hab⟩, Or.inr ⟨hg, K1, K2, hL1, hL2, rfl⟩⟩⟩
          refine zz_c (zz_call (by omega) t_112 rfl (fun n => e_112 _ _ _ _) ?_)
          simp (maxSteps := 5000000) (disch := first | assumption | omega) only [ca, cb, ta, tb, c1, w2, h19, h19', zi_78, zr_16_0, zr_16_1, zr_16_2, zr_16_3, zg_16_4, zp_16_4, zr_16_5, zr_16_6, zr_16_7, zr_16_8, zr_16_9, zr_16_10, zr_16_11, zr_16_12, zi_16, za_105, zs_105, zl_105, za_106, zs_106, zl_106, zl_107, za_114, zs_114, zl_114, zr_pl, za_pl, zs_pl, zl_pl, zz_0, zz_31, zz_add, zz_sub, zz_mul, zz_neg, zz_lt, zz_le, zz_eq, zz_div, zz_md, zz_dv, zz_abs, zz_max, zz_min, zz_nI, zz_be0, zz_be1, zz_zb, zz_z, zz_l0, zz_l, zz_lcmp, zo_rf, zo_nl, zo_nn, zo_rI, zo_rL, zo_rR, zo_rV, Int.add_zero, Int.zero_add, Int.mul_zero, Int.zero_mul, Int.one_mul, Int.mul_one, if_true, if_false, not_true_eq_false, not_false_eq_true, zg_L_0, zp_L_0, zg_L_1, zp_L_1, zg_L_2, zp_L_2, zg_L_3, zp_L_3, zg_L_4, zp_L_4, zg_L_5, zp_L_5, zg_L_6, zp_L_6, zg_L_7, zp_L_7, zi_L, zr_L_8, za_L_1, zs_L_1, zr_L_9, za_L_2, zs_L_2, zr_L_10, za_L_3, zs_L_3, zr_L_11, za_L_4, zs_L_4, zr_L_12, za_L_5, zs_L_5, zr_L_13, za_L_6, zs_L_6, zr_L_14, za_L_7, zs_L_7, zr_L_15, za_L_8, zs_L_8, zr_L_16, za_L_9, zs_L_9, zr_L_17, za_L_10, zs_L_10, zr_L_18, za_L_11, zs_L_11, zr_L_19, za_L_12, zs_L_12]
          try (refine zz_Ei (fun h => absurd (show (1 : Int) = 0 from h) (by omega)) (fun _ => ?_))
          try (refine zz_Ei (fun h => absurd (show (1 : Int) = 0 from h) (by omega)) (fun _ => ?_))
          refine zz_Ei (fun h => absurd h hab) (fun _ => ?_)
          refine zz_Ei (fun h => absurd h (by omega)) (fun _ => ?_)
          refine zz_Ei (fun _ => ?_) (fun h => absurd (by omega) h)
          refine zz_Ei (fun h => zz_Er (by rw [if_pos (Or.inl h)])) (fun g1 => ?_)
          refine zz_Ei (fun h => zz_Er (by rw [if_neg (by omega)])) (fun g1 => zz_Er (by rw [if_pos (by omega)]))
        · refine ⟨-1000000003, J, ?_, o0, Or.inr ⟨⟨ha, hb, hab⟩, Or.inl ⟨hg, rfl⟩⟩⟩
          refine zz_c (zz_call (by omega) t_112 rfl (fun n => e_112 _ _ _ _) ?_)
          simp (maxSteps := 5000000) (disch := first | assumption | omega) only [ca, cb, ta, tb, zr_16_0, zr_16_1, zr_16_2, zr_16_3, zg_16_4, zp_16_4, zr_16_5, zr_16_6, zr_16_7, zr_16_8, zr_16_9, zr_16_10, zr_16_11, zr_16_12, zi_16, za_105, zs_105, zl_105, za_106, zs_106, zl_106, zl_107, za_114, zs_114, zl_114, zr_pl, za_pl, zs_pl, zl_pl, zz_0, zz_31, zz_add, zz_sub, zz_mul, zz_neg, zz_lt, zz_le, zz_eq, zz_div, zz_md, zz_dv, zz_abs, zz_max, zz_min, zz_nI, zz_be0, zz_be1, zz_zb, zz_z, zz_l0, zz_l, zz_lcmp, zo_rf, zo_nl, zo_nn, zo_rI, zo_rL, zo_rR, zo_rV, Int.add_zero, Int.zero_add, Int.mul_zero, Int.zero_mul, Int.one_mul, Int.mul_one, if_true, if_false, not_true_eq_false, not_false_eq_true, zg_L_0, zp_L_0, zg_L_1, zp_L_1, zg_L_2, zp_L_2, zg_L_3, zp_L_3, zg_L_4, zp_L_4, zg_L_5, zp_L_5, zg_L_6, zp_L_6, zg_L_7, zp_L_7, zi_L, zr_L_8, za_L_1, zs_L_1, zr_L_9, za_L_2, zs_L_2, zr_L_10, za_L_3, zs_L_3, zr_L_11, za_L_4, zs_L_4, zr_L_12, za_L_5, zs_L_5, zr_L_13, za_L_6, zs_L_6, zr_L_14, za_L_7, zs_L_7, zr_L_15, za_L_8, zs_L_8, zr_L_16, za_L_9, zs_L_9, zr_L_17, za_L_10, zs_L_10, zr_L_18, za_L_11, zs_L_11, zr_L_19, za_L_12, zs_L_12]
          try (refine zz_Ei (fun h => absurd (show (1 : Int) = 0 from h) (by omega)) (fun _ => ?_))
          try (refine zz_Ei (fun h => absurd (show (1 : Int) = 0 from h) (by omega)) (fun _ => ?_))
          refine zz_Ei (fun h => absurd h hab) (fun _ => ?_)
          refine zz_Ei (fun h => zz_Er rfl) (fun _ => ?_)
          refine zz_Ei (fun h => absurd (by omega) hg) (fun _ => zz_Er rfl)
    · rw [zz_b_f hb] at cb
      refine ⟨-1000000001, J, ?_, o0, Or.inl ⟨fun q => hb q.2.1, rfl⟩⟩
      refine zz_c (zz_call (by omega) t_112 rfl (fun n => e_112 _ _ _ _) ?_)
      simp (maxSteps := 5000000) (disch := first | assumption | omega) only [ca, cb, zr_16_0, zr_16_1, zr_16_2, zr_16_3, zg_16_4, zp_16_4, zr_16_5, zr_16_6, zr_16_7, zr_16_8, zr_16_9, zr_16_10, zr_16_11, zr_16_12, zi_16, za_105, zs_105, zl_105, za_106, zs_106, zl_106, zl_107, za_114, zs_114, zl_114, zr_pl, za_pl, zs_pl, zl_pl, zz_0, zz_31, zz_add, zz_sub, zz_mul, zz_neg, zz_lt, zz_le, zz_eq, zz_div, zz_md, zz_dv, zz_abs, zz_max, zz_min, zz_nI, zz_be0, zz_be1, zz_zb, zz_z, zz_l0, zz_l, zz_lcmp, zo_rf, zo_nl, zo_nn, zo_rI, zo_rL, zo_rR, zo_rV, Int.add_zero, Int.zero_add, Int.mul_zero, Int.zero_mul, Int.one_mul, Int.mul_one, if_true, if_false, not_true_eq_false, not_false_eq_true, zg_L_0, zp_L_0, zg_L_1, zp_L_1, zg_L_2, zp_L_2, zg_L_3, zp_L_3, zg_L_4, zp_L_4, zg_L_5, zp_L_5, zg_L_6, zp_L_6, zg_L_7, zp_L_7, zi_L, zr_L_8, za_L_1, zs_L_1, zr_L_9, za_L_2, zs_L_2, zr_L_10, za_L_3, zs_L_3, zr_L_11, za_L_4, zs_L_4, zr_L_12, za_L_5, zs_L_5, zr_L_13, za_L_6, zs_L_6, zr_L_14, za_L_7, zs_L_7, zr_L_15, za_L_8, zs_L_8, zr_L_16, za_L_9, zs_L_9, zr_L_17, za_L_10, zs_L_10, zr_L_18, za_L_11, zs_L_11, zr_L_19, za_L_12, zs_L_12]
      try (refine zz_Ei (fun h => absurd (show (1 : Int) = 0 from h) (by omega)) (fun _ => ?_))
      exact zz_Er rfl
  · rw [zz_b_f ha] at ca
    refine ⟨-1000000001, J, ?_, o0, Or.inl ⟨fun q => ha q.1, rfl⟩⟩
    refine zz_c (zz_call (by omega) t_112 rfl (fun n => e_112 _ _ _ _) ?_)
    simp (maxSteps := 5000000) (disch := first | assumption | omega) only [ca, zr_16_0, zr_16_1, zr_16_2, zr_16_3, zg_16_4, zp_16_4, zr_16_5, zr_16_6, zr_16_7, zr_16_8, zr_16_9, zr_16_10, zr_16_11, zr_16_12, zi_16, za_105, zs_105, zl_105, za_106, zs_106, zl_106, zl_107, za_114, zs_114, zl_114, zr_pl, za_pl, zs_pl, zl_pl, zz_0, zz_31, zz_add, zz_sub, zz_mul, zz_neg, zz_lt, zz_le, zz_eq, zz_div, zz_md, zz_dv, zz_abs, zz_max, zz_min, zz_nI, zz_be0, zz_be1, zz_zb, zz_z, zz_l0, zz_l, zz_lcmp, zo_rf, zo_nl, zo_nn, zo_rI, zo_rL, zo_rR, zo_rV, Int.add_zero, Int.zero_add, Int.mul_zero, Int.zero_mul, Int.one_mul, Int.mul_one, if_true, if_false, not_true_eq_false, not_false_eq_true, zg_L_0, zp_L_0, zg_L_1, zp_L_1, zg_L_2, zp_L_2, zg_L_3, zp_L_3, zg_L_4, zp_L_4, zg_L_5, zp_L_5, zg_L_6, zp_L_6, zg_L_7, zp_L_7, zi_L, zr_L_8, za_L_1, zs_L_1, zr_L_9, za_L_2, zs_L_2, zr_L_10, za_L_3, zs_L_3, zr_L_11, za_L_4, zs_L_4, zr_L_12, za_L_5, zs_L_5, zr_L_13, za_L_6, zs_L_6, zr_L_14, za_L_7, zs_L_7, zr_L_15, za_L_8, zs_L_8, zr_L_16, za_L_9, zs_L_9, zr_L_17, za_L_10, zs_L_10, zr_L_18, za_L_11, zs_L_11, zr_L_19, za_L_12, zs_L_12]
    exact zz_Er rfl
theorem c_113 {a b : Int} (hd : 5 ≤ d) (hL : ZL T R) (hA : zz_ok Y A) (hR : zc_rep T R J 17 A) (hraw : ∀ p, Lnd p → zk_raw T R J p) (h1 : -2147483648 ≤ a) (h2 : a ≤ 2147483647) (h3 : -2147483648 ≤ b) (h4 : b ≤ 2147483647) : ∃ J', mv_cax d 113 [.inr (.inr (some 16)), .inl (mv_c a), .inl (mv_c b)] (zz_S T J R G) = some (some (.inl (mv_c (zv_harm A a b))), zz_S T J' R G) ∧ zk_op T R R J J' A := by
  have o0 : zk_op T R R J J A := zk_op_0 hraw hR (fun _ _ => rfl) ⟨rfl, rfl, rfl⟩
  have c127 := c_127 (T := T) (J := J) (R := R) (G := G) (d := d - 1) (a := a) (b := b) (by omega) hL hA hR h1 h2 h3 h4
  rcases zv_rf_c A a b with ⟨e, h⟩ | ⟨e, h, h'⟩ | ⟨e, h, h'⟩
  · rw [zv_harm, if_neg (by omega)]
    rw [e] at c127 ⊢
    refine ⟨J, ?_, o0⟩
    refine zz_c (zz_call (by omega) t_113 rfl (fun n => e_113 _ _ _ _) ?_)
    simp (maxSteps := 5000000) (disch := first | assumption | omega) only [c127, zr_16_0, zr_16_1, zr_16_2, zr_16_3, zg_16_4, zp_16_4, zr_16_5, zr_16_6, zr_16_7, zr_16_8, zr_16_9, zr_16_10, zr_16_11, zr_16_12, zi_16, za_105, zs_105, zl_105, za_106, zs_106, zl_106, zl_107, za_114, zs_114, zl_114, zr_pl, za_pl, zs_pl, zl_pl, zz_0, zz_31, zz_add, zz_sub, zz_mul, zz_neg, zz_lt, zz_le, zz_eq, zz_div, zz_md, zz_dv, zz_abs, zz_max, zz_min, zz_nI, zz_be0, zz_be1, zz_zb, zz_z, zz_l0, zz_l, zz_lcmp, zo_rf, zo_nl, zo_nn, zo_rI, zo_rL, zo_rR, zo_rV, Int.add_zero, Int.zero_add, Int.mul_zero, Int.zero_mul, Int.one_mul, Int.mul_one, if_true, if_false, not_true_eq_false, not_false_eq_true, zg_L_0, zp_L_0, zg_L_1, zp_L_1, zg_L_2, zp_L_2, zg_L_3, zp_L_3, zg_L_4, zp_L_4, zg_L_5, zp_L_5, zg_L_6, zp_L_6, zg_L_7, zp_L_7, zi_L, zr_L_8, za_L_1, zs_L_1, zr_L_9, za_L_2, zs_L_2, zr_L_10, za_L_3, zs_L_3, zr_L_11, za_L_4, zs_L_4, zr_L_12, za_L_5, zs_L_5, zr_L_13, za_L_6, zs_L_6, zr_L_14, za_L_7, zs_L_7, zr_L_15, za_L_8, zs_L_8, zr_L_16, za_L_9, zs_L_9, zr_L_17, za_L_10, zs_L_10, zr_L_18, za_L_11, zs_L_11, zr_L_19, za_L_12, zs_L_12]
    first
      | exact zz_Er rfl
      | exact zz_Ei (fun h => absurd h (by omega)) (fun _ => zz_Er rfl)
  · rw [zv_harm, if_neg (by omega)]
    rw [e] at c127 ⊢
    refine ⟨J, ?_, o0⟩
    refine zz_c (zz_call (by omega) t_113 rfl (fun n => e_113 _ _ _ _) ?_)
    simp (maxSteps := 5000000) (disch := first | assumption | omega) only [c127, zr_16_0, zr_16_1, zr_16_2, zr_16_3, zg_16_4, zp_16_4, zr_16_5, zr_16_6, zr_16_7, zr_16_8, zr_16_9, zr_16_10, zr_16_11, zr_16_12, zi_16, za_105, zs_105, zl_105, za_106, zs_106, zl_106, zl_107, za_114, zs_114, zl_114, zr_pl, za_pl, zs_pl, zl_pl, zz_0, zz_31, zz_add, zz_sub, zz_mul, zz_neg, zz_lt, zz_le, zz_eq, zz_div, zz_md, zz_dv, zz_abs, zz_max, zz_min, zz_nI, zz_be0, zz_be1, zz_zb, zz_z, zz_l0, zz_l, zz_lcmp, zo_rf, zo_nl, zo_nn, zo_rI, zo_rL, zo_rR, zo_rV, Int.add_zero, Int.zero_add, Int.mul_zero, Int.zero_mul, Int.one_mul, Int.mul_one, if_true, if_false, not_true_eq_false, not_false_eq_true, zg_L_0, zp_L_0, zg_L_1, zp_L_1, zg_L_2, zp_L_2, zg_L_3, zp_L_3, zg_L_4, zp_L_4, zg_L_5, zp_L_5, zg_L_6, zp_L_6, zg_L_7, zp_L_7, zi_L, zr_L_8, za_L_1, zs_L_1, zr_L_9, za_L_2, zs_L_2, zr_L_10, za_L_3, zs_L_3, zr_L_11, za_L_4, zs_L_4, zr_L_12, za_L_5, zs_L_5, zr_L_13, za_L_6, zs_L_6, zr_L_14, za_L_7, zs_L_7, zr_L_15, za_L_8, zs_L_8, zr_L_16, za_L_9, zs_L_9, zr_L_17, za_L_10, zs_L_10, zr_L_18, za_L_11, zs_L_11, zr_L_19, za_L_12, zs_L_12]
    first
      | exact zz_Er rfl
      | exact zz_Ei (fun h => absurd h (by omega)) (fun _ => zz_Er rfl)
  · rw [zv_harm, if_pos e]
    rw [e] at c127
    have hne := h'.1
    have hM : zz_ok Y (zz_mv A a b) := zz_mh_ok hA h.1.1 h.1.2 h.2.1.1 h.2.1.2 h'
    have m0 : zz_mv A a b 0 = A 0 := zz_mv_o (by omega) (by omega)
    have m1 : zz_mv A a b 1 = A 1 := zz_mv_o (by omega) (by omega)
    obtain ⟨O, c56, hR1⟩ := c_56 (T := T) (J := J) (R := R) (G := G) (d := d - 1) (p := 17) (a := a) (b := b) (by omega) hL (by omega) hA hR h.1.1 h.1.2 h.2.1.1 h.2.1.2 hne
    obtain ⟨O2, c56', hR2⟩ := c_56 (T := T) (J := zz_w J (17 + 4) O) (R := R) (G := G) (d := d - 1) (p := 17) (a := b) (b := a) (by omega) hL (by omega) hM hR1 h.2.1.1 (by rw [m0, m1]; exact h.2.1.2) h.1.1 (by rw [m0, m1]; exact h.1.2) (fun q => hne q.symm)
    rw [zz_mvb hne] at hR2
    have t21 : T[17 + 4]? = some (.inr (0, 16)) := hL.at 5 (by rfl)
    have c59 := c_59 (T := T) (J := J) (R := R) (G := G) (d := d - 1) (p := 17) (g := 17 + 4) (by omega) hL (by omega) hA hR t21 (fun c c0 c1 => by rw [(hR.2.2.1 c c0 c1).1]; exact (hA.2.2.2.2.2.2.2.1 c c0 c1).1)
    have c59' := c_59 (T := T) (J := zz_w J (17 + 4) O) (R := R) (G := G) (d := d - 1) (p := 17) (g := 17 + 4) (by omega) hL (by omega) hM hR1 t21 (fun c c0 c1 => by rw [(hR1.2.2.1 c c0 c1).1]; exact (hM.2.2.2.2.2.2.2.1 c c0 c1).1)
    rw [zk_wa_c (g' := zz_H A) hA (fun c c0 c1 => (hR.2.2.1 c c0 c1).1)] at c59
    rw [zk_wa_c (g' := zz_H (zz_mv A a b)) hM (fun c c0 c1 => (hR1.2.2.1 c c0 c1).1)] at c59'
    refine ⟨zz_w (zz_w J (17 + 4) O) (17 + 4) O2, ?_, zk_op_0 hraw hR2 (fun x hx => by rw [zw_n (by omega), zw_n (by omega)]) ⟨by rw [zw_n (by omega), zw_n (by omega)], by rw [zw_n (by omega), zw_n (by omega)], by rw [zw_n (by omega), zw_n (by omega)]⟩⟩
    refine zz_c (zz_call (by omega) t_113 rfl (fun n => e_113 _ _ _ _) ?_)
    simp (maxSteps := 5000000) (disch := first | assumption | omega) only [c127, c59, c56, c59', c56', zr_16_0, zr_16_1, zr_16_2, zr_16_3, zg_16_4, zp_16_4, zr_16_5, zr_16_6, zr_16_7, zr_16_8, zr_16_9, zr_16_10, zr_16_11, zr_16_12, zi_16, za_105, zs_105, zl_105, za_106, zs_106, zl_106, zl_107, za_114, zs_114, zl_114, zr_pl, za_pl, zs_pl, zl_pl, zz_0, zz_31, zz_add, zz_sub, zz_mul, zz_neg, zz_lt, zz_le, zz_eq, zz_div, zz_md, zz_dv, zz_abs, zz_max, zz_min, zz_nI, zz_be0, zz_be1, zz_zb, zz_z, zz_l0, zz_l, zz_lcmp, zo_rf, zo_nl, zo_nn, zo_rI, zo_rL, zo_rR, zo_rV, Int.add_zero, Int.zero_add, Int.mul_zero, Int.zero_mul, Int.one_mul, Int.mul_one, if_true, if_false, not_true_eq_false, not_false_eq_true, zg_L_0, zp_L_0, zg_L_1, zp_L_1, zg_L_2, zp_L_2, zg_L_3, zp_L_3, zg_L_4, zp_L_4, zg_L_5, zp_L_5, zg_L_6, zp_L_6, zg_L_7, zp_L_7, zi_L, zr_L_8, za_L_1, zs_L_1, zr_L_9, za_L_2, zs_L_2, zr_L_10, za_L_3, zs_L_3, zr_L_11, za_L_4, zs_L_4, zr_L_12, za_L_5, zs_L_5, zr_L_13, za_L_6, zs_L_6, zr_L_14, za_L_7, zs_L_7, zr_L_15, za_L_8, zs_L_8, zr_L_16, za_L_9, zs_L_9, zr_L_17, za_L_10, zs_L_10, zr_L_18, za_L_11, zs_L_11, zr_L_19, za_L_12, zs_L_12]
    exact zz_Er rfl
theorem c_116 (hd : 2 ≤ d) (hL : ZL T R) (hA : zz_ok Y A) (hR : zc_rep T R J 17 A) (hraw : ∀ p, Lnd p → zk_raw T R J p) : ∃ J' R', mv_cax d 116 [.inr (.inr (some 16))] (zz_S T J R G) = some (some (.inl (mv_c (A 4))), zz_S T J' R' G) ∧ zc_rep T R' J' 17 A ∧ zc_rep T R' J' 56 A ∧ J' 16 4 = 1 ∧ (∀ x, (x < 16 ∨ 115 ≤ x) → J' x = J x) ∧ (∀ x k, x ≠ 63 → R' x k = R x k) ∧ ∀ p, Lnd p → zk_raw T R' J' p := by
  obtain ⟨J1, R1, h1, h2, h3, h4⟩ := c_32 (T := T) (J := J) (R := R) (G := G) (d := d - 1) (p := 17) (q := 56) (by omega) hL (by omega) (by omega) (by omega) (hraw 17 (by omega))
  have hL1 : ZL T R1 := ZL_R hL (fun x k x1 x2 x3 x4 x5 => h4 x k (by omega))
  have hR1 : zc_rep T R1 J1 17 A := zc_rep_R (zc_rep_f hR (fun x hx => h3 x (by omega))) (fun k => h4 24 k (by omega))
  have hR2 : zc_rep T R1 J1 56 A := zk_cpd_rep hA h2 hR (fun x hx => h3 x (by omega))
  have e6 : J1 17 6 = A 4 := hR1.2.1.2.2.2.1
  refine ⟨zz_u J1 16 4 1, R1, ?_, zc_rep_f hR1 (fun x hx => zu_A (by omega)), zc_rep_f hR2 (fun x hx => zu_A (by omega)), zu_s, fun x hx => by rw [zu_A (by omega), h3 x (by omega)], fun x k hx => h4 x k (by omega), fun p hp => ?_⟩
  · refine zz_c (zz_call (by omega) t_116 rfl (fun n => e_116 _ _) ?_)
    simp (maxSteps := 5000000) (disch := first | assumption | omega) only [h1, zz_z, zu_A, e6, zr_16_0, zr_16_1, zr_16_2, zr_16_3, zg_16_4, zp_16_4, zr_16_5, zr_16_6, zr_16_7, zr_16_8, zr_16_9, zr_16_10, zr_16_11, zr_16_12, zi_16, za_105, zs_105, zl_105, za_106, zs_106, zl_106, zl_107, za_114, zs_114, zl_114, zr_pl, za_pl, zs_pl, zl_pl, zz_0, zz_31, zz_add, zz_sub, zz_mul, zz_neg, zz_lt, zz_le, zz_eq, zz_div, zz_md, zz_dv, zz_abs, zz_max, zz_min, zz_nI, zz_be0, zz_be1, zz_zb, zz_z, zz_l0, zz_l, zz_lcmp, zo_rf, zo_nl, zo_nn, zo_rI, zo_rL, zo_rR, zo_rV, Int.add_zero, Int.zero_add, Int.mul_zero, Int.zero_mul, Int.one_mul, Int.mul_one, if_true, if_false, not_true_eq_false, not_false_eq_true, zg_L_0, zp_L_0, zg_L_1, zp_L_1, zg_L_2, zp_L_2, zg_L_3, zp_L_3, zg_L_4, zp_L_4, zg_L_5, zp_L_5, zg_L_6, zp_L_6, zg_L_7, zp_L_7, zi_L, zr_L_8, za_L_1, zs_L_1, zr_L_9, za_L_2, zs_L_2, zr_L_10, za_L_3, zs_L_3, zr_L_11, za_L_4, zs_L_4, zr_L_12, za_L_5, zs_L_5, zr_L_13, za_L_6, zs_L_6, zr_L_14, za_L_7, zs_L_7, zr_L_15, za_L_8, zs_L_8, zr_L_16, za_L_9, zs_L_9, zr_L_17, za_L_10, zs_L_10, zr_L_18, za_L_11, zs_L_11, zr_L_19, za_L_12, zs_L_12]
    exact zz_Er rfl
  · rcases hp with rfl | rfl | rfl | rfl
    · exact zk_raw_f (hraw 17 (by omega)) (fun c _ _ => by rw [zu_A (by omega), h3 (17 + 6) (by omega)]) (fun k _ => h4 _ _ (by omega))
    · exact zk_raw_f (hraw 30 (by omega)) (fun c _ _ => by rw [zu_A (by omega), h3 (30 + 6) (by omega)]) (fun k _ => h4 _ _ (by omega))
    · exact zk_raw_f (hraw 43 (by omega)) (fun c _ _ => by rw [zu_A (by omega), h3 (43 + 6) (by omega)]) (fun k _ => h4 _ _ (by omega))
    · exact zk_raw_f (zk_raw_c (hraw 17 (by omega)) h2) (fun c _ _ => by rw [zu_A (by omega)]) (fun k _ => rfl)
theorem c_117n (hd : 1 ≤ d) (hL : ZL T R) (h0 : J 16 4 = 0) : mv_cax d 117 [.inr (.inr (some 16))] (zz_S T J R G) = some (some (.inl (mv_c (-3))), (zz_S T J R G)) := by
  refine zz_c (zz_call (by omega) t_117 rfl (fun n => e_117 _ _) ?_)
  simp (maxSteps := 5000000) (disch := first | assumption | omega) only [h0, zr_16_0, zr_16_1, zr_16_2, zr_16_3, zg_16_4, zp_16_4, zr_16_5, zr_16_6, zr_16_7, zr_16_8, zr_16_9, zr_16_10, zr_16_11, zr_16_12, zi_16, za_105, zs_105, zl_105, za_106, zs_106, zl_106, zl_107, za_114, zs_114, zl_114, zr_pl, za_pl, zs_pl, zl_pl, zz_0, zz_31, zz_add, zz_sub, zz_mul, zz_neg, zz_lt, zz_le, zz_eq, zz_div, zz_md, zz_dv, zz_abs, zz_max, zz_min, zz_nI, zz_be0, zz_be1, zz_zb, zz_z, zz_l0, zz_l, zz_lcmp, zo_rf, zo_nl, zo_nn, zo_rI, zo_rL, zo_rR, zo_rV, Int.add_zero, Int.zero_add, Int.mul_zero, Int.zero_mul, Int.one_mul, Int.mul_one, if_true, if_false, not_true_eq_false, not_false_eq_true, zg_L_0, zp_L_0, zg_L_1, zp_L_1, zg_L_2, zp_L_2, zg_L_3, zp_L_3, zg_L_4, zp_L_4, zg_L_5, zp_L_5, zg_L_6, zp_L_6, zg_L_7, zp_L_7, zi_L, zr_L_8, za_L_1, zs_L_1, zr_L_9, za_L_2, zs_L_2, zr_L_10, za_L_3, zs_L_3, zr_L_11, za_L_4, zs_L_4, zr_L_12, za_L_5, zs_L_5, zr_L_13, za_L_6, zs_L_6, zr_L_14, za_L_7, zs_L_7, zr_L_15, za_L_8, zs_L_8, zr_L_16, za_L_9, zs_L_9, zr_L_17, za_L_10, zs_L_10, zr_L_18, za_L_11, zs_L_11, zr_L_19, za_L_12, zs_L_12]
  exact zz_Er rfl
theorem c_117 (hd : 2 ≤ d) (hL : ZL T R) (hB : zz_ok Y B) (hR : zc_rep T R J 56 B) (hraw : ∀ p, Lnd p → zk_raw T R J p) (h1 : J 16 4 = 1) : ∃ J' R', mv_cax d 117 [.inr (.inr (some 16))] (zz_S T J R G) = some (some (.inl (mv_c (B 4))), zz_S T J' R' G) ∧ zc_rep T R' J' 17 B ∧ zc_rep T R' J' 56 B ∧ (∀ x, (x < 17 ∨ 28 < x) → J' x = J x) ∧ (∀ x k, x ≠ 24 → R' x k = R x k) ∧ ∀ p, Lnd p → zk_raw T R' J' p := by
  obtain ⟨J1, R1, g1, h2, h3, h4⟩ := c_32 (T := T) (J := J) (R := R) (G := G) (d := d - 1) (p := 56) (q := 17) (by omega) hL (by omega) (by omega) (by omega) (hraw 56 (by omega))
  have hL1 : ZL T R1 := ZL_R hL (fun x k x1 x2 x3 x4 x5 => h4 x k (by omega))
  have hR1 : zc_rep T R1 J1 17 B := zk_cpd_rep hB h2 hR (fun x hx => h3 x (by omega))
  have e6 : J1 17 6 = B 4 := hR1.2.1.2.2.2.1
  refine ⟨J1, R1, ?_, hR1, zc_rep_R (zc_rep_f hR (fun x hx => h3 x (by omega))) (fun k => h4 63 k (by omega)), h3, h4, fun p hp => ?_⟩
  · refine zz_c (zz_call (by omega) t_117 rfl (fun n => e_117 _ _) ?_)
    simp (maxSteps := 5000000) (disch := first | assumption | omega) only [h1, g1, e6, zr_16_0, zr_16_1, zr_16_2, zr_16_3, zg_16_4, zp_16_4, zr_16_5, zr_16_6, zr_16_7, zr_16_8, zr_16_9, zr_16_10, zr_16_11, zr_16_12, zi_16, za_105, zs_105, zl_105, za_106, zs_106, zl_106, zl_107, za_114, zs_114, zl_114, zr_pl, za_pl, zs_pl, zl_pl, zz_0, zz_31, zz_add, zz_sub, zz_mul, zz_neg, zz_lt, zz_le, zz_eq, zz_div, zz_md, zz_dv, zz_abs, zz_max, zz_min, zz_nI, zz_be0, zz_be1, zz_zb, zz_z, zz_l0, zz_l, zz_lcmp, zo_rf, zo_nl, zo_nn, zo_rI, zo_rL, zo_rR, zo_rV, Int.add_zero, Int.zero_add, Int.mul_zero, Int.zero_mul, Int.one_mul, Int.mul_one, if_true, if_false, not_true_eq_false, not_false_eq_true, zg_L_0, zp_L_0, zg_L_1, zp_L_1, zg_L_2, zp_L_2, zg_L_3, zp_L_3, zg_L_4, zp_L_4, zg_L_5, zp_L_5, zg_L_6, zp_L_6, zg_L_7, zp_L_7, zi_L, zr_L_8, za_L_1, zs_L_1, zr_L_9, za_L_2, zs_L_2, zr_L_10, za_L_3, zs_L_3, zr_L_11, za_L_4, zs_L_4, zr_L_12, za_L_5, zs_L_5, zr_L_13, za_L_6, zs_L_6, zr_L_14, za_L_7, zs_L_7, zr_L_15, za_L_8, zs_L_8, zr_L_16, za_L_9, zs_L_9, zr_L_17, za_L_10, zs_L_10, zr_L_18, za_L_11, zs_L_11, zr_L_19, za_L_12, zs_L_12]
    try (refine zz_Ei (fun h => absurd (show (1 : Int) = 0 from h) (by omega)) (fun _ => ?_))
    exact zz_Er rfl
  · rcases hp with rfl | rfl | rfl | rfl
    · exact zk_raw_c (hraw 56 (by omega)) h2
    · exact zk_raw_f (hraw 30 (by omega)) (fun c _ _ => by rw [h3 (30 + 6) (by omega)]) (fun k _ => h4 _ _ (by omega))
    · exact zk_raw_f (hraw 43 (by omega)) (fun c _ _ => by rw [h3 (43 + 6) (by omega)]) (fun k _ => h4 _ _ (by omega))
    · exact zk_raw_f (hraw 56 (by omega)) (fun c _ _ => by rw [h3 (56 + 6) (by omega)]) (fun k _ => h4 _ _ (by omega))
theorem c_118 {w : Int} (hd : 2 ≤ d) (hL : ZL T R) (hA : zz_ok Y A) (hR : zc_rep T R J 17 A) (h3 : -2147483648 ≤ w) (h4 : w ≤ 2147483647) : mv_cax d 118 [.inr (.inr (some 16)), .inl (mv_c w)] (zz_S T J R G) = some (some (.inl (mv_c (zv_count A w))), (zz_S T J R G)) := by
  have e2 : J 17 2 = A 0 * A 1 := hR.1.1.2.2
  have e7 := hR.2.1.2.2.2.2
  have c42 := c_42 (T := T) (J := J) (R := R) (G := G) (d := d - 1) (p := 17) (by omega) hL (by omega) hA hR
  have c43 := c_43 (T := T) (J := J) (R := R) (G := G) (d := d - 1) (p := 17) (by omega) hL (by omega) hA hR
  have c44 := c_44 (T := T) (J := J) (R := R) (G := G) (d := d - 1) (p := 17) (by omega) hL (by omega) hA hR
  have c45 := c_45 (T := T) (J := J) (R := R) (G := G) (d := d - 1) (p := 17) (by omega) hL (by omega) hA hR
  refine zz_c (zz_call (by omega) t_118 rfl (fun n => e_118 _ _ _) ?_)
  simp (maxSteps := 5000000) (disch := first | assumption | omega) only [e2, e7, c42, c43, c44, c45, zr_16_0, zr_16_1, zr_16_2, zr_16_3, zg_16_4, zp_16_4, zr_16_5, zr_16_6, zr_16_7, zr_16_8, zr_16_9, zr_16_10, zr_16_11, zr_16_12, zi_16, za_105, zs_105, zl_105, za_106, zs_106, zl_106, zl_107, za_114, zs_114, zl_114, zr_pl, za_pl, zs_pl, zl_pl, zz_0, zz_31, zz_add, zz_sub, zz_mul, zz_neg, zz_lt, zz_le, zz_eq, zz_div, zz_md, zz_dv, zz_abs, zz_max, zz_min, zz_nI, zz_be0, zz_be1, zz_zb, zz_z, zz_l0, zz_l, zz_lcmp, zo_rf, zo_nl, zo_nn, zo_rI, zo_rL, zo_rR, zo_rV, Int.add_zero, Int.zero_add, Int.mul_zero, Int.zero_mul, Int.one_mul, Int.mul_one, if_true, if_false, not_true_eq_false, not_false_eq_true, zg_L_0, zp_L_0, zg_L_1, zp_L_1, zg_L_2, zp_L_2, zg_L_3, zp_L_3, zg_L_4, zp_L_4, zg_L_5, zp_L_5, zg_L_6, zp_L_6, zg_L_7, zp_L_7, zi_L, zr_L_8, za_L_1, zs_L_1, zr_L_9, za_L_2, zs_L_2, zr_L_10, za_L_3, zs_L_3, zr_L_11, za_L_4, zs_L_4, zr_L_12, za_L_5, zs_L_5, zr_L_13, za_L_6, zs_L_6, zr_L_14, za_L_7, zs_L_7, zr_L_15, za_L_8, zs_L_8, zr_L_16, za_L_9, zs_L_9, zr_L_17, za_L_10, zs_L_10, zr_L_18, za_L_11, zs_L_11, zr_L_19, za_L_12, zs_L_12]
  repeat' (first | (refine zz_Ei (fun h => ?_) (fun g => ?_)) | exact zz_Er (by simp (disch := first | assumption | omega) only [zv_count, if_pos, if_neg]))
end ZCA3
