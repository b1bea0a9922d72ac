/-! PURE LAYER, 76: the class: works -/
def zv_wc (A : Int → Int) (a b left : Int) : Prop := ((0 ≤ a ∧ a < A 0 * A 1) ∧ (0 ≤ b ∧ b < A 0 * A 1) ∧ zz_mh A a b) ∧ zz_hh A a b ≤ left
noncomputable def zv_wk (V : Nat → Int → Int) (k : Int) (lost : Prop) : Nat → (Int → Int) → Int → Int → Int
  | 0, _, _, _ => -4
  | f + 1, A, i, left => if V 137 k ≤ i then -4 else if i + 1 = V 137 k then V 137 k else @ite Int (zv_wc A (V 138 (100 * k + i)) (V 138 (100 * k + (i + 1))) left) (Classical.propDecidable _) (@ite Int (lost ∧ ¬ zz_ls (zz_mv A (V 138 (100 * k + i)) (V 138 (100 * k + (i + 1))))) (Classical.propDecidable _) i (zv_wk V k lost f (zz_mv A (V 138 (100 * k + i)) (V 138 (100 * k + (i + 1)))) (i + 2) (left - zz_hh A (V 138 (100 * k + i)) (V 138 (100 * k + (i + 1)))))) i
def zv_works (V : Nat → Int → Int) (A : Int → Int) (k v : Int) : Prop := (zv_wr V k 0 ≠ 0 ∧ v = zv_wr V k 0) ∨ (zv_wr V k 0 = 0 ∧ v = zv_wk V k (zz_ls A) 51 A 0 (A 2))
theorem zk_and1 {a : Int} (h0 : 0 ≤ a) (h1 : a < 2147483648) : mv_c a &&& mv_c 1 = mv_c (a % 2) := by
  rw [zz_nat h0, show mv_c 1 = nI 1 by decide, zz_and1 (by omega), zz_nat (by omega)]
  congr 1
  omega
section ZWRK
variable {T : List mv_T} {J V : Nat → Int → Int} {R : Nat → Nat → Option Nat} {G : Nat → Nat → Int64} {d p q : Nat} {k Y : Int} {A : Int → Int}
theorem c_103 (hd : 5 ≤ d) (hL : ZL T R) (hA : zz_ok Y A) (hR : zc_rep T R J 17 A) (hraw : ∀ p, Lnd p → zk_raw T R J p) (hs : zk_sh T R J V) (h1 : zk_r32 k) : ∃ v J' R', mv_cax d 103 [.inr (.inr (some 16)), .inl (mv_c k)] (zz_S T J R G) = some (some (.inl (mv_c v)), zz_S T J' R' G) ∧ zk_op T R R' J J' A ∧ zv_works V A k v := by
  have hn := hA.n
  have h2 := hA.2.1
  have o0 : zk_op T R R J J A := zk_op_0 hraw hR (fun _ _ => rfl) ⟨rfl, rfl, rfl⟩
  obtain ⟨h1, h1'⟩ := h1
  have c126 := c_126 (T := T) (J := J) (R := R) (G := G) (d := d - 1) (k := k) (by omega) hL h1 h1'
  rcases zv_wr_c V k 0 with ⟨e, hk⟩ | ⟨hk, h⟩
  · rw [if_neg hk] at c126
    refine ⟨-1, J, R, ?_, o0, Or.inl ⟨by omega, e.symm⟩⟩
    refine zz_c (zz_call (by omega) t_103 rfl (fun n => e_103 _ _ _) ?_)
    simp (maxSteps := 5000000) (disch := first | assumption | omega) only [zi_16, c126, zz_0, zz_31, zz_add, zz_sub, zz_mul, zz_neg, zz_lt, zz_le, zz_eq, zz_div, zz_md, zz_dv, zz_abs, zz_max, zz_min, zz_nI, zz_be0, zz_be1, zz_zb, zz_z, zz_l0, zz_l, zz_lcmp, zo_rf, zo_nl, zo_nn, zo_rI, zo_rL, zo_rR, zo_rV, Int.add_zero, Int.zero_add, Int.mul_zero, Int.zero_mul, Int.one_mul, Int.mul_one, if_true, if_false, not_true_eq_false, not_false_eq_true]
    exact zz_Er rfl
  · have hq := zk_q hk.1 hk.2
    have h16 := zk_q16 hq
    have c67 := c_67 (T := T) (J := J) (V := V) (R := R) (G := G) (d := d - 1) (k := k) (by omega) hL hq (hs k hk.1 hk.2) hk.1 hk.2
    rw [if_pos hk] at c126
    rcases h with ⟨e, h⟩ | ⟨e, h⟩ | ⟨e, h, -⟩
    · refine ⟨-11, J, R, ?_, o0, Or.inl ⟨by omega, e.symm⟩⟩
      rw [e] at c67
      refine zz_c (zz_call (by omega) t_103 rfl (fun n => e_103 _ _ _) ?_)
      simp (maxSteps := 5000000) (disch := first | assumption | omega) only [zi_16, zi_H, c126, c67, zz_0, zz_31, zz_add, zz_sub, zz_mul, zz_neg, zz_lt, zz_le, zz_eq, zz_div, zz_md, zz_dv, zz_abs, zz_max, zz_min, zz_nI, zz_be0, zz_be1, zz_zb, zz_z, zz_l0, zz_l, zz_lcmp, zo_rf, zo_nl, zo_nn, zo_rI, zo_rL, zo_rR, zo_rV, Int.add_zero, Int.zero_add, Int.mul_zero, Int.zero_mul, Int.one_mul, Int.mul_one, if_true, if_false, not_true_eq_false, not_false_eq_true]
      first
        | exact zz_Er rfl
        | exact zz_Ei (fun h => absurd h (by omega)) (fun _ => zz_Er rfl)
    · refine ⟨-12, J, R, ?_, o0, Or.inl ⟨by omega, e.symm⟩⟩
      rw [e] at c67
      refine zz_c (zz_call (by omega) t_103 rfl (fun n => e_103 _ _ _) ?_)
      simp (maxSteps := 5000000) (disch := first | assumption | omega) only [zi_16, zi_H, c126, c67, zz_0, zz_31, zz_add, zz_sub, zz_mul, zz_neg, zz_lt, zz_le, zz_eq, zz_div, zz_md, zz_dv, zz_abs, zz_max, zz_min, zz_nI, zz_be0, zz_be1, zz_zb, zz_z, zz_l0, zz_l, zz_lcmp, zo_rf, zo_nl, zo_nn, zo_rI, zo_rL, zo_rR, zo_rV, Int.add_zero, Int.zero_add, Int.mul_zero, Int.zero_mul, Int.one_mul, Int.mul_one, if_true, if_false, not_true_eq_false, not_false_eq_true]
      first
        | exact zz_Er rfl
        | exact zz_Ei (fun h => absurd h (by omega)) (fun _ => zz_Er rfl)
    · rw [e] at c67
      have hro := zk_sq2 (hs k hk.1 hk.2) h
      obtain ⟨h3, h4, h5⟩ := hro.2.2.2.1
      suffices hx : ∃ r, mv_cax d 103 [.inr (.inr (some 16)), .inl (mv_c k)] (zz_S T J R G) = some r ∧ ∃ v J' R', r = (some (.inl (mv_c v)), zz_S T J' R' G) ∧ zk_op T R R' J J' A ∧ v = zv_wk V k (zz_ls A) 51 A 0 (A 2) by
        obtain ⟨r, g1, v, J', R', rfl, g2, g3⟩ := hx
        exact ⟨v, J', R', g1, g2, Or.inr ⟨e, g3⟩⟩
      refine zz_call (by omega) t_103 rfl (fun n => e_103 _ _ _) ?_
      obtain ⟨J1, R1, m1, hL1, hR30, hR17, m2, m3, m4⟩ := zk_mind (T := T) (J := J) (R := R) (G := G) (d := d - 1) (by omega) hL hA hR hraw
      obtain ⟨O, c49⟩ := c_49 (T := T) (J := J1) (R := R1) (G := G) (d := d - 1) (p := 30) (by omega) hL1 (by omega) hA hR30
      generalize hW : zv_wk V k (zz_ls A) 51 A 0 (A 2) = W
      have fin : ∀ (J2 : Nat → Int → Int) v, zk_mf J1 J2 → v = W → ∃ v' J' R', ((some (.inl (mv_c v)), zz_S T J2 R1 G) : Option mv_V × mv_S) = (some (.inl (mv_c v')), zz_S T J' R' G) ∧ zk_op T R R' J J' A ∧ v' = W := fun J2 v h hv => ⟨v, J2, R1, rfl, zk_mf_op hR17 m2 m3 m4 h, hv⟩
      have hroJ : ∀ J2 : Nat → Int → Int, zk_mf J1 J2 → zk_ro R1 J2 V (115 + 2 * k.toNat) k := fun J2 hm => by
        have : zk_ro R1 J V (115 + 2 * k.toNat) k := by
          unfold zk_ro at hro ⊢
          rw [m3 _ _ (by omega)]
          exact hro
        exact zk_ro_f this (by rw [hm _ (by omega), m2 _ (by omega)]) (by rw [hm _ (by omega), m2 _ (by omega)])
      have key : ∀ (μ : Int), ((μ = 1 ∧ zz_ls A) ∨ (μ = 0 ∧ ¬ zz_ls A)) → ∀ (f : Nat) (B : Int → Int) (i left : Int) (J2 : Nat → Int → Int), 0 ≤ i → i % 2 = 0 → i + 2 * f = 102 → i ≤ V 137 k → 0 ≤ left → left ≤ A 2 → zk_mf J1 J2 → zc_rep T R1 J2 30 B → zz_ok Y B → (∀ y, (y < 8 ∨ 24 ≤ y) → B y = A y) → zv_wk V k (zz_ls A) f B i left = W → zz_E (fun n => mv_run (mv_cax (d - 1)) mm_103 n 49 [(0, .inr (.inr (some 16))), (2, .inr (.inr (some (115 + 2 * k.toNat)))), (4, .inl (mv_c μ)), (5, .inl (mv_c (A 2 - left))), (6, .inl (mv_c i))] [] (zz_S T J2 R1 G)) (fun r => ∃ v J' R', r = (some (.inl (mv_c v)), zz_S T J' R' G) ∧ zk_op T R R' J J' A ∧ v = W) := by
        intro μ hμ f
        induction f with
        | zero =>
          intro B i left J2 i0 ie hf hle l0 l1 g1 g2 g3 g4 g5
          omega
        | succ f ih =>
          intro B i left J2 i0 ie hf hle l0 l1 g1 g2 g3 g4 g5
          have hro2 := hroJ J2 g1
          have h3' := hro2.2.2.2.1.1
          unfold zv_wk at g5
          refine zz_Es (fun n => e_103_49 _ _ _ _ _ _) ?_
          by_cases hend : V 137 k ≤ i + 1
          · simp (maxSteps := 5000000) (disch := first | assumption | omega) only [h3', zk_and1, zr_sh, zg_H_1, zp_H_1, zg_H_2, zp_H_2, zg_H_3, zp_H_3, zr_H_0, zq_H_0, zr_H_4, zi_H, za_H, zs_H, zl_H, zz_0, zz_31, zz_add, zz_sub, zz_mul, zz_neg, zz_lt, zz_le, zz_eq, zz_div, zz_md, zz_dv, zz_abs, zz_max, zz_min, zz_nI, zz_be0, zz_be1, zz_zb, zz_z, zz_l0, zz_l, zz_lcmp, zo_rf, zo_nl, zo_nn, zo_rI, zo_rL, zo_rR, zo_rV, Int.add_zero, Int.zero_add, Int.mul_zero, Int.zero_mul, Int.one_mul, Int.mul_one, if_true, if_false, not_true_eq_false, not_false_eq_true, zr_16_0, zr_16_1, zr_16_2, zr_16_3, zg_16_4, zp_16_4, zr_16_5, zr_16_6, zr_16_7, zr_16_8, zr_16_9, zr_16_10, zr_16_11, zr_16_12, zi_16, za_105, zs_105, zl_105, za_106, zs_106, zl_106, zl_107, za_114, zs_114, zl_114, zr_pl, za_pl, zs_pl, zl_pl]
            refine zz_Ei (fun _ => ?_) (fun h => absurd hend h)
            by_cases hi : V 137 k ≤ i
            · rw [if_pos hi] at g5
              refine zz_Ei (fun h => absurd h (by omega)) (fun _ => ?_)
              exact zz_Er (fin J2 _ g1 g5)
            · rw [if_neg hi, if_pos (by omega)] at g5
              refine zz_Ei (fun _ => ?_) (fun h => absurd (by omega) h)
              exact zz_Er (fin J2 _ g1 g5)
          · rw [if_neg (by omega), if_neg (by omega)] at g5
            have ra := (hro2.2.2.2.2 i i0 (by omega)).2
            have rb := (hro2.2.2.2.2 (i + 1) (by omega) (by omega)).2
            unfold zk_r32 at ra rb
            have a70 := c_70 (T := T) (J := J2) (V := V) (R := R1) (G := G) (d := d - 1) (k := k) (i := i) (by omega) hL1 hq hro2 i0 (by omega)
            have b70 := c_70 (T := T) (J := J2) (V := V) (R := R1) (G := G) (d := d - 1) (k := k) (i := i + 1) (by omega) hL1 hq hro2 (by omega) (by omega)
            generalize hEa : V 138 (100 * k + i) = a at *
            generalize hEb : V 138 (100 * k + (i + 1)) = b at *
            have c54 := c_54 (T := T) (J := J2) (R := R1) (G := G) (d := d - 1) (p := 30) (a := a) (b := b) (by omega) hL1 (by omega) g3 g2 ra.1 ra.2 rb.1 rb.2
            have n0 : B 0 = A 0 := g4 0 (by omega)
            have n1 : B 1 = A 1 := g4 1 (by omega)
            have e4 : J2 30 4 = A 2 := by rw [← g4 2 (by omega)]; exact g2.2.1.2.1
            by_cases hc : (0 ≤ a ∧ a < B 0 * B 1) ∧ (0 ≤ b ∧ b < B 0 * B 1) ∧ zz_mh B a b
            · rw [zz_b_t hc] at c54
              have hhb := zz_hh_b g3 hc.1.1 hc.1.2 hc.2.1.1 hc.2.1.2
              have hM : zz_ok Y (zz_mv B a b) := zz_mh_ok g3 hc.1.1 hc.1.2 hc.2.1.1 hc.2.1.2 hc.2.2
              have c55 := c_55 (T := T) (J := J2) (R := R1) (G := G) (d := d - 1) (p := 30) (a := a) (b := b) (by omega) hL1 (by omega) g3 g2 hc.1.1 hc.1.2 hc.2.1.1 hc.2.1.2
              obtain ⟨O3, c56, hR3⟩ := c_56 (T := T) (J := J2) (R := R1) (G := G) (d := d - 1) (p := 30) (a := a) (b := b) (by omega) hL1 (by omega) g3 g2 hc.1.1 hc.1.2 hc.2.1.1 hc.2.1.2 hc.2.2.1
              have m3' : zk_mf J1 (zz_w J2 (30 + 4) O3) := fun x hx => by rw [zw_n (by omega)]; exact g1 x hx
              have e4' : zz_w J2 (30 + 4) O3 30 4 = A 2 := by rw [zw_n (by omega)]; exact e4
              have hnB := g3.n
              have mo : ∀ y, (y < 8 ∨ 24 ≤ y) → zz_mv B a b y = A y := fun y hy => by
                rw [zz_mv_o (by omega) (by omega)]
                exact g4 y hy
              by_cases hl : zz_hh B a b ≤ left
              · rw [if_pos ⟨hc, hl⟩] at g5
                rcases hμ with ⟨rfl, hlA⟩ | ⟨rfl, hlA⟩
                · obtain ⟨O4, c49'⟩ := c_49 (T := T) (J := zz_w J2 (30 + 4) O3) (R := R1) (G := G) (d := d - 1) (p := 30) (by omega) hL1 (by omega) hM hR3
                  have m4' : zk_mf J1 (zz_w (zz_w J2 (30 + 4) O3) (30 + 12) O4) := fun x hx => by rw [zw_n (by omega)]; exact m3' x hx
                  by_cases hls : zz_ls (zz_mv B a b)
                  · rw [if_neg (fun q => q.2 hls)] at g5
                    rw [zz_b_t hls] at c49'
                    simp (maxSteps := 5000000) (disch := first | assumption | omega) only [h3', zi_L, a70, b70, c54, c55, c56, zg_L_4, e4', c49', zr_sh, zg_H_1, zp_H_1, zg_H_2, zp_H_2, zg_H_3, zp_H_3, zr_H_0, zq_H_0, zr_H_4, zi_H, za_H, zs_H, zl_H, zz_0, zz_31, zz_add, zz_sub, zz_mul, zz_neg, zz_lt, zz_le, zz_eq, zz_div, zz_md, zz_dv, zz_abs, zz_max, zz_min, zz_nI, zz_be0, zz_be1, zz_zb, zz_z, zz_l0, zz_l, zz_lcmp, zo_rf, zo_nl, zo_nn, zo_rI, zo_rL, zo_rR, zo_rV, Int.add_zero, Int.zero_add, Int.mul_zero, Int.zero_mul, Int.one_mul, Int.mul_one, if_true, if_false, not_true_eq_false, not_false_eq_true, zr_16_0, zr_16_1, zr_16_2, zr_16_3, zg_16_4, zp_16_4, zr_16_5, zr_16_6, zr_16_7, zr_16_8, zr_16_9, zr_16_10, zr_16_11, zr_16_12, zi_16, za_105, zs_105, zl_105, za_106, zs_106, zl_106, zl_107, za_114, zs_114, zl_114, zr_pl, za_pl, zs_pl, zl_pl]
                    refine zz_Ei (fun h => absurd h hend) (fun _ => ?_)
                    try (refine zz_Ei (fun h => absurd (show (1 : Int) = 0 from h) (by omega)) (fun _ => ?_))
                    refine zz_Ei (fun h => absurd h (by omega)) (fun _ => ?_)
                    try (refine zz_Ei (fun h => absurd (show (1 : Int) = 0 from h) (by omega)) (fun _ => ?_))
                    try (refine zz_Ei (fun h => absurd (show (1 : Int) = 0 from h) (by omega)) (fun _ => ?_))
                    rw [show A 2 - left + zz_hh B a b = A 2 - (left - zz_hh B a b) by omega]
                    exact ih (zz_mv B a b) (i + 2) (left - zz_hh B a b) _ (by omega) (by omega) (by omega) (by omega) (by omega) (by omega) m4' (zc_rep_w (by omega) hR3) hM mo g5
                  · rw [if_pos ⟨hlA, hls⟩] at g5
                    rw [zz_b_f hls] at c49'
                    simp (maxSteps := 5000000) (disch := first | assumption | omega) only [h3', zi_L, a70, b70, c54, c55, c56, zg_L_4, e4', c49', zr_sh, zg_H_1, zp_H_1, zg_H_2, zp_H_2, zg_H_3, zp_H_3, zr_H_0, zq_H_0, zr_H_4, zi_H, za_H, zs_H, zl_H, zz_0, zz_31, zz_add, zz_sub, zz_mul, zz_neg, zz_lt, zz_le, zz_eq, zz_div, zz_md, zz_dv, zz_abs, zz_max, zz_min, zz_nI, zz_be0, zz_be1, zz_zb, zz_z, zz_l0, zz_l, zz_lcmp, zo_rf, zo_nl, zo_nn, zo_rI, zo_rL, zo_rR, zo_rV, Int.add_zero, Int.zero_add, Int.mul_zero, Int.zero_mul, Int.one_mul, Int.mul_one, if_true, if_false, not_true_eq_false, not_false_eq_true, zr_16_0, zr_16_1, zr_16_2, zr_16_3, zg_16_4, zp_16_4, zr_16_5, zr_16_6, zr_16_7, zr_16_8, zr_16_9, zr_16_10, zr_16_11, zr_16_12, zi_16, za_105, zs_105, zl_105, za_106, zs_106, zl_106, zl_107, za_114, zs_114, zl_114, zr_pl, za_pl, zs_pl, zl_pl]
                    refine zz_Ei (fun h => absurd h hend) (fun _ => ?_)
                    try (refine zz_Ei (fun h => absurd (show (1 : Int) = 0 from h) (by omega)) (fun _ => ?_))
                    refine zz_Ei (fun h => absurd h (by omega)) (fun _ => ?_)
                    try (refine zz_Ei (fun h => absurd (show (1 : Int) = 0 from h) (by omega)) (fun _ => ?_))
                    exact zz_Er (fin _ _ m4' g5)
                · rw [if_neg (fun q => hlA q.1)] at g5
                  simp (maxSteps := 5000000) (disch := first | assumption | omega) only [h3', zi_L, a70, b70, c54, c55, c56, zg_L_4, e4', zr_sh, zg_H_1, zp_H_1, zg_H_2, zp_H_2, zg_H_3, zp_H_3, zr_H_0, zq_H_0, zr_H_4, zi_H, za_H, zs_H, zl_H, zz_0, zz_31, zz_add, zz_sub, zz_mul, zz_neg, zz_lt, zz_le, zz_eq, zz_div, zz_md, zz_dv, zz_abs, zz_max, zz_min, zz_nI, zz_be0, zz_be1, zz_zb, zz_z, zz_l0, zz_l, zz_lcmp, zo_rf, zo_nl, zo_nn, zo_rI, zo_rL, zo_rR, zo_rV, Int.add_zero, Int.zero_add, Int.mul_zero, Int.zero_mul, Int.one_mul, Int.mul_one, if_true, if_false, not_true_eq_false, not_false_eq_true, zr_16_0, zr_16_1, zr_16_2, zr_16_3, zg_16_4, zp_16_4, zr_16_5, zr_16_6, zr_16_7, zr_16_8, zr_16_9, zr_16_10, zr_16_11, zr_16_12, zi_16, za_105, zs_105, zl_105, za_106, zs_106, zl_106, zl_107, za_114, zs_114, zl_114, zr_pl, za_pl, zs_pl, zl_pl]
                  refine zz_Ei (fun h => absurd h hend) (fun _ => ?_)
                  try (refine zz_Ei (fun h => absurd (show (1 : Int) = 0 from h) (by omega)) (fun _ => ?_))
                  refine zz_Ei (fun h => absurd h (by omega)) (fun _ => ?_)
                  rw [show A 2 - left + zz_hh B a b = A 2 - (left - zz_hh B a b) by omega]
                  exact ih (zz_mv B a b) (i + 2) (left - zz_hh B a b) _ (by omega) (by omega) (by omega) (by omega) (by omega) (by omega) m3' hR3 hM mo g5
              · rw [if_neg (fun q => hl q.2)] at g5
                simp (maxSteps := 5000000) (disch := first | assumption | omega) only [h3', zi_L, a70, b70, c54, c55, c56, zg_L_4, e4', zr_sh, zg_H_1, zp_H_1, zg_H_2, zp_H_2, zg_H_3, zp_H_3, zr_H_0, zq_H_0, zr_H_4, zi_H, za_H, zs_H, zl_H, zz_0, zz_31, zz_add, zz_sub, zz_mul, zz_neg, zz_lt, zz_le, zz_eq, zz_div, zz_md, zz_dv, zz_abs, zz_max, zz_min, zz_nI, zz_be0, zz_be1, zz_zb, zz_z, zz_l0, zz_l, zz_lcmp, zo_rf, zo_nl, zo_nn, zo_rI, zo_rL, zo_rR, zo_rV, Int.add_zero, Int.zero_add, Int.mul_zero, Int.zero_mul, Int.one_mul, Int.mul_one, if_true, if_false, not_true_eq_false, not_false_eq_true, zr_16_0, zr_16_1, zr_16_2, zr_16_3, zg_16_4, zp_16_4, zr_16_5, zr_16_6, zr_16_7, zr_16_8, zr_16_9, zr_16_10, zr_16_11, zr_16_12, zi_16, za_105, zs_105, zl_105, za_106, zs_106, zl_106, zl_107, za_114, zs_114, zl_114, zr_pl, za_pl, zs_pl, zl_pl]
                refine zz_Ei (fun h => absurd h hend) (fun _ => ?_)
                try (refine zz_Ei (fun h => absurd (show (1 : Int) = 0 from h) (by omega)) (fun _ => ?_))
                refine zz_Ei (fun _ => ?_) (fun h => absurd (by omega) h)
                exact zz_Er (fin _ _ m3' g5)
            · rw [zz_b_f hc] at c54
              rw [if_neg (fun q => hc q.1)] at g5
              simp (maxSteps := 5000000) (disch := first | assumption | omega) only [h3', zi_L, a70, b70, c54, zr_sh, zg_H_1, zp_H_1, zg_H_2, zp_H_2, zg_H_3, zp_H_3, zr_H_0, zq_H_0, zr_H_4, zi_H, za_H, zs_H, zl_H, zz_0, zz_31, zz_add, zz_sub, zz_mul, zz_neg, zz_lt, zz_le, zz_eq, zz_div, zz_md, zz_dv, zz_abs, zz_max, zz_min, zz_nI, zz_be0, zz_be1, zz_zb, zz_z, zz_l0, zz_l, zz_lcmp, zo_rf, zo_nl, zo_nn, zo_rI, zo_rL, zo_rR, zo_rV, Int.add_zero, Int.zero_add, Int.mul_zero, Int.zero_mul, Int.one_mul, Int.mul_one, if_true, if_false, not_true_eq_false, not_false_eq_true, zr_16_0, zr_16_1, zr_16_2, zr_16_3, zg_16_4, zp_16_4, zr_16_5, zr_16_6, zr_16_7, zr_16_8, zr_16_9, zr_16_10, zr_16_11, zr_16_12, zi_16, za_105, zs_105, zl_105, za_106, zs_106, zl_106, zl_107, za_114, zs_114, zl_114, zr_pl, za_pl, zs_pl, zl_pl]
              refine zz_Ei (fun h => absurd h hend) (fun _ => ?_)
              exact zz_Er (fin J2 _ g1 g5)
      have m5 : zk_mf J1 (zz_w J1 (30 + 12) O) := fun x hx => zw_n (by omega)
      by_cases hls : zz_ls A
      · rw [zz_b_t hls] at c49
        simp (maxSteps := 5000000) (disch := first | assumption | omega) only [c126, c67, m1, zi_L, c49, zr_sh, zg_H_1, zp_H_1, zg_H_2, zp_H_2, zg_H_3, zp_H_3, zr_H_0, zq_H_0, zr_H_4, zi_H, za_H, zs_H, zl_H, zz_0, zz_31, zz_add, zz_sub, zz_mul, zz_neg, zz_lt, zz_le, zz_eq, zz_div, zz_md, zz_dv, zz_abs, zz_max, zz_min, zz_nI, zz_be0, zz_be1, zz_zb, zz_z, zz_l0, zz_l, zz_lcmp, zo_rf, zo_nl, zo_nn, zo_rI, zo_rL, zo_rR, zo_rV, Int.add_zero, Int.zero_add, Int.mul_zero, Int.zero_mul, Int.one_mul, Int.mul_one, if_true, if_false, not_true_eq_false, not_false_eq_true, zr_16_0, zr_16_1, zr_16_2, zr_16_3, zg_16_4, zp_16_4, zr_16_5, zr_16_6, zr_16_7, zr_16_8, zr_16_9, zr_16_10, zr_16_11, zr_16_12, zi_16, za_105, zs_105, zl_105, za_106, zs_106, zl_106, zl_107, za_114, zs_114, zl_114, zr_pl, za_pl, zs_pl, zl_pl]
        have := key 1 (Or.inl ⟨rfl, hls⟩) 51 A 0 (A 2) (zz_w J1 (30 + 12) O) (by omega) (by omega) (by omega) h4 (by omega) (by omega) m5 (zc_rep_w (by omega) hR30) hA (fun _ _ => rfl) hW
        rw [show A 2 - A 2 = 0 by omega] at this
        exact this
      · rw [zz_b_f hls] at c49
        simp (maxSteps := 5000000) (disch := first | assumption | omega) only [c126, c67, m1, zi_L, c49, zr_sh, zg_H_1, zp_H_1, zg_H_2, zp_H_2, zg_H_3, zp_H_3, zr_H_0, zq_H_0, zr_H_4, zi_H, za_H, zs_H, zl_H, zz_0, zz_31, zz_add, zz_sub, zz_mul, zz_neg, zz_lt, zz_le, zz_eq, zz_div, zz_md, zz_dv, zz_abs, zz_max, zz_min, zz_nI, zz_be0, zz_be1, zz_zb, zz_z, zz_l0, zz_l, zz_lcmp, zo_rf, zo_nl, zo_nn, zo_rI, zo_rL, zo_rR, zo_rV, Int.add_zero, Int.zero_add, Int.mul_zero, Int.zero_mul, Int.one_mul, Int.mul_one, if_true, if_false, not_true_eq_false, not_false_eq_true, zr_16_0, zr_16_1, zr_16_2, zr_16_3, zg_16_4, zp_16_4, zr_16_5, zr_16_6, zr_16_7, zr_16_8, zr_16_9, zr_16_10, zr_16_11, zr_16_12, zi_16, za_105, zs_105, zl_105, za_106, zs_106, zl_106, zl_107, za_114, zs_114, zl_114, zr_pl, za_pl, zs_pl, zl_pl]
        have := key 0 (Or.inr ⟨rfl, hls⟩) 51 A 0 (A 2) (zz_w J1 (30 + 12) O) (by omega) (by omega) (by omega) h4 (by omega) (by omega) m5 (zc_rep_w (by omega) hR30) hA (fun _ _ => rfl) hW
        rw [show A 2 - A 2 = 0 by omega] at this
        exact this
end ZWRK
