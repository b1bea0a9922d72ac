/-! PURE LAYER, 75: the class: maps from rows, judgements, copies -/
section ZSHM
variable {T : List mv_T} {J V : Nat → Int → Int} {R : Nat → Nat → Option Nat} {G : Nat → Nat → Int64} {d p q : Nat} {k Y : Int} {A : Int → Int}
theorem zk_ro_f {J' : Nat → Int → Int} (h : zk_ro R J V q k) (h0 : J' q = J q) (h1 : J' (q + 1) = J (q + 1)) : zk_ro R J' V q k := by
  unfold zk_ro at h ⊢
  rw [h0, h1]
  exact h
theorem zv_mapA_ok (hA : zz_ok Y A) (h : zk_mp V k (A 0 * A 1)) : zz_ok Y (zv_mapA V A k) := by
  have hn := hA.n
  refine zz_ok_h hA (fun y hy => if_neg (by omega)) (fun c c0 c1 => ?_)
  have e8 : zv_mapA V A k (8 + c) = A (8 + c) := if_neg (by omega)
  have e24 : zv_mapA V A k (24 + c) = if V 138 (100 * k + c) = 99 then -4 else V 138 (100 * k + c) := by
    unfold zv_mapA
    rw [if_pos (by omega), show 24 + c - 24 = c by omega]
  rw [e8, e24]
  refine ⟨(hA.2.2.2.2.2.2.2.1 c c0 c1).1, ?_⟩
  have := h.2 c c0 (by rw [h.1]; exact c1)
  unfold zk_mo at this
  split <;> omega
theorem c_97 (hd : 4 ≤ d) (hL : ZL T R) (hA : zz_ok Y A) (hR : zc_rep T R J 17 A) (hraw : ∀ p, Lnd p → zk_raw T R J p) (hs : zk_sh T R J V) (h1 : zk_r32 k) : ∃ v J' A', mv_cax d 97 [.inr (.inr (some 16)), .inl (mv_c k)] (zz_S T J R G) = some (some (.inl (mv_c v)), zz_S T J' R G) ∧ zk_op T R R J J' A' ∧ zv_map V A k v A' ∧ zz_ok Y A' := by
  have hn := hA.n
  have o0 : zk_op T R R J J A := zk_op_0 hraw hR (fun _ _ => rfl) ⟨rfl, rfl, rfl⟩
  obtain ⟨h1, h1'⟩ := h1
  have e2 : J 17 2 = A 0 * A 1 := hR.1.1.2.2
  have c126 := c_126 (T := T) (J := J) (R := R) (G := G) (d := d - 1) (k := k) (by omega) hL h1 h1'
  rcases zv_wr_c V k 0 with ⟨e, hk⟩ | ⟨hk, h⟩
  · rw [if_neg hk] at c126
    refine ⟨-1, J, A, ?_, o0, Or.inl ⟨by omega, e.symm, rfl⟩, hA⟩
    refine zz_c (zz_call (by omega) t_97 rfl (fun n => e_97 _ _ _) ?_)
    simp (maxSteps := 5000000) (disch := first | assumption | omega) only [zi_16, c126, zz_0, zz_31, zz_add, zz_sub, zz_mul, zz_neg, zz_lt, zz_le, zz_eq, zz_div, zz_md, zz_dv, zz_abs, zz_max, zz_min, zz_nI, zz_be0, zz_be1, zz_zb, zz_z, zz_l0, zz_l, zz_lcmp, zo_rf, zo_nl, zo_nn, zo_rI, zo_rL, zo_rR, zo_rV, Int.add_zero, Int.zero_add, Int.mul_zero, Int.zero_mul, Int.one_mul, Int.mul_one, if_true, if_false, not_true_eq_false, not_false_eq_true]
    exact zz_Er rfl
  · have hq := zk_q hk.1 hk.2
    have h16 := zk_q16 hq
    have c67 := c_67 (T := T) (J := J) (V := V) (R := R) (G := G) (d := d - 1) (k := k) (by omega) hL hq (hs k hk.1 hk.2) hk.1 hk.2
    rw [if_pos hk] at c126
    rcases h with ⟨e, h⟩ | ⟨e, h⟩ | ⟨e, h, -⟩
    · refine ⟨-11, J, A, ?_, o0, Or.inl ⟨by omega, e.symm, rfl⟩, hA⟩
      rw [e] at c67
      refine zz_c (zz_call (by omega) t_97 rfl (fun n => e_97 _ _ _) ?_)
      simp (maxSteps := 5000000) (disch := first | assumption | omega) only [zi_16, zi_H, c126, c67, zz_0, zz_31, zz_add, zz_sub, zz_mul, zz_neg, zz_lt, zz_le, zz_eq, zz_div, zz_md, zz_dv, zz_abs, zz_max, zz_min, zz_nI, zz_be0, zz_be1, zz_zb, zz_z, zz_l0, zz_l, zz_lcmp, zo_rf, zo_nl, zo_nn, zo_rI, zo_rL, zo_rR, zo_rV, Int.add_zero, Int.zero_add, Int.mul_zero, Int.zero_mul, Int.one_mul, Int.mul_one, if_true, if_false, not_true_eq_false, not_false_eq_true]
      first
        | exact zz_Er rfl
        | exact zz_Ei (fun h => absurd h (by omega)) (fun _ => zz_Er rfl)
    · refine ⟨-12, J, A, ?_, o0, Or.inl ⟨by omega, e.symm, rfl⟩, hA⟩
      rw [e] at c67
      refine zz_c (zz_call (by omega) t_97 rfl (fun n => e_97 _ _ _) ?_)
      simp (maxSteps := 5000000) (disch := first | assumption | omega) only [zi_16, zi_H, c126, c67, zz_0, zz_31, zz_add, zz_sub, zz_mul, zz_neg, zz_lt, zz_le, zz_eq, zz_div, zz_md, zz_dv, zz_abs, zz_max, zz_min, zz_nI, zz_be0, zz_be1, zz_zb, zz_z, zz_l0, zz_l, zz_lcmp, zo_rf, zo_nl, zo_nn, zo_rI, zo_rL, zo_rR, zo_rV, Int.add_zero, Int.zero_add, Int.mul_zero, Int.zero_mul, Int.one_mul, Int.mul_one, if_true, if_false, not_true_eq_false, not_false_eq_true]
      first
        | exact zz_Er rfl
        | exact zz_Ei (fun h => absurd h (by omega)) (fun _ => zz_Er rfl)
    · rw [e] at c67
      have hro := zk_sq2 (hs k hk.1 hk.2) h
      have c73 := c_73 (T := T) (J := J) (V := V) (R := R) (G := G) (d := d - 1) (k := k) (n := A 0 * A 1) (by omega) hL hq hro (by omega) (by omega)
      by_cases hmp : zk_mp V k (A 0 * A 1)
      · rw [zz_b_t hmp] at c73
        have hok := zv_mapA_ok hA hmp
        have hval : ∀ c, 0 ≤ c → c < A 0 * A 1 → zv_mapA V A k (24 + c) = if V 138 (100 * k + c) = 99 then -4 else V 138 (100 * k + c) := by
          intro c c0 c1
          unfold zv_mapA
          rw [if_pos (by omega), show 24 + c - 24 = c by omega]
        have op : ∀ O : Int → Int, (∀ c, 0 ≤ c → c < A 0 * A 1 → O c = zc_sd (zv_mapA V A k (24 + c))) → zk_op T R R J (zz_w J 22 O) (zv_mapA V A k) := by
          intro O hO
          have hps := hR.2.1
          refine zk_op_h hA hR hraw (fun y hy => if_neg (by omega)) (fun x _ _ x3 _ => zw_n x3) (fun y _ _ _ => by rw [zw_n (by omega)]) ⟨?_, ?_, ?_⟩ (fun c c0 c1 => ?_) (fun c c0 c1 => by rw [zw_s]; exact hO c c0 c1)
          · rw [zw_n (by omega), show zv_mapA V A k 2 = A 2 from if_neg (by omega)]; exact hps.2.1
          · rw [zw_n (by omega), show zv_mapA V A k 3 = A 3 from if_neg (by omega)]; exact hps.2.2.1
          · rw [zw_n (by omega), show zv_mapA V A k 4 = A 4 from if_neg (by omega)]; exact hps.2.2.2.1
          · rw [zw_n (by omega), show zv_mapA V A k (8 + c) = A (8 + c) from if_neg (by omega)]
            exact (hR.2.2.1 c c0 c1).1
        suffices hx : ∃ r, mv_cax d 97 [.inr (.inr (some 16)), .inl (mv_c k)] (zz_S T J R G) = some r ∧ ∃ O, r = (some (.inl (mv_c (zz_sum (fun c => if zv_mapA V A k (24 + c) < 0 then 0 else 1) (A 0 * A 1)))), zz_S T (zz_w J 22 O) R G) ∧ ∀ c, 0 ≤ c → c < A 0 * A 1 → O c = zc_sd (zv_mapA V A k (24 + c)) by
          obtain ⟨r, g1, O, rfl, g2⟩ := hx
          exact ⟨_, _, _, g1, op O g2, Or.inr (Or.inr ⟨e, hmp, rfl, rfl⟩), hok⟩
        refine zz_call (by omega) t_97 rfl (fun n => e_97 _ _ _) ?_
        simp (maxSteps := 5000000) (disch := first | assumption | omega) only [zi_H, c126, c67, e2, c73, zr_16_0, zr_16_1, zr_16_2, zr_16_3, zg_16_4, zp_16_4, zr_16_5, zr_16_6, zr_16_7, zr_16_8, zr_16_9, zr_16_10, zr_16_11, zr_16_12, zi_16, za_105, zs_105, zl_105, za_106, zs_106, zl_106, zl_107, za_114, zs_114, zl_114, zr_pl, za_pl, zs_pl, zl_pl, zz_0, zz_31, zz_add, zz_sub, zz_mul, zz_neg, zz_lt, zz_le, zz_eq, zz_div, zz_md, zz_dv, zz_abs, zz_max, zz_min, zz_nI, zz_be0, zz_be1, zz_zb, zz_z, zz_l0, zz_l, zz_lcmp, zo_rf, zo_nl, zo_nn, zo_rI, zo_rL, zo_rR, zo_rV, Int.add_zero, Int.zero_add, Int.mul_zero, Int.zero_mul, Int.one_mul, Int.mul_one, if_true, if_false, not_true_eq_false, not_false_eq_true, zg_L_0, zp_L_0, zg_L_1, zp_L_1, zg_L_2, zp_L_2, zg_L_3, zp_L_3, zg_L_4, zp_L_4, zg_L_5, zp_L_5, zg_L_6, zp_L_6, zg_L_7, zp_L_7, zi_L, zr_L_8, za_L_1, zs_L_1, zr_L_9, za_L_2, zs_L_2, zr_L_10, za_L_3, zs_L_3, zr_L_11, za_L_4, zs_L_4, zr_L_12, za_L_5, zs_L_5, zr_L_13, za_L_6, zs_L_6, zr_L_14, za_L_7, zs_L_7, zr_L_15, za_L_8, zs_L_8, zr_L_16, za_L_9, zs_L_9, zr_L_17, za_L_10, zs_L_10, zr_L_18, za_L_11, zs_L_11, zr_L_19, za_L_12, zs_L_12]
        try (refine zz_Ei (fun h => absurd (show (1 : Int) = 0 from h) (by omega)) (fun _ => ?_))
        have l := zz_loop (α := Int → Int) (run := fun c O n => mv_run (mv_cax (d - 1)) mm_97 n 43 [(0, .inr (.inr (some 16))), (2, .inr (.inr (some (115 + 2 * k.toNat)))), (4, .inl (mv_c c))] [] (zz_S T (zz_w J 22 O) R G)) (Q := fun r => ∃ O, r = (some (.inl (mv_c (zz_sum (fun c => if zv_mapA V A k (24 + c) < 0 then 0 else 1) (A 0 * A 1)))), zz_S T (zz_w J 22 O) R G) ∧ ∀ c, 0 ≤ c → c < A 0 * A 1 → O c = zc_sd (zv_mapA V A k (24 + c))) (A 0 * A 1) (fun c O => 0 ≤ c ∧ ∀ i, 0 ≤ i → i < c → O i = zc_sd (zv_mapA V A k (24 + i))) ?_ ?_ (A 0 * A 1).toNat 0 (J 22) (by omega) ⟨by omega, fun i _ _ => by omega⟩
        · rw [zw_i] at l
          exact l
        · rintro c O ⟨hc, hO⟩ hlt kk
          have e2' : zz_w J 22 O 17 2 = A 0 * A 1 := by rw [zw_n (by omega)]; exact e2
          have hro' : zk_ro R (zz_w J 22 O) V (115 + 2 * k.toNat) k := zk_ro_f hro (zw_n (by omega)) (zw_n (by omega))
          have c74 := c_74 (T := T) (J := zz_w J 22 O) (V := V) (R := R) (G := G) (d := d - 1) (k := k) (i := c) (by omega) hL hq hro' hc (by rw [hmp.1]; exact hlt)
          have hm := hmp.2 c hc (by rw [hmp.1]; exact hlt)
          have esd : (if V 138 (100 * k + c) = 99 then -1 else V 138 (100 * k + c)) = zc_sd (zv_mapA V A k (24 + c)) := by
            rw [hval c hc hlt]
            unfold zk_mo at hm
            unfold zc_sd
            by_cases q : V 138 (100 * k + c) = 99
            · rw [if_pos q, if_pos q, if_pos (by omega)]
            · rw [if_neg q, if_neg q, if_neg (by omega)]
          rw [esd] at c74
          refine zz_Es (fun n => e_97_43 _ _ _ _) ?_
          simp (maxSteps := 5000000) (disch := first | assumption | omega) only [e2', c74, zi_H, zz_wu, zr_16_0, zr_16_1, zr_16_2, zr_16_3, zg_16_4, zp_16_4, zr_16_5, zr_16_6, zr_16_7, zr_16_8, zr_16_9, zr_16_10, zr_16_11, zr_16_12, zi_16, za_105, zs_105, zl_105, za_106, zs_106, zl_106, zl_107, za_114, zs_114, zl_114, zr_pl, za_pl, zs_pl, zl_pl, zz_0, zz_31, zz_add, zz_sub, zz_mul, zz_neg, zz_lt, zz_le, zz_eq, zz_div, zz_md, zz_dv, zz_abs, zz_max, zz_min, zz_nI, zz_be0, zz_be1, zz_zb, zz_z, zz_l0, zz_l, zz_lcmp, zo_rf, zo_nl, zo_nn, zo_rI, zo_rL, zo_rR, zo_rV, Int.add_zero, Int.zero_add, Int.mul_zero, Int.zero_mul, Int.one_mul, Int.mul_one, if_true, if_false, not_true_eq_false, not_false_eq_true, zg_L_0, zp_L_0, zg_L_1, zp_L_1, zg_L_2, zp_L_2, zg_L_3, zp_L_3, zg_L_4, zp_L_4, zg_L_5, zp_L_5, zg_L_6, zp_L_6, zg_L_7, zp_L_7, zi_L, zr_L_8, za_L_1, zs_L_1, zr_L_9, za_L_2, zs_L_2, zr_L_10, za_L_3, zs_L_3, zr_L_11, za_L_4, zs_L_4, zr_L_12, za_L_5, zs_L_5, zr_L_13, za_L_6, zs_L_6, zr_L_14, za_L_7, zs_L_7, zr_L_15, za_L_8, zs_L_8, zr_L_16, za_L_9, zs_L_9, zr_L_17, za_L_10, zs_L_10, zr_L_18, za_L_11, zs_L_11, zr_L_19, za_L_12, zs_L_12]
          refine zz_Ei (fun h => absurd h (by omega)) (fun _ => ?_)
          refine kk _ ⟨by omega, fun i i0 i1 => ?_⟩
          by_cases q : i = c
          · rw [q, zf_s]
          · rw [zf_n q]
            exact hO i i0 (by omega)
        · rintro O ⟨_, hO⟩
          have e2' : zz_w J 22 O 17 2 = A 0 * A 1 := by rw [zw_n (by omega)]; exact e2
          have c42 := c_42 (T := T) (J := zz_w J 22 O) (R := R) (G := G) (d := d - 1) (p := 17) (Y := Y) (A := zv_mapA V A k) (by omega) hL (by omega) hok (op O hO).1
          have n0 : zv_mapA V A k 0 = A 0 := if_neg (by omega)
          have n1 : zv_mapA V A k 1 = A 1 := if_neg (by omega)
          rw [n0, n1] at c42
          refine zz_Es (fun n => e_97_43 _ _ _ _) ?_
          simp (maxSteps := 5000000) (disch := first | assumption | omega) only [e2', c42, zr_16_0, zr_16_1, zr_16_2, zr_16_3, zg_16_4, zp_16_4, zr_16_5, zr_16_6, zr_16_7, zr_16_8, zr_16_9, zr_16_10, zr_16_11, zr_16_12, zi_16, za_105, zs_105, zl_105, za_106, zs_106, zl_106, zl_107, za_114, zs_114, zl_114, zr_pl, za_pl, zs_pl, zl_pl, zz_0, zz_31, zz_add, zz_sub, zz_mul, zz_neg, zz_lt, zz_le, zz_eq, zz_div, zz_md, zz_dv, zz_abs, zz_max, zz_min, zz_nI, zz_be0, zz_be1, zz_zb, zz_z, zz_l0, zz_l, zz_lcmp, zo_rf, zo_nl, zo_nn, zo_rI, zo_rL, zo_rR, zo_rV, Int.add_zero, Int.zero_add, Int.mul_zero, Int.zero_mul, Int.one_mul, Int.mul_one, if_true, if_false, not_true_eq_false, not_false_eq_true, zg_L_0, zp_L_0, zg_L_1, zp_L_1, zg_L_2, zp_L_2, zg_L_3, zp_L_3, zg_L_4, zp_L_4, zg_L_5, zp_L_5, zg_L_6, zp_L_6, zg_L_7, zp_L_7, zi_L, zr_L_8, za_L_1, zs_L_1, zr_L_9, za_L_2, zs_L_2, zr_L_10, za_L_3, zs_L_3, zr_L_11, za_L_4, zs_L_4, zr_L_12, za_L_5, zs_L_5, zr_L_13, za_L_6, zs_L_6, zr_L_14, za_L_7, zs_L_7, zr_L_15, za_L_8, zs_L_8, zr_L_16, za_L_9, zs_L_9, zr_L_17, za_L_10, zs_L_10, zr_L_18, za_L_11, zs_L_11, zr_L_19, za_L_12, zs_L_12]
          refine zz_Ei (fun _ => ?_) (fun h => absurd (Int.le_refl _) h)
          exact zz_Er ⟨O, rfl, hO⟩
      · rw [zz_b_f hmp] at c73
        refine ⟨-13, J, A, ?_, o0, Or.inr (Or.inl ⟨e, hmp, rfl, rfl⟩), hA⟩
        refine zz_c (zz_call (by omega) t_97 rfl (fun n => e_97 _ _ _) ?_)
        simp (maxSteps := 5000000) (disch := first | assumption | omega) only [zi_H, c126, c67, e2, c73, zr_16_0, zr_16_1, zr_16_2, zr_16_3, zg_16_4, zp_16_4, zr_16_5, zr_16_6, zr_16_7, zr_16_8, zr_16_9, zr_16_10, zr_16_11, zr_16_12, zi_16, za_105, zs_105, zl_105, za_106, zs_106, zl_106, zl_107, za_114, zs_114, zl_114, zr_pl, za_pl, zs_pl, zl_pl, zz_0, zz_31, zz_add, zz_sub, zz_mul, zz_neg, zz_lt, zz_le, zz_eq, zz_div, zz_md, zz_dv, zz_abs, zz_max, zz_min, zz_nI, zz_be0, zz_be1, zz_zb, zz_z, zz_l0, zz_l, zz_lcmp, zo_rf, zo_nl, zo_nn, zo_rI, zo_rL, zo_rR, zo_rV, Int.add_zero, Int.zero_add, Int.mul_zero, Int.zero_mul, Int.one_mul, Int.mul_one, if_true, if_false, not_true_eq_false, not_false_eq_true, zg_L_0, zp_L_0, zg_L_1, zp_L_1, zg_L_2, zp_L_2, zg_L_3, zp_L_3, zg_L_4, zp_L_4, zg_L_5, zp_L_5, zg_L_6, zp_L_6, zg_L_7, zp_L_7, zi_L, zr_L_8, za_L_1, zs_L_1, zr_L_9, za_L_2, zs_L_2, zr_L_10, za_L_3, zs_L_3, zr_L_11, za_L_4, zs_L_4, zr_L_12, za_L_5, zs_L_5, zr_L_13, za_L_6, zs_L_6, zr_L_14, za_L_7, zs_L_7, zr_L_15, za_L_8, zs_L_8, zr_L_16, za_L_9, zs_L_9, zr_L_17, za_L_10, zs_L_10, zr_L_18, za_L_11, zs_L_11, zr_L_19, za_L_12, zs_L_12]
        exact zz_Er rfl
theorem c_115 (hd : 3 ≤ d) (hL : ZL T R) (hA : zz_ok Y A) (hR : zc_rep T R J 17 A) (hs : zk_sh T R J V) (h1 : zk_r32 k) : ∃ v, mv_cax d 115 [.inr (.inr (some 16)), .inl (mv_c k)] (zz_S T J R G) = some (some (.inl (mv_c v)), (zz_S T J R G)) ∧ zv_judge V A k v := by
  have hn := hA.n
  obtain ⟨h1, h1'⟩ := h1
  have e2 : J 17 2 = A 0 * A 1 := hR.1.1.2.2
  have c126 := c_126 (T := T) (J := J) (R := R) (G := G) (d := d - 1) (k := k) (by omega) hL h1 h1'
  rcases zv_wr_c V k (-1) with ⟨e, hk⟩ | ⟨hk, h⟩
  · rw [if_neg hk] at c126
    refine ⟨-1, ?_, Or.inl ⟨by omega, e.symm⟩⟩
    refine zz_c (zz_call (by omega) t_115 rfl (fun n => e_115 _ _ _) ?_)
    simp (maxSteps := 5000000) (disch := first | assumption | omega) only [zi_16, c126, zz_0, zz_31, zz_add, zz_sub, zz_mul, zz_neg, zz_lt, zz_le, zz_eq, zz_div, zz_md, zz_dv, zz_abs, zz_max, zz_min, zz_nI, zz_be0, zz_be1, zz_zb, zz_z, zz_l0, zz_l, zz_lcmp, zo_rf, zo_nl, zo_nn, zo_rI, zo_rL, zo_rR, zo_rV, Int.add_zero, Int.zero_add, Int.mul_zero, Int.zero_mul, Int.one_mul, Int.mul_one, if_true, if_false, not_true_eq_false, not_false_eq_true]
    exact zz_Er rfl
  · have hq := zk_q hk.1 hk.2
    have h16 := zk_q16 hq
    have c66 := c_66 (T := T) (J := J) (V := V) (R := R) (G := G) (d := d - 1) (k := k) (by omega) hL hq (hs k hk.1 hk.2) hk.1 hk.2
    rw [if_pos hk] at c126
    rcases h with ⟨e, h⟩ | ⟨e, h⟩ | ⟨e, h, -⟩
    · refine ⟨-11, ?_, Or.inl ⟨by omega, e.symm⟩⟩
      rw [e] at c66
      refine zz_c (zz_call (by omega) t_115 rfl (fun n => e_115 _ _ _) ?_)
      simp (maxSteps := 5000000) (disch := first | assumption | omega) only [zi_16, zi_H, c126, c66, zz_0, zz_31, zz_add, zz_sub, zz_mul, zz_neg, zz_lt, zz_le, zz_eq, zz_div, zz_md, zz_dv, zz_abs, zz_max, zz_min, zz_nI, zz_be0, zz_be1, zz_zb, zz_z, zz_l0, zz_l, zz_lcmp, zo_rf, zo_nl, zo_nn, zo_rI, zo_rL, zo_rR, zo_rV, Int.add_zero, Int.zero_add, Int.mul_zero, Int.zero_mul, Int.one_mul, Int.mul_one, if_true, if_false, not_true_eq_false, not_false_eq_true]
      first
        | exact zz_Er rfl
        | exact zz_Ei (fun h => absurd h (by omega)) (fun _ => zz_Er rfl)
    · refine ⟨-12, ?_, Or.inl ⟨by omega, e.symm⟩⟩
      rw [e] at c66
      refine zz_c (zz_call (by omega) t_115 rfl (fun n => e_115 _ _ _) ?_)
      simp (maxSteps := 5000000) (disch := first | assumption | omega) only [zi_16, zi_H, c126, c66, zz_0, zz_31, zz_add, zz_sub, zz_mul, zz_neg, zz_lt, zz_le, zz_eq, zz_div, zz_md, zz_dv, zz_abs, zz_max, zz_min, zz_nI, zz_be0, zz_be1, zz_zb, zz_z, zz_l0, zz_l, zz_lcmp, zo_rf, zo_nl, zo_nn, zo_rI, zo_rL, zo_rR, zo_rV, Int.add_zero, Int.zero_add, Int.mul_zero, Int.zero_mul, Int.one_mul, Int.mul_one, if_true, if_false, not_true_eq_false, not_false_eq_true]
      first
        | exact zz_Er rfl
        | exact zz_Ei (fun h => absurd h (by omega)) (fun _ => zz_Er rfl)
    · rw [e] at c66
      have hro := zk_sq2 (hs k hk.1 hk.2) h
      obtain ⟨h3, h4, h5⟩ := hro.2.2.2.1
      have c72 := c_72 (T := T) (J := J) (V := V) (R := R) (G := G) (d := d - 1) (k := k) (by omega) hL hq hro
      have hln : zk_r32 (zv_ln (V 136 k)) := by
        unfold zv_ln zk_r32
        split
        · omega
        · split <;> omega
      obtain ⟨l1, l2⟩ := hln
      suffices hx : ∃ r, mv_cax d 115 [.inr (.inr (some 16)), .inl (mv_c k)] (zz_S T J R G) = some r ∧ ∃ v, r = (some (.inl (mv_c v)), (zz_S T J R G)) ∧ zv_jd V A k v by
        obtain ⟨r, g1, v, rfl, g2⟩ := hx
        exact ⟨v, g1, Or.inr ⟨e, g2⟩⟩
      refine zz_call (by omega) t_115 rfl (fun n => e_115 _ _ _) ?_
      simp (maxSteps := 5000000) (disch := first | assumption | omega) only [zi_16, zi_H, c126, c66, c72, zz_0, zz_31, zz_add, zz_sub, zz_mul, zz_neg, zz_lt, zz_le, zz_eq, zz_div, zz_md, zz_dv, zz_abs, zz_max, zz_min, zz_nI, zz_be0, zz_be1, zz_zb, zz_z, zz_l0, zz_l, zz_lcmp, zo_rf, zo_nl, zo_nn, zo_rI, zo_rL, zo_rR, zo_rV, Int.add_zero, Int.zero_add, Int.mul_zero, Int.zero_mul, Int.one_mul, Int.mul_one, if_true, if_false, not_true_eq_false, not_false_eq_true]
      have stop : ∀ c, 0 ≤ c → (A 0 * A 1 ≤ c ∨ V 137 k ≤ c) → (∀ i, 0 ≤ i → i < c → ¬ zv_bad V A k i) → ∀ i, 0 ≤ i → i < A 0 * A 1 → i < V 137 k → ¬ zv_bad V A k i := fun c c0 c1 hi i i0 i1 i2 => hi i i0 (by omega)
      refine zz_whil (α := Int) (run := fun c n => mv_run (mv_cax (d - 1)) mm_115 n 32 [(0, .inr (.inr (some 16))), (2, .inr (.inr (some (115 + 2 * k.toNat)))), (4, .inl (mv_c (zv_ln (V 136 k)))), (5, .inl (mv_c c))] [] (zz_S T J R G)) (Q := fun r => ∃ v, r = (some (.inl (mv_c v)), (zz_S T J R G)) ∧ zv_jd V A k v) (fun c => (20 - c).toNat) (fun c => (0 ≤ c ∧ c ≤ A 0 * A 1) ∧ ∀ i, 0 ≤ i → i < c → ¬ zv_bad V A k i) ?_ 0 ⟨by omega, fun i _ _ => by omega⟩
      rintro c ⟨⟨hc, hc2⟩, hi⟩ kk
      by_cases hlt : c < A 0 * A 1
      · by_cases hlt2 : c < V 137 k
        · have hr := (hro.2.2.2.2 c hc (by omega)).2
          unfold zk_r32 at hr
          have qc : J 21 c = A (8 + c) := (hR.2.2.1 c hc hlt).1
          have hcA := (hA.2.2.2.2.2.2.2.1 c hc hlt).1
          have c70 := c_70 (T := T) (J := J) (V := V) (R := R) (G := G) (d := d - 1) (k := k) (i := c) (by omega) hL hq hro hc hlt2
          have nx : ¬ zv_bad V A k c → zz_E (fun n => mv_run (mv_cax (d - 1)) mm_115 n 32 [(0, .inr (.inr (some 16))), (2, .inr (.inr (some (115 + 2 * k.toNat)))), (4, .inl (mv_c (zv_ln (V 136 k)))), (5, .inl (mv_c (c + 1)))] [] (zz_S T J R G)) (fun r => ∃ v, r = (some (.inl (mv_c v)), (zz_S T J R G)) ∧ zv_jd V A k v) := fun h => kk (c + 1) ⟨by omega, fun i i0 i1 => by
            by_cases q : i = c
            · rw [q]; exact h
            · exact hi i i0 (by omega)⟩ (by omega)
          refine zz_Es (fun n => e_115_32 _ _ _ _ _) ?_
          simp (maxSteps := 5000000) (disch := first | assumption | omega) only [zg_L_2, zr_L_11, za_L_4, e2, h3, c70, qc, zr_sh, zg_H_1, zp_H_1, zg_H_2, zp_H_2, zg_H_3, zp_H_3, zr_H_0, zq_H_0, zr_H_4, zi_H, za_H, zs_H, zl_H, zz_0, zz_31, zz_add, zz_sub, zz_mul, zz_neg, zz_lt, zz_le, zz_eq, zz_div, zz_md, zz_dv, zz_abs, zz_max, zz_min, zz_nI, zz_be0, zz_be1, zz_zb, zz_z, zz_l0, zz_l, zz_lcmp, zo_rf, zo_nl, zo_nn, zo_rI, zo_rL, zo_rR, zo_rV, Int.add_zero, Int.zero_add, Int.mul_zero, Int.zero_mul, Int.one_mul, Int.mul_one, if_true, if_false, not_true_eq_false, not_false_eq_true, zr_16_0, zr_16_1, zr_16_2, zr_16_3, zg_16_4, zp_16_4, zr_16_5, zr_16_6, zr_16_7, zr_16_8, zr_16_9, zr_16_10, zr_16_11, zr_16_12, zi_16, za_105, zs_105, zl_105, za_106, zs_106, zl_106, zl_107, za_114, zs_114, zl_114, zr_pl, za_pl, zs_pl, zl_pl]
          refine zz_Ei (fun h => absurd h (by omega)) (fun _ => ?_)
          refine zz_Ei (fun h => absurd h (by omega)) (fun _ => ?_)
          refine zz_Ei (fun h => nx (fun q => q.1 h)) (fun g1 => ?_)
          refine zz_Ei (fun h => nx (fun q => q.2 h)) (fun g2 => ?_)
          exact zz_Er ⟨c, rfl, Or.inl ⟨⟨hc, hlt, hlt2⟩, ⟨g1, g2⟩, hi⟩⟩
        · have hb := stop c hc (Or.inr (by omega)) hi
          refine zz_Es (fun n => e_115_32 _ _ _ _ _) ?_
          simp (maxSteps := 5000000) (disch := first | assumption | omega) only [zg_L_2, e2, h3, zz_min, zr_sh, zg_H_1, zp_H_1, zg_H_2, zp_H_2, zg_H_3, zp_H_3, zr_H_0, zq_H_0, zr_H_4, zi_H, za_H, zs_H, zl_H, zz_0, zz_31, zz_add, zz_sub, zz_mul, zz_neg, zz_lt, zz_le, zz_eq, zz_div, zz_md, zz_dv, zz_abs, zz_max, zz_min, zz_nI, zz_be0, zz_be1, zz_zb, zz_z, zz_l0, zz_l, zz_lcmp, zo_rf, zo_nl, zo_nn, zo_rI, zo_rL, zo_rR, zo_rV, Int.add_zero, Int.zero_add, Int.mul_zero, Int.zero_mul, Int.one_mul, Int.mul_one, if_true, if_false, not_true_eq_false, not_false_eq_true, zr_16_0, zr_16_1, zr_16_2, zr_16_3, zg_16_4, zp_16_4, zr_16_5, zr_16_6, zr_16_7, zr_16_8, zr_16_9, zr_16_10, zr_16_11, zr_16_12, zi_16, za_105, zs_105, zl_105, za_106, zs_106, zl_106, zl_107, za_114, zs_114, zl_114, zr_pl, za_pl, zs_pl, zl_pl]
          refine zz_Ei (fun h => absurd h (by omega)) (fun _ => ?_)
          refine zz_Ei (fun _ => ?_) (fun h => absurd (by omega) h)
          refine zz_Ei (fun h => absurd h (by omega)) (fun g => ?_)
          exact zz_Er ⟨_, rfl, Or.inr ⟨hb, by rw [if_neg g]⟩⟩
      · have hb := stop c hc (Or.inl (by omega)) hi
        refine zz_Es (fun n => e_115_32 _ _ _ _ _) ?_
        simp (maxSteps := 5000000) (disch := first | assumption | omega) only [zg_L_2, e2, h3, zz_min, zr_sh, zg_H_1, zp_H_1, zg_H_2, zp_H_2, zg_H_3, zp_H_3, zr_H_0, zq_H_0, zr_H_4, zi_H, za_H, zs_H, zl_H, zz_0, zz_31, zz_add, zz_sub, zz_mul, zz_neg, zz_lt, zz_le, zz_eq, zz_div, zz_md, zz_dv, zz_abs, zz_max, zz_min, zz_nI, zz_be0, zz_be1, zz_zb, zz_z, zz_l0, zz_l, zz_lcmp, zo_rf, zo_nl, zo_nn, zo_rI, zo_rL, zo_rR, zo_rV, Int.add_zero, Int.zero_add, Int.mul_zero, Int.zero_mul, Int.one_mul, Int.mul_one, if_true, if_false, not_true_eq_false, not_false_eq_true, zr_16_0, zr_16_1, zr_16_2, zr_16_3, zg_16_4, zp_16_4, zr_16_5, zr_16_6, zr_16_7, zr_16_8, zr_16_9, zr_16_10, zr_16_11, zr_16_12, zi_16, za_105, zs_105, zl_105, za_106, zs_106, zl_106, zl_107, za_114, zs_114, zl_114, zr_pl, za_pl, zs_pl, zl_pl]
        refine zz_Ei (fun _ => ?_) (fun h => absurd (by omega) h)
        refine zz_Ei (fun h => ?_) (fun g => ?_)
        · exact zz_Er ⟨-4, rfl, Or.inr ⟨hb, by rw [if_pos h]⟩⟩
        · exact zz_Er ⟨_, rfl, Or.inr ⟨hb, by rw [if_neg g]⟩⟩
theorem c_123 {i e j n : Int} (hd : 3 ≤ d) (hL : ZL T R) (hs : zk_sh T R J V) (h1 : zk_r32 k) (h2 : zk_r32 i) (h3 : zk_r32 e) (h4 : zk_r32 j) (h5 : zk_r32 n) : ∃ J', mv_cax d 123 [.inr (.inr (some 16)), .inl (mv_c k), .inl (mv_c i), .inl (mv_c e), .inl (mv_c j), .inl (mv_c n)] (zz_S T J R G) = some (some (.inl (mv_c (zv_copy V k i e j n))), zz_S T J' R G) ∧ zk_os T R R J J' (zv_copyV V k i e j n) := by
  obtain ⟨h1, h1'⟩ := h1
  obtain ⟨h2, h2'⟩ := h2
  obtain ⟨h3, h3'⟩ := h3
  obtain ⟨h4, h4'⟩ := h4
  obtain ⟨h5, h5'⟩ := h5
  have ck := c_126 (T := T) (J := J) (R := R) (G := G) (d := d - 1) (k := k) (by omega) hL h1 h1'
  have ce := c_126 (T := T) (J := J) (R := R) (G := G) (d := d - 1) (k := e) (by omega) hL h3 h3'
  have o0 : zk_os T R R J J V := zk_os0 hs
  by_cases hk : 0 ≤ k ∧ k < 8
  · rw [if_pos hk] at ck
    have hq := zk_q hk.1 hk.2
    have q16 := zk_q16 hq
    by_cases he : 0 ≤ e ∧ e < 8
    · rw [if_pos he] at ce
      have hqe := zk_q he.1 he.2
      have qe16 := zk_q16 hqe
      have hsk := hs k hk.1 hk.2
      have hse := hs e he.1 he.2
      have k64 := c_64 (T := T) (J := J) (V := V) (R := R) (G := G) (d := d - 1) (k := k) (by omega) hL hq hsk
      have e64 := c_64 (T := T) (J := J) (V := V) (R := R) (G := G) (d := d - 1) (k := e) (by omega) hL hqe hse
      by_cases hk0 : V 135 k = 0
      · rw [zz_b_t hk0] at k64
        rw [zv_copy, zv_copyV, if_pos ⟨hk, he⟩, if_pos (Or.inl hk0), if_neg (fun q => by omega)]
        refine ⟨J, ?_, o0⟩
        refine zz_c (zz_call (by omega) t_123 rfl (fun n => e_123 _ _ _ _ _ _ _) ?_)
        simp (maxSteps := 5000000) (disch := first | assumption | omega) only [zi_16, zi_H, ck, ce, k64, zz_0, zz_31, zz_add, zz_sub, zz_mul, zz_neg, zz_lt, zz_le, zz_eq, zz_div, zz_md, zz_dv, zz_abs, zz_max, zz_min, zz_nI, zz_be0, zz_be1, zz_zb, zz_z, zz_l0, zz_l, zz_lcmp, zo_rf, zo_nl, zo_nn, zo_rI, zo_rL, zo_rR, zo_rV, Int.add_zero, Int.zero_add, Int.mul_zero, Int.zero_mul, Int.one_mul, Int.mul_one, if_true, if_false, not_true_eq_false, not_false_eq_true]
        try (refine zz_Ei (fun h => absurd (show (1 : Int) = 0 from h) (by omega)) (fun _ => ?_))
        exact zz_Er rfl
      · rw [zz_b_f hk0] at k64
        by_cases he0 : V 135 e = 0
        · rw [zz_b_t he0] at e64
          rw [zv_copy, zv_copyV, if_pos ⟨hk, he⟩, if_pos (Or.inr he0), if_neg (fun q => by omega)]
          refine ⟨J, ?_, o0⟩
          refine zz_c (zz_call (by omega) t_123 rfl (fun n => e_123 _ _ _ _ _ _ _) ?_)
          simp (maxSteps := 5000000) (disch := first | assumption | omega) only [zi_16, zi_H, ck, ce, k64, e64, zz_0, zz_31, zz_add, zz_sub, zz_mul, zz_neg, zz_lt, zz_le, zz_eq, zz_div, zz_md, zz_dv, zz_abs, zz_max, zz_min, zz_nI, zz_be0, zz_be1, zz_zb, zz_z, zz_l0, zz_l, zz_lcmp, zo_rf, zo_nl, zo_nn, zo_rI, zo_rL, zo_rR, zo_rV, Int.add_zero, Int.zero_add, Int.mul_zero, Int.zero_mul, Int.one_mul, Int.mul_one, if_true, if_false, not_true_eq_false, not_false_eq_true]
          try (refine zz_Ei (fun h => absurd (show (1 : Int) = 0 from h) (by omega)) (fun _ => ?_))
          exact zz_Er rfl
        · rw [zz_b_f he0] at e64
          by_cases hk2 : V 135 k = 2
          · have hrk := zk_sq2 hsk hk2
            obtain ⟨s1, s2, s3⟩ := hrk.2.2.1
            have e65 := c_65 (T := T) (J := J) (V := V) (R := R) (G := G) (d := d - 1) (k := e) (s := V 136 k) (by omega) hL hqe hse (by omega) (by omega)
            have g11 := hrk.1
            by_cases he2 : V 135 e = 2 ∧ V 136 e = V 136 k
            · rw [zz_b_t he2] at e65
              have hre := zk_sq2 hse he2.1
              have hnk := hrk.2.2.2.1.2
              have hne := hre.2.2.2.1.2
              have k69 := c_69 (T := T) (J := J) (V := V) (R := R) (G := G) (d := d - 1) (k := k) (i := i) (n := n) (by omega) hL hq hrk h2 h2' h5 h5'
              have e69 := c_69 (T := T) (J := J) (V := V) (R := R) (G := G) (d := d - 1) (k := e) (i := j) (n := n) (by omega) hL hqe hre h4 h4' h5 h5'
              by_cases hi : 0 ≤ i ∧ 0 ≤ n ∧ n ≤ V 137 k - i
              · rw [zz_b_t hi] at k69
                by_cases hj : 0 ≤ j ∧ 0 ≤ n ∧ n ≤ V 137 e - j
                · rw [zz_b_t hj] at e69
                  rw [zv_copy, zv_copyV, if_pos ⟨hk, he⟩, if_neg (by omega), if_pos ⟨hk2, he2⟩, if_pos ⟨hi, hj.1, hj.2.2⟩, if_pos ⟨⟨hk, he⟩, ⟨hk2, he2⟩, hi, hj.1, hj.2.2⟩]
                  have hcp : ∀ K : mv_S → mv_O, mo_cp (zz_S T J R G) (115 + 2 * k.toNat + 1) (mv_c i) (115 + 2 * e.toNat + 1) (mv_c j) (mv_c n) K = K (zz_S T (zz_cp J (115 + 2 * k.toNat + 1) i (115 + 2 * e.toNat + 1) j n) R G) := fun K => zz_cpy (by omega) (by omega) (zz_Ht1 hL hq) (zz_Ht1 hL hqe) hi.1 hj.1 hi.2.1 (by omega) (by omega) (by omega) (by omega)
                  have nA : ∀ x, x ≠ 115 + 2 * e.toNat + 1 → zz_cp J (115 + 2 * k.toNat + 1) i (115 + 2 * e.toNat + 1) j n x = J x := fun x hx => by
                    funext y
                    unfold zz_cp
                    rw [if_neg (fun q => hx q.1)]
                  refine ⟨zz_cp J (115 + 2 * k.toNat + 1) i (115 + 2 * e.toNat + 1) j n, ?_, fun x hx => nA x (by omega), fun _ _ _ => rfl, ?_⟩
                  · refine zz_c (zz_call (by omega) t_123 rfl (fun n => e_123 _ _ _ _ _ _ _) ?_)
                    simp (maxSteps := 5000000) (disch := first | assumption | omega) only [zi_16, ck, ce, k64, e64, g11, s1, e65, k69, e69, hcp, zr_sh, zg_H_1, zp_H_1, zg_H_2, zp_H_2, zg_H_3, zp_H_3, zr_H_0, zq_H_0, zr_H_4, zi_H, za_H, zs_H, zl_H, zz_0, zz_31, zz_add, zz_sub, zz_mul, zz_neg, zz_lt, zz_le, zz_eq, zz_div, zz_md, zz_dv, zz_abs, zz_max, zz_min, zz_nI, zz_be0, zz_be1, zz_zb, zz_z, zz_l0, zz_l, zz_lcmp, zo_rf, zo_nl, zo_nn, zo_rI, zo_rL, zo_rR, zo_rV, Int.add_zero, Int.zero_add, Int.mul_zero, Int.zero_mul, Int.one_mul, Int.mul_one, if_true, if_false, not_true_eq_false, not_false_eq_true]
                    repeat' (first | exact zz_Er rfl | refine zz_Ei (fun h => ?_) (fun g => ?_))
                    all_goals (exfalso; omega)
                  · refine zk_sh_s hs he (Or.inr (Or.inr ⟨by rw [zw_n (by omega)]; exact he2.1, by rw [nA _ (by omega)]; exact hre.1, hre.2.1, by rw [nA _ (by omega), zw_n (by omega)]; exact hre.2.2.1, by rw [nA _ (by omega), zw_n (by omega)]; exact hre.2.2.2.1, fun y y0 y1 => ?_⟩)) (fun x _ x2 => nA x x2) (fun _ _ => rfl) (fun y hy => ⟨by rw [zw_n (by omega)], by rw [zw_n (by omega)], by rw [zw_n (by omega)], by rw [zw_n (by omega)], by rw [zw_n (by omega)], fun z _ _ => by rw [zw_s, if_neg (by omega)]⟩)
                    rw [zw_s]
                    unfold zz_cp
                    by_cases qy : j ≤ y ∧ y < j + n
                    · rw [if_pos ⟨rfl, qy⟩, if_pos (by omega)]
                      have u := hrk.2.2.2.2 (i + (y - j)) (by omega) (by omega)
                      rw [show 100 * k + i + (100 * e + y - (100 * e + j)) = 100 * k + (i + (y - j)) by omega]
                      exact u
                    · rw [if_neg (fun q => qy q.2), if_neg (by omega)]
                      exact hre.2.2.2.2 y y0 y1
                · rw [zz_b_f hj] at e69
                  rw [zv_copy, zv_copyV, if_pos ⟨hk, he⟩, if_neg (by omega), if_pos ⟨hk2, he2⟩, if_neg (fun q => hj ⟨q.2.1, hi.2.1, q.2.2⟩), if_neg (fun q => hj ⟨q.2.2.2.1, hi.2.1, q.2.2.2.2⟩)]
                  refine ⟨J, ?_, o0⟩
                  refine zz_c (zz_call (by omega) t_123 rfl (fun n => e_123 _ _ _ _ _ _ _) ?_)
                  simp (maxSteps := 5000000) (disch := first | assumption | omega) only [zi_16, ck, ce, k64, e64, g11, s1, e65, k69, e69, zr_sh, zg_H_1, zp_H_1, zg_H_2, zp_H_2, zg_H_3, zp_H_3, zr_H_0, zq_H_0, zr_H_4, zi_H, za_H, zs_H, zl_H, zz_0, zz_31, zz_add, zz_sub, zz_mul, zz_neg, zz_lt, zz_le, zz_eq, zz_div, zz_md, zz_dv, zz_abs, zz_max, zz_min, zz_nI, zz_be0, zz_be1, zz_zb, zz_z, zz_l0, zz_l, zz_lcmp, zo_rf, zo_nl, zo_nn, zo_rI, zo_rL, zo_rR, zo_rV, Int.add_zero, Int.zero_add, Int.mul_zero, Int.zero_mul, Int.one_mul, Int.mul_one, if_true, if_false, not_true_eq_false, not_false_eq_true]
                  repeat' (first | exact zz_Er rfl | refine zz_Ei (fun h => ?_) (fun g => ?_))
                  all_goals (exfalso; omega)
              · rw [zz_b_f hi] at k69
                rw [zv_copy, zv_copyV, if_pos ⟨hk, he⟩, if_neg (by omega), if_pos ⟨hk2, he2⟩, if_neg (fun q => hi q.1), if_neg (fun q => hi q.2.2.1)]
                refine ⟨J, ?_, o0⟩
                refine zz_c (zz_call (by omega) t_123 rfl (fun n => e_123 _ _ _ _ _ _ _) ?_)
                simp (maxSteps := 5000000) (disch := first | assumption | omega) only [zi_16, ck, ce, k64, e64, g11, s1, e65, k69, zr_sh, zg_H_1, zp_H_1, zg_H_2, zp_H_2, zg_H_3, zp_H_3, zr_H_0, zq_H_0, zr_H_4, zi_H, za_H, zs_H, zl_H, zz_0, zz_31, zz_add, zz_sub, zz_mul, zz_neg, zz_lt, zz_le, zz_eq, zz_div, zz_md, zz_dv, zz_abs, zz_max, zz_min, zz_nI, zz_be0, zz_be1, zz_zb, zz_z, zz_l0, zz_l, zz_lcmp, zo_rf, zo_nl, zo_nn, zo_rI, zo_rL, zo_rR, zo_rV, Int.add_zero, Int.zero_add, Int.mul_zero, Int.zero_mul, Int.one_mul, Int.mul_one, if_true, if_false, not_true_eq_false, not_false_eq_true]
                repeat' (first | exact zz_Er rfl | refine zz_Ei (fun h => ?_) (fun g => ?_))
                all_goals (exfalso; omega)
            · rw [zz_b_f he2] at e65
              rw [zv_copy, zv_copyV, if_pos ⟨hk, he⟩, if_neg (by omega), if_neg (fun q => he2 q.2), if_neg (fun q => he2 q.2.1.2)]
              refine ⟨J, ?_, o0⟩
              refine zz_c (zz_call (by omega) t_123 rfl (fun n => e_123 _ _ _ _ _ _ _) ?_)
              simp (maxSteps := 5000000) (disch := first | assumption | omega) only [zi_16, ck, ce, k64, e64, g11, s1, e65, zr_sh, zg_H_1, zp_H_1, zg_H_2, zp_H_2, zg_H_3, zp_H_3, zr_H_0, zq_H_0, zr_H_4, zi_H, za_H, zs_H, zl_H, zz_0, zz_31, zz_add, zz_sub, zz_mul, zz_neg, zz_lt, zz_le, zz_eq, zz_div, zz_md, zz_dv, zz_abs, zz_max, zz_min, zz_nI, zz_be0, zz_be1, zz_zb, zz_z, zz_l0, zz_l, zz_lcmp, zo_rf, zo_nl, zo_nn, zo_rI, zo_rL, zo_rR, zo_rV, Int.add_zero, Int.zero_add, Int.mul_zero, Int.zero_mul, Int.one_mul, Int.mul_one, if_true, if_false, not_true_eq_false, not_false_eq_true]
              repeat' (first | exact zz_Er rfl | refine zz_Ei (fun h => ?_) (fun g => ?_))
              all_goals (exfalso; omega)
          · have g10 : J (115 + 2 * k.toNat) 1 = 0 := by
              rcases hsk with ⟨h, g1, g2⟩ | ⟨h, g1, -⟩ | ⟨h, -⟩
              · exact g1
              · exact g1
              · omega
            rw [zv_copy, zv_copyV, if_pos ⟨hk, he⟩, if_neg (by omega), if_neg (fun q => hk2 q.1), if_neg (fun q => hk2 q.2.1.1)]
            refine ⟨J, ?_, o0⟩
            refine zz_c (zz_call (by omega) t_123 rfl (fun n => e_123 _ _ _ _ _ _ _) ?_)
            simp (maxSteps := 5000000) (disch := first | assumption | omega) only [zi_16, ck, ce, k64, e64, g10, zr_sh, zg_H_1, zp_H_1, zg_H_2, zp_H_2, zg_H_3, zp_H_3, zr_H_0, zq_H_0, zr_H_4, zi_H, za_H, zs_H, zl_H, zz_0, zz_31, zz_add, zz_sub, zz_mul, zz_neg, zz_lt, zz_le, zz_eq, zz_div, zz_md, zz_dv, zz_abs, zz_max, zz_min, zz_nI, zz_be0, zz_be1, zz_zb, zz_z, zz_l0, zz_l, zz_lcmp, zo_rf, zo_nl, zo_nn, zo_rI, zo_rL, zo_rR, zo_rV, Int.add_zero, Int.zero_add, Int.mul_zero, Int.zero_mul, Int.one_mul, Int.mul_one, if_true, if_false, not_true_eq_false, not_false_eq_true]
            exact zz_Er rfl
    · rw [if_neg he] at ce
      rw [zv_copy, zv_copyV, if_neg (fun q => he q.2), if_neg (fun q => he q.1.2)]
      refine ⟨J, ?_, o0⟩
      refine zz_c (zz_call (by omega) t_123 rfl (fun n => e_123 _ _ _ _ _ _ _) ?_)
      simp (maxSteps := 5000000) (disch := first | assumption | omega) only [zi_16, ck, ce, zz_0, zz_31, zz_add, zz_sub, zz_mul, zz_neg, zz_lt, zz_le, zz_eq, zz_div, zz_md, zz_dv, zz_abs, zz_max, zz_min, zz_nI, zz_be0, zz_be1, zz_zb, zz_z, zz_l0, zz_l, zz_lcmp, zo_rf, zo_nl, zo_nn, zo_rI, zo_rL, zo_rR, zo_rV, Int.add_zero, Int.zero_add, Int.mul_zero, Int.zero_mul, Int.one_mul, Int.mul_one, if_true, if_false, not_true_eq_false, not_false_eq_true]
      exact zz_Er rfl
  · rw [if_neg hk] at ck
    rw [zv_copy, zv_copyV, if_neg (fun q => hk q.1), if_neg (fun q => hk q.1.1)]
    refine ⟨J, ?_, o0⟩
    refine zz_c (zz_call (by omega) t_123 rfl (fun n => e_123 _ _ _ _ _ _ _) ?_)
    simp (maxSteps := 5000000) (disch := first | assumption | omega) only [zi_16, ck, ce, zz_0, zz_31, zz_add, zz_sub, zz_mul, zz_neg, zz_lt, zz_le, zz_eq, zz_div, zz_md, zz_dv, zz_abs, zz_max, zz_min, zz_nI, zz_be0, zz_be1, zz_zb, zz_z, zz_l0, zz_l, zz_lcmp, zo_rf, zo_nl, zo_nn, zo_rI, zo_rL, zo_rR, zo_rV, Int.add_zero, Int.zero_add, Int.mul_zero, Int.zero_mul, Int.one_mul, Int.mul_one, if_true, if_false, not_true_eq_false, not_false_eq_true]
    exact zz_Er rfl
end ZSHM
