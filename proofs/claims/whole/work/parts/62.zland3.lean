/-! PURE LAYER, 42: the class's land: worths, sums -/
section ZLN3
variable {T : List mv_T} {J : Nat → Int → Int} {R : Nat → Nat → Option Nat} {G : Nat → Nat → Int64} {d p : Nat} {Y : Int} {A : Int → Int}
theorem c_57 {e w h : Int} (hd : 1 ≤ d) (hL : ZL T R) (hp : Lnd p) (hA : zz_ok Y A) (hR : zc_rep T R J p A) (e0 : 0 ≤ e) (e1 : e < A 7) (w0 : 0 ≤ w) (w1 : w < A (42 + 15 * e)) (h0 : 0 ≤ h) (h1 : h ≤ 9) : mv_cax d 57 [.inr (.inr (some p)), .inl (mv_c (e * 4 + w)), .inl (mv_c h)] (zz_S T J R G) = some (some (.inl (mv_c (zz_wi A e w h))), (zz_S T J R G)) := by
  have h7 := hA.2.2.2.2.2.2.1
  have hD := hA.2.2.2.2.2.2.2.2 e e0 e1
  have h3 := hD.2.2.1
  have hW := hD.2.2.2 w w0 w1
  obtain ⟨q1, q2, q3⟩ := (hR.2.2.2 e e0 e1).2.2 w w0 w1
  unfold zz_wi
  refine zz_c (zz_call (by omega) t_57 rfl (fun n => e_57 _ _ _ _) ?_)
  simp (maxSteps := 5000000) (disch := first | assumption | omega) only [q2, q3, zg_L_0, zp_L_0, zg_L_1, zp_L_1, zg_L_2, zp_L_2, zg_L_3, zp_L_3, zg_L_4, zp_L_4, zg_L_5, zp_L_5, zg_L_6, zp_L_6, zg_L_7, zp_L_7, zi_L, zr_L_8, za_L_1, zs_L_1, zr_L_9, za_L_2, zs_L_2, zr_L_10, za_L_3, zs_L_3, zr_L_11, za_L_4, zs_L_4, zr_L_12, za_L_5, zs_L_5, zr_L_13, za_L_6, zs_L_6, zr_L_14, za_L_7, zs_L_7, zr_L_15, za_L_8, zs_L_8, zr_L_16, za_L_9, zs_L_9, zr_L_17, za_L_10, zs_L_10, zr_L_18, za_L_11, zs_L_11, zr_L_19, za_L_12, zs_L_12, zz_0, zz_31, zz_add, zz_sub, zz_mul, zz_neg, zz_lt, zz_le, zz_eq, zz_div, zz_md, zz_dv, zz_abs, zz_max, zz_min, zz_nI, zz_be0, zz_be1, zz_zb, zz_z, zz_l0, zz_l, zz_lcmp, zo_rf, zo_nl, zo_nn, zo_rI, zo_rL, zo_rR, zo_rV, Int.add_zero, Int.zero_add, Int.mul_zero, Int.zero_mul, Int.one_mul, Int.mul_one, if_true, if_false, not_true_eq_false, not_false_eq_true]
  exact zz_Er rfl
theorem c_58 {e : Int} {g : Nat} (hd : 2 ≤ d) (hL : ZL T R) (hp : Lnd p) (hA : zz_ok Y A) (hR : zc_rep T R J p A) (e0 : 0 ≤ e) (e1 : e < A 7) (hg : T[g]? = some (.inr (0, 16))) (hgr : ∀ c, 0 ≤ c → c < A 0 * A 1 → 0 ≤ J g c ∧ J g c ≤ 9) : mv_cax d 58 [.inr (.inr (some p)), .inl (mv_c e), .inr (.inr (some g))] (zz_S T J R G) = some (some (.inl (mv_c (zz_wo A (J g) e))), (zz_S T J R G)) := by
  have hn := hA.n
  have h7 := hA.2.2.2.2.2.2.1
  have hD := hA.2.2.2.2.2.2.2.2 e e0 e1
  have h3 := hD.2.2.1
  have hc := (hR.2.2.2 e e0 e1).2.1
  have ga : ∀ i (k : Int32 → mv_O), 0 ≤ i → i < 16 → mo_aI (zz_S T J R G) g (mv_c i) k = k (mv_c (J g i)) := fun i k i0 i1 => zz_aI hg i0 i1 (by decide)
  refine zz_c (zz_call (by omega) t_58 rfl (fun n => e_58 _ _ _ _) ?_)
  refine zz_loop (run := fun w s n => mv_run (mv_cax (d - 1)) mm_58 n 5 [(0, .inr (.inr (some p))), (1, .inl (mv_c e)), (2, .inr (.inr (some g))), (3, .inl (mv_c s)), (4, .inl (mv_c w))] [] (zz_S T J R G)) (A (42 + 15 * e)) (fun w s => 0 ≤ w ∧ s = zz_sum (fun w => zz_wi A e w (J g (A (43 + 15 * e + 3 * w)))) w) ?_ ?_ (A (42 + 15 * e)).toNat 0 0 (by omega) ⟨by omega, rfl⟩
  · rintro w s ⟨hw, rfl⟩ hlt kk
    have hW := hD.2.2.2 w hw hlt
    have hr := hgr _ hW.1.1 hW.1.2
    have q1 := ((hR.2.2.2 e e0 e1).2.2 w hw hlt).1
    have s1 : zz_sum (fun w => zz_wi A e w (J g (A (43 + 15 * e + 3 * w)))) (w + 1) = zz_sum (fun w => zz_wi A e w (J g (A (43 + 15 * e + 3 * w)))) w + zz_wi A e w (J g (A (43 + 15 * e + 3 * w))) := zz_sum1 hw
    refine zz_Es (fun n => e_58_5 _ _ _ _ _ _) ?_
    simp (maxSteps := 5000000) (disch := first | assumption | omega) only [hc, q1, ga, c_57 (Y := Y) (A := A), zg_L_0, zp_L_0, zg_L_1, zp_L_1, zg_L_2, zp_L_2, zg_L_3, zp_L_3, zg_L_4, zp_L_4, zg_L_5, zp_L_5, zg_L_6, zp_L_6, zg_L_7, zp_L_7, zi_L, zr_L_8, za_L_1, zs_L_1, zr_L_9, za_L_2, zs_L_2, zr_L_10, za_L_3, zs_L_3, zr_L_11, za_L_4, zs_L_4, zr_L_12, za_L_5, zs_L_5, zr_L_13, za_L_6, zs_L_6, zr_L_14, za_L_7, zs_L_7, zr_L_15, za_L_8, zs_L_8, zr_L_16, za_L_9, zs_L_9, zr_L_17, za_L_10, zs_L_10, zr_L_18, za_L_11, zs_L_11, zr_L_19, za_L_12, zs_L_12, zz_0, zz_31, zz_add, zz_sub, zz_mul, zz_neg, zz_lt, zz_le, zz_eq, zz_div, zz_md, zz_dv, zz_abs, zz_max, zz_min, zz_nI, zz_be0, zz_be1, zz_zb, zz_z, zz_l0, zz_l, zz_lcmp, zo_rf, zo_nl, zo_nn, zo_rI, zo_rL, zo_rR, zo_rV, Int.add_zero, Int.zero_add, Int.mul_zero, Int.zero_mul, Int.one_mul, Int.mul_one, if_true, if_false, not_true_eq_false, not_false_eq_true]
    refine zz_Ei (fun h => absurd h (by omega)) (fun _ => ?_)
    exact kk _ ⟨by omega, s1.symm⟩
  · rintro s ⟨hw, rfl⟩
    refine zz_Es (fun n => e_58_5 _ _ _ _ _ _) ?_
    simp (maxSteps := 5000000) (disch := first | assumption | omega) only [hc, zg_L_0, zp_L_0, zg_L_1, zp_L_1, zg_L_2, zp_L_2, zg_L_3, zp_L_3, zg_L_4, zp_L_4, zg_L_5, zp_L_5, zg_L_6, zp_L_6, zg_L_7, zp_L_7, zi_L, zr_L_8, za_L_1, zs_L_1, zr_L_9, za_L_2, zs_L_2, zr_L_10, za_L_3, zs_L_3, zr_L_11, za_L_4, zs_L_4, zr_L_12, za_L_5, zs_L_5, zr_L_13, za_L_6, zs_L_6, zr_L_14, za_L_7, zs_L_7, zr_L_15, za_L_8, zs_L_8, zr_L_16, za_L_9, zs_L_9, zr_L_17, za_L_10, zs_L_10, zr_L_18, za_L_11, zs_L_11, zr_L_19, za_L_12, zs_L_12, zz_0, zz_31, zz_add, zz_sub, zz_mul, zz_neg, zz_lt, zz_le, zz_eq, zz_div, zz_md, zz_dv, zz_abs, zz_max, zz_min, zz_nI, zz_be0, zz_be1, zz_zb, zz_z, zz_l0, zz_l, zz_lcmp, zo_rf, zo_nl, zo_nn, zo_rI, zo_rL, zo_rR, zo_rV, Int.add_zero, Int.zero_add, Int.mul_zero, Int.zero_mul, Int.one_mul, Int.mul_one, if_true, if_false, not_true_eq_false, not_false_eq_true]
    refine zz_Ei (fun _ => ?_) (fun h => absurd (Int.le_refl _) h)
    exact zz_Er rfl
theorem c_59 {g : Nat} (hd : 3 ≤ d) (hL : ZL T R) (hp : Lnd p) (hA : zz_ok Y A) (hR : zc_rep T R J p A) (hg : T[g]? = some (.inr (0, 16))) (hgr : ∀ c, 0 ≤ c → c < A 0 * A 1 → 0 ≤ J g c ∧ J g c ≤ 9) : mv_cax d 59 [.inr (.inr (some p)), .inr (.inr (some g))] (zz_S T J R G) = some (some (.inl (mv_c (zz_wa A (J g)))), (zz_S T J R G)) := by
  have h7 := hA.2.2.2.2.2.2.1
  have e7 := hR.2.1.2.2.2.2
  refine zz_c (zz_call (by omega) t_59 rfl (fun n => e_59 _ _ _) ?_)
  refine zz_loop (run := fun w s n => mv_run (mv_cax (d - 1)) mm_59 n 4 [(0, .inr (.inr (some p))), (1, .inr (.inr (some g))), (2, .inl (mv_c s)), (3, .inl (mv_c w))] [] (zz_S T J R G)) (A 7) (fun w s => 0 ≤ w ∧ s = zz_sum (fun e => zz_wo A (J g) e) w) ?_ ?_ (A 7).toNat 0 0 (by omega) ⟨by omega, rfl⟩
  · rintro w s ⟨hw, rfl⟩ hlt kk
    refine zz_Es (fun n => e_59_4 _ _ _ _ _) ?_
    simp (maxSteps := 5000000) (disch := first | assumption | omega) only [e7, c_58 (Y := Y) (A := A), zg_L_0, zp_L_0, zg_L_1, zp_L_1, zg_L_2, zp_L_2, zg_L_3, zp_L_3, zg_L_4, zp_L_4, zg_L_5, zp_L_5, zg_L_6, zp_L_6, zg_L_7, zp_L_7, zi_L, zr_L_8, za_L_1, zs_L_1, zr_L_9, za_L_2, zs_L_2, zr_L_10, za_L_3, zs_L_3, zr_L_11, za_L_4, zs_L_4, zr_L_12, za_L_5, zs_L_5, zr_L_13, za_L_6, zs_L_6, zr_L_14, za_L_7, zs_L_7, zr_L_15, za_L_8, zs_L_8, zr_L_16, za_L_9, zs_L_9, zr_L_17, za_L_10, zs_L_10, zr_L_18, za_L_11, zs_L_11, zr_L_19, za_L_12, zs_L_12, zz_0, zz_31, zz_add, zz_sub, zz_mul, zz_neg, zz_lt, zz_le, zz_eq, zz_div, zz_md, zz_dv, zz_abs, zz_max, zz_min, zz_nI, zz_be0, zz_be1, zz_zb, zz_z, zz_l0, zz_l, zz_lcmp, zo_rf, zo_nl, zo_nn, zo_rI, zo_rL, zo_rR, zo_rV, Int.add_zero, Int.zero_add, Int.mul_zero, Int.zero_mul, Int.one_mul, Int.mul_one, if_true, if_false, not_true_eq_false, not_false_eq_true]
    refine zz_Ei (fun h => absurd h (by omega)) (fun _ => ?_)
    exact kk _ ⟨by omega, (zz_sum1 (f := fun e => zz_wo A (J g) e) hw).symm⟩
  · rintro s ⟨hw, rfl⟩
    refine zz_Es (fun n => e_59_4 _ _ _ _ _) ?_
    simp (maxSteps := 5000000) (disch := first | assumption | omega) only [e7, zg_L_0, zp_L_0, zg_L_1, zp_L_1, zg_L_2, zp_L_2, zg_L_3, zp_L_3, zg_L_4, zp_L_4, zg_L_5, zp_L_5, zg_L_6, zp_L_6, zg_L_7, zp_L_7, zi_L, zr_L_8, za_L_1, zs_L_1, zr_L_9, za_L_2, zs_L_2, zr_L_10, za_L_3, zs_L_3, zr_L_11, za_L_4, zs_L_4, zr_L_12, za_L_5, zs_L_5, zr_L_13, za_L_6, zs_L_6, zr_L_14, za_L_7, zs_L_7, zr_L_15, za_L_8, zs_L_8, zr_L_16, za_L_9, zs_L_9, zr_L_17, za_L_10, zs_L_10, zr_L_18, za_L_11, zs_L_11, zr_L_19, za_L_12, zs_L_12, zz_0, zz_31, zz_add, zz_sub, zz_mul, zz_neg, zz_lt, zz_le, zz_eq, zz_div, zz_md, zz_dv, zz_abs, zz_max, zz_min, zz_nI, zz_be0, zz_be1, zz_zb, zz_z, zz_l0, zz_l, zz_lcmp, zo_rf, zo_nl, zo_nn, zo_rI, zo_rL, zo_rR, zo_rV, Int.add_zero, Int.zero_add, Int.mul_zero, Int.zero_mul, Int.one_mul, Int.mul_one, if_true, if_false, not_true_eq_false, not_false_eq_true]
    refine zz_Ei (fun _ => ?_) (fun h => absurd (Int.le_refl _) h)
    exact zz_Er rfl
theorem c_40 (hd : 2 ≤ d) (hL : ZL T R) (hp : Lnd p) (hA : zz_ok Y A) (hR : zc_rep T R J p A) : mv_cax d 40 [.inr (.inr (some p))] (zz_S T J R G) = some (some (.inl (mv_c (zz_sum (fun c => ((A (8 + c) - zz_tw A c).natAbs : Int)) (A 0 * A 1)))), (zz_S T J R G)) := by
  have hn := hA.n
  have h7 := hA.2.2.2.2.2.2.1
  have e2 := hR.1.1.2.2
  have e7 := hR.2.1.2.2.2.2
  refine zz_c (zz_call (by omega) t_40 rfl (fun n => e_40 _ _) ?_)
  refine zz_loop (run := fun c s n => mv_run (mv_cax (d - 1)) mm_40 n 4 [(0, .inr (.inr (some p))), (1, .inl (mv_c s)), (2, .inl (mv_c c))] [] (zz_S T J R G)) (A 0 * A 1) (fun c s => 0 ≤ c ∧ s = zz_sum (fun c => ((A (8 + c) - zz_tw A c).natAbs : Int)) c) ?_ ?_ (A 0 * A 1).toNat 0 0 (by omega) ⟨by omega, rfl⟩
  · rintro c s ⟨hc, rfl⟩ hlt kk
    have hA8 := hA.2.2.2.2.2.2.2.1 c hc hlt
    obtain ⟨q1, q2, q3⟩ := hR.2.2.1 c hc hlt
    have ht : 0 ≤ zz_tw A c ∧ zz_tw A c ≤ 9 := by
      unfold zz_tw
      split <;> omega
    have s1 := zz_sum1 (f := fun c => ((A (8 + c) - zz_tw A c).natAbs : Int)) hc
    refine zz_Es (fun n => e_40_4 _ _ _ _) ?_
    simp (maxSteps := 5000000) (disch := first | assumption | omega) only [e2, q1, c_38 (Y := Y) (A := A), zg_L_0, zp_L_0, zg_L_1, zp_L_1, zg_L_2, zp_L_2, zg_L_3, zp_L_3, zg_L_4, zp_L_4, zg_L_5, zp_L_5, zg_L_6, zp_L_6, zg_L_7, zp_L_7, zi_L, zr_L_8, za_L_1, zs_L_1, zr_L_9, za_L_2, zs_L_2, zr_L_10, za_L_3, zs_L_3, zr_L_11, za_L_4, zs_L_4, zr_L_12, za_L_5, zs_L_5, zr_L_13, za_L_6, zs_L_6, zr_L_14, za_L_7, zs_L_7, zr_L_15, za_L_8, zs_L_8, zr_L_16, za_L_9, zs_L_9, zr_L_17, za_L_10, zs_L_10, zr_L_18, za_L_11, zs_L_11, zr_L_19, za_L_12, zs_L_12, zz_0, zz_31, zz_add, zz_sub, zz_mul, zz_neg, zz_lt, zz_le, zz_eq, zz_div, zz_md, zz_dv, zz_abs, zz_max, zz_min, zz_nI, zz_be0, zz_be1, zz_zb, zz_z, zz_l0, zz_l, zz_lcmp, zo_rf, zo_nl, zo_nn, zo_rI, zo_rL, zo_rR, zo_rV, Int.add_zero, Int.zero_add, Int.mul_zero, Int.zero_mul, Int.one_mul, Int.mul_one, if_true, if_false, not_true_eq_false, not_false_eq_true]
    refine zz_Ei (fun h => absurd h (by omega)) (fun _ => ?_)
    exact kk _ ⟨by omega, s1.symm⟩
  · rintro s ⟨hw, rfl⟩
    refine zz_Es (fun n => e_40_4 _ _ _ _) ?_
    simp (maxSteps := 5000000) (disch := first | assumption | omega) only [e2, zg_L_0, zp_L_0, zg_L_1, zp_L_1, zg_L_2, zp_L_2, zg_L_3, zp_L_3, zg_L_4, zp_L_4, zg_L_5, zp_L_5, zg_L_6, zp_L_6, zg_L_7, zp_L_7, zi_L, zr_L_8, za_L_1, zs_L_1, zr_L_9, za_L_2, zs_L_2, zr_L_10, za_L_3, zs_L_3, zr_L_11, za_L_4, zs_L_4, zr_L_12, za_L_5, zs_L_5, zr_L_13, za_L_6, zs_L_6, zr_L_14, za_L_7, zs_L_7, zr_L_15, za_L_8, zs_L_8, zr_L_16, za_L_9, zs_L_9, zr_L_17, za_L_10, zs_L_10, zr_L_18, za_L_11, zs_L_11, zr_L_19, za_L_12, zs_L_12, zz_0, zz_31, zz_add, zz_sub, zz_mul, zz_neg, zz_lt, zz_le, zz_eq, zz_div, zz_md, zz_dv, zz_abs, zz_max, zz_min, zz_nI, zz_be0, zz_be1, zz_zb, zz_z, zz_l0, zz_l, zz_lcmp, zo_rf, zo_nl, zo_nn, zo_rI, zo_rL, zo_rR, zo_rV, Int.add_zero, Int.zero_add, Int.mul_zero, Int.zero_mul, Int.one_mul, Int.mul_one, if_true, if_false, not_true_eq_false, not_false_eq_true]
    refine zz_Ei (fun _ => ?_) (fun h => absurd (Int.le_refl _) h)
    exact zz_Er rfl
theorem c_41 {g : Nat} (hd : 1 ≤ d) (hL : ZL T R) (hp : Lnd p) (hA : zz_ok Y A) (hR : zc_rep T R J p A) (hg : T[g]? = some (.inr (0, 16))) (hgr : ∀ c, 0 ≤ c → c < A 0 * A 1 → 0 ≤ J g c ∧ J g c ≤ 9) : mv_cax d 41 [.inr (.inr (some p)), .inr (.inr (some g))] (zz_S T J R G) = some (some (.inl (mv_c (zz_sum (fun c => ((A (8 + c) - J g c).natAbs : Int)) (A 0 * A 1)))), (zz_S T J R G)) := by
  have hn := hA.n
  have h7 := hA.2.2.2.2.2.2.1
  have e2 := hR.1.1.2.2
  have e7 := hR.2.1.2.2.2.2
  refine zz_c (zz_call (by omega) t_41 rfl (fun n => e_41 _ _ _) ?_)
  refine zz_loop (run := fun c s n => mv_run (mv_cax (d - 1)) mm_41 n 4 [(0, .inr (.inr (some p))), (1, .inr (.inr (some g))), (2, .inl (mv_c s)), (3, .inl (mv_c c))] [] (zz_S T J R G)) (A 0 * A 1) (fun c s => 0 ≤ c ∧ s = zz_sum (fun c => ((A (8 + c) - J g c).natAbs : Int)) c) ?_ ?_ (A 0 * A 1).toNat 0 0 (by omega) ⟨by omega, rfl⟩
  · rintro c s ⟨hc, rfl⟩ hlt kk
    have hA8 := hA.2.2.2.2.2.2.2.1 c hc hlt
    obtain ⟨q1, q2, q3⟩ := hR.2.2.1 c hc hlt
    have hr := hgr c hc hlt
    have ga : ∀ i (k : Int32 → mv_O), 0 ≤ i → i < 16 → mo_aI (zz_S T J R G) g (mv_c i) k = k (mv_c (J g i)) := fun i k i0 i1 => zz_aI hg i0 i1 (by decide)
    have s1 := zz_sum1 (f := fun c => ((A (8 + c) - J g c).natAbs : Int)) hc
    refine zz_Es (fun n => e_41_4 _ _ _ _ _) ?_
    simp (maxSteps := 5000000) (disch := first | assumption | omega) only [e2, q1, ga, zg_L_0, zp_L_0, zg_L_1, zp_L_1, zg_L_2, zp_L_2, zg_L_3, zp_L_3, zg_L_4, zp_L_4, zg_L_5, zp_L_5, zg_L_6, zp_L_6, zg_L_7, zp_L_7, zi_L, zr_L_8, za_L_1, zs_L_1, zr_L_9, za_L_2, zs_L_2, zr_L_10, za_L_3, zs_L_3, zr_L_11, za_L_4, zs_L_4, zr_L_12, za_L_5, zs_L_5, zr_L_13, za_L_6, zs_L_6, zr_L_14, za_L_7, zs_L_7, zr_L_15, za_L_8, zs_L_8, zr_L_16, za_L_9, zs_L_9, zr_L_17, za_L_10, zs_L_10, zr_L_18, za_L_11, zs_L_11, zr_L_19, za_L_12, zs_L_12, zz_0, zz_31, zz_add, zz_sub, zz_mul, zz_neg, zz_lt, zz_le, zz_eq, zz_div, zz_md, zz_dv, zz_abs, zz_max, zz_min, zz_nI, zz_be0, zz_be1, zz_zb, zz_z, zz_l0, zz_l, zz_lcmp, zo_rf, zo_nl, zo_nn, zo_rI, zo_rL, zo_rR, zo_rV, Int.add_zero, Int.zero_add, Int.mul_zero, Int.zero_mul, Int.one_mul, Int.mul_one, if_true, if_false, not_true_eq_false, not_false_eq_true]
    refine zz_Ei (fun h => absurd h (by omega)) (fun _ => ?_)
    exact kk _ ⟨by omega, s1.symm⟩
  · rintro s ⟨hw, rfl⟩
    refine zz_Es (fun n => e_41_4 _ _ _ _ _) ?_
    simp (maxSteps := 5000000) (disch := first | assumption | omega) only [e2, zg_L_0, zp_L_0, zg_L_1, zp_L_1, zg_L_2, zp_L_2, zg_L_3, zp_L_3, zg_L_4, zp_L_4, zg_L_5, zp_L_5, zg_L_6, zp_L_6, zg_L_7, zp_L_7, zi_L, zr_L_8, za_L_1, zs_L_1, zr_L_9, za_L_2, zs_L_2, zr_L_10, za_L_3, zs_L_3, zr_L_11, za_L_4, zs_L_4, zr_L_12, za_L_5, zs_L_5, zr_L_13, za_L_6, zs_L_6, zr_L_14, za_L_7, zs_L_7, zr_L_15, za_L_8, zs_L_8, zr_L_16, za_L_9, zs_L_9, zr_L_17, za_L_10, zs_L_10, zr_L_18, za_L_11, zs_L_11, zr_L_19, za_L_12, zs_L_12, zz_0, zz_31, zz_add, zz_sub, zz_mul, zz_neg, zz_lt, zz_le, zz_eq, zz_div, zz_md, zz_dv, zz_abs, zz_max, zz_min, zz_nI, zz_be0, zz_be1, zz_zb, zz_z, zz_l0, zz_l, zz_lcmp, zo_rf, zo_nl, zo_nn, zo_rI, zo_rL, zo_rR, zo_rV, Int.add_zero, Int.zero_add, Int.mul_zero, Int.zero_mul, Int.one_mul, Int.mul_one, if_true, if_false, not_true_eq_false, not_false_eq_true]
    refine zz_Ei (fun _ => ?_) (fun h => absurd (Int.le_refl _) h)
    exact zz_Er rfl
theorem c_42 (hd : 1 ≤ d) (hL : ZL T R) (hp : Lnd p) (hA : zz_ok Y A) (hR : zc_rep T R J p A) : mv_cax d 42 [.inr (.inr (some p))] (zz_S T J R G) = some (some (.inl (mv_c (zz_sum (fun c => if A (24 + c) < 0 then 0 else 1) (A 0 * A 1)))), (zz_S T J R G)) := by
  have hn := hA.n
  have h7 := hA.2.2.2.2.2.2.1
  have e2 := hR.1.1.2.2
  have e7 := hR.2.1.2.2.2.2
  refine zz_c (zz_call (by omega) t_42 rfl (fun n => e_42 _ _) ?_)
  refine zz_loop (run := fun c s n => mv_run (mv_cax (d - 1)) mm_42 n 4 [(0, .inr (.inr (some p))), (1, .inl (mv_c s)), (2, .inl (mv_c c))] [] (zz_S T J R G)) (A 0 * A 1) (fun c s => 0 ≤ c ∧ s = zz_sum (fun c => if A (24 + c) < 0 then 0 else 1) c) ?_ ?_ (A 0 * A 1).toNat 0 0 (by omega) ⟨by omega, rfl⟩
  · rintro c s ⟨hc, rfl⟩ hlt kk
    have hA8 := hA.2.2.2.2.2.2.2.1 c hc hlt
    obtain ⟨q1, q2, q3⟩ := hR.2.2.1 c hc hlt
    have q4 : zc_sd (A (24 + c)) = if A (24 + c) < 0 then -1 else A (24 + c) := rfl
    have hq : -1 ≤ zc_sd (A (24 + c)) ∧ zc_sd (A (24 + c)) ≤ 9 := by
      rw [q4]
      split <;> omega
    have s1 := zz_sum1 (f := fun c => if A (24 + c) < 0 then 0 else 1) hc
    refine zz_Es (fun n => e_42_4 _ _ _ _) ?_
    simp (maxSteps := 5000000) (disch := first | assumption | omega) only [e2, q2, zg_L_0, zp_L_0, zg_L_1, zp_L_1, zg_L_2, zp_L_2, zg_L_3, zp_L_3, zg_L_4, zp_L_4, zg_L_5, zp_L_5, zg_L_6, zp_L_6, zg_L_7, zp_L_7, zi_L, zr_L_8, za_L_1, zs_L_1, zr_L_9, za_L_2, zs_L_2, zr_L_10, za_L_3, zs_L_3, zr_L_11, za_L_4, zs_L_4, zr_L_12, za_L_5, zs_L_5, zr_L_13, za_L_6, zs_L_6, zr_L_14, za_L_7, zs_L_7, zr_L_15, za_L_8, zs_L_8, zr_L_16, za_L_9, zs_L_9, zr_L_17, za_L_10, zs_L_10, zr_L_18, za_L_11, zs_L_11, zr_L_19, za_L_12, zs_L_12, zz_0, zz_31, zz_add, zz_sub, zz_mul, zz_neg, zz_lt, zz_le, zz_eq, zz_div, zz_md, zz_dv, zz_abs, zz_max, zz_min, zz_nI, zz_be0, zz_be1, zz_zb, zz_z, zz_l0, zz_l, zz_lcmp, zo_rf, zo_nl, zo_nn, zo_rI, zo_rL, zo_rR, zo_rV, Int.add_zero, Int.zero_add, Int.mul_zero, Int.zero_mul, Int.one_mul, Int.mul_one, if_true, if_false, not_true_eq_false, not_false_eq_true]
    refine zz_Ei (fun h => absurd h (by omega)) (fun _ => ?_)
    refine zz_Ei (fun h => ?_) (fun h => ?_)
    · refine kk _ ⟨by omega, ?_⟩
      rw [s1, if_pos, Int.add_zero]
      rw [q4] at h
      split at h <;> omega
    · refine kk _ ⟨by omega, ?_⟩
      rw [s1, if_neg]
      rw [q4] at h
      split at h <;> omega
  · rintro s ⟨hw, rfl⟩
    refine zz_Es (fun n => e_42_4 _ _ _ _) ?_
    simp (maxSteps := 5000000) (disch := first | assumption | omega) only [e2, zg_L_0, zp_L_0, zg_L_1, zp_L_1, zg_L_2, zp_L_2, zg_L_3, zp_L_3, zg_L_4, zp_L_4, zg_L_5, zp_L_5, zg_L_6, zp_L_6, zg_L_7, zp_L_7, zi_L, zr_L_8, za_L_1, zs_L_1, zr_L_9, za_L_2, zs_L_2, zr_L_10, za_L_3, zs_L_3, zr_L_11, za_L_4, zs_L_4, zr_L_12, za_L_5, zs_L_5, zr_L_13, za_L_6, zs_L_6, zr_L_14, za_L_7, zs_L_7, zr_L_15, za_L_8, zs_L_8, zr_L_16, za_L_9, zs_L_9, zr_L_17, za_L_10, zs_L_10, zr_L_18, za_L_11, zs_L_11, zr_L_19, za_L_12, zs_L_12, zz_0, zz_31, zz_add, zz_sub, zz_mul, zz_neg, zz_lt, zz_le, zz_eq, zz_div, zz_md, zz_dv, zz_abs, zz_max, zz_min, zz_nI, zz_be0, zz_be1, zz_zb, zz_z, zz_l0, zz_l, zz_lcmp, zo_rf, zo_nl, zo_nn, zo_rI, zo_rL, zo_rR, zo_rV, Int.add_zero, Int.zero_add, Int.mul_zero, Int.zero_mul, Int.one_mul, Int.mul_one, if_true, if_false, not_true_eq_false, not_false_eq_true]
    refine zz_Ei (fun _ => ?_) (fun h => absurd (Int.le_refl _) h)
    exact zz_Er rfl
theorem c_43 (hd : 1 ≤ d) (hL : ZL T R) (hp : Lnd p) (hA : zz_ok Y A) (hR : zc_rep T R J p A) : mv_cax d 43 [.inr (.inr (some p))] (zz_S T J R G) = some (some (.inl (mv_c (zz_sum (fun c => zz_bit (A 6) c) (A 0 * A 1)))), (zz_S T J R G)) := by
  have hn := hA.n
  have h7 := hA.2.2.2.2.2.2.1
  have e2 := hR.1.1.2.2
  have e7 := hR.2.1.2.2.2.2
  refine zz_c (zz_call (by omega) t_43 rfl (fun n => e_43 _ _) ?_)
  refine zz_loop (run := fun c s n => mv_run (mv_cax (d - 1)) mm_43 n 4 [(0, .inr (.inr (some p))), (1, .inl (mv_c s)), (2, .inl (mv_c c))] [] (zz_S T J R G)) (A 0 * A 1) (fun c s => 0 ≤ c ∧ s = zz_sum (fun c => zz_bit (A 6) c) c) ?_ ?_ (A 0 * A 1).toNat 0 0 (by omega) ⟨by omega, rfl⟩
  · rintro c s ⟨hc, rfl⟩ hlt kk
    have hA8 := hA.2.2.2.2.2.2.2.1 c hc hlt
    obtain ⟨q1, q2, q3⟩ := hR.2.2.1 c hc hlt
    have hb := zz_bit01 (A 6) c
    have s1 := zz_sum1 (f := fun c => zz_bit (A 6) c) hc
    refine zz_Es (fun n => e_43_4 _ _ _ _) ?_
    simp (maxSteps := 5000000) (disch := first | assumption | omega) only [e2, q3, zg_L_0, zp_L_0, zg_L_1, zp_L_1, zg_L_2, zp_L_2, zg_L_3, zp_L_3, zg_L_4, zp_L_4, zg_L_5, zp_L_5, zg_L_6, zp_L_6, zg_L_7, zp_L_7, zi_L, zr_L_8, za_L_1, zs_L_1, zr_L_9, za_L_2, zs_L_2, zr_L_10, za_L_3, zs_L_3, zr_L_11, za_L_4, zs_L_4, zr_L_12, za_L_5, zs_L_5, zr_L_13, za_L_6, zs_L_6, zr_L_14, za_L_7, zs_L_7, zr_L_15, za_L_8, zs_L_8, zr_L_16, za_L_9, zs_L_9, zr_L_17, za_L_10, zs_L_10, zr_L_18, za_L_11, zs_L_11, zr_L_19, za_L_12, zs_L_12, zz_0, zz_31, zz_add, zz_sub, zz_mul, zz_neg, zz_lt, zz_le, zz_eq, zz_div, zz_md, zz_dv, zz_abs, zz_max, zz_min, zz_nI, zz_be0, zz_be1, zz_zb, zz_z, zz_l0, zz_l, zz_lcmp, zo_rf, zo_nl, zo_nn, zo_rI, zo_rL, zo_rR, zo_rV, Int.add_zero, Int.zero_add, Int.mul_zero, Int.zero_mul, Int.one_mul, Int.mul_one, if_true, if_false, not_true_eq_false, not_false_eq_true]
    refine zz_Ei (fun h => absurd h (by omega)) (fun _ => ?_)
    refine zz_Ei (fun h => ?_) (fun h => ?_)
    · exact kk _ ⟨by omega, by rw [s1, h, Int.add_zero]⟩
    · exact kk _ ⟨by omega, by rw [s1, show zz_bit (A 6) c = 1 by omega]⟩
  · rintro s ⟨hw, rfl⟩
    refine zz_Es (fun n => e_43_4 _ _ _ _) ?_
    simp (maxSteps := 5000000) (disch := first | assumption | omega) only [e2, zg_L_0, zp_L_0, zg_L_1, zp_L_1, zg_L_2, zp_L_2, zg_L_3, zp_L_3, zg_L_4, zp_L_4, zg_L_5, zp_L_5, zg_L_6, zp_L_6, zg_L_7, zp_L_7, zi_L, zr_L_8, za_L_1, zs_L_1, zr_L_9, za_L_2, zs_L_2, zr_L_10, za_L_3, zs_L_3, zr_L_11, za_L_4, zs_L_4, zr_L_12, za_L_5, zs_L_5, zr_L_13, za_L_6, zs_L_6, zr_L_14, za_L_7, zs_L_7, zr_L_15, za_L_8, zs_L_8, zr_L_16, za_L_9, zs_L_9, zr_L_17, za_L_10, zs_L_10, zr_L_18, za_L_11, zs_L_11, zr_L_19, za_L_12, zs_L_12, zz_0, zz_31, zz_add, zz_sub, zz_mul, zz_neg, zz_lt, zz_le, zz_eq, zz_div, zz_md, zz_dv, zz_abs, zz_max, zz_min, zz_nI, zz_be0, zz_be1, zz_zb, zz_z, zz_l0, zz_l, zz_lcmp, zo_rf, zo_nl, zo_nn, zo_rI, zo_rL, zo_rR, zo_rV, Int.add_zero, Int.zero_add, Int.mul_zero, Int.zero_mul, Int.one_mul, Int.mul_one, if_true, if_false, not_true_eq_false, not_false_eq_true]
    refine zz_Ei (fun _ => ?_) (fun h => absurd (Int.le_refl _) h)
    exact zz_Er rfl
theorem c_44 (hd : 1 ≤ d) (hL : ZL T R) (hp : Lnd p) (hA : zz_ok Y A) (hR : zc_rep T R J p A) : mv_cax d 44 [.inr (.inr (some p))] (zz_S T J R G) = some (some (.inl (mv_c (zz_sum (fun c => A (8 + c)) (A 0 * A 1)))), (zz_S T J R G)) := by
  have hn := hA.n
  have h7 := hA.2.2.2.2.2.2.1
  have e2 := hR.1.1.2.2
  have e7 := hR.2.1.2.2.2.2
  refine zz_c (zz_call (by omega) t_44 rfl (fun n => e_44 _ _) ?_)
  refine zz_loop (run := fun c s n => mv_run (mv_cax (d - 1)) mm_44 n 4 [(0, .inr (.inr (some p))), (1, .inl (mv_c s)), (2, .inl (mv_c c))] [] (zz_S T J R G)) (A 0 * A 1) (fun c s => 0 ≤ c ∧ s = zz_sum (fun c => A (8 + c)) c) ?_ ?_ (A 0 * A 1).toNat 0 0 (by omega) ⟨by omega, rfl⟩
  · rintro c s ⟨hc, rfl⟩ hlt kk
    have hA8 := hA.2.2.2.2.2.2.2.1 c hc hlt
    obtain ⟨q1, q2, q3⟩ := hR.2.2.1 c hc hlt
    have s1 := zz_sum1 (f := fun c => A (8 + c)) hc
    refine zz_Es (fun n => e_44_4 _ _ _ _) ?_
    simp (maxSteps := 5000000) (disch := first | assumption | omega) only [e2, q1, zg_L_0, zp_L_0, zg_L_1, zp_L_1, zg_L_2, zp_L_2, zg_L_3, zp_L_3, zg_L_4, zp_L_4, zg_L_5, zp_L_5, zg_L_6, zp_L_6, zg_L_7, zp_L_7, zi_L, zr_L_8, za_L_1, zs_L_1, zr_L_9, za_L_2, zs_L_2, zr_L_10, za_L_3, zs_L_3, zr_L_11, za_L_4, zs_L_4, zr_L_12, za_L_5, zs_L_5, zr_L_13, za_L_6, zs_L_6, zr_L_14, za_L_7, zs_L_7, zr_L_15, za_L_8, zs_L_8, zr_L_16, za_L_9, zs_L_9, zr_L_17, za_L_10, zs_L_10, zr_L_18, za_L_11, zs_L_11, zr_L_19, za_L_12, zs_L_12, zz_0, zz_31, zz_add, zz_sub, zz_mul, zz_neg, zz_lt, zz_le, zz_eq, zz_div, zz_md, zz_dv, zz_abs, zz_max, zz_min, zz_nI, zz_be0, zz_be1, zz_zb, zz_z, zz_l0, zz_l, zz_lcmp, zo_rf, zo_nl, zo_nn, zo_rI, zo_rL, zo_rR, zo_rV, Int.add_zero, Int.zero_add, Int.mul_zero, Int.zero_mul, Int.one_mul, Int.mul_one, if_true, if_false, not_true_eq_false, not_false_eq_true]
    refine zz_Ei (fun h => absurd h (by omega)) (fun _ => ?_)
    exact kk _ ⟨by omega, s1.symm⟩
  · rintro s ⟨hw, rfl⟩
    refine zz_Es (fun n => e_44_4 _ _ _ _) ?_
    simp (maxSteps := 5000000) (disch := first | assumption | omega) only [e2, zg_L_0, zp_L_0, zg_L_1, zp_L_1, zg_L_2, zp_L_2, zg_L_3, zp_L_3, zg_L_4, zp_L_4, zg_L_5, zp_L_5, zg_L_6, zp_L_6, zg_L_7, zp_L_7, zi_L, zr_L_8, za_L_1, zs_L_1, zr_L_9, za_L_2, zs_L_2, zr_L_10, za_L_3, zs_L_3, zr_L_11, za_L_4, zs_L_4, zr_L_12, za_L_5, zs_L_5, zr_L_13, za_L_6, zs_L_6, zr_L_14, za_L_7, zs_L_7, zr_L_15, za_L_8, zs_L_8, zr_L_16, za_L_9, zs_L_9, zr_L_17, za_L_10, zs_L_10, zr_L_18, za_L_11, zs_L_11, zr_L_19, za_L_12, zs_L_12, zz_0, zz_31, zz_add, zz_sub, zz_mul, zz_neg, zz_lt, zz_le, zz_eq, zz_div, zz_md, zz_dv, zz_abs, zz_max, zz_min, zz_nI, zz_be0, zz_be1, zz_zb, zz_z, zz_l0, zz_l, zz_lcmp, zo_rf, zo_nl, zo_nn, zo_rI, zo_rL, zo_rR, zo_rV, Int.add_zero, Int.zero_add, Int.mul_zero, Int.zero_mul, Int.one_mul, Int.mul_one, if_true, if_false, not_true_eq_false, not_false_eq_true]
    refine zz_Ei (fun _ => ?_) (fun h => absurd (Int.le_refl _) h)
    exact zz_Er rfl
theorem c_45 (hd : 1 ≤ d) (hL : ZL T R) (hp : Lnd p) (hA : zz_ok Y A) (hR : zc_rep T R J p A) : mv_cax d 45 [.inr (.inr (some p))] (zz_S T J R G) = some (some (.inl (mv_c (zz_sum (fun e => A (42 + 15 * e)) (A 7)))), (zz_S T J R G)) := by
  have hn := hA.n
  have h7 := hA.2.2.2.2.2.2.1
  have e2 := hR.1.1.2.2
  have e7 := hR.2.1.2.2.2.2
  refine zz_c (zz_call (by omega) t_45 rfl (fun n => e_45 _ _) ?_)
  refine zz_loop (run := fun c s n => mv_run (mv_cax (d - 1)) mm_45 n 4 [(0, .inr (.inr (some p))), (1, .inl (mv_c s)), (2, .inl (mv_c c))] [] (zz_S T J R G)) (A 7) (fun c s => 0 ≤ c ∧ s = zz_sum (fun e => A (42 + 15 * e)) c) ?_ ?_ (A 7).toNat 0 0 (by omega) ⟨by omega, rfl⟩
  · rintro c s ⟨hc, rfl⟩ hlt kk
    have q1 := (hR.2.2.2 c hc hlt).2.1
    have s1 := zz_sum1 (f := fun e => A (42 + 15 * e)) hc
    refine zz_Es (fun n => e_45_4 _ _ _ _) ?_
    simp (maxSteps := 5000000) (disch := first | assumption | omega) only [e7, q1, zg_L_0, zp_L_0, zg_L_1, zp_L_1, zg_L_2, zp_L_2, zg_L_3, zp_L_3, zg_L_4, zp_L_4, zg_L_5, zp_L_5, zg_L_6, zp_L_6, zg_L_7, zp_L_7, zi_L, zr_L_8, za_L_1, zs_L_1, zr_L_9, za_L_2, zs_L_2, zr_L_10, za_L_3, zs_L_3, zr_L_11, za_L_4, zs_L_4, zr_L_12, za_L_5, zs_L_5, zr_L_13, za_L_6, zs_L_6, zr_L_14, za_L_7, zs_L_7, zr_L_15, za_L_8, zs_L_8, zr_L_16, za_L_9, zs_L_9, zr_L_17, za_L_10, zs_L_10, zr_L_18, za_L_11, zs_L_11, zr_L_19, za_L_12, zs_L_12, zz_0, zz_31, zz_add, zz_sub, zz_mul, zz_neg, zz_lt, zz_le, zz_eq, zz_div, zz_md, zz_dv, zz_abs, zz_max, zz_min, zz_nI, zz_be0, zz_be1, zz_zb, zz_z, zz_l0, zz_l, zz_lcmp, zo_rf, zo_nl, zo_nn, zo_rI, zo_rL, zo_rR, zo_rV, Int.add_zero, Int.zero_add, Int.mul_zero, Int.zero_mul, Int.one_mul, Int.mul_one, if_true, if_false, not_true_eq_false, not_false_eq_true]
    refine zz_Ei (fun h => absurd h (by omega)) (fun _ => ?_)
    exact kk _ ⟨by omega, s1.symm⟩
  · rintro s ⟨hw, rfl⟩
    refine zz_Es (fun n => e_45_4 _ _ _ _) ?_
    simp (maxSteps := 5000000) (disch := first | assumption | omega) only [e7, zg_L_0, zp_L_0, zg_L_1, zp_L_1, zg_L_2, zp_L_2, zg_L_3, zp_L_3, zg_L_4, zp_L_4, zg_L_5, zp_L_5, zg_L_6, zp_L_6, zg_L_7, zp_L_7, zi_L, zr_L_8, za_L_1, zs_L_1, zr_L_9, za_L_2, zs_L_2, zr_L_10, za_L_3, zs_L_3, zr_L_11, za_L_4, zs_L_4, zr_L_12, za_L_5, zs_L_5, zr_L_13, za_L_6, zs_L_6, zr_L_14, za_L_7, zs_L_7, zr_L_15, za_L_8, zs_L_8, zr_L_16, za_L_9, zs_L_9, zr_L_17, za_L_10, zs_L_10, zr_L_18, za_L_11, zs_L_11, zr_L_19, za_L_12, zs_L_12, zz_0, zz_31, zz_add, zz_sub, zz_mul, zz_neg, zz_lt, zz_le, zz_eq, zz_div, zz_md, zz_dv, zz_abs, zz_max, zz_min, zz_nI, zz_be0, zz_be1, zz_zb, zz_z, zz_l0, zz_l, zz_lcmp, zo_rf, zo_nl, zo_nn, zo_rI, zo_rL, zo_rR, zo_rV, Int.add_zero, Int.zero_add, Int.mul_zero, Int.zero_mul, Int.one_mul, Int.mul_one, if_true, if_false, not_true_eq_false, not_false_eq_true]
    refine zz_Ei (fun _ => ?_) (fun h => absurd (Int.le_refl _) h)
    exact zz_Er rfl
theorem zz_of_tw : zz_sum (fun c => ((A (8 + c) - zz_tw A c).natAbs : Int)) (A 0 * A 1) = zz_of A (fun c => A (24 + c)) ∨ A 0 * A 1 < 0 := by
  by_cases h : 0 ≤ A 0 * A 1
  · left
    refine zz_sum_c h (fun c c0 c1 => ?_)
    unfold zz_tw
    by_cases q : A (24 + c) < 0
    · rw [if_pos q, if_pos q]
      omega
    · rw [if_neg q, if_neg q]
  · right
    omega
end ZLN3
