/-! PURE LAYER, 17: the reference: years in mind -/
section ZMND
variable {T : List mv_T} {J : Nat → Int → Int} {R : Nat → Nat → Option Nat} {G : Nat → Nat → Int64} {d : Nat} {Y : Int}
theorem zz_ok_Y {Y Y' : Int} {A : Int → Int} (h : zz_ok Y A) (h1 : Y ≤ Y') (h2 : Y' ≤ 1000000000) : zz_ok Y' A := by
  obtain ⟨q0, q1, q2, q3, q4⟩ := h
  exact ⟨q0, q1, q2, by omega, q4⟩
theorem zz_yn_y {A : Int → Int} (h7 : 0 < A 7) : 0 ≤ A 4 % A 7 ∧ A 4 % A 7 < A 7 := ⟨Int.emod_nonneg _ (by omega), Int.emod_lt_of_pos _ h7⟩
/-- back from mind -/
theorem r_194b {J1 : Nat → Int → Int} (hL : ZL T R) (hd : 1 ≤ d) (h1 : J1 153 = zz_c130 (J 132) (J 153)) (h2 : ∀ y, ¬ (0 ≤ y ∧ y < 130) → J1 132 y = J 132 y) : mv_cax d 194 [.inr (.inr (some 131))] (zz_S T J1 R G) = some (none, zz_S T (zz_w J1 132 (J 132)) R G) := by
  rw [r_194 hd hL, h1, zz_c130b h2]
theorem r_195 (hL : ZL T R) (hA : zz_ok Y (J 132)) (hBc : zz_bc (J 142)) (hd : 14 ≤ d) (hY : Y + 100 ≤ 1000000000) : ∃ v J', mv_cax d 195 [.inr (.inr (some 131))] (zz_S T J R G) = some (some (.inl (mv_c v)), zz_S T J' R G) ∧ zz_pw J J' ∧ J' 132 = J 132 ∧ (-4 ≤ v ∧ v ≤ 100) ∧ ((J 132 7 = 0 ∧ v = -3) ∨ (J 132 7 ≠ 0 ∧ v = zz_stl 60 (J 132) 0)) := by
  have hn := hA.n
  have h7 := hA.2.2.2.2.2.2.1
  by_cases hq : J 132 7 = 0
  · refine ⟨-3, J, ?_, zz_pw_g (w := 148) (by omega) zz_fg_r, rfl, by omega, Or.inl ⟨hq, rfl⟩⟩
    refine zz_c (zz_call (by omega) t_195 rfl (fun n => e_195 _ _) ?_)
    simp (maxSteps := 5000000) (disch := first | assumption | omega) only [hq, zr_131_0, zr_131_1, zr_131_2, zr_131_3, zr_131_4, zr_131_5, zr_131_6, zr_131_7, zr_131_8, zg_131_9, zp_131_9, zg_131_10, zp_131_10, zg_131_11, zp_131_11, zg_131_12, zp_131_12, zg_131_13, zp_131_13, zg_131_14, zp_131_14, zr_131_15, zg_131_16, zp_131_16, zg_131_17, zp_131_17, zr_131_18, zr_131_19, zr_131_20, zr_131_21, zr_131_22, zg_131_23, zp_131_23, zr_131_24, zg_131_25, zp_131_25, zg_131_26, zp_131_26, zr_131_27, zr_131_28, zg_131_29, zp_131_29, zg_131_30, zp_131_30, zr_131_31, zr_131_32, zr_131_33, zr_131_34, zr_131_35, zi_131, za_132, zs_132, zl_132, za_133, zs_133, zl_133, za_134, zs_134, zl_134, za_135, zs_135, zl_135, za_136, zs_136, zl_136, za_137, zs_137, zl_137, za_138, zs_138, zl_138, za_139, zs_139, zl_139, za_140, zs_140, zl_140, za_141, zs_141, zl_141, za_142, zs_142, zl_142, za_143, zs_143, zl_143, za_144, zs_144, zl_144, za_145, zs_145, zl_145, za_146, zs_146, zl_146, za_147, zs_147, zl_147, za_148, zs_148, zl_148, za_149, zs_149, zl_149, za_150, zs_150, zl_150, za_151, zs_151, zl_151, za_152, zs_152, zl_152, za_153, zs_153, zl_153, za_154, zs_154, zl_154, zz_0, zz_31, zz_add, zz_sub, zz_mul, zz_neg, zz_lt, zz_le, zz_eq, zz_div, zz_md, zz_dv, zz_abs, zz_max, zz_min, zz_nI, zz_be0, zz_be1, zz_zb, zz_z, zz_l0, zz_l, zz_lcmp, zo_rf, zo_nl, zo_nn, zo_rI, zo_rL, zo_rR, zo_rV, Int.add_zero, Int.zero_add, Int.mul_zero, Int.zero_mul, Int.one_mul, Int.mul_one, if_true, if_false, not_true_eq_false, not_false_eq_true]
    exact zz_Er rfl
  · suffices h : ∃ r, mv_cax d 195 [.inr (.inr (some 131))] (zz_S T J R G) = some r ∧ ∃ J', r = (some (.inl (mv_c (zz_stl 60 (J 132) 0))), zz_S T J' R G) ∧ zz_pw J J' ∧ J' 132 = J 132 ∧ (-4 ≤ zz_stl 60 (J 132) 0 ∧ zz_stl 60 (J 132) 0 ≤ 100) by
      obtain ⟨r, h1, J', rfl, h2, h3, h4⟩ := h
      exact ⟨_, J', h1, h2, h3, h4, Or.inr ⟨hq, rfl⟩⟩
    refine zz_call (by omega) t_195 rfl (fun n => e_195 _ _) ?_
    simp (maxSteps := 5000000) (disch := first | assumption | omega) only [r_193, zr_131_0, zr_131_1, zr_131_2, zr_131_3, zr_131_4, zr_131_5, zr_131_6, zr_131_7, zr_131_8, zg_131_9, zp_131_9, zg_131_10, zp_131_10, zg_131_11, zp_131_11, zg_131_12, zp_131_12, zg_131_13, zp_131_13, zg_131_14, zp_131_14, zr_131_15, zg_131_16, zp_131_16, zg_131_17, zp_131_17, zr_131_18, zr_131_19, zr_131_20, zr_131_21, zr_131_22, zg_131_23, zp_131_23, zr_131_24, zg_131_25, zp_131_25, zg_131_26, zp_131_26, zr_131_27, zr_131_28, zg_131_29, zp_131_29, zg_131_30, zp_131_30, zr_131_31, zr_131_32, zr_131_33, zr_131_34, zr_131_35, zi_131, za_132, zs_132, zl_132, za_133, zs_133, zl_133, za_134, zs_134, zl_134, za_135, zs_135, zl_135, za_136, zs_136, zl_136, za_137, zs_137, zl_137, za_138, zs_138, zl_138, za_139, zs_139, zl_139, za_140, zs_140, zl_140, za_141, zs_141, zl_141, za_142, zs_142, zl_142, za_143, zs_143, zl_143, za_144, zs_144, zl_144, za_145, zs_145, zl_145, za_146, zs_146, zl_146, za_147, zs_147, zl_147, za_148, zs_148, zl_148, za_149, zs_149, zl_149, za_150, zs_150, zl_150, za_151, zs_151, zl_151, za_152, zs_152, zl_152, za_153, zs_153, zl_153, za_154, zs_154, zl_154, zz_0, zz_31, zz_add, zz_sub, zz_mul, zz_neg, zz_lt, zz_le, zz_eq, zz_div, zz_md, zz_dv, zz_abs, zz_max, zz_min, zz_nI, zz_be0, zz_be1, zz_zb, zz_z, zz_l0, zz_l, zz_lcmp, zo_rf, zo_nl, zo_nn, zo_rI, zo_rL, zo_rR, zo_rV, Int.add_zero, Int.zero_add, Int.mul_zero, Int.zero_mul, Int.one_mul, Int.mul_one, if_true, if_false, not_true_eq_false, not_false_eq_true]
    refine zz_Ei (fun h => absurd h hq) (fun _ => ?_)
    generalize hV : zz_stl 60 (J 132) 0 = V
    have fin : ∀ J1 : Nat → Int → Int, zz_fg 151 (zz_w J 153 (zz_c130 (J 132) (J 153))) J1 → (∀ y, (y < 4 ∨ 4 < y ∧ y < 8 ∨ 40 ≤ y) → J1 132 y = J 132 y) → mv_cax (d - 1) 194 [.inr (.inr (some 131))] (zz_S T J1 R G) = some (none, zz_S T (zz_w J1 132 (J 132)) R G) ∧ zz_pw J (zz_w J1 132 (J 132)) := by
      intro J1 g1 g2
      refine ⟨r_194b hL (by omega) (by rw [g1.1 153 (by omega) (by omega) (by omega), zw_s]) (fun y hy => g2 y (by omega)), ?_⟩
      exact zz_pw_t (zz_pw_t (zz_pw_w (by omega)) (zz_pw_g (by omega) g1)) (zz_pw_w (by omega))
    have key : ∀ (k : Nat) (same : Int) (J1 : Nat → Int → Int), k ≤ 60 → 0 ≤ same → same ≤ 60 - k → zz_fg 151 (zz_w J 153 (zz_c130 (J 132) (J 153))) J1 → zz_ok (Y + (60 - k)) (J1 132) → (∀ y, (y < 4 ∨ 4 < y ∧ y < 8 ∨ 40 ≤ y) → J1 132 y = J 132 y) → zz_stl k (J1 132) same = V → zz_E (fun n => mv_run (mv_cax (d - 1)) mm_195 n 24 [(0, .inr (.inr (some 131))), (1, .inl (mv_c (-4))), (2, .inl (mv_c same)), (3, .inl (mv_c (61 - k)))] [] (zz_S T J1 R G)) (fun r => ∃ J', r = (some (.inl (mv_c V)), zz_S T J' R G) ∧ zz_pw J J' ∧ J' 132 = J 132 ∧ (-4 ≤ V ∧ V ≤ 100)) := by
      intro k
      induction k with
      | zero =>
        intro same J1 hk hs0 hs1 g1 g2 g3 g4
        have g4 : -4 = V := g4
        obtain ⟨f1, f2⟩ := fin J1 g1 g3
        refine zz_Es (fun n => e_195_24 _ _ _ _ _) ?_
        simp (maxSteps := 5000000) (disch := first | assumption | omega) only [f1, zr_131_0, zr_131_1, zr_131_2, zr_131_3, zr_131_4, zr_131_5, zr_131_6, zr_131_7, zr_131_8, zg_131_9, zp_131_9, zg_131_10, zp_131_10, zg_131_11, zp_131_11, zg_131_12, zp_131_12, zg_131_13, zp_131_13, zg_131_14, zp_131_14, zr_131_15, zg_131_16, zp_131_16, zg_131_17, zp_131_17, zr_131_18, zr_131_19, zr_131_20, zr_131_21, zr_131_22, zg_131_23, zp_131_23, zr_131_24, zg_131_25, zp_131_25, zg_131_26, zp_131_26, zr_131_27, zr_131_28, zg_131_29, zp_131_29, zg_131_30, zp_131_30, zr_131_31, zr_131_32, zr_131_33, zr_131_34, zr_131_35, zi_131, za_132, zs_132, zl_132, za_133, zs_133, zl_133, za_134, zs_134, zl_134, za_135, zs_135, zl_135, za_136, zs_136, zl_136, za_137, zs_137, zl_137, za_138, zs_138, zl_138, za_139, zs_139, zl_139, za_140, zs_140, zl_140, za_141, zs_141, zl_141, za_142, zs_142, zl_142, za_143, zs_143, zl_143, za_144, zs_144, zl_144, za_145, zs_145, zl_145, za_146, zs_146, zl_146, za_147, zs_147, zl_147, za_148, zs_148, zl_148, za_149, zs_149, zl_149, za_150, zs_150, zl_150, za_151, zs_151, zl_151, za_152, zs_152, zl_152, za_153, zs_153, zl_153, za_154, zs_154, zl_154, zz_0, zz_31, zz_add, zz_sub, zz_mul, zz_neg, zz_lt, zz_le, zz_eq, zz_div, zz_md, zz_dv, zz_abs, zz_max, zz_min, zz_nI, zz_be0, zz_be1, zz_zb, zz_z, zz_l0, zz_l, zz_lcmp, zo_rf, zo_nl, zo_nn, zo_rI, zo_rL, zo_rR, zo_rV, Int.add_zero, Int.zero_add, Int.mul_zero, Int.zero_mul, Int.one_mul, Int.mul_one, if_true, if_false, not_true_eq_false, not_false_eq_true]
        refine zz_Ei (fun _ => ?_) (fun h => absurd (by omega) h)
        rw [g4]
        exact zz_Er ⟨_, rfl, f2, zw_s, by omega⟩
      | succ k ih =>
        intro same J1 hk hs0 hs1 g1 g2 g3 g4
        have e7 : J1 132 7 = J 132 7 := g3 7 (by omega)
        have hm := zz_yn_y (A := J1 132) (by omega)
        have hB1 : zz_bc (J1 142) := by rw [g1.1 142 (by omega) (by omega) (by omega), zw_n (by omega)]; exact hBc
        have g24 := g2.2.2.2.1
        obtain ⟨J2, s1, s2, s3, s4, s5⟩ := r_189 (T := T) (J := J1) (R := R) (G := G) (d := d - 1) (Y := Y + (60 - ((k + 1 : Nat) : Int))) (e := J1 132 4 % J1 132 7) hL g2 hB1 (by omega) hm.1 hm.2 (by omega)
        have e72 : J2 132 7 = J 132 7 := by rw [s5 7 (by omega), e7]
        have s3' : J2 132 = zz_yn (J1 132) := s3
        have g3' : ∀ y, (y < 4 ∨ 4 < y ∧ y < 8 ∨ 40 ≤ y) → J2 132 y = J 132 y := fun y hy => by rw [s5 y hy, g3 y hy]
        have g2' : zz_ok (Y + (60 - (k : Int))) (J2 132) := by
          rw [show Y + (60 - (k : Int)) = Y + (60 - ((k + 1 : Nat) : Int)) + 1 by omega]
          exact s4
        have hfg := zz_fg_t g1 s2
        have yn7 : zz_yn (J1 132) 7 = J 132 7 := by rw [← s3', e72]
        -- behind a year with the count same'
        have nx : ∀ s', s' = @ite Int (zz_ch (J1 132) (zz_yn (J1 132))) (Classical.propDecidable _) 0 (same + 1) → 0 ≤ s' → s' ≤ 60 - k → (s' = J 132 7 → zz_E (fun n => mv_run (mv_cax (d - 1)) mm_195 n 24 [(0, .inr (.inr (some 131))), (1, .inl (mv_c (61 - ((k + 1 : Nat) : Int) - s'))), (2, .inl (mv_c s')), (3, .inl (mv_c (61 - ((k + 1 : Nat) : Int) + 1)))] [] (zz_S T J2 R G)) (fun r => ∃ J', r = (some (.inl (mv_c V)), zz_S T J' R G) ∧ zz_pw J J' ∧ J' 132 = J 132 ∧ (-4 ≤ V ∧ V ≤ 100))) ∧ (s' ≠ J 132 7 → zz_E (fun n => mv_run (mv_cax (d - 1)) mm_195 n 24 [(0, .inr (.inr (some 131))), (1, .inl (mv_c (-4))), (2, .inl (mv_c s')), (3, .inl (mv_c (61 - ((k + 1 : Nat) : Int) + 1)))] [] (zz_S T J2 R G)) (fun r => ∃ J', r = (some (.inl (mv_c V)), zz_S T J' R G) ∧ zz_pw J J' ∧ J' 132 = J 132 ∧ (-4 ≤ V ∧ V ≤ 100))) := by
          intro s' hs' z0 z1
          unfold zz_stl at g4
          rw [← hs', e7] at g4
          refine ⟨fun hs7 => ?_, fun hs7 => ?_⟩
          · rw [if_pos hs7] at g4
            obtain ⟨f1, f2⟩ := fin J2 hfg g3'
            refine zz_Es (fun n => e_195_24 _ _ _ _ _) ?_
            simp (maxSteps := 5000000) (disch := first | assumption | omega) only [f1, zr_131_0, zr_131_1, zr_131_2, zr_131_3, zr_131_4, zr_131_5, zr_131_6, zr_131_7, zr_131_8, zg_131_9, zp_131_9, zg_131_10, zp_131_10, zg_131_11, zp_131_11, zg_131_12, zp_131_12, zg_131_13, zp_131_13, zg_131_14, zp_131_14, zr_131_15, zg_131_16, zp_131_16, zg_131_17, zp_131_17, zr_131_18, zr_131_19, zr_131_20, zr_131_21, zr_131_22, zg_131_23, zp_131_23, zr_131_24, zg_131_25, zp_131_25, zg_131_26, zp_131_26, zr_131_27, zr_131_28, zg_131_29, zp_131_29, zg_131_30, zp_131_30, zr_131_31, zr_131_32, zr_131_33, zr_131_34, zr_131_35, zi_131, za_132, zs_132, zl_132, za_133, zs_133, zl_133, za_134, zs_134, zl_134, za_135, zs_135, zl_135, za_136, zs_136, zl_136, za_137, zs_137, zl_137, za_138, zs_138, zl_138, za_139, zs_139, zl_139, za_140, zs_140, zl_140, za_141, zs_141, zl_141, za_142, zs_142, zl_142, za_143, zs_143, zl_143, za_144, zs_144, zl_144, za_145, zs_145, zl_145, za_146, zs_146, zl_146, za_147, zs_147, zl_147, za_148, zs_148, zl_148, za_149, zs_149, zl_149, za_150, zs_150, zl_150, za_151, zs_151, zl_151, za_152, zs_152, zl_152, za_153, zs_153, zl_153, za_154, zs_154, zl_154, zz_0, zz_31, zz_add, zz_sub, zz_mul, zz_neg, zz_lt, zz_le, zz_eq, zz_div, zz_md, zz_dv, zz_abs, zz_max, zz_min, zz_nI, zz_be0, zz_be1, zz_zb, zz_z, zz_l0, zz_l, zz_lcmp, zo_rf, zo_nl, zo_nn, zo_rI, zo_rL, zo_rR, zo_rV, Int.add_zero, Int.zero_add, Int.mul_zero, Int.zero_mul, Int.one_mul, Int.mul_one, if_true, if_false, not_true_eq_false, not_false_eq_true]
            have e61 : 61 - ((k + 1 : Nat) : Int) - s' = V := by omega
            refine zz_Ei (fun _ => ?_) (fun _ => ?_)
            · rw [e61]
              exact zz_Er ⟨_, rfl, f2, zw_s, by omega⟩
            · refine zz_Ei (fun _ => ?_) (fun h => absurd (by omega) h)
              rw [e61]
              exact zz_Er ⟨_, rfl, f2, zw_s, by omega⟩
          · rw [if_neg hs7, ← s3'] at g4
            have := ih s' J2 (by omega) z0 z1 hfg g2' g3' g4
            rw [show 61 - ((k + 1 : Nat) : Int) + 1 = 61 - (k : Int) by omega]
            exact this
        rw [show zz_yf (J1 132) (J1 132 4 % J1 132 7) = zz_yn (J1 132) from rfl, e7] at s1
        refine zz_Es (fun n => e_195_24 _ _ _ _ _) ?_
        simp (maxSteps := 5000000) (disch := first | assumption | omega) only [s1, e7, e72, zr_131_0, zr_131_1, zr_131_2, zr_131_3, zr_131_4, zr_131_5, zr_131_6, zr_131_7, zr_131_8, zg_131_9, zp_131_9, zg_131_10, zp_131_10, zg_131_11, zp_131_11, zg_131_12, zp_131_12, zg_131_13, zp_131_13, zg_131_14, zp_131_14, zr_131_15, zg_131_16, zp_131_16, zg_131_17, zp_131_17, zr_131_18, zr_131_19, zr_131_20, zr_131_21, zr_131_22, zg_131_23, zp_131_23, zr_131_24, zg_131_25, zp_131_25, zg_131_26, zp_131_26, zr_131_27, zr_131_28, zg_131_29, zp_131_29, zg_131_30, zp_131_30, zr_131_31, zr_131_32, zr_131_33, zr_131_34, zr_131_35, zi_131, za_132, zs_132, zl_132, za_133, zs_133, zl_133, za_134, zs_134, zl_134, za_135, zs_135, zl_135, za_136, zs_136, zl_136, za_137, zs_137, zl_137, za_138, zs_138, zl_138, za_139, zs_139, zl_139, za_140, zs_140, zl_140, za_141, zs_141, zl_141, za_142, zs_142, zl_142, za_143, zs_143, zl_143, za_144, zs_144, zl_144, za_145, zs_145, zl_145, za_146, zs_146, zl_146, za_147, zs_147, zl_147, za_148, zs_148, zl_148, za_149, zs_149, zl_149, za_150, zs_150, zl_150, za_151, zs_151, zl_151, za_152, zs_152, zl_152, za_153, zs_153, zl_153, za_154, zs_154, zl_154, zz_0, zz_31, zz_add, zz_sub, zz_mul, zz_neg, zz_lt, zz_le, zz_eq, zz_div, zz_md, zz_dv, zz_abs, zz_max, zz_min, zz_nI, zz_be0, zz_be1, zz_zb, zz_z, zz_l0, zz_l, zz_lcmp, zo_rf, zo_nl, zo_nn, zo_rI, zo_rL, zo_rR, zo_rV, Int.add_zero, Int.zero_add, Int.mul_zero, Int.zero_mul, Int.one_mul, Int.mul_one, if_true, if_false, not_true_eq_false, not_false_eq_true]
        refine zz_Ei (fun h => absurd h (by omega)) (fun _ => ?_)
        refine zz_Ei (fun h => absurd h (by omega)) (fun _ => ?_)
        refine zz_Ei (fun hc => ?_) (fun hc => ?_)
        · rw [zz_be0] at hc
          have e := nx (same + 1) (by rw [if_neg hc]) (by omega) (by omega)
          refine zz_Ei (fun h => e.1 h) (fun h => e.2 h)
        · rw [zz_be0] at hc
          have e := nx 0 (by rw [if_pos (Classical.not_not.mp hc)]) (by omega) (by omega)
          refine zz_Ei (fun h => ?_) (fun h => e.2 h)
          have e1 := e.1 h
          exact e1
    have k0 := key 60 0 (zz_w J 153 (zz_c130 (J 132) (J 153))) (by omega) (by omega) (by omega) zz_fg_r (by rw [zw_n (by omega)]; exact zz_ok_Y hA (by omega) (by omega)) (fun y _ => by rw [zw_n (by omega)]) (by rw [zw_n (by omega)]; exact hV)
    exact k0
theorem r_196 (hL : ZL T R) (hA : zz_ok Y (J 132)) (hBc : zz_bc (J 142)) (hd : 14 ≤ d) (hY : Y + 100 ≤ 1000000000) : ∃ v J', mv_cax d 196 [.inr (.inr (some 131))] (zz_S T J R G) = some (some (.inl (mv_c v)), zz_S T J' R G) ∧ zz_pw J J' ∧ J' 132 = J 132 ∧ (-4 ≤ v ∧ v ≤ 100) ∧ ((J 132 7 = 0 ∧ v = -3) ∨ (J 132 7 ≠ 0 ∧ v = zz_rgf (zz_H (zz_it 60 (J 132))) 30 (zz_it 60 (J 132)))) := by
  have hn := hA.n
  have h7 := hA.2.2.2.2.2.2.1
  by_cases hq : J 132 7 = 0
  · refine ⟨-3, J, ?_, zz_pw_g (w := 148) (by omega) zz_fg_r, rfl, by omega, Or.inl ⟨hq, rfl⟩⟩
    refine zz_c (zz_call (by omega) t_196 rfl (fun n => e_196 _ _) ?_)
    simp (maxSteps := 5000000) (disch := first | assumption | omega) only [hq, zr_131_0, zr_131_1, zr_131_2, zr_131_3, zr_131_4, zr_131_5, zr_131_6, zr_131_7, zr_131_8, zg_131_9, zp_131_9, zg_131_10, zp_131_10, zg_131_11, zp_131_11, zg_131_12, zp_131_12, zg_131_13, zp_131_13, zg_131_14, zp_131_14, zr_131_15, zg_131_16, zp_131_16, zg_131_17, zp_131_17, zr_131_18, zr_131_19, zr_131_20, zr_131_21, zr_131_22, zg_131_23, zp_131_23, zr_131_24, zg_131_25, zp_131_25, zg_131_26, zp_131_26, zr_131_27, zr_131_28, zg_131_29, zp_131_29, zg_131_30, zp_131_30, zr_131_31, zr_131_32, zr_131_33, zr_131_34, zr_131_35, zi_131, za_132, zs_132, zl_132, za_133, zs_133, zl_133, za_134, zs_134, zl_134, za_135, zs_135, zl_135, za_136, zs_136, zl_136, za_137, zs_137, zl_137, za_138, zs_138, zl_138, za_139, zs_139, zl_139, za_140, zs_140, zl_140, za_141, zs_141, zl_141, za_142, zs_142, zl_142, za_143, zs_143, zl_143, za_144, zs_144, zl_144, za_145, zs_145, zl_145, za_146, zs_146, zl_146, za_147, zs_147, zl_147, za_148, zs_148, zl_148, za_149, zs_149, zl_149, za_150, zs_150, zl_150, za_151, zs_151, zl_151, za_152, zs_152, zl_152, za_153, zs_153, zl_153, za_154, zs_154, zl_154, zz_0, zz_31, zz_add, zz_sub, zz_mul, zz_neg, zz_lt, zz_le, zz_eq, zz_div, zz_md, zz_dv, zz_abs, zz_max, zz_min, zz_nI, zz_be0, zz_be1, zz_zb, zz_z, zz_l0, zz_l, zz_lcmp, zo_rf, zo_nl, zo_nn, zo_rI, zo_rL, zo_rR, zo_rV, Int.add_zero, Int.zero_add, Int.mul_zero, Int.zero_mul, Int.one_mul, Int.mul_one, if_true, if_false, not_true_eq_false, not_false_eq_true]
    exact zz_Er rfl
  · suffices h : ∃ r, mv_cax d 196 [.inr (.inr (some 131))] (zz_S T J R G) = some r ∧ ∃ J', r = (some (.inl (mv_c (zz_rgf (zz_H (zz_it 60 (J 132))) 30 (zz_it 60 (J 132))))), zz_S T J' R G) ∧ zz_pw J J' ∧ J' 132 = J 132 ∧ (-4 ≤ zz_rgf (zz_H (zz_it 60 (J 132))) 30 (zz_it 60 (J 132)) ∧ zz_rgf (zz_H (zz_it 60 (J 132))) 30 (zz_it 60 (J 132)) ≤ 100) by
      obtain ⟨r, h1, J', rfl, h2, h3, h4⟩ := h
      exact ⟨_, J', h1, h2, h3, h4, Or.inr ⟨hq, rfl⟩⟩
    refine zz_call (by omega) t_196 rfl (fun n => e_196 _ _) ?_
    simp (maxSteps := 5000000) (disch := first | assumption | omega) only [r_193, zr_131_0, zr_131_1, zr_131_2, zr_131_3, zr_131_4, zr_131_5, zr_131_6, zr_131_7, zr_131_8, zg_131_9, zp_131_9, zg_131_10, zp_131_10, zg_131_11, zp_131_11, zg_131_12, zp_131_12, zg_131_13, zp_131_13, zg_131_14, zp_131_14, zr_131_15, zg_131_16, zp_131_16, zg_131_17, zp_131_17, zr_131_18, zr_131_19, zr_131_20, zr_131_21, zr_131_22, zg_131_23, zp_131_23, zr_131_24, zg_131_25, zp_131_25, zg_131_26, zp_131_26, zr_131_27, zr_131_28, zg_131_29, zp_131_29, zg_131_30, zp_131_30, zr_131_31, zr_131_32, zr_131_33, zr_131_34, zr_131_35, zi_131, za_132, zs_132, zl_132, za_133, zs_133, zl_133, za_134, zs_134, zl_134, za_135, zs_135, zl_135, za_136, zs_136, zl_136, za_137, zs_137, zl_137, za_138, zs_138, zl_138, za_139, zs_139, zl_139, za_140, zs_140, zl_140, za_141, zs_141, zl_141, za_142, zs_142, zl_142, za_143, zs_143, zl_143, za_144, zs_144, zl_144, za_145, zs_145, zl_145, za_146, zs_146, zl_146, za_147, zs_147, zl_147, za_148, zs_148, zl_148, za_149, zs_149, zl_149, za_150, zs_150, zl_150, za_151, zs_151, zl_151, za_152, zs_152, zl_152, za_153, zs_153, zl_153, za_154, zs_154, zl_154, zz_0, zz_31, zz_add, zz_sub, zz_mul, zz_neg, zz_lt, zz_le, zz_eq, zz_div, zz_md, zz_dv, zz_abs, zz_max, zz_min, zz_nI, zz_be0, zz_be1, zz_zb, zz_z, zz_l0, zz_l, zz_lcmp, zo_rf, zo_nl, zo_nn, zo_rI, zo_rL, zo_rR, zo_rV, Int.add_zero, Int.zero_add, Int.mul_zero, Int.zero_mul, Int.one_mul, Int.mul_one, if_true, if_false, not_true_eq_false, not_false_eq_true]
    refine zz_Ei (fun h => absurd h hq) (fun _ => ?_)
    generalize hW : zz_it 60 (J 132) = W
    generalize hV : zz_rgf (zz_H W) 30 W = V
    have fin : ∀ J1 : Nat → Int → Int, zz_pw J J1 → J1 153 = zz_c130 (J 132) (J 153) → (∀ y, (y < 4 ∨ 4 < y ∧ y < 8 ∨ 40 ≤ y) → J1 132 y = J 132 y) → mv_cax (d - 1) 194 [.inr (.inr (some 131))] (zz_S T J1 R G) = some (none, zz_S T (zz_w J1 132 (J 132)) R G) ∧ zz_pw J (zz_w J1 132 (J 132)) :=
      fun J1 g1 g0 g2 => ⟨r_194b hL (by omega) g0 (fun y hy => g2 y (by omega)), zz_pw_t g1 (zz_pw_w (by omega))⟩
    -- one year in mind
    have yr : ∀ (J1 : Nat → Int → Int) (Z : Int), Z + 1 ≤ 1000000000 → zz_pw J J1 → zz_ok Z (J1 132) → (∀ y, (y < 4 ∨ 4 < y ∧ y < 8 ∨ 40 ≤ y) → J1 132 y = J 132 y) → ∃ J2 x, mv_cax (d - 1) 189 [.inr (.inr (some 131)), .inl (mv_c (J1 132 4 % J 132 7))] (zz_S T J1 R G) = some (some (.inl (mv_c x)), zz_S T J2 R G) ∧ zz_pw J J2 ∧ (∀ x, 151 < x → J2 x = J1 x) ∧ J2 132 = zz_yn (J1 132) ∧ zz_ok (Z + 1) (J2 132) ∧ (∀ y, (y < 4 ∨ 4 < y ∧ y < 8 ∨ 40 ≤ y) → J2 132 y = J 132 y) := by
      intro J1 Z hZ g1 g2 g3
      have e7 : J1 132 7 = J 132 7 := g3 7 (by omega)
      have hm := zz_yn_y (A := J1 132) (by omega)
      obtain ⟨J2, s1, s2, s3, s4, s5⟩ := r_189 (T := T) (J := J1) (R := R) (G := G) (d := d - 1) (Y := Z) (e := J1 132 4 % J1 132 7) hL g2 (by rw [g1.1 142 (by omega) (by omega) (by omega)]; exact hBc) (by omega) hm.1 hm.2 hZ
      rw [e7] at s1
      exact ⟨J2, _, s1, zz_pw_t g1 (zz_pw_g (by omega) s2), fun x hx => s2.1 x (by omega) (by omega) (by omega), s3, s4, fun y hy => by rw [s5 y hy, g3 y hy]⟩
    have hit : ∀ k A, zz_it (k + 1) A = zz_it k (zz_yn A) := fun _ _ => rfl
    have k2 : ∀ (k : Nat) (J1 : Nat → Int → Int), k ≤ 30 → zz_pw J J1 → J1 153 = zz_c130 (J 132) (J 153) → (∀ c, 0 ≤ c → c < J 132 0 * J 132 1 → J1 152 c = zz_H W c ∧ 0 ≤ J1 152 c ∧ J1 152 c ≤ 9) → zz_ok (Y + 60 + (30 - k)) (J1 132) → (∀ y, (y < 4 ∨ 4 < y ∧ y < 8 ∨ 40 ≤ y) → J1 132 y = J 132 y) → zz_rgf (zz_H W) k (J1 132) = V → zz_E (fun n => mv_run (mv_cax (d - 1)) mm_196 n 59 [(0, .inr (.inr (some 131))), (1, .inl (mv_c (-4))), (2, .inl (mv_c (31 - k)))] [] (zz_S T J1 R G)) (fun r => ∃ J', r = (some (.inl (mv_c V)), zz_S T J' R G) ∧ zz_pw J J' ∧ J' 132 = J 132 ∧ (-4 ≤ V ∧ V ≤ 100)) := by
      intro k
      induction k with
      | zero =>
        intro J1 hk g0 g1 gw g2 g3 g4
        have g4 : -4 = V := g4
        obtain ⟨f1, f2⟩ := fin J1 g0 g1 g3
        refine zz_Es (fun n => e_196_59 _ _ _ _) ?_
        simp (maxSteps := 5000000) (disch := first | assumption | omega) only [f1, zr_131_0, zr_131_1, zr_131_2, zr_131_3, zr_131_4, zr_131_5, zr_131_6, zr_131_7, zr_131_8, zg_131_9, zp_131_9, zg_131_10, zp_131_10, zg_131_11, zp_131_11, zg_131_12, zp_131_12, zg_131_13, zp_131_13, zg_131_14, zp_131_14, zr_131_15, zg_131_16, zp_131_16, zg_131_17, zp_131_17, zr_131_18, zr_131_19, zr_131_20, zr_131_21, zr_131_22, zg_131_23, zp_131_23, zr_131_24, zg_131_25, zp_131_25, zg_131_26, zp_131_26, zr_131_27, zr_131_28, zg_131_29, zp_131_29, zg_131_30, zp_131_30, zr_131_31, zr_131_32, zr_131_33, zr_131_34, zr_131_35, zi_131, za_132, zs_132, zl_132, za_133, zs_133, zl_133, za_134, zs_134, zl_134, za_135, zs_135, zl_135, za_136, zs_136, zl_136, za_137, zs_137, zl_137, za_138, zs_138, zl_138, za_139, zs_139, zl_139, za_140, zs_140, zl_140, za_141, zs_141, zl_141, za_142, zs_142, zl_142, za_143, zs_143, zl_143, za_144, zs_144, zl_144, za_145, zs_145, zl_145, za_146, zs_146, zl_146, za_147, zs_147, zl_147, za_148, zs_148, zl_148, za_149, zs_149, zl_149, za_150, zs_150, zl_150, za_151, zs_151, zl_151, za_152, zs_152, zl_152, za_153, zs_153, zl_153, za_154, zs_154, zl_154, zz_0, zz_31, zz_add, zz_sub, zz_mul, zz_neg, zz_lt, zz_le, zz_eq, zz_div, zz_md, zz_dv, zz_abs, zz_max, zz_min, zz_nI, zz_be0, zz_be1, zz_zb, zz_z, zz_l0, zz_l, zz_lcmp, zo_rf, zo_nl, zo_nn, zo_rI, zo_rL, zo_rR, zo_rV, Int.add_zero, Int.zero_add, Int.mul_zero, Int.zero_mul, Int.one_mul, Int.mul_one, if_true, if_false, not_true_eq_false, not_false_eq_true]
        refine zz_Ei (fun _ => ?_) (fun h => absurd (by omega) h)
        rw [g4]
        exact zz_Er ⟨_, rfl, f2, zw_s, by omega⟩
      | succ k ih =>
        intro J1 hk g0 g1 gw g2 g3 g4
        have e7 : J1 132 7 = J 132 7 := g3 7 (by omega)
        have g24 := g2.2.2.2.1
        obtain ⟨J2, x, s1, s2, s3, s4, s5, s6⟩ := yr J1 _ (by omega) g0 g2 g3
        have e0 : J2 132 0 = J 132 0 := s6 0 (by omega)
        have e1 : J2 132 1 = J 132 1 := s6 1 (by omega)
        have gw2 : ∀ c, 0 ≤ c → c < J 132 0 * J 132 1 → J2 152 c = zz_H W c ∧ 0 ≤ J2 152 c ∧ J2 152 c ≤ 9 := by rw [s3 152 (by omega)]; exact gw
        have r190 := r_190 (T := T) (J := J2) (R := R) (G := G) (d := d - 1) (by omega) hL s5 (fun c c0 c1 => (gw2 c c0 (by rw [e0, e1] at c1; exact c1)).2)
        rw [zz_of_c (g' := zz_H W) (by rw [e0, e1]; omega) (fun c c0 c1 => (gw2 c c0 (by rw [e0, e1] at c1; exact c1)).1)] at r190
        have hob := zz_of_b (g := zz_H W) s5 (fun c c0 c1 => by have := gw2 c c0 (by rw [e0, e1] at c1; exact c1); omega)
        refine zz_Es (fun n => e_196_59 _ _ _ _) ?_
        simp (maxSteps := 5000000) (disch := first | assumption | omega) only [s1, e7, r190, zr_131_0, zr_131_1, zr_131_2, zr_131_3, zr_131_4, zr_131_5, zr_131_6, zr_131_7, zr_131_8, zg_131_9, zp_131_9, zg_131_10, zp_131_10, zg_131_11, zp_131_11, zg_131_12, zp_131_12, zg_131_13, zp_131_13, zg_131_14, zp_131_14, zr_131_15, zg_131_16, zp_131_16, zg_131_17, zp_131_17, zr_131_18, zr_131_19, zr_131_20, zr_131_21, zr_131_22, zg_131_23, zp_131_23, zr_131_24, zg_131_25, zp_131_25, zg_131_26, zp_131_26, zr_131_27, zr_131_28, zg_131_29, zp_131_29, zg_131_30, zp_131_30, zr_131_31, zr_131_32, zr_131_33, zr_131_34, zr_131_35, zi_131, za_132, zs_132, zl_132, za_133, zs_133, zl_133, za_134, zs_134, zl_134, za_135, zs_135, zl_135, za_136, zs_136, zl_136, za_137, zs_137, zl_137, za_138, zs_138, zl_138, za_139, zs_139, zl_139, za_140, zs_140, zl_140, za_141, zs_141, zl_141, za_142, zs_142, zl_142, za_143, zs_143, zl_143, za_144, zs_144, zl_144, za_145, zs_145, zl_145, za_146, zs_146, zl_146, za_147, zs_147, zl_147, za_148, zs_148, zl_148, za_149, zs_149, zl_149, za_150, zs_150, zl_150, za_151, zs_151, zl_151, za_152, zs_152, zl_152, za_153, zs_153, zl_153, za_154, zs_154, zl_154, zz_0, zz_31, zz_add, zz_sub, zz_mul, zz_neg, zz_lt, zz_le, zz_eq, zz_div, zz_md, zz_dv, zz_abs, zz_max, zz_min, zz_nI, zz_be0, zz_be1, zz_zb, zz_z, zz_l0, zz_l, zz_lcmp, zo_rf, zo_nl, zo_nn, zo_rI, zo_rL, zo_rR, zo_rV, Int.add_zero, Int.zero_add, Int.mul_zero, Int.zero_mul, Int.one_mul, Int.mul_one, if_true, if_false, not_true_eq_false, not_false_eq_true]
        refine zz_Ei (fun h => absurd h (by omega)) (fun _ => ?_)
        refine zz_Ei (fun h => absurd h (by omega)) (fun _ => ?_)
        unfold zz_rgf at g4
        rw [← s4] at g4
        refine zz_Ei (fun hz => ?_) (fun hz => ?_)
        · rw [if_pos hz] at g4
          obtain ⟨f1, f2⟩ := fin J2 s2 (by rw [s3 153 (by omega)]; exact g1) s6
          refine zz_Es (fun n => e_196_59 _ _ _ _) ?_
          simp (maxSteps := 5000000) (disch := first | assumption | omega) only [f1, zr_131_0, zr_131_1, zr_131_2, zr_131_3, zr_131_4, zr_131_5, zr_131_6, zr_131_7, zr_131_8, zg_131_9, zp_131_9, zg_131_10, zp_131_10, zg_131_11, zp_131_11, zg_131_12, zp_131_12, zg_131_13, zp_131_13, zg_131_14, zp_131_14, zr_131_15, zg_131_16, zp_131_16, zg_131_17, zp_131_17, zr_131_18, zr_131_19, zr_131_20, zr_131_21, zr_131_22, zg_131_23, zp_131_23, zr_131_24, zg_131_25, zp_131_25, zg_131_26, zp_131_26, zr_131_27, zr_131_28, zg_131_29, zp_131_29, zg_131_30, zp_131_30, zr_131_31, zr_131_32, zr_131_33, zr_131_34, zr_131_35, zi_131, za_132, zs_132, zl_132, za_133, zs_133, zl_133, za_134, zs_134, zl_134, za_135, zs_135, zl_135, za_136, zs_136, zl_136, za_137, zs_137, zl_137, za_138, zs_138, zl_138, za_139, zs_139, zl_139, za_140, zs_140, zl_140, za_141, zs_141, zl_141, za_142, zs_142, zl_142, za_143, zs_143, zl_143, za_144, zs_144, zl_144, za_145, zs_145, zl_145, za_146, zs_146, zl_146, za_147, zs_147, zl_147, za_148, zs_148, zl_148, za_149, zs_149, zl_149, za_150, zs_150, zl_150, za_151, zs_151, zl_151, za_152, zs_152, zl_152, za_153, zs_153, zl_153, za_154, zs_154, zl_154, zz_0, zz_31, zz_add, zz_sub, zz_mul, zz_neg, zz_lt, zz_le, zz_eq, zz_div, zz_md, zz_dv, zz_abs, zz_max, zz_min, zz_nI, zz_be0, zz_be1, zz_zb, zz_z, zz_l0, zz_l, zz_lcmp, zo_rf, zo_nl, zo_nn, zo_rI, zo_rL, zo_rR, zo_rV, Int.add_zero, Int.zero_add, Int.mul_zero, Int.zero_mul, Int.one_mul, Int.mul_one, if_true, if_false, not_true_eq_false, not_false_eq_true]
          have e31 : 31 - ((k + 1 : Nat) : Int) = V := by omega
          refine zz_Ei (fun _ => ?_) (fun _ => ?_)
          · rw [e31]
            exact zz_Er ⟨_, rfl, f2, zw_s, by omega⟩
          · refine zz_Ei (fun _ => ?_) (fun h => absurd (by omega) h)
            rw [e31]
            exact zz_Er ⟨_, rfl, f2, zw_s, by omega⟩
        · rw [if_neg hz] at g4
          rw [show 31 - ((k + 1 : Nat) : Int) + 1 = 31 - (k : Int) by omega]
          refine ih J2 (by omega) s2 (by rw [s3 153 (by omega)]; exact g1) gw2 ?_ s6 g4
          rw [show Y + 60 + (30 - (k : Int)) = Y + 60 + (30 - ((k + 1 : Nat) : Int)) + 1 by omega]
          exact s5
    have k1 : ∀ (k : Nat) (J1 : Nat → Int → Int), k ≤ 60 → zz_pw J J1 → J1 153 = zz_c130 (J 132) (J 153) → zz_ok (Y + (60 - k)) (J1 132) → (∀ y, (y < 4 ∨ 4 < y ∧ y < 8 ∨ 40 ≤ y) → J1 132 y = J 132 y) → zz_it k (J1 132) = W → zz_E (fun n => mv_run (mv_cax (d - 1)) mm_196 n 19 [(0, .inr (.inr (some 131))), (1, .inl (mv_c (60 - k)))] [] (zz_S T J1 R G)) (fun r => ∃ J', r = (some (.inl (mv_c V)), zz_S T J' R G) ∧ zz_pw J J' ∧ J' 132 = J 132 ∧ (-4 ≤ V ∧ V ≤ 100)) := by
      intro k
      induction k with
      | zero =>
        intro J1 hk g0 g1 g2 g3 g4
        have g4 : J1 132 = W := g4
        refine zz_Es (fun n => e_196_19 _ _ _) ?_
        simp (maxSteps := 5000000) (disch := first | assumption | omega) only [r_191, zr_131_0, zr_131_1, zr_131_2, zr_131_3, zr_131_4, zr_131_5, zr_131_6, zr_131_7, zr_131_8, zg_131_9, zp_131_9, zg_131_10, zp_131_10, zg_131_11, zp_131_11, zg_131_12, zp_131_12, zg_131_13, zp_131_13, zg_131_14, zp_131_14, zr_131_15, zg_131_16, zp_131_16, zg_131_17, zp_131_17, zr_131_18, zr_131_19, zr_131_20, zr_131_21, zr_131_22, zg_131_23, zp_131_23, zr_131_24, zg_131_25, zp_131_25, zg_131_26, zp_131_26, zr_131_27, zr_131_28, zg_131_29, zp_131_29, zg_131_30, zp_131_30, zr_131_31, zr_131_32, zr_131_33, zr_131_34, zr_131_35, zi_131, za_132, zs_132, zl_132, za_133, zs_133, zl_133, za_134, zs_134, zl_134, za_135, zs_135, zl_135, za_136, zs_136, zl_136, za_137, zs_137, zl_137, za_138, zs_138, zl_138, za_139, zs_139, zl_139, za_140, zs_140, zl_140, za_141, zs_141, zl_141, za_142, zs_142, zl_142, za_143, zs_143, zl_143, za_144, zs_144, zl_144, za_145, zs_145, zl_145, za_146, zs_146, zl_146, za_147, zs_147, zl_147, za_148, zs_148, zl_148, za_149, zs_149, zl_149, za_150, zs_150, zl_150, za_151, zs_151, zl_151, za_152, zs_152, zl_152, za_153, zs_153, zl_153, za_154, zs_154, zl_154, zz_0, zz_31, zz_add, zz_sub, zz_mul, zz_neg, zz_lt, zz_le, zz_eq, zz_div, zz_md, zz_dv, zz_abs, zz_max, zz_min, zz_nI, zz_be0, zz_be1, zz_zb, zz_z, zz_l0, zz_l, zz_lcmp, zo_rf, zo_nl, zo_nn, zo_rI, zo_rL, zo_rR, zo_rV, Int.add_zero, Int.zero_add, Int.mul_zero, Int.zero_mul, Int.one_mul, Int.mul_one, if_true, if_false, not_true_eq_false, not_false_eq_true]
        refine zz_Ei (fun _ => ?_) (fun h => absurd (by omega) h)
        have g2' : zz_ok (Y + 60 + (30 - (30 : Int))) (J1 132) := by
          rw [show Y + 60 + (30 - (30 : Int)) = Y + (60 - ((0 : Nat) : Int)) by omega]
          exact g2
        have e0 : J1 132 0 = J 132 0 := g3 0 (by omega)
        have e1 : J1 132 1 = J 132 1 := g3 1 (by omega)
        have := k2 30 (zz_w J1 152 (fun c => if 0 ≤ c ∧ c < 16 then J1 132 (8 + c) else J1 152 c)) (by omega) (zz_pw_t g0 (zz_pw_w (by omega))) (by rw [zw_n (by omega)]; exact g1) (fun c c0 c1 => by
          rw [zw_s, if_pos (by omega), ← g4]
          exact ⟨rfl, (g2.2.2.2.2.2.2.2.1 c c0 (by rw [e0, e1]; exact c1)).1⟩) (by rw [zw_n (by omega)]; exact g2') (fun y hy => by rw [zw_n (by omega)]; exact g3 y hy) (by rw [zw_n (by omega), g4]; exact hV)
        exact this
      | succ k ih =>
        intro J1 hk g0 g1 g2 g3 g4
        have e7 : J1 132 7 = J 132 7 := g3 7 (by omega)
        have g24 := g2.2.2.2.1
        obtain ⟨J2, x, s1, s2, s3, s4, s5, s6⟩ := yr J1 _ (by omega) g0 g2 g3
        refine zz_Es (fun n => e_196_19 _ _ _) ?_
        simp (maxSteps := 5000000) (disch := first | assumption | omega) only [s1, e7, zr_131_0, zr_131_1, zr_131_2, zr_131_3, zr_131_4, zr_131_5, zr_131_6, zr_131_7, zr_131_8, zg_131_9, zp_131_9, zg_131_10, zp_131_10, zg_131_11, zp_131_11, zg_131_12, zp_131_12, zg_131_13, zp_131_13, zg_131_14, zp_131_14, zr_131_15, zg_131_16, zp_131_16, zg_131_17, zp_131_17, zr_131_18, zr_131_19, zr_131_20, zr_131_21, zr_131_22, zg_131_23, zp_131_23, zr_131_24, zg_131_25, zp_131_25, zg_131_26, zp_131_26, zr_131_27, zr_131_28, zg_131_29, zp_131_29, zg_131_30, zp_131_30, zr_131_31, zr_131_32, zr_131_33, zr_131_34, zr_131_35, zi_131, za_132, zs_132, zl_132, za_133, zs_133, zl_133, za_134, zs_134, zl_134, za_135, zs_135, zl_135, za_136, zs_136, zl_136, za_137, zs_137, zl_137, za_138, zs_138, zl_138, za_139, zs_139, zl_139, za_140, zs_140, zl_140, za_141, zs_141, zl_141, za_142, zs_142, zl_142, za_143, zs_143, zl_143, za_144, zs_144, zl_144, za_145, zs_145, zl_145, za_146, zs_146, zl_146, za_147, zs_147, zl_147, za_148, zs_148, zl_148, za_149, zs_149, zl_149, za_150, zs_150, zl_150, za_151, zs_151, zl_151, za_152, zs_152, zl_152, za_153, zs_153, zl_153, za_154, zs_154, zl_154, zz_0, zz_31, zz_add, zz_sub, zz_mul, zz_neg, zz_lt, zz_le, zz_eq, zz_div, zz_md, zz_dv, zz_abs, zz_max, zz_min, zz_nI, zz_be0, zz_be1, zz_zb, zz_z, zz_l0, zz_l, zz_lcmp, zo_rf, zo_nl, zo_nn, zo_rI, zo_rL, zo_rR, zo_rV, Int.add_zero, Int.zero_add, Int.mul_zero, Int.zero_mul, Int.one_mul, Int.mul_one, if_true, if_false, not_true_eq_false, not_false_eq_true]
        refine zz_Ei (fun h => absurd h (by omega)) (fun _ => ?_)
        rw [show 60 - ((k + 1 : Nat) : Int) + 1 = 60 - (k : Int) by omega]
        refine ih J2 (by omega) s2 (by rw [s3 153 (by omega)]; exact g1) ?_ s6 (by rw [s4, ← hit]; exact g4)
        rw [show Y + (60 - (k : Int)) = Y + (60 - ((k + 1 : Nat) : Int)) + 1 by omega]
        exact s5
    exact k1 60 (zz_w J 153 (zz_c130 (J 132) (J 153))) (by omega) (zz_pw_w (by omega)) zw_s (by rw [zw_n (by omega)]; exact zz_ok_Y hA (by omega) (by omega)) (fun y _ => by rw [zw_n (by omega)]) (by rw [zw_n (by omega)]; exact hW)
end ZMND
