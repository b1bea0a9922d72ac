/-! PURE LAYER, 18: the reference: seeded years, who is chosen -/
theorem zz_l1 : Int64.ofNat 1 = mv_cl 1 := by decide
section ZSED
variable {T : List mv_T} {J : Nat → Int → Int} {R : Nat → Nat → Option Nat} {G : Nat → Nat → Int64} {d : Nat} {Y : Int}
def zz_sdv (A : Int → Int) (n z what v : Int) : Prop := (¬ ((1 ≤ n ∧ n ≤ 30) ∧ 0 ≤ what ∧ what ≤ 1) ∧ v = -1) ∨ (((1 ≤ n ∧ n ≤ 30) ∧ 0 ≤ what ∧ what ≤ 1) ∧ ((A 7 = 0 ∧ v = -3) ∨ (A 7 ≠ 0 ∧ v = if what = 0 then zz_of (zz_sd n.toNat A z 0).1 (zz_H A) else (zz_sd n.toNat A z 0).2)))
theorem r_197 {n z what : Int} (hL : ZL T R) (hA : zz_ok Y (J 132)) (hBc : zz_bc (J 142)) (hd : 14 ≤ d) (hY : Y + 100 ≤ 1000000000) (n1 : -2147483648 ≤ n) (n2 : n ≤ 2147483647) (w1 : -2147483648 ≤ what) (w2 : what ≤ 2147483647) : ∃ v J', mv_cax d 197 [.inr (.inr (some 131)), .inl (mv_c n), .inl (mv_c z), .inl (mv_c what)] (zz_S T J R G) = some (some (.inl (mv_c v)), zz_S T J' R G) ∧ zz_pw J J' ∧ J' 132 = J 132 ∧ (-4 ≤ v ∧ v ≤ 1000) ∧ zz_sdv (J 132) n z what v := by
  have hn := hA.n
  have h7 := hA.2.2.2.2.2.2.1
  by_cases hr : (1 ≤ n ∧ n ≤ 30) ∧ 0 ≤ what ∧ what ≤ 1
  · by_cases hq : J 132 7 = 0
    · refine ⟨-3, J, ?_, zz_pw_g (w := 148) (by omega) zz_fg_r, rfl, by omega, Or.inr ⟨hr, Or.inl ⟨hq, rfl⟩⟩⟩
      refine zz_c (zz_call (by omega) t_197 rfl (fun n => e_197 _ _ _ _ _) ?_)
      simp (maxSteps := 5000000) (disch := first | assumption | omega) only [hq, r_134, zz_l1, zr_131_0, zr_131_1, zr_131_2, zr_131_3, zr_131_4, zr_131_5, zr_131_6, zr_131_7, zr_131_8, zg_131_9, zp_131_9, zg_131_10, zp_131_10, zg_131_11, zp_131_11, zg_131_12, zp_131_12, zg_131_13, zp_131_13, zg_131_14, zp_131_14, zr_131_15, zg_131_16, zp_131_16, zg_131_17, zp_131_17, zr_131_18, zr_131_19, zr_131_20, zr_131_21, zr_131_22, zg_131_23, zp_131_23, zr_131_24, zg_131_25, zp_131_25, zg_131_26, zp_131_26, zr_131_27, zr_131_28, zg_131_29, zp_131_29, zg_131_30, zp_131_30, zr_131_31, zr_131_32, zr_131_33, zr_131_34, zr_131_35, zi_131, za_132, zs_132, zl_132, za_133, zs_133, zl_133, za_134, zs_134, zl_134, za_135, zs_135, zl_135, za_136, zs_136, zl_136, za_137, zs_137, zl_137, za_138, zs_138, zl_138, za_139, zs_139, zl_139, za_140, zs_140, zl_140, za_141, zs_141, zl_141, za_142, zs_142, zl_142, za_143, zs_143, zl_143, za_144, zs_144, zl_144, za_145, zs_145, zl_145, za_146, zs_146, zl_146, za_147, zs_147, zl_147, za_148, zs_148, zl_148, za_149, zs_149, zl_149, za_150, zs_150, zl_150, za_151, zs_151, zl_151, za_152, zs_152, zl_152, za_153, zs_153, zl_153, za_154, zs_154, zl_154, zz_0, zz_31, zz_add, zz_sub, zz_mul, zz_neg, zz_lt, zz_le, zz_eq, zz_div, zz_md, zz_dv, zz_abs, zz_max, zz_min, zz_nI, zz_be0, zz_be1, zz_zb, zz_z, zz_l0, zz_l, zz_lcmp, zo_rf, zo_nl, zo_nn, zo_rI, zo_rL, zo_rR, zo_rV, Int.add_zero, Int.zero_add, Int.mul_zero, Int.zero_mul, Int.one_mul, Int.mul_one, if_true, if_false, not_true_eq_false, not_false_eq_true]
      refine zz_Ei (fun h => absurd hr.1 h) (fun _ => ?_)
      refine zz_Ei (fun h => absurd hr.2 h) (fun _ => ?_)
      exact zz_Er rfl
    · suffices h : ∃ r, mv_cax d 197 [.inr (.inr (some 131)), .inl (mv_c n), .inl (mv_c z), .inl (mv_c what)] (zz_S T J R G) = some r ∧ ∃ J' v, r = (some (.inl (mv_c v)), zz_S T J' R G) ∧ zz_pw J J' ∧ J' 132 = J 132 ∧ (-4 ≤ v ∧ v ≤ 1000) ∧ v = if what = 0 then zz_of (zz_sd n.toNat (J 132) z 0).1 (zz_H (J 132)) else (zz_sd n.toNat (J 132) z 0).2 by
        obtain ⟨r, h1, J', v, rfl, h2, h3, h4, h5⟩ := h
        exact ⟨v, J', h1, h2, h3, h4, Or.inr ⟨hr, Or.inr ⟨hq, h5⟩⟩⟩
      refine zz_call (by omega) t_197 rfl (fun n => e_197 _ _ _ _ _) ?_
      simp (maxSteps := 5000000) (disch := first | assumption | omega) only [r_134, zz_l1, r_193, r_191, zr_131_0, zr_131_1, zr_131_2, zr_131_3, zr_131_4, zr_131_5, zr_131_6, zr_131_7, zr_131_8, zg_131_9, zp_131_9, zg_131_10, zp_131_10, zg_131_11, zp_131_11, zg_131_12, zp_131_12, zg_131_13, zp_131_13, zg_131_14, zp_131_14, zr_131_15, zg_131_16, zp_131_16, zg_131_17, zp_131_17, zr_131_18, zr_131_19, zr_131_20, zr_131_21, zr_131_22, zg_131_23, zp_131_23, zr_131_24, zg_131_25, zp_131_25, zg_131_26, zp_131_26, zr_131_27, zr_131_28, zg_131_29, zp_131_29, zg_131_30, zp_131_30, zr_131_31, zr_131_32, zr_131_33, zr_131_34, zr_131_35, zi_131, za_132, zs_132, zl_132, za_133, zs_133, zl_133, za_134, zs_134, zl_134, za_135, zs_135, zl_135, za_136, zs_136, zl_136, za_137, zs_137, zl_137, za_138, zs_138, zl_138, za_139, zs_139, zl_139, za_140, zs_140, zl_140, za_141, zs_141, zl_141, za_142, zs_142, zl_142, za_143, zs_143, zl_143, za_144, zs_144, zl_144, za_145, zs_145, zl_145, za_146, zs_146, zl_146, za_147, zs_147, zl_147, za_148, zs_148, zl_148, za_149, zs_149, zl_149, za_150, zs_150, zl_150, za_151, zs_151, zl_151, za_152, zs_152, zl_152, za_153, zs_153, zl_153, za_154, zs_154, zl_154, zz_0, zz_31, zz_add, zz_sub, zz_mul, zz_neg, zz_lt, zz_le, zz_eq, zz_div, zz_md, zz_dv, zz_abs, zz_max, zz_min, zz_nI, zz_be0, zz_be1, zz_zb, zz_z, zz_l0, zz_l, zz_lcmp, zo_rf, zo_nl, zo_nn, zo_rI, zo_rL, zo_rR, zo_rV, Int.add_zero, Int.zero_add, Int.mul_zero, Int.zero_mul, Int.one_mul, Int.mul_one, if_true, if_false, not_true_eq_false, not_false_eq_true]
      refine zz_Ei (fun h => absurd hr.1 h) (fun _ => ?_)
      refine zz_Ei (fun h => absurd hr.2 h) (fun _ => ?_)
      refine zz_Ei (fun h => absurd h hq) (fun _ => ?_)
      generalize hW : zz_sd n.toNat (J 132) z 0 = W
      have key : ∀ (k : Nat) (z ch : Int) (J1 : Nat → Int → Int), (k : Int) ≤ n → 0 ≤ ch → ch ≤ n - k → zz_pw J J1 → J1 153 = zz_c130 (J 132) (J 153) → (∀ c, 0 ≤ c → c < J 132 0 * J 132 1 → J1 152 c = zz_H (J 132) c ∧ 0 ≤ J1 152 c ∧ J1 152 c ≤ 9) → zz_ok (Y + (n - k)) (J1 132) → (∀ y, (y < 4 ∨ 4 < y ∧ y < 8 ∨ 40 ≤ y) → J1 132 y = J 132 y) → zz_sd k (J1 132) z ch = W → zz_E (fun m => mv_run (mv_cax (d - 1)) mm_197 m 54 [(0, .inr (.inr (some 131))), (1, .inl (mv_c n)), (3, .inl (mv_c what)), (4, .inl (mv_c z)), (5, .inl (mv_c ch)), (6, .inl (mv_c (n - k)))] [] (zz_S T J1 R G)) (fun r => ∃ J' v, r = (some (.inl (mv_c v)), zz_S T J' R G) ∧ zz_pw J J' ∧ J' 132 = J 132 ∧ (-4 ≤ v ∧ v ≤ 1000) ∧ v = if what = 0 then zz_of W.1 (zz_H (J 132)) else W.2) := by
        intro k
        induction k with
        | zero =>
          intro z ch J1 hk c0 c1 g0 g1 gw g2 g3 g4
          have g4 : (J1 132, ch) = W := g4
          subst g4
          have e0 : J1 132 0 = J 132 0 := g3 0 (by omega)
          have e1 : J1 132 1 = J 132 1 := g3 1 (by omega)
          have r190 := r_190 (T := T) (J := J1) (R := R) (G := G) (d := d - 1) (by omega) hL g2 (fun c c0 c1 => (gw c c0 (by rw [e0, e1] at c1; exact c1)).2)
          rw [zz_of_c (g' := zz_H (J 132)) (by rw [e0, e1]; omega) (fun c c0 c1 => (gw c c0 (by rw [e0, e1] at c1; exact c1)).1)] at r190
          have hob := zz_of_b (g := zz_H (J 132)) g2 (fun c c0 c1 => by have := gw c c0 (by rw [e0, e1] at c1; exact c1); omega)
          have f1 := r_194b (T := T) (J := J) (R := R) (G := G) (d := d - 1) (J1 := J1) hL (by omega) g1 (fun y hy => g3 y (by omega))
          refine zz_Es (fun n => e_197_54 _ _ _ _ _ _ _) ?_
          simp (maxSteps := 5000000) (disch := first | assumption | omega) only [f1, r190, zr_131_0, zr_131_1, zr_131_2, zr_131_3, zr_131_4, zr_131_5, zr_131_6, zr_131_7, zr_131_8, zg_131_9, zp_131_9, zg_131_10, zp_131_10, zg_131_11, zp_131_11, zg_131_12, zp_131_12, zg_131_13, zp_131_13, zg_131_14, zp_131_14, zr_131_15, zg_131_16, zp_131_16, zg_131_17, zp_131_17, zr_131_18, zr_131_19, zr_131_20, zr_131_21, zr_131_22, zg_131_23, zp_131_23, zr_131_24, zg_131_25, zp_131_25, zg_131_26, zp_131_26, zr_131_27, zr_131_28, zg_131_29, zp_131_29, zg_131_30, zp_131_30, zr_131_31, zr_131_32, zr_131_33, zr_131_34, zr_131_35, zi_131, za_132, zs_132, zl_132, za_133, zs_133, zl_133, za_134, zs_134, zl_134, za_135, zs_135, zl_135, za_136, zs_136, zl_136, za_137, zs_137, zl_137, za_138, zs_138, zl_138, za_139, zs_139, zl_139, za_140, zs_140, zl_140, za_141, zs_141, zl_141, za_142, zs_142, zl_142, za_143, zs_143, zl_143, za_144, zs_144, zl_144, za_145, zs_145, zl_145, za_146, zs_146, zl_146, za_147, zs_147, zl_147, za_148, zs_148, zl_148, za_149, zs_149, zl_149, za_150, zs_150, zl_150, za_151, zs_151, zl_151, za_152, zs_152, zl_152, za_153, zs_153, zl_153, za_154, zs_154, zl_154, zz_0, zz_31, zz_add, zz_sub, zz_mul, zz_neg, zz_lt, zz_le, zz_eq, zz_div, zz_md, zz_dv, zz_abs, zz_max, zz_min, zz_nI, zz_be0, zz_be1, zz_zb, zz_z, zz_l0, zz_l, zz_lcmp, zo_rf, zo_nl, zo_nn, zo_rI, zo_rL, zo_rR, zo_rV, Int.add_zero, Int.zero_add, Int.mul_zero, Int.zero_mul, Int.one_mul, Int.mul_one, if_true, if_false, not_true_eq_false, not_false_eq_true]
          refine zz_Ei (fun _ => ?_) (fun h => absurd (by omega) h)
          refine zz_Ei (fun h => ?_) (fun h => ?_)
          · exact zz_Er ⟨_, _, rfl, zz_pw_t g0 (zz_pw_w (by omega)), zw_s, by omega, by rw [if_pos h]⟩
          · exact zz_Er ⟨_, _, rfl, zz_pw_t g0 (zz_pw_w (by omega)), zw_s, by omega, by rw [if_neg h]⟩
        | succ k ih =>
          intro z ch J1 hk c0 c1 g0 g1 gw g2 g3 g4
          have e7 : J1 132 7 = J 132 7 := g3 7 (by omega)
          have g24 := g2.2.2.2.1
          have hz0 : 0 ≤ (z * 1103515245 + 12345) % 2147483648 ∧ (z * 1103515245 + 12345) % 2147483648 < 2147483648 := by omega
          have hz1 : 0 ≤ (z * 1103515245 + 12345) % 2147483648 / 65536 ∧ (z * 1103515245 + 12345) % 2147483648 / 65536 < 32768 := by omega
          have hm : 0 ≤ (z * 1103515245 + 12345) % 2147483648 / 65536 % J 132 7 ∧ (z * 1103515245 + 12345) % 2147483648 / 65536 % J 132 7 < J 132 7 := ⟨Int.emod_nonneg _ (by omega), Int.emod_lt_of_pos _ (by omega)⟩
          obtain ⟨J2, s1, s2, s3, s4, s5⟩ := r_189 (T := T) (J := J1) (R := R) (G := G) (d := d - 1) (Y := Y + (n - ((k + 1 : Nat) : Int))) (e := (z * 1103515245 + 12345) % 2147483648 / 65536 % J 132 7) hL g2 (by rw [g0.1 142 (by omega) (by omega) (by omega)]; exact hBc) (by omega) hm.1 (by rw [e7]; exact hm.2) (by omega)
          have g4' : zz_sd k (J2 132) (z * 1103515245 + 12345) (ch + zz_b (zz_ch (J1 132) (J2 132))) = W := by
            rw [← g4, s3]
            show _ = zz_sd k (zz_yf (J1 132) (zz_nz z % 2147483648 / 65536 % J1 132 7)) (zz_nz z) (ch + zz_b (zz_ch (J1 132) (zz_yf (J1 132) (zz_nz z % 2147483648 / 65536 % J1 132 7))))
            rw [e7]
            rfl
          rw [← s3] at s1
          have nx : ∀ x, x = zz_b (zz_ch (J1 132) (J2 132)) → zz_E (fun m => mv_run (mv_cax (d - 1)) mm_197 m 54 [(0, .inr (.inr (some 131))), (1, .inl (mv_c n)), (3, .inl (mv_c what)), (4, .inl (mv_c (z * 1103515245 + 12345))), (5, .inl (mv_c (ch + x))), (6, .inl (mv_c (n - ((k + 1 : Nat) : Int) + 1)))] [] (zz_S T J2 R G)) (fun r => ∃ J' v, r = (some (.inl (mv_c v)), zz_S T J' R G) ∧ zz_pw J J' ∧ J' 132 = J 132 ∧ (-4 ≤ v ∧ v ≤ 1000) ∧ v = if what = 0 then zz_of W.1 (zz_H (J 132)) else W.2) := by
            intro x hx
            have hx01 : x = 0 ∨ x = 1 := by
              rcases zz_b_c (zz_ch (J1 132) (J2 132)) with q | q <;> omega
            rw [show n - ((k + 1 : Nat) : Int) + 1 = n - (k : Int) by omega]
            refine ih _ _ J2 (by omega) (by omega) (by omega) (zz_pw_t g0 (zz_pw_g (by omega) s2)) (by rw [s2.1 153 (by omega) (by omega) (by omega)]; exact g1) (by rw [s2.1 152 (by omega) (by omega) (by omega)]; exact gw) ?_ (fun y hy => by rw [s5 y hy, g3 y hy]) (by rw [hx]; exact g4')
            rw [show Y + (n - (k : Int)) = Y + (n - ((k + 1 : Nat) : Int)) + 1 by omega]
            exact s4
          have nx0 := nx 0
          rw [Int.add_zero] at nx0
          refine zz_Es (fun n => e_197_54 _ _ _ _ _ _ _) ?_
          simp (maxSteps := 5000000) (disch := first | assumption | omega) only [e7, zz_and31, s1, zr_131_0, zr_131_1, zr_131_2, zr_131_3, zr_131_4, zr_131_5, zr_131_6, zr_131_7, zr_131_8, zg_131_9, zp_131_9, zg_131_10, zp_131_10, zg_131_11, zp_131_11, zg_131_12, zp_131_12, zg_131_13, zp_131_13, zg_131_14, zp_131_14, zr_131_15, zg_131_16, zp_131_16, zg_131_17, zp_131_17, zr_131_18, zr_131_19, zr_131_20, zr_131_21, zr_131_22, zg_131_23, zp_131_23, zr_131_24, zg_131_25, zp_131_25, zg_131_26, zp_131_26, zr_131_27, zr_131_28, zg_131_29, zp_131_29, zg_131_30, zp_131_30, zr_131_31, zr_131_32, zr_131_33, zr_131_34, zr_131_35, zi_131, za_132, zs_132, zl_132, za_133, zs_133, zl_133, za_134, zs_134, zl_134, za_135, zs_135, zl_135, za_136, zs_136, zl_136, za_137, zs_137, zl_137, za_138, zs_138, zl_138, za_139, zs_139, zl_139, za_140, zs_140, zl_140, za_141, zs_141, zl_141, za_142, zs_142, zl_142, za_143, zs_143, zl_143, za_144, zs_144, zl_144, za_145, zs_145, zl_145, za_146, zs_146, zl_146, za_147, zs_147, zl_147, za_148, zs_148, zl_148, za_149, zs_149, zl_149, za_150, zs_150, zl_150, za_151, zs_151, zl_151, za_152, zs_152, zl_152, za_153, zs_153, zl_153, za_154, zs_154, zl_154, zz_0, zz_31, zz_add, zz_sub, zz_mul, zz_neg, zz_lt, zz_le, zz_eq, zz_div, zz_md, zz_dv, zz_abs, zz_max, zz_min, zz_nI, zz_be0, zz_be1, zz_zb, zz_z, zz_l0, zz_l, zz_lcmp, zo_rf, zo_nl, zo_nn, zo_rI, zo_rL, zo_rR, zo_rV, Int.add_zero, Int.zero_add, Int.mul_zero, Int.zero_mul, Int.one_mul, Int.mul_one, if_true, if_false, not_true_eq_false, not_false_eq_true]
          refine zz_Ei (fun h => absurd h (by omega)) (fun _ => ?_)
          refine zz_Ei (fun h => ?_) (fun h => ?_)
          · rw [zz_be0] at h
            exact nx0 (zz_b_f h).symm
          · rw [zz_be0] at h
            exact nx 1 (zz_b_t (Classical.not_not.mp h)).symm
      have k0 := key n.toNat z 0 (zz_w (zz_w J 153 (zz_c130 (J 132) (J 153))) 152 (fun c => if 0 ≤ c ∧ c < 16 then J 132 (8 + c) else J 152 c)) (by omega) (by omega) (by omega) (zz_pw_t (zz_pw_w (by omega)) (zz_pw_w (by omega))) (by rw [zw_n (by omega), zw_s]) (fun c c0 c1 => by
        rw [zw_s, if_pos (by omega)]
        exact ⟨rfl, (hA.2.2.2.2.2.2.2.1 c c0 c1).1⟩) (by rw [zw_n (by omega), zw_n (by omega)]; exact zz_ok_Y hA (by omega) (by omega)) (fun y _ => by rw [zw_n (by omega), zw_n (by omega)]) (by rw [zw_n (by omega), zw_n (by omega)]; exact hW)
      rw [show n - (n.toNat : Int) = 0 by omega] at k0
      rw [zw_n (by omega), zw_n (by omega)]
      exact k0
  · refine ⟨-1, J, ?_, zz_pw_g (w := 148) (by omega) zz_fg_r, rfl, by omega, Or.inl ⟨hr, rfl⟩⟩
    refine zz_c (zz_call (by omega) t_197 rfl (fun n => e_197 _ _ _ _ _) ?_)
    simp (maxSteps := 5000000) (disch := first | assumption | omega) only [r_134, zz_l1, zr_131_0, zr_131_1, zr_131_2, zr_131_3, zr_131_4, zr_131_5, zr_131_6, zr_131_7, zr_131_8, zg_131_9, zp_131_9, zg_131_10, zp_131_10, zg_131_11, zp_131_11, zg_131_12, zp_131_12, zg_131_13, zp_131_13, zg_131_14, zp_131_14, zr_131_15, zg_131_16, zp_131_16, zg_131_17, zp_131_17, zr_131_18, zr_131_19, zr_131_20, zr_131_21, zr_131_22, zg_131_23, zp_131_23, zr_131_24, zg_131_25, zp_131_25, zg_131_26, zp_131_26, zr_131_27, zr_131_28, zg_131_29, zp_131_29, zg_131_30, zp_131_30, zr_131_31, zr_131_32, zr_131_33, zr_131_34, zr_131_35, zi_131, za_132, zs_132, zl_132, za_133, zs_133, zl_133, za_134, zs_134, zl_134, za_135, zs_135, zl_135, za_136, zs_136, zl_136, za_137, zs_137, zl_137, za_138, zs_138, zl_138, za_139, zs_139, zl_139, za_140, zs_140, zl_140, za_141, zs_141, zl_141, za_142, zs_142, zl_142, za_143, zs_143, zl_143, za_144, zs_144, zl_144, za_145, zs_145, zl_145, za_146, zs_146, zl_146, za_147, zs_147, zl_147, za_148, zs_148, zl_148, za_149, zs_149, zl_149, za_150, zs_150, zl_150, za_151, zs_151, zl_151, za_152, zs_152, zl_152, za_153, zs_153, zl_153, za_154, zs_154, zl_154, zz_0, zz_31, zz_add, zz_sub, zz_mul, zz_neg, zz_lt, zz_le, zz_eq, zz_div, zz_md, zz_dv, zz_abs, zz_max, zz_min, zz_nI, zz_be0, zz_be1, zz_zb, zz_z, zz_l0, zz_l, zz_lcmp, zo_rf, zo_nl, zo_nn, zo_rI, zo_rL, zo_rR, zo_rV, Int.add_zero, Int.zero_add, Int.mul_zero, Int.zero_mul, Int.one_mul, Int.mul_one, if_true, if_false, not_true_eq_false, not_false_eq_true]
    refine zz_Ei (fun _ => zz_Er rfl) (fun h => ?_)
    refine zz_Ei (fun _ => zz_Er rfl) (fun h' => ?_)
    exact absurd ⟨Classical.not_not.mp h, Classical.not_not.mp h'⟩ hr
end ZSED
