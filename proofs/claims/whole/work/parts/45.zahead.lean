/-! PURE LAYER, 14: the reference: looking ahead, what is drawn, a year -/
theorem zz_plan_y {A : Int → Int} {f t y : Int} (h : y < 24 ∨ 40 ≤ y) (hn : A 0 * A 1 ≤ 16) : zz_plan A f t y = A y := if_neg (by omega)
theorem zz_plan_ok {Y : Int} {A : Int → Int} {f t : Int} (hA : zz_ok Y A) (h : f < 0 ∨ (0 ≤ f ∧ f < A 0 * A 1 ∧ 0 ≤ t ∧ t < A 0 * A 1 ∧ f ≠ t ∧ 1 ≤ A (8 + f) ∧ A (8 + t) ≤ 8)) : zz_ok Y (zz_plan A f t) := by
  have hn := hA.n
  refine zz_ok_h hA (fun y hy => zz_plan_y (by omega) hn.2) (fun c c0 c1 => ?_)
  have hc := (hA.2.2.2.2.2.2.2.1 c c0 c1).1
  rw [zz_plan_y (by omega) hn.2]
  refine ⟨hc, Or.inr ?_⟩
  unfold zz_plan
  rw [if_pos (by omega), show 24 + c - 16 = 8 + c by omega]
  rcases h with h | h
  · rw [if_neg (by omega)]
    exact hc
  · rw [if_pos h.1]
    have hf := (hA.2.2.2.2.2.2.2.1 f h.1 h.2.1).1
    have ht := (hA.2.2.2.2.2.2.2.1 t h.2.2.1 h.2.2.2.1).1
    by_cases e : c = f
    · rw [if_pos (by omega), e]; omega
    · rw [if_neg (by omega)]
      by_cases e' : c = t
      · rw [if_pos (by omega), e']; omega
      · rw [if_neg (by omega)]
        exact hc
section ZAHE
variable {T : List mv_T} {J : Nat → Int → Int} {R : Nat → Nat → Option Nat} {G : Nat → Nat → Int64} {d : Nat} {Y : Int}
theorem r_185n {e kind h : Int} (hL : ZL T R) (hA : zz_ok Y (J 132)) (hd : 4 ≤ d) (he0 : 0 ≤ e) (he1 : e < J 132 7) (hk : 0 ≤ kind ∧ kind ≤ 7) (hk4 : kind ≠ 4) : mv_cax d 185 [.inr (.inr (some 131)), .inl (mv_c e), .inl (mv_c kind), .inl (mv_c h)] (zz_S T J R G) = some (some (.inl (mv_c (zz_val (J 132) e kind h))), (zz_S T J R G)) := by
  refine zz_c (zz_call (by omega) t_185 rfl (fun n => e_185 _ _ _ _ _) ?_)
  rcases (show kind = 0 ∨ kind = 1 ∨ kind = 2 ∨ kind = 3 ∨ kind = 5 ∨ kind = 6 ∨ kind = 7 by omega) with rfl | rfl | rfl | rfl | rfl | rfl | rfl
  all_goals
    simp (maxSteps := 5000000) (disch := first | assumption | omega) only [r_181 (Y := Y), r_182 (Y := Y), zr_131_0, zr_131_1, zr_131_2, zr_131_3, zr_131_4, zr_131_5, zr_131_6, zr_131_7, zr_131_8, zg_131_9, zp_131_9, zg_131_10, zp_131_10, zg_131_11, zp_131_11, zg_131_12, zp_131_12, zg_131_13, zp_131_13, zg_131_14, zp_131_14, zr_131_15, zg_131_16, zp_131_16, zg_131_17, zp_131_17, zr_131_18, zr_131_19, zr_131_20, zr_131_21, zr_131_22, zg_131_23, zp_131_23, zr_131_24, zg_131_25, zp_131_25, zg_131_26, zp_131_26, zr_131_27, zr_131_28, zg_131_29, zp_131_29, zg_131_30, zp_131_30, zr_131_31, zr_131_32, zr_131_33, zr_131_34, zr_131_35, zi_131, za_132, zs_132, zl_132, za_133, zs_133, zl_133, za_134, zs_134, zl_134, za_135, zs_135, zl_135, za_136, zs_136, zl_136, za_137, zs_137, zl_137, za_138, zs_138, zl_138, za_139, zs_139, zl_139, za_140, zs_140, zl_140, za_141, zs_141, zl_141, za_142, zs_142, zl_142, za_143, zs_143, zl_143, za_144, zs_144, zl_144, za_145, zs_145, zl_145, za_146, zs_146, zl_146, za_147, zs_147, zl_147, za_148, zs_148, zl_148, za_149, zs_149, zl_149, za_150, zs_150, zl_150, za_151, zs_151, zl_151, za_152, zs_152, zl_152, za_153, zs_153, zl_153, za_154, zs_154, zl_154, zz_0, zz_31, zz_add, zz_sub, zz_mul, zz_neg, zz_lt, zz_le, zz_eq, zz_div, zz_md, zz_dv, zz_abs, zz_max, zz_min, zz_nI, zz_be0, zz_be1, zz_zb, zz_z, zz_l0, zz_l, zz_lcmp, zo_rf, zo_nl, zo_nn, zo_rI, zo_rL, zo_rR, zo_rV, Int.add_zero, Int.zero_add, Int.mul_zero, Int.zero_mul, Int.one_mul, Int.mul_one, if_true, if_false, not_true_eq_false, not_false_eq_true]
    exact zz_Er rfl
/-- the next drawer's own haul -/
theorem r_186o {e : Int} (hL : ZL T R) (hA : zz_ok Y (J 132)) (hd : 5 ≤ d) (he0 : 0 ≤ e) (he1 : e < J 132 7) : ∃ J' f t, mv_cax d 186 [.inr (.inr (some 131)), .inl (mv_c e), .inl (mv_c 1)] (zz_S T J R G) = some (none, zz_S T J' R G) ∧ zz_fg 148 J J' ∧ J' 132 = J 132 ∧ J' 131 29 = f ∧ J' 131 30 = t ∧ (-4 ≤ f ∧ -4 ≤ t ∧ t < 16 ∧ f < 16) ∧ zz_own (J 132) e f t := by
  obtain ⟨J', f, t, h1, h2, h3, h4, h5, h6, h7⟩ := r_186 (T := T) (J := J) (R := R) (G := G) (d := d) (Y := Y) (w := 148) (e := e) (kind := 1) hL hA (by omega) he0 he1 (by omega) (fun J1 h g1 g2 g3 _ _ => ⟨J1, r_185n (Y := Y) hL g2 (by omega) he0 (by rw [g3 7 (by omega)]; exact he1) (by omega) (by omega), zz_fg_r, rfl⟩)
  refine ⟨J', f, t, h1, h2, h3, h4, h5, h6, ?_⟩
  have key : ∀ a b : Int, zz_val (zz_mv (J 132) a b) e 1 (zz_hh (J 132) a b) = zz_wo (zz_mv (J 132) a b) (zz_H (zz_mv (J 132) a b)) e := fun _ _ => rfl
  have k0 : zz_val (J 132) e 1 0 = zz_wo (J 132) (zz_H (J 132)) e := rfl
  have hn := hA.n
  have kv : ∀ a b : Int, 0 ≤ a → a < J 132 0 * J 132 1 → 0 ≤ b → b < J 132 0 * J 132 1 → zz_wo (zz_mv (J 132) a b) (zz_H (zz_mv (J 132) a b)) e = zz_wo (J 132) (zz_H (zz_mv (J 132) a b)) e := fun a b a0 a1 b0 b1 => zz_wo_h he0 (fun y hy => zz_mv_o (by omega) (by omega))
  rcases h7 with ⟨p1, p2⟩ | ⟨p0, p1, p2, p3⟩
  · refine Or.inl ⟨p1, fun a b r0 r1 r2 r3 r4 => ?_⟩
    have := p2 a b r0 r1 r2 r3 ⟨r4, fun q => by omega⟩
    dsimp only at this
    rw [key, k0, kv a b r0 r1 r2 r3] at this
    exact this
  · dsimp only at p2
    rw [key, k0, kv f t p0.1 p0.2.1 p0.2.2.1 p0.2.2.2] at p2
    refine Or.inr ⟨p0, p1.1, p2, fun a b r0 r1 r2 r3 r4 => ?_⟩
    have := p3 a b r0 r1 r2 r3 ⟨r4, fun q => by omega⟩
    dsimp only at this
    rw [key, key, kv a b r0 r1 r2 r3, kv f t p0.1 p0.2.1 p0.2.2.1 p0.2.2.2] at this
    exact this
theorem r_184 {e : Int} (hL : ZL T R) (hA : zz_ok Y (J 132)) (hBc : zz_bc (J 142)) (hd : 9 ≤ d) (he0 : 0 ≤ e) (he1 : e < J 132 7) : ∃ J', mv_cax d 184 [.inr (.inr (some 131)), .inl (mv_c e)] (zz_S T J R G) = some (some (.inl (mv_c (zz_ahv (J 132) e))), zz_S T J' R G) ∧ zz_fg 149 J J' ∧ J' 132 = J 132 := by
  have hn := hA.n
  have h7 := hA.2.2.2.2.2.2.1
  suffices h : ∃ r, mv_cax d 184 [.inr (.inr (some 131)), .inl (mv_c e)] (zz_S T J R G) = some r ∧ ∃ J', r = (some (.inl (mv_c (zz_ahv (J 132) e))), zz_S T J' R G) ∧ zz_fg 149 J J' ∧ J' 132 = J 132 by
    obtain ⟨r, h1, J', rfl, h2⟩ := h
    exact ⟨J', h1, h2⟩
  refine zz_call (by omega) t_184 rfl (fun n => e_184 _ _ _) ?_
  -- the row is put back
  have back : ∀ (J3 : Nat → Int → Int) (v : Int), zz_fg 149 J J3 → J3 149 = zz_c130 (J 132) (J 149) → (∀ y, ¬ (0 ≤ y ∧ y < 130) → J3 132 y = J 132 y) → zz_ah (J 132) e v → zz_E (fun n => mv_run (mv_cax (d - 1)) mm_184 n 131 [(0, .inr (.inr (some 131))), (3, .inl (mv_c v)), (4, .inl (mv_c 0))] [] (zz_S T J3 R G)) (fun r => ∃ J', r = (some (.inl (mv_c (zz_ahv (J 132) e))), zz_S T J' R G) ∧ zz_fg 149 J J' ∧ J' 132 = J 132) := by
    intro J3 v g1 g2 g3 g4
    have e0 : J3 = zz_w J3 132 (J3 132) := zw_i.symm
    have l := zz_loop (run := fun k O n => mv_run (mv_cax (d - 1)) mm_184 n 131 [(0, .inr (.inr (some 131))), (3, .inl (mv_c v)), (4, .inl (mv_c k))] [] (zz_S T (zz_w J3 132 O) R G)) (Q := fun r => ∃ J', r = (some (.inl (mv_c (zz_ahv (J 132) e))), zz_S T J' R G) ∧ zz_fg 149 J J' ∧ J' 132 = J 132) 130 (fun k O => 0 ≤ k ∧ ∀ y, O y = if 0 ≤ y ∧ y < k then J3 149 y else J3 132 y) ?_ ?_ 130 0 (J3 132) (by omega) ⟨by omega, fun y => by rw [if_neg (by omega)]⟩
    · rw [← e0] at l
      exact l
    · rintro k O ⟨hk, hO⟩ hlt kk
      refine zz_Es (fun n => e_184_131 _ _ _ _) ?_
      simp (maxSteps := 5000000) (disch := first | assumption | omega) only [zz_wu, zw_n, zw_s, zr_131_0, zr_131_1, zr_131_2, zr_131_3, zr_131_4, zr_131_5, zr_131_6, zr_131_7, zr_131_8, zg_131_9, zp_131_9, zg_131_10, zp_131_10, zg_131_11, zp_131_11, zg_131_12, zp_131_12, zg_131_13, zp_131_13, zg_131_14, zp_131_14, zr_131_15, zg_131_16, zp_131_16, zg_131_17, zp_131_17, zr_131_18, zr_131_19, zr_131_20, zr_131_21, zr_131_22, zg_131_23, zp_131_23, zr_131_24, zg_131_25, zp_131_25, zg_131_26, zp_131_26, zr_131_27, zr_131_28, zg_131_29, zp_131_29, zg_131_30, zp_131_30, zr_131_31, zr_131_32, zr_131_33, zr_131_34, zr_131_35, zi_131, za_132, zs_132, zl_132, za_133, zs_133, zl_133, za_134, zs_134, zl_134, za_135, zs_135, zl_135, za_136, zs_136, zl_136, za_137, zs_137, zl_137, za_138, zs_138, zl_138, za_139, zs_139, zl_139, za_140, zs_140, zl_140, za_141, zs_141, zl_141, za_142, zs_142, zl_142, za_143, zs_143, zl_143, za_144, zs_144, zl_144, za_145, zs_145, zl_145, za_146, zs_146, zl_146, za_147, zs_147, zl_147, za_148, zs_148, zl_148, za_149, zs_149, zl_149, za_150, zs_150, zl_150, za_151, zs_151, zl_151, za_152, zs_152, zl_152, za_153, zs_153, zl_153, za_154, zs_154, zl_154, zz_0, zz_31, zz_add, zz_sub, zz_mul, zz_neg, zz_lt, zz_le, zz_eq, zz_div, zz_md, zz_dv, zz_abs, zz_max, zz_min, zz_nI, zz_be0, zz_be1, zz_zb, zz_z, zz_l0, zz_l, zz_lcmp, zo_rf, zo_nl, zo_nn, zo_rI, zo_rL, zo_rR, zo_rV, Int.add_zero, Int.zero_add, Int.mul_zero, Int.zero_mul, Int.one_mul, Int.mul_one, if_true, if_false, not_true_eq_false, not_false_eq_true]
      refine zz_Ei (fun h => absurd h (by omega)) (fun _ => ?_)
      exact kk (zz_f O k (J3 149 k)) ⟨by omega, zz_c130s hk hO⟩
    · rintro O ⟨_, hO⟩
      refine zz_Es (fun n => e_184_131 _ _ _ _) ?_
      simp (maxSteps := 5000000) (disch := first | assumption | omega) only [zr_131_0, zr_131_1, zr_131_2, zr_131_3, zr_131_4, zr_131_5, zr_131_6, zr_131_7, zr_131_8, zg_131_9, zp_131_9, zg_131_10, zp_131_10, zg_131_11, zp_131_11, zg_131_12, zp_131_12, zg_131_13, zp_131_13, zg_131_14, zp_131_14, zr_131_15, zg_131_16, zp_131_16, zg_131_17, zp_131_17, zr_131_18, zr_131_19, zr_131_20, zr_131_21, zr_131_22, zg_131_23, zp_131_23, zr_131_24, zg_131_25, zp_131_25, zg_131_26, zp_131_26, zr_131_27, zr_131_28, zg_131_29, zp_131_29, zg_131_30, zp_131_30, zr_131_31, zr_131_32, zr_131_33, zr_131_34, zr_131_35, zi_131, za_132, zs_132, zl_132, za_133, zs_133, zl_133, za_134, zs_134, zl_134, za_135, zs_135, zl_135, za_136, zs_136, zl_136, za_137, zs_137, zl_137, za_138, zs_138, zl_138, za_139, zs_139, zl_139, za_140, zs_140, zl_140, za_141, zs_141, zl_141, za_142, zs_142, zl_142, za_143, zs_143, zl_143, za_144, zs_144, zl_144, za_145, zs_145, zl_145, za_146, zs_146, zl_146, za_147, zs_147, zl_147, za_148, zs_148, zl_148, za_149, zs_149, zl_149, za_150, zs_150, zl_150, za_151, zs_151, zl_151, za_152, zs_152, zl_152, za_153, zs_153, zl_153, za_154, zs_154, zl_154, zz_0, zz_31, zz_add, zz_sub, zz_mul, zz_neg, zz_lt, zz_le, zz_eq, zz_div, zz_md, zz_dv, zz_abs, zz_max, zz_min, zz_nI, zz_be0, zz_be1, zz_zb, zz_z, zz_l0, zz_l, zz_lcmp, zo_rf, zo_nl, zo_nn, zo_rI, zo_rL, zo_rR, zo_rV, Int.add_zero, Int.zero_add, Int.mul_zero, Int.zero_mul, Int.one_mul, Int.mul_one, if_true, if_false, not_true_eq_false, not_false_eq_true]
      refine zz_Ei (fun _ => ?_) (fun h => absurd (Int.le_refl _) h)
      have eO : O = J 132 := by
        have : O = zz_c130 (J3 149) (J3 132) := funext hO
        rw [this, g2]
        exact zz_c130b g3
      rw [zz_ahv_v (by omega) (by omega) g4]
      exact zz_Er ⟨_, rfl, zz_fg_t g1 zz_fg_w, by rw [zw_s, eO]⟩
  -- the row is kept
  have e0 : J = zz_w J 149 (J 149) := zw_i.symm
  have l := zz_loop (run := fun k O n => mv_run (mv_cax (d - 1)) mm_184 n 2 [(0, .inr (.inr (some 131))), (1, .inl (mv_c e)), (2, .inl (mv_c k))] [] (zz_S T (zz_w J 149 O) R G)) (Q := fun r => ∃ J', r = (some (.inl (mv_c (zz_ahv (J 132) e))), zz_S T J' R G) ∧ zz_fg 149 J J' ∧ J' 132 = J 132) 130 (fun k O => 0 ≤ k ∧ ∀ y, O y = if 0 ≤ y ∧ y < k then J 132 y else J 149 y) ?_ ?_ 130 0 (J 149) (by omega) ⟨by omega, fun y => by rw [if_neg (by omega)]⟩
  · rw [← e0] at l
    exact l
  · rintro k O ⟨hk, hO⟩ hlt kk
    refine zz_Es (fun n => e_184_2 _ _ _ _) ?_
    simp (maxSteps := 5000000) (disch := first | assumption | omega) only [zz_wu, zw_n, zw_s, zr_131_0, zr_131_1, zr_131_2, zr_131_3, zr_131_4, zr_131_5, zr_131_6, zr_131_7, zr_131_8, zg_131_9, zp_131_9, zg_131_10, zp_131_10, zg_131_11, zp_131_11, zg_131_12, zp_131_12, zg_131_13, zp_131_13, zg_131_14, zp_131_14, zr_131_15, zg_131_16, zp_131_16, zg_131_17, zp_131_17, zr_131_18, zr_131_19, zr_131_20, zr_131_21, zr_131_22, zg_131_23, zp_131_23, zr_131_24, zg_131_25, zp_131_25, zg_131_26, zp_131_26, zr_131_27, zr_131_28, zg_131_29, zp_131_29, zg_131_30, zp_131_30, zr_131_31, zr_131_32, zr_131_33, zr_131_34, zr_131_35, zi_131, za_132, zs_132, zl_132, za_133, zs_133, zl_133, za_134, zs_134, zl_134, za_135, zs_135, zl_135, za_136, zs_136, zl_136, za_137, zs_137, zl_137, za_138, zs_138, zl_138, za_139, zs_139, zl_139, za_140, zs_140, zl_140, za_141, zs_141, zl_141, za_142, zs_142, zl_142, za_143, zs_143, zl_143, za_144, zs_144, zl_144, za_145, zs_145, zl_145, za_146, zs_146, zl_146, za_147, zs_147, zl_147, za_148, zs_148, zl_148, za_149, zs_149, zl_149, za_150, zs_150, zl_150, za_151, zs_151, zl_151, za_152, zs_152, zl_152, za_153, zs_153, zl_153, za_154, zs_154, zl_154, zz_0, zz_31, zz_add, zz_sub, zz_mul, zz_neg, zz_lt, zz_le, zz_eq, zz_div, zz_md, zz_dv, zz_abs, zz_max, zz_min, zz_nI, zz_be0, zz_be1, zz_zb, zz_z, zz_l0, zz_l, zz_lcmp, zo_rf, zo_nl, zo_nn, zo_rI, zo_rL, zo_rR, zo_rV, Int.add_zero, Int.zero_add, Int.mul_zero, Int.zero_mul, Int.one_mul, Int.mul_one, if_true, if_false, not_true_eq_false, not_false_eq_true]
    refine zz_Ei (fun h => absurd h (by omega)) (fun _ => ?_)
    exact kk (zz_f O k (J 132 k)) ⟨by omega, zz_c130s hk hO⟩
  · rintro O ⟨_, hO⟩
    have eO : O = zz_c130 (J 132) (J 149) := funext hO
    subst eO
    refine zz_Es (fun n => e_184_2 _ _ _ _) ?_
    have hnx : 0 ≤ (e + 1) % J 132 7 ∧ (e + 1) % J 132 7 < J 132 7 := ⟨Int.emod_nonneg _ (by omega), Int.emod_lt_of_pos _ (by omega)⟩
    obtain ⟨J2, f, t, s1, s2, s3, s4, s5, s6, s7⟩ := r_186o (T := T) (J := zz_w J 149 (zz_c130 (J 132) (J 149))) (R := R) (G := G) (d := d - 1) (Y := Y) (e := (e + 1) % J 132 7) hL (by rw [zw_n (by omega)]; exact hA) (by omega) hnx.1 (by rw [zw_n (by omega)]; exact hnx.2)
    rw [zw_n (by omega)] at s3 s7
    simp (maxSteps := 5000000) (disch := first | assumption | omega) only [zw_n, zw_s, s1, zr_131_0, zr_131_1, zr_131_2, zr_131_3, zr_131_4, zr_131_5, zr_131_6, zr_131_7, zr_131_8, zg_131_9, zp_131_9, zg_131_10, zp_131_10, zg_131_11, zp_131_11, zg_131_12, zp_131_12, zg_131_13, zp_131_13, zg_131_14, zp_131_14, zr_131_15, zg_131_16, zp_131_16, zg_131_17, zp_131_17, zr_131_18, zr_131_19, zr_131_20, zr_131_21, zr_131_22, zg_131_23, zp_131_23, zr_131_24, zg_131_25, zp_131_25, zg_131_26, zp_131_26, zr_131_27, zr_131_28, zg_131_29, zp_131_29, zg_131_30, zp_131_30, zr_131_31, zr_131_32, zr_131_33, zr_131_34, zr_131_35, zi_131, za_132, zs_132, zl_132, za_133, zs_133, zl_133, za_134, zs_134, zl_134, za_135, zs_135, zl_135, za_136, zs_136, zl_136, za_137, zs_137, zl_137, za_138, zs_138, zl_138, za_139, zs_139, zl_139, za_140, zs_140, zl_140, za_141, zs_141, zl_141, za_142, zs_142, zl_142, za_143, zs_143, zl_143, za_144, zs_144, zl_144, za_145, zs_145, zl_145, za_146, zs_146, zl_146, za_147, zs_147, zl_147, za_148, zs_148, zl_148, za_149, zs_149, zl_149, za_150, zs_150, zl_150, za_151, zs_151, zl_151, za_152, zs_152, zl_152, za_153, zs_153, zl_153, za_154, zs_154, zl_154, zz_0, zz_31, zz_add, zz_sub, zz_mul, zz_neg, zz_lt, zz_le, zz_eq, zz_div, zz_md, zz_dv, zz_abs, zz_max, zz_min, zz_nI, zz_be0, zz_be1, zz_zb, zz_z, zz_l0, zz_l, zz_lcmp, zo_rf, zo_nl, zo_nn, zo_rI, zo_rL, zo_rR, zo_rV, Int.add_zero, Int.zero_add, Int.mul_zero, Int.zero_mul, Int.one_mul, Int.mul_one, if_true, if_false, not_true_eq_false, not_false_eq_true]
    refine zz_Ei (fun _ => ?_) (fun h => absurd (Int.le_refl _) h)
    have j149 : J2 149 = zz_c130 (J 132) (J 149) := by rw [s2.1 149 (by omega) (by omega) (by omega), zw_s]
    have hfg2 : zz_fg 149 J J2 := ⟨fun x x1 x2 x3 => by rw [s2.1 x x1 x2 (by omega), zw_n (by omega)], fun y hy => by rw [s2.2 y hy, zw_n (by omega)]⟩
    have e1 : J2 = zz_w J2 132 (J 132) := by rw [← s3, zw_i]
    have l2 := zz_loop (run := fun c O n => mv_run (mv_cax (d - 1)) mm_184 n 47 [(0, .inr (.inr (some 131))), (1, .inl (mv_c e)), (3, .inl (mv_c c))] [] (zz_S T (zz_w J2 132 O) R G)) (Q := fun r => ∃ J', r = (some (.inl (mv_c (zz_ahv (J 132) e))), zz_S T J' R G) ∧ zz_fg 149 J J' ∧ J' 132 = J 132) (J 132 0 * J 132 1) (fun c O => 0 ≤ c ∧ ∀ y, O y = if 24 ≤ y ∧ y < 24 + c then J 132 (y - 16) else J 132 y) ?_ ?_ (J 132 0 * J 132 1).toNat 0 (J 132) (by omega) ⟨by omega, fun y => by rw [if_neg (by omega)]⟩
    · rw [← e1] at l2
      exact l2
    · rintro c O ⟨hc, hO⟩ hlt kk
      have o0 : O 0 = J 132 0 := by rw [hO 0, if_neg (by omega)]
      have o1 : O 1 = J 132 1 := by rw [hO 1, if_neg (by omega)]
      have o8 : O (8 + c) = J 132 (8 + c) := by rw [hO (8 + c), if_neg (by omega)]
      refine zz_Es (fun n => e_184_47 _ _ _ _) ?_
      simp (maxSteps := 5000000) (disch := first | assumption | omega) only [r_135, zw_s, zz_wu, o0, o1, o8, zr_131_0, zr_131_1, zr_131_2, zr_131_3, zr_131_4, zr_131_5, zr_131_6, zr_131_7, zr_131_8, zg_131_9, zp_131_9, zg_131_10, zp_131_10, zg_131_11, zp_131_11, zg_131_12, zp_131_12, zg_131_13, zp_131_13, zg_131_14, zp_131_14, zr_131_15, zg_131_16, zp_131_16, zg_131_17, zp_131_17, zr_131_18, zr_131_19, zr_131_20, zr_131_21, zr_131_22, zg_131_23, zp_131_23, zr_131_24, zg_131_25, zp_131_25, zg_131_26, zp_131_26, zr_131_27, zr_131_28, zg_131_29, zp_131_29, zg_131_30, zp_131_30, zr_131_31, zr_131_32, zr_131_33, zr_131_34, zr_131_35, zi_131, za_132, zs_132, zl_132, za_133, zs_133, zl_133, za_134, zs_134, zl_134, za_135, zs_135, zl_135, za_136, zs_136, zl_136, za_137, zs_137, zl_137, za_138, zs_138, zl_138, za_139, zs_139, zl_139, za_140, zs_140, zl_140, za_141, zs_141, zl_141, za_142, zs_142, zl_142, za_143, zs_143, zl_143, za_144, zs_144, zl_144, za_145, zs_145, zl_145, za_146, zs_146, zl_146, za_147, zs_147, zl_147, za_148, zs_148, zl_148, za_149, zs_149, zl_149, za_150, zs_150, zl_150, za_151, zs_151, zl_151, za_152, zs_152, zl_152, za_153, zs_153, zl_153, za_154, zs_154, zl_154, zz_0, zz_31, zz_add, zz_sub, zz_mul, zz_neg, zz_lt, zz_le, zz_eq, zz_div, zz_md, zz_dv, zz_abs, zz_max, zz_min, zz_nI, zz_be0, zz_be1, zz_zb, zz_z, zz_l0, zz_l, zz_lcmp, zo_rf, zo_nl, zo_nn, zo_rI, zo_rL, zo_rR, zo_rV, Int.add_zero, Int.zero_add, Int.mul_zero, Int.zero_mul, Int.one_mul, Int.mul_one, if_true, if_false, not_true_eq_false, not_false_eq_true]
      refine zz_Ei (fun h => absurd h (by omega)) (fun _ => ?_)
      refine kk (zz_f O (24 + c) (J 132 (8 + c))) ⟨by omega, fun y => ?_⟩
      by_cases q : y = 24 + c
      · rw [q, zf_s, if_pos (by omega), show 24 + c - 16 = 8 + c by omega]
      · rw [zf_n q, hO y]
        by_cases q' : 24 ≤ y ∧ y < 24 + c
        · rw [if_pos q', if_pos (by omega)]
        · rw [if_neg q', if_neg (by omega)]
    · rintro O ⟨_, hO⟩
      have o0 : O 0 = J 132 0 := by rw [hO 0, if_neg (by omega)]
      have o1 : O 1 = J 132 1 := by rw [hO 1, if_neg (by omega)]
      refine zz_Es (fun n => e_184_47 _ _ _ _) ?_
      -- digging on the plan, and what it is worth
      have dig : ∀ J4 : Nat → Int → Int, (∀ x, x ≠ 132 → J4 x = J2 x) → J4 132 = zz_plan (J 132) f t → zz_ok Y (zz_plan (J 132) f t) → ∃ J5, mv_cax (d - 1) 179 [.inr (.inr (some 131))] (zz_S T J4 R G) = some (none, zz_S T J5 R G) ∧ mv_cax (d - 1) 181 [.inr (.inr (some 131)), .inl (mv_c e)] (zz_S T J5 R G) = some (some (.inl (mv_c (zz_wo (J 132) (zz_H (J5 132)) e))), zz_S T J5 R G) ∧ zz_fg 149 J J5 ∧ J5 149 = zz_c130 (J 132) (J 149) ∧ (∀ y, ¬ (0 ≤ y ∧ y < 130) → J5 132 y = J 132 y) ∧ zz_ah (J 132) e (zz_wo (J 132) (zz_H (J5 132)) e) := by
        intro J4 w1 w2 w3
        obtain ⟨J5, v1, v2, v3, v4, v5, v6⟩ := r_179 (T := T) (J := J4) (R := R) (G := G) (d := d - 1) (Y := Y) hL (by rw [w2]; exact w3) (by rw [w1 142 (by omega), hfg2.1 142 (by omega) (by omega) (by omega)]; exact hBc) (by omega)
        rw [w2] at v3 v6
        have v3' : ∀ y, (y < 8 ∨ 40 ≤ y) → J5 132 y = J 132 y := fun y hy => by rw [v3 y (by omega), zz_plan_y (by omega) hn.2]
        have r181 := r_181 (T := T) (J := J5) (R := R) (G := G) (d := d - 1) (Y := Y) (e := e) (by omega) hL v4 he0 (by rw [v3' 7 (by omega)]; exact he1)
        have hw : zz_wo (J5 132) (zz_H (J5 132)) e = zz_wo (J 132) (zz_H (J5 132)) e := zz_wo_h he0 (fun y hy => v3' y (by omega))
        refine ⟨J5, v1, ?_, ⟨fun x x1 x2 x3 => ?_, fun y hy => ?_⟩, ?_, fun y hy => v3' y (by omega), f, t, J5 132, _, _, s7, v6, rfl⟩
        · rw [← hw]
          exact r181
        · rw [v2.1 x x1 x2 (by omega), w1 x x2]
          exact hfg2.1 x x1 x2 x3
        · rw [v2.2 y (by omega), w1 131 (by omega)]
          exact hfg2.2 y hy
        · rw [v2.1 149 (by omega) (by omega) (by omega), w1 149 (by omega), j149]
      simp (maxSteps := 5000000) (disch := first | assumption | omega) only [r_135, zw_s, zw_n, s4, s5, o0, o1, zr_131_0, zr_131_1, zr_131_2, zr_131_3, zr_131_4, zr_131_5, zr_131_6, zr_131_7, zr_131_8, zg_131_9, zp_131_9, zg_131_10, zp_131_10, zg_131_11, zp_131_11, zg_131_12, zp_131_12, zg_131_13, zp_131_13, zg_131_14, zp_131_14, zr_131_15, zg_131_16, zp_131_16, zg_131_17, zp_131_17, zr_131_18, zr_131_19, zr_131_20, zr_131_21, zr_131_22, zg_131_23, zp_131_23, zr_131_24, zg_131_25, zp_131_25, zg_131_26, zp_131_26, zr_131_27, zr_131_28, zg_131_29, zp_131_29, zg_131_30, zp_131_30, zr_131_31, zr_131_32, zr_131_33, zr_131_34, zr_131_35, zi_131, za_132, zs_132, zl_132, za_133, zs_133, zl_133, za_134, zs_134, zl_134, za_135, zs_135, zl_135, za_136, zs_136, zl_136, za_137, zs_137, zl_137, za_138, zs_138, zl_138, za_139, zs_139, zl_139, za_140, zs_140, zl_140, za_141, zs_141, zl_141, za_142, zs_142, zl_142, za_143, zs_143, zl_143, za_144, zs_144, zl_144, za_145, zs_145, zl_145, za_146, zs_146, zl_146, za_147, zs_147, zl_147, za_148, zs_148, zl_148, za_149, zs_149, zl_149, za_150, zs_150, zl_150, za_151, zs_151, zl_151, za_152, zs_152, zl_152, za_153, zs_153, zl_153, za_154, zs_154, zl_154, zz_0, zz_31, zz_add, zz_sub, zz_mul, zz_neg, zz_lt, zz_le, zz_eq, zz_div, zz_md, zz_dv, zz_abs, zz_max, zz_min, zz_nI, zz_be0, zz_be1, zz_zb, zz_z, zz_l0, zz_l, zz_lcmp, zo_rf, zo_nl, zo_nn, zo_rI, zo_rL, zo_rR, zo_rV, Int.add_zero, Int.zero_add, Int.mul_zero, Int.zero_mul, Int.one_mul, Int.mul_one, if_true, if_false, not_true_eq_false, not_false_eq_true]
      refine zz_Ei (fun _ => ?_) (fun h => absurd (Int.le_refl _) h)
      refine zz_Ei (fun hf => ?_) (fun hf => ?_)
      · have eO : O = zz_plan (J 132) f t := by
          funext y
          rw [hO y]
          unfold zz_plan
          rw [if_neg (by omega : ¬ 0 ≤ f)]
        obtain ⟨J5, v1, v2, v3, v4, v5, v6⟩ := dig (zz_w J2 132 O) (fun x hx => zw_n hx) (by rw [zw_s, eO]) (zz_plan_ok hA (Or.inl hf))
        simp (maxSteps := 5000000) (disch := first | assumption | omega) only [v1, v2, zr_131_0, zr_131_1, zr_131_2, zr_131_3, zr_131_4, zr_131_5, zr_131_6, zr_131_7, zr_131_8, zg_131_9, zp_131_9, zg_131_10, zp_131_10, zg_131_11, zp_131_11, zg_131_12, zp_131_12, zg_131_13, zp_131_13, zg_131_14, zp_131_14, zr_131_15, zg_131_16, zp_131_16, zg_131_17, zp_131_17, zr_131_18, zr_131_19, zr_131_20, zr_131_21, zr_131_22, zg_131_23, zp_131_23, zr_131_24, zg_131_25, zp_131_25, zg_131_26, zp_131_26, zr_131_27, zr_131_28, zg_131_29, zp_131_29, zg_131_30, zp_131_30, zr_131_31, zr_131_32, zr_131_33, zr_131_34, zr_131_35, zi_131, za_132, zs_132, zl_132, za_133, zs_133, zl_133, za_134, zs_134, zl_134, za_135, zs_135, zl_135, za_136, zs_136, zl_136, za_137, zs_137, zl_137, za_138, zs_138, zl_138, za_139, zs_139, zl_139, za_140, zs_140, zl_140, za_141, zs_141, zl_141, za_142, zs_142, zl_142, za_143, zs_143, zl_143, za_144, zs_144, zl_144, za_145, zs_145, zl_145, za_146, zs_146, zl_146, za_147, zs_147, zl_147, za_148, zs_148, zl_148, za_149, zs_149, zl_149, za_150, zs_150, zl_150, za_151, zs_151, zl_151, za_152, zs_152, zl_152, za_153, zs_153, zl_153, za_154, zs_154, zl_154, zz_0, zz_31, zz_add, zz_sub, zz_mul, zz_neg, zz_lt, zz_le, zz_eq, zz_div, zz_md, zz_dv, zz_abs, zz_max, zz_min, zz_nI, zz_be0, zz_be1, zz_zb, zz_z, zz_l0, zz_l, zz_lcmp, zo_rf, zo_nl, zo_nn, zo_rI, zo_rL, zo_rR, zo_rV, Int.add_zero, Int.zero_add, Int.mul_zero, Int.zero_mul, Int.one_mul, Int.mul_one, if_true, if_false, not_true_eq_false, not_false_eq_true]
        exact back J5 _ v3 v4 v5 v6
      · rcases s7 with ⟨p1, _⟩ | ⟨p0, p1, _, _⟩
        · omega
        · have hne : f ≠ t := p1.1
          have eO : zz_f (zz_f O (24 + f) (O (24 + f) - 1)) (24 + t) (O (24 + t) + 1) = zz_plan (J 132) f t := by
            funext y
            unfold zz_plan
            by_cases q : y = 24 + t
            · rw [q, zf_s, if_pos (by omega), if_pos (by omega), if_neg (by omega), if_pos rfl, hO (24 + t), if_pos (by omega)]
            · rw [zf_n q]
              by_cases q' : y = 24 + f
              · rw [q', zf_s, if_pos (by omega), if_pos (by omega), if_pos rfl, hO (24 + f), if_pos (by omega)]
              · rw [zf_n q', hO y, if_pos (by omega : 0 ≤ f), if_neg q', if_neg q]
          obtain ⟨J5, v1, v2, v3, v4, v5, v6⟩ := dig (zz_w J2 132 (zz_f (zz_f O (24 + f) (O (24 + f) - 1)) (24 + t) (O (24 + t) + 1))) (fun x hx => zw_n hx) (by rw [zw_s, eO]) (zz_plan_ok hA (Or.inr ⟨p0.1, p0.2.1, p0.2.2.1, p0.2.2.2, hne, p1.2.1, p1.2.2.1⟩))
          simp (maxSteps := 5000000) (disch := first | assumption | omega) only [zz_wu, zw_s, zw_n, zf_n, s4, s5, v1, v2, zr_131_0, zr_131_1, zr_131_2, zr_131_3, zr_131_4, zr_131_5, zr_131_6, zr_131_7, zr_131_8, zg_131_9, zp_131_9, zg_131_10, zp_131_10, zg_131_11, zp_131_11, zg_131_12, zp_131_12, zg_131_13, zp_131_13, zg_131_14, zp_131_14, zr_131_15, zg_131_16, zp_131_16, zg_131_17, zp_131_17, zr_131_18, zr_131_19, zr_131_20, zr_131_21, zr_131_22, zg_131_23, zp_131_23, zr_131_24, zg_131_25, zp_131_25, zg_131_26, zp_131_26, zr_131_27, zr_131_28, zg_131_29, zp_131_29, zg_131_30, zp_131_30, zr_131_31, zr_131_32, zr_131_33, zr_131_34, zr_131_35, zi_131, za_132, zs_132, zl_132, za_133, zs_133, zl_133, za_134, zs_134, zl_134, za_135, zs_135, zl_135, za_136, zs_136, zl_136, za_137, zs_137, zl_137, za_138, zs_138, zl_138, za_139, zs_139, zl_139, za_140, zs_140, zl_140, za_141, zs_141, zl_141, za_142, zs_142, zl_142, za_143, zs_143, zl_143, za_144, zs_144, zl_144, za_145, zs_145, zl_145, za_146, zs_146, zl_146, za_147, zs_147, zl_147, za_148, zs_148, zl_148, za_149, zs_149, zl_149, za_150, zs_150, zl_150, za_151, zs_151, zl_151, za_152, zs_152, zl_152, za_153, zs_153, zl_153, za_154, zs_154, zl_154, zz_0, zz_31, zz_add, zz_sub, zz_mul, zz_neg, zz_lt, zz_le, zz_eq, zz_div, zz_md, zz_dv, zz_abs, zz_max, zz_min, zz_nI, zz_be0, zz_be1, zz_zb, zz_z, zz_l0, zz_l, zz_lcmp, zo_rf, zo_nl, zo_nn, zo_rI, zo_rL, zo_rR, zo_rV, Int.add_zero, Int.zero_add, Int.mul_zero, Int.zero_mul, Int.one_mul, Int.mul_one, if_true, if_false, not_true_eq_false, not_false_eq_true]
          exact back J5 _ v3 v4 v5 v6
theorem r_185 {e kind h : Int} (hL : ZL T R) (hA : zz_ok Y (J 132)) (hBc : zz_bc (J 142)) (hd : 10 ≤ d) (he0 : 0 ≤ e) (he1 : e < J 132 7) (hk : 0 ≤ kind ∧ kind ≤ 7) : ∃ J', mv_cax d 185 [.inr (.inr (some 131)), .inl (mv_c e), .inl (mv_c kind), .inl (mv_c h)] (zz_S T J R G) = some (some (.inl (mv_c (zz_val (J 132) e kind h))), zz_S T J' R G) ∧ zz_fg 149 J J' ∧ J' 132 = J 132 := by
  by_cases hk4 : kind = 4
  · subst hk4
    obtain ⟨J', v1, v2, v3⟩ := r_184 (T := T) (J := J) (R := R) (G := G) (d := d - 1) (Y := Y) (e := e) hL hA hBc (by omega) he0 he1
    refine ⟨J', ?_, v2, v3⟩
    refine zz_c (zz_call (by omega) t_185 rfl (fun n => e_185 _ _ _ _ _) ?_)
    simp (maxSteps := 5000000) (disch := first | assumption | omega) only [v1, zr_131_0, zr_131_1, zr_131_2, zr_131_3, zr_131_4, zr_131_5, zr_131_6, zr_131_7, zr_131_8, zg_131_9, zp_131_9, zg_131_10, zp_131_10, zg_131_11, zp_131_11, zg_131_12, zp_131_12, zg_131_13, zp_131_13, zg_131_14, zp_131_14, zr_131_15, zg_131_16, zp_131_16, zg_131_17, zp_131_17, zr_131_18, zr_131_19, zr_131_20, zr_131_21, zr_131_22, zg_131_23, zp_131_23, zr_131_24, zg_131_25, zp_131_25, zg_131_26, zp_131_26, zr_131_27, zr_131_28, zg_131_29, zp_131_29, zg_131_30, zp_131_30, zr_131_31, zr_131_32, zr_131_33, zr_131_34, zr_131_35, zi_131, za_132, zs_132, zl_132, za_133, zs_133, zl_133, za_134, zs_134, zl_134, za_135, zs_135, zl_135, za_136, zs_136, zl_136, za_137, zs_137, zl_137, za_138, zs_138, zl_138, za_139, zs_139, zl_139, za_140, zs_140, zl_140, za_141, zs_141, zl_141, za_142, zs_142, zl_142, za_143, zs_143, zl_143, za_144, zs_144, zl_144, za_145, zs_145, zl_145, za_146, zs_146, zl_146, za_147, zs_147, zl_147, za_148, zs_148, zl_148, za_149, zs_149, zl_149, za_150, zs_150, zl_150, za_151, zs_151, zl_151, za_152, zs_152, zl_152, za_153, zs_153, zl_153, za_154, zs_154, zl_154, zz_0, zz_31, zz_add, zz_sub, zz_mul, zz_neg, zz_lt, zz_le, zz_eq, zz_div, zz_md, zz_dv, zz_abs, zz_max, zz_min, zz_nI, zz_be0, zz_be1, zz_zb, zz_z, zz_l0, zz_l, zz_lcmp, zo_rf, zo_nl, zo_nn, zo_rI, zo_rL, zo_rR, zo_rV, Int.add_zero, Int.zero_add, Int.mul_zero, Int.zero_mul, Int.one_mul, Int.mul_one, if_true, if_false, not_true_eq_false, not_false_eq_true]
    exact zz_Er rfl
  · exact ⟨J, r_185n hL hA (by omega) he0 he1 hk hk4, zz_fg_r, rfl⟩
theorem r_186w {e kind : Int} (hL : ZL T R) (hA : zz_ok Y (J 132)) (hBc : zz_bc (J 142)) (hd : 11 ≤ d) (he0 : 0 ≤ e) (he1 : e < J 132 7) (hk : 0 ≤ kind ∧ kind ≤ 7) : ∃ J' f t, mv_cax d 186 [.inr (.inr (some 131)), .inl (mv_c e), .inl (mv_c kind)] (zz_S T J R G) = some (none, zz_S T J' R G) ∧ zz_fg 149 J J' ∧ J' 132 = J 132 ∧ J' 131 29 = f ∧ J' 131 30 = t ∧ (-4 ≤ f ∧ -4 ≤ t ∧ t < 16 ∧ f < 16) ∧ zz_fdn (J 132) e kind f t :=
  r_186 (w := 149) hL hA (by omega) he0 he1 hk (fun J1 h g1 g2 g3 _ _ => r_185 hL g2 (by rw [g1.1 142 (by omega) (by omega) (by omega)]; exact hBc) (by omega) he0 (by rw [g3 7 (by omega)]; exact he1) hk)
end ZAHE
