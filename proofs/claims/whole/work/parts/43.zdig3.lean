/-! PURE LAYER, 12: copies of the row; the reference's digging, whole -/
def zz_c130 (A B : Int → Int) : Int → Int := fun k => if 0 ≤ k ∧ k < 130 then A k else B k
theorem zz_c130s {A B O : Int → Int} {k : Int} (hk : 0 ≤ k) (hO : ∀ y, O y = if 0 ≤ y ∧ y < k then A y else B y) : ∀ y, zz_f O k (A k) y = if 0 ≤ y ∧ y < k + 1 then A y else B y := by
  intro y
  by_cases e : y = k
  · rw [e, zf_s, if_pos (by omega)]
  · rw [zf_n e, hO y]
    by_cases q : 0 ≤ y ∧ y < k
    · rw [if_pos q, if_pos (by omega)]
    · rw [if_neg q, if_neg (by omega)]
theorem zz_c130b {A B A' : Int → Int} (h : ∀ y, ¬ (0 ≤ y ∧ y < 130) → A' y = A y) : zz_c130 (zz_c130 A B) A' = A := by
  funext y
  unfold zz_c130
  by_cases q : 0 ≤ y ∧ y < 130
  · rw [if_pos q, if_pos q]
  · rw [if_neg q]
    exact h y q
section ZCOP
variable {T : List mv_T} {J : Nat → Int → Int} {R : Nat → Nat → Option Nat} {G : Nat → Nat → Int64} {d : Nat} {Y : Int}
theorem r_175 (hd : 1 ≤ d) (hL : ZL T R) : mv_cax d 175 [.inr (.inr (some 131))] (zz_S T J R G) = some (none, zz_S T (zz_w J 147 (zz_c130 (J 132) (J 147))) R G) := by
  refine zz_c (zz_call (by omega) t_175 rfl (fun n => e_175 _ _) ?_)
  have e0 : J = zz_w J 147 (J 147) := zw_i.symm
  have := zz_loop (run := fun k O n => mv_run (mv_cax (d - 1)) mm_175 n 2 [(0, .inr (.inr (some 131))), (1, .inl (mv_c k))] [] (zz_S T (zz_w J 147 O) R G)) (Q := fun r => r = (none, zz_S T (zz_w J 147 (zz_c130 (J 132) (J 147))) R G)) 130 (fun k O => 0 ≤ k ∧ ∀ y, O y = if 0 ≤ y ∧ y < k then J 132 y else J 147 y) ?_ ?_ 130 0 (J 147) (by omega) ⟨by omega, fun y => by rw [if_neg (by omega)]⟩
  · rw [← e0] at this
    exact this
  · rintro k O ⟨hk, hO⟩ hlt kk
    refine zz_Es (fun n => e_175_2 _ _ _) ?_
    simp (maxSteps := 5000000) (disch := first | assumption | omega) only [zz_wu, zw_n, zw_s, zr_131_0, zr_131_1, zr_131_2, zr_131_3, zr_131_4, zr_131_5, zr_131_6, zr_131_7, zr_131_8, zg_131_9, zp_131_9, zg_131_10, zp_131_10, zg_131_11, zp_131_11, zg_131_12, zp_131_12, zg_131_13, zp_131_13, zg_131_14, zp_131_14, zr_131_15, zg_131_16, zp_131_16, zg_131_17, zp_131_17, zr_131_18, zr_131_19, zr_131_20, zr_131_21, zr_131_22, zg_131_23, zp_131_23, zr_131_24, zg_131_25, zp_131_25, zg_131_26, zp_131_26, zr_131_27, zr_131_28, zg_131_29, zp_131_29, zg_131_30, zp_131_30, zr_131_31, zr_131_32, zr_131_33, zr_131_34, zr_131_35, zi_131, za_132, zs_132, zl_132, za_133, zs_133, zl_133, za_134, zs_134, zl_134, za_135, zs_135, zl_135, za_136, zs_136, zl_136, za_137, zs_137, zl_137, za_138, zs_138, zl_138, za_139, zs_139, zl_139, za_140, zs_140, zl_140, za_141, zs_141, zl_141, za_142, zs_142, zl_142, za_143, zs_143, zl_143, za_144, zs_144, zl_144, za_145, zs_145, zl_145, za_146, zs_146, zl_146, za_147, zs_147, zl_147, za_148, zs_148, zl_148, za_149, zs_149, zl_149, za_150, zs_150, zl_150, za_151, zs_151, zl_151, za_152, zs_152, zl_152, za_153, zs_153, zl_153, za_154, zs_154, zl_154, zz_0, zz_31, zz_add, zz_sub, zz_mul, zz_neg, zz_lt, zz_le, zz_eq, zz_div, zz_md, zz_dv, zz_abs, zz_max, zz_min, zz_nI, zz_be0, zz_be1, zz_zb, zz_z, zz_l0, zz_l, zz_lcmp, zo_rf, zo_nl, zo_nn, zo_rI, zo_rL, zo_rR, zo_rV, Int.add_zero, Int.zero_add, Int.mul_zero, Int.zero_mul, Int.one_mul, Int.mul_one, if_true, if_false, not_true_eq_false, not_false_eq_true]
    refine zz_Ei (fun h => absurd h (by omega)) (fun _ => ?_)
    exact kk (zz_f O k (J 132 k)) ⟨by omega, zz_c130s hk hO⟩
  · rintro O ⟨_, hO⟩
    refine zz_Es (fun n => e_175_2 _ _ _) ?_
    simp (maxSteps := 5000000) (disch := first | assumption | omega) only [zr_131_0, zr_131_1, zr_131_2, zr_131_3, zr_131_4, zr_131_5, zr_131_6, zr_131_7, zr_131_8, zg_131_9, zp_131_9, zg_131_10, zp_131_10, zg_131_11, zp_131_11, zg_131_12, zp_131_12, zg_131_13, zp_131_13, zg_131_14, zp_131_14, zr_131_15, zg_131_16, zp_131_16, zg_131_17, zp_131_17, zr_131_18, zr_131_19, zr_131_20, zr_131_21, zr_131_22, zg_131_23, zp_131_23, zr_131_24, zg_131_25, zp_131_25, zg_131_26, zp_131_26, zr_131_27, zr_131_28, zg_131_29, zp_131_29, zg_131_30, zp_131_30, zr_131_31, zr_131_32, zr_131_33, zr_131_34, zr_131_35, zi_131, za_132, zs_132, zl_132, za_133, zs_133, zl_133, za_134, zs_134, zl_134, za_135, zs_135, zl_135, za_136, zs_136, zl_136, za_137, zs_137, zl_137, za_138, zs_138, zl_138, za_139, zs_139, zl_139, za_140, zs_140, zl_140, za_141, zs_141, zl_141, za_142, zs_142, zl_142, za_143, zs_143, zl_143, za_144, zs_144, zl_144, za_145, zs_145, zl_145, za_146, zs_146, zl_146, za_147, zs_147, zl_147, za_148, zs_148, zl_148, za_149, zs_149, zl_149, za_150, zs_150, zl_150, za_151, zs_151, zl_151, za_152, zs_152, zl_152, za_153, zs_153, zl_153, za_154, zs_154, zl_154, zz_0, zz_31, zz_add, zz_sub, zz_mul, zz_neg, zz_lt, zz_le, zz_eq, zz_div, zz_md, zz_dv, zz_abs, zz_max, zz_min, zz_nI, zz_be0, zz_be1, zz_zb, zz_z, zz_l0, zz_l, zz_lcmp, zo_rf, zo_nl, zo_nn, zo_rI, zo_rL, zo_rR, zo_rV, Int.add_zero, Int.zero_add, Int.mul_zero, Int.zero_mul, Int.one_mul, Int.mul_one, if_true, if_false, not_true_eq_false, not_false_eq_true]
    refine zz_Ei (fun _ => ?_) (fun h => absurd (Int.le_refl _) h)
    have : O = zz_c130 (J 132) (J 147) := funext hO
    exact zz_Er (by rw [this])
theorem r_176 (hd : 1 ≤ d) (hL : ZL T R) : mv_cax d 176 [.inr (.inr (some 131))] (zz_S T J R G) = some (none, zz_S T (zz_w J 132 (zz_c130 (J 147) (J 132))) R G) := by
  refine zz_c (zz_call (by omega) t_176 rfl (fun n => e_176 _ _) ?_)
  have e0 : J = zz_w J 132 (J 132) := zw_i.symm
  have := zz_loop (run := fun k O n => mv_run (mv_cax (d - 1)) mm_176 n 2 [(0, .inr (.inr (some 131))), (1, .inl (mv_c k))] [] (zz_S T (zz_w J 132 O) R G)) (Q := fun r => r = (none, zz_S T (zz_w J 132 (zz_c130 (J 147) (J 132))) R G)) 130 (fun k O => 0 ≤ k ∧ ∀ y, O y = if 0 ≤ y ∧ y < k then J 147 y else J 132 y) ?_ ?_ 130 0 (J 132) (by omega) ⟨by omega, fun y => by rw [if_neg (by omega)]⟩
  · rw [← e0] at this
    exact this
  · rintro k O ⟨hk, hO⟩ hlt kk
    refine zz_Es (fun n => e_176_2 _ _ _) ?_
    simp (maxSteps := 5000000) (disch := first | assumption | omega) only [zz_wu, zw_n, zw_s, zr_131_0, zr_131_1, zr_131_2, zr_131_3, zr_131_4, zr_131_5, zr_131_6, zr_131_7, zr_131_8, zg_131_9, zp_131_9, zg_131_10, zp_131_10, zg_131_11, zp_131_11, zg_131_12, zp_131_12, zg_131_13, zp_131_13, zg_131_14, zp_131_14, zr_131_15, zg_131_16, zp_131_16, zg_131_17, zp_131_17, zr_131_18, zr_131_19, zr_131_20, zr_131_21, zr_131_22, zg_131_23, zp_131_23, zr_131_24, zg_131_25, zp_131_25, zg_131_26, zp_131_26, zr_131_27, zr_131_28, zg_131_29, zp_131_29, zg_131_30, zp_131_30, zr_131_31, zr_131_32, zr_131_33, zr_131_34, zr_131_35, zi_131, za_132, zs_132, zl_132, za_133, zs_133, zl_133, za_134, zs_134, zl_134, za_135, zs_135, zl_135, za_136, zs_136, zl_136, za_137, zs_137, zl_137, za_138, zs_138, zl_138, za_139, zs_139, zl_139, za_140, zs_140, zl_140, za_141, zs_141, zl_141, za_142, zs_142, zl_142, za_143, zs_143, zl_143, za_144, zs_144, zl_144, za_145, zs_145, zl_145, za_146, zs_146, zl_146, za_147, zs_147, zl_147, za_148, zs_148, zl_148, za_149, zs_149, zl_149, za_150, zs_150, zl_150, za_151, zs_151, zl_151, za_152, zs_152, zl_152, za_153, zs_153, zl_153, za_154, zs_154, zl_154, zz_0, zz_31, zz_add, zz_sub, zz_mul, zz_neg, zz_lt, zz_le, zz_eq, zz_div, zz_md, zz_dv, zz_abs, zz_max, zz_min, zz_nI, zz_be0, zz_be1, zz_zb, zz_z, zz_l0, zz_l, zz_lcmp, zo_rf, zo_nl, zo_nn, zo_rI, zo_rL, zo_rR, zo_rV, Int.add_zero, Int.zero_add, Int.mul_zero, Int.zero_mul, Int.one_mul, Int.mul_one, if_true, if_false, not_true_eq_false, not_false_eq_true]
    refine zz_Ei (fun h => absurd h (by omega)) (fun _ => ?_)
    exact kk (zz_f O k (J 147 k)) ⟨by omega, zz_c130s hk hO⟩
  · rintro O ⟨_, hO⟩
    refine zz_Es (fun n => e_176_2 _ _ _) ?_
    simp (maxSteps := 5000000) (disch := first | assumption | omega) only [zr_131_0, zr_131_1, zr_131_2, zr_131_3, zr_131_4, zr_131_5, zr_131_6, zr_131_7, zr_131_8, zg_131_9, zp_131_9, zg_131_10, zp_131_10, zg_131_11, zp_131_11, zg_131_12, zp_131_12, zg_131_13, zp_131_13, zg_131_14, zp_131_14, zr_131_15, zg_131_16, zp_131_16, zg_131_17, zp_131_17, zr_131_18, zr_131_19, zr_131_20, zr_131_21, zr_131_22, zg_131_23, zp_131_23, zr_131_24, zg_131_25, zp_131_25, zg_131_26, zp_131_26, zr_131_27, zr_131_28, zg_131_29, zp_131_29, zg_131_30, zp_131_30, zr_131_31, zr_131_32, zr_131_33, zr_131_34, zr_131_35, zi_131, za_132, zs_132, zl_132, za_133, zs_133, zl_133, za_134, zs_134, zl_134, za_135, zs_135, zl_135, za_136, zs_136, zl_136, za_137, zs_137, zl_137, za_138, zs_138, zl_138, za_139, zs_139, zl_139, za_140, zs_140, zl_140, za_141, zs_141, zl_141, za_142, zs_142, zl_142, za_143, zs_143, zl_143, za_144, zs_144, zl_144, za_145, zs_145, zl_145, za_146, zs_146, zl_146, za_147, zs_147, zl_147, za_148, zs_148, zl_148, za_149, zs_149, zl_149, za_150, zs_150, zl_150, za_151, zs_151, zl_151, za_152, zs_152, zl_152, za_153, zs_153, zl_153, za_154, zs_154, zl_154, zz_0, zz_31, zz_add, zz_sub, zz_mul, zz_neg, zz_lt, zz_le, zz_eq, zz_div, zz_md, zz_dv, zz_abs, zz_max, zz_min, zz_nI, zz_be0, zz_be1, zz_zb, zz_z, zz_l0, zz_l, zz_lcmp, zo_rf, zo_nl, zo_nn, zo_rI, zo_rL, zo_rR, zo_rV, Int.add_zero, Int.zero_add, Int.mul_zero, Int.zero_mul, Int.one_mul, Int.mul_one, if_true, if_false, not_true_eq_false, not_false_eq_true]
    refine zz_Ei (fun _ => ?_) (fun h => absurd (Int.le_refl _) h)
    have : O = zz_c130 (J 147) (J 132) := funext hO
    exact zz_Er (by rw [this])
theorem r_193 (hd : 1 ≤ d) (hL : ZL T R) : mv_cax d 193 [.inr (.inr (some 131))] (zz_S T J R G) = some (none, zz_S T (zz_w J 153 (zz_c130 (J 132) (J 153))) R G) := by
  refine zz_c (zz_call (by omega) t_193 rfl (fun n => e_193 _ _) ?_)
  have e0 : J = zz_w J 153 (J 153) := zw_i.symm
  have := zz_loop (run := fun k O n => mv_run (mv_cax (d - 1)) mm_193 n 2 [(0, .inr (.inr (some 131))), (1, .inl (mv_c k))] [] (zz_S T (zz_w J 153 O) R G)) (Q := fun r => r = (none, zz_S T (zz_w J 153 (zz_c130 (J 132) (J 153))) R G)) 130 (fun k O => 0 ≤ k ∧ ∀ y, O y = if 0 ≤ y ∧ y < k then J 132 y else J 153 y) ?_ ?_ 130 0 (J 153) (by omega) ⟨by omega, fun y => by rw [if_neg (by omega)]⟩
  · rw [← e0] at this
    exact this
  · rintro k O ⟨hk, hO⟩ hlt kk
    refine zz_Es (fun n => e_193_2 _ _ _) ?_
    simp (maxSteps := 5000000) (disch := first | assumption | omega) only [zz_wu, zw_n, zw_s, zr_131_0, zr_131_1, zr_131_2, zr_131_3, zr_131_4, zr_131_5, zr_131_6, zr_131_7, zr_131_8, zg_131_9, zp_131_9, zg_131_10, zp_131_10, zg_131_11, zp_131_11, zg_131_12, zp_131_12, zg_131_13, zp_131_13, zg_131_14, zp_131_14, zr_131_15, zg_131_16, zp_131_16, zg_131_17, zp_131_17, zr_131_18, zr_131_19, zr_131_20, zr_131_21, zr_131_22, zg_131_23, zp_131_23, zr_131_24, zg_131_25, zp_131_25, zg_131_26, zp_131_26, zr_131_27, zr_131_28, zg_131_29, zp_131_29, zg_131_30, zp_131_30, zr_131_31, zr_131_32, zr_131_33, zr_131_34, zr_131_35, zi_131, za_132, zs_132, zl_132, za_133, zs_133, zl_133, za_134, zs_134, zl_134, za_135, zs_135, zl_135, za_136, zs_136, zl_136, za_137, zs_137, zl_137, za_138, zs_138, zl_138, za_139, zs_139, zl_139, za_140, zs_140, zl_140, za_141, zs_141, zl_141, za_142, zs_142, zl_142, za_143, zs_143, zl_143, za_144, zs_144, zl_144, za_145, zs_145, zl_145, za_146, zs_146, zl_146, za_147, zs_147, zl_147, za_148, zs_148, zl_148, za_149, zs_149, zl_149, za_150, zs_150, zl_150, za_151, zs_151, zl_151, za_152, zs_152, zl_152, za_153, zs_153, zl_153, za_154, zs_154, zl_154, zz_0, zz_31, zz_add, zz_sub, zz_mul, zz_neg, zz_lt, zz_le, zz_eq, zz_div, zz_md, zz_dv, zz_abs, zz_max, zz_min, zz_nI, zz_be0, zz_be1, zz_zb, zz_z, zz_l0, zz_l, zz_lcmp, zo_rf, zo_nl, zo_nn, zo_rI, zo_rL, zo_rR, zo_rV, Int.add_zero, Int.zero_add, Int.mul_zero, Int.zero_mul, Int.one_mul, Int.mul_one, if_true, if_false, not_true_eq_false, not_false_eq_true]
    refine zz_Ei (fun h => absurd h (by omega)) (fun _ => ?_)
    exact kk (zz_f O k (J 132 k)) ⟨by omega, zz_c130s hk hO⟩
  · rintro O ⟨_, hO⟩
    refine zz_Es (fun n => e_193_2 _ _ _) ?_
    simp (maxSteps := 5000000) (disch := first | assumption | omega) only [zr_131_0, zr_131_1, zr_131_2, zr_131_3, zr_131_4, zr_131_5, zr_131_6, zr_131_7, zr_131_8, zg_131_9, zp_131_9, zg_131_10, zp_131_10, zg_131_11, zp_131_11, zg_131_12, zp_131_12, zg_131_13, zp_131_13, zg_131_14, zp_131_14, zr_131_15, zg_131_16, zp_131_16, zg_131_17, zp_131_17, zr_131_18, zr_131_19, zr_131_20, zr_131_21, zr_131_22, zg_131_23, zp_131_23, zr_131_24, zg_131_25, zp_131_25, zg_131_26, zp_131_26, zr_131_27, zr_131_28, zg_131_29, zp_131_29, zg_131_30, zp_131_30, zr_131_31, zr_131_32, zr_131_33, zr_131_34, zr_131_35, zi_131, za_132, zs_132, zl_132, za_133, zs_133, zl_133, za_134, zs_134, zl_134, za_135, zs_135, zl_135, za_136, zs_136, zl_136, za_137, zs_137, zl_137, za_138, zs_138, zl_138, za_139, zs_139, zl_139, za_140, zs_140, zl_140, za_141, zs_141, zl_141, za_142, zs_142, zl_142, za_143, zs_143, zl_143, za_144, zs_144, zl_144, za_145, zs_145, zl_145, za_146, zs_146, zl_146, za_147, zs_147, zl_147, za_148, zs_148, zl_148, za_149, zs_149, zl_149, za_150, zs_150, zl_150, za_151, zs_151, zl_151, za_152, zs_152, zl_152, za_153, zs_153, zl_153, za_154, zs_154, zl_154, zz_0, zz_31, zz_add, zz_sub, zz_mul, zz_neg, zz_lt, zz_le, zz_eq, zz_div, zz_md, zz_dv, zz_abs, zz_max, zz_min, zz_nI, zz_be0, zz_be1, zz_zb, zz_z, zz_l0, zz_l, zz_lcmp, zo_rf, zo_nl, zo_nn, zo_rI, zo_rL, zo_rR, zo_rV, Int.add_zero, Int.zero_add, Int.mul_zero, Int.zero_mul, Int.one_mul, Int.mul_one, if_true, if_false, not_true_eq_false, not_false_eq_true]
    refine zz_Ei (fun _ => ?_) (fun h => absurd (Int.le_refl _) h)
    have : O = zz_c130 (J 132) (J 153) := funext hO
    exact zz_Er (by rw [this])
theorem r_194 (hd : 1 ≤ d) (hL : ZL T R) : mv_cax d 194 [.inr (.inr (some 131))] (zz_S T J R G) = some (none, zz_S T (zz_w J 132 (zz_c130 (J 153) (J 132))) R G) := by
  refine zz_c (zz_call (by omega) t_194 rfl (fun n => e_194 _ _) ?_)
  have e0 : J = zz_w J 132 (J 132) := zw_i.symm
  have := zz_loop (run := fun k O n => mv_run (mv_cax (d - 1)) mm_194 n 2 [(0, .inr (.inr (some 131))), (1, .inl (mv_c k))] [] (zz_S T (zz_w J 132 O) R G)) (Q := fun r => r = (none, zz_S T (zz_w J 132 (zz_c130 (J 153) (J 132))) R G)) 130 (fun k O => 0 ≤ k ∧ ∀ y, O y = if 0 ≤ y ∧ y < k then J 153 y else J 132 y) ?_ ?_ 130 0 (J 132) (by omega) ⟨by omega, fun y => by rw [if_neg (by omega)]⟩
  · rw [← e0] at this
    exact this
  · rintro k O ⟨hk, hO⟩ hlt kk
    refine zz_Es (fun n => e_194_2 _ _ _) ?_
    simp (maxSteps := 5000000) (disch := first | assumption | omega) only [zz_wu, zw_n, zw_s, zr_131_0, zr_131_1, zr_131_2, zr_131_3, zr_131_4, zr_131_5, zr_131_6, zr_131_7, zr_131_8, zg_131_9, zp_131_9, zg_131_10, zp_131_10, zg_131_11, zp_131_11, zg_131_12, zp_131_12, zg_131_13, zp_131_13, zg_131_14, zp_131_14, zr_131_15, zg_131_16, zp_131_16, zg_131_17, zp_131_17, zr_131_18, zr_131_19, zr_131_20, zr_131_21, zr_131_22, zg_131_23, zp_131_23, zr_131_24, zg_131_25, zp_131_25, zg_131_26, zp_131_26, zr_131_27, zr_131_28, zg_131_29, zp_131_29, zg_131_30, zp_131_30, zr_131_31, zr_131_32, zr_131_33, zr_131_34, zr_131_35, zi_131, za_132, zs_132, zl_132, za_133, zs_133, zl_133, za_134, zs_134, zl_134, za_135, zs_135, zl_135, za_136, zs_136, zl_136, za_137, zs_137, zl_137, za_138, zs_138, zl_138, za_139, zs_139, zl_139, za_140, zs_140, zl_140, za_141, zs_141, zl_141, za_142, zs_142, zl_142, za_143, zs_143, zl_143, za_144, zs_144, zl_144, za_145, zs_145, zl_145, za_146, zs_146, zl_146, za_147, zs_147, zl_147, za_148, zs_148, zl_148, za_149, zs_149, zl_149, za_150, zs_150, zl_150, za_151, zs_151, zl_151, za_152, zs_152, zl_152, za_153, zs_153, zl_153, za_154, zs_154, zl_154, zz_0, zz_31, zz_add, zz_sub, zz_mul, zz_neg, zz_lt, zz_le, zz_eq, zz_div, zz_md, zz_dv, zz_abs, zz_max, zz_min, zz_nI, zz_be0, zz_be1, zz_zb, zz_z, zz_l0, zz_l, zz_lcmp, zo_rf, zo_nl, zo_nn, zo_rI, zo_rL, zo_rR, zo_rV, Int.add_zero, Int.zero_add, Int.mul_zero, Int.zero_mul, Int.one_mul, Int.mul_one, if_true, if_false, not_true_eq_false, not_false_eq_true]
    refine zz_Ei (fun h => absurd h (by omega)) (fun _ => ?_)
    exact kk (zz_f O k (J 153 k)) ⟨by omega, zz_c130s hk hO⟩
  · rintro O ⟨_, hO⟩
    refine zz_Es (fun n => e_194_2 _ _ _) ?_
    simp (maxSteps := 5000000) (disch := first | assumption | omega) only [zr_131_0, zr_131_1, zr_131_2, zr_131_3, zr_131_4, zr_131_5, zr_131_6, zr_131_7, zr_131_8, zg_131_9, zp_131_9, zg_131_10, zp_131_10, zg_131_11, zp_131_11, zg_131_12, zp_131_12, zg_131_13, zp_131_13, zg_131_14, zp_131_14, zr_131_15, zg_131_16, zp_131_16, zg_131_17, zp_131_17, zr_131_18, zr_131_19, zr_131_20, zr_131_21, zr_131_22, zg_131_23, zp_131_23, zr_131_24, zg_131_25, zp_131_25, zg_131_26, zp_131_26, zr_131_27, zr_131_28, zg_131_29, zp_131_29, zg_131_30, zp_131_30, zr_131_31, zr_131_32, zr_131_33, zr_131_34, zr_131_35, zi_131, za_132, zs_132, zl_132, za_133, zs_133, zl_133, za_134, zs_134, zl_134, za_135, zs_135, zl_135, za_136, zs_136, zl_136, za_137, zs_137, zl_137, za_138, zs_138, zl_138, za_139, zs_139, zl_139, za_140, zs_140, zl_140, za_141, zs_141, zl_141, za_142, zs_142, zl_142, za_143, zs_143, zl_143, za_144, zs_144, zl_144, za_145, zs_145, zl_145, za_146, zs_146, zl_146, za_147, zs_147, zl_147, za_148, zs_148, zl_148, za_149, zs_149, zl_149, za_150, zs_150, zl_150, za_151, zs_151, zl_151, za_152, zs_152, zl_152, za_153, zs_153, zl_153, za_154, zs_154, zl_154, zz_0, zz_31, zz_add, zz_sub, zz_mul, zz_neg, zz_lt, zz_le, zz_eq, zz_div, zz_md, zz_dv, zz_abs, zz_max, zz_min, zz_nI, zz_be0, zz_be1, zz_zb, zz_z, zz_l0, zz_l, zz_lcmp, zo_rf, zo_nl, zo_nn, zo_rI, zo_rL, zo_rR, zo_rV, Int.add_zero, Int.zero_add, Int.mul_zero, Int.zero_mul, Int.one_mul, Int.mul_one, if_true, if_false, not_true_eq_false, not_false_eq_true]
    refine zz_Ei (fun _ => ?_) (fun h => absurd (Int.le_refl _) h)
    have : O = zz_c130 (J 153) (J 132) := funext hO
    exact zz_Er (by rw [this])
end ZCOP
def zz_hm (A : Int → Int) : Int → Int := fun y => if (8 ≤ y ∧ y < 8 + A 0 * A 1) ∧ 0 ≤ A (16 + y) then A (16 + y) else A y
/-- what digging by the law comes to -/
def zz_dgd (A A' : Int → Int) (left dug : Int) : Prop :=
  (A 3 = 0 ∧ ∃ K, zz_lst A (zz_ex A (fun c => A (24 + c))) K ∧ (((K < 0 ∨ A 2 < K) ∧ A' = A ∧ left = A 2 ∧ dug = 0) ∨ (0 ≤ K ∧ K ≤ A 2 ∧ A' = zz_hm A ∧ left = A 2 - K ∧ dug = zz_sum (fun c => max 0 (zz_ex A (fun c => A (24 + c)) c)) (A 0 * A 1)))) ∨
  (A 3 ≠ 0 ∧ zz_dg (A 3 = 2 ∧ zz_ls A) 256 (A, A 2, 0) (A', left, dug))
theorem zz_dgd_u {A A1 A2 : Int → Int} {l1 l2 d1 d2 : Int} (hn : 0 ≤ A 0 * A 1) (h1 : zz_dgd A A1 l1 d1) (h2 : zz_dgd A A2 l2 d2) : A1 = A2 ∧ l1 = l2 ∧ d1 = d2 := by
  rcases h1 with ⟨p0, K1, k1, p1⟩ | ⟨p0, p1⟩
  · rcases h2 with ⟨q0, K2, k2, q1⟩ | ⟨q0, q1⟩
    · have e := zz_lst_u hn k1 k2
      subst e
      rcases p1 with ⟨r1, r2, r3, r4⟩ | ⟨r1, r1', r2, r3, r4⟩
      · rcases q1 with ⟨s1, s2, s3, s4⟩ | ⟨s1, s1', s2, s3, s4⟩
        · exact ⟨by rw [r2, s2], by omega, by omega⟩
        · omega
      · rcases q1 with ⟨s1, s2, s3, s4⟩ | ⟨s1, s1', s2, s3, s4⟩
        · omega
        · exact ⟨by rw [r2, s2], by omega, by omega⟩
    · exact absurd p0 q0
  · rcases h2 with ⟨q0, q1⟩ | ⟨q0, q1⟩
    · exact absurd q0 p0
    · have e := zz_dg_u p1 q1
      cases e
      exact ⟨rfl, rfl, rfl⟩
section ZDI3
variable {T : List mv_T} {J : Nat → Int → Int} {R : Nat → Nat → Option Nat} {G : Nat → Nat → Int64} {d : Nat} {Y : Int}
theorem zz_ok_hm {A : Int → Int} (hA : zz_ok Y A) : zz_ok Y (zz_hm A) := by
  have hn := hA.n
  refine zz_ok_h hA (fun y hy => if_neg (by omega)) (fun c c0 c1 => ?_)
  have hc := hA.2.2.2.2.2.2.2.1 c c0 c1
  have e1 : zz_hm A (24 + c) = A (24 + c) := if_neg (by omega)
  rw [e1]
  refine ⟨?_, hc.2⟩
  unfold zz_hm
  rw [show 16 + (8 + c) = 24 + c by omega]
  split
  · rename_i q
    omega
  · exact hc.1
theorem r_179 (hL : ZL T R) (hA : zz_ok Y (J 132)) (hBc : zz_bc (J 142)) (hd : 8 ≤ d) : ∃ J', mv_cax d 179 [.inr (.inr (some 131))] (zz_S T J R G) = some (none, zz_S T J' R G) ∧ zz_fd J J' ∧ (∀ y, (y < 8 ∨ 24 ≤ y) → J' 132 y = J 132 y) ∧ zz_ok Y (J' 132) ∧ (0 ≤ J' 131 26 ∧ J' 131 26 ≤ 999) ∧ zz_dgd (J 132) (J' 132) (J' 131 26) (J' 131 25) := by
  have hn := hA.n
  have h2 := hA.2.1
  have h3 := hA.2.2.1
  suffices h : ∃ r, mv_cax d 179 [.inr (.inr (some 131))] (zz_S T J R G) = some r ∧ ∃ J', r = (none, zz_S T J' R G) ∧ zz_fd J J' ∧ (∀ y, (y < 8 ∨ 24 ≤ y) → J' 132 y = J 132 y) ∧ zz_ok Y (J' 132) ∧ (0 ≤ J' 131 26 ∧ J' 131 26 ≤ 999) ∧ zz_dgd (J 132) (J' 132) (J' 131 26) (J' 131 25) by
    obtain ⟨r, h1, J', rfl, h2⟩ := h
    exact ⟨J', h1, h2⟩
  refine zz_call (by omega) t_179 rfl (fun n => e_179 _ _) ?_
  have f1 : ∀ x, x ≠ 131 → zz_u (zz_u J 131 25 0) 131 26 (J 132 2) x = J x := fun x hx => by rw [zu_A hx, zu_A hx]
  have f2 : ∀ y, y ≠ 25 → y ≠ 26 → zz_u (zz_u J 131 25 0) 131 26 (J 132 2) 131 y = J 131 y := fun y y1 y2 => by rw [zu_k y2, zu_k y1]
  have f25 : zz_u (zz_u J 131 25 0) 131 26 (J 132 2) 131 25 = 0 := by rw [zu_k (by omega), zu_s]
  have f26 : zz_u (zz_u J 131 25 0) 131 26 (J 132 2) 131 26 = J 132 2 := zu_s
  have loop : ∀ (must : Prop) (J3 : Nat → Int → Int) (Q : Option mv_V × mv_S → Prop), (must ↔ J 132 3 = 2 ∧ zz_ls (J 132)) → J 132 3 ≠ 0 → (∀ x, x ≠ 131 → J3 x = J x) → (∀ y, (y < 16 ∨ 26 < y) → J3 131 y = J 131 y) → J3 131 26 = J 132 2 → J3 131 25 = 0 → (∀ J', zz_fd J J' → (∀ y, (y < 8 ∨ 24 ≤ y) → J' 132 y = J 132 y) → zz_ok Y (J' 132) → (0 ≤ J' 131 26 ∧ J' 131 26 ≤ 999) → zz_dgd (J 132) (J' 132) (J' 131 26) (J' 131 25) → Q (none, zz_S T J' R G)) → zz_E (fun n => mv_run (mv_cax (d - 1)) mm_179 n 132 [(0, .inr (.inr (some 131))), (1, .inl (mv_c (zz_b must))), (2, .inl (mv_c 0))] [] (zz_S T J3 R G)) Q := by
    intro must J3 Q hmust hne g1 g2 g3 g4 kq
    have e0 : J3 = zz_w J3 148 (J3 148) := zw_i.symm
    have l := zz_loop (run := fun k O n => mv_run (mv_cax (d - 1)) mm_179 n 132 [(0, .inr (.inr (some 131))), (1, .inl (mv_c (zz_b must))), (2, .inl (mv_c k))] [] (zz_S T (zz_w J3 148 O) R G)) (Q := Q) 256 (fun k O => 0 ≤ k ∧ ∀ y, 0 ≤ y → y < k → O y = 0) ?_ ?_ 256 0 (J3 148) (by omega) ⟨by omega, fun y _ _ => by omega⟩
    · rw [← e0] at l
      exact l
    · rintro k O ⟨hk, hO⟩ hlt kk
      refine zz_Es (fun n => e_179_132 _ _ _ _) ?_
      simp (maxSteps := 5000000) (disch := first | assumption | omega) only [zz_wu, zr_131_0, zr_131_1, zr_131_2, zr_131_3, zr_131_4, zr_131_5, zr_131_6, zr_131_7, zr_131_8, zg_131_9, zp_131_9, zg_131_10, zp_131_10, zg_131_11, zp_131_11, zg_131_12, zp_131_12, zg_131_13, zp_131_13, zg_131_14, zp_131_14, zr_131_15, zg_131_16, zp_131_16, zg_131_17, zp_131_17, zr_131_18, zr_131_19, zr_131_20, zr_131_21, zr_131_22, zg_131_23, zp_131_23, zr_131_24, zg_131_25, zp_131_25, zg_131_26, zp_131_26, zr_131_27, zr_131_28, zg_131_29, zp_131_29, zg_131_30, zp_131_30, zr_131_31, zr_131_32, zr_131_33, zr_131_34, zr_131_35, zi_131, za_132, zs_132, zl_132, za_133, zs_133, zl_133, za_134, zs_134, zl_134, za_135, zs_135, zl_135, za_136, zs_136, zl_136, za_137, zs_137, zl_137, za_138, zs_138, zl_138, za_139, zs_139, zl_139, za_140, zs_140, zl_140, za_141, zs_141, zl_141, za_142, zs_142, zl_142, za_143, zs_143, zl_143, za_144, zs_144, zl_144, za_145, zs_145, zl_145, za_146, zs_146, zl_146, za_147, zs_147, zl_147, za_148, zs_148, zl_148, za_149, zs_149, zl_149, za_150, zs_150, zl_150, za_151, zs_151, zl_151, za_152, zs_152, zl_152, za_153, zs_153, zl_153, za_154, zs_154, zl_154, zz_0, zz_31, zz_add, zz_sub, zz_mul, zz_neg, zz_lt, zz_le, zz_eq, zz_div, zz_md, zz_dv, zz_abs, zz_max, zz_min, zz_nI, zz_be0, zz_be1, zz_zb, zz_z, zz_l0, zz_l, zz_lcmp, zo_rf, zo_nl, zo_nn, zo_rI, zo_rL, zo_rR, zo_rV, Int.add_zero, Int.zero_add, Int.mul_zero, Int.zero_mul, Int.one_mul, Int.mul_one, if_true, if_false, not_true_eq_false, not_false_eq_true]
      refine zz_Ei (fun h => absurd h (by omega)) (fun _ => ?_)
      refine kk (zz_f O k 0) ⟨by omega, fun y y0 y1 => ?_⟩
      by_cases e : y = k
      · rw [e, zf_s]
      · rw [zf_n e]
        exact hO y y0 (by omega)
    · rintro O ⟨_, hO⟩
      refine zz_Es (fun n => e_179_132 _ _ _ _) ?_
      simp (maxSteps := 5000000) (disch := first | assumption | omega) only [zr_131_0, zr_131_1, zr_131_2, zr_131_3, zr_131_4, zr_131_5, zr_131_6, zr_131_7, zr_131_8, zg_131_9, zp_131_9, zg_131_10, zp_131_10, zg_131_11, zp_131_11, zg_131_12, zp_131_12, zg_131_13, zp_131_13, zg_131_14, zp_131_14, zr_131_15, zg_131_16, zp_131_16, zg_131_17, zp_131_17, zr_131_18, zr_131_19, zr_131_20, zr_131_21, zr_131_22, zg_131_23, zp_131_23, zr_131_24, zg_131_25, zp_131_25, zg_131_26, zp_131_26, zr_131_27, zr_131_28, zg_131_29, zp_131_29, zg_131_30, zp_131_30, zr_131_31, zr_131_32, zr_131_33, zr_131_34, zr_131_35, zi_131, za_132, zs_132, zl_132, za_133, zs_133, zl_133, za_134, zs_134, zl_134, za_135, zs_135, zl_135, za_136, zs_136, zl_136, za_137, zs_137, zl_137, za_138, zs_138, zl_138, za_139, zs_139, zl_139, za_140, zs_140, zl_140, za_141, zs_141, zl_141, za_142, zs_142, zl_142, za_143, zs_143, zl_143, za_144, zs_144, zl_144, za_145, zs_145, zl_145, za_146, zs_146, zl_146, za_147, zs_147, zl_147, za_148, zs_148, zl_148, za_149, zs_149, zl_149, za_150, zs_150, zl_150, za_151, zs_151, zl_151, za_152, zs_152, zl_152, za_153, zs_153, zl_153, za_154, zs_154, zl_154, zz_0, zz_31, zz_add, zz_sub, zz_mul, zz_neg, zz_lt, zz_le, zz_eq, zz_div, zz_md, zz_dv, zz_abs, zz_max, zz_min, zz_nI, zz_be0, zz_be1, zz_zb, zz_z, zz_l0, zz_l, zz_lcmp, zo_rf, zo_nl, zo_nn, zo_rI, zo_rL, zo_rR, zo_rV, Int.add_zero, Int.zero_add, Int.mul_zero, Int.zero_mul, Int.one_mul, Int.mul_one, if_true, if_false, not_true_eq_false, not_false_eq_true]
      refine zz_Ei (fun _ => ?_) (fun h => absurd (Int.le_refl _) h)
      have w132 : zz_w J3 148 O 132 = J 132 := by rw [zw_n (by omega), g1 132 (by omega)]
      have := r_179w (T := T) (J := J) (R := R) (G := G) (d := d - 1) (Y := Y) hL hA hBc (by omega) (must := must) (256, zz_w J3 148 O) ⟨⟨fun x x1 x2 x3 => ?_, fun y hy => ?_⟩, ?_, ?_, ?_, ?_, ?_, ?_⟩
      · refine zz_Em this ?_
        rintro r ⟨J', rfl, p1, p2, p3, p4, p5⟩
        refine kq J' p1 p2 p3 p4 (Or.inr ⟨hne, ?_⟩)
        have p5 : zz_dg must 256 (zz_w J3 148 O 132, zz_w J3 148 O 131 26, zz_w J3 148 O 131 25) (J' 132, J' 131 26, J' 131 25) := p5
        rw [w132, zw_n (by omega), g3, g4] at p5
        rw [propext hmust] at p5
        exact p5
      · show zz_w J3 148 O x = J x
        rw [zw_n (by omega)]
        exact g1 x x1
      · show zz_w J3 148 O 131 y = J 131 y
        rw [zw_n (by omega)]
        exact g2 y hy
      · show ∀ y, (y < 8 ∨ 24 ≤ y) → zz_w J3 148 O 132 y = J 132 y
        rw [w132]
        exact fun _ _ => rfl
      · show zz_ok Y (zz_w J3 148 O 132)
        rw [w132]
        exact hA
      · show 0 ≤ zz_w J3 148 O 131 26 ∧ zz_w J3 148 O 131 26 ≤ 999
        rw [zw_n (by omega), g3]
        exact h2
      · show ∀ p, 0 ≤ p → p < 256 → zz_w J3 148 O 148 p = 0 ∨ zz_w J3 148 O 148 p = 1
        rw [zw_s]
        exact fun p p0 p1 => Or.inl (hO p p0 p1)
      · show (256 : Int) ≤ 256 ∧ (256 : Int) ≤ 1792
        omega
      · show ∀ a b, 0 ≤ a → a < J 132 0 * J 132 1 → 0 ≤ b → b < J 132 0 * J 132 1 → (zz_w J3 148 O 148 (16 * a + b) = 1 → 256 * zz_nr (J 132 1) a b + (16 * a + b) < 256) ∧ (256 * zz_nr (J 132 1) a b + (16 * a + b) < 256 → ¬ zz_can (zz_w J3 148 O 132) (zz_w J3 148 O 148) a b)
        rw [zw_s, w132]
        intro a b a0 a1 b0 b1
        have hO' := hO (16 * a + b) (by omega) (by omega)
        have hnr := zz_nr_b hA.1.1 hA.1.2.1 hA.1.2.2.1 hA.1.2.2.2 a0 a1 b0 b1
        refine ⟨fun q => by omega, fun q q' => ?_⟩
        have : a = b := hnr.2.2 (by omega)
        subst this
        have u1 := q'.1.2.1
        have u2 := q'.2.1.2.1
        omega
  simp (maxSteps := 5000000) (disch := first | assumption | omega) only [zu_a, zu_A, zu_s, zr_131_0, zr_131_1, zr_131_2, zr_131_3, zr_131_4, zr_131_5, zr_131_6, zr_131_7, zr_131_8, zg_131_9, zp_131_9, zg_131_10, zp_131_10, zg_131_11, zp_131_11, zg_131_12, zp_131_12, zg_131_13, zp_131_13, zg_131_14, zp_131_14, zr_131_15, zg_131_16, zp_131_16, zg_131_17, zp_131_17, zr_131_18, zr_131_19, zr_131_20, zr_131_21, zr_131_22, zg_131_23, zp_131_23, zr_131_24, zg_131_25, zp_131_25, zg_131_26, zp_131_26, zr_131_27, zr_131_28, zg_131_29, zp_131_29, zg_131_30, zp_131_30, zr_131_31, zr_131_32, zr_131_33, zr_131_34, zr_131_35, zi_131, za_132, zs_132, zl_132, za_133, zs_133, zl_133, za_134, zs_134, zl_134, za_135, zs_135, zl_135, za_136, zs_136, zl_136, za_137, zs_137, zl_137, za_138, zs_138, zl_138, za_139, zs_139, zl_139, za_140, zs_140, zl_140, za_141, zs_141, zl_141, za_142, zs_142, zl_142, za_143, zs_143, zl_143, za_144, zs_144, zl_144, za_145, zs_145, zl_145, za_146, zs_146, zl_146, za_147, zs_147, zl_147, za_148, zs_148, zl_148, za_149, zs_149, zl_149, za_150, zs_150, zl_150, za_151, zs_151, zl_151, za_152, zs_152, zl_152, za_153, zs_153, zl_153, za_154, zs_154, zl_154, zz_0, zz_31, zz_add, zz_sub, zz_mul, zz_neg, zz_lt, zz_le, zz_eq, zz_div, zz_md, zz_dv, zz_abs, zz_max, zz_min, zz_nI, zz_be0, zz_be1, zz_zb, zz_z, zz_l0, zz_l, zz_lcmp, zo_rf, zo_nl, zo_nn, zo_rI, zo_rL, zo_rR, zo_rV, Int.add_zero, Int.zero_add, Int.mul_zero, Int.zero_mul, Int.one_mul, Int.mul_one, if_true, if_false, not_true_eq_false, not_false_eq_true]
  refine zz_Ei (fun h0 => ?_) (fun h0 => ?_)
  · obtain ⟨K, J2, hr, hfx, hlst, hst⟩ := r_172 (T := T) (J := zz_u (zz_u J 131 25 0) 131 26 (J 132 2)) (R := R) (G := G) (d := d - 1) (Y := Y) hL (by rw [f1 _ (by omega)]; exact hA) (by omega)
    rw [f1 132 (by omega)] at hlst hst
    have hK : K = -4 ∨ 0 ≤ K ∧ K ≤ 2000 := by
      rcases hlst with ⟨_, e⟩ | ⟨_, e1, e2, _⟩
      · exact Or.inl e
      · exact Or.inr ⟨e1, e2⟩
    have x26 : J2 131 26 = J 132 2 := by rw [hfx.2 26 (by omega), f26]
    have x25 : J2 131 25 = 0 := by rw [hfx.2 25 (by omega), f25]
    have x132 : J2 132 = J 132 := by rw [hfx.1 132 (by omega) (by omega), f1 _ (by omega)]
    have xfd : zz_fd J J2 := ⟨fun x x1 x2 x3 => by rw [hfx.1 x x1 (by omega), f1 x x1], fun y hy => by rw [hfx.2 y (by omega), f2 y (by omega) (by omega)]⟩
    have none_ : (K < 0 ∨ J 132 2 < K) → ∃ J', ((none, zz_S T J2 R G) : Option mv_V × mv_S) = (none, zz_S T J' R G) ∧ zz_fd J J' ∧ (∀ y, (y < 8 ∨ 24 ≤ y) → J' 132 y = J 132 y) ∧ zz_ok Y (J' 132) ∧ (0 ≤ J' 131 26 ∧ J' 131 26 ≤ 999) ∧ zz_dgd (J 132) (J' 132) (J' 131 26) (J' 131 25) := fun q => ⟨J2, rfl, xfd, fun y _ => by rw [x132], by rw [x132]; exact hA, by rw [x26]; exact h2, Or.inl ⟨h0, K, hlst, Or.inl ⟨q, x132, x26, x25⟩⟩⟩
    simp (maxSteps := 5000000) (disch := first | assumption | omega) only [hr, x26, zr_131_0, zr_131_1, zr_131_2, zr_131_3, zr_131_4, zr_131_5, zr_131_6, zr_131_7, zr_131_8, zg_131_9, zp_131_9, zg_131_10, zp_131_10, zg_131_11, zp_131_11, zg_131_12, zp_131_12, zg_131_13, zp_131_13, zg_131_14, zp_131_14, zr_131_15, zg_131_16, zp_131_16, zg_131_17, zp_131_17, zr_131_18, zr_131_19, zr_131_20, zr_131_21, zr_131_22, zg_131_23, zp_131_23, zr_131_24, zg_131_25, zp_131_25, zg_131_26, zp_131_26, zr_131_27, zr_131_28, zg_131_29, zp_131_29, zg_131_30, zp_131_30, zr_131_31, zr_131_32, zr_131_33, zr_131_34, zr_131_35, zi_131, za_132, zs_132, zl_132, za_133, zs_133, zl_133, za_134, zs_134, zl_134, za_135, zs_135, zl_135, za_136, zs_136, zl_136, za_137, zs_137, zl_137, za_138, zs_138, zl_138, za_139, zs_139, zl_139, za_140, zs_140, zl_140, za_141, zs_141, zl_141, za_142, zs_142, zl_142, za_143, zs_143, zl_143, za_144, zs_144, zl_144, za_145, zs_145, zl_145, za_146, zs_146, zl_146, za_147, zs_147, zl_147, za_148, zs_148, zl_148, za_149, zs_149, zl_149, za_150, zs_150, zl_150, za_151, zs_151, zl_151, za_152, zs_152, zl_152, za_153, zs_153, zl_153, za_154, zs_154, zl_154, zz_0, zz_31, zz_add, zz_sub, zz_mul, zz_neg, zz_lt, zz_le, zz_eq, zz_div, zz_md, zz_dv, zz_abs, zz_max, zz_min, zz_nI, zz_be0, zz_be1, zz_zb, zz_z, zz_l0, zz_l, zz_lcmp, zo_rf, zo_nl, zo_nn, zo_rI, zo_rL, zo_rR, zo_rV, Int.add_zero, Int.zero_add, Int.mul_zero, Int.zero_mul, Int.one_mul, Int.mul_one, if_true, if_false, not_true_eq_false, not_false_eq_true]
    refine zz_Ei (fun h => zz_Er (none_ (Or.inl h))) (fun hK0 => ?_)
    refine zz_Ei (fun hK1 => ?_) (fun h => zz_Er (none_ (Or.inr (by omega))))
    simp (maxSteps := 5000000) (disch := first | assumption | omega) only [x26, zu_k, zr_131_0, zr_131_1, zr_131_2, zr_131_3, zr_131_4, zr_131_5, zr_131_6, zr_131_7, zr_131_8, zg_131_9, zp_131_9, zg_131_10, zp_131_10, zg_131_11, zp_131_11, zg_131_12, zp_131_12, zg_131_13, zp_131_13, zg_131_14, zp_131_14, zr_131_15, zg_131_16, zp_131_16, zg_131_17, zp_131_17, zr_131_18, zr_131_19, zr_131_20, zr_131_21, zr_131_22, zg_131_23, zp_131_23, zr_131_24, zg_131_25, zp_131_25, zg_131_26, zp_131_26, zr_131_27, zr_131_28, zg_131_29, zp_131_29, zg_131_30, zp_131_30, zr_131_31, zr_131_32, zr_131_33, zr_131_34, zr_131_35, zi_131, za_132, zs_132, zl_132, za_133, zs_133, zl_133, za_134, zs_134, zl_134, za_135, zs_135, zl_135, za_136, zs_136, zl_136, za_137, zs_137, zl_137, za_138, zs_138, zl_138, za_139, zs_139, zl_139, za_140, zs_140, zl_140, za_141, zs_141, zl_141, za_142, zs_142, zl_142, za_143, zs_143, zl_143, za_144, zs_144, zl_144, za_145, zs_145, zl_145, za_146, zs_146, zl_146, za_147, zs_147, zl_147, za_148, zs_148, zl_148, za_149, zs_149, zl_149, za_150, zs_150, zl_150, za_151, zs_151, zl_151, za_152, zs_152, zl_152, za_153, zs_153, zl_153, za_154, zs_154, zl_154, zz_0, zz_31, zz_add, zz_sub, zz_mul, zz_neg, zz_lt, zz_le, zz_eq, zz_div, zz_md, zz_dv, zz_abs, zz_max, zz_min, zz_nI, zz_be0, zz_be1, zz_zb, zz_z, zz_l0, zz_l, zz_lcmp, zo_rf, zo_nl, zo_nn, zo_rI, zo_rL, zo_rR, zo_rV, Int.add_zero, Int.zero_add, Int.mul_zero, Int.zero_mul, Int.one_mul, Int.mul_one, if_true, if_false, not_true_eq_false, not_false_eq_true]
    have y132 : ∀ a b, zz_u (zz_u J2 131 26 a) 131 25 b 132 = J 132 := fun a b => by rw [zu_A (by omega), zu_A (by omega), x132]
    have e00 : ∀ X : Nat → Int → Int, X 132 = J 132 → X = zz_w X 132 (J 132) := fun X h => by rw [← h, zw_i]
    have e0 := e00 _ (y132 (J 132 2 - K) (J2 131 23))
    have l := zz_loop (run := fun c O n => mv_run (mv_cax (d - 1)) mm_179 n 62 [(0, .inr (.inr (some 131))), (2, .inl (mv_c c))] [] (zz_S T (zz_w (zz_u (zz_u J2 131 26 (J 132 2 - K)) 131 25 (J2 131 23)) 132 O) R G)) (Q := fun r => ∃ J', r = (none, zz_S T J' R G) ∧ zz_fd J J' ∧ (∀ y, (y < 8 ∨ 24 ≤ y) → J' 132 y = J 132 y) ∧ zz_ok Y (J' 132) ∧ (0 ≤ J' 131 26 ∧ J' 131 26 ≤ 999) ∧ zz_dgd (J 132) (J' 132) (J' 131 26) (J' 131 25)) (J 132 0 * J 132 1) (fun c O => 0 ≤ c ∧ ∀ y, O y = if (8 ≤ y ∧ y < 8 + c) ∧ 0 ≤ J 132 (16 + y) then J 132 (16 + y) else J 132 y) ?_ ?_ (J 132 0 * J 132 1).toNat 0 (J 132) (by omega) ⟨by omega, fun y => by rw [if_neg (by omega)]⟩
    · rw [← e0] at l
      exact l
    · rintro c O ⟨hc, hO⟩ hlt kk
      have o0 : O 0 = J 132 0 := by rw [hO 0, if_neg (by omega)]
      have o1 : O 1 = J 132 1 := by rw [hO 1, if_neg (by omega)]
      have o24 : O (24 + c) = J 132 (24 + c) := by rw [hO (24 + c), if_neg (by omega)]
      have hcA := hA.2.2.2.2.2.2.2.1 c hc hlt
      refine zz_Es (fun n => e_179_62 _ _ _) ?_
      simp (maxSteps := 5000000) (disch := first | assumption | omega) only [r_135, zw_s, zz_wu, o0, o1, o24, zr_131_0, zr_131_1, zr_131_2, zr_131_3, zr_131_4, zr_131_5, zr_131_6, zr_131_7, zr_131_8, zg_131_9, zp_131_9, zg_131_10, zp_131_10, zg_131_11, zp_131_11, zg_131_12, zp_131_12, zg_131_13, zp_131_13, zg_131_14, zp_131_14, zr_131_15, zg_131_16, zp_131_16, zg_131_17, zp_131_17, zr_131_18, zr_131_19, zr_131_20, zr_131_21, zr_131_22, zg_131_23, zp_131_23, zr_131_24, zg_131_25, zp_131_25, zg_131_26, zp_131_26, zr_131_27, zr_131_28, zg_131_29, zp_131_29, zg_131_30, zp_131_30, zr_131_31, zr_131_32, zr_131_33, zr_131_34, zr_131_35, zi_131, za_132, zs_132, zl_132, za_133, zs_133, zl_133, za_134, zs_134, zl_134, za_135, zs_135, zl_135, za_136, zs_136, zl_136, za_137, zs_137, zl_137, za_138, zs_138, zl_138, za_139, zs_139, zl_139, za_140, zs_140, zl_140, za_141, zs_141, zl_141, za_142, zs_142, zl_142, za_143, zs_143, zl_143, za_144, zs_144, zl_144, za_145, zs_145, zl_145, za_146, zs_146, zl_146, za_147, zs_147, zl_147, za_148, zs_148, zl_148, za_149, zs_149, zl_149, za_150, zs_150, zl_150, za_151, zs_151, zl_151, za_152, zs_152, zl_152, za_153, zs_153, zl_153, za_154, zs_154, zl_154, zz_0, zz_31, zz_add, zz_sub, zz_mul, zz_neg, zz_lt, zz_le, zz_eq, zz_div, zz_md, zz_dv, zz_abs, zz_max, zz_min, zz_nI, zz_be0, zz_be1, zz_zb, zz_z, zz_l0, zz_l, zz_lcmp, zo_rf, zo_nl, zo_nn, zo_rI, zo_rL, zo_rR, zo_rV, Int.add_zero, Int.zero_add, Int.mul_zero, Int.zero_mul, Int.one_mul, Int.mul_one, if_true, if_false, not_true_eq_false, not_false_eq_true]
      refine zz_Ei (fun h => absurd h (by omega)) (fun _ => ?_)
      refine zz_Ei (fun h => ?_) (fun h => ?_)
      · refine kk O ⟨by omega, fun y => ?_⟩
        rw [hO y]
        by_cases e : y = 8 + c
        · rw [e, show 16 + (8 + c) = 24 + c by omega, if_neg (by omega), if_neg (by omega)]
        · by_cases q : (8 ≤ y ∧ y < 8 + c) ∧ 0 ≤ J 132 (16 + y)
          · rw [if_pos q, if_pos ⟨by omega, q.2⟩]
          · rw [if_neg q, if_neg (fun q' => q ⟨by omega, q'.2⟩)]
      · refine kk (zz_f O (8 + c) (J 132 (24 + c))) ⟨by omega, fun y => ?_⟩
        by_cases e : y = 8 + c
        · rw [e, zf_s, show 16 + (8 + c) = 24 + c by omega, if_pos ⟨by omega, by omega⟩]
        · rw [zf_n e, hO y]
          by_cases q : (8 ≤ y ∧ y < 8 + c) ∧ 0 ≤ J 132 (16 + y)
          · rw [if_pos q, if_pos ⟨by omega, q.2⟩]
          · rw [if_neg q, if_neg (fun q' => q ⟨by omega, q'.2⟩)]
    · rintro O ⟨_, hO⟩
      have o0 : O 0 = J 132 0 := by rw [hO 0, if_neg (by omega)]
      have o1 : O 1 = J 132 1 := by rw [hO 1, if_neg (by omega)]
      have oh : O = zz_hm (J 132) := funext hO
      refine zz_Es (fun n => e_179_62 _ _ _) ?_
      simp (maxSteps := 5000000) (disch := first | assumption | omega) only [r_135, zw_s, o0, o1, zr_131_0, zr_131_1, zr_131_2, zr_131_3, zr_131_4, zr_131_5, zr_131_6, zr_131_7, zr_131_8, zg_131_9, zp_131_9, zg_131_10, zp_131_10, zg_131_11, zp_131_11, zg_131_12, zp_131_12, zg_131_13, zp_131_13, zg_131_14, zp_131_14, zr_131_15, zg_131_16, zp_131_16, zg_131_17, zp_131_17, zr_131_18, zr_131_19, zr_131_20, zr_131_21, zr_131_22, zg_131_23, zp_131_23, zr_131_24, zg_131_25, zp_131_25, zg_131_26, zp_131_26, zr_131_27, zr_131_28, zg_131_29, zp_131_29, zg_131_30, zp_131_30, zr_131_31, zr_131_32, zr_131_33, zr_131_34, zr_131_35, zi_131, za_132, zs_132, zl_132, za_133, zs_133, zl_133, za_134, zs_134, zl_134, za_135, zs_135, zl_135, za_136, zs_136, zl_136, za_137, zs_137, zl_137, za_138, zs_138, zl_138, za_139, zs_139, zl_139, za_140, zs_140, zl_140, za_141, zs_141, zl_141, za_142, zs_142, zl_142, za_143, zs_143, zl_143, za_144, zs_144, zl_144, za_145, zs_145, zl_145, za_146, zs_146, zl_146, za_147, zs_147, zl_147, za_148, zs_148, zl_148, za_149, zs_149, zl_149, za_150, zs_150, zl_150, za_151, zs_151, zl_151, za_152, zs_152, zl_152, za_153, zs_153, zl_153, za_154, zs_154, zl_154, zz_0, zz_31, zz_add, zz_sub, zz_mul, zz_neg, zz_lt, zz_le, zz_eq, zz_div, zz_md, zz_dv, zz_abs, zz_max, zz_min, zz_nI, zz_be0, zz_be1, zz_zb, zz_z, zz_l0, zz_l, zz_lcmp, zo_rf, zo_nl, zo_nn, zo_rI, zo_rL, zo_rR, zo_rV, Int.add_zero, Int.zero_add, Int.mul_zero, Int.zero_mul, Int.one_mul, Int.mul_one, if_true, if_false, not_true_eq_false, not_false_eq_true]
      refine zz_Ei (fun _ => ?_) (fun h => absurd (Int.le_refl _) h)
      have z26 : zz_w (zz_u (zz_u J2 131 26 (J 132 2 - K)) 131 25 (J2 131 23)) 132 O 131 26 = J 132 2 - K := by rw [zw_n (by omega), zu_k (by omega), zu_s]
      have z25 : zz_w (zz_u (zz_u J2 131 26 (J 132 2 - K)) 131 25 (J2 131 23)) 132 O 131 25 = J2 131 23 := by rw [zw_n (by omega), zu_s]
      refine zz_Er ⟨_, rfl, ⟨fun x x1 x2 x3 => ?_, fun y hy => ?_⟩, ?_, ?_, ?_, ?_⟩
      · rw [zw_n x2, zu_A x1, zu_A x1]
        exact xfd.1 x x1 x2 x3
      · rw [zw_n (by omega), zu_k (by omega), zu_k (by omega)]
        exact xfd.2 y hy
      · rw [zw_s]
        intro y hy
        rw [hO y, if_neg (by omega)]
      · rw [zw_s, oh]
        exact zz_ok_hm hA
      · rw [z26]
        omega
      · rw [zw_s, z26, z25, oh]
        exact Or.inl ⟨h0, K, hlst, Or.inr ⟨by omega, hK1, rfl, rfl, hst (by omega)⟩⟩
  · refine zz_Ei (fun h2' => ?_) (fun h2' => ?_)
    · have r154 := r_154 (T := T) (J := zz_u (zz_u J 131 25 0) 131 26 (J 132 2)) (R := R) (G := G) (d := d - 1) (Y := Y) hL (by rw [f1 _ (by omega)]; exact hA) (by rw [f1 _ (by omega)]; exact hBc) (by omega)
      rw [f1 132 (by omega)] at r154
      simp (maxSteps := 5000000) (disch := first | assumption | omega) only [r154, zr_131_0, zr_131_1, zr_131_2, zr_131_3, zr_131_4, zr_131_5, zr_131_6, zr_131_7, zr_131_8, zg_131_9, zp_131_9, zg_131_10, zp_131_10, zg_131_11, zp_131_11, zg_131_12, zp_131_12, zg_131_13, zp_131_13, zg_131_14, zp_131_14, zr_131_15, zg_131_16, zp_131_16, zg_131_17, zp_131_17, zr_131_18, zr_131_19, zr_131_20, zr_131_21, zr_131_22, zg_131_23, zp_131_23, zr_131_24, zg_131_25, zp_131_25, zg_131_26, zp_131_26, zr_131_27, zr_131_28, zg_131_29, zp_131_29, zg_131_30, zp_131_30, zr_131_31, zr_131_32, zr_131_33, zr_131_34, zr_131_35, zi_131, za_132, zs_132, zl_132, za_133, zs_133, zl_133, za_134, zs_134, zl_134, za_135, zs_135, zl_135, za_136, zs_136, zl_136, za_137, zs_137, zl_137, za_138, zs_138, zl_138, za_139, zs_139, zl_139, za_140, zs_140, zl_140, za_141, zs_141, zl_141, za_142, zs_142, zl_142, za_143, zs_143, zl_143, za_144, zs_144, zl_144, za_145, zs_145, zl_145, za_146, zs_146, zl_146, za_147, zs_147, zl_147, za_148, zs_148, zl_148, za_149, zs_149, zl_149, za_150, zs_150, zl_150, za_151, zs_151, zl_151, za_152, zs_152, zl_152, za_153, zs_153, zl_153, za_154, zs_154, zl_154, zz_0, zz_31, zz_add, zz_sub, zz_mul, zz_neg, zz_lt, zz_le, zz_eq, zz_div, zz_md, zz_dv, zz_abs, zz_max, zz_min, zz_nI, zz_be0, zz_be1, zz_zb, zz_z, zz_l0, zz_l, zz_lcmp, zo_rf, zo_nl, zo_nn, zo_rI, zo_rL, zo_rR, zo_rV, Int.add_zero, Int.zero_add, Int.mul_zero, Int.zero_mul, Int.one_mul, Int.mul_one, if_true, if_false, not_true_eq_false, not_false_eq_true]
      have g1 : ∀ s m x, x ≠ 131 → zz_fm (zz_u (zz_u J 131 25 0) 131 26 (J 132 2)) s m x = J x := fun s m x hx => by
        unfold zz_fm
        rw [zu_A hx, zu_A hx, f1 x hx]
      have g2 : ∀ s m y, y ≠ 16 → y ≠ 17 → zz_fm (zz_u (zz_u J 131 25 0) 131 26 (J 132 2)) s m 131 y = zz_u (zz_u J 131 25 0) 131 26 (J 132 2) 131 y := fun s m y y1 y2 => by
        unfold zz_fm
        rw [zu_k y1, zu_k y2]
      refine zz_Ei (fun h => ?_) (fun h => ?_)
      · have := loop (J 132 3 = 2 ∧ zz_ls (J 132)) (zz_fm (zz_u (zz_u J 131 25 0) 131 26 (J 132 2)) (zz_stn (J 132)) (zz_mk (zz_way (J 132)) 0)) (fun r => ∃ J', r = (none, zz_S T J' R G) ∧ zz_fd J J' ∧ (∀ y, (y < 8 ∨ 24 ≤ y) → J' 132 y = J 132 y) ∧ zz_ok Y (J' 132) ∧ (0 ≤ J' 131 26 ∧ J' 131 26 ≤ 999) ∧ zz_dgd (J 132) (J' 132) (J' 131 26) (J' 131 25)) Iff.rfl h0 (g1 _ _) (fun y hy => by rw [g2 _ _ y (by omega) (by omega), f2 y (by omega) (by omega)]) (by rw [g2 _ _ _ (by omega) (by omega), f26]) (by rw [g2 _ _ _ (by omega) (by omega), f25]) (fun J' p1 p2 p3 p4 p5 => ⟨J', rfl, p1, p2, p3, p4, p5⟩)
        rw [zz_be0] at h
        rw [zz_b_f (fun q => h q.2)] at this
        exact this
      · have := loop (J 132 3 = 2 ∧ zz_ls (J 132)) (zz_fm (zz_u (zz_u J 131 25 0) 131 26 (J 132 2)) (zz_stn (J 132)) (zz_mk (zz_way (J 132)) 0)) (fun r => ∃ J', r = (none, zz_S T J' R G) ∧ zz_fd J J' ∧ (∀ y, (y < 8 ∨ 24 ≤ y) → J' 132 y = J 132 y) ∧ zz_ok Y (J' 132) ∧ (0 ≤ J' 131 26 ∧ J' 131 26 ≤ 999) ∧ zz_dgd (J 132) (J' 132) (J' 131 26) (J' 131 25)) Iff.rfl h0 (g1 _ _) (fun y hy => by rw [g2 _ _ y (by omega) (by omega), f2 y (by omega) (by omega)]) (by rw [g2 _ _ _ (by omega) (by omega), f26]) (by rw [g2 _ _ _ (by omega) (by omega), f25]) (fun J' p1 p2 p3 p4 p5 => ⟨J', rfl, p1, p2, p3, p4, p5⟩)
        rw [zz_be0] at h
        rw [zz_b_t ⟨h2', Classical.not_not.mp h⟩] at this
        exact this
    · have := loop (J 132 3 = 2 ∧ zz_ls (J 132)) (zz_u (zz_u J 131 25 0) 131 26 (J 132 2)) (fun r => ∃ J', r = (none, zz_S T J' R G) ∧ zz_fd J J' ∧ (∀ y, (y < 8 ∨ 24 ≤ y) → J' 132 y = J 132 y) ∧ zz_ok Y (J' 132) ∧ (0 ≤ J' 131 26 ∧ J' 131 26 ≤ 999) ∧ zz_dgd (J 132) (J' 132) (J' 131 26) (J' 131 25)) Iff.rfl h0 f1 (fun y hy => f2 y (by omega) (by omega)) f26 f25 (fun J' p1 p2 p3 p4 p5 => ⟨J', rfl, p1, p2, p3, p4, p5⟩)
      rw [zz_b_f (fun q => h2' q.1)] at this
      exact this
end ZDI3
