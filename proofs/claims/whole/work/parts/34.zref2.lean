/-! PURE LAYER, 3: the reference: rows set, hauls, sums -/
def zz_w (J : Nat → Int → Int) (a : Nat) (A : Int → Int) : Nat → Int → Int := fun x => if x = a then A else J x
def zz_f (A : Int → Int) (k v : Int) : Int → Int := fun y => if y = k then v else A y
theorem zw_s {J : Nat → Int → Int} {a : Nat} {A : Int → Int} : zz_w J a A a = A := if_pos rfl
theorem zw_n {J : Nat → Int → Int} {a x : Nat} {A : Int → Int} (h : x ≠ a) : zz_w J a A x = J x := if_neg h
theorem zf_s {A : Int → Int} {k v : Int} : zz_f A k v k = v := if_pos rfl
theorem zf_n {A : Int → Int} {k v y : Int} (h : y ≠ k) : zz_f A k v y = A y := if_neg h
theorem zz_uw {J : Nat → Int → Int} {a : Nat} {k v : Int} : zz_u J a k v = zz_w J a (zz_f (J a) k v) := by
  funext x y
  unfold zz_u zz_w zz_f
  by_cases h : x = a
  · rw [h, if_pos rfl]
    by_cases h2 : y = k
    · rw [if_pos ⟨rfl, h2⟩, if_pos h2]
    · rw [if_neg (fun q => h2 q.2), if_neg h2]
  · rw [if_neg (fun q => h q.1), if_neg h]
theorem zw_w {J : Nat → Int → Int} {a : Nat} {A B : Int → Int} : zz_w (zz_w J a A) a B = zz_w J a B := by
  funext x
  unfold zz_w
  split
  · rfl
  · rfl
theorem zw_i {J : Nat → Int → Int} {a : Nat} : zz_w J a (J a) = J := by
  funext x
  unfold zz_w
  split
  · rename_i h; rw [h]
  · rfl
def zz_mv (A : Int → Int) (a b : Int) : Int → Int := fun y => if y = 8 + b then A (8 + b) + 1 else if y = 8 + a then A (8 + a) - 1 else A y
theorem zz_mvb {A : Int → Int} {a b : Int} (h : a ≠ b) : zz_mv (zz_mv A a b) b a = A := by
  funext y
  unfold zz_mv
  by_cases h1 : y = 8 + a
  · rw [if_pos h1, if_neg (by omega), if_pos rfl, h1]; omega
  · rw [if_neg h1]
    by_cases h2 : y = 8 + b
    · rw [if_pos h2, if_pos rfl, h2]; omega
    · rw [if_neg h2, if_neg h2, if_neg h1]
def zz_mh (A : Int → Int) (a b : Int) : Prop := a ≠ b ∧ 1 ≤ A (8 + a) ∧ A (8 + b) ≤ 8 ∧ zz_bit (A 6) a = 0 ∧ zz_bit (A 6) b = 0
def zz_hh (A : Int → Int) (a b : Int) : Int := 2 * zz_nr (A 1) a b + max 0 (A (8 + b) - A (8 + a))
def zz_wi (A : Int → Int) (d w h : Int) : Int := max 0 (A (45 + 15 * d + 3 * w) - 10 * ((h - A (44 + 15 * d + 3 * w)).natAbs : Int))
/-- what a land of the heights g is worth to the drawer d; to all -/
def zz_wo (A : Int → Int) (g : Int → Int) (d : Int) : Int := zz_sum (fun w => zz_wi A d w (g (A (43 + 15 * d + 3 * w)))) (A (42 + 15 * d))
def zz_wa (A : Int → Int) (g : Int → Int) : Int := zz_sum (fun d => zz_wo A g d) (A 7)
def zz_of (A : Int → Int) (g : Int → Int) : Int := zz_sum (fun c => if g c < 0 then 0 else ((A (8 + c) - g c).natAbs : Int)) (A 0 * A 1)
section ZRE2
variable {T : List mv_T} {J : Nat → Int → Int} {R : Nat → Nat → Option Nat} {G : Nat → Nat → Int64} {d : Nat} {Y : Int}
theorem zz_wo_b {A g : Int → Int} {e : Int} (h : zz_dok A e) : 0 ≤ zz_wo A g e ∧ zz_wo A g e ≤ 396 := by
  have h3 := h.2.2.1
  have := zz_sum_b (f := fun w => zz_wi A e w (g (A (43 + 15 * e + 3 * w)))) (a := 0) (b := 99) h3.1 (by
    intro i h1 h2
    have := (h.2.2.2 i h1 h2).2.2
    show 0 ≤ max 0 _ ∧ max 0 _ ≤ 99
    omega)
  unfold zz_wo
  omega
theorem zz_wa_b {A g : Int → Int} (hA : zz_ok Y A) : 0 ≤ zz_wa A g ∧ zz_wa A g ≤ 2376 := by
  have h3 := hA.2.2.2.2.2.2.1
  have := zz_sum_b (f := fun d => zz_wo A g d) (a := 0) (b := 396) h3.1 (fun i h1 h2 => zz_wo_b (hA.2.2.2.2.2.2.2.2 i h1 h2))
  unfold zz_wa
  omega
theorem r_164 {a b : Int} (hd : 2 ≤ d) (hL : ZL T R) (hA : zz_ok Y (J 132)) (h1 : 0 ≤ a) (h2 : a < J 132 0 * J 132 1) (h3 : 0 ≤ b) (h4 : b < J 132 0 * J 132 1) : mv_cax d 164 [.inr (.inr (some 131)), .inl (mv_c a), .inl (mv_c b)] (zz_S T J R G) = some (some (.inl (mv_c (zz_b (zz_mh (J 132) a b)))), (zz_S T J R G)) := by
  have hn := hA.n
  have ha := (hA.2.2.2.2.2.2.2.1 a h1 h2).1
  have hb := (hA.2.2.2.2.2.2.2.1 b h3 h4).1
  have z1 := zz_bit01 (J 132 6) a
  have z2 := zz_bit01 (J 132 6) b
  unfold zz_mh
  refine zz_c (zz_call (by omega) t_164 rfl (fun n => e_164 _ _ _ _) ?_)
  simp (disch := first | assumption | omega) only [r_142 (Y := Y), zr_131_0, zr_131_1, zr_131_2, zr_131_3, zr_131_4, zr_131_5, zr_131_6, zr_131_7, zr_131_8, zg_131_9, zp_131_9, zg_131_10, zp_131_10, zg_131_11, zp_131_11, zg_131_12, zp_131_12, zg_131_13, zp_131_13, zg_131_14, zp_131_14, zr_131_15, zg_131_16, zp_131_16, zg_131_17, zp_131_17, zr_131_18, zr_131_19, zr_131_20, zr_131_21, zr_131_22, zg_131_23, zp_131_23, zr_131_24, zg_131_25, zp_131_25, zg_131_26, zp_131_26, zr_131_27, zr_131_28, zg_131_29, zp_131_29, zg_131_30, zp_131_30, zr_131_31, zr_131_32, zr_131_33, zr_131_34, zr_131_35, zi_131, za_132, zs_132, zl_132, za_133, zs_133, zl_133, za_134, zs_134, zl_134, za_135, zs_135, zl_135, za_136, zs_136, zl_136, za_137, zs_137, zl_137, za_138, zs_138, zl_138, za_139, zs_139, zl_139, za_140, zs_140, zl_140, za_141, zs_141, zl_141, za_142, zs_142, zl_142, za_143, zs_143, zl_143, za_144, zs_144, zl_144, za_145, zs_145, zl_145, za_146, zs_146, zl_146, za_147, zs_147, zl_147, za_148, zs_148, zl_148, za_149, zs_149, zl_149, za_150, zs_150, zl_150, za_151, zs_151, zl_151, za_152, zs_152, zl_152, za_153, zs_153, zl_153, za_154, zs_154, zl_154, zz_0, zz_31, zz_add, zz_sub, zz_mul, zz_neg, zz_lt, zz_le, zz_eq, zz_div, zz_md, zz_dv, zz_abs, zz_max, zz_min, zz_nI, zz_be0, zz_be1, zz_zb, zz_z, zz_l0, zz_l, zz_lcmp, zo_rf, zo_nl, zo_nn, zo_rI, zo_rL, zo_rR, zo_rV, Int.add_zero, Int.zero_add, Int.mul_zero, Int.zero_mul, Int.one_mul, Int.mul_one, if_true, if_false, not_true_eq_false, not_false_eq_true]
  repeat' (first | (refine zz_Ei (fun _ => ?_) (fun _ => ?_)) | (exact zz_Er (by first | rfl | (rw [zz_b_t (by omega)]) | (rw [zz_b_f (by omega)]))))
theorem r_165 {a b : Int} (hd : 3 ≤ d) (hL : ZL T R) (hA : zz_ok Y (J 132)) (h1 : 0 ≤ a) (h2 : a < J 132 0 * J 132 1) (h3 : 0 ≤ b) (h4 : b < J 132 0 * J 132 1) : mv_cax d 165 [.inr (.inr (some 131)), .inl (mv_c a), .inl (mv_c b)] (zz_S T J R G) = some (some (.inl (mv_c (zz_hh (J 132) a b))), (zz_S T J R G)) := by
  have hn := hA.n
  have h0 := hA.1
  have ha := (hA.2.2.2.2.2.2.2.1 a h1 h2).1
  have hb := (hA.2.2.2.2.2.2.2.1 b h3 h4).1
  unfold zz_hh
  refine zz_c (zz_call (by omega) t_165 rfl (fun n => e_165 _ _ _ _) ?_)
  simp (disch := first | assumption | omega) only [r_143 (Y := Y), zr_131_0, zr_131_1, zr_131_2, zr_131_3, zr_131_4, zr_131_5, zr_131_6, zr_131_7, zr_131_8, zg_131_9, zp_131_9, zg_131_10, zp_131_10, zg_131_11, zp_131_11, zg_131_12, zp_131_12, zg_131_13, zp_131_13, zg_131_14, zp_131_14, zr_131_15, zg_131_16, zp_131_16, zg_131_17, zp_131_17, zr_131_18, zr_131_19, zr_131_20, zr_131_21, zr_131_22, zg_131_23, zp_131_23, zr_131_24, zg_131_25, zp_131_25, zg_131_26, zp_131_26, zr_131_27, zr_131_28, zg_131_29, zp_131_29, zg_131_30, zp_131_30, zr_131_31, zr_131_32, zr_131_33, zr_131_34, zr_131_35, zi_131, za_132, zs_132, zl_132, za_133, zs_133, zl_133, za_134, zs_134, zl_134, za_135, zs_135, zl_135, za_136, zs_136, zl_136, za_137, zs_137, zl_137, za_138, zs_138, zl_138, za_139, zs_139, zl_139, za_140, zs_140, zl_140, za_141, zs_141, zl_141, za_142, zs_142, zl_142, za_143, zs_143, zl_143, za_144, zs_144, zl_144, za_145, zs_145, zl_145, za_146, zs_146, zl_146, za_147, zs_147, zl_147, za_148, zs_148, zl_148, za_149, zs_149, zl_149, za_150, zs_150, zl_150, za_151, zs_151, zl_151, za_152, zs_152, zl_152, za_153, zs_153, zl_153, za_154, zs_154, zl_154, zz_0, zz_31, zz_add, zz_sub, zz_mul, zz_neg, zz_lt, zz_le, zz_eq, zz_div, zz_md, zz_dv, zz_abs, zz_max, zz_min, zz_nI, zz_be0, zz_be1, zz_zb, zz_z, zz_l0, zz_l, zz_lcmp, zo_rf, zo_nl, zo_nn, zo_rI, zo_rL, zo_rR, zo_rV, Int.add_zero, Int.zero_add, Int.mul_zero, Int.zero_mul, Int.one_mul, Int.mul_one, if_true, if_false, not_true_eq_false, not_false_eq_true]
  refine zz_Ei (fun h => ?_) (fun h => ?_)
  · exact zz_Er (by rw [Int.max_eq_left (by omega), Int.add_zero])
  · exact zz_Er (by rw [Int.max_eq_right (by omega)])
theorem r_166 {a b : Int} (hd : 1 ≤ d) (hL : ZL T R) (hn : a ≠ b) (h1 : 0 ≤ a) (h2 : a < 16) (h3 : 0 ≤ b) (h4 : b < 16) : mv_cax d 166 [.inr (.inr (some 131)), .inl (mv_c a), .inl (mv_c b)] (zz_S T J R G) = some (none, zz_S T (zz_w J 132 (zz_mv (J 132) a b)) R G) := by
  refine zz_c (zz_call (by omega) t_166 rfl (fun n => e_166 _ _ _ _) ?_)
  simp (disch := first | assumption | omega) only [zz_uw, zw_s, zw_w, zf_n, zr_131_0, zr_131_1, zr_131_2, zr_131_3, zr_131_4, zr_131_5, zr_131_6, zr_131_7, zr_131_8, zg_131_9, zp_131_9, zg_131_10, zp_131_10, zg_131_11, zp_131_11, zg_131_12, zp_131_12, zg_131_13, zp_131_13, zg_131_14, zp_131_14, zr_131_15, zg_131_16, zp_131_16, zg_131_17, zp_131_17, zr_131_18, zr_131_19, zr_131_20, zr_131_21, zr_131_22, zg_131_23, zp_131_23, zr_131_24, zg_131_25, zp_131_25, zg_131_26, zp_131_26, zr_131_27, zr_131_28, zg_131_29, zp_131_29, zg_131_30, zp_131_30, zr_131_31, zr_131_32, zr_131_33, zr_131_34, zr_131_35, zi_131, za_132, zs_132, zl_132, za_133, zs_133, zl_133, za_134, zs_134, zl_134, za_135, zs_135, zl_135, za_136, zs_136, zl_136, za_137, zs_137, zl_137, za_138, zs_138, zl_138, za_139, zs_139, zl_139, za_140, zs_140, zl_140, za_141, zs_141, zl_141, za_142, zs_142, zl_142, za_143, zs_143, zl_143, za_144, zs_144, zl_144, za_145, zs_145, zl_145, za_146, zs_146, zl_146, za_147, zs_147, zl_147, za_148, zs_148, zl_148, za_149, zs_149, zl_149, za_150, zs_150, zl_150, za_151, zs_151, zl_151, za_152, zs_152, zl_152, za_153, zs_153, zl_153, za_154, zs_154, zl_154, zz_0, zz_31, zz_add, zz_sub, zz_mul, zz_neg, zz_lt, zz_le, zz_eq, zz_div, zz_md, zz_dv, zz_abs, zz_max, zz_min, zz_nI, zz_be0, zz_be1, zz_zb, zz_z, zz_l0, zz_l, zz_lcmp, zo_rf, zo_nl, zo_nn, zo_rI, zo_rL, zo_rR, zo_rV, Int.add_zero, Int.zero_add, Int.mul_zero, Int.zero_mul, Int.one_mul, Int.mul_one, if_true, if_false, not_true_eq_false, not_false_eq_true]
  exact zz_Er rfl
theorem r_177 {a : Int} (hd : 2 ≤ d) (hL : ZL T R) (hA : zz_ok Y (J 132)) (h1 : 0 ≤ a) (h2 : a < J 132 0 * J 132 1) : mv_cax d 177 [.inr (.inr (some 131)), .inl (mv_c a)] (zz_S T J R G) = some (some (.inl (mv_c (zz_b (0 ≤ J 132 (24 + a) ∧ J 132 (24 + a) < J 132 (8 + a) ∧ zz_bit (J 132 6) a = 0)))), (zz_S T J R G)) := by
  have hn := hA.n
  have ha := hA.2.2.2.2.2.2.2.1 a h1 h2
  have z1 := zz_bit01 (J 132 6) a
  refine zz_c (zz_call (by omega) t_177 rfl (fun n => e_177 _ _ _) ?_)
  simp (disch := first | assumption | omega) only [r_142 (Y := Y), zr_131_0, zr_131_1, zr_131_2, zr_131_3, zr_131_4, zr_131_5, zr_131_6, zr_131_7, zr_131_8, zg_131_9, zp_131_9, zg_131_10, zp_131_10, zg_131_11, zp_131_11, zg_131_12, zp_131_12, zg_131_13, zp_131_13, zg_131_14, zp_131_14, zr_131_15, zg_131_16, zp_131_16, zg_131_17, zp_131_17, zr_131_18, zr_131_19, zr_131_20, zr_131_21, zr_131_22, zg_131_23, zp_131_23, zr_131_24, zg_131_25, zp_131_25, zg_131_26, zp_131_26, zr_131_27, zr_131_28, zg_131_29, zp_131_29, zg_131_30, zp_131_30, zr_131_31, zr_131_32, zr_131_33, zr_131_34, zr_131_35, zi_131, za_132, zs_132, zl_132, za_133, zs_133, zl_133, za_134, zs_134, zl_134, za_135, zs_135, zl_135, za_136, zs_136, zl_136, za_137, zs_137, zl_137, za_138, zs_138, zl_138, za_139, zs_139, zl_139, za_140, zs_140, zl_140, za_141, zs_141, zl_141, za_142, zs_142, zl_142, za_143, zs_143, zl_143, za_144, zs_144, zl_144, za_145, zs_145, zl_145, za_146, zs_146, zl_146, za_147, zs_147, zl_147, za_148, zs_148, zl_148, za_149, zs_149, zl_149, za_150, zs_150, zl_150, za_151, zs_151, zl_151, za_152, zs_152, zl_152, za_153, zs_153, zl_153, za_154, zs_154, zl_154, zz_0, zz_31, zz_add, zz_sub, zz_mul, zz_neg, zz_lt, zz_le, zz_eq, zz_div, zz_md, zz_dv, zz_abs, zz_max, zz_min, zz_nI, zz_be0, zz_be1, zz_zb, zz_z, zz_l0, zz_l, zz_lcmp, zo_rf, zo_nl, zo_nn, zo_rI, zo_rL, zo_rR, zo_rV, Int.add_zero, Int.zero_add, Int.mul_zero, Int.zero_mul, Int.one_mul, Int.mul_one, if_true, if_false, not_true_eq_false, not_false_eq_true]
  repeat' (first | (refine zz_Ei (fun _ => ?_) (fun _ => ?_)) | (exact zz_Er (by first | rfl | (rw [zz_b_t (by omega)]) | (rw [zz_b_f (by omega)]))))
theorem r_178 {a : Int} (hd : 2 ≤ d) (hL : ZL T R) (hA : zz_ok Y (J 132)) (h1 : 0 ≤ a) (h2 : a < J 132 0 * J 132 1) : mv_cax d 178 [.inr (.inr (some 131)), .inl (mv_c a)] (zz_S T J R G) = some (some (.inl (mv_c (zz_b (0 ≤ J 132 (24 + a) ∧ J 132 (8 + a) < J 132 (24 + a) ∧ zz_bit (J 132 6) a = 0)))), (zz_S T J R G)) := by
  have hn := hA.n
  have ha := hA.2.2.2.2.2.2.2.1 a h1 h2
  have z1 := zz_bit01 (J 132 6) a
  refine zz_c (zz_call (by omega) t_178 rfl (fun n => e_178 _ _ _) ?_)
  simp (disch := first | assumption | omega) only [r_142 (Y := Y), zr_131_0, zr_131_1, zr_131_2, zr_131_3, zr_131_4, zr_131_5, zr_131_6, zr_131_7, zr_131_8, zg_131_9, zp_131_9, zg_131_10, zp_131_10, zg_131_11, zp_131_11, zg_131_12, zp_131_12, zg_131_13, zp_131_13, zg_131_14, zp_131_14, zr_131_15, zg_131_16, zp_131_16, zg_131_17, zp_131_17, zr_131_18, zr_131_19, zr_131_20, zr_131_21, zr_131_22, zg_131_23, zp_131_23, zr_131_24, zg_131_25, zp_131_25, zg_131_26, zp_131_26, zr_131_27, zr_131_28, zg_131_29, zp_131_29, zg_131_30, zp_131_30, zr_131_31, zr_131_32, zr_131_33, zr_131_34, zr_131_35, zi_131, za_132, zs_132, zl_132, za_133, zs_133, zl_133, za_134, zs_134, zl_134, za_135, zs_135, zl_135, za_136, zs_136, zl_136, za_137, zs_137, zl_137, za_138, zs_138, zl_138, za_139, zs_139, zl_139, za_140, zs_140, zl_140, za_141, zs_141, zl_141, za_142, zs_142, zl_142, za_143, zs_143, zl_143, za_144, zs_144, zl_144, za_145, zs_145, zl_145, za_146, zs_146, zl_146, za_147, zs_147, zl_147, za_148, zs_148, zl_148, za_149, zs_149, zl_149, za_150, zs_150, zl_150, za_151, zs_151, zl_151, za_152, zs_152, zl_152, za_153, zs_153, zl_153, za_154, zs_154, zl_154, zz_0, zz_31, zz_add, zz_sub, zz_mul, zz_neg, zz_lt, zz_le, zz_eq, zz_div, zz_md, zz_dv, zz_abs, zz_max, zz_min, zz_nI, zz_be0, zz_be1, zz_zb, zz_z, zz_l0, zz_l, zz_lcmp, zo_rf, zo_nl, zo_nn, zo_rI, zo_rL, zo_rR, zo_rV, Int.add_zero, Int.zero_add, Int.mul_zero, Int.zero_mul, Int.one_mul, Int.mul_one, if_true, if_false, not_true_eq_false, not_false_eq_true]
  repeat' (first | (refine zz_Ei (fun _ => ?_) (fun _ => ?_)) | (exact zz_Er (by first | rfl | (rw [zz_b_t (by omega)]) | (rw [zz_b_f (by omega)]))))
theorem r_199 {a : Int} (hd : 1 ≤ d) (hL : ZL T R) (hA : zz_ok Y (J 132)) (h1 : 0 ≤ a) (h2 : a < J 132 0 * J 132 1) : mv_cax d 199 [.inr (.inr (some 131)), .inl (mv_c a)] (zz_S T J R G) = some (some (.inl (mv_c (if J 132 (24 + a) < 0 then J 132 (8 + a) else J 132 (24 + a)))), (zz_S T J R G)) := by
  have hn := hA.n
  have ha := hA.2.2.2.2.2.2.2.1 a h1 h2
  refine zz_c (zz_call (by omega) t_199 rfl (fun n => e_199 _ _ _) ?_)
  simp (disch := first | assumption | omega) only [zr_131_0, zr_131_1, zr_131_2, zr_131_3, zr_131_4, zr_131_5, zr_131_6, zr_131_7, zr_131_8, zg_131_9, zp_131_9, zg_131_10, zp_131_10, zg_131_11, zp_131_11, zg_131_12, zp_131_12, zg_131_13, zp_131_13, zg_131_14, zp_131_14, zr_131_15, zg_131_16, zp_131_16, zg_131_17, zp_131_17, zr_131_18, zr_131_19, zr_131_20, zr_131_21, zr_131_22, zg_131_23, zp_131_23, zr_131_24, zg_131_25, zp_131_25, zg_131_26, zp_131_26, zr_131_27, zr_131_28, zg_131_29, zp_131_29, zg_131_30, zp_131_30, zr_131_31, zr_131_32, zr_131_33, zr_131_34, zr_131_35, zi_131, za_132, zs_132, zl_132, za_133, zs_133, zl_133, za_134, zs_134, zl_134, za_135, zs_135, zl_135, za_136, zs_136, zl_136, za_137, zs_137, zl_137, za_138, zs_138, zl_138, za_139, zs_139, zl_139, za_140, zs_140, zl_140, za_141, zs_141, zl_141, za_142, zs_142, zl_142, za_143, zs_143, zl_143, za_144, zs_144, zl_144, za_145, zs_145, zl_145, za_146, zs_146, zl_146, za_147, zs_147, zl_147, za_148, zs_148, zl_148, za_149, zs_149, zl_149, za_150, zs_150, zl_150, za_151, zs_151, zl_151, za_152, zs_152, zl_152, za_153, zs_153, zl_153, za_154, zs_154, zl_154, zz_0, zz_31, zz_add, zz_sub, zz_mul, zz_neg, zz_lt, zz_le, zz_eq, zz_div, zz_md, zz_dv, zz_abs, zz_max, zz_min, zz_nI, zz_be0, zz_be1, zz_zb, zz_z, zz_l0, zz_l, zz_lcmp, zo_rf, zo_nl, zo_nn, zo_rI, zo_rL, zo_rR, zo_rV, Int.add_zero, Int.zero_add, Int.mul_zero, Int.zero_mul, Int.one_mul, Int.mul_one, if_true, if_false, not_true_eq_false, not_false_eq_true]
  refine zz_Ei (fun h => ?_) (fun h => ?_)
  · exact zz_Er (by rw [if_neg (by omega)])
  · exact zz_Er (by rw [if_pos (by omega)])
theorem r_140_2 {c : Int} (hd : 1 ≤ d) (hL : ZL T R) (h1 : 0 ≤ c) (h2 : c < 6) : mv_cax d 140 [.inr (.inr (some 131)), .inl (mv_c c), .inl (mv_c 2)] (zz_S T J R G) = some (some (.inl (mv_c (J 132 (42 + 15 * c)))), (zz_S T J R G)) := by
  rw [r_140 hd hL h1 h2 (by omega) (by omega), show 40 + 15 * c + 2 = 42 + 15 * c by omega]
theorem r_140_0 {c : Int} (hd : 1 ≤ d) (hL : ZL T R) (h1 : 0 ≤ c) (h2 : c < 6) : mv_cax d 140 [.inr (.inr (some 131)), .inl (mv_c c), .inl (mv_c 0)] (zz_S T J R G) = some (some (.inl (mv_c (J 132 (40 + 15 * c)))), (zz_S T J R G)) := by
  rw [r_140 hd hL h1 h2 (by omega) (by omega), show 40 + 15 * c + 0 = 40 + 15 * c by omega]
theorem r_140_1 {c : Int} (hd : 1 ≤ d) (hL : ZL T R) (h1 : 0 ≤ c) (h2 : c < 6) : mv_cax d 140 [.inr (.inr (some 131)), .inl (mv_c c), .inl (mv_c 1)] (zz_S T J R G) = some (some (.inl (mv_c (J 132 (41 + 15 * c)))), (zz_S T J R G)) := by
  rw [r_140 hd hL h1 h2 (by omega) (by omega), show 40 + 15 * c + 1 = 41 + 15 * c by omega]
theorem r_140_3 {c w : Int} (hd : 1 ≤ d) (hL : ZL T R) (h1 : 0 ≤ c) (h2 : c < 6) (h3 : 0 ≤ w) (h4 : w < 4) : mv_cax d 140 [.inr (.inr (some 131)), .inl (mv_c c), .inl (mv_c (3 + 3 * w))] (zz_S T J R G) = some (some (.inl (mv_c (J 132 (43 + 15 * c + 3 * w)))), (zz_S T J R G)) := by
  rw [r_140 hd hL h1 h2 (by omega) (by omega), show 40 + 15 * c + (3 + 3 * w) = 43 + 15 * c + 3 * w by omega]
theorem r_140_4 {c w : Int} (hd : 1 ≤ d) (hL : ZL T R) (h1 : 0 ≤ c) (h2 : c < 6) (h3 : 0 ≤ w) (h4 : w < 4) : mv_cax d 140 [.inr (.inr (some 131)), .inl (mv_c c), .inl (mv_c (4 + 3 * w))] (zz_S T J R G) = some (some (.inl (mv_c (J 132 (44 + 15 * c + 3 * w)))), (zz_S T J R G)) := by
  rw [r_140 hd hL h1 h2 (by omega) (by omega), show 40 + 15 * c + (4 + 3 * w) = 44 + 15 * c + 3 * w by omega]
theorem r_140_5 {c w : Int} (hd : 1 ≤ d) (hL : ZL T R) (h1 : 0 ≤ c) (h2 : c < 6) (h3 : 0 ≤ w) (h4 : w < 4) : mv_cax d 140 [.inr (.inr (some 131)), .inl (mv_c c), .inl (mv_c (5 + 3 * w))] (zz_S T J R G) = some (some (.inl (mv_c (J 132 (45 + 15 * c + 3 * w)))), (zz_S T J R G)) := by
  rw [r_140 hd hL h1 h2 (by omega) (by omega), show 40 + 15 * c + (5 + 3 * w) = 45 + 15 * c + 3 * w by omega]
theorem r_181 {e : Int} (hd : 2 ≤ d) (hL : ZL T R) (hA : zz_ok Y (J 132)) (h1 : 0 ≤ e) (h2 : e < J 132 7) : mv_cax d 181 [.inr (.inr (some 131)), .inl (mv_c e)] (zz_S T J R G) = some (some (.inl (mv_c (zz_wo (J 132) (fun c => J 132 (8 + c)) e))), (zz_S T J R G)) := by
  have h7 := hA.2.2.2.2.2.2.1
  have hD := hA.2.2.2.2.2.2.2.2 e h1 h2
  have h3 := hD.2.2.1
  have hn := hA.n
  refine zz_c (zz_call (by omega) t_181 rfl (fun n => e_181 _ _ _) ?_)
  refine zz_loop (run := fun w s n => mv_run (mv_cax (d - 1)) mm_181 n 4 [(0, .inr (.inr (some 131))), (1, .inl (mv_c e)), (2, .inl (mv_c s)), (3, .inl (mv_c w))] [] (zz_S T J R G)) (J 132 (42 + 15 * e)) (fun w s => 0 ≤ w ∧ s = zz_sum (fun w => zz_wi (J 132) e w (J 132 (8 + J 132 (43 + 15 * e + 3 * w)))) w) ?_ ?_ (J 132 (42 + 15 * e)).toNat 0 0 (by omega) ⟨by omega, rfl⟩
  · rintro w s ⟨hw, rfl⟩ hlt k
    have hW := hD.2.2.2 w hw hlt
    have hH := (hA.2.2.2.2.2.2.2.1 _ hW.1.1 hW.1.2).1
    refine zz_Es (fun n => e_181_4 _ _ _ _ _) ?_
    simp (disch := first | assumption | omega) only [r_140_2, r_140_3, r_140_4, r_140_5, r_139, zr_131_0, zr_131_1, zr_131_2, zr_131_3, zr_131_4, zr_131_5, zr_131_6, zr_131_7, zr_131_8, zg_131_9, zp_131_9, zg_131_10, zp_131_10, zg_131_11, zp_131_11, zg_131_12, zp_131_12, zg_131_13, zp_131_13, zg_131_14, zp_131_14, zr_131_15, zg_131_16, zp_131_16, zg_131_17, zp_131_17, zr_131_18, zr_131_19, zr_131_20, zr_131_21, zr_131_22, zg_131_23, zp_131_23, zr_131_24, zg_131_25, zp_131_25, zg_131_26, zp_131_26, zr_131_27, zr_131_28, zg_131_29, zp_131_29, zg_131_30, zp_131_30, zr_131_31, zr_131_32, zr_131_33, zr_131_34, zr_131_35, zi_131, za_132, zs_132, zl_132, za_133, zs_133, zl_133, za_134, zs_134, zl_134, za_135, zs_135, zl_135, za_136, zs_136, zl_136, za_137, zs_137, zl_137, za_138, zs_138, zl_138, za_139, zs_139, zl_139, za_140, zs_140, zl_140, za_141, zs_141, zl_141, za_142, zs_142, zl_142, za_143, zs_143, zl_143, za_144, zs_144, zl_144, za_145, zs_145, zl_145, za_146, zs_146, zl_146, za_147, zs_147, zl_147, za_148, zs_148, zl_148, za_149, zs_149, zl_149, za_150, zs_150, zl_150, za_151, zs_151, zl_151, za_152, zs_152, zl_152, za_153, zs_153, zl_153, za_154, zs_154, zl_154, zz_0, zz_31, zz_add, zz_sub, zz_mul, zz_neg, zz_lt, zz_le, zz_eq, zz_div, zz_md, zz_dv, zz_abs, zz_max, zz_min, zz_nI, zz_be0, zz_be1, zz_zb, zz_z, zz_l0, zz_l, zz_lcmp, zo_rf, zo_nl, zo_nn, zo_rI, zo_rL, zo_rR, zo_rV, Int.add_zero, Int.zero_add, Int.mul_zero, Int.zero_mul, Int.one_mul, Int.mul_one, if_true, if_false, not_true_eq_false, not_false_eq_true]
    refine zz_Ei (fun h => absurd h (by omega)) (fun _ => ?_)
    have e1 : zz_sum (fun w => zz_wi (J 132) e w (J 132 (8 + J 132 (43 + 15 * e + 3 * w)))) (w + 1) = zz_sum (fun w => zz_wi (J 132) e w (J 132 (8 + J 132 (43 + 15 * e + 3 * w)))) w + max 0 (J 132 (45 + 15 * e + 3 * w) - 10 * ((J 132 (8 + J 132 (43 + 15 * e + 3 * w)) - J 132 (44 + 15 * e + 3 * w)).natAbs : Int)) := zz_sum1 hw
    refine zz_Ei (fun h => ?_) (fun h => ?_)
    · exact k _ ⟨by omega, by rw [e1, Int.max_eq_left (by omega), Int.add_zero]⟩
    · exact k _ ⟨by omega, by rw [e1, Int.max_eq_right (by omega)]⟩
  · rintro s ⟨hw, rfl⟩
    refine zz_Es (fun n => e_181_4 _ _ _ _ _) ?_
    simp (disch := first | assumption | omega) only [r_140_2, r_140_3, r_140_4, r_140_5, r_139, zr_131_0, zr_131_1, zr_131_2, zr_131_3, zr_131_4, zr_131_5, zr_131_6, zr_131_7, zr_131_8, zg_131_9, zp_131_9, zg_131_10, zp_131_10, zg_131_11, zp_131_11, zg_131_12, zp_131_12, zg_131_13, zp_131_13, zg_131_14, zp_131_14, zr_131_15, zg_131_16, zp_131_16, zg_131_17, zp_131_17, zr_131_18, zr_131_19, zr_131_20, zr_131_21, zr_131_22, zg_131_23, zp_131_23, zr_131_24, zg_131_25, zp_131_25, zg_131_26, zp_131_26, zr_131_27, zr_131_28, zg_131_29, zp_131_29, zg_131_30, zp_131_30, zr_131_31, zr_131_32, zr_131_33, zr_131_34, zr_131_35, zi_131, za_132, zs_132, zl_132, za_133, zs_133, zl_133, za_134, zs_134, zl_134, za_135, zs_135, zl_135, za_136, zs_136, zl_136, za_137, zs_137, zl_137, za_138, zs_138, zl_138, za_139, zs_139, zl_139, za_140, zs_140, zl_140, za_141, zs_141, zl_141, za_142, zs_142, zl_142, za_143, zs_143, zl_143, za_144, zs_144, zl_144, za_145, zs_145, zl_145, za_146, zs_146, zl_146, za_147, zs_147, zl_147, za_148, zs_148, zl_148, za_149, zs_149, zl_149, za_150, zs_150, zl_150, za_151, zs_151, zl_151, za_152, zs_152, zl_152, za_153, zs_153, zl_153, za_154, zs_154, zl_154, zz_0, zz_31, zz_add, zz_sub, zz_mul, zz_neg, zz_lt, zz_le, zz_eq, zz_div, zz_md, zz_dv, zz_abs, zz_max, zz_min, zz_nI, zz_be0, zz_be1, zz_zb, zz_z, zz_l0, zz_l, zz_lcmp, zo_rf, zo_nl, zo_nn, zo_rI, zo_rL, zo_rR, zo_rV, Int.add_zero, Int.zero_add, Int.mul_zero, Int.zero_mul, Int.one_mul, Int.mul_one, if_true, if_false, not_true_eq_false, not_false_eq_true]
    refine zz_Ei (fun _ => ?_) (fun h => absurd (Int.le_refl _) h)
    exact zz_Er rfl
theorem r_182 (hd : 3 ≤ d) (hL : ZL T R) (hA : zz_ok Y (J 132)) : mv_cax d 182 [.inr (.inr (some 131))] (zz_S T J R G) = some (some (.inl (mv_c (zz_wa (J 132) (fun c => J 132 (8 + c))))), (zz_S T J R G)) := by
  have h7 := hA.2.2.2.2.2.2.1
  refine zz_c (zz_call (by omega) t_182 rfl (fun n => e_182 _ _) ?_)
  refine zz_loop (run := fun w s n => mv_run (mv_cax (d - 1)) mm_182 n 4 [(0, .inr (.inr (some 131))), (1, .inl (mv_c s)), (2, .inl (mv_c w))] [] (zz_S T J R G)) (J 132 7) (fun w s => 0 ≤ w ∧ s = zz_sum (fun e => zz_wo (J 132) (fun c => J 132 (8 + c)) e) w) ?_ ?_ (J 132 7).toNat 0 0 (by omega) ⟨by omega, rfl⟩
  · rintro w s ⟨hw, rfl⟩ hlt k
    refine zz_Es (fun n => e_182_4 _ _ _ _) ?_
    simp (disch := first | assumption | omega) only [r_181 (Y := Y), zr_131_0, zr_131_1, zr_131_2, zr_131_3, zr_131_4, zr_131_5, zr_131_6, zr_131_7, zr_131_8, zg_131_9, zp_131_9, zg_131_10, zp_131_10, zg_131_11, zp_131_11, zg_131_12, zp_131_12, zg_131_13, zp_131_13, zg_131_14, zp_131_14, zr_131_15, zg_131_16, zp_131_16, zg_131_17, zp_131_17, zr_131_18, zr_131_19, zr_131_20, zr_131_21, zr_131_22, zg_131_23, zp_131_23, zr_131_24, zg_131_25, zp_131_25, zg_131_26, zp_131_26, zr_131_27, zr_131_28, zg_131_29, zp_131_29, zg_131_30, zp_131_30, zr_131_31, zr_131_32, zr_131_33, zr_131_34, zr_131_35, zi_131, za_132, zs_132, zl_132, za_133, zs_133, zl_133, za_134, zs_134, zl_134, za_135, zs_135, zl_135, za_136, zs_136, zl_136, za_137, zs_137, zl_137, za_138, zs_138, zl_138, za_139, zs_139, zl_139, za_140, zs_140, zl_140, za_141, zs_141, zl_141, za_142, zs_142, zl_142, za_143, zs_143, zl_143, za_144, zs_144, zl_144, za_145, zs_145, zl_145, za_146, zs_146, zl_146, za_147, zs_147, zl_147, za_148, zs_148, zl_148, za_149, zs_149, zl_149, za_150, zs_150, zl_150, za_151, zs_151, zl_151, za_152, zs_152, zl_152, za_153, zs_153, zl_153, za_154, zs_154, zl_154, zz_0, zz_31, zz_add, zz_sub, zz_mul, zz_neg, zz_lt, zz_le, zz_eq, zz_div, zz_md, zz_dv, zz_abs, zz_max, zz_min, zz_nI, zz_be0, zz_be1, zz_zb, zz_z, zz_l0, zz_l, zz_lcmp, zo_rf, zo_nl, zo_nn, zo_rI, zo_rL, zo_rR, zo_rV, Int.add_zero, Int.zero_add, Int.mul_zero, Int.zero_mul, Int.one_mul, Int.mul_one, if_true, if_false, not_true_eq_false, not_false_eq_true]
    refine zz_Ei (fun h => absurd h (by omega)) (fun _ => ?_)
    exact k _ ⟨by omega, (zz_sum1 hw).symm⟩
  · rintro s ⟨hw, rfl⟩
    refine zz_Es (fun n => e_182_4 _ _ _ _) ?_
    simp (disch := first | assumption | omega) only [zr_131_0, zr_131_1, zr_131_2, zr_131_3, zr_131_4, zr_131_5, zr_131_6, zr_131_7, zr_131_8, zg_131_9, zp_131_9, zg_131_10, zp_131_10, zg_131_11, zp_131_11, zg_131_12, zp_131_12, zg_131_13, zp_131_13, zg_131_14, zp_131_14, zr_131_15, zg_131_16, zp_131_16, zg_131_17, zp_131_17, zr_131_18, zr_131_19, zr_131_20, zr_131_21, zr_131_22, zg_131_23, zp_131_23, zr_131_24, zg_131_25, zp_131_25, zg_131_26, zp_131_26, zr_131_27, zr_131_28, zg_131_29, zp_131_29, zg_131_30, zp_131_30, zr_131_31, zr_131_32, zr_131_33, zr_131_34, zr_131_35, zi_131, za_132, zs_132, zl_132, za_133, zs_133, zl_133, za_134, zs_134, zl_134, za_135, zs_135, zl_135, za_136, zs_136, zl_136, za_137, zs_137, zl_137, za_138, zs_138, zl_138, za_139, zs_139, zl_139, za_140, zs_140, zl_140, za_141, zs_141, zl_141, za_142, zs_142, zl_142, za_143, zs_143, zl_143, za_144, zs_144, zl_144, za_145, zs_145, zl_145, za_146, zs_146, zl_146, za_147, zs_147, zl_147, za_148, zs_148, zl_148, za_149, zs_149, zl_149, za_150, zs_150, zl_150, za_151, zs_151, zl_151, za_152, zs_152, zl_152, za_153, zs_153, zl_153, za_154, zs_154, zl_154, zz_0, zz_31, zz_add, zz_sub, zz_mul, zz_neg, zz_lt, zz_le, zz_eq, zz_div, zz_md, zz_dv, zz_abs, zz_max, zz_min, zz_nI, zz_be0, zz_be1, zz_zb, zz_z, zz_l0, zz_l, zz_lcmp, zo_rf, zo_nl, zo_nn, zo_rI, zo_rL, zo_rR, zo_rV, Int.add_zero, Int.zero_add, Int.mul_zero, Int.zero_mul, Int.one_mul, Int.mul_one, if_true, if_false, not_true_eq_false, not_false_eq_true]
    refine zz_Ei (fun _ => ?_) (fun h => absurd (Int.le_refl _) h)
    exact zz_Er rfl
theorem r_162 (hd : 2 ≤ d) (hL : ZL T R) (hA : zz_ok Y (J 132)) : mv_cax d 162 [.inr (.inr (some 131))] (zz_S T J R G) = some (some (.inl (mv_c (zz_sum (fun c => if J 132 (24 + c) < 0 then 0 else 1) (J 132 0 * J 132 1)))), (zz_S T J R G)) := by
  have hn := hA.n
  refine zz_c (zz_call (by omega) t_162 rfl (fun n => e_162 _ _) ?_)
  refine zz_loop (run := fun w s n => mv_run (mv_cax (d - 1)) mm_162 n 4 [(0, .inr (.inr (some 131))), (1, .inl (mv_c s)), (2, .inl (mv_c w))] [] (zz_S T J R G)) (J 132 0 * J 132 1) (fun w s => 0 ≤ w ∧ s = zz_sum (fun c => if J 132 (24 + c) < 0 then 0 else 1) w) ?_ ?_ (J 132 0 * J 132 1).toNat 0 0 (by omega) ⟨by omega, rfl⟩
  · rintro w s ⟨hw, rfl⟩ hlt k
    have hH := (hA.2.2.2.2.2.2.2.1 _ hw hlt).2
    have e1 := zz_sum1 (f := fun c => if J 132 (24 + c) < 0 then 0 else 1) hw
    refine zz_Es (fun n => e_162_4 _ _ _ _) ?_
    simp (disch := first | assumption | omega) only [r_135, zr_131_0, zr_131_1, zr_131_2, zr_131_3, zr_131_4, zr_131_5, zr_131_6, zr_131_7, zr_131_8, zg_131_9, zp_131_9, zg_131_10, zp_131_10, zg_131_11, zp_131_11, zg_131_12, zp_131_12, zg_131_13, zp_131_13, zg_131_14, zp_131_14, zr_131_15, zg_131_16, zp_131_16, zg_131_17, zp_131_17, zr_131_18, zr_131_19, zr_131_20, zr_131_21, zr_131_22, zg_131_23, zp_131_23, zr_131_24, zg_131_25, zp_131_25, zg_131_26, zp_131_26, zr_131_27, zr_131_28, zg_131_29, zp_131_29, zg_131_30, zp_131_30, zr_131_31, zr_131_32, zr_131_33, zr_131_34, zr_131_35, zi_131, za_132, zs_132, zl_132, za_133, zs_133, zl_133, za_134, zs_134, zl_134, za_135, zs_135, zl_135, za_136, zs_136, zl_136, za_137, zs_137, zl_137, za_138, zs_138, zl_138, za_139, zs_139, zl_139, za_140, zs_140, zl_140, za_141, zs_141, zl_141, za_142, zs_142, zl_142, za_143, zs_143, zl_143, za_144, zs_144, zl_144, za_145, zs_145, zl_145, za_146, zs_146, zl_146, za_147, zs_147, zl_147, za_148, zs_148, zl_148, za_149, zs_149, zl_149, za_150, zs_150, zl_150, za_151, zs_151, zl_151, za_152, zs_152, zl_152, za_153, zs_153, zl_153, za_154, zs_154, zl_154, zz_0, zz_31, zz_add, zz_sub, zz_mul, zz_neg, zz_lt, zz_le, zz_eq, zz_div, zz_md, zz_dv, zz_abs, zz_max, zz_min, zz_nI, zz_be0, zz_be1, zz_zb, zz_z, zz_l0, zz_l, zz_lcmp, zo_rf, zo_nl, zo_nn, zo_rI, zo_rL, zo_rR, zo_rV, Int.add_zero, Int.zero_add, Int.mul_zero, Int.zero_mul, Int.one_mul, Int.mul_one, if_true, if_false, not_true_eq_false, not_false_eq_true]
    refine zz_Ei (fun h => absurd h (by omega)) (fun _ => ?_)
    refine zz_Ei (fun h => ?_) (fun h => ?_)
    · exact k _ ⟨by omega, by rw [e1, if_pos h, Int.add_zero]⟩
    · exact k _ ⟨by omega, by rw [e1, if_neg h]⟩
  · rintro s ⟨hw, rfl⟩
    refine zz_Es (fun n => e_162_4 _ _ _ _) ?_
    simp (disch := first | assumption | omega) only [r_135, zr_131_0, zr_131_1, zr_131_2, zr_131_3, zr_131_4, zr_131_5, zr_131_6, zr_131_7, zr_131_8, zg_131_9, zp_131_9, zg_131_10, zp_131_10, zg_131_11, zp_131_11, zg_131_12, zp_131_12, zg_131_13, zp_131_13, zg_131_14, zp_131_14, zr_131_15, zg_131_16, zp_131_16, zg_131_17, zp_131_17, zr_131_18, zr_131_19, zr_131_20, zr_131_21, zr_131_22, zg_131_23, zp_131_23, zr_131_24, zg_131_25, zp_131_25, zg_131_26, zp_131_26, zr_131_27, zr_131_28, zg_131_29, zp_131_29, zg_131_30, zp_131_30, zr_131_31, zr_131_32, zr_131_33, zr_131_34, zr_131_35, zi_131, za_132, zs_132, zl_132, za_133, zs_133, zl_133, za_134, zs_134, zl_134, za_135, zs_135, zl_135, za_136, zs_136, zl_136, za_137, zs_137, zl_137, za_138, zs_138, zl_138, za_139, zs_139, zl_139, za_140, zs_140, zl_140, za_141, zs_141, zl_141, za_142, zs_142, zl_142, za_143, zs_143, zl_143, za_144, zs_144, zl_144, za_145, zs_145, zl_145, za_146, zs_146, zl_146, za_147, zs_147, zl_147, za_148, zs_148, zl_148, za_149, zs_149, zl_149, za_150, zs_150, zl_150, za_151, zs_151, zl_151, za_152, zs_152, zl_152, za_153, zs_153, zl_153, za_154, zs_154, zl_154, zz_0, zz_31, zz_add, zz_sub, zz_mul, zz_neg, zz_lt, zz_le, zz_eq, zz_div, zz_md, zz_dv, zz_abs, zz_max, zz_min, zz_nI, zz_be0, zz_be1, zz_zb, zz_z, zz_l0, zz_l, zz_lcmp, zo_rf, zo_nl, zo_nn, zo_rI, zo_rL, zo_rR, zo_rV, Int.add_zero, Int.zero_add, Int.mul_zero, Int.zero_mul, Int.one_mul, Int.mul_one, if_true, if_false, not_true_eq_false, not_false_eq_true]
    refine zz_Ei (fun _ => ?_) (fun h => absurd (Int.le_refl _) h)
    exact zz_Er rfl
theorem r_169 (hd : 2 ≤ d) (hL : ZL T R) (hA : zz_ok Y (J 132)) : mv_cax d 169 [.inr (.inr (some 131)), .inl (mv_c 24)] (zz_S T J R G) = some (some (.inl (mv_c (zz_of (J 132) (fun c => J 132 (24 + c))))), (zz_S T J R G)) := by
  have hn := hA.n
  refine zz_c (zz_call (by omega) t_169 rfl (fun n => e_169 _ _ _) ?_)
  refine zz_loop (run := fun w s n => mv_run (mv_cax (d - 1)) mm_169 n 4 [(0, .inr (.inr (some 131))), (1, .inl (mv_c 24)), (2, .inl (mv_c s)), (3, .inl (mv_c w))] [] (zz_S T J R G)) (J 132 0 * J 132 1) (fun w s => 0 ≤ w ∧ s = zz_sum (fun c => if J 132 (24 + c) < 0 then 0 else ((J 132 (8 + c) - J 132 (24 + c)).natAbs : Int)) w) ?_ ?_ (J 132 0 * J 132 1).toNat 0 0 (by omega) ⟨by omega, rfl⟩
  · rintro w s ⟨hw, rfl⟩ hlt k
    have hH := hA.2.2.2.2.2.2.2.1 _ hw hlt
    have e1 := zz_sum1 (f := fun c => if J 132 (24 + c) < 0 then 0 else ((J 132 (8 + c) - J 132 (24 + c)).natAbs : Int)) hw
    refine zz_Es (fun n => e_169_4 _ _ _ _ _) ?_
    simp (disch := first | assumption | omega) only [r_135, r_139, zr_131_0, zr_131_1, zr_131_2, zr_131_3, zr_131_4, zr_131_5, zr_131_6, zr_131_7, zr_131_8, zg_131_9, zp_131_9, zg_131_10, zp_131_10, zg_131_11, zp_131_11, zg_131_12, zp_131_12, zg_131_13, zp_131_13, zg_131_14, zp_131_14, zr_131_15, zg_131_16, zp_131_16, zg_131_17, zp_131_17, zr_131_18, zr_131_19, zr_131_20, zr_131_21, zr_131_22, zg_131_23, zp_131_23, zr_131_24, zg_131_25, zp_131_25, zg_131_26, zp_131_26, zr_131_27, zr_131_28, zg_131_29, zp_131_29, zg_131_30, zp_131_30, zr_131_31, zr_131_32, zr_131_33, zr_131_34, zr_131_35, zi_131, za_132, zs_132, zl_132, za_133, zs_133, zl_133, za_134, zs_134, zl_134, za_135, zs_135, zl_135, za_136, zs_136, zl_136, za_137, zs_137, zl_137, za_138, zs_138, zl_138, za_139, zs_139, zl_139, za_140, zs_140, zl_140, za_141, zs_141, zl_141, za_142, zs_142, zl_142, za_143, zs_143, zl_143, za_144, zs_144, zl_144, za_145, zs_145, zl_145, za_146, zs_146, zl_146, za_147, zs_147, zl_147, za_148, zs_148, zl_148, za_149, zs_149, zl_149, za_150, zs_150, zl_150, za_151, zs_151, zl_151, za_152, zs_152, zl_152, za_153, zs_153, zl_153, za_154, zs_154, zl_154, zz_0, zz_31, zz_add, zz_sub, zz_mul, zz_neg, zz_lt, zz_le, zz_eq, zz_div, zz_md, zz_dv, zz_abs, zz_max, zz_min, zz_nI, zz_be0, zz_be1, zz_zb, zz_z, zz_l0, zz_l, zz_lcmp, zo_rf, zo_nl, zo_nn, zo_rI, zo_rL, zo_rR, zo_rV, Int.add_zero, Int.zero_add, Int.mul_zero, Int.zero_mul, Int.one_mul, Int.mul_one, if_true, if_false, not_true_eq_false, not_false_eq_true]
    refine zz_Ei (fun h => absurd h (by omega)) (fun _ => ?_)
    refine zz_Ei (fun h => ?_) (fun h => ?_)
    · exact k _ ⟨by omega, by rw [e1, if_neg (by omega)]⟩
    · exact k _ ⟨by omega, by rw [e1, if_pos (by omega), Int.add_zero]⟩
  · rintro s ⟨hw, rfl⟩
    refine zz_Es (fun n => e_169_4 _ _ _ _ _) ?_
    simp (disch := first | assumption | omega) only [r_135, zr_131_0, zr_131_1, zr_131_2, zr_131_3, zr_131_4, zr_131_5, zr_131_6, zr_131_7, zr_131_8, zg_131_9, zp_131_9, zg_131_10, zp_131_10, zg_131_11, zp_131_11, zg_131_12, zp_131_12, zg_131_13, zp_131_13, zg_131_14, zp_131_14, zr_131_15, zg_131_16, zp_131_16, zg_131_17, zp_131_17, zr_131_18, zr_131_19, zr_131_20, zr_131_21, zr_131_22, zg_131_23, zp_131_23, zr_131_24, zg_131_25, zp_131_25, zg_131_26, zp_131_26, zr_131_27, zr_131_28, zg_131_29, zp_131_29, zg_131_30, zp_131_30, zr_131_31, zr_131_32, zr_131_33, zr_131_34, zr_131_35, zi_131, za_132, zs_132, zl_132, za_133, zs_133, zl_133, za_134, zs_134, zl_134, za_135, zs_135, zl_135, za_136, zs_136, zl_136, za_137, zs_137, zl_137, za_138, zs_138, zl_138, za_139, zs_139, zl_139, za_140, zs_140, zl_140, za_141, zs_141, zl_141, za_142, zs_142, zl_142, za_143, zs_143, zl_143, za_144, zs_144, zl_144, za_145, zs_145, zl_145, za_146, zs_146, zl_146, za_147, zs_147, zl_147, za_148, zs_148, zl_148, za_149, zs_149, zl_149, za_150, zs_150, zl_150, za_151, zs_151, zl_151, za_152, zs_152, zl_152, za_153, zs_153, zl_153, za_154, zs_154, zl_154, zz_0, zz_31, zz_add, zz_sub, zz_mul, zz_neg, zz_lt, zz_le, zz_eq, zz_div, zz_md, zz_dv, zz_abs, zz_max, zz_min, zz_nI, zz_be0, zz_be1, zz_zb, zz_z, zz_l0, zz_l, zz_lcmp, zo_rf, zo_nl, zo_nn, zo_rI, zo_rL, zo_rR, zo_rV, Int.add_zero, Int.zero_add, Int.mul_zero, Int.zero_mul, Int.one_mul, Int.mul_one, if_true, if_false, not_true_eq_false, not_false_eq_true]
    refine zz_Ei (fun _ => ?_) (fun h => absurd (Int.le_refl _) h)
    exact zz_Er rfl
theorem r_190 (hd : 2 ≤ d) (hL : ZL T R) (hA : zz_ok Y (J 132)) (hg : ∀ c, 0 ≤ c → c < J 132 0 * J 132 1 → 0 ≤ J 152 c ∧ J 152 c ≤ 9) : mv_cax d 190 [.inr (.inr (some 131))] (zz_S T J R G) = some (some (.inl (mv_c (zz_of (J 132) (J 152)))), (zz_S T J R G)) := by
  have hn := hA.n
  refine zz_c (zz_call (by omega) t_190 rfl (fun n => e_190 _ _) ?_)
  refine zz_loop (run := fun w s n => mv_run (mv_cax (d - 1)) mm_190 n 4 [(0, .inr (.inr (some 131))), (1, .inl (mv_c s)), (2, .inl (mv_c w))] [] (zz_S T J R G)) (J 132 0 * J 132 1) (fun w s => 0 ≤ w ∧ s = zz_sum (fun c => if J 152 c < 0 then 0 else ((J 132 (8 + c) - J 152 c).natAbs : Int)) w) ?_ ?_ (J 132 0 * J 132 1).toNat 0 0 (by omega) ⟨by omega, rfl⟩
  · rintro w s ⟨hw, rfl⟩ hlt k
    have hH := hA.2.2.2.2.2.2.2.1 _ hw hlt
    have hG := hg _ hw hlt
    have e1 := zz_sum1 (f := fun c => if J 152 c < 0 then 0 else ((J 132 (8 + c) - J 152 c).natAbs : Int)) hw
    refine zz_Es (fun n => e_190_4 _ _ _ _) ?_
    simp (disch := first | assumption | omega) only [r_135, r_139, zr_131_0, zr_131_1, zr_131_2, zr_131_3, zr_131_4, zr_131_5, zr_131_6, zr_131_7, zr_131_8, zg_131_9, zp_131_9, zg_131_10, zp_131_10, zg_131_11, zp_131_11, zg_131_12, zp_131_12, zg_131_13, zp_131_13, zg_131_14, zp_131_14, zr_131_15, zg_131_16, zp_131_16, zg_131_17, zp_131_17, zr_131_18, zr_131_19, zr_131_20, zr_131_21, zr_131_22, zg_131_23, zp_131_23, zr_131_24, zg_131_25, zp_131_25, zg_131_26, zp_131_26, zr_131_27, zr_131_28, zg_131_29, zp_131_29, zg_131_30, zp_131_30, zr_131_31, zr_131_32, zr_131_33, zr_131_34, zr_131_35, zi_131, za_132, zs_132, zl_132, za_133, zs_133, zl_133, za_134, zs_134, zl_134, za_135, zs_135, zl_135, za_136, zs_136, zl_136, za_137, zs_137, zl_137, za_138, zs_138, zl_138, za_139, zs_139, zl_139, za_140, zs_140, zl_140, za_141, zs_141, zl_141, za_142, zs_142, zl_142, za_143, zs_143, zl_143, za_144, zs_144, zl_144, za_145, zs_145, zl_145, za_146, zs_146, zl_146, za_147, zs_147, zl_147, za_148, zs_148, zl_148, za_149, zs_149, zl_149, za_150, zs_150, zl_150, za_151, zs_151, zl_151, za_152, zs_152, zl_152, za_153, zs_153, zl_153, za_154, zs_154, zl_154, zz_0, zz_31, zz_add, zz_sub, zz_mul, zz_neg, zz_lt, zz_le, zz_eq, zz_div, zz_md, zz_dv, zz_abs, zz_max, zz_min, zz_nI, zz_be0, zz_be1, zz_zb, zz_z, zz_l0, zz_l, zz_lcmp, zo_rf, zo_nl, zo_nn, zo_rI, zo_rL, zo_rR, zo_rV, Int.add_zero, Int.zero_add, Int.mul_zero, Int.zero_mul, Int.one_mul, Int.mul_one, if_true, if_false, not_true_eq_false, not_false_eq_true]
    refine zz_Ei (fun h => absurd h (by omega)) (fun _ => ?_)
    exact k _ ⟨by omega, by rw [e1, if_neg (by omega)]⟩
  · rintro s ⟨hw, rfl⟩
    refine zz_Es (fun n => e_190_4 _ _ _ _) ?_
    simp (disch := first | assumption | omega) only [r_135, zr_131_0, zr_131_1, zr_131_2, zr_131_3, zr_131_4, zr_131_5, zr_131_6, zr_131_7, zr_131_8, zg_131_9, zp_131_9, zg_131_10, zp_131_10, zg_131_11, zp_131_11, zg_131_12, zp_131_12, zg_131_13, zp_131_13, zg_131_14, zp_131_14, zr_131_15, zg_131_16, zp_131_16, zg_131_17, zp_131_17, zr_131_18, zr_131_19, zr_131_20, zr_131_21, zr_131_22, zg_131_23, zp_131_23, zr_131_24, zg_131_25, zp_131_25, zg_131_26, zp_131_26, zr_131_27, zr_131_28, zg_131_29, zp_131_29, zg_131_30, zp_131_30, zr_131_31, zr_131_32, zr_131_33, zr_131_34, zr_131_35, zi_131, za_132, zs_132, zl_132, za_133, zs_133, zl_133, za_134, zs_134, zl_134, za_135, zs_135, zl_135, za_136, zs_136, zl_136, za_137, zs_137, zl_137, za_138, zs_138, zl_138, za_139, zs_139, zl_139, za_140, zs_140, zl_140, za_141, zs_141, zl_141, za_142, zs_142, zl_142, za_143, zs_143, zl_143, za_144, zs_144, zl_144, za_145, zs_145, zl_145, za_146, zs_146, zl_146, za_147, zs_147, zl_147, za_148, zs_148, zl_148, za_149, zs_149, zl_149, za_150, zs_150, zl_150, za_151, zs_151, zl_151, za_152, zs_152, zl_152, za_153, zs_153, zl_153, za_154, zs_154, zl_154, zz_0, zz_31, zz_add, zz_sub, zz_mul, zz_neg, zz_lt, zz_le, zz_eq, zz_div, zz_md, zz_dv, zz_abs, zz_max, zz_min, zz_nI, zz_be0, zz_be1, zz_zb, zz_z, zz_l0, zz_l, zz_lcmp, zo_rf, zo_nl, zo_nn, zo_rI, zo_rL, zo_rR, zo_rV, Int.add_zero, Int.zero_add, Int.mul_zero, Int.zero_mul, Int.one_mul, Int.mul_one, if_true, if_false, not_true_eq_false, not_false_eq_true]
    refine zz_Ei (fun _ => ?_) (fun h => absurd (Int.le_refl _) h)
    exact zz_Er rfl
end ZRE2
