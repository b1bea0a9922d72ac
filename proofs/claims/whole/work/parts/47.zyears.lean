/-! PURE LAYER, 16: the reference: years one behind the other -/
noncomputable def zz_yn (A : Int → Int) : Int → Int := zz_yf A (A 4 % A 7)
noncomputable def zz_stl : Nat → (Int → Int) → Int → Int
  | 0, _, _ => -4
  | k + 1, A, same => @ite _ (@ite Int (zz_ch A (zz_yn A)) (Classical.propDecidable _) 0 (same + 1) = A 7) (Classical.propDecidable _) ((60 - (k : Int)) - @ite Int (zz_ch A (zz_yn A)) (Classical.propDecidable _) 0 (same + 1)) (zz_stl k (zz_yn A) (@ite Int (zz_ch A (zz_yn A)) (Classical.propDecidable _) 0 (same + 1)))
noncomputable def zz_it : Nat → (Int → Int) → (Int → Int)
  | 0, A => A
  | k + 1, A => zz_it k (zz_yn A)
noncomputable def zz_rgf (g : Int → Int) : Nat → (Int → Int) → Int
  | 0, _ => -4
  | k + 1, A => if zz_of (zz_yn A) g = 0 then 30 - (k : Int) else zz_rgf g k (zz_yn A)
def zz_nz (z : Int) : Int := z * 1103515245 + 12345
noncomputable def zz_sd : Nat → (Int → Int) → Int → Int → (Int → Int) × Int
  | 0, A, _, ch => (A, ch)
  | k + 1, A, z, ch => zz_sd k (zz_yf A (zz_nz z % 2147483648 / 65536 % A 7)) (zz_nz z) (ch + zz_b (zz_ch A (zz_yf A (zz_nz z % 2147483648 / 65536 % A 7))))
theorem zz_and31 (z : Int) : mv_c z &&& mv_c 2147483647 = mv_c (z % 2147483648) := by
  refine Int32.toBitVec.inj ?_
  rw [Int32.toBitVec_and]
  show BitVec.ofInt 32 z &&& BitVec.ofInt 32 2147483647 = BitVec.ofInt 32 (z % 2147483648)
  refine BitVec.eq_of_toNat_eq ?_
  rw [BitVec.toNat_and, BitVec.toNat_ofInt, BitVec.toNat_ofInt, BitVec.toNat_ofInt]
  have e1 : ((2147483647 : Int) % ((2 ^ 32 : Nat) : Int)).toNat = 2 ^ 31 - 1 := by decide
  rw [e1, Nat.and_two_pow_sub_one_eq_mod]
  omega
section ZYRS
variable {T : List mv_T} {J : Nat → Int → Int} {R : Nat → Nat → Option Nat} {G : Nat → Nat → Int64} {d : Nat} {Y : Int}
theorem zz_of_b {A g : Int → Int} (hA : zz_ok Y A) (hg : ∀ c, 0 ≤ c → c < A 0 * A 1 → g c ≤ 9) : 0 ≤ zz_of A g ∧ zz_of A g ≤ 144 := by
  have hn := hA.n
  have := zz_sum_b (f := fun c => if g c < 0 then 0 else ((A (8 + c) - g c).natAbs : Int)) (a := 0) (b := 9) (c := A 0 * A 1) (by omega) (fun c c0 c1 => by
    have h1 := (hA.2.2.2.2.2.2.2.1 c c0 c1).1
    have h2 := hg c c0 c1
    show 0 ≤ (if g c < 0 then (0 : Int) else ((A (8 + c) - g c).natAbs : Int)) ∧ (if g c < 0 then (0 : Int) else ((A (8 + c) - g c).natAbs : Int)) ≤ 9
    split <;> omega)
  unfold zz_of
  omega
theorem r_191 (hd : 1 ≤ d) (hL : ZL T R) : mv_cax d 191 [.inr (.inr (some 131))] (zz_S T J R G) = some (none, zz_S T (zz_w J 152 (fun c => if 0 ≤ c ∧ c < 16 then J 132 (8 + c) else J 152 c)) R G) := by
  refine zz_c (zz_call (by omega) t_191 rfl (fun n => e_191 _ _) ?_)
  have e0 : J = zz_w J 152 (J 152) := zw_i.symm
  have := zz_loop (run := fun k O n => mv_run (mv_cax (d - 1)) mm_191 n 2 [(0, .inr (.inr (some 131))), (1, .inl (mv_c k))] [] (zz_S T (zz_w J 152 O) R G)) (Q := fun r => r = (none, zz_S T (zz_w J 152 (fun c => if 0 ≤ c ∧ c < 16 then J 132 (8 + c) else J 152 c)) R G)) 16 (fun k O => 0 ≤ k ∧ ∀ y, O y = if 0 ≤ y ∧ y < k then J 132 (8 + y) else J 152 y) ?_ ?_ 16 0 (J 152) (by omega) ⟨by omega, fun y => by rw [if_neg (by omega)]⟩
  · rw [← e0] at this
    exact this
  · rintro k O ⟨hk, hO⟩ hlt kk
    refine zz_Es (fun n => e_191_2 _ _ _) ?_
    simp (maxSteps := 5000000) (disch := first | assumption | omega) only [zz_wu, zw_n, zw_s, zr_131_0, zr_131_1, zr_131_2, zr_131_3, zr_131_4, zr_131_5, zr_131_6, zr_131_7, zr_131_8, zg_131_9, zp_131_9, zg_131_10, zp_131_10, zg_131_11, zp_131_11, zg_131_12, zp_131_12, zg_131_13, zp_131_13, zg_131_14, zp_131_14, zr_131_15, zg_131_16, zp_131_16, zg_131_17, zp_131_17, zr_131_18, zr_131_19, zr_131_20, zr_131_21, zr_131_22, zg_131_23, zp_131_23, zr_131_24, zg_131_25, zp_131_25, zg_131_26, zp_131_26, zr_131_27, zr_131_28, zg_131_29, zp_131_29, zg_131_30, zp_131_30, zr_131_31, zr_131_32, zr_131_33, zr_131_34, zr_131_35, zi_131, za_132, zs_132, zl_132, za_133, zs_133, zl_133, za_134, zs_134, zl_134, za_135, zs_135, zl_135, za_136, zs_136, zl_136, za_137, zs_137, zl_137, za_138, zs_138, zl_138, za_139, zs_139, zl_139, za_140, zs_140, zl_140, za_141, zs_141, zl_141, za_142, zs_142, zl_142, za_143, zs_143, zl_143, za_144, zs_144, zl_144, za_145, zs_145, zl_145, za_146, zs_146, zl_146, za_147, zs_147, zl_147, za_148, zs_148, zl_148, za_149, zs_149, zl_149, za_150, zs_150, zl_150, za_151, zs_151, zl_151, za_152, zs_152, zl_152, za_153, zs_153, zl_153, za_154, zs_154, zl_154, zz_0, zz_31, zz_add, zz_sub, zz_mul, zz_neg, zz_lt, zz_le, zz_eq, zz_div, zz_md, zz_dv, zz_abs, zz_max, zz_min, zz_nI, zz_be0, zz_be1, zz_zb, zz_z, zz_l0, zz_l, zz_lcmp, zo_rf, zo_nl, zo_nn, zo_rI, zo_rL, zo_rR, zo_rV, Int.add_zero, Int.zero_add, Int.mul_zero, Int.zero_mul, Int.one_mul, Int.mul_one, if_true, if_false, not_true_eq_false, not_false_eq_true]
    refine zz_Ei (fun h => absurd h (by omega)) (fun _ => ?_)
    refine kk (zz_f O k (J 132 (8 + k))) ⟨by omega, fun y => ?_⟩
    by_cases e : y = k
    · rw [e, zf_s, if_pos (by omega)]
    · rw [zf_n e, hO y]
      by_cases q : 0 ≤ y ∧ y < k
      · rw [if_pos q, if_pos (by omega)]
      · rw [if_neg q, if_neg (by omega)]
  · rintro O ⟨_, hO⟩
    refine zz_Es (fun n => e_191_2 _ _ _) ?_
    simp (maxSteps := 5000000) (disch := first | assumption | omega) only [zr_131_0, zr_131_1, zr_131_2, zr_131_3, zr_131_4, zr_131_5, zr_131_6, zr_131_7, zr_131_8, zg_131_9, zp_131_9, zg_131_10, zp_131_10, zg_131_11, zp_131_11, zg_131_12, zp_131_12, zg_131_13, zp_131_13, zg_131_14, zp_131_14, zr_131_15, zg_131_16, zp_131_16, zg_131_17, zp_131_17, zr_131_18, zr_131_19, zr_131_20, zr_131_21, zr_131_22, zg_131_23, zp_131_23, zr_131_24, zg_131_25, zp_131_25, zg_131_26, zp_131_26, zr_131_27, zr_131_28, zg_131_29, zp_131_29, zg_131_30, zp_131_30, zr_131_31, zr_131_32, zr_131_33, zr_131_34, zr_131_35, zi_131, za_132, zs_132, zl_132, za_133, zs_133, zl_133, za_134, zs_134, zl_134, za_135, zs_135, zl_135, za_136, zs_136, zl_136, za_137, zs_137, zl_137, za_138, zs_138, zl_138, za_139, zs_139, zl_139, za_140, zs_140, zl_140, za_141, zs_141, zl_141, za_142, zs_142, zl_142, za_143, zs_143, zl_143, za_144, zs_144, zl_144, za_145, zs_145, zl_145, za_146, zs_146, zl_146, za_147, zs_147, zl_147, za_148, zs_148, zl_148, za_149, zs_149, zl_149, za_150, zs_150, zl_150, za_151, zs_151, zl_151, za_152, zs_152, zl_152, za_153, zs_153, zl_153, za_154, zs_154, zl_154, zz_0, zz_31, zz_add, zz_sub, zz_mul, zz_neg, zz_lt, zz_le, zz_eq, zz_div, zz_md, zz_dv, zz_abs, zz_max, zz_min, zz_nI, zz_be0, zz_be1, zz_zb, zz_z, zz_l0, zz_l, zz_lcmp, zo_rf, zo_nl, zo_nn, zo_rI, zo_rL, zo_rR, zo_rV, Int.add_zero, Int.zero_add, Int.mul_zero, Int.zero_mul, Int.one_mul, Int.mul_one, if_true, if_false, not_true_eq_false, not_false_eq_true]
    refine zz_Ei (fun _ => ?_) (fun h => absurd (Int.le_refl _) h)
    have : O = (fun c => if 0 ≤ c ∧ c < 16 then J 132 (8 + c) else J 152 c) := funext hO
    exact zz_Er (by rw [this])
/-- what lasts but the row: shelves, image -/
def zz_pw (J J' : Nat → Int → Int) : Prop := (∀ x, x ≠ 131 → x ≠ 132 → (x < 143 ∨ 154 < x) → J' x = J x) ∧ J' 131 9 = J 131 9
theorem zz_pw_g {w : Nat} {J J' : Nat → Int → Int} (hw : w ≤ 154) (h : zz_fg w J J') : zz_pw J J' := ⟨fun x x1 x2 x3 => h.1 x x1 x2 (by omega), h.2 9 (by omega)⟩
theorem zz_pw_t {J1 J2 J3 : Nat → Int → Int} (h : zz_pw J1 J2) (h' : zz_pw J2 J3) : zz_pw J1 J3 := ⟨fun x x1 x2 x3 => by rw [h'.1 x x1 x2 x3, h.1 x x1 x2 x3], by rw [h'.2, h.2]⟩
theorem zz_pw_w {J : Nat → Int → Int} {a : Nat} {O : Int → Int} (ha : a = 132 ∨ 143 ≤ a ∧ a ≤ 154) : zz_pw J (zz_w J a O) := ⟨fun x _ x2 x3 => zw_n (by omega), by rw [zw_n (by omega)]⟩
theorem zz_of_c {A g g' : Int → Int} (hn : 0 ≤ A 0 * A 1) (h : ∀ c, 0 ≤ c → c < A 0 * A 1 → g c = g' c) : zz_of A g = zz_of A g' := zz_sum_c hn (fun c c0 c1 => by rw [h c c0 c1])
theorem r_188 {e c : Int} (hL : ZL T R) (hA : zz_ok Y (J 132)) (hBc : zz_bc (J 142)) (hd : 13 ≤ d) (h1 : -2147483648 ≤ e) (h2 : e ≤ 2147483647) (h3 : -2147483648 ≤ c) (h4 : c ≤ 2147483647) : ∃ v J', mv_cax d 188 [.inr (.inr (some 131)), .inl (mv_c e), .inl (mv_c c)] (zz_S T J R G) = some (some (.inl (mv_c v)), zz_S T J' R G) ∧ zz_pw J J' ∧ J' 132 = J 132 ∧ (-1 ≤ v ∧ v ≤ 9) ∧ ((¬ ((0 ≤ e ∧ e < J 132 7) ∧ 0 ≤ c ∧ c < J 132 0 * J 132 1) ∧ v = -1) ∨ (((0 ≤ e ∧ e < J 132 7) ∧ 0 ≤ c ∧ c < J 132 0 * J 132 1) ∧ ∃ g, zz_dr (J 132) e g ∧ v = g c)) := by
  have hn := hA.n
  by_cases hq : (0 ≤ e ∧ e < J 132 7) ∧ 0 ≤ c ∧ c < J 132 0 * J 132 1
  · obtain ⟨J', s1, s2, s3, s4, s5⟩ := r_187 (T := T) (J := J) (R := R) (G := G) (d := d - 1) (Y := Y) (e := e) hL hA hBc (by omega) hq.1.1 hq.1.2
    refine ⟨J' 150 c, J', ?_, zz_pw_g (by omega) s2, s3, by have := s5 c hq.2.1 hq.2.2; omega, Or.inr ⟨hq, _, s4, rfl⟩⟩
    refine zz_c (zz_call (by omega) t_188 rfl (fun n => e_188 _ _ _ _) ?_)
    simp (maxSteps := 5000000) (disch := first | assumption | omega) only [r_136 (Y := Y), r_137 (Y := Y), s1, zr_131_0, zr_131_1, zr_131_2, zr_131_3, zr_131_4, zr_131_5, zr_131_6, zr_131_7, zr_131_8, zg_131_9, zp_131_9, zg_131_10, zp_131_10, zg_131_11, zp_131_11, zg_131_12, zp_131_12, zg_131_13, zp_131_13, zg_131_14, zp_131_14, zr_131_15, zg_131_16, zp_131_16, zg_131_17, zp_131_17, zr_131_18, zr_131_19, zr_131_20, zr_131_21, zr_131_22, zg_131_23, zp_131_23, zr_131_24, zg_131_25, zp_131_25, zg_131_26, zp_131_26, zr_131_27, zr_131_28, zg_131_29, zp_131_29, zg_131_30, zp_131_30, zr_131_31, zr_131_32, zr_131_33, zr_131_34, zr_131_35, zi_131, za_132, zs_132, zl_132, za_133, zs_133, zl_133, za_134, zs_134, zl_134, za_135, zs_135, zl_135, za_136, zs_136, zl_136, za_137, zs_137, zl_137, za_138, zs_138, zl_138, za_139, zs_139, zl_139, za_140, zs_140, zl_140, za_141, zs_141, zl_141, za_142, zs_142, zl_142, za_143, zs_143, zl_143, za_144, zs_144, zl_144, za_145, zs_145, zl_145, za_146, zs_146, zl_146, za_147, zs_147, zl_147, za_148, zs_148, zl_148, za_149, zs_149, zl_149, za_150, zs_150, zl_150, za_151, zs_151, zl_151, za_152, zs_152, zl_152, za_153, zs_153, zl_153, za_154, zs_154, zl_154, zz_0, zz_31, zz_add, zz_sub, zz_mul, zz_neg, zz_lt, zz_le, zz_eq, zz_div, zz_md, zz_dv, zz_abs, zz_max, zz_min, zz_nI, zz_be0, zz_be1, zz_zb, zz_z, zz_l0, zz_l, zz_lcmp, zo_rf, zo_nl, zo_nn, zo_rI, zo_rL, zo_rR, zo_rV, Int.add_zero, Int.zero_add, Int.mul_zero, Int.zero_mul, Int.one_mul, Int.mul_one, if_true, if_false, not_true_eq_false, not_false_eq_true]
    refine zz_Ei (fun h => absurd hq.1 h) (fun _ => ?_)
    refine zz_Ei (fun h => absurd hq.2 h) (fun _ => ?_)
    exact zz_Er rfl
  · refine ⟨-1, J, ?_, zz_pw_t (zz_pw_g (w := 148) (by omega) zz_fg_r) (zz_pw_g (w := 148) (by omega) zz_fg_r), rfl, by omega, Or.inl ⟨hq, rfl⟩⟩
    refine zz_c (zz_call (by omega) t_188 rfl (fun n => e_188 _ _ _ _) ?_)
    simp (maxSteps := 5000000) (disch := first | assumption | omega) only [r_136 (Y := Y), r_137 (Y := Y), zr_131_0, zr_131_1, zr_131_2, zr_131_3, zr_131_4, zr_131_5, zr_131_6, zr_131_7, zr_131_8, zg_131_9, zp_131_9, zg_131_10, zp_131_10, zg_131_11, zp_131_11, zg_131_12, zp_131_12, zg_131_13, zp_131_13, zg_131_14, zp_131_14, zr_131_15, zg_131_16, zp_131_16, zg_131_17, zp_131_17, zr_131_18, zr_131_19, zr_131_20, zr_131_21, zr_131_22, zg_131_23, zp_131_23, zr_131_24, zg_131_25, zp_131_25, zg_131_26, zp_131_26, zr_131_27, zr_131_28, zg_131_29, zp_131_29, zg_131_30, zp_131_30, zr_131_31, zr_131_32, zr_131_33, zr_131_34, zr_131_35, zi_131, za_132, zs_132, zl_132, za_133, zs_133, zl_133, za_134, zs_134, zl_134, za_135, zs_135, zl_135, za_136, zs_136, zl_136, za_137, zs_137, zl_137, za_138, zs_138, zl_138, za_139, zs_139, zl_139, za_140, zs_140, zl_140, za_141, zs_141, zl_141, za_142, zs_142, zl_142, za_143, zs_143, zl_143, za_144, zs_144, zl_144, za_145, zs_145, zl_145, za_146, zs_146, zl_146, za_147, zs_147, zl_147, za_148, zs_148, zl_148, za_149, zs_149, zl_149, za_150, zs_150, zl_150, za_151, zs_151, zl_151, za_152, zs_152, zl_152, za_153, zs_153, zl_153, za_154, zs_154, zl_154, zz_0, zz_31, zz_add, zz_sub, zz_mul, zz_neg, zz_lt, zz_le, zz_eq, zz_div, zz_md, zz_dv, zz_abs, zz_max, zz_min, zz_nI, zz_be0, zz_be1, zz_zb, zz_z, zz_l0, zz_l, zz_lcmp, zo_rf, zo_nl, zo_nn, zo_rI, zo_rL, zo_rR, zo_rV, Int.add_zero, Int.zero_add, Int.mul_zero, Int.zero_mul, Int.one_mul, Int.mul_one, if_true, if_false, not_true_eq_false, not_false_eq_true]
    refine zz_Ei (fun _ => zz_Er rfl) (fun h => ?_)
    refine zz_Ei (fun _ => zz_Er rfl) (fun h' => ?_)
    exact absurd ⟨Classical.not_not.mp h, Classical.not_not.mp h'⟩ hq
theorem r_192 (hL : ZL T R) (hA : zz_ok Y (J 132)) (hBc : zz_bc (J 142)) (hd : 14 ≤ d) (hY : Y + 1 ≤ 1000000000) : ∃ v J', mv_cax d 192 [.inr (.inr (some 131))] (zz_S T J R G) = some (some (.inl (mv_c v)), zz_S T J' R G) ∧ zz_pw J J' ∧ zz_ok (Y + 1) (J' 132) ∧ (-4 ≤ v ∧ v ≤ 144) ∧ ((J 132 7 = 0 ∧ v = -3 ∧ J' 132 = J 132) ∨ (J 132 7 ≠ 0 ∧ v = zz_of (zz_yn (J 132)) (zz_H (J 132)) ∧ J' 132 = zz_yn (J 132))) := by
  have hn := hA.n
  have h7 := hA.2.2.2.2.2.2.1
  have h4 := hA.2.2.2.1
  by_cases hq : J 132 7 = 0
  · refine ⟨-3, J, ?_, zz_pw_g (w := 148) (by omega) zz_fg_r, ?_, by omega, Or.inl ⟨hq, rfl, rfl⟩⟩
    · refine zz_c (zz_call (by omega) t_192 rfl (fun n => e_192 _ _) ?_)
      simp (maxSteps := 5000000) (disch := first | assumption | omega) only [hq, zr_131_0, zr_131_1, zr_131_2, zr_131_3, zr_131_4, zr_131_5, zr_131_6, zr_131_7, zr_131_8, zg_131_9, zp_131_9, zg_131_10, zp_131_10, zg_131_11, zp_131_11, zg_131_12, zp_131_12, zg_131_13, zp_131_13, zg_131_14, zp_131_14, zr_131_15, zg_131_16, zp_131_16, zg_131_17, zp_131_17, zr_131_18, zr_131_19, zr_131_20, zr_131_21, zr_131_22, zg_131_23, zp_131_23, zr_131_24, zg_131_25, zp_131_25, zg_131_26, zp_131_26, zr_131_27, zr_131_28, zg_131_29, zp_131_29, zg_131_30, zp_131_30, zr_131_31, zr_131_32, zr_131_33, zr_131_34, zr_131_35, zi_131, za_132, zs_132, zl_132, za_133, zs_133, zl_133, za_134, zs_134, zl_134, za_135, zs_135, zl_135, za_136, zs_136, zl_136, za_137, zs_137, zl_137, za_138, zs_138, zl_138, za_139, zs_139, zl_139, za_140, zs_140, zl_140, za_141, zs_141, zl_141, za_142, zs_142, zl_142, za_143, zs_143, zl_143, za_144, zs_144, zl_144, za_145, zs_145, zl_145, za_146, zs_146, zl_146, za_147, zs_147, zl_147, za_148, zs_148, zl_148, za_149, zs_149, zl_149, za_150, zs_150, zl_150, za_151, zs_151, zl_151, za_152, zs_152, zl_152, za_153, zs_153, zl_153, za_154, zs_154, zl_154, zz_0, zz_31, zz_add, zz_sub, zz_mul, zz_neg, zz_lt, zz_le, zz_eq, zz_div, zz_md, zz_dv, zz_abs, zz_max, zz_min, zz_nI, zz_be0, zz_be1, zz_zb, zz_z, zz_l0, zz_l, zz_lcmp, zo_rf, zo_nl, zo_nn, zo_rI, zo_rL, zo_rR, zo_rV, Int.add_zero, Int.zero_add, Int.mul_zero, Int.zero_mul, Int.one_mul, Int.mul_one, if_true, if_false, not_true_eq_false, not_false_eq_true]
      exact zz_Er rfl
    · obtain ⟨q0, q1, q2, q3, q4⟩ := hA
      exact ⟨q0, q1, q2, by omega, q4⟩
  · have hm : 0 ≤ J 132 4 % J 132 7 ∧ J 132 4 % J 132 7 < J 132 7 := ⟨Int.emod_nonneg _ (by omega), Int.emod_lt_of_pos _ (by omega)⟩
    obtain ⟨J2, s1, s2, s3, s4, s5⟩ := r_189 (T := T) (J := zz_w J 152 (fun c => if 0 ≤ c ∧ c < 16 then J 132 (8 + c) else J 152 c)) (R := R) (G := G) (d := d - 1) (Y := Y) (e := J 132 4 % J 132 7) hL (by rw [zw_n (by omega)]; exact hA) (by rw [zw_n (by omega)]; exact hBc) (by omega) hm.1 (by rw [zw_n (by omega)]; exact hm.2) hY
    rw [zw_n (by omega)] at s1 s3 s5
    have j152 : J2 152 = (fun c => if 0 ≤ c ∧ c < 16 then J 132 (8 + c) else J 152 c) := by rw [s2.1 152 (by omega) (by omega) (by omega), zw_s]
    have hg : ∀ c, 0 ≤ c → c < J2 132 0 * J2 132 1 → J2 152 c = zz_H (J 132) c := by
      intro c c0 c1
      rw [s5 0 (by omega), s5 1 (by omega)] at c1
      rw [j152]
      show (if 0 ≤ c ∧ c < 16 then J 132 (8 + c) else J 152 c) = J 132 (8 + c)
      rw [if_pos (by omega)]
    have hg9 : ∀ c, 0 ≤ c → c < J2 132 0 * J2 132 1 → 0 ≤ J2 152 c ∧ J2 152 c ≤ 9 := by
      intro c c0 c1
      rw [hg c c0 c1]
      rw [s5 0 (by omega), s5 1 (by omega)] at c1
      exact (hA.2.2.2.2.2.2.2.1 c c0 c1).1
    have hn2 := s4.n
    have r190 := r_190 (T := T) (J := J2) (R := R) (G := G) (d := d - 1) (Y := Y + 1) (by omega) hL s4 hg9
    rw [zz_of_c (by omega) hg] at r190
    have hob := zz_of_b (g := zz_H (J 132)) s4 (fun c c0 c1 => by rw [← hg c c0 c1]; exact (hg9 c c0 c1).2)
    refine ⟨zz_of (J2 132) (zz_H (J 132)), J2, ?_, zz_pw_t (zz_pw_w (by omega)) (zz_pw_g (by omega) s2), s4, by omega, Or.inr ⟨hq, ?_, ?_⟩⟩
    · refine zz_c (zz_call (by omega) t_192 rfl (fun n => e_192 _ _) ?_)
      simp (maxSteps := 5000000) (disch := first | assumption | omega) only [r_191, zw_n, s1, r190, zr_131_0, zr_131_1, zr_131_2, zr_131_3, zr_131_4, zr_131_5, zr_131_6, zr_131_7, zr_131_8, zg_131_9, zp_131_9, zg_131_10, zp_131_10, zg_131_11, zp_131_11, zg_131_12, zp_131_12, zg_131_13, zp_131_13, zg_131_14, zp_131_14, zr_131_15, zg_131_16, zp_131_16, zg_131_17, zp_131_17, zr_131_18, zr_131_19, zr_131_20, zr_131_21, zr_131_22, zg_131_23, zp_131_23, zr_131_24, zg_131_25, zp_131_25, zg_131_26, zp_131_26, zr_131_27, zr_131_28, zg_131_29, zp_131_29, zg_131_30, zp_131_30, zr_131_31, zr_131_32, zr_131_33, zr_131_34, zr_131_35, zi_131, za_132, zs_132, zl_132, za_133, zs_133, zl_133, za_134, zs_134, zl_134, za_135, zs_135, zl_135, za_136, zs_136, zl_136, za_137, zs_137, zl_137, za_138, zs_138, zl_138, za_139, zs_139, zl_139, za_140, zs_140, zl_140, za_141, zs_141, zl_141, za_142, zs_142, zl_142, za_143, zs_143, zl_143, za_144, zs_144, zl_144, za_145, zs_145, zl_145, za_146, zs_146, zl_146, za_147, zs_147, zl_147, za_148, zs_148, zl_148, za_149, zs_149, zl_149, za_150, zs_150, zl_150, za_151, zs_151, zl_151, za_152, zs_152, zl_152, za_153, zs_153, zl_153, za_154, zs_154, zl_154, zz_0, zz_31, zz_add, zz_sub, zz_mul, zz_neg, zz_lt, zz_le, zz_eq, zz_div, zz_md, zz_dv, zz_abs, zz_max, zz_min, zz_nI, zz_be0, zz_be1, zz_zb, zz_z, zz_l0, zz_l, zz_lcmp, zo_rf, zo_nl, zo_nn, zo_rI, zo_rL, zo_rR, zo_rV, Int.add_zero, Int.zero_add, Int.mul_zero, Int.zero_mul, Int.one_mul, Int.mul_one, if_true, if_false, not_true_eq_false, not_false_eq_true]
      refine zz_Ei (fun h => absurd h hq) (fun _ => ?_)
      exact zz_Er rfl
    · rw [s3]; rfl
    · rw [s3]; rfl
end ZYRS
