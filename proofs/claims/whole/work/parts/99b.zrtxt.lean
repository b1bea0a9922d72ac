/-! PURE LAYER, 81: texts: the reference reads a statement (forms by program) -/
theorem zz_Ec {Q : Option mv_V × mv_S → Prop} {f g : Nat → mv_O} (h : ∀ n, f n = g n) (k : zz_E g Q) : zz_E f Q := by
  have e : f = g := funext h
  rw [e]
  exact k
section ZRTX
variable {T : List mv_T} {J J0 : Nat → Int → Int} {R : Nat → Nat → Option Nat} {G : Nat → Nat → Int64} {d : Nat} {B : Int → Int} {N i k : Int} {l : List Int}
/-- the reference's text: the bytes B of the shelf k, N of them -/
def zt_rx (J : Nat → Int → Int) (k : Int) (B : Int → Int) (N : Int) : Prop := (0 ≤ k ∧ k < 8) ∧ J 131 12 = 100 * k ∧ J 131 13 = N ∧ (0 ≤ N ∧ N ≤ 100) ∧ ∀ y, 0 ≤ y → y < N → J 138 (100 * k + y) = B y ∧ zk_r32 (B y)
def zt_rm (J J1 : Nat → Int → Int) (i : Int) (l : List Int) : Prop := (∀ x, x ≠ 131 → x ≠ 141 → J1 x = J x) ∧ (∀ y, y ≠ 11 → y ≠ 14 → J1 131 y = J 131 y) ∧ J1 131 11 = i ∧ J1 131 14 = (l.length : Int) ∧ ∀ k : Nat, k < l.length → J1 141 k = l.getD k 0
theorem zt_rx_m {J1 : Nat → Int → Int} (h : zt_rx J k B N) (hm : zt_rm J J1 i l) : zt_rx J1 k B N := by
  unfold zt_rx at h ⊢
  rw [hm.2.1 12 (by omega) (by omega), hm.2.1 13 (by omega) (by omega), hm.1 138 (by omega) (by omega)]
  exact h
theorem zt_rm_s {J1 : Nat → Int → Int} {i' : Int} (h : zt_rm J J1 i l) : zt_rm J (zz_u J1 131 11 i') i' l := ⟨fun x x1 x2 => by rw [zu_A x1]; exact h.1 x x1 x2, fun y y1 y2 => by rw [zu_k y1]; exact h.2.1 y y1 y2, zu_s, by rw [zu_k (by omega)]; exact h.2.2.2.1, fun k hk => by rw [zu_A (by omega)]; exact h.2.2.2.2 k hk⟩
def zt_rf (J : Nat → Int → Int) (f i v : Int) : Nat → Int → Int := zz_u (zz_u (zz_u J 131 11 i) 141 f v) 131 14 (f + 1)
theorem zt_rm_n {J1 : Nat → Int → Int} {i' v : Int} (h : zt_rm J J1 i l) : zt_rm J (zt_rf J1 (l.length : Int) i' v) i' (l ++ [v]) := by
  unfold zt_rf
  refine ⟨fun x x1 x2 => by rw [zu_A x1, zu_A x2, zu_A x1]; exact h.1 x x1 x2, fun y y1 y2 => by rw [zu_k y2, zu_A (by omega), zu_k y1]; exact h.2.1 y y1 y2, by rw [zu_k (by omega), zu_A (by omega), zu_s], by rw [zu_s, List.length_append]; rfl, fun k hk => ?_⟩
  rw [List.length_append] at hk
  have hk : k < l.length + 1 := hk
  rw [zu_A (by omega)]
  by_cases e : k = l.length
  · rw [e, zu_s, List.getD_eq_getElem?_getD, List.getElem?_append_right (Nat.le_refl _), Nat.sub_self]
    rfl
  · rw [zu_k (by omega), zu_A (by omega), h.2.2.2.2 k (by omega), List.getD_eq_getElem?_getD, List.getD_eq_getElem?_getD, List.getElem?_append_left (by omega)]
theorem r_144 (hd : 1 ≤ d) (hL : ZL T R) (ht : zt_rx J k B N) (hi : J 131 11 = i) (i0 : 0 ≤ i) (i1 : i ≤ N) : mv_cax d 144 [.inr (.inr (some 131))] (zz_S T J R G) = some (some (.inl (mv_c (if i < N then B i else -1000))), (zz_S T J R G)) := by
  obtain ⟨h0, h1, h2, h3, h4⟩ := ht
  by_cases hlt : i < N
  · have hb := (h4 i i0 hlt).1
    rw [if_pos hlt]
    refine zz_c (zz_call (by omega) t_144 rfl (fun n => e_144 _ _) ?_)
    simp (maxSteps := 5000000) (disch := first | assumption | omega) only [hi, h1, h2, hb, zr_131_0, zr_131_1, zr_131_2, zr_131_3, zr_131_4, zr_131_5, zr_131_6, zr_131_7, zr_131_8, zg_131_9, zp_131_9, zg_131_10, zp_131_10, zg_131_11, zp_131_11, zg_131_12, zp_131_12, zg_131_13, zp_131_13, zg_131_14, zp_131_14, zr_131_15, zg_131_16, zp_131_16, zg_131_17, zp_131_17, zr_131_18, zr_131_19, zr_131_20, zr_131_21, zr_131_22, zg_131_23, zp_131_23, zr_131_24, zg_131_25, zp_131_25, zg_131_26, zp_131_26, zr_131_27, zr_131_28, zg_131_29, zp_131_29, zg_131_30, zp_131_30, zr_131_31, zr_131_32, zr_131_33, zr_131_34, zr_131_35, zi_131, za_132, zs_132, zl_132, za_133, zs_133, zl_133, za_134, zs_134, zl_134, za_135, zs_135, zl_135, za_136, zs_136, zl_136, za_137, zs_137, zl_137, za_138, zs_138, zl_138, za_139, zs_139, zl_139, za_140, zs_140, zl_140, za_141, zs_141, zl_141, za_142, zs_142, zl_142, za_143, zs_143, zl_143, za_144, zs_144, zl_144, za_145, zs_145, zl_145, za_146, zs_146, zl_146, za_147, zs_147, zl_147, za_148, zs_148, zl_148, za_149, zs_149, zl_149, za_150, zs_150, zl_150, za_151, zs_151, zl_151, za_152, zs_152, zl_152, za_153, zs_153, zl_153, za_154, zs_154, zl_154, zz_0, zz_31, zz_add, zz_sub, zz_mul, zz_neg, zz_lt, zz_le, zz_eq, zz_div, zz_md, zz_dv, zz_abs, zz_max, zz_min, zz_nI, zz_be0, zz_be1, zz_zb, zz_z, zz_l0, zz_l, zz_lcmp, zo_rf, zo_nl, zo_nn, zo_rI, zo_rL, zo_rR, zo_rV, Int.add_zero, Int.zero_add, Int.mul_zero, Int.zero_mul, Int.one_mul, Int.mul_one, if_true, if_false, not_true_eq_false, not_false_eq_true]
    refine zz_Ei (fun h => absurd h (by omega)) (fun _ => ?_)
    exact zz_Er rfl
  · rw [if_neg hlt]
    refine zz_c (zz_call (by omega) t_144 rfl (fun n => e_144 _ _) ?_)
    simp (maxSteps := 5000000) (disch := first | assumption | omega) only [hi, h1, h2, zr_131_0, zr_131_1, zr_131_2, zr_131_3, zr_131_4, zr_131_5, zr_131_6, zr_131_7, zr_131_8, zg_131_9, zp_131_9, zg_131_10, zp_131_10, zg_131_11, zp_131_11, zg_131_12, zp_131_12, zg_131_13, zp_131_13, zg_131_14, zp_131_14, zr_131_15, zg_131_16, zp_131_16, zg_131_17, zp_131_17, zr_131_18, zr_131_19, zr_131_20, zr_131_21, zr_131_22, zg_131_23, zp_131_23, zr_131_24, zg_131_25, zp_131_25, zg_131_26, zp_131_26, zr_131_27, zr_131_28, zg_131_29, zp_131_29, zg_131_30, zp_131_30, zr_131_31, zr_131_32, zr_131_33, zr_131_34, zr_131_35, zi_131, za_132, zs_132, zl_132, za_133, zs_133, zl_133, za_134, zs_134, zl_134, za_135, zs_135, zl_135, za_136, zs_136, zl_136, za_137, zs_137, zl_137, za_138, zs_138, zl_138, za_139, zs_139, zl_139, za_140, zs_140, zl_140, za_141, zs_141, zl_141, za_142, zs_142, zl_142, za_143, zs_143, zl_143, za_144, zs_144, zl_144, za_145, zs_145, zl_145, za_146, zs_146, zl_146, za_147, zs_147, zl_147, za_148, zs_148, zl_148, za_149, zs_149, zl_149, za_150, zs_150, zl_150, za_151, zs_151, zl_151, za_152, zs_152, zl_152, za_153, zs_153, zl_153, za_154, zs_154, zl_154, zz_0, zz_31, zz_add, zz_sub, zz_mul, zz_neg, zz_lt, zz_le, zz_eq, zz_div, zz_md, zz_dv, zz_abs, zz_max, zz_min, zz_nI, zz_be0, zz_be1, zz_zb, zz_z, zz_l0, zz_l, zz_lcmp, zo_rf, zo_nl, zo_nn, zo_rI, zo_rL, zo_rR, zo_rV, Int.add_zero, Int.zero_add, Int.mul_zero, Int.zero_mul, Int.one_mul, Int.mul_one, if_true, if_false, not_true_eq_false, not_false_eq_true]
    refine zz_Ei (fun _ => ?_) (fun h => absurd (by omega) h)
    exact zz_Er rfl
theorem r_145 (hd : 2 ≤ d) (hL : ZL T R) (ht : zt_rx J k B N) (hi : J 131 11 = i) (i0 : 0 ≤ i) (i1 : i ≤ N) : mv_cax d 145 [.inr (.inr (some 131))] (zz_S T J R G) = some (some (.inl (mv_c (zz_b (zt_dg B N i)))), (zz_S T J R G)) := by
  have r144 := r_144 (T := T) (J := J) (R := R) (G := G) (d := d - 1) (by omega) hL ht hi i0 i1
  have hx : -2147483648 ≤ (if i < N then B i else -1000) ∧ (if i < N then B i else -1000) ≤ 2147483647 := by
    split
    · rename_i h
      exact (ht.2.2.2.2 i i0 h).2
    · omega
  have he : (48 ≤ (if i < N then B i else -1000) ∧ (if i < N then B i else -1000) ≤ 57) ↔ zt_dg B N i := by
    by_cases h : i < N
    · rw [if_pos h]
      exact ⟨fun q => ⟨h, q⟩, fun q => q.2⟩
    · rw [if_neg h]
      exact ⟨fun q => by omega, fun q => absurd q.1 h⟩
  refine zz_c (zz_call (by omega) t_145 rfl (fun n => e_145 _ _) ?_)
  generalize (if i < N then B i else -1000) = x at *
  simp (maxSteps := 5000000) (disch := first | assumption | omega) only [r144, r_134, zr_131_0, zr_131_1, zr_131_2, zr_131_3, zr_131_4, zr_131_5, zr_131_6, zr_131_7, zr_131_8, zg_131_9, zp_131_9, zg_131_10, zp_131_10, zg_131_11, zp_131_11, zg_131_12, zp_131_12, zg_131_13, zp_131_13, zg_131_14, zp_131_14, zr_131_15, zg_131_16, zp_131_16, zg_131_17, zp_131_17, zr_131_18, zr_131_19, zr_131_20, zr_131_21, zr_131_22, zg_131_23, zp_131_23, zr_131_24, zg_131_25, zp_131_25, zg_131_26, zp_131_26, zr_131_27, zr_131_28, zg_131_29, zp_131_29, zg_131_30, zp_131_30, zr_131_31, zr_131_32, zr_131_33, zr_131_34, zr_131_35, zi_131, za_132, zs_132, zl_132, za_133, zs_133, zl_133, za_134, zs_134, zl_134, za_135, zs_135, zl_135, za_136, zs_136, zl_136, za_137, zs_137, zl_137, za_138, zs_138, zl_138, za_139, zs_139, zl_139, za_140, zs_140, zl_140, za_141, zs_141, zl_141, za_142, zs_142, zl_142, za_143, zs_143, zl_143, za_144, zs_144, zl_144, za_145, zs_145, zl_145, za_146, zs_146, zl_146, za_147, zs_147, zl_147, za_148, zs_148, zl_148, za_149, zs_149, zl_149, za_150, zs_150, zl_150, za_151, zs_151, zl_151, za_152, zs_152, zl_152, za_153, zs_153, zl_153, za_154, zs_154, zl_154, zz_0, zz_31, zz_add, zz_sub, zz_mul, zz_neg, zz_lt, zz_le, zz_eq, zz_div, zz_md, zz_dv, zz_abs, zz_max, zz_min, zz_nI, zz_be0, zz_be1, zz_zb, zz_z, zz_l0, zz_l, zz_lcmp, zo_rf, zo_nl, zo_nn, zo_rI, zo_rL, zo_rR, zo_rV, Int.add_zero, Int.zero_add, Int.mul_zero, Int.zero_mul, Int.one_mul, Int.mul_one, if_true, if_false, not_true_eq_false, not_false_eq_true]
  by_cases hq : zt_dg B N i
  · rw [zz_b_t hq, zz_b_t (he.mpr hq)]
    exact zz_Er rfl
  · rw [zz_b_f hq, zz_b_f (fun q => hq (he.mp q))]
    exact zz_Er rfl
theorem r_146 {c : Int} (hd : 2 ≤ d) (hL : ZL T R) (ht : zt_rx J k B N) (hi : J 131 11 = i) (i0 : 0 ≤ i) (i1 : i ≤ N) (c0 : 0 ≤ c) (c1 : c ≤ 1000) :
    ((i < N ∧ B i = c) → mv_cax d 146 [.inr (.inr (some 131)), .inl (mv_c c)] (zz_S T J R G) = some (some (.inl (mv_c 1)), zz_S T (zz_u J 131 11 (i + 1)) R G)) ∧ (¬ (i < N ∧ B i = c) → mv_cax d 146 [.inr (.inr (some 131)), .inl (mv_c c)] (zz_S T J R G) = some (some (.inl (mv_c 0)), (zz_S T J R G))) := by
  have r144 := r_144 (T := T) (J := J) (R := R) (G := G) (d := d - 1) (by omega) hL ht hi i0 i1
  have hx : -2147483648 ≤ (if i < N then B i else -1000) ∧ (if i < N then B i else -1000) ≤ 2147483647 := by
    split
    · rename_i h
      exact (ht.2.2.2.2 i i0 h).2
    · omega
  have he : (if i < N then B i else -1000) = c ↔ (i < N ∧ B i = c) := by
    by_cases h : i < N
    · rw [if_pos h]
      exact ⟨fun q => ⟨h, q⟩, fun q => q.2⟩
    · rw [if_neg h]
      exact ⟨fun q => by omega, fun q => absurd q.1 h⟩
  generalize (if i < N then B i else -1000) = x at *
  constructor
  · intro h
    refine zz_c (zz_call (by omega) t_146 rfl (fun n => e_146 _ _ _) ?_)
    simp (maxSteps := 5000000) (disch := first | assumption | omega) only [r144, hi, zz_z, zr_131_0, zr_131_1, zr_131_2, zr_131_3, zr_131_4, zr_131_5, zr_131_6, zr_131_7, zr_131_8, zg_131_9, zp_131_9, zg_131_10, zp_131_10, zg_131_11, zp_131_11, zg_131_12, zp_131_12, zg_131_13, zp_131_13, zg_131_14, zp_131_14, zr_131_15, zg_131_16, zp_131_16, zg_131_17, zp_131_17, zr_131_18, zr_131_19, zr_131_20, zr_131_21, zr_131_22, zg_131_23, zp_131_23, zr_131_24, zg_131_25, zp_131_25, zg_131_26, zp_131_26, zr_131_27, zr_131_28, zg_131_29, zp_131_29, zg_131_30, zp_131_30, zr_131_31, zr_131_32, zr_131_33, zr_131_34, zr_131_35, zi_131, za_132, zs_132, zl_132, za_133, zs_133, zl_133, za_134, zs_134, zl_134, za_135, zs_135, zl_135, za_136, zs_136, zl_136, za_137, zs_137, zl_137, za_138, zs_138, zl_138, za_139, zs_139, zl_139, za_140, zs_140, zl_140, za_141, zs_141, zl_141, za_142, zs_142, zl_142, za_143, zs_143, zl_143, za_144, zs_144, zl_144, za_145, zs_145, zl_145, za_146, zs_146, zl_146, za_147, zs_147, zl_147, za_148, zs_148, zl_148, za_149, zs_149, zl_149, za_150, zs_150, zl_150, za_151, zs_151, zl_151, za_152, zs_152, zl_152, za_153, zs_153, zl_153, za_154, zs_154, zl_154, zz_0, zz_31, zz_add, zz_sub, zz_mul, zz_neg, zz_lt, zz_le, zz_eq, zz_div, zz_md, zz_dv, zz_abs, zz_max, zz_min, zz_nI, zz_be0, zz_be1, zz_zb, zz_z, zz_l0, zz_l, zz_lcmp, zo_rf, zo_nl, zo_nn, zo_rI, zo_rL, zo_rR, zo_rV, Int.add_zero, Int.zero_add, Int.mul_zero, Int.zero_mul, Int.one_mul, Int.mul_one, if_true, if_false, not_true_eq_false, not_false_eq_true]
    exact zz_Ei (fun _ => zz_Er rfl) (fun g => absurd (he.mpr h) g)
  · intro h
    refine zz_c (zz_call (by omega) t_146 rfl (fun n => e_146 _ _ _) ?_)
    simp (maxSteps := 5000000) (disch := first | assumption | omega) only [r144, hi, zz_z, zr_131_0, zr_131_1, zr_131_2, zr_131_3, zr_131_4, zr_131_5, zr_131_6, zr_131_7, zr_131_8, zg_131_9, zp_131_9, zg_131_10, zp_131_10, zg_131_11, zp_131_11, zg_131_12, zp_131_12, zg_131_13, zp_131_13, zg_131_14, zp_131_14, zr_131_15, zg_131_16, zp_131_16, zg_131_17, zp_131_17, zr_131_18, zr_131_19, zr_131_20, zr_131_21, zr_131_22, zg_131_23, zp_131_23, zr_131_24, zg_131_25, zp_131_25, zg_131_26, zp_131_26, zr_131_27, zr_131_28, zg_131_29, zp_131_29, zg_131_30, zp_131_30, zr_131_31, zr_131_32, zr_131_33, zr_131_34, zr_131_35, zi_131, za_132, zs_132, zl_132, za_133, zs_133, zl_133, za_134, zs_134, zl_134, za_135, zs_135, zl_135, za_136, zs_136, zl_136, za_137, zs_137, zl_137, za_138, zs_138, zl_138, za_139, zs_139, zl_139, za_140, zs_140, zl_140, za_141, zs_141, zl_141, za_142, zs_142, zl_142, za_143, zs_143, zl_143, za_144, zs_144, zl_144, za_145, zs_145, zl_145, za_146, zs_146, zl_146, za_147, zs_147, zl_147, za_148, zs_148, zl_148, za_149, zs_149, zl_149, za_150, zs_150, zl_150, za_151, zs_151, zl_151, za_152, zs_152, zl_152, za_153, zs_153, zl_153, za_154, zs_154, zl_154, zz_0, zz_31, zz_add, zz_sub, zz_mul, zz_neg, zz_lt, zz_le, zz_eq, zz_div, zz_md, zz_dv, zz_abs, zz_max, zz_min, zz_nI, zz_be0, zz_be1, zz_zb, zz_z, zz_l0, zz_l, zz_lcmp, zo_rf, zo_nl, zo_nn, zo_rI, zo_rL, zo_rR, zo_rV, Int.add_zero, Int.zero_add, Int.mul_zero, Int.zero_mul, Int.one_mul, Int.mul_one, if_true, if_false, not_true_eq_false, not_false_eq_true]
    exact zz_Ei (fun g => absurd (he.mp g) h) (fun _ => zz_Er rfl)
theorem r_147l {f most : Int} (hd : 2 ≤ d) (hL : ZL T R) (ht : zt_rx J k B N) (hf : J 131 14 = f) (f0 : 0 ≤ f) (f1 : f < 4) : ∀ (m : Nat) (i v dg : Int), 0 ≤ i → i ≤ N → 0 ≤ v → (v + 1) * 10 ^ m ≤ 1000 → m ≤ 2 → dg + m = most → 1 ≤ dg → most ≤ 3 →
    zz_E (fun n => mv_run (mv_cax d) mm_147 n 29 [(0, .inr (.inr (some 131))), (1, .inl (mv_c most)), (2, .inl (mv_c v)), (3, .inl (mv_c dg))] [] (zz_S T (zz_u J 131 11 i) R G)) (fun r => r = (some (.inl (mv_c 1)), zz_S T (zt_rf J f (zt_nl B N m i v).1 (zt_nl B N m i v).2) R G)) := by
  intro m
  induction m with
  | zero =>
    intro i v dg i0 i1 v0 v1 hm hdg d1 d3
    have q3 : zz_u J 131 11 i 131 14 = f := by rw [zu_k (by omega)]; exact hf
    refine zz_Es (fun n => e_147_29 _ _ _ _ _) ?_
    simp (maxSteps := 5000000) (disch := first | assumption | omega) only [q3, zu_A, zz_z, zr_131_0, zr_131_1, zr_131_2, zr_131_3, zr_131_4, zr_131_5, zr_131_6, zr_131_7, zr_131_8, zg_131_9, zp_131_9, zg_131_10, zp_131_10, zg_131_11, zp_131_11, zg_131_12, zp_131_12, zg_131_13, zp_131_13, zg_131_14, zp_131_14, zr_131_15, zg_131_16, zp_131_16, zg_131_17, zp_131_17, zr_131_18, zr_131_19, zr_131_20, zr_131_21, zr_131_22, zg_131_23, zp_131_23, zr_131_24, zg_131_25, zp_131_25, zg_131_26, zp_131_26, zr_131_27, zr_131_28, zg_131_29, zp_131_29, zg_131_30, zp_131_30, zr_131_31, zr_131_32, zr_131_33, zr_131_34, zr_131_35, zi_131, za_132, zs_132, zl_132, za_133, zs_133, zl_133, za_134, zs_134, zl_134, za_135, zs_135, zl_135, za_136, zs_136, zl_136, za_137, zs_137, zl_137, za_138, zs_138, zl_138, za_139, zs_139, zl_139, za_140, zs_140, zl_140, za_141, zs_141, zl_141, za_142, zs_142, zl_142, za_143, zs_143, zl_143, za_144, zs_144, zl_144, za_145, zs_145, zl_145, za_146, zs_146, zl_146, za_147, zs_147, zl_147, za_148, zs_148, zl_148, za_149, zs_149, zl_149, za_150, zs_150, zl_150, za_151, zs_151, zl_151, za_152, zs_152, zl_152, za_153, zs_153, zl_153, za_154, zs_154, zl_154, zz_0, zz_31, zz_add, zz_sub, zz_mul, zz_neg, zz_lt, zz_le, zz_eq, zz_div, zz_md, zz_dv, zz_abs, zz_max, zz_min, zz_nI, zz_be0, zz_be1, zz_zb, zz_z, zz_l0, zz_l, zz_lcmp, zo_rf, zo_nl, zo_nn, zo_rI, zo_rL, zo_rR, zo_rV, Int.add_zero, Int.zero_add, Int.mul_zero, Int.zero_mul, Int.one_mul, Int.mul_one, if_true, if_false, not_true_eq_false, not_false_eq_true]
    refine zz_Ei (fun _ => ?_) (fun h => absurd (by omega) h)
    exact zz_Er rfl
  | succ m ih =>
    intro i v dg i0 i1 v0 v1 hm hdg d1 d3
    have v2 : v ≤ 99 := by
      rcases (show m = 0 ∨ m = 1 by omega) with rfl | rfl <;> omega
    have ht' : zt_rx (zz_u J 131 11 i) k B N := by
      unfold zt_rx at ht ⊢
      rw [zu_k (by omega), zu_k (by omega), zu_A (by omega)]
      exact ht
    have q3 : zz_u J 131 11 i 131 14 = f := by rw [zu_k (by omega)]; exact hf
    have r144 := r_144 (T := T) (J := zz_u J 131 11 i) (R := R) (G := G) (d := d) (by omega) hL ht' zu_s i0 i1
    have r145 := r_145 (T := T) (J := zz_u J 131 11 i) (R := R) (G := G) (d := d) (by omega) hL ht' zu_s i0 i1
    have e1 : zt_nl B N (m + 1) i v = if 0 < v ∧ zt_dg B N i then zt_nl B N m (i + 1) (10 * v + B i - 48) else (i, v) := rfl
    refine zz_Es (fun n => e_147_29 _ _ _ _ _) ?_
    by_cases hv : 0 < v
    · by_cases hdgi : zt_dg B N i
      · rw [zz_b_t hdgi] at r145
        rw [e1, if_pos ⟨hv, hdgi⟩]
        obtain ⟨g1, g2, g3⟩ := hdgi
        rw [if_pos g1] at r144
        have ih' := ih (i + 1) (10 * v + B i - 48) (dg + 1) (by omega) (by omega) (by omega) (by
          rcases (show m = 0 ∨ m = 1 by omega) with rfl | rfl <;> omega) (by omega) (by omega) (by omega) d3
        simp (maxSteps := 5000000) (disch := first | assumption | omega) only [r145, r144, zu_s, zt_uu, zr_131_0, zr_131_1, zr_131_2, zr_131_3, zr_131_4, zr_131_5, zr_131_6, zr_131_7, zr_131_8, zg_131_9, zp_131_9, zg_131_10, zp_131_10, zg_131_11, zp_131_11, zg_131_12, zp_131_12, zg_131_13, zp_131_13, zg_131_14, zp_131_14, zr_131_15, zg_131_16, zp_131_16, zg_131_17, zp_131_17, zr_131_18, zr_131_19, zr_131_20, zr_131_21, zr_131_22, zg_131_23, zp_131_23, zr_131_24, zg_131_25, zp_131_25, zg_131_26, zp_131_26, zr_131_27, zr_131_28, zg_131_29, zp_131_29, zg_131_30, zp_131_30, zr_131_31, zr_131_32, zr_131_33, zr_131_34, zr_131_35, zi_131, za_132, zs_132, zl_132, za_133, zs_133, zl_133, za_134, zs_134, zl_134, za_135, zs_135, zl_135, za_136, zs_136, zl_136, za_137, zs_137, zl_137, za_138, zs_138, zl_138, za_139, zs_139, zl_139, za_140, zs_140, zl_140, za_141, zs_141, zl_141, za_142, zs_142, zl_142, za_143, zs_143, zl_143, za_144, zs_144, zl_144, za_145, zs_145, zl_145, za_146, zs_146, zl_146, za_147, zs_147, zl_147, za_148, zs_148, zl_148, za_149, zs_149, zl_149, za_150, zs_150, zl_150, za_151, zs_151, zl_151, za_152, zs_152, zl_152, za_153, zs_153, zl_153, za_154, zs_154, zl_154, zz_0, zz_31, zz_add, zz_sub, zz_mul, zz_neg, zz_lt, zz_le, zz_eq, zz_div, zz_md, zz_dv, zz_abs, zz_max, zz_min, zz_nI, zz_be0, zz_be1, zz_zb, zz_z, zz_l0, zz_l, zz_lcmp, zo_rf, zo_nl, zo_nn, zo_rI, zo_rL, zo_rR, zo_rV, Int.add_zero, Int.zero_add, Int.mul_zero, Int.zero_mul, Int.one_mul, Int.mul_one, if_true, if_false, not_true_eq_false, not_false_eq_true]
        refine zz_Ei (fun h => absurd h (by omega)) (fun _ => ?_)
        refine zz_Ei (fun h => absurd h (by omega)) (fun _ => ?_)
        try (refine zz_Ei (fun h => absurd (show (1 : Int) = 0 from h) (by omega)) (fun _ => ?_))
        exact ih'
      · rw [zz_b_f hdgi] at r145
        rw [e1, if_neg (fun q => hdgi q.2)]
        simp (maxSteps := 5000000) (disch := first | assumption | omega) only [r145, q3, zu_A, zz_z, zr_131_0, zr_131_1, zr_131_2, zr_131_3, zr_131_4, zr_131_5, zr_131_6, zr_131_7, zr_131_8, zg_131_9, zp_131_9, zg_131_10, zp_131_10, zg_131_11, zp_131_11, zg_131_12, zp_131_12, zg_131_13, zp_131_13, zg_131_14, zp_131_14, zr_131_15, zg_131_16, zp_131_16, zg_131_17, zp_131_17, zr_131_18, zr_131_19, zr_131_20, zr_131_21, zr_131_22, zg_131_23, zp_131_23, zr_131_24, zg_131_25, zp_131_25, zg_131_26, zp_131_26, zr_131_27, zr_131_28, zg_131_29, zp_131_29, zg_131_30, zp_131_30, zr_131_31, zr_131_32, zr_131_33, zr_131_34, zr_131_35, zi_131, za_132, zs_132, zl_132, za_133, zs_133, zl_133, za_134, zs_134, zl_134, za_135, zs_135, zl_135, za_136, zs_136, zl_136, za_137, zs_137, zl_137, za_138, zs_138, zl_138, za_139, zs_139, zl_139, za_140, zs_140, zl_140, za_141, zs_141, zl_141, za_142, zs_142, zl_142, za_143, zs_143, zl_143, za_144, zs_144, zl_144, za_145, zs_145, zl_145, za_146, zs_146, zl_146, za_147, zs_147, zl_147, za_148, zs_148, zl_148, za_149, zs_149, zl_149, za_150, zs_150, zl_150, za_151, zs_151, zl_151, za_152, zs_152, zl_152, za_153, zs_153, zl_153, za_154, zs_154, zl_154, zz_0, zz_31, zz_add, zz_sub, zz_mul, zz_neg, zz_lt, zz_le, zz_eq, zz_div, zz_md, zz_dv, zz_abs, zz_max, zz_min, zz_nI, zz_be0, zz_be1, zz_zb, zz_z, zz_l0, zz_l, zz_lcmp, zo_rf, zo_nl, zo_nn, zo_rI, zo_rL, zo_rR, zo_rV, Int.add_zero, Int.zero_add, Int.mul_zero, Int.zero_mul, Int.one_mul, Int.mul_one, if_true, if_false, not_true_eq_false, not_false_eq_true]
        refine zz_Ei (fun h => absurd h (by omega)) (fun _ => ?_)
        refine zz_Ei (fun h => absurd h (by omega)) (fun _ => ?_)
        exact zz_Er rfl
    · rw [e1, if_neg (fun q => hv q.1)]
      simp (maxSteps := 5000000) (disch := first | assumption | omega) only [q3, zu_A, zz_z, zr_131_0, zr_131_1, zr_131_2, zr_131_3, zr_131_4, zr_131_5, zr_131_6, zr_131_7, zr_131_8, zg_131_9, zp_131_9, zg_131_10, zp_131_10, zg_131_11, zp_131_11, zg_131_12, zp_131_12, zg_131_13, zp_131_13, zg_131_14, zp_131_14, zr_131_15, zg_131_16, zp_131_16, zg_131_17, zp_131_17, zr_131_18, zr_131_19, zr_131_20, zr_131_21, zr_131_22, zg_131_23, zp_131_23, zr_131_24, zg_131_25, zp_131_25, zg_131_26, zp_131_26, zr_131_27, zr_131_28, zg_131_29, zp_131_29, zg_131_30, zp_131_30, zr_131_31, zr_131_32, zr_131_33, zr_131_34, zr_131_35, zi_131, za_132, zs_132, zl_132, za_133, zs_133, zl_133, za_134, zs_134, zl_134, za_135, zs_135, zl_135, za_136, zs_136, zl_136, za_137, zs_137, zl_137, za_138, zs_138, zl_138, za_139, zs_139, zl_139, za_140, zs_140, zl_140, za_141, zs_141, zl_141, za_142, zs_142, zl_142, za_143, zs_143, zl_143, za_144, zs_144, zl_144, za_145, zs_145, zl_145, za_146, zs_146, zl_146, za_147, zs_147, zl_147, za_148, zs_148, zl_148, za_149, zs_149, zl_149, za_150, zs_150, zl_150, za_151, zs_151, zl_151, za_152, zs_152, zl_152, za_153, zs_153, zl_153, za_154, zs_154, zl_154, zz_0, zz_31, zz_add, zz_sub, zz_mul, zz_neg, zz_lt, zz_le, zz_eq, zz_div, zz_md, zz_dv, zz_abs, zz_max, zz_min, zz_nI, zz_be0, zz_be1, zz_zb, zz_z, zz_l0, zz_l, zz_lcmp, zo_rf, zo_nl, zo_nn, zo_rI, zo_rL, zo_rR, zo_rV, Int.add_zero, Int.zero_add, Int.mul_zero, Int.zero_mul, Int.one_mul, Int.mul_one, if_true, if_false, not_true_eq_false, not_false_eq_true]
      refine zz_Ei (fun h => absurd h (by omega)) (fun _ => ?_)
      refine zz_Ei (fun _ => ?_) (fun h => absurd (by omega) h)
      exact zz_Er rfl
theorem r_147 {f : Int} {m : Nat} (hd : 3 ≤ d) (hL : ZL T R) (ht : zt_rx J k B N) (hi : J 131 11 = i) (i0 : 0 ≤ i) (i1 : i ≤ N) (hf : J 131 14 = f) (f0 : 0 ≤ f) (f1 : f < 4) (hm : m ≤ 2) :
    (zt_dg B N i → mv_cax d 147 [.inr (.inr (some 131)), .inl (mv_c ((m : Int) + 1))] (zz_S T J R G) = some (some (.inl (mv_c 1)), zz_S T (zt_rf J f (zt_nl B N m (i + 1) (B i - 48)).1 (zt_nl B N m (i + 1) (B i - 48)).2) R G)) ∧ (¬ zt_dg B N i → mv_cax d 147 [.inr (.inr (some 131)), .inl (mv_c ((m : Int) + 1))] (zz_S T J R G) = some (some (.inl (mv_c 0)), (zz_S T J R G))) := by
  have r144 := r_144 (T := T) (J := J) (R := R) (G := G) (d := d - 1) (by omega) hL ht hi i0 i1
  have r145 := r_145 (T := T) (J := J) (R := R) (G := G) (d := d - 1) (by omega) hL ht hi i0 i1
  constructor
  · intro hdgi
    rw [zz_b_t hdgi] at r145
    obtain ⟨g1, g2, g3⟩ := id hdgi
    rw [if_pos g1] at r144
    refine zz_c (zz_call (by omega) t_147 rfl (fun n => e_147 _ _ _) ?_)
    simp (maxSteps := 5000000) (disch := first | assumption | omega) only [r145, r144, hi, zr_131_0, zr_131_1, zr_131_2, zr_131_3, zr_131_4, zr_131_5, zr_131_6, zr_131_7, zr_131_8, zg_131_9, zp_131_9, zg_131_10, zp_131_10, zg_131_11, zp_131_11, zg_131_12, zp_131_12, zg_131_13, zp_131_13, zg_131_14, zp_131_14, zr_131_15, zg_131_16, zp_131_16, zg_131_17, zp_131_17, zr_131_18, zr_131_19, zr_131_20, zr_131_21, zr_131_22, zg_131_23, zp_131_23, zr_131_24, zg_131_25, zp_131_25, zg_131_26, zp_131_26, zr_131_27, zr_131_28, zg_131_29, zp_131_29, zg_131_30, zp_131_30, zr_131_31, zr_131_32, zr_131_33, zr_131_34, zr_131_35, zi_131, za_132, zs_132, zl_132, za_133, zs_133, zl_133, za_134, zs_134, zl_134, za_135, zs_135, zl_135, za_136, zs_136, zl_136, za_137, zs_137, zl_137, za_138, zs_138, zl_138, za_139, zs_139, zl_139, za_140, zs_140, zl_140, za_141, zs_141, zl_141, za_142, zs_142, zl_142, za_143, zs_143, zl_143, za_144, zs_144, zl_144, za_145, zs_145, zl_145, za_146, zs_146, zl_146, za_147, zs_147, zl_147, za_148, zs_148, zl_148, za_149, zs_149, zl_149, za_150, zs_150, zl_150, za_151, zs_151, zl_151, za_152, zs_152, zl_152, za_153, zs_153, zl_153, za_154, zs_154, zl_154, zz_0, zz_31, zz_add, zz_sub, zz_mul, zz_neg, zz_lt, zz_le, zz_eq, zz_div, zz_md, zz_dv, zz_abs, zz_max, zz_min, zz_nI, zz_be0, zz_be1, zz_zb, zz_z, zz_l0, zz_l, zz_lcmp, zo_rf, zo_nl, zo_nn, zo_rI, zo_rL, zo_rR, zo_rV, Int.add_zero, Int.zero_add, Int.mul_zero, Int.zero_mul, Int.one_mul, Int.mul_one, if_true, if_false, not_true_eq_false, not_false_eq_true]
    try (refine zz_Ei (fun h => absurd (show (1 : Int) = 0 from h) (by omega)) (fun _ => ?_))
    exact r_147l (by omega) hL ht hf f0 f1 m (i + 1) (B i - 48) 1 (by omega) (by omega) (by omega) (by
      rcases (show m = 0 ∨ m = 1 ∨ m = 2 by omega) with rfl | rfl | rfl <;> omega) hm (by omega) (by omega) (by omega)
  · intro hdgi
    rw [zz_b_f hdgi] at r145
    refine zz_c (zz_call (by omega) t_147 rfl (fun n => e_147 _ _ _) ?_)
    simp (maxSteps := 5000000) (disch := first | assumption | omega) only [r145, zz_z, zr_131_0, zr_131_1, zr_131_2, zr_131_3, zr_131_4, zr_131_5, zr_131_6, zr_131_7, zr_131_8, zg_131_9, zp_131_9, zg_131_10, zp_131_10, zg_131_11, zp_131_11, zg_131_12, zp_131_12, zg_131_13, zp_131_13, zg_131_14, zp_131_14, zr_131_15, zg_131_16, zp_131_16, zg_131_17, zp_131_17, zr_131_18, zr_131_19, zr_131_20, zr_131_21, zr_131_22, zg_131_23, zp_131_23, zr_131_24, zg_131_25, zp_131_25, zg_131_26, zp_131_26, zr_131_27, zr_131_28, zg_131_29, zp_131_29, zg_131_30, zp_131_30, zr_131_31, zr_131_32, zr_131_33, zr_131_34, zr_131_35, zi_131, za_132, zs_132, zl_132, za_133, zs_133, zl_133, za_134, zs_134, zl_134, za_135, zs_135, zl_135, za_136, zs_136, zl_136, za_137, zs_137, zl_137, za_138, zs_138, zl_138, za_139, zs_139, zl_139, za_140, zs_140, zl_140, za_141, zs_141, zl_141, za_142, zs_142, zl_142, za_143, zs_143, zl_143, za_144, zs_144, zl_144, za_145, zs_145, zl_145, za_146, zs_146, zl_146, za_147, zs_147, zl_147, za_148, zs_148, zl_148, za_149, zs_149, zl_149, za_150, zs_150, zl_150, za_151, zs_151, zl_151, za_152, zs_152, zl_152, za_153, zs_153, zl_153, za_154, zs_154, zl_154, zz_0, zz_31, zz_add, zz_sub, zz_mul, zz_neg, zz_lt, zz_le, zz_eq, zz_div, zz_md, zz_dv, zz_abs, zz_max, zz_min, zz_nI, zz_be0, zz_be1, zz_zb, zz_z, zz_l0, zz_l, zz_lcmp, zo_rf, zo_nl, zo_nn, zo_rI, zo_rL, zo_rR, zo_rV, Int.add_zero, Int.zero_add, Int.mul_zero, Int.zero_mul, Int.one_mul, Int.mul_one, if_true, if_false, not_true_eq_false, not_false_eq_true]
    exact zz_Er rfl
/-- one item of a form -/
theorem zt_stn {c : Nat} {m : Nat} (hc : (c = 68 ∧ m = 0) ∨ (c = 78 ∧ m = 2)) (hd : 3 ≤ d) (hL : ZL T R) (ht : zt_rx J0 k B N) (hm : zt_rm J0 J i l) (i0 : 0 ≤ i) (i1 : i ≤ N) (hl : l.length < 4) :
    (mv_cax d 147 [.inr (.inr (some 131)), .inl (mv_c ((m : Int) + 1))] (zz_S T J R G) = some (some (.inl (mv_c 0)), (zz_S T J R G)) ∧ ∀ r, zt_rd B N (c :: r) i l = (false, i, l)) ∨ ∃ i' l' J', mv_cax d 147 [.inr (.inr (some 131)), .inl (mv_c ((m : Int) + 1))] (zz_S T J R G) = some (some (.inl (mv_c 1)), zz_S T J' R G) ∧ zt_rm J0 J' i' l' ∧ (0 ≤ i' ∧ i' ≤ N) ∧ l'.length = l.length + 1 ∧ ∀ r, zt_rd B N (c :: r) i l = zt_rd B N r i' l' := by
  have hm2 : m ≤ 2 := by omega
  have r147 := r_147 (T := T) (J := J) (R := R) (G := G) (d := d) (f := (l.length : Int)) (m := m) hd hL (zt_rx_m ht hm) hm.2.2.1 i0 i1 hm.2.2.2.1 (by omega) (by omega) hm2
  have hrd : ∀ r, zt_rd B N (c :: r) i l = if zt_dg B N i then zt_rd B N r (zt_nl B N m (i + 1) (B i - 48)).1 (l ++ [(zt_nl B N m (i + 1) (B i - 48)).2]) else (false, i, l) := by
    intro r
    rcases hc with ⟨rfl, rfl⟩ | ⟨rfl, rfl⟩ <;> rfl
  by_cases h : zt_dg B N i
  · right
    obtain ⟨g1, g2, g3⟩ := id h
    have := zt_nl_r (B := B) (N := N) m (i + 1) (B i - 48) (by omega) (by omega) hm2 (by
      rcases (show m = 0 ∨ m = 1 ∨ m = 2 by omega) with rfl | rfl | rfl <;> omega)
    exact ⟨_, _, _, r147.1 h, zt_rm_n hm, ⟨by omega, this.2.1⟩, by rw [List.length_append]; rfl, fun r => by rw [hrd, if_pos h]⟩
  · left
    exact ⟨r147.2 h, fun r => by rw [hrd, if_neg h]⟩
theorem zt_sts {c : Nat} (hc : c ≠ 68 ∧ c ≠ 78 ∧ c ≤ 100) (hd : 2 ≤ d) (hL : ZL T R) (ht : zt_rx J0 k B N) (hm : zt_rm J0 J i l) (i0 : 0 ≤ i) (i1 : i ≤ N) :
    (mv_cax d 146 [.inr (.inr (some 131)), .inl (mv_c (c : Int))] (zz_S T J R G) = some (some (.inl (mv_c 0)), (zz_S T J R G)) ∧ ∀ r, zt_rd B N (c :: r) i l = (false, i, l)) ∨ ∃ i' J', mv_cax d 146 [.inr (.inr (some 131)), .inl (mv_c (c : Int))] (zz_S T J R G) = some (some (.inl (mv_c 1)), zz_S T J' R G) ∧ zt_rm J0 J' i' l ∧ (0 ≤ i' ∧ i' ≤ N) ∧ ∀ r, zt_rd B N (c :: r) i l = zt_rd B N r i' l := by
  have r146 := r_146 (T := T) (J := J) (R := R) (G := G) (d := d) (c := (c : Int)) hd hL (zt_rx_m ht hm) hm.2.2.1 i0 i1 (by omega) (by omega)
  have hrd : ∀ r, zt_rd B N (c :: r) i l = if i < N ∧ B i = c then zt_rd B N r (i + 1) l else (false, i, l) := by
    intro r
    have h0 : zt_rd B N (c :: r) i l = if c = 68 then (if zt_dg B N i then zt_rd B N r (zt_nl B N 0 (i + 1) (B i - 48)).1 (l ++ [(zt_nl B N 0 (i + 1) (B i - 48)).2]) else (false, i, l)) else if c = 78 then (if zt_dg B N i then zt_rd B N r (zt_nl B N 2 (i + 1) (B i - 48)).1 (l ++ [(zt_nl B N 2 (i + 1) (B i - 48)).2]) else (false, i, l)) else if i < N ∧ B i = c then zt_rd B N r (i + 1) l else (false, i, l) := rfl
    rw [h0, if_neg hc.1, if_neg hc.2.1]
  by_cases h : i < N ∧ B i = c
  · right
    exact ⟨i + 1, _, r146.1 h, zt_rm_s hm, ⟨by omega, by omega⟩, fun r => by rw [hrd, if_pos h]⟩
  · left
    exact ⟨r146.2 h, fun r => by rw [hrd, if_neg h]⟩
theorem r_148_124 (hd : 4 ≤ d) (hL : ZL T R) (ht : zt_rx J0 k B N) (hm : zt_rm J0 J i []) (i0 : 0 ≤ i) (i1 : i ≤ N) : zz_E (fun n => mv_run (mv_cax d) mm_148 n 124 [(0, .inr (.inr (some 131)))] [] (zz_S T J R G)) (fun s => ∃ J2, s = (some (.inl (mv_c (if (zt_rd B N [68, 68, 59] i []).1 = true then 1 else 0))), zz_S T J2 R G) ∧ zt_rm J0 J2 (zt_rd B N [68, 68, 59] i []).2.1 (zt_rd B N [68, 68, 59] i []).2.2) := by
  refine zz_Es (fun n => e_148_124 _ _) ?_
  have s0 := zt_stn (T := T) (R := R) (G := G) (c := 68) (m := 0) (by omega) (d := d) (by omega) hL ht hm i0 i1 (show ([] : List Int).length < 4 by decide)
  rw [show ((0 : Nat) : Int) + 1 = 1 by omega] at s0
  rcases s0 with ⟨e0, h0⟩ | ⟨i0, l0, J0, e0, m0, ⟨b0, b0'⟩, n0, h0⟩
  · rw [h0]
    simp (maxSteps := 5000000) (disch := first | assumption | omega) only [zi_131, e0, zz_z, zz_0, zz_31, zz_add, zz_sub, zz_mul, zz_neg, zz_lt, zz_le, zz_eq, zz_div, zz_md, zz_dv, zz_abs, zz_max, zz_min, zz_nI, zz_be0, zz_be1, zz_zb, zz_z, zz_l0, zz_l, zz_lcmp, zo_rf, zo_nl, zo_nn, zo_rI, zo_rL, zo_rR, zo_rV, Int.add_zero, Int.zero_add, Int.mul_zero, Int.zero_mul, Int.one_mul, Int.mul_one, if_true, if_false, not_true_eq_false, not_false_eq_true]
    first
      | exact zz_Er ⟨_, by rw [if_neg (by decide)], hm⟩
      | (try (refine zz_Ei (fun h => absurd (show (1 : Int) = 0 from h) (by omega)) (fun _ => ?_))
         exact zz_Er ⟨_, by rw [if_neg (by decide)], hm⟩)
      | (try (refine zz_Ei (fun h => absurd (show (1 : Int) = 0 from h) (by omega)) (fun _ => ?_))
         try (refine zz_Ei (fun h => absurd (show (1 : Int) = 0 from h) (by omega)) (fun _ => ?_))
         try (refine zz_Ei (fun h => absurd (show (1 : Int) = 0 from h) (by omega)) (fun _ => ?_))
         try (refine zz_Ei (fun h => absurd (show (1 : Int) = 0 from h) (by omega)) (fun _ => ?_))
         try (refine zz_Ei (fun h => absurd (show (1 : Int) = 0 from h) (by omega)) (fun _ => ?_))
         try (refine zz_Ei (fun h => absurd (show (1 : Int) = 0 from h) (by omega)) (fun _ => ?_))
         exact zz_Er ⟨_, by rw [if_neg (by decide)], hm⟩)
  · have _u := i0
    have s1 := zt_stn (T := T) (R := R) (G := G) (c := 68) (m := 0) (by omega) (d := d) (by omega) hL ht m0 b0 b0' (by rw [n0]; decide)
    rw [show ((0 : Nat) : Int) + 1 = 1 by omega] at s1
    rcases s1 with ⟨e1, h1⟩ | ⟨i1, l1, J1, e1, m1, ⟨b1, b1'⟩, n1, h1⟩
    · rw [h0, h1]
      simp (maxSteps := 5000000) (disch := first | assumption | omega) only [zi_131, e0, e1, zz_z, zz_0, zz_31, zz_add, zz_sub, zz_mul, zz_neg, zz_lt, zz_le, zz_eq, zz_div, zz_md, zz_dv, zz_abs, zz_max, zz_min, zz_nI, zz_be0, zz_be1, zz_zb, zz_z, zz_l0, zz_l, zz_lcmp, zo_rf, zo_nl, zo_nn, zo_rI, zo_rL, zo_rR, zo_rV, Int.add_zero, Int.zero_add, Int.mul_zero, Int.zero_mul, Int.one_mul, Int.mul_one, if_true, if_false, not_true_eq_false, not_false_eq_true]
      first
        | exact zz_Er ⟨_, by rw [if_neg (by decide)], m0⟩
        | (try (refine zz_Ei (fun h => absurd (show (1 : Int) = 0 from h) (by omega)) (fun _ => ?_))
           exact zz_Er ⟨_, by rw [if_neg (by decide)], m0⟩)
        | (try (refine zz_Ei (fun h => absurd (show (1 : Int) = 0 from h) (by omega)) (fun _ => ?_))
           try (refine zz_Ei (fun h => absurd (show (1 : Int) = 0 from h) (by omega)) (fun _ => ?_))
           try (refine zz_Ei (fun h => absurd (show (1 : Int) = 0 from h) (by omega)) (fun _ => ?_))
           try (refine zz_Ei (fun h => absurd (show (1 : Int) = 0 from h) (by omega)) (fun _ => ?_))
           try (refine zz_Ei (fun h => absurd (show (1 : Int) = 0 from h) (by omega)) (fun _ => ?_))
           try (refine zz_Ei (fun h => absurd (show (1 : Int) = 0 from h) (by omega)) (fun _ => ?_))
           exact zz_Er ⟨_, by rw [if_neg (by decide)], m0⟩)
    · have _u := i0
      have s2 := zt_sts (T := T) (R := R) (G := G) (c := 59) (by omega) (d := d) (by omega) hL ht m1 b1 b1'
      rw [show ((59 : Nat) : Int) = 59 by omega] at s2
      rcases s2 with ⟨e2, h2⟩ | ⟨i2, J2, e2, m2, ⟨b2, b2'⟩, h2⟩
      · rw [h0, h1, h2]
        simp (maxSteps := 5000000) (disch := first | assumption | omega) only [zi_131, e0, e1, e2, zz_z, zz_0, zz_31, zz_add, zz_sub, zz_mul, zz_neg, zz_lt, zz_le, zz_eq, zz_div, zz_md, zz_dv, zz_abs, zz_max, zz_min, zz_nI, zz_be0, zz_be1, zz_zb, zz_z, zz_l0, zz_l, zz_lcmp, zo_rf, zo_nl, zo_nn, zo_rI, zo_rL, zo_rR, zo_rV, Int.add_zero, Int.zero_add, Int.mul_zero, Int.zero_mul, Int.one_mul, Int.mul_one, if_true, if_false, not_true_eq_false, not_false_eq_true]
        first
          | exact zz_Er ⟨_, by rw [if_neg (by decide)], m1⟩
          | (try (refine zz_Ei (fun h => absurd (show (1 : Int) = 0 from h) (by omega)) (fun _ => ?_))
             exact zz_Er ⟨_, by rw [if_neg (by decide)], m1⟩)
          | (try (refine zz_Ei (fun h => absurd (show (1 : Int) = 0 from h) (by omega)) (fun _ => ?_))
             try (refine zz_Ei (fun h => absurd (show (1 : Int) = 0 from h) (by omega)) (fun _ => ?_))
             try (refine zz_Ei (fun h => absurd (show (1 : Int) = 0 from h) (by omega)) (fun _ => ?_))
             try (refine zz_Ei (fun h => absurd (show (1 : Int) = 0 from h) (by omega)) (fun _ => ?_))
             try (refine zz_Ei (fun h => absurd (show (1 : Int) = 0 from h) (by omega)) (fun _ => ?_))
             try (refine zz_Ei (fun h => absurd (show (1 : Int) = 0 from h) (by omega)) (fun _ => ?_))
             exact zz_Er ⟨_, by rw [if_neg (by decide)], m1⟩)
      · have _u := i0
        rw [h0, h1, h2]
        simp (maxSteps := 5000000) (disch := first | assumption | omega) only [zi_131, e0, e1, e2, zz_z, zz_0, zz_31, zz_add, zz_sub, zz_mul, zz_neg, zz_lt, zz_le, zz_eq, zz_div, zz_md, zz_dv, zz_abs, zz_max, zz_min, zz_nI, zz_be0, zz_be1, zz_zb, zz_z, zz_l0, zz_l, zz_lcmp, zo_rf, zo_nl, zo_nn, zo_rI, zo_rL, zo_rR, zo_rV, Int.add_zero, Int.zero_add, Int.mul_zero, Int.zero_mul, Int.one_mul, Int.mul_one, if_true, if_false, not_true_eq_false, not_false_eq_true]
        try (refine zz_Ei (fun h => absurd (show (1 : Int) = 0 from h) (by omega)) (fun _ => ?_))
        try (refine zz_Ei (fun h => absurd (show (1 : Int) = 0 from h) (by omega)) (fun _ => ?_))
        try (refine zz_Ei (fun h => absurd (show (1 : Int) = 0 from h) (by omega)) (fun _ => ?_))
        try (refine zz_Ei (fun h => absurd (show (1 : Int) = 0 from h) (by omega)) (fun _ => ?_))
        exact zz_Er ⟨_, rfl, m2⟩
theorem r_148_149 (hd : 4 ≤ d) (hL : ZL T R) (ht : zt_rx J0 k B N) (hm : zt_rm J0 J i []) (i0 : 0 ≤ i) (i1 : i ≤ N) : zz_E (fun n => mv_run (mv_cax d) mm_148 n 149 [(0, .inr (.inr (some 131)))] [] (zz_S T J R G)) (fun s => ∃ J2, s = (some (.inl (mv_c (if (zt_rd B N [78, 32, 68, 59] i []).1 = true then 1 else 0))), zz_S T J2 R G) ∧ zt_rm J0 J2 (zt_rd B N [78, 32, 68, 59] i []).2.1 (zt_rd B N [78, 32, 68, 59] i []).2.2) := by
  refine zz_Es (fun n => e_148_149 _ _) ?_
  have s0 := zt_stn (T := T) (R := R) (G := G) (c := 78) (m := 2) (by omega) (d := d) (by omega) hL ht hm i0 i1 (show ([] : List Int).length < 4 by decide)
  rw [show ((2 : Nat) : Int) + 1 = 3 by omega] at s0
  rcases s0 with ⟨e0, h0⟩ | ⟨i0, l0, J0, e0, m0, ⟨b0, b0'⟩, n0, h0⟩
  · rw [h0]
    simp (maxSteps := 5000000) (disch := first | assumption | omega) only [zi_131, e0, zz_z, zz_0, zz_31, zz_add, zz_sub, zz_mul, zz_neg, zz_lt, zz_le, zz_eq, zz_div, zz_md, zz_dv, zz_abs, zz_max, zz_min, zz_nI, zz_be0, zz_be1, zz_zb, zz_z, zz_l0, zz_l, zz_lcmp, zo_rf, zo_nl, zo_nn, zo_rI, zo_rL, zo_rR, zo_rV, Int.add_zero, Int.zero_add, Int.mul_zero, Int.zero_mul, Int.one_mul, Int.mul_one, if_true, if_false, not_true_eq_false, not_false_eq_true]
    first
      | exact zz_Er ⟨_, by rw [if_neg (by decide)], hm⟩
      | (try (refine zz_Ei (fun h => absurd (show (1 : Int) = 0 from h) (by omega)) (fun _ => ?_))
         exact zz_Er ⟨_, by rw [if_neg (by decide)], hm⟩)
      | (try (refine zz_Ei (fun h => absurd (show (1 : Int) = 0 from h) (by omega)) (fun _ => ?_))
         try (refine zz_Ei (fun h => absurd (show (1 : Int) = 0 from h) (by omega)) (fun _ => ?_))
         try (refine zz_Ei (fun h => absurd (show (1 : Int) = 0 from h) (by omega)) (fun _ => ?_))
         try (refine zz_Ei (fun h => absurd (show (1 : Int) = 0 from h) (by omega)) (fun _ => ?_))
         try (refine zz_Ei (fun h => absurd (show (1 : Int) = 0 from h) (by omega)) (fun _ => ?_))
         try (refine zz_Ei (fun h => absurd (show (1 : Int) = 0 from h) (by omega)) (fun _ => ?_))
         exact zz_Er ⟨_, by rw [if_neg (by decide)], hm⟩)
  · have _u := i0
    have s1 := zt_sts (T := T) (R := R) (G := G) (c := 32) (by omega) (d := d) (by omega) hL ht m0 b0 b0'
    rw [show ((32 : Nat) : Int) = 32 by omega] at s1
    rcases s1 with ⟨e1, h1⟩ | ⟨i1, J1, e1, m1, ⟨b1, b1'⟩, h1⟩
    · rw [h0, h1]
      simp (maxSteps := 5000000) (disch := first | assumption | omega) only [zi_131, e0, e1, zz_z, zz_0, zz_31, zz_add, zz_sub, zz_mul, zz_neg, zz_lt, zz_le, zz_eq, zz_div, zz_md, zz_dv, zz_abs, zz_max, zz_min, zz_nI, zz_be0, zz_be1, zz_zb, zz_z, zz_l0, zz_l, zz_lcmp, zo_rf, zo_nl, zo_nn, zo_rI, zo_rL, zo_rR, zo_rV, Int.add_zero, Int.zero_add, Int.mul_zero, Int.zero_mul, Int.one_mul, Int.mul_one, if_true, if_false, not_true_eq_false, not_false_eq_true]
      first
        | exact zz_Er ⟨_, by rw [if_neg (by decide)], m0⟩
        | (try (refine zz_Ei (fun h => absurd (show (1 : Int) = 0 from h) (by omega)) (fun _ => ?_))
           exact zz_Er ⟨_, by rw [if_neg (by decide)], m0⟩)
        | (try (refine zz_Ei (fun h => absurd (show (1 : Int) = 0 from h) (by omega)) (fun _ => ?_))
           try (refine zz_Ei (fun h => absurd (show (1 : Int) = 0 from h) (by omega)) (fun _ => ?_))
           try (refine zz_Ei (fun h => absurd (show (1 : Int) = 0 from h) (by omega)) (fun _ => ?_))
           try (refine zz_Ei (fun h => absurd (show (1 : Int) = 0 from h) (by omega)) (fun _ => ?_))
           try (refine zz_Ei (fun h => absurd (show (1 : Int) = 0 from h) (by omega)) (fun _ => ?_))
           try (refine zz_Ei (fun h => absurd (show (1 : Int) = 0 from h) (by omega)) (fun _ => ?_))
           exact zz_Er ⟨_, by rw [if_neg (by decide)], m0⟩)
    · have _u := i0
      have s2 := zt_stn (T := T) (R := R) (G := G) (c := 68) (m := 0) (by omega) (d := d) (by omega) hL ht m1 b1 b1' (by rw [n0]; decide)
      rw [show ((0 : Nat) : Int) + 1 = 1 by omega] at s2
      rcases s2 with ⟨e2, h2⟩ | ⟨i2, l2, J2, e2, m2, ⟨b2, b2'⟩, n2, h2⟩
      · rw [h0, h1, h2]
        simp (maxSteps := 5000000) (disch := first | assumption | omega) only [zi_131, e0, e1, e2, zz_z, zz_0, zz_31, zz_add, zz_sub, zz_mul, zz_neg, zz_lt, zz_le, zz_eq, zz_div, zz_md, zz_dv, zz_abs, zz_max, zz_min, zz_nI, zz_be0, zz_be1, zz_zb, zz_z, zz_l0, zz_l, zz_lcmp, zo_rf, zo_nl, zo_nn, zo_rI, zo_rL, zo_rR, zo_rV, Int.add_zero, Int.zero_add, Int.mul_zero, Int.zero_mul, Int.one_mul, Int.mul_one, if_true, if_false, not_true_eq_false, not_false_eq_true]
        first
          | exact zz_Er ⟨_, by rw [if_neg (by decide)], m1⟩
          | (try (refine zz_Ei (fun h => absurd (show (1 : Int) = 0 from h) (by omega)) (fun _ => ?_))
             exact zz_Er ⟨_, by rw [if_neg (by decide)], m1⟩)
          | (try (refine zz_Ei (fun h => absurd (show (1 : Int) = 0 from h) (by omega)) (fun _ => ?_))
             try (refine zz_Ei (fun h => absurd (show (1 : Int) = 0 from h) (by omega)) (fun _ => ?_))
             try (refine zz_Ei (fun h => absurd (show (1 : Int) = 0 from h) (by omega)) (fun _ => ?_))
             try (refine zz_Ei (fun h => absurd (show (1 : Int) = 0 from h) (by omega)) (fun _ => ?_))
             try (refine zz_Ei (fun h => absurd (show (1 : Int) = 0 from h) (by omega)) (fun _ => ?_))
             try (refine zz_Ei (fun h => absurd (show (1 : Int) = 0 from h) (by omega)) (fun _ => ?_))
             exact zz_Er ⟨_, by rw [if_neg (by decide)], m1⟩)
      · have _u := i0
        have s3 := zt_sts (T := T) (R := R) (G := G) (c := 59) (by omega) (d := d) (by omega) hL ht m2 b2 b2'
        rw [show ((59 : Nat) : Int) = 59 by omega] at s3
        rcases s3 with ⟨e3, h3⟩ | ⟨i3, J3, e3, m3, ⟨b3, b3'⟩, h3⟩
        · rw [h0, h1, h2, h3]
          simp (maxSteps := 5000000) (disch := first | assumption | omega) only [zi_131, e0, e1, e2, e3, zz_z, zz_0, zz_31, zz_add, zz_sub, zz_mul, zz_neg, zz_lt, zz_le, zz_eq, zz_div, zz_md, zz_dv, zz_abs, zz_max, zz_min, zz_nI, zz_be0, zz_be1, zz_zb, zz_z, zz_l0, zz_l, zz_lcmp, zo_rf, zo_nl, zo_nn, zo_rI, zo_rL, zo_rR, zo_rV, Int.add_zero, Int.zero_add, Int.mul_zero, Int.zero_mul, Int.one_mul, Int.mul_one, if_true, if_false, not_true_eq_false, not_false_eq_true]
          first
            | exact zz_Er ⟨_, by rw [if_neg (by decide)], m2⟩
            | (try (refine zz_Ei (fun h => absurd (show (1 : Int) = 0 from h) (by omega)) (fun _ => ?_))
               exact zz_Er ⟨_, by rw [if_neg (by decide)], m2⟩)
            | (try (refine zz_Ei (fun h => absurd (show (1 : Int) = 0 from h) (by omega)) (fun _ => ?_))
               try (refine zz_Ei (fun h => absurd (show (1 : Int) = 0 from h) (by omega)) (fun _ => ?_))
               try (refine zz_Ei (fun h => absurd (show (1 : Int) = 0 from h) (by omega)) (fun _ => ?_))
               try (refine zz_Ei (fun h => absurd (show (1 : Int) = 0 from h) (by omega)) (fun _ => ?_))
               try (refine zz_Ei (fun h => absurd (show (1 : Int) = 0 from h) (by omega)) (fun _ => ?_))
               try (refine zz_Ei (fun h => absurd (show (1 : Int) = 0 from h) (by omega)) (fun _ => ?_))
               exact zz_Er ⟨_, by rw [if_neg (by decide)], m2⟩)
        · have _u := i0
          rw [h0, h1, h2, h3]
          simp (maxSteps := 5000000) (disch := first | assumption | omega) only [zi_131, e0, e1, e2, e3, zz_z, zz_0, zz_31, zz_add, zz_sub, zz_mul, zz_neg, zz_lt, zz_le, zz_eq, zz_div, zz_md, zz_dv, zz_abs, zz_max, zz_min, zz_nI, zz_be0, zz_be1, zz_zb, zz_z, zz_l0, zz_l, zz_lcmp, zo_rf, zo_nl, zo_nn, zo_rI, zo_rL, zo_rR, zo_rV, Int.add_zero, Int.zero_add, Int.mul_zero, Int.zero_mul, Int.one_mul, Int.mul_one, if_true, if_false, not_true_eq_false, not_false_eq_true]
          try (refine zz_Ei (fun h => absurd (show (1 : Int) = 0 from h) (by omega)) (fun _ => ?_))
          try (refine zz_Ei (fun h => absurd (show (1 : Int) = 0 from h) (by omega)) (fun _ => ?_))
          try (refine zz_Ei (fun h => absurd (show (1 : Int) = 0 from h) (by omega)) (fun _ => ?_))
          try (refine zz_Ei (fun h => absurd (show (1 : Int) = 0 from h) (by omega)) (fun _ => ?_))
          try (refine zz_Ei (fun h => absurd (show (1 : Int) = 0 from h) (by omega)) (fun _ => ?_))
          exact zz_Er ⟨_, rfl, m3⟩
theorem r_148_183 (hd : 4 ≤ d) (hL : ZL T R) (ht : zt_rx J0 k B N) (hm : zt_rm J0 J i []) (i0 : 0 ≤ i) (i1 : i ≤ N) : zz_E (fun n => mv_run (mv_cax d) mm_148 n 183 [(0, .inr (.inr (some 131)))] [] (zz_S T J R G)) (fun s => ∃ J2, s = (some (.inl (mv_c (if (zt_rd B N [78, 59] i []).1 = true then 1 else 0))), zz_S T J2 R G) ∧ zt_rm J0 J2 (zt_rd B N [78, 59] i []).2.1 (zt_rd B N [78, 59] i []).2.2) := by
  refine zz_Es (fun n => e_148_183 _ _) ?_
  have s0 := zt_stn (T := T) (R := R) (G := G) (c := 78) (m := 2) (by omega) (d := d) (by omega) hL ht hm i0 i1 (show ([] : List Int).length < 4 by decide)
  rw [show ((2 : Nat) : Int) + 1 = 3 by omega] at s0
  rcases s0 with ⟨e0, h0⟩ | ⟨i0, l0, J0, e0, m0, ⟨b0, b0'⟩, n0, h0⟩
  · rw [h0]
    simp (maxSteps := 5000000) (disch := first | assumption | omega) only [zi_131, e0, zz_z, zz_0, zz_31, zz_add, zz_sub, zz_mul, zz_neg, zz_lt, zz_le, zz_eq, zz_div, zz_md, zz_dv, zz_abs, zz_max, zz_min, zz_nI, zz_be0, zz_be1, zz_zb, zz_z, zz_l0, zz_l, zz_lcmp, zo_rf, zo_nl, zo_nn, zo_rI, zo_rL, zo_rR, zo_rV, Int.add_zero, Int.zero_add, Int.mul_zero, Int.zero_mul, Int.one_mul, Int.mul_one, if_true, if_false, not_true_eq_false, not_false_eq_true]
    first
      | exact zz_Er ⟨_, by rw [if_neg (by decide)], hm⟩
      | (try (refine zz_Ei (fun h => absurd (show (1 : Int) = 0 from h) (by omega)) (fun _ => ?_))
         exact zz_Er ⟨_, by rw [if_neg (by decide)], hm⟩)
      | (try (refine zz_Ei (fun h => absurd (show (1 : Int) = 0 from h) (by omega)) (fun _ => ?_))
         try (refine zz_Ei (fun h => absurd (show (1 : Int) = 0 from h) (by omega)) (fun _ => ?_))
         try (refine zz_Ei (fun h => absurd (show (1 : Int) = 0 from h) (by omega)) (fun _ => ?_))
         try (refine zz_Ei (fun h => absurd (show (1 : Int) = 0 from h) (by omega)) (fun _ => ?_))
         try (refine zz_Ei (fun h => absurd (show (1 : Int) = 0 from h) (by omega)) (fun _ => ?_))
         try (refine zz_Ei (fun h => absurd (show (1 : Int) = 0 from h) (by omega)) (fun _ => ?_))
         exact zz_Er ⟨_, by rw [if_neg (by decide)], hm⟩)
  · have _u := i0
    have s1 := zt_sts (T := T) (R := R) (G := G) (c := 59) (by omega) (d := d) (by omega) hL ht m0 b0 b0'
    rw [show ((59 : Nat) : Int) = 59 by omega] at s1
    rcases s1 with ⟨e1, h1⟩ | ⟨i1, J1, e1, m1, ⟨b1, b1'⟩, h1⟩
    · rw [h0, h1]
      simp (maxSteps := 5000000) (disch := first | assumption | omega) only [zi_131, e0, e1, zz_z, zz_0, zz_31, zz_add, zz_sub, zz_mul, zz_neg, zz_lt, zz_le, zz_eq, zz_div, zz_md, zz_dv, zz_abs, zz_max, zz_min, zz_nI, zz_be0, zz_be1, zz_zb, zz_z, zz_l0, zz_l, zz_lcmp, zo_rf, zo_nl, zo_nn, zo_rI, zo_rL, zo_rR, zo_rV, Int.add_zero, Int.zero_add, Int.mul_zero, Int.zero_mul, Int.one_mul, Int.mul_one, if_true, if_false, not_true_eq_false, not_false_eq_true]
      first
        | exact zz_Er ⟨_, by rw [if_neg (by decide)], m0⟩
        | (try (refine zz_Ei (fun h => absurd (show (1 : Int) = 0 from h) (by omega)) (fun _ => ?_))
           exact zz_Er ⟨_, by rw [if_neg (by decide)], m0⟩)
        | (try (refine zz_Ei (fun h => absurd (show (1 : Int) = 0 from h) (by omega)) (fun _ => ?_))
           try (refine zz_Ei (fun h => absurd (show (1 : Int) = 0 from h) (by omega)) (fun _ => ?_))
           try (refine zz_Ei (fun h => absurd (show (1 : Int) = 0 from h) (by omega)) (fun _ => ?_))
           try (refine zz_Ei (fun h => absurd (show (1 : Int) = 0 from h) (by omega)) (fun _ => ?_))
           try (refine zz_Ei (fun h => absurd (show (1 : Int) = 0 from h) (by omega)) (fun _ => ?_))
           try (refine zz_Ei (fun h => absurd (show (1 : Int) = 0 from h) (by omega)) (fun _ => ?_))
           exact zz_Er ⟨_, by rw [if_neg (by decide)], m0⟩)
    · have _u := i0
      rw [h0, h1]
      simp (maxSteps := 5000000) (disch := first | assumption | omega) only [zi_131, e0, e1, zz_z, zz_0, zz_31, zz_add, zz_sub, zz_mul, zz_neg, zz_lt, zz_le, zz_eq, zz_div, zz_md, zz_dv, zz_abs, zz_max, zz_min, zz_nI, zz_be0, zz_be1, zz_zb, zz_z, zz_l0, zz_l, zz_lcmp, zo_rf, zo_nl, zo_nn, zo_rI, zo_rL, zo_rR, zo_rV, Int.add_zero, Int.zero_add, Int.mul_zero, Int.zero_mul, Int.one_mul, Int.mul_one, if_true, if_false, not_true_eq_false, not_false_eq_true]
      try (refine zz_Ei (fun h => absurd (show (1 : Int) = 0 from h) (by omega)) (fun _ => ?_))
      try (refine zz_Ei (fun h => absurd (show (1 : Int) = 0 from h) (by omega)) (fun _ => ?_))
      try (refine zz_Ei (fun h => absurd (show (1 : Int) = 0 from h) (by omega)) (fun _ => ?_))
      exact zz_Er ⟨_, rfl, m1⟩
theorem r_148_192 (hd : 4 ≤ d) (hL : ZL T R) (ht : zt_rx J0 k B N) (hm : zt_rm J0 J i []) (i0 : 0 ≤ i) (i1 : i ≤ N) : zz_E (fun n => mv_run (mv_cax d) mm_148 n 192 [(0, .inr (.inr (some 131)))] [] (zz_S T J R G)) (fun s => ∃ J2, s = (some (.inl (mv_c (if (zt_rd B N [68, 59] i []).1 = true then 1 else 0))), zz_S T J2 R G) ∧ zt_rm J0 J2 (zt_rd B N [68, 59] i []).2.1 (zt_rd B N [68, 59] i []).2.2) := by
  refine zz_Es (fun n => e_148_192 _ _) ?_
  have s0 := zt_stn (T := T) (R := R) (G := G) (c := 68) (m := 0) (by omega) (d := d) (by omega) hL ht hm i0 i1 (show ([] : List Int).length < 4 by decide)
  rw [show ((0 : Nat) : Int) + 1 = 1 by omega] at s0
  rcases s0 with ⟨e0, h0⟩ | ⟨i0, l0, J0, e0, m0, ⟨b0, b0'⟩, n0, h0⟩
  · rw [h0]
    simp (maxSteps := 5000000) (disch := first | assumption | omega) only [zi_131, e0, zz_z, zz_0, zz_31, zz_add, zz_sub, zz_mul, zz_neg, zz_lt, zz_le, zz_eq, zz_div, zz_md, zz_dv, zz_abs, zz_max, zz_min, zz_nI, zz_be0, zz_be1, zz_zb, zz_z, zz_l0, zz_l, zz_lcmp, zo_rf, zo_nl, zo_nn, zo_rI, zo_rL, zo_rR, zo_rV, Int.add_zero, Int.zero_add, Int.mul_zero, Int.zero_mul, Int.one_mul, Int.mul_one, if_true, if_false, not_true_eq_false, not_false_eq_true]
    first
      | exact zz_Er ⟨_, by rw [if_neg (by decide)], hm⟩
      | (try (refine zz_Ei (fun h => absurd (show (1 : Int) = 0 from h) (by omega)) (fun _ => ?_))
         exact zz_Er ⟨_, by rw [if_neg (by decide)], hm⟩)
      | (try (refine zz_Ei (fun h => absurd (show (1 : Int) = 0 from h) (by omega)) (fun _ => ?_))
         try (refine zz_Ei (fun h => absurd (show (1 : Int) = 0 from h) (by omega)) (fun _ => ?_))
         try (refine zz_Ei (fun h => absurd (show (1 : Int) = 0 from h) (by omega)) (fun _ => ?_))
         try (refine zz_Ei (fun h => absurd (show (1 : Int) = 0 from h) (by omega)) (fun _ => ?_))
         try (refine zz_Ei (fun h => absurd (show (1 : Int) = 0 from h) (by omega)) (fun _ => ?_))
         try (refine zz_Ei (fun h => absurd (show (1 : Int) = 0 from h) (by omega)) (fun _ => ?_))
         exact zz_Er ⟨_, by rw [if_neg (by decide)], hm⟩)
  · have _u := i0
    have s1 := zt_sts (T := T) (R := R) (G := G) (c := 59) (by omega) (d := d) (by omega) hL ht m0 b0 b0'
    rw [show ((59 : Nat) : Int) = 59 by omega] at s1
    rcases s1 with ⟨e1, h1⟩ | ⟨i1, J1, e1, m1, ⟨b1, b1'⟩, h1⟩
    · rw [h0, h1]
      simp (maxSteps := 5000000) (disch := first | assumption | omega) only [zi_131, e0, e1, zz_z, zz_0, zz_31, zz_add, zz_sub, zz_mul, zz_neg, zz_lt, zz_le, zz_eq, zz_div, zz_md, zz_dv, zz_abs, zz_max, zz_min, zz_nI, zz_be0, zz_be1, zz_zb, zz_z, zz_l0, zz_l, zz_lcmp, zo_rf, zo_nl, zo_nn, zo_rI, zo_rL, zo_rR, zo_rV, Int.add_zero, Int.zero_add, Int.mul_zero, Int.zero_mul, Int.one_mul, Int.mul_one, if_true, if_false, not_true_eq_false, not_false_eq_true]
      first
        | exact zz_Er ⟨_, by rw [if_neg (by decide)], m0⟩
        | (try (refine zz_Ei (fun h => absurd (show (1 : Int) = 0 from h) (by omega)) (fun _ => ?_))
           exact zz_Er ⟨_, by rw [if_neg (by decide)], m0⟩)
        | (try (refine zz_Ei (fun h => absurd (show (1 : Int) = 0 from h) (by omega)) (fun _ => ?_))
           try (refine zz_Ei (fun h => absurd (show (1 : Int) = 0 from h) (by omega)) (fun _ => ?_))
           try (refine zz_Ei (fun h => absurd (show (1 : Int) = 0 from h) (by omega)) (fun _ => ?_))
           try (refine zz_Ei (fun h => absurd (show (1 : Int) = 0 from h) (by omega)) (fun _ => ?_))
           try (refine zz_Ei (fun h => absurd (show (1 : Int) = 0 from h) (by omega)) (fun _ => ?_))
           try (refine zz_Ei (fun h => absurd (show (1 : Int) = 0 from h) (by omega)) (fun _ => ?_))
           exact zz_Er ⟨_, by rw [if_neg (by decide)], m0⟩)
    · have _u := i0
      rw [h0, h1]
      simp (maxSteps := 5000000) (disch := first | assumption | omega) only [zi_131, e0, e1, zz_z, zz_0, zz_31, zz_add, zz_sub, zz_mul, zz_neg, zz_lt, zz_le, zz_eq, zz_div, zz_md, zz_dv, zz_abs, zz_max, zz_min, zz_nI, zz_be0, zz_be1, zz_zb, zz_z, zz_l0, zz_l, zz_lcmp, zo_rf, zo_nl, zo_nn, zo_rI, zo_rL, zo_rR, zo_rV, Int.add_zero, Int.zero_add, Int.mul_zero, Int.zero_mul, Int.one_mul, Int.mul_one, if_true, if_false, not_true_eq_false, not_false_eq_true]
      try (refine zz_Ei (fun h => absurd (show (1 : Int) = 0 from h) (by omega)) (fun _ => ?_))
      try (refine zz_Ei (fun h => absurd (show (1 : Int) = 0 from h) (by omega)) (fun _ => ?_))
      try (refine zz_Ei (fun h => absurd (show (1 : Int) = 0 from h) (by omega)) (fun _ => ?_))
      exact zz_Er ⟨_, rfl, m1⟩
theorem r_148_201 (hd : 4 ≤ d) (hL : ZL T R) (ht : zt_rx J0 k B N) (hm : zt_rm J0 J i []) (i0 : 0 ≤ i) (i1 : i ≤ N) : zz_E (fun n => mv_run (mv_cax d) mm_148 n 201 [(0, .inr (.inr (some 131)))] [] (zz_S T J R G)) (fun s => ∃ J2, s = (some (.inl (mv_c (if (zt_rd B N [68, 78, 32, 68, 78, 59] i []).1 = true then 1 else 0))), zz_S T J2 R G) ∧ zt_rm J0 J2 (zt_rd B N [68, 78, 32, 68, 78, 59] i []).2.1 (zt_rd B N [68, 78, 32, 68, 78, 59] i []).2.2) := by
  refine zz_Es (fun n => e_148_201 _ _) ?_
  have s0 := zt_stn (T := T) (R := R) (G := G) (c := 68) (m := 0) (by omega) (d := d) (by omega) hL ht hm i0 i1 (show ([] : List Int).length < 4 by decide)
  rw [show ((0 : Nat) : Int) + 1 = 1 by omega] at s0
  rcases s0 with ⟨e0, h0⟩ | ⟨i0, l0, J0, e0, m0, ⟨b0, b0'⟩, n0, h0⟩
  · rw [h0]
    simp (maxSteps := 5000000) (disch := first | assumption | omega) only [zi_131, e0, zz_z, zz_0, zz_31, zz_add, zz_sub, zz_mul, zz_neg, zz_lt, zz_le, zz_eq, zz_div, zz_md, zz_dv, zz_abs, zz_max, zz_min, zz_nI, zz_be0, zz_be1, zz_zb, zz_z, zz_l0, zz_l, zz_lcmp, zo_rf, zo_nl, zo_nn, zo_rI, zo_rL, zo_rR, zo_rV, Int.add_zero, Int.zero_add, Int.mul_zero, Int.zero_mul, Int.one_mul, Int.mul_one, if_true, if_false, not_true_eq_false, not_false_eq_true]
    first
      | exact zz_Er ⟨_, by rw [if_neg (by decide)], hm⟩
      | (try (refine zz_Ei (fun h => absurd (show (1 : Int) = 0 from h) (by omega)) (fun _ => ?_))
         exact zz_Er ⟨_, by rw [if_neg (by decide)], hm⟩)
      | (try (refine zz_Ei (fun h => absurd (show (1 : Int) = 0 from h) (by omega)) (fun _ => ?_))
         try (refine zz_Ei (fun h => absurd (show (1 : Int) = 0 from h) (by omega)) (fun _ => ?_))
         try (refine zz_Ei (fun h => absurd (show (1 : Int) = 0 from h) (by omega)) (fun _ => ?_))
         try (refine zz_Ei (fun h => absurd (show (1 : Int) = 0 from h) (by omega)) (fun _ => ?_))
         try (refine zz_Ei (fun h => absurd (show (1 : Int) = 0 from h) (by omega)) (fun _ => ?_))
         try (refine zz_Ei (fun h => absurd (show (1 : Int) = 0 from h) (by omega)) (fun _ => ?_))
         exact zz_Er ⟨_, by rw [if_neg (by decide)], hm⟩)
  · have _u := i0
    have s1 := zt_stn (T := T) (R := R) (G := G) (c := 78) (m := 2) (by omega) (d := d) (by omega) hL ht m0 b0 b0' (by rw [n0]; decide)
    rw [show ((2 : Nat) : Int) + 1 = 3 by omega] at s1
    rcases s1 with ⟨e1, h1⟩ | ⟨i1, l1, J1, e1, m1, ⟨b1, b1'⟩, n1, h1⟩
    · rw [h0, h1]
      simp (maxSteps := 5000000) (disch := first | assumption | omega) only [zi_131, e0, e1, zz_z, zz_0, zz_31, zz_add, zz_sub, zz_mul, zz_neg, zz_lt, zz_le, zz_eq, zz_div, zz_md, zz_dv, zz_abs, zz_max, zz_min, zz_nI, zz_be0, zz_be1, zz_zb, zz_z, zz_l0, zz_l, zz_lcmp, zo_rf, zo_nl, zo_nn, zo_rI, zo_rL, zo_rR, zo_rV, Int.add_zero, Int.zero_add, Int.mul_zero, Int.zero_mul, Int.one_mul, Int.mul_one, if_true, if_false, not_true_eq_false, not_false_eq_true]
      first
        | exact zz_Er ⟨_, by rw [if_neg (by decide)], m0⟩
        | (try (refine zz_Ei (fun h => absurd (show (1 : Int) = 0 from h) (by omega)) (fun _ => ?_))
           exact zz_Er ⟨_, by rw [if_neg (by decide)], m0⟩)
        | (try (refine zz_Ei (fun h => absurd (show (1 : Int) = 0 from h) (by omega)) (fun _ => ?_))
           try (refine zz_Ei (fun h => absurd (show (1 : Int) = 0 from h) (by omega)) (fun _ => ?_))
           try (refine zz_Ei (fun h => absurd (show (1 : Int) = 0 from h) (by omega)) (fun _ => ?_))
           try (refine zz_Ei (fun h => absurd (show (1 : Int) = 0 from h) (by omega)) (fun _ => ?_))
           try (refine zz_Ei (fun h => absurd (show (1 : Int) = 0 from h) (by omega)) (fun _ => ?_))
           try (refine zz_Ei (fun h => absurd (show (1 : Int) = 0 from h) (by omega)) (fun _ => ?_))
           exact zz_Er ⟨_, by rw [if_neg (by decide)], m0⟩)
    · have _u := i0
      have s2 := zt_sts (T := T) (R := R) (G := G) (c := 32) (by omega) (d := d) (by omega) hL ht m1 b1 b1'
      rw [show ((32 : Nat) : Int) = 32 by omega] at s2
      rcases s2 with ⟨e2, h2⟩ | ⟨i2, J2, e2, m2, ⟨b2, b2'⟩, h2⟩
      · rw [h0, h1, h2]
        simp (maxSteps := 5000000) (disch := first | assumption | omega) only [zi_131, e0, e1, e2, zz_z, zz_0, zz_31, zz_add, zz_sub, zz_mul, zz_neg, zz_lt, zz_le, zz_eq, zz_div, zz_md, zz_dv, zz_abs, zz_max, zz_min, zz_nI, zz_be0, zz_be1, zz_zb, zz_z, zz_l0, zz_l, zz_lcmp, zo_rf, zo_nl, zo_nn, zo_rI, zo_rL, zo_rR, zo_rV, Int.add_zero, Int.zero_add, Int.mul_zero, Int.zero_mul, Int.one_mul, Int.mul_one, if_true, if_false, not_true_eq_false, not_false_eq_true]
        first
          | exact zz_Er ⟨_, by rw [if_neg (by decide)], m1⟩
          | (try (refine zz_Ei (fun h => absurd (show (1 : Int) = 0 from h) (by omega)) (fun _ => ?_))
             exact zz_Er ⟨_, by rw [if_neg (by decide)], m1⟩)
          | (try (refine zz_Ei (fun h => absurd (show (1 : Int) = 0 from h) (by omega)) (fun _ => ?_))
             try (refine zz_Ei (fun h => absurd (show (1 : Int) = 0 from h) (by omega)) (fun _ => ?_))
             try (refine zz_Ei (fun h => absurd (show (1 : Int) = 0 from h) (by omega)) (fun _ => ?_))
             try (refine zz_Ei (fun h => absurd (show (1 : Int) = 0 from h) (by omega)) (fun _ => ?_))
             try (refine zz_Ei (fun h => absurd (show (1 : Int) = 0 from h) (by omega)) (fun _ => ?_))
             try (refine zz_Ei (fun h => absurd (show (1 : Int) = 0 from h) (by omega)) (fun _ => ?_))
             exact zz_Er ⟨_, by rw [if_neg (by decide)], m1⟩)
      · have _u := i0
        have s3 := zt_stn (T := T) (R := R) (G := G) (c := 68) (m := 0) (by omega) (d := d) (by omega) hL ht m2 b2 b2' (by rw [n1, n0]; decide)
        rw [show ((0 : Nat) : Int) + 1 = 1 by omega] at s3
        rcases s3 with ⟨e3, h3⟩ | ⟨i3, l3, J3, e3, m3, ⟨b3, b3'⟩, n3, h3⟩
        · rw [h0, h1, h2, h3]
          simp (maxSteps := 5000000) (disch := first | assumption | omega) only [zi_131, e0, e1, e2, e3, zz_z, zz_0, zz_31, zz_add, zz_sub, zz_mul, zz_neg, zz_lt, zz_le, zz_eq, zz_div, zz_md, zz_dv, zz_abs, zz_max, zz_min, zz_nI, zz_be0, zz_be1, zz_zb, zz_z, zz_l0, zz_l, zz_lcmp, zo_rf, zo_nl, zo_nn, zo_rI, zo_rL, zo_rR, zo_rV, Int.add_zero, Int.zero_add, Int.mul_zero, Int.zero_mul, Int.one_mul, Int.mul_one, if_true, if_false, not_true_eq_false, not_false_eq_true]
          first
            | exact zz_Er ⟨_, by rw [if_neg (by decide)], m2⟩
            | (try (refine zz_Ei (fun h => absurd (show (1 : Int) = 0 from h) (by omega)) (fun _ => ?_))
               exact zz_Er ⟨_, by rw [if_neg (by decide)], m2⟩)
            | (try (refine zz_Ei (fun h => absurd (show (1 : Int) = 0 from h) (by omega)) (fun _ => ?_))
               try (refine zz_Ei (fun h => absurd (show (1 : Int) = 0 from h) (by omega)) (fun _ => ?_))
               try (refine zz_Ei (fun h => absurd (show (1 : Int) = 0 from h) (by omega)) (fun _ => ?_))
               try (refine zz_Ei (fun h => absurd (show (1 : Int) = 0 from h) (by omega)) (fun _ => ?_))
               try (refine zz_Ei (fun h => absurd (show (1 : Int) = 0 from h) (by omega)) (fun _ => ?_))
               try (refine zz_Ei (fun h => absurd (show (1 : Int) = 0 from h) (by omega)) (fun _ => ?_))
               exact zz_Er ⟨_, by rw [if_neg (by decide)], m2⟩)
        · have _u := i0
          have s4 := zt_stn (T := T) (R := R) (G := G) (c := 78) (m := 2) (by omega) (d := d) (by omega) hL ht m3 b3 b3' (by rw [n3, n1, n0]; decide)
          rw [show ((2 : Nat) : Int) + 1 = 3 by omega] at s4
          rcases s4 with ⟨e4, h4⟩ | ⟨i4, l4, J4, e4, m4, ⟨b4, b4'⟩, n4, h4⟩
          · rw [h0, h1, h2, h3, h4]
            simp (maxSteps := 5000000) (disch := first | assumption | omega) only [zi_131, e0, e1, e2, e3, e4, zz_z, zz_0, zz_31, zz_add, zz_sub, zz_mul, zz_neg, zz_lt, zz_le, zz_eq, zz_div, zz_md, zz_dv, zz_abs, zz_max, zz_min, zz_nI, zz_be0, zz_be1, zz_zb, zz_z, zz_l0, zz_l, zz_lcmp, zo_rf, zo_nl, zo_nn, zo_rI, zo_rL, zo_rR, zo_rV, Int.add_zero, Int.zero_add, Int.mul_zero, Int.zero_mul, Int.one_mul, Int.mul_one, if_true, if_false, not_true_eq_false, not_false_eq_true]
            first
              | exact zz_Er ⟨_, by rw [if_neg (by decide)], m3⟩
              | (try (refine zz_Ei (fun h => absurd (show (1 : Int) = 0 from h) (by omega)) (fun _ => ?_))
                 exact zz_Er ⟨_, by rw [if_neg (by decide)], m3⟩)
              | (try (refine zz_Ei (fun h => absurd (show (1 : Int) = 0 from h) (by omega)) (fun _ => ?_))
                 try (refine zz_Ei (fun h => absurd (show (1 : Int) = 0 from h) (by omega)) (fun _ => ?_))
                 try (refine zz_Ei (fun h => absurd (show (1 : Int) = 0 from h) (by omega)) (fun _ => ?_))
                 try (refine zz_Ei (fun h => absurd (show (1 : Int) = 0 from h) (by omega)) (fun _ => ?_))
                 try (refine zz_Ei (fun h => absurd (show (1 : Int) = 0 from h) (by omega)) (fun _ => ?_))
                 try (refine zz_Ei (fun h => absurd (show (1 : Int) = 0 from h) (by omega)) (fun _ => ?_))
                 exact zz_Er ⟨_, by rw [if_neg (by decide)], m3⟩)
          · have _u := i0
            have s5 := zt_sts (T := T) (R := R) (G := G) (c := 59) (by omega) (d := d) (by omega) hL ht m4 b4 b4'
            rw [show ((59 : Nat) : Int) = 59 by omega] at s5
            rcases s5 with ⟨e5, h5⟩ | ⟨i5, J5, e5, m5, ⟨b5, b5'⟩, h5⟩
            · rw [h0, h1, h2, h3, h4, h5]
              simp (maxSteps := 5000000) (disch := first | assumption | omega) only [zi_131, e0, e1, e2, e3, e4, e5, zz_z, zz_0, zz_31, zz_add, zz_sub, zz_mul, zz_neg, zz_lt, zz_le, zz_eq, zz_div, zz_md, zz_dv, zz_abs, zz_max, zz_min, zz_nI, zz_be0, zz_be1, zz_zb, zz_z, zz_l0, zz_l, zz_lcmp, zo_rf, zo_nl, zo_nn, zo_rI, zo_rL, zo_rR, zo_rV, Int.add_zero, Int.zero_add, Int.mul_zero, Int.zero_mul, Int.one_mul, Int.mul_one, if_true, if_false, not_true_eq_false, not_false_eq_true]
              first
                | exact zz_Er ⟨_, by rw [if_neg (by decide)], m4⟩
                | (try (refine zz_Ei (fun h => absurd (show (1 : Int) = 0 from h) (by omega)) (fun _ => ?_))
                   exact zz_Er ⟨_, by rw [if_neg (by decide)], m4⟩)
                | (try (refine zz_Ei (fun h => absurd (show (1 : Int) = 0 from h) (by omega)) (fun _ => ?_))
                   try (refine zz_Ei (fun h => absurd (show (1 : Int) = 0 from h) (by omega)) (fun _ => ?_))
                   try (refine zz_Ei (fun h => absurd (show (1 : Int) = 0 from h) (by omega)) (fun _ => ?_))
                   try (refine zz_Ei (fun h => absurd (show (1 : Int) = 0 from h) (by omega)) (fun _ => ?_))
                   try (refine zz_Ei (fun h => absurd (show (1 : Int) = 0 from h) (by omega)) (fun _ => ?_))
                   try (refine zz_Ei (fun h => absurd (show (1 : Int) = 0 from h) (by omega)) (fun _ => ?_))
                   exact zz_Er ⟨_, by rw [if_neg (by decide)], m4⟩)
            · have _u := i0
              rw [h0, h1, h2, h3, h4, h5]
              simp (maxSteps := 5000000) (disch := first | assumption | omega) only [zi_131, e0, e1, e2, e3, e4, e5, zz_z, zz_0, zz_31, zz_add, zz_sub, zz_mul, zz_neg, zz_lt, zz_le, zz_eq, zz_div, zz_md, zz_dv, zz_abs, zz_max, zz_min, zz_nI, zz_be0, zz_be1, zz_zb, zz_z, zz_l0, zz_l, zz_lcmp, zo_rf, zo_nl, zo_nn, zo_rI, zo_rL, zo_rR, zo_rV, Int.add_zero, Int.zero_add, Int.mul_zero, Int.zero_mul, Int.one_mul, Int.mul_one, if_true, if_false, not_true_eq_false, not_false_eq_true]
              try (refine zz_Ei (fun h => absurd (show (1 : Int) = 0 from h) (by omega)) (fun _ => ?_))
              try (refine zz_Ei (fun h => absurd (show (1 : Int) = 0 from h) (by omega)) (fun _ => ?_))
              try (refine zz_Ei (fun h => absurd (show (1 : Int) = 0 from h) (by omega)) (fun _ => ?_))
              try (refine zz_Ei (fun h => absurd (show (1 : Int) = 0 from h) (by omega)) (fun _ => ?_))
              try (refine zz_Ei (fun h => absurd (show (1 : Int) = 0 from h) (by omega)) (fun _ => ?_))
              try (refine zz_Ei (fun h => absurd (show (1 : Int) = 0 from h) (by omega)) (fun _ => ?_))
              try (refine zz_Ei (fun h => absurd (show (1 : Int) = 0 from h) (by omega)) (fun _ => ?_))
              exact zz_Er ⟨_, rfl, m5⟩
set_option maxHeartbeats 6000000 in
theorem r_148 (hd : 5 ≤ d) (hL : ZL T R) (ht : zt_rx J k B N) (hi : J 131 11 = i) (i0 : 0 ≤ i) (i1 : i ≤ N) : ∃ J2, mv_cax d 148 [.inr (.inr (some 131))] (zz_S T J R G) = some (some (.inl (mv_c (if (zt_sm B N i).1 = true then 1 else 0))), zz_S T J2 R G) ∧ zt_rm J J2 (zt_sm B N i).2.1 (zt_sm B N i).2.2 := by
  suffices h : ∃ r, mv_cax d 148 [.inr (.inr (some 131))] (zz_S T J R G) = some r ∧ ∃ J2, r = (some (.inl (mv_c (if (zt_sm B N i).1 = true then 1 else 0))), zz_S T J2 R G) ∧ zt_rm J J2 (zt_sm B N i).2.1 (zt_sm B N i).2.2 by
    obtain ⟨r, g1, J2, rfl, g2⟩ := h
    exact ⟨J2, g1, g2⟩
  refine zz_call (by omega) t_148 rfl (fun n => e_148 _ _) ?_
  have r144 := r_144 (T := T) (J := J) (R := R) (G := G) (d := d - 1) (by omega) hL ht hi i0 i1
  obtain ⟨x, hxe⟩ : ∃ x, x = (if i < N then B i else -1000) := ⟨_, rfl⟩
  rw [← hxe] at r144
  have hx : -2147483648 ≤ x ∧ x ≤ 2147483647 := by
    rw [hxe]
    split
    · rename_i h
      exact (ht.2.2.2.2 i i0 h).2
    · omega
  have m0 : zt_rm J (zz_u (zz_u J 131 14 0) 131 11 (i + 1)) (i + 1) [] := ⟨fun y y1 _ => by rw [zu_A y1, zu_A y1], fun y y1 y2 => by rw [zu_k y1, zu_k y2], zu_s, by rw [zu_k (by omega), zu_s]; rfl, fun k hk => absurd hk (Nat.not_lt_zero _)⟩
  have ei : zz_u J 131 14 0 131 11 = i := by rw [zu_k (by omega)]; exact hi
  -- no letter
  have no : zt_fn x = 6 → zz_E (fun n => mv_run (mv_cax (d - 1)) mm_148 n 251 [(0, .inr (.inr (some 131)))] [] (zz_S T (zz_u (zz_u J 131 14 0) 131 11 (i + 1)) R G)) (fun r => ∃ J2, r = (some (.inl (mv_c (if (zt_sm B N i).1 = true then 1 else 0))), zz_S T J2 R G) ∧ zt_rm J J2 (zt_sm B N i).2.1 (zt_sm B N i).2.2) := by
    intro h6
    have hsm : zt_sm B N i = (false, i, []) := by
      refine if_neg (fun q => q.2 ?_)
      rw [hxe, if_pos q.1] at h6
      exact h6
    rw [hsm]
    refine zz_Es (fun n => e_148_251 _ _) ?_
    simp (maxSteps := 5000000) (disch := first | assumption | omega) only [zz_z, zu_s, zt_uu, zr_131_0, zr_131_1, zr_131_2, zr_131_3, zr_131_4, zr_131_5, zr_131_6, zr_131_7, zr_131_8, zg_131_9, zp_131_9, zg_131_10, zp_131_10, zg_131_11, zp_131_11, zg_131_12, zp_131_12, zg_131_13, zp_131_13, zg_131_14, zp_131_14, zr_131_15, zg_131_16, zp_131_16, zg_131_17, zp_131_17, zr_131_18, zr_131_19, zr_131_20, zr_131_21, zr_131_22, zg_131_23, zp_131_23, zr_131_24, zg_131_25, zp_131_25, zg_131_26, zp_131_26, zr_131_27, zr_131_28, zg_131_29, zp_131_29, zg_131_30, zp_131_30, zr_131_31, zr_131_32, zr_131_33, zr_131_34, zr_131_35, zi_131, za_132, zs_132, zl_132, za_133, zs_133, zl_133, za_134, zs_134, zl_134, za_135, zs_135, zl_135, za_136, zs_136, zl_136, za_137, zs_137, zl_137, za_138, zs_138, zl_138, za_139, zs_139, zl_139, za_140, zs_140, zl_140, za_141, zs_141, zl_141, za_142, zs_142, zl_142, za_143, zs_143, zl_143, za_144, zs_144, zl_144, za_145, zs_145, zl_145, za_146, zs_146, zl_146, za_147, zs_147, zl_147, za_148, zs_148, zl_148, za_149, zs_149, zl_149, za_150, zs_150, zl_150, za_151, zs_151, zl_151, za_152, zs_152, zl_152, za_153, zs_153, zl_153, za_154, zs_154, zl_154, zz_0, zz_31, zz_add, zz_sub, zz_mul, zz_neg, zz_lt, zz_le, zz_eq, zz_div, zz_md, zz_dv, zz_abs, zz_max, zz_min, zz_nI, zz_be0, zz_be1, zz_zb, zz_z, zz_l0, zz_l, zz_lcmp, zo_rf, zo_nl, zo_nn, zo_rI, zo_rL, zo_rR, zo_rV, Int.add_zero, Int.zero_add, Int.mul_zero, Int.zero_mul, Int.one_mul, Int.mul_one, if_true, if_false, not_true_eq_false, not_false_eq_true]
    refine zz_Er ⟨_, by rw [if_neg (by decide)], ?_⟩
    have := zt_rm_s (i' := i) m0
    rw [zt_uu] at this
    rw [show i + 1 - 1 = i by omega]
    exact this
  have yes : ∀ a, zt_fn x = a → a ≠ 6 → i < N ∧ zt_sm B N i = zt_rd B N (mv_str a) (i + 1) [] := by
    intro a ha h6
    by_cases h : i < N
    · rw [hxe, if_pos h] at ha
      refine ⟨h, ?_⟩
      rw [← ha]
      exact if_pos ⟨h, by rw [ha]; exact h6⟩
    · rw [hxe, if_neg h] at ha
      exact absurd ha.symm h6
  refine zz_Ec (fun n => by rw [zi_131 hL, r144, zo_rI, zp_131_14 hL, zg_131_11 hL, ei, zz_add, zp_131_11 hL]) ?_
  refine zz_Ei (fun h => ?_) (fun g => ?_)
  · obtain ⟨h1, h2⟩ := yes 3 (by rw [zt_eq hx.1 hx.2 (by omega) (by omega) h]; rfl) (by omega)
    rw [h2]
    exact r_148_183 (by omega) hL ht m0 (by omega) (by omega)
  have n98 : x ≠ 98 := fun e => g (by rw [e])
  clear g
  refine zz_Ei (fun h => ?_) (fun g => ?_)
  · exact no (by rw [zt_eq hx.1 hx.2 (by omega) (by omega) h]; rfl)
  have n99 : x ≠ 99 := fun e => g (by rw [e])
  clear g
  refine zz_Ei (fun h => ?_) (fun g => ?_)
  · obtain ⟨h1, h2⟩ := yes 1 (by rw [zt_eq hx.1 hx.2 (by omega) (by omega) h]; rfl) (by omega)
    rw [h2]
    exact r_148_124 (by omega) hL ht m0 (by omega) (by omega)
  have n100 : x ≠ 100 := fun e => g (by rw [e])
  clear g
  refine zz_Ei (fun h => ?_) (fun g => ?_)
  · exact no (by rw [zt_eq hx.1 hx.2 (by omega) (by omega) h]; rfl)
  have n101 : x ≠ 101 := fun e => g (by rw [e])
  clear g
  refine zz_Ei (fun h => ?_) (fun g => ?_)
  · exact no (by rw [zt_eq hx.1 hx.2 (by omega) (by omega) h]; rfl)
  have n102 : x ≠ 102 := fun e => g (by rw [e])
  clear g
  refine zz_Ei (fun h => ?_) (fun g => ?_)
  · obtain ⟨h1, h2⟩ := yes 2 (by rw [zt_eq hx.1 hx.2 (by omega) (by omega) h]; rfl) (by omega)
    rw [h2]
    exact r_148_149 (by omega) hL ht m0 (by omega) (by omega)
  have n103 : x ≠ 103 := fun e => g (by rw [e])
  clear g
  refine zz_Ei (fun h => ?_) (fun g => ?_)
  · exact no (by rw [zt_eq hx.1 hx.2 (by omega) (by omega) h]; rfl)
  have n104 : x ≠ 104 := fun e => g (by rw [e])
  clear g
  refine zz_Ei (fun h => ?_) (fun g => ?_)
  · exact no (by rw [zt_eq hx.1 hx.2 (by omega) (by omega) h]; rfl)
  have n105 : x ≠ 105 := fun e => g (by rw [e])
  clear g
  refine zz_Ei (fun h => ?_) (fun g => ?_)
  · exact no (by rw [zt_eq hx.1 hx.2 (by omega) (by omega) h]; rfl)
  have n106 : x ≠ 106 := fun e => g (by rw [e])
  clear g
  refine zz_Ei (fun h => ?_) (fun g => ?_)
  · exact no (by rw [zt_eq hx.1 hx.2 (by omega) (by omega) h]; rfl)
  have n107 : x ≠ 107 := fun e => g (by rw [e])
  clear g
  refine zz_Ei (fun h => ?_) (fun g => ?_)
  · obtain ⟨h1, h2⟩ := yes 4 (by rw [zt_eq hx.1 hx.2 (by omega) (by omega) h]; rfl) (by omega)
    rw [h2]
    exact r_148_192 (by omega) hL ht m0 (by omega) (by omega)
  have n108 : x ≠ 108 := fun e => g (by rw [e])
  clear g
  refine zz_Ei (fun h => ?_) (fun g => ?_)
  · exact no (by rw [zt_eq hx.1 hx.2 (by omega) (by omega) h]; rfl)
  have n109 : x ≠ 109 := fun e => g (by rw [e])
  clear g
  refine zz_Ei (fun h => ?_) (fun g => ?_)
  · exact no (by rw [zt_eq hx.1 hx.2 (by omega) (by omega) h]; rfl)
  have n110 : x ≠ 110 := fun e => g (by rw [e])
  clear g
  refine zz_Ei (fun h => ?_) (fun g => ?_)
  · exact no (by rw [zt_eq hx.1 hx.2 (by omega) (by omega) h]; rfl)
  have n111 : x ≠ 111 := fun e => g (by rw [e])
  clear g
  refine zz_Ei (fun h => ?_) (fun g => ?_)
  · exact no (by rw [zt_eq hx.1 hx.2 (by omega) (by omega) h]; rfl)
  have n112 : x ≠ 112 := fun e => g (by rw [e])
  clear g
  refine zz_Ei (fun h => ?_) (fun g => ?_)
  · obtain ⟨h1, h2⟩ := yes 3 (by rw [zt_eq hx.1 hx.2 (by omega) (by omega) h]; rfl) (by omega)
    rw [h2]
    exact r_148_183 (by omega) hL ht m0 (by omega) (by omega)
  have n113 : x ≠ 113 := fun e => g (by rw [e])
  clear g
  refine zz_Ei (fun h => ?_) (fun g => ?_)
  · exact no (by rw [zt_eq hx.1 hx.2 (by omega) (by omega) h]; rfl)
  have n114 : x ≠ 114 := fun e => g (by rw [e])
  clear g
  refine zz_Ei (fun h => ?_) (fun g => ?_)
  · obtain ⟨h1, h2⟩ := yes 1 (by rw [zt_eq hx.1 hx.2 (by omega) (by omega) h]; rfl) (by omega)
    rw [h2]
    exact r_148_124 (by omega) hL ht m0 (by omega) (by omega)
  have n115 : x ≠ 115 := fun e => g (by rw [e])
  clear g
  refine zz_Ei (fun h => ?_) (fun g => ?_)
  · obtain ⟨h1, h2⟩ := yes 3 (by rw [zt_eq hx.1 hx.2 (by omega) (by omega) h]; rfl) (by omega)
    rw [h2]
    exact r_148_183 (by omega) hL ht m0 (by omega) (by omega)
  have n116 : x ≠ 116 := fun e => g (by rw [e])
  clear g
  refine zz_Ei (fun h => ?_) (fun g => ?_)
  · exact no (by rw [zt_eq hx.1 hx.2 (by omega) (by omega) h]; rfl)
  have n117 : x ≠ 117 := fun e => g (by rw [e])
  clear g
  refine zz_Ei (fun h => ?_) (fun g => ?_)
  · exact no (by rw [zt_eq hx.1 hx.2 (by omega) (by omega) h]; rfl)
  have n118 : x ≠ 118 := fun e => g (by rw [e])
  clear g
  refine zz_Ei (fun h => ?_) (fun g => ?_)
  · obtain ⟨h1, h2⟩ := yes 5 (by rw [zt_eq hx.1 hx.2 (by omega) (by omega) h]; rfl) (by omega)
    rw [h2]
    exact r_148_201 (by omega) hL ht m0 (by omega) (by omega)
  have n119 : x ≠ 119 := fun e => g (by rw [e])
  clear g
  exact no (by rw [zt_fn, if_neg (by omega), if_neg (by omega), if_neg (by omega), if_neg (by omega), if_neg (by omega)])
end ZRTX
