/-! PURE LAYER, 40: the class's land: what it holds of a row, its readers -/
def zc_sd (x : Int) : Int := if x < 0 then -1 else x
/-- rows, columns, and what was reckoned of them -/
def zc_geo (J : Nat → Int → Int) (p : Nat) (A : Int → Int) : Prop := (J p 0 = A 0 ∧ J p 1 = A 1 ∧ J p 2 = A 0 * A 1) ∧ (∀ c, 0 ≤ c → c < A 0 * A 1 → J (p + 1) c = c % A 1 ∧ ∀ i, 0 ≤ i → i < 4 → J (p + 3) (c * 4 + i) = zz_cd A c i) ∧ ∀ a b, 0 ≤ a → a < A 0 * A 1 → 0 ≤ b → b < A 0 * A 1 → J (p + 2) (a * 16 + b) = zz_nr (A 1) a b
def zc_dr (T : List mv_T) (R : Nat → Nat → Option Nat) (J : Nat → Int → Int) (p : Nat) (A : Int → Int) (e : Int) : Prop := (∃ a, R (p + 7) e.toNat = some a ∧ T[a]? = some (.inl 2) ∧ 156 ≤ a ∧ J a 0 = e ∧ J a 1 = A (40 + 15 * e) ∧ J a 2 = A (41 + 15 * e)) ∧ J (p + 8) e = A (42 + 15 * e) ∧ ∀ w, 0 ≤ w → w < A (42 + 15 * e) → J (p + 9) (e * 4 + w) = A (43 + 15 * e + 3 * w) ∧ J (p + 10) (e * 4 + w) = A (44 + 15 * e + 3 * w) ∧ J (p + 11) (e * 4 + w) = A (45 + 15 * e + 3 * w)
def zc_rep (T : List mv_T) (R : Nat → Nat → Option Nat) (J : Nat → Int → Int) (p : Nat) (A : Int → Int) : Prop := zc_geo J p A ∧ (J p 3 = A 5 ∧ J p 4 = A 2 ∧ J p 5 = A 3 ∧ J p 6 = A 4 ∧ J p 7 = A 7) ∧ (∀ c, 0 ≤ c → c < A 0 * A 1 → J (p + 4) c = A (8 + c) ∧ J (p + 5) c = zc_sd (A (24 + c)) ∧ J (p + 6) c = zz_bit (A 6) c) ∧ ∀ e, 0 ≤ e → e < A 7 → zc_dr T R J p A e
theorem zc_geo_f {J J' : Nat → Int → Int} {p : Nat} {A : Int → Int} (h : zc_geo J p A) (hf : ∀ x, p ≤ x → x ≤ p + 3 → J' x = J x) : zc_geo J' p A := by
  obtain ⟨h1, h2, h3⟩ := h
  unfold zc_geo
  rw [hf p (by omega) (by omega), hf (p + 1) (by omega) (by omega), hf (p + 2) (by omega) (by omega), hf (p + 3) (by omega) (by omega)]
  exact ⟨h1, h2, h3⟩
theorem zc_rep_f {T : List mv_T} {R : Nat → Nat → Option Nat} {J J' : Nat → Int → Int} {p : Nat} {A : Int → Int} (h : zc_rep T R J p A) (hf : ∀ x, (p ≤ x ∧ x ≤ p + 11) ∨ 156 ≤ x → J' x = J x) : zc_rep T R J' p A := by
  obtain ⟨h1, h2, h3, h4⟩ := h
  refine ⟨zc_geo_f h1 (fun x x1 x2 => hf x (by omega)), ?_, ?_, fun e e0 e1 => ?_⟩
  · rw [hf p (by omega)]
    exact h2
  · rw [hf (p + 4) (by omega), hf (p + 5) (by omega), hf (p + 6) (by omega)]
    exact h3
  · obtain ⟨⟨a, q1, q2, q3, q4⟩, q5, q6⟩ := h4 e e0 e1
    refine ⟨⟨a, q1, q2, q3, ?_⟩, ?_, ?_⟩
    · rw [hf a (by omega)]
      exact q4
    · rw [hf (p + 8) (by omega)]
      exact q5
    · rw [hf (p + 9) (by omega), hf (p + 10) (by omega), hf (p + 11) (by omega)]
      exact q6
section ZLND
variable {T : List mv_T} {J : Nat → Int → Int} {R : Nat → Nat → Option Nat} {G : Nat → Nat → Int64} {d p : Nat} {Y : Int} {A : Int → Int}
theorem c_33 {c : Int} (hd : 1 ≤ d) (hL : ZL T R) (hp : Lnd p) (hA : zz_ok Y A) (hR : zc_rep T R J p A) (h1 : -2147483648 ≤ c) (h2 : c ≤ 2147483647) : mv_cax d 33 [.inr (.inr (some p)), .inl (mv_c c)] (zz_S T J R G) = some (some (.inl (mv_c (zz_b (0 ≤ c ∧ c < A 0 * A 1)))), (zz_S T J R G)) := by
  have hn := hA.n
  have e2 := hR.1.1.2.2
  refine zz_c (zz_call (by omega) t_33 rfl (fun n => e_33 _ _ _) ?_)
  simp (maxSteps := 5000000) (disch := first | assumption | omega) only [e2, zg_L_0, zp_L_0, zg_L_1, zp_L_1, zg_L_2, zp_L_2, zg_L_3, zp_L_3, zg_L_4, zp_L_4, zg_L_5, zp_L_5, zg_L_6, zp_L_6, zg_L_7, zp_L_7, zi_L, zr_L_8, za_L_1, zs_L_1, zr_L_9, za_L_2, zs_L_2, zr_L_10, za_L_3, zs_L_3, zr_L_11, za_L_4, zs_L_4, zr_L_12, za_L_5, zs_L_5, zr_L_13, za_L_6, zs_L_6, zr_L_14, za_L_7, zs_L_7, zr_L_15, za_L_8, zs_L_8, zr_L_16, za_L_9, zs_L_9, zr_L_17, za_L_10, zs_L_10, zr_L_18, za_L_11, zs_L_11, zr_L_19, za_L_12, zs_L_12, zz_0, zz_31, zz_add, zz_sub, zz_mul, zz_neg, zz_lt, zz_le, zz_eq, zz_div, zz_md, zz_dv, zz_abs, zz_max, zz_min, zz_nI, zz_be0, zz_be1, zz_zb, zz_z, zz_l0, zz_l, zz_lcmp, zo_rf, zo_nl, zo_nn, zo_rI, zo_rL, zo_rR, zo_rV, Int.add_zero, Int.zero_add, Int.mul_zero, Int.zero_mul, Int.one_mul, Int.mul_one, if_true, if_false, not_true_eq_false, not_false_eq_true]
  repeat' (first | (refine zz_Ei (fun _ => ?_) (fun _ => ?_)) | (exact zz_Er (by first | rfl | (rw [zz_b_t (by omega)]; done) | (rw [zz_b_f (by omega)]; done) | (exfalso; omega))))
theorem c_37 {c : Int} (hd : 1 ≤ d) (hL : ZL T R) (hp : Lnd p) (hA : zz_ok Y A) (hR : zc_rep T R J p A) (h1 : 0 ≤ c) (h2 : c < A 0 * A 1) : mv_cax d 37 [.inr (.inr (some p)), .inl (mv_c c)] (zz_S T J R G) = some (some (.inl (mv_c (A (24 + c)))), (zz_S T J R G)) := by
  have hn := hA.n
  have hc := hA.2.2.2.2.2.2.2.1 c h1 h2
  obtain ⟨q1, q2, q3⟩ := hR.2.2.1 c h1 h2
  have q4 : zc_sd (A (24 + c)) = if A (24 + c) < 0 then -1 else A (24 + c) := rfl
  refine zz_c (zz_call (by omega) t_37 rfl (fun n => e_37 _ _ _) ?_)
  by_cases h : A (24 + c) < 0
  · rw [if_pos h] at q4
    rw [q4] at q2
    simp (maxSteps := 5000000) (disch := first | assumption | omega) only [q2, zg_L_0, zp_L_0, zg_L_1, zp_L_1, zg_L_2, zp_L_2, zg_L_3, zp_L_3, zg_L_4, zp_L_4, zg_L_5, zp_L_5, zg_L_6, zp_L_6, zg_L_7, zp_L_7, zi_L, zr_L_8, za_L_1, zs_L_1, zr_L_9, za_L_2, zs_L_2, zr_L_10, za_L_3, zs_L_3, zr_L_11, za_L_4, zs_L_4, zr_L_12, za_L_5, zs_L_5, zr_L_13, za_L_6, zs_L_6, zr_L_14, za_L_7, zs_L_7, zr_L_15, za_L_8, zs_L_8, zr_L_16, za_L_9, zs_L_9, zr_L_17, za_L_10, zs_L_10, zr_L_18, za_L_11, zs_L_11, zr_L_19, za_L_12, zs_L_12, zz_0, zz_31, zz_add, zz_sub, zz_mul, zz_neg, zz_lt, zz_le, zz_eq, zz_div, zz_md, zz_dv, zz_abs, zz_max, zz_min, zz_nI, zz_be0, zz_be1, zz_zb, zz_z, zz_l0, zz_l, zz_lcmp, zo_rf, zo_nl, zo_nn, zo_rI, zo_rL, zo_rR, zo_rV, Int.add_zero, Int.zero_add, Int.mul_zero, Int.zero_mul, Int.one_mul, Int.mul_one, if_true, if_false, not_true_eq_false, not_false_eq_true]
    exact zz_Er (by rw [show A (24 + c) = -4 by omega])
  · rw [if_neg h] at q4
    rw [q4] at q2
    simp (maxSteps := 5000000) (disch := first | assumption | omega) only [q2, zg_L_0, zp_L_0, zg_L_1, zp_L_1, zg_L_2, zp_L_2, zg_L_3, zp_L_3, zg_L_4, zp_L_4, zg_L_5, zp_L_5, zg_L_6, zp_L_6, zg_L_7, zp_L_7, zi_L, zr_L_8, za_L_1, zs_L_1, zr_L_9, za_L_2, zs_L_2, zr_L_10, za_L_3, zs_L_3, zr_L_11, za_L_4, zs_L_4, zr_L_12, za_L_5, zs_L_5, zr_L_13, za_L_6, zs_L_6, zr_L_14, za_L_7, zs_L_7, zr_L_15, za_L_8, zs_L_8, zr_L_16, za_L_9, zs_L_9, zr_L_17, za_L_10, zs_L_10, zr_L_18, za_L_11, zs_L_11, zr_L_19, za_L_12, zs_L_12, zz_0, zz_31, zz_add, zz_sub, zz_mul, zz_neg, zz_lt, zz_le, zz_eq, zz_div, zz_md, zz_dv, zz_abs, zz_max, zz_min, zz_nI, zz_be0, zz_be1, zz_zb, zz_z, zz_l0, zz_l, zz_lcmp, zo_rf, zo_nl, zo_nn, zo_rI, zo_rL, zo_rR, zo_rV, Int.add_zero, Int.zero_add, Int.mul_zero, Int.zero_mul, Int.one_mul, Int.mul_one, if_true, if_false, not_true_eq_false, not_false_eq_true]
    refine zz_Ei (fun h => absurd h (by omega)) (fun _ => ?_)
    exact zz_Er rfl
theorem c_38 {c : Int} (hd : 1 ≤ d) (hL : ZL T R) (hp : Lnd p) (hA : zz_ok Y A) (hR : zc_rep T R J p A) (h1 : 0 ≤ c) (h2 : c < A 0 * A 1) : mv_cax d 38 [.inr (.inr (some p)), .inl (mv_c c)] (zz_S T J R G) = some (some (.inl (mv_c (zz_tw A c))), (zz_S T J R G)) := by
  have hn := hA.n
  have hc := hA.2.2.2.2.2.2.2.1 c h1 h2
  obtain ⟨q1, q2, q3⟩ := hR.2.2.1 c h1 h2
  have q4 : zc_sd (A (24 + c)) = if A (24 + c) < 0 then -1 else A (24 + c) := rfl
  unfold zz_tw
  refine zz_c (zz_call (by omega) t_38 rfl (fun n => e_38 _ _ _) ?_)
  by_cases h : A (24 + c) < 0
  · rw [if_pos h] at q4
    rw [q4] at q2
    simp (maxSteps := 5000000) (disch := first | assumption | omega) only [q1, q2, zg_L_0, zp_L_0, zg_L_1, zp_L_1, zg_L_2, zp_L_2, zg_L_3, zp_L_3, zg_L_4, zp_L_4, zg_L_5, zp_L_5, zg_L_6, zp_L_6, zg_L_7, zp_L_7, zi_L, zr_L_8, za_L_1, zs_L_1, zr_L_9, za_L_2, zs_L_2, zr_L_10, za_L_3, zs_L_3, zr_L_11, za_L_4, zs_L_4, zr_L_12, za_L_5, zs_L_5, zr_L_13, za_L_6, zs_L_6, zr_L_14, za_L_7, zs_L_7, zr_L_15, za_L_8, zs_L_8, zr_L_16, za_L_9, zs_L_9, zr_L_17, za_L_10, zs_L_10, zr_L_18, za_L_11, zs_L_11, zr_L_19, za_L_12, zs_L_12, zz_0, zz_31, zz_add, zz_sub, zz_mul, zz_neg, zz_lt, zz_le, zz_eq, zz_div, zz_md, zz_dv, zz_abs, zz_max, zz_min, zz_nI, zz_be0, zz_be1, zz_zb, zz_z, zz_l0, zz_l, zz_lcmp, zo_rf, zo_nl, zo_nn, zo_rI, zo_rL, zo_rR, zo_rV, Int.add_zero, Int.zero_add, Int.mul_zero, Int.zero_mul, Int.one_mul, Int.mul_one, if_true, if_false, not_true_eq_false, not_false_eq_true]
    exact zz_Er (by rw [if_pos h])
  · rw [if_neg h] at q4
    rw [q4] at q2
    simp (maxSteps := 5000000) (disch := first | assumption | omega) only [q1, q2, zg_L_0, zp_L_0, zg_L_1, zp_L_1, zg_L_2, zp_L_2, zg_L_3, zp_L_3, zg_L_4, zp_L_4, zg_L_5, zp_L_5, zg_L_6, zp_L_6, zg_L_7, zp_L_7, zi_L, zr_L_8, za_L_1, zs_L_1, zr_L_9, za_L_2, zs_L_2, zr_L_10, za_L_3, zs_L_3, zr_L_11, za_L_4, zs_L_4, zr_L_12, za_L_5, zs_L_5, zr_L_13, za_L_6, zs_L_6, zr_L_14, za_L_7, zs_L_7, zr_L_15, za_L_8, zs_L_8, zr_L_16, za_L_9, zs_L_9, zr_L_17, za_L_10, zs_L_10, zr_L_18, za_L_11, zs_L_11, zr_L_19, za_L_12, zs_L_12, zz_0, zz_31, zz_add, zz_sub, zz_mul, zz_neg, zz_lt, zz_le, zz_eq, zz_div, zz_md, zz_dv, zz_abs, zz_max, zz_min, zz_nI, zz_be0, zz_be1, zz_zb, zz_z, zz_l0, zz_l, zz_lcmp, zo_rf, zo_nl, zo_nn, zo_rI, zo_rL, zo_rR, zo_rV, Int.add_zero, Int.zero_add, Int.mul_zero, Int.zero_mul, Int.one_mul, Int.mul_one, if_true, if_false, not_true_eq_false, not_false_eq_true]
    refine zz_Ei (fun h => absurd h (by omega)) (fun _ => ?_)
    exact zz_Er (by rw [if_neg h])
theorem c_51 {a b : Int} (hd : 1 ≤ d) (hL : ZL T R) (hp : Lnd p) (hA : zz_ok Y A) (hR : zc_rep T R J p A) (h1 : 0 ≤ a) (h2 : a < A 0 * A 1) (h3 : 0 ≤ b) (h4 : b < A 0 * A 1) : mv_cax d 51 [.inr (.inr (some p)), .inl (mv_c a), .inl (mv_c b)] (zz_S T J R G) = some (some (.inl (mv_c (zz_nr (A 1) a b))), (zz_S T J R G)) := by
  have hn := hA.n
  have e := hR.1.2.2 a b h1 h2 h3 h4
  refine zz_c (zz_call (by omega) t_51 rfl (fun n => e_51 _ _ _ _) ?_)
  simp (maxSteps := 5000000) (disch := first | assumption | omega) only [e, zg_L_0, zp_L_0, zg_L_1, zp_L_1, zg_L_2, zp_L_2, zg_L_3, zp_L_3, zg_L_4, zp_L_4, zg_L_5, zp_L_5, zg_L_6, zp_L_6, zg_L_7, zp_L_7, zi_L, zr_L_8, za_L_1, zs_L_1, zr_L_9, za_L_2, zs_L_2, zr_L_10, za_L_3, zs_L_3, zr_L_11, za_L_4, zs_L_4, zr_L_12, za_L_5, zs_L_5, zr_L_13, za_L_6, zs_L_6, zr_L_14, za_L_7, zs_L_7, zr_L_15, za_L_8, zs_L_8, zr_L_16, za_L_9, zs_L_9, zr_L_17, za_L_10, zs_L_10, zr_L_18, za_L_11, zs_L_11, zr_L_19, za_L_12, zs_L_12, zz_0, zz_31, zz_add, zz_sub, zz_mul, zz_neg, zz_lt, zz_le, zz_eq, zz_div, zz_md, zz_dv, zz_abs, zz_max, zz_min, zz_nI, zz_be0, zz_be1, zz_zb, zz_z, zz_l0, zz_l, zz_lcmp, zo_rf, zo_nl, zo_nn, zo_rI, zo_rL, zo_rR, zo_rV, Int.add_zero, Int.zero_add, Int.mul_zero, Int.zero_mul, Int.one_mul, Int.mul_one, if_true, if_false, not_true_eq_false, not_false_eq_true]
  exact zz_Er (by first | rfl | (rw [zz_b_t (by omega)]; done) | (rw [zz_b_f (by omega)]; done) | (exfalso; omega))
theorem c_52 {c : Int} (hd : 1 ≤ d) (hL : ZL T R) (hp : Lnd p) (hA : zz_ok Y A) (hR : zc_rep T R J p A) (h1 : 0 ≤ c) (h2 : c < A 0 * A 1) : mv_cax d 52 [.inr (.inr (some p)), .inl (mv_c c)] (zz_S T J R G) = some (some (.inl (mv_c (zz_b (zz_bit (A 6) c = 0 ∧ 1 ≤ A (8 + c))))), (zz_S T J R G)) := by
  have hn := hA.n
  have hc := hA.2.2.2.2.2.2.2.1 c h1 h2
  have hb := zz_bit01 (A 6) c
  obtain ⟨q1, q2, q3⟩ := hR.2.2.1 c h1 h2
  refine zz_c (zz_call (by omega) t_52 rfl (fun n => e_52 _ _ _) ?_)
  simp (maxSteps := 5000000) (disch := first | assumption | omega) only [q1, q3, zg_L_0, zp_L_0, zg_L_1, zp_L_1, zg_L_2, zp_L_2, zg_L_3, zp_L_3, zg_L_4, zp_L_4, zg_L_5, zp_L_5, zg_L_6, zp_L_6, zg_L_7, zp_L_7, zi_L, zr_L_8, za_L_1, zs_L_1, zr_L_9, za_L_2, zs_L_2, zr_L_10, za_L_3, zs_L_3, zr_L_11, za_L_4, zs_L_4, zr_L_12, za_L_5, zs_L_5, zr_L_13, za_L_6, zs_L_6, zr_L_14, za_L_7, zs_L_7, zr_L_15, za_L_8, zs_L_8, zr_L_16, za_L_9, zs_L_9, zr_L_17, za_L_10, zs_L_10, zr_L_18, za_L_11, zs_L_11, zr_L_19, za_L_12, zs_L_12, zz_0, zz_31, zz_add, zz_sub, zz_mul, zz_neg, zz_lt, zz_le, zz_eq, zz_div, zz_md, zz_dv, zz_abs, zz_max, zz_min, zz_nI, zz_be0, zz_be1, zz_zb, zz_z, zz_l0, zz_l, zz_lcmp, zo_rf, zo_nl, zo_nn, zo_rI, zo_rL, zo_rR, zo_rV, Int.add_zero, Int.zero_add, Int.mul_zero, Int.zero_mul, Int.one_mul, Int.mul_one, if_true, if_false, not_true_eq_false, not_false_eq_true]
  repeat' (first | (refine zz_Ei (fun _ => ?_) (fun _ => ?_)) | (exact zz_Er (by first | rfl | (rw [zz_b_t (by omega)]; done) | (rw [zz_b_f (by omega)]; done) | (exfalso; omega))))
theorem c_53 {c : Int} (hd : 1 ≤ d) (hL : ZL T R) (hp : Lnd p) (hA : zz_ok Y A) (hR : zc_rep T R J p A) (h1 : 0 ≤ c) (h2 : c < A 0 * A 1) : mv_cax d 53 [.inr (.inr (some p)), .inl (mv_c c)] (zz_S T J R G) = some (some (.inl (mv_c (zz_b (zz_bit (A 6) c = 0 ∧ A (8 + c) ≤ 8)))), (zz_S T J R G)) := by
  have hn := hA.n
  have hc := hA.2.2.2.2.2.2.2.1 c h1 h2
  have hb := zz_bit01 (A 6) c
  obtain ⟨q1, q2, q3⟩ := hR.2.2.1 c h1 h2
  refine zz_c (zz_call (by omega) t_53 rfl (fun n => e_53 _ _ _) ?_)
  simp (maxSteps := 5000000) (disch := first | assumption | omega) only [q1, q3, zg_L_0, zp_L_0, zg_L_1, zp_L_1, zg_L_2, zp_L_2, zg_L_3, zp_L_3, zg_L_4, zp_L_4, zg_L_5, zp_L_5, zg_L_6, zp_L_6, zg_L_7, zp_L_7, zi_L, zr_L_8, za_L_1, zs_L_1, zr_L_9, za_L_2, zs_L_2, zr_L_10, za_L_3, zs_L_3, zr_L_11, za_L_4, zs_L_4, zr_L_12, za_L_5, zs_L_5, zr_L_13, za_L_6, zs_L_6, zr_L_14, za_L_7, zs_L_7, zr_L_15, za_L_8, zs_L_8, zr_L_16, za_L_9, zs_L_9, zr_L_17, za_L_10, zs_L_10, zr_L_18, za_L_11, zs_L_11, zr_L_19, za_L_12, zs_L_12, zz_0, zz_31, zz_add, zz_sub, zz_mul, zz_neg, zz_lt, zz_le, zz_eq, zz_div, zz_md, zz_dv, zz_abs, zz_max, zz_min, zz_nI, zz_be0, zz_be1, zz_zb, zz_z, zz_l0, zz_l, zz_lcmp, zo_rf, zo_nl, zo_nn, zo_rI, zo_rL, zo_rR, zo_rV, Int.add_zero, Int.zero_add, Int.mul_zero, Int.zero_mul, Int.one_mul, Int.mul_one, if_true, if_false, not_true_eq_false, not_false_eq_true]
  repeat' (first | (refine zz_Ei (fun _ => ?_) (fun _ => ?_)) | (exact zz_Er (by first | rfl | (rw [zz_b_t (by omega)]; done) | (rw [zz_b_f (by omega)]; done) | (exfalso; omega))))
theorem c_55 {a b : Int} (hd : 2 ≤ d) (hL : ZL T R) (hp : Lnd p) (hA : zz_ok Y A) (hR : zc_rep T R J p A) (h1 : 0 ≤ a) (h2 : a < A 0 * A 1) (h3 : 0 ≤ b) (h4 : b < A 0 * A 1) : mv_cax d 55 [.inr (.inr (some p)), .inl (mv_c a), .inl (mv_c b)] (zz_S T J R G) = some (some (.inl (mv_c (zz_hh A a b))), (zz_S T J R G)) := by
  have hn := hA.n
  have ha := (hA.2.2.2.2.2.2.2.1 a h1 h2).1
  have hb := (hA.2.2.2.2.2.2.2.1 b h3 h4).1
  have qa := (hR.2.2.1 a h1 h2).1
  have qb := (hR.2.2.1 b h3 h4).1
  unfold zz_hh
  refine zz_c (zz_call (by omega) t_55 rfl (fun n => e_55 _ _ _ _) ?_)
  simp (maxSteps := 5000000) (disch := first | assumption | omega) only [c_51 (Y := Y) (A := A), qa, qb, zg_L_0, zp_L_0, zg_L_1, zp_L_1, zg_L_2, zp_L_2, zg_L_3, zp_L_3, zg_L_4, zp_L_4, zg_L_5, zp_L_5, zg_L_6, zp_L_6, zg_L_7, zp_L_7, zi_L, zr_L_8, za_L_1, zs_L_1, zr_L_9, za_L_2, zs_L_2, zr_L_10, za_L_3, zs_L_3, zr_L_11, za_L_4, zs_L_4, zr_L_12, za_L_5, zs_L_5, zr_L_13, za_L_6, zs_L_6, zr_L_14, za_L_7, zs_L_7, zr_L_15, za_L_8, zs_L_8, zr_L_16, za_L_9, zs_L_9, zr_L_17, za_L_10, zs_L_10, zr_L_18, za_L_11, zs_L_11, zr_L_19, za_L_12, zs_L_12, zz_0, zz_31, zz_add, zz_sub, zz_mul, zz_neg, zz_lt, zz_le, zz_eq, zz_div, zz_md, zz_dv, zz_abs, zz_max, zz_min, zz_nI, zz_be0, zz_be1, zz_zb, zz_z, zz_l0, zz_l, zz_lcmp, zo_rf, zo_nl, zo_nn, zo_rI, zo_rL, zo_rR, zo_rV, Int.add_zero, Int.zero_add, Int.mul_zero, Int.zero_mul, Int.one_mul, Int.mul_one, if_true, if_false, not_true_eq_false, not_false_eq_true]
  refine zz_Ei (fun h => ?_) (fun h => ?_)
  · exact zz_Er (by rw [Int.max_eq_left (by omega), Int.add_zero])
  · exact zz_Er (by rw [Int.max_eq_right (by omega)])
theorem c_54 {a b : Int} (hd : 2 ≤ d) (hL : ZL T R) (hp : Lnd p) (hA : zz_ok Y A) (hR : zc_rep T R J p A) (h1 : -2147483648 ≤ a) (h2 : a ≤ 2147483647) (h3 : -2147483648 ≤ b) (h4 : b ≤ 2147483647) : mv_cax d 54 [.inr (.inr (some p)), .inl (mv_c a), .inl (mv_c b)] (zz_S T J R G) = some (some (.inl (mv_c (zz_b ((0 ≤ a ∧ a < A 0 * A 1) ∧ (0 ≤ b ∧ b < A 0 * A 1) ∧ zz_mh A a b)))), (zz_S T J R G)) := by
  have hn := hA.n
  refine zz_c (zz_call (by omega) t_54 rfl (fun n => e_54 _ _ _ _) ?_)
  simp (maxSteps := 5000000) (disch := first | assumption | omega) only [c_33 (Y := Y) (A := A), zg_L_0, zp_L_0, zg_L_1, zp_L_1, zg_L_2, zp_L_2, zg_L_3, zp_L_3, zg_L_4, zp_L_4, zg_L_5, zp_L_5, zg_L_6, zp_L_6, zg_L_7, zp_L_7, zi_L, zr_L_8, za_L_1, zs_L_1, zr_L_9, za_L_2, zs_L_2, zr_L_10, za_L_3, zs_L_3, zr_L_11, za_L_4, zs_L_4, zr_L_12, za_L_5, zs_L_5, zr_L_13, za_L_6, zs_L_6, zr_L_14, za_L_7, zs_L_7, zr_L_15, za_L_8, zs_L_8, zr_L_16, za_L_9, zs_L_9, zr_L_17, za_L_10, zs_L_10, zr_L_18, za_L_11, zs_L_11, zr_L_19, za_L_12, zs_L_12, zz_0, zz_31, zz_add, zz_sub, zz_mul, zz_neg, zz_lt, zz_le, zz_eq, zz_div, zz_md, zz_dv, zz_abs, zz_max, zz_min, zz_nI, zz_be0, zz_be1, zz_zb, zz_z, zz_l0, zz_l, zz_lcmp, zo_rf, zo_nl, zo_nn, zo_rI, zo_rL, zo_rR, zo_rV, Int.add_zero, Int.zero_add, Int.mul_zero, Int.zero_mul, Int.one_mul, Int.mul_one, if_true, if_false, not_true_eq_false, not_false_eq_true]
  refine zz_Ei (fun h => zz_Er (by rw [zz_b_f (fun q => h q.1)])) (fun h => ?_)
  have ha := Classical.not_not.mp h
  refine zz_Ei (fun h => zz_Er (by rw [zz_b_f (fun q => h q.2.1)])) (fun h => ?_)
  have hb := Classical.not_not.mp h
  refine zz_Ei (fun h => zz_Er (by rw [zz_b_f (fun q => q.2.2.1 h)])) (fun hne => ?_)
  have e1 := c_52 (T := T) (J := J) (R := R) (G := G) (d := d - 1) (by omega) hL hp hA hR ha.1 ha.2
  have e2 := c_53 (T := T) (J := J) (R := R) (G := G) (d := d - 1) (by omega) hL hp hA hR hb.1 hb.2
  simp (maxSteps := 5000000) (disch := first | assumption | omega) only [e1, e2, zg_L_0, zp_L_0, zg_L_1, zp_L_1, zg_L_2, zp_L_2, zg_L_3, zp_L_3, zg_L_4, zp_L_4, zg_L_5, zp_L_5, zg_L_6, zp_L_6, zg_L_7, zp_L_7, zi_L, zr_L_8, za_L_1, zs_L_1, zr_L_9, za_L_2, zs_L_2, zr_L_10, za_L_3, zs_L_3, zr_L_11, za_L_4, zs_L_4, zr_L_12, za_L_5, zs_L_5, zr_L_13, za_L_6, zs_L_6, zr_L_14, za_L_7, zs_L_7, zr_L_15, za_L_8, zs_L_8, zr_L_16, za_L_9, zs_L_9, zr_L_17, za_L_10, zs_L_10, zr_L_18, za_L_11, zs_L_11, zr_L_19, za_L_12, zs_L_12, zz_0, zz_31, zz_add, zz_sub, zz_mul, zz_neg, zz_lt, zz_le, zz_eq, zz_div, zz_md, zz_dv, zz_abs, zz_max, zz_min, zz_nI, zz_be0, zz_be1, zz_zb, zz_z, zz_l0, zz_l, zz_lcmp, zo_rf, zo_nl, zo_nn, zo_rI, zo_rL, zo_rR, zo_rV, Int.add_zero, Int.zero_add, Int.mul_zero, Int.zero_mul, Int.one_mul, Int.mul_one, if_true, if_false, not_true_eq_false, not_false_eq_true]
  refine zz_Ei (fun h => zz_Er (by rw [zz_b_f (fun q => h ⟨q.2.2.2.2.2.1, q.2.2.2.1⟩)])) (fun h => ?_)
  have ga := Classical.not_not.mp h
  refine zz_Ei (fun h => zz_Er (by rw [zz_b_f (fun q => h ⟨q.2.2.2.2.2.2, q.2.2.2.2.1⟩)])) (fun h => ?_)
  have gb := Classical.not_not.mp h
  exact zz_Er (by rw [zz_b_t ⟨ha, hb, hne, ga.2, gb.2, ga.1, gb.1⟩])
/-- a haul, on the class's land -/
theorem c_56 {a b : Int} (hd : 1 ≤ d) (hL : ZL T R) (hp : Lnd p) (hA : zz_ok Y A) (hR : zc_rep T R J p A) (h1 : 0 ≤ a) (h2 : a < A 0 * A 1) (h3 : 0 ≤ b) (h4 : b < A 0 * A 1) (hne : a ≠ b) : ∃ O, mv_cax d 56 [.inr (.inr (some p)), .inl (mv_c a), .inl (mv_c b)] (zz_S T J R G) = some (none, zz_S T (zz_w J (p + 4) O) R G) ∧ zc_rep T R (zz_w J (p + 4) O) p (zz_mv A a b) := by
  have hn := hA.n
  have qa := (hR.2.2.1 a h1 h2).1
  have qb := (hR.2.2.1 b h3 h4).1
  refine ⟨zz_f (zz_f (J (p + 4)) a (J (p + 4) a - 1)) b (J (p + 4) b + 1), ?_, ?_⟩
  · refine zz_c (zz_call (by omega) t_56 rfl (fun n => e_56 _ _ _ _) ?_)
    simp (maxSteps := 5000000) (disch := first | assumption | omega) only [zz_uw, zw_s, zw_w, zf_n, zg_L_0, zp_L_0, zg_L_1, zp_L_1, zg_L_2, zp_L_2, zg_L_3, zp_L_3, zg_L_4, zp_L_4, zg_L_5, zp_L_5, zg_L_6, zp_L_6, zg_L_7, zp_L_7, zi_L, zr_L_8, za_L_1, zs_L_1, zr_L_9, za_L_2, zs_L_2, zr_L_10, za_L_3, zs_L_3, zr_L_11, za_L_4, zs_L_4, zr_L_12, za_L_5, zs_L_5, zr_L_13, za_L_6, zs_L_6, zr_L_14, za_L_7, zs_L_7, zr_L_15, za_L_8, zs_L_8, zr_L_16, za_L_9, zs_L_9, zr_L_17, za_L_10, zs_L_10, zr_L_18, za_L_11, zs_L_11, zr_L_19, za_L_12, zs_L_12, zz_0, zz_31, zz_add, zz_sub, zz_mul, zz_neg, zz_lt, zz_le, zz_eq, zz_div, zz_md, zz_dv, zz_abs, zz_max, zz_min, zz_nI, zz_be0, zz_be1, zz_zb, zz_z, zz_l0, zz_l, zz_lcmp, zo_rf, zo_nl, zo_nn, zo_rI, zo_rL, zo_rR, zo_rV, Int.add_zero, Int.zero_add, Int.mul_zero, Int.zero_mul, Int.one_mul, Int.mul_one, if_true, if_false, not_true_eq_false, not_false_eq_true]
    exact zz_Er rfl
  · have m : ∀ y, (y < 8 ∨ 24 ≤ y) → zz_mv A a b y = A y := fun y hy => zz_mv_o (by omega) (by omega)
    obtain ⟨r1, r2, r3, r4⟩ := hR
    have hcd : ∀ c i, zz_cd (zz_mv A a b) c i = zz_cd A c i := fun c i => by
      unfold zz_cd
      rw [m 0 (by omega), m 1 (by omega)]
    refine ⟨?_, ?_, ?_, ?_⟩
    · have := zc_geo_f (J' := zz_w J (p + 4) (zz_f (zz_f (J (p + 4)) a (J (p + 4) a - 1)) b (J (p + 4) b + 1))) r1 (fun x x1 x2 => zw_n (by omega))
      unfold zc_geo at this ⊢
      rw [m 0 (by omega), m 1 (by omega)]
      refine ⟨this.1, fun c c0 c1 => ⟨(this.2.1 c c0 c1).1, fun i i0 i1 => by rw [hcd]; exact (this.2.1 c c0 c1).2 i i0 i1⟩, this.2.2⟩
    · rw [zw_n (by omega), m 5 (by omega), m 2 (by omega), m 3 (by omega), m 4 (by omega), m 7 (by omega)]
      exact r2
    · rw [m 0 (by omega), m 1 (by omega), zw_s, zw_n (by omega), zw_n (by omega), m 6 (by omega)]
      intro c c0 c1
      have rc := r3 c c0 c1
      rw [m (24 + c) (by omega)]
      refine ⟨?_, rc.2⟩
      by_cases e : c = b
      · rw [e, zf_s, zz_mv_b, qb]
      · rw [zf_n e]
        by_cases e' : c = a
        · rw [e', zf_s, zz_mv_a hne, qa]
        · rw [zf_n e', zz_mv_o (by omega) (by omega)]
          exact rc.1
    · rw [m 7 (by omega)]
      intro e e0 e1
      obtain ⟨⟨x, q1, q2, q3, q4⟩, q5, q6⟩ := r4 e e0 e1
      have hlt : p + 4 < 156 := by rcases hp with rfl | rfl | rfl | rfl <;> omega
      unfold zc_dr
      rw [m (40 + 15 * e) (by omega), m (41 + 15 * e) (by omega), m (42 + 15 * e) (by omega), zw_n (by omega), zw_n (by omega), zw_n (by omega), zw_n (by omega)]
      refine ⟨⟨x, q1, q2, q3, ?_⟩, q5, fun w w0 w1 => ?_⟩
      · rw [zw_n (by omega)]
        exact q4
      · rw [m (43 + 15 * e + 3 * w) (by omega), m (44 + 15 * e + 3 * w) (by omega), m (45 + 15 * e + 3 * w) (by omega)]
        exact q6 w w0 w1
end ZLND
