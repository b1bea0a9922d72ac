/-! PURE LAYER, 74: the class's shelves: copies, prices, failures, elements, maps, judgements -/
theorem zk_app {T : List mv_T} {l : List mv_T} {a : Nat} {t : mv_T} (h : T[a]? = some t) : (T ++ l)[a]? = some t := by
  have hlt : a < T.length := by
    rcases Nat.lt_or_ge a T.length with q | q
    · exact q
    · rw [List.getElem?_eq_none q] at h
      cases h
  rw [List.getElem?_append_left hlt]
  exact h
theorem ZL_T {T : List mv_T} {R : Nat → Nat → Option Nat} (h : ZL T R) (l : List mv_T) : ZL (T ++ l) R := ⟨fun k q e => zk_app (h.1 k q e), h.2⟩
def zv_kd (V : Nat → Int → Int) (k : Int) (r : Int) : Int := if 0 ≤ k ∧ k < 8 then (if V 135 k = 0 then -11 else if V 135 k = 1 then r else -12) else -1
def zv_el (V : Nat → Int → Int) (k i : Int) : Int := if 0 ≤ k ∧ k < 8 then (if V 135 k = 2 ∧ 0 ≤ i ∧ i < V 137 k then 0 else 2) else 1
def zv_copy (V : Nat → Int → Int) (k i e j n : Int) : Int := if (0 ≤ k ∧ k < 8) ∧ 0 ≤ e ∧ e < 8 then (if V 135 k = 0 ∨ V 135 e = 0 then -11 else if V 135 k = 2 ∧ V 135 e = 2 ∧ V 136 e = V 136 k then (if (0 ≤ i ∧ 0 ≤ n ∧ n ≤ V 137 k - i) ∧ 0 ≤ j ∧ n ≤ V 137 e - j then n else -13) else -12) else -1
def zv_copyV (V : Nat → Int → Int) (k i e j n : Int) : Nat → Int → Int := if ((0 ≤ k ∧ k < 8) ∧ 0 ≤ e ∧ e < 8) ∧ (V 135 k = 2 ∧ V 135 e = 2 ∧ V 136 e = V 136 k) ∧ (0 ≤ i ∧ 0 ≤ n ∧ n ≤ V 137 k - i) ∧ 0 ≤ j ∧ n ≤ V 137 e - j then zz_w V 138 (fun y => if 100 * e + j ≤ y ∧ y < 100 * e + j + n then V 138 (100 * k + i + (y - (100 * e + j))) else V 138 y) else V
def zv_mapA (V : Nat → Int → Int) (A : Int → Int) (k : Int) : Int → Int := fun y => if 24 ≤ y ∧ y < 24 + A 0 * A 1 then (if V 138 (100 * k + (y - 24)) = 99 then -4 else V 138 (100 * k + (y - 24))) else A y
def zv_map (V : Nat → Int → Int) (A : Int → Int) (k v : Int) (A' : Int → Int) : Prop := (zv_wr V k 0 ≠ 0 ∧ v = zv_wr V k 0 ∧ A' = A) ∨ (zv_wr V k 0 = 0 ∧ ¬ zk_mp V k (A 0 * A 1) ∧ v = -13 ∧ A' = A) ∨ (zv_wr V k 0 = 0 ∧ zk_mp V k (A 0 * A 1) ∧ v = zz_sum (fun c => if A' (24 + c) < 0 then 0 else 1) (A 0 * A 1) ∧ A' = zv_mapA V A k)
def zv_bad (V : Nat → Int → Int) (A : Int → Int) (k c : Int) : Prop := V 138 (100 * k + c) ≠ zv_ln (V 136 k) ∧ V 138 (100 * k + c) ≠ A (8 + c)
def zv_jd (V : Nat → Int → Int) (A : Int → Int) (k v : Int) : Prop := ((0 ≤ v ∧ v < A 0 * A 1 ∧ v < V 137 k) ∧ zv_bad V A k v ∧ ∀ i, 0 ≤ i → i < v → ¬ zv_bad V A k i) ∨ ((∀ i, 0 ≤ i → i < A 0 * A 1 → i < V 137 k → ¬ zv_bad V A k i) ∧ v = if V 137 k = A 0 * A 1 then -4 else min (V 137 k) (A 0 * A 1))
def zv_judge (V : Nat → Int → Int) (A : Int → Int) (k v : Int) : Prop := (zv_wr V k (-1) ≠ 0 ∧ v = zv_wr V k (-1)) ∨ (zv_wr V k (-1) = 0 ∧ zv_jd V A k v)
theorem zv_jd_u {V : Nat → Int → Int} {A : Int → Int} {k v v' : Int} (h : zv_jd V A k v) (h' : zv_jd V A k v') : v = v' := by
  rcases h with ⟨p1, p2, p3⟩ | ⟨p1, p2⟩
  · rcases h' with ⟨q1, q2, q3⟩ | ⟨q1, q2⟩
    · rcases Int.lt_trichotomy v v' with e | e | e
      · exact absurd p2 (q3 v p1.1 e)
      · exact e
      · exact absurd q2 (p3 v' q1.1 e)
    · exact absurd p2 (q1 v p1.1 p1.2.1 p1.2.2)
  · rcases h' with ⟨q1, q2, q3⟩ | ⟨q1, q2⟩
    · exact absurd q2 (p1 v' q1.1 q1.2.1 q1.2.2)
    · rw [p2, q2]
theorem zv_judge_u {V : Nat → Int → Int} {A : Int → Int} {k v v' : Int} (h : zv_judge V A k v) (h' : zv_judge V A k v') : v = v' := by
  rcases h with ⟨p1, p2⟩ | ⟨p1, p2⟩
  · rcases h' with ⟨q1, q2⟩ | ⟨q1, q2⟩
    · rw [p2, q2]
    · exact absurd q1 p1
  · rcases h' with ⟨q1, q2⟩ | ⟨q1, q2⟩
    · exact absurd p1 q1
    · exact zv_jd_u p2 q2
theorem zv_map_u {V : Nat → Int → Int} {A A1 A2 : Int → Int} {k v v' : Int} (h : zv_map V A k v A1) (h' : zv_map V A k v' A2) : v = v' ∧ A1 = A2 := by
  rcases h with ⟨p1, p2, p3⟩ | ⟨p1, p2, p3, p4⟩ | ⟨p1, p2, p3, p4⟩
  · rcases h' with ⟨q1, q2, q3⟩ | ⟨q1, q2, q3, q4⟩ | ⟨q1, q2, q3, q4⟩
    · exact ⟨by rw [p2, q2], by rw [p3, q3]⟩
    · exact absurd q1 p1
    · exact absurd q1 p1
  · rcases h' with ⟨q1, q2, q3⟩ | ⟨q1, q2, q3, q4⟩ | ⟨q1, q2, q3, q4⟩
    · exact absurd p1 q1
    · exact ⟨by rw [p3, q3], by rw [p4, q4]⟩
    · exact absurd q2 p2
  · rcases h' with ⟨q1, q2, q3⟩ | ⟨q1, q2, q3, q4⟩ | ⟨q1, q2, q3, q4⟩
    · exact absurd p1 q1
    · exact absurd p2 q2
    · subst p4
      subst q4
      exact ⟨by rw [p3, q3], rfl⟩
section ZSHE
variable {T : List mv_T} {J V : Nat → Int → Int} {R : Nat → Nat → Option Nat} {G : Nat → Nat → Int64} {d p q : Nat} {k Y : Int} {A : Int → Int}
theorem c_124 (hd : 2 ≤ d) (hL : ZL T R) (hs : zk_sh T R J V) (h1 : zk_r32 k) : mv_cax d 124 [.inr (.inr (some 16)), .inl (mv_c k)] (zz_S T J R G) = some (some (.inl (mv_c (zv_kd V k (V 139 k)))), (zz_S T J R G)) := by
  obtain ⟨h1, h1'⟩ := h1
  have c126 := c_126 (T := T) (J := J) (R := R) (G := G) (d := d - 1) (k := k) (by omega) hL h1 h1'
  unfold zv_kd
  by_cases hk : 0 ≤ k ∧ k < 8
  · rw [if_pos hk] at c126 ⊢
    have hq := zk_q hk.1 hk.2
    have hsk := hs k hk.1 hk.2
    have c64 := c_64 (T := T) (J := J) (V := V) (R := R) (G := G) (d := d - 1) (k := k) (by omega) hL hq hsk
    rcases hsk with ⟨h, g1, g2⟩ | ⟨h, g1, a, n, e, f, g2, g3, g4, g5⟩ | ⟨h, g1, g2, -⟩
    · rw [zz_b_t h] at c64
      rw [if_pos h]
      refine zz_c (zz_call (by omega) t_124 rfl (fun n => e_124 _ _ _) ?_)
      simp (maxSteps := 5000000) (disch := first | assumption | omega) only [zi_16, zi_H, c126, c64, zz_0, zz_31, zz_add, zz_sub, zz_mul, zz_neg, zz_lt, zz_le, zz_eq, zz_div, zz_md, zz_dv, zz_abs, zz_max, zz_min, zz_nI, zz_be0, zz_be1, zz_zb, zz_z, zz_l0, zz_l, zz_lcmp, zo_rf, zo_nl, zo_nn, zo_rI, zo_rL, zo_rR, zo_rV, Int.add_zero, Int.zero_add, Int.mul_zero, Int.zero_mul, Int.one_mul, Int.mul_one, if_true, if_false, not_true_eq_false, not_false_eq_true]
      try (refine zz_Ei (fun h => absurd (show (1 : Int) = 0 from h) (by omega)) (fun _ => ?_))
      exact zz_Er rfl
    · rw [zz_b_f (by omega)] at c64
      rw [if_neg (by omega), if_pos h, g4]
      have c27 := c_27 (T := T) (J := J) (R := R) (G := G) (d := d - 1) (by omega) g3
      have ha := g3.1
      refine zz_c (zz_call (by omega) t_124 rfl (fun n => e_124 _ _ _) ?_)
      simp (maxSteps := 5000000) (disch := first | assumption | omega) only [zi_16, zi_H, c126, c64, zr_H_0, g2, zi_D, c27, zz_0, zz_31, zz_add, zz_sub, zz_mul, zz_neg, zz_lt, zz_le, zz_eq, zz_div, zz_md, zz_dv, zz_abs, zz_max, zz_min, zz_nI, zz_be0, zz_be1, zz_zb, zz_z, zz_l0, zz_l, zz_lcmp, zo_rf, zo_nl, zo_nn, zo_rI, zo_rL, zo_rR, zo_rV, Int.add_zero, Int.zero_add, Int.mul_zero, Int.zero_mul, Int.one_mul, Int.mul_one, if_true, if_false, not_true_eq_false, not_false_eq_true]
      exact zz_Er rfl
    · rw [zz_b_f (by omega)] at c64
      rw [if_neg (by omega), if_neg (by omega)]
      refine zz_c (zz_call (by omega) t_124 rfl (fun n => e_124 _ _ _) ?_)
      simp (maxSteps := 5000000) (disch := first | assumption | omega) only [zi_16, zi_H, c126, c64, zr_H_0, g2, zz_0, zz_31, zz_add, zz_sub, zz_mul, zz_neg, zz_lt, zz_le, zz_eq, zz_div, zz_md, zz_dv, zz_abs, zz_max, zz_min, zz_nI, zz_be0, zz_be1, zz_zb, zz_z, zz_l0, zz_l, zz_lcmp, zo_rf, zo_nl, zo_nn, zo_rI, zo_rL, zo_rR, zo_rV, Int.add_zero, Int.zero_add, Int.mul_zero, Int.zero_mul, Int.one_mul, Int.mul_one, if_true, if_false, not_true_eq_false, not_false_eq_true]
      exact zz_Er rfl
  · rw [if_neg hk] at c126 ⊢
    refine zz_c (zz_call (by omega) t_124 rfl (fun n => e_124 _ _ _) ?_)
    simp (maxSteps := 5000000) (disch := first | assumption | omega) only [zi_16, c126, zz_0, zz_31, zz_add, zz_sub, zz_mul, zz_neg, zz_lt, zz_le, zz_eq, zz_div, zz_md, zz_dv, zz_abs, zz_max, zz_min, zz_nI, zz_be0, zz_be1, zz_zb, zz_z, zz_l0, zz_l, zz_lcmp, zo_rf, zo_nl, zo_nn, zo_rI, zo_rL, zo_rR, zo_rV, Int.add_zero, Int.zero_add, Int.mul_zero, Int.zero_mul, Int.one_mul, Int.mul_one, if_true, if_false, not_true_eq_false, not_false_eq_true]
    exact zz_Er rfl
theorem zk_opq {n : Nat} : mv_opq (zz_S T J R G) n = zz_S (T ++ [.inr (98, n)]) J R G := rfl
theorem c_28 {a : Nat} {n e f : Int} (hd : 1 ≤ d) (h : zk_dw T J a n e f) : (zk_st n e f = -15 ∧ mv_cax d 28 [.inr (.inr (some a))] (zz_S T J R G) = some (none, (zz_S T J R G))) ∨ (zk_st n e f = 200 + zk_sp e f ∧ mv_cax d 28 [.inr (.inr (some a))] (zz_S T J R G) = some (some (.inl (nI 3)), zz_S (T ++ [.inr (98, 6)]) J R G)) ∨ (zk_st n e f = 100 + n ∧ mv_cax d 28 [.inr (.inr (some a))] (zz_S T J R G) = some (some (.inl (nI 2)), zz_S (T ++ [.inr (98, 6)]) J R G)) ∨ (zk_st n e f = n ∧ mv_cax d 28 [.inr (.inr (some a))] (zz_S T J R G) = some (some (.inl (nI 1)), zz_S (T ++ [.inr (98, 6)]) J R G)) := by
  obtain ⟨h0, -, h1, h2, h3, -, ⟨h4, h5⟩, h6, h7⟩ := h
  by_cases e5 : e = 5
  · left
    refine ⟨by rw [zk_st, if_pos (Or.inl e5)], ?_⟩
    refine zz_c (zz_call (by omega) t_28 rfl (fun n => e_28 _ _) ?_)
    simp (maxSteps := 5000000) (disch := first | assumption | omega) only [h2, h3, zg_D_0, zp_D_0, zg_D_1, zp_D_1, zg_D_2, zp_D_2, zi_D, zz_0, zz_31, zz_add, zz_sub, zz_mul, zz_neg, zz_lt, zz_le, zz_eq, zz_div, zz_md, zz_dv, zz_abs, zz_max, zz_min, zz_nI, zz_be0, zz_be1, zz_zb, zz_z, zz_l0, zz_l, zz_lcmp, zo_rf, zo_nl, zo_nn, zo_rI, zo_rL, zo_rR, zo_rV, Int.add_zero, Int.zero_add, Int.mul_zero, Int.zero_mul, Int.one_mul, Int.mul_one, if_true, if_false, not_true_eq_false, not_false_eq_true]
    exact zz_Ei (fun _ => zz_Er rfl) (fun h => absurd e5 h)
  · by_cases f0 : f = 0
    · left
      refine ⟨by rw [zk_st, if_pos (Or.inr f0)], ?_⟩
      refine zz_c (zz_call (by omega) t_28 rfl (fun n => e_28 _ _) ?_)
      simp (maxSteps := 5000000) (disch := first | assumption | omega) only [h2, h3, zg_D_0, zp_D_0, zg_D_1, zp_D_1, zg_D_2, zp_D_2, zi_D, zz_0, zz_31, zz_add, zz_sub, zz_mul, zz_neg, zz_lt, zz_le, zz_eq, zz_div, zz_md, zz_dv, zz_abs, zz_max, zz_min, zz_nI, zz_be0, zz_be1, zz_zb, zz_z, zz_l0, zz_l, zz_lcmp, zo_rf, zo_nl, zo_nn, zo_rI, zo_rL, zo_rR, zo_rV, Int.add_zero, Int.zero_add, Int.mul_zero, Int.zero_mul, Int.one_mul, Int.mul_one, if_true, if_false, not_true_eq_false, not_false_eq_true]
      refine zz_Ei (fun h => absurd h e5) (fun _ => ?_)
      exact zz_Ei (fun _ => zz_Er rfl) (fun h => absurd f0 h)
    · by_cases e6 : e = 6
      · right; left
        refine ⟨by rw [zk_st, if_neg (by omega), if_neg (by omega), if_pos e6], ?_⟩
        refine zz_c (zz_call (by omega) t_28 rfl (fun n => e_28 _ _) ?_)
        simp (maxSteps := 5000000) (disch := first | assumption | omega) only [h2, h3, zk_opq, zg_D_0, zp_D_0, zg_D_1, zp_D_1, zg_D_2, zp_D_2, zi_D, zz_0, zz_31, zz_add, zz_sub, zz_mul, zz_neg, zz_lt, zz_le, zz_eq, zz_div, zz_md, zz_dv, zz_abs, zz_max, zz_min, zz_nI, zz_be0, zz_be1, zz_zb, zz_z, zz_l0, zz_l, zz_lcmp, zo_rf, zo_nl, zo_nn, zo_rI, zo_rL, zo_rR, zo_rV, Int.add_zero, Int.zero_add, Int.mul_zero, Int.zero_mul, Int.one_mul, Int.mul_one, if_true, if_false, not_true_eq_false, not_false_eq_true]
        refine zz_Ei (fun h => absurd h e5) (fun _ => ?_)
        refine zz_Ei (fun h => absurd h f0) (fun _ => ?_)
        exact zz_Ei (fun _ => zz_Er rfl) (fun h => absurd e6 h)
      · by_cases e4 : e = 4
        · right; right; left
          refine ⟨by rw [zk_st, if_neg (by omega), if_pos e4], ?_⟩
          refine zz_c (zz_call (by omega) t_28 rfl (fun n => e_28 _ _) ?_)
          simp (maxSteps := 5000000) (disch := first | assumption | omega) only [h2, h3, zk_opq, zg_D_0, zp_D_0, zg_D_1, zp_D_1, zg_D_2, zp_D_2, zi_D, zz_0, zz_31, zz_add, zz_sub, zz_mul, zz_neg, zz_lt, zz_le, zz_eq, zz_div, zz_md, zz_dv, zz_abs, zz_max, zz_min, zz_nI, zz_be0, zz_be1, zz_zb, zz_z, zz_l0, zz_l, zz_lcmp, zo_rf, zo_nl, zo_nn, zo_rI, zo_rL, zo_rR, zo_rV, Int.add_zero, Int.zero_add, Int.mul_zero, Int.zero_mul, Int.one_mul, Int.mul_one, if_true, if_false, not_true_eq_false, not_false_eq_true]
          refine zz_Ei (fun h => absurd h e5) (fun _ => ?_)
          refine zz_Ei (fun h => absurd h f0) (fun _ => ?_)
          refine zz_Ei (fun h => absurd h e6) (fun _ => ?_)
          exact zz_Ei (fun _ => zz_Er rfl) (fun h => absurd e4 h)
        · right; right; right
          refine ⟨by rw [zk_st, if_neg (by omega), if_neg e4, if_neg e6], ?_⟩
          refine zz_c (zz_call (by omega) t_28 rfl (fun n => e_28 _ _) ?_)
          simp (maxSteps := 5000000) (disch := first | assumption | omega) only [h2, h3, zk_opq, zg_D_0, zp_D_0, zg_D_1, zp_D_1, zg_D_2, zp_D_2, zi_D, zz_0, zz_31, zz_add, zz_sub, zz_mul, zz_neg, zz_lt, zz_le, zz_eq, zz_div, zz_md, zz_dv, zz_abs, zz_max, zz_min, zz_nI, zz_be0, zz_be1, zz_zb, zz_z, zz_l0, zz_l, zz_lcmp, zo_rf, zo_nl, zo_nn, zo_rI, zo_rL, zo_rR, zo_rV, Int.add_zero, Int.zero_add, Int.mul_zero, Int.zero_mul, Int.one_mul, Int.mul_one, if_true, if_false, not_true_eq_false, not_false_eq_true]
          refine zz_Ei (fun h => absurd h e5) (fun _ => ?_)
          refine zz_Ei (fun h => absurd h f0) (fun _ => ?_)
          refine zz_Ei (fun h => absurd h e6) (fun _ => ?_)
          exact zz_Ei (fun h => absurd h e4) (fun _ => zz_Er rfl)
theorem zk_t00 {σ : mv_S} {k : mv_S → mv_O} {t : Int32 → mv_S → mv_O} : mo_t0 (some (none, σ)) k t = k σ := rfl
theorem zk_t0t {σ : mv_S} {x : Int32} {k : mv_S → mv_O} {t : Int32 → mv_S → mv_O} : mo_t0 (some (some (.inl x), σ)) k t = t x σ := rfl
theorem zk_t3l {σ : mv_S} {y : Int64} {k : Int64 → mv_S → mv_O} {t : Int32 → mv_S → mv_O} : mo_t3 (some (some (.inr (.inl y)), σ)) k t = k y σ := rfl
theorem zk_t3t {σ : mv_S} {x : Int32} {k : Int64 → mv_S → mv_O} {t : Int32 → mv_S → mv_O} : mo_t3 (some (some (.inl x), σ)) k t = t x σ := rfl
theorem zk_n12 : (nI 1 = nI 2) = False := by decide
theorem zk_n13 : (nI 1 = nI 3) = False := by decide
theorem zk_n21 : (nI 2 = nI 1) = False := by decide
theorem zk_n31 : (nI 3 = nI 1) = False := by decide
theorem zk_n32 : (nI 3 = nI 2) = False := by decide
theorem zk_nn {n : Nat} : (nI n = nI n) = True := by simp
theorem c_125 (hd : 2 ≤ d) (hL : ZL T R) (hs : zk_sh T R J V) (h1 : zk_r32 k) : ∃ T', mv_cax d 125 [.inr (.inr (some 16)), .inl (mv_c k)] (zz_S T J R G) = some (some (.inl (mv_c (zv_kd V k (V 140 k)))), zz_S T' J R G) ∧ (T' = T ∨ T' = T ++ [.inr (98, 6)]) := by
  obtain ⟨h1, h1'⟩ := h1
  have c126 := c_126 (T := T) (J := J) (R := R) (G := G) (d := d - 1) (k := k) (by omega) hL h1 h1'
  unfold zv_kd
  by_cases hk : 0 ≤ k ∧ k < 8
  · rw [if_pos hk] at c126 ⊢
    have hq := zk_q hk.1 hk.2
    have hsk := hs k hk.1 hk.2
    have c64 := c_64 (T := T) (J := J) (V := V) (R := R) (G := G) (d := d - 1) (k := k) (by omega) hL hq hsk
    rcases hsk with ⟨h, g1, g2⟩ | ⟨h, g1, a, n, e, f, g2, g3, g4, g5⟩ | ⟨h, g1, g2, -⟩
    · rw [zz_b_t h] at c64
      rw [if_pos h]
      refine ⟨T, ?_, Or.inl rfl⟩
      refine zz_c (zz_call (by omega) t_125 rfl (fun n => e_125 _ _ _) ?_)
      simp (maxSteps := 5000000) (disch := first | assumption | omega) only [zi_16, zi_H, c126, c64, zz_0, zz_31, zz_add, zz_sub, zz_mul, zz_neg, zz_lt, zz_le, zz_eq, zz_div, zz_md, zz_dv, zz_abs, zz_max, zz_min, zz_nI, zz_be0, zz_be1, zz_zb, zz_z, zz_l0, zz_l, zz_lcmp, zo_rf, zo_nl, zo_nn, zo_rI, zo_rL, zo_rR, zo_rV, Int.add_zero, Int.zero_add, Int.mul_zero, Int.zero_mul, Int.one_mul, Int.mul_one, if_true, if_false, not_true_eq_false, not_false_eq_true]
      try (refine zz_Ei (fun h => absurd (show (1 : Int) = 0 from h) (by omega)) (fun _ => ?_))
      exact zz_Er rfl
    · rw [zz_b_f (by omega)] at c64
      rw [if_neg (by omega), if_pos h, g5]
      have ha : T[a]? = some (.inl 2) := g3.1
      have ha' : (T ++ [.inr (98, 6)])[a]? = some (.inl 2) := zk_app ha
      have gw : zk_dw (T ++ [.inr (98, 6)]) J a n e f := ⟨ha', g3.2⟩
      have g0 : J a 0 = n := g3.2.2.1
      have c27 := c_27 (T := T ++ [.inr (98, 6)]) (J := J) (R := R) (G := G) (d := d - 1) (by omega) gw
      rcases c_28 (T := T) (J := J) (R := R) (G := G) (d := d - 1) (by omega) g3 with ⟨es, c28⟩ | ⟨es, c28⟩ | ⟨es, c28⟩ | ⟨es, c28⟩
      · rw [es]
        refine ⟨T, ?_, Or.inl rfl⟩
        refine zz_c (zz_call (by omega) t_125 rfl (fun n => e_125 _ _ _) ?_)
        simp (maxSteps := 5000000) (disch := first | assumption | omega) only [zi_16, zi_H, c126, c64, zr_H_0, g2, zi_D, c28, zk_t00, zz_0, zz_31, zz_add, zz_sub, zz_mul, zz_neg, zz_lt, zz_le, zz_eq, zz_div, zz_md, zz_dv, zz_abs, zz_max, zz_min, zz_nI, zz_be0, zz_be1, zz_zb, zz_z, zz_l0, zz_l, zz_lcmp, zo_rf, zo_nl, zo_nn, zo_rI, zo_rL, zo_rR, zo_rV, Int.add_zero, Int.zero_add, Int.mul_zero, Int.zero_mul, Int.one_mul, Int.mul_one, if_true, if_false, not_true_eq_false, not_false_eq_true]
        exact zz_Er rfl
      · rw [es]
        refine ⟨T ++ [.inr (98, 6)], ?_, Or.inr rfl⟩
        refine zz_c (zz_call (by omega) t_125 rfl (fun n => e_125 _ _ _) ?_)
        simp (maxSteps := 5000000) (disch := first | assumption | omega) only [zi_16, zi_H, c126, c64, zr_H_0, g2, zi_D, c28, zk_t0t, zk_n31, zk_n32, zk_nn, c27, zz_0, zz_31, zz_add, zz_sub, zz_mul, zz_neg, zz_lt, zz_le, zz_eq, zz_div, zz_md, zz_dv, zz_abs, zz_max, zz_min, zz_nI, zz_be0, zz_be1, zz_zb, zz_z, zz_l0, zz_l, zz_lcmp, zo_rf, zo_nl, zo_nn, zo_rI, zo_rL, zo_rR, zo_rV, Int.add_zero, Int.zero_add, Int.mul_zero, Int.zero_mul, Int.one_mul, Int.mul_one, if_true, if_false, not_true_eq_false, not_false_eq_true]
        exact zz_Er rfl
      · rw [es]
        refine ⟨T ++ [.inr (98, 6)], ?_, Or.inr rfl⟩
        refine zz_c (zz_call (by omega) t_125 rfl (fun n => e_125 _ _ _) ?_)
        simp (maxSteps := 5000000) (disch := first | assumption | omega) only [zi_16, zi_H, c126, c64, zr_H_0, g2, zi_D, c28, zk_t0t, zk_n21, zk_nn, zg_D_0, g0, zz_0, zz_31, zz_add, zz_sub, zz_mul, zz_neg, zz_lt, zz_le, zz_eq, zz_div, zz_md, zz_dv, zz_abs, zz_max, zz_min, zz_nI, zz_be0, zz_be1, zz_zb, zz_z, zz_l0, zz_l, zz_lcmp, zo_rf, zo_nl, zo_nn, zo_rI, zo_rL, zo_rR, zo_rV, Int.add_zero, Int.zero_add, Int.mul_zero, Int.zero_mul, Int.one_mul, Int.mul_one, if_true, if_false, not_true_eq_false, not_false_eq_true]
        exact zz_Er rfl
      · rw [es]
        refine ⟨T ++ [.inr (98, 6)], ?_, Or.inr rfl⟩
        refine zz_c (zz_call (by omega) t_125 rfl (fun n => e_125 _ _ _) ?_)
        simp (maxSteps := 5000000) (disch := first | assumption | omega) only [zi_16, zi_H, c126, c64, zr_H_0, g2, zi_D, c28, zk_t0t, zk_nn, zg_D_0, g0, zz_0, zz_31, zz_add, zz_sub, zz_mul, zz_neg, zz_lt, zz_le, zz_eq, zz_div, zz_md, zz_dv, zz_abs, zz_max, zz_min, zz_nI, zz_be0, zz_be1, zz_zb, zz_z, zz_l0, zz_l, zz_lcmp, zo_rf, zo_nl, zo_nn, zo_rI, zo_rL, zo_rR, zo_rV, Int.add_zero, Int.zero_add, Int.mul_zero, Int.zero_mul, Int.one_mul, Int.mul_one, if_true, if_false, not_true_eq_false, not_false_eq_true]
        exact zz_Er rfl
    · rw [zz_b_f (by omega)] at c64
      rw [if_neg (by omega), if_neg (by omega)]
      refine ⟨T, ?_, Or.inl rfl⟩
      refine zz_c (zz_call (by omega) t_125 rfl (fun n => e_125 _ _ _) ?_)
      simp (maxSteps := 5000000) (disch := first | assumption | omega) only [zi_16, zi_H, c126, c64, zr_H_0, g2, zz_0, zz_31, zz_add, zz_sub, zz_mul, zz_neg, zz_lt, zz_le, zz_eq, zz_div, zz_md, zz_dv, zz_abs, zz_max, zz_min, zz_nI, zz_be0, zz_be1, zz_zb, zz_z, zz_l0, zz_l, zz_lcmp, zo_rf, zo_nl, zo_nn, zo_rI, zo_rL, zo_rR, zo_rV, Int.add_zero, Int.zero_add, Int.mul_zero, Int.zero_mul, Int.one_mul, Int.mul_one, if_true, if_false, not_true_eq_false, not_false_eq_true]
      exact zz_Er rfl
  · rw [if_neg hk] at c126 ⊢
    refine ⟨T, ?_, Or.inl rfl⟩
    refine zz_c (zz_call (by omega) t_125 rfl (fun n => e_125 _ _ _) ?_)
    simp (maxSteps := 5000000) (disch := first | assumption | omega) only [zi_16, c126, zz_0, zz_31, zz_add, zz_sub, zz_mul, zz_neg, zz_lt, zz_le, zz_eq, zz_div, zz_md, zz_dv, zz_abs, zz_max, zz_min, zz_nI, zz_be0, zz_be1, zz_zb, zz_z, zz_l0, zz_l, zz_lcmp, zo_rf, zo_nl, zo_nn, zo_rI, zo_rL, zo_rR, zo_rV, Int.add_zero, Int.zero_add, Int.mul_zero, Int.zero_mul, Int.one_mul, Int.mul_one, if_true, if_false, not_true_eq_false, not_false_eq_true]
    exact zz_Er rfl
theorem zk_aL {i : Int} (h : T[155]? = some (.inr (2, 1))) {k : Int64 → mv_O} : mo_aL (zz_S T J R G) 155 (mv_c 0) k = k (G 155 0) := by
  unfold mo_aL
  rw [zz_ty h, zz_ix (by omega) (by omega) (by omega)]
  rfl
theorem zk_sL (h : T[155]? = some (.inr (2, 1))) {x : Int64} {k : mv_S → mv_O} : mo_sL (zz_S T J R G) 155 (mv_c 0) x k = k (zz_S T J R (mv_up G 155 0 x)) := by
  unfold mo_sL mo_own
  rw [if_pos (by omega), zz_ty h, zz_ix (by omega) (by omega) (by omega)]
  rfl
theorem c_218 {i : Int} (hd : 4 ≤ d) (hL : ZL T R) (hs : zk_sh T R J V) (h1 : zk_r32 k) (h2 : zk_r32 i) : ∃ T' G', mv_cax d 218 [.inr (.inr (some 16)), .inl (mv_c k), .inl (mv_c i), .inr (.inr (some 155))] (zz_S T J R G) = some (some (.inl (mv_c (zv_el V k i))), zz_S T' J R G') ∧ (T' = T ∨ T' = T ++ [.inr (98, 6)]) ∧ (zv_el V k i = 0 → G' 155 0 = mv_cl (V 138 (100 * k + i))) := by
  obtain ⟨h1, h1'⟩ := h1
  obtain ⟨h2, h2'⟩ := h2
  have t155 : T[155]? = some (.inr (2, 1)) := hL.at 139 (by rfl)
  have c126 := c_126 (T := T) (J := J) (R := R) (G := G) (d := d - 1 - 1) (k := k) (by omega) hL h1 h1'
  unfold zv_el
  by_cases hk : 0 ≤ k ∧ k < 8
  · rw [if_pos hk] at c126 ⊢
    have hq := zk_q hk.1 hk.2
    have hsk := hs k hk.1 hk.2
    by_cases hr : V 135 k = 2
    · have hro := zk_sq2 hsk hr
      have c68 := c_68 (T := T) (J := J) (V := V) (R := R) (G := G) (d := d - 1 - 1) (k := k) (i := i) (by omega) hL hq hro h2 h2'
      have h11 := hro.1
      by_cases hi : 0 ≤ i ∧ i < V 137 k
      · rw [zz_b_t hi] at c68
        have hr32 := (hro.2.2.2.2 i hi.1 (by have := hro.2.2.2.1.2.2; omega)).2
        unfold zk_r32 at hr32
        have c70 := c_70 (T := T) (J := J) (V := V) (R := R) (G := G) (d := d - 1 - 1) (k := k) (i := i) (by omega) hL hq hro hi.1 hi.2
        have c122 : mv_cax (d - 1) 122 [.inr (.inr (some 16)), .inl (mv_c k), .inl (mv_c i)] (zz_S T J R G) = some (some (.inr (.inl (mv_cl (V 138 (100 * k + i))))), (zz_S T J R G)) := by
          refine zz_c (zz_call (by omega) t_122 rfl (fun n => e_122 _ _ _ _) ?_)
          simp (maxSteps := 5000000) (disch := first | assumption | omega) only [zi_16, c126, h11, c68, c70, zr_sh, zg_H_1, zp_H_1, zg_H_2, zp_H_2, zg_H_3, zp_H_3, zr_H_0, zq_H_0, zr_H_4, zi_H, za_H, zs_H, zl_H, zz_0, zz_31, zz_add, zz_sub, zz_mul, zz_neg, zz_lt, zz_le, zz_eq, zz_div, zz_md, zz_dv, zz_abs, zz_max, zz_min, zz_nI, zz_be0, zz_be1, zz_zb, zz_z, zz_l0, zz_l, zz_lcmp, zo_rf, zo_nl, zo_nn, zo_rI, zo_rL, zo_rR, zo_rV, Int.add_zero, Int.zero_add, Int.mul_zero, Int.zero_mul, Int.one_mul, Int.mul_one, if_true, if_false, not_true_eq_false, not_false_eq_true]
          repeat' (first | exact zz_Er rfl | refine zz_Ei (fun h => ?_) (fun g => ?_))
          all_goals (exfalso; omega)
        rw [if_pos ⟨hr, hi⟩]
        refine ⟨T, mv_up G 155 0 (mv_cl (V 138 (100 * k + i))), ?_, Or.inl rfl, fun _ => by unfold mv_up; rw [if_pos rfl, if_pos rfl]⟩
        refine zz_c (zz_call (by omega) t_218 rfl (fun n => e_218 _ _ _ _ _) ?_)
        simp (maxSteps := 5000000) (disch := first | assumption | omega) only [zi_16, c122, zk_t3l, zk_sL t155, zz_0, zz_31, zz_add, zz_sub, zz_mul, zz_neg, zz_lt, zz_le, zz_eq, zz_div, zz_md, zz_dv, zz_abs, zz_max, zz_min, zz_nI, zz_be0, zz_be1, zz_zb, zz_z, zz_l0, zz_l, zz_lcmp, zo_rf, zo_nl, zo_nn, zo_rI, zo_rL, zo_rR, zo_rV, Int.add_zero, Int.zero_add, Int.mul_zero, Int.zero_mul, Int.one_mul, Int.mul_one, if_true, if_false, not_true_eq_false, not_false_eq_true]
        exact zz_Er rfl
      · rw [zz_b_f hi] at c68
        have c122 : mv_cax (d - 1) 122 [.inr (.inr (some 16)), .inl (mv_c k), .inl (mv_c i)] (zz_S T J R G) = some (some (.inl (nI 1)), zz_S (T ++ [.inr (98, 6)]) J R G) := by
          refine zz_c (zz_call (by omega) t_122 rfl (fun n => e_122 _ _ _ _) ?_)
          simp (maxSteps := 5000000) (disch := first | assumption | omega) only [zi_16, c126, h11, c68, zk_opq, zr_sh, zg_H_1, zp_H_1, zg_H_2, zp_H_2, zg_H_3, zp_H_3, zr_H_0, zq_H_0, zr_H_4, zi_H, za_H, zs_H, zl_H, zz_0, zz_31, zz_add, zz_sub, zz_mul, zz_neg, zz_lt, zz_le, zz_eq, zz_div, zz_md, zz_dv, zz_abs, zz_max, zz_min, zz_nI, zz_be0, zz_be1, zz_zb, zz_z, zz_l0, zz_l, zz_lcmp, zo_rf, zo_nl, zo_nn, zo_rI, zo_rL, zo_rR, zo_rV, Int.add_zero, Int.zero_add, Int.mul_zero, Int.zero_mul, Int.one_mul, Int.mul_one, if_true, if_false, not_true_eq_false, not_false_eq_true]
          repeat' (first | exact zz_Er rfl | refine zz_Ei (fun h => ?_) (fun g => ?_))
        rw [if_neg (fun q => hi q.2)]
        refine ⟨_, G, ?_, Or.inr rfl, fun h => absurd h (by omega)⟩
        refine zz_c (zz_call (by omega) t_218 rfl (fun n => e_218 _ _ _ _ _) ?_)
        simp (maxSteps := 5000000) (disch := first | assumption | omega) only [zi_16, c122, zk_t3t, zk_n13, zk_nn, zz_0, zz_31, zz_add, zz_sub, zz_mul, zz_neg, zz_lt, zz_le, zz_eq, zz_div, zz_md, zz_dv, zz_abs, zz_max, zz_min, zz_nI, zz_be0, zz_be1, zz_zb, zz_z, zz_l0, zz_l, zz_lcmp, zo_rf, zo_nl, zo_nn, zo_rI, zo_rL, zo_rR, zo_rV, Int.add_zero, Int.zero_add, Int.mul_zero, Int.zero_mul, Int.one_mul, Int.mul_one, if_true, if_false, not_true_eq_false, not_false_eq_true]
        exact zz_Er rfl
    · have h10 : J (115 + 2 * k.toNat) 1 = 0 := by
        rcases hsk with ⟨h, g1, g2⟩ | ⟨h, g1, -⟩ | ⟨h, -⟩
        · exact g1
        · exact g1
        · omega
      have c122 : mv_cax (d - 1) 122 [.inr (.inr (some 16)), .inl (mv_c k), .inl (mv_c i)] (zz_S T J R G) = some (some (.inl (nI 1)), zz_S (T ++ [.inr (98, 6)]) J R G) := by
        refine zz_c (zz_call (by omega) t_122 rfl (fun n => e_122 _ _ _ _) ?_)
        simp (maxSteps := 5000000) (disch := first | assumption | omega) only [zi_16, c126, h10, zk_opq, zr_sh, zg_H_1, zp_H_1, zg_H_2, zp_H_2, zg_H_3, zp_H_3, zr_H_0, zq_H_0, zr_H_4, zi_H, za_H, zs_H, zl_H, zz_0, zz_31, zz_add, zz_sub, zz_mul, zz_neg, zz_lt, zz_le, zz_eq, zz_div, zz_md, zz_dv, zz_abs, zz_max, zz_min, zz_nI, zz_be0, zz_be1, zz_zb, zz_z, zz_l0, zz_l, zz_lcmp, zo_rf, zo_nl, zo_nn, zo_rI, zo_rL, zo_rR, zo_rV, Int.add_zero, Int.zero_add, Int.mul_zero, Int.zero_mul, Int.one_mul, Int.mul_one, if_true, if_false, not_true_eq_false, not_false_eq_true]
        repeat' (first | exact zz_Er rfl | refine zz_Ei (fun h => ?_) (fun g => ?_))
      rw [if_neg (fun q => hr q.1)]
      refine ⟨_, G, ?_, Or.inr rfl, fun h => absurd h (by omega)⟩
      refine zz_c (zz_call (by omega) t_218 rfl (fun n => e_218 _ _ _ _ _) ?_)
      simp (maxSteps := 5000000) (disch := first | assumption | omega) only [zi_16, c122, zk_t3t, zk_n13, zk_nn, zz_0, zz_31, zz_add, zz_sub, zz_mul, zz_neg, zz_lt, zz_le, zz_eq, zz_div, zz_md, zz_dv, zz_abs, zz_max, zz_min, zz_nI, zz_be0, zz_be1, zz_zb, zz_z, zz_l0, zz_l, zz_lcmp, zo_rf, zo_nl, zo_nn, zo_rI, zo_rL, zo_rR, zo_rV, Int.add_zero, Int.zero_add, Int.mul_zero, Int.zero_mul, Int.one_mul, Int.mul_one, if_true, if_false, not_true_eq_false, not_false_eq_true]
      exact zz_Er rfl
  · rw [if_neg hk] at c126 ⊢
    have c122 : mv_cax (d - 1) 122 [.inr (.inr (some 16)), .inl (mv_c k), .inl (mv_c i)] (zz_S T J R G) = some (some (.inl (nI 3)), zz_S (T ++ [.inr (98, 6)]) J R G) := by
      refine zz_c (zz_call (by omega) t_122 rfl (fun n => e_122 _ _ _ _) ?_)
      simp (maxSteps := 5000000) (disch := first | assumption | omega) only [zi_16, c126, zk_opq, zz_0, zz_31, zz_add, zz_sub, zz_mul, zz_neg, zz_lt, zz_le, zz_eq, zz_div, zz_md, zz_dv, zz_abs, zz_max, zz_min, zz_nI, zz_be0, zz_be1, zz_zb, zz_z, zz_l0, zz_l, zz_lcmp, zo_rf, zo_nl, zo_nn, zo_rI, zo_rL, zo_rR, zo_rV, Int.add_zero, Int.zero_add, Int.mul_zero, Int.zero_mul, Int.one_mul, Int.mul_one, if_true, if_false, not_true_eq_false, not_false_eq_true]
      exact zz_Er rfl
    refine ⟨_, G, ?_, Or.inr rfl, fun h => absurd h (by omega)⟩
    refine zz_c (zz_call (by omega) t_218 rfl (fun n => e_218 _ _ _ _ _) ?_)
    simp (maxSteps := 5000000) (disch := first | assumption | omega) only [zi_16, c122, zk_t3t, zk_nn, zz_0, zz_31, zz_add, zz_sub, zz_mul, zz_neg, zz_lt, zz_le, zz_eq, zz_div, zz_md, zz_dv, zz_abs, zz_max, zz_min, zz_nI, zz_be0, zz_be1, zz_zb, zz_z, zz_l0, zz_l, zz_lcmp, zo_rf, zo_nl, zo_nn, zo_rI, zo_rL, zo_rR, zo_rV, Int.add_zero, Int.zero_add, Int.mul_zero, Int.zero_mul, Int.one_mul, Int.mul_one, if_true, if_false, not_true_eq_false, not_false_eq_true]
    exact zz_Er rfl
end ZSHE
