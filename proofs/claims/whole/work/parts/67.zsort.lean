/-! PURE LAYER, 47: the class weighs and sorts -/
/-- a list of those cells below k of which P says so -/
def zs_in (P : Int → Prop) (H : Int → Int) (k nh : Int) : Prop := (0 ≤ nh ∧ nh ≤ k) ∧ (∀ i, 0 ≤ i → i < nh → 0 ≤ H i ∧ H i < k ∧ P (H i)) ∧ ∃ ih : Int → Int, (∀ i, 0 ≤ i → i < nh → ih (H i) = i) ∧ (∀ c, 0 ≤ c → c < k → P c → 0 ≤ ih c ∧ ih c < nh ∧ H (ih c) = c) ∧ ∀ f : Int → Int, (∀ c, 0 ≤ c → c < k → ¬ P c → f c = 0) → zz_sum f k = zz_sum (fun i => f (H i)) nh
section ZSRT
variable {T : List mv_T} {J : Nat → Int → Int} {R : Nat → Nat → Option Nat} {G : Nat → Nat → Int64} {d p : Nat} {Y : Int} {A H : Int → Int} {P : Int → Prop} {k nh : Int}
theorem zs_0 : zs_in P H 0 0 := by
  refine ⟨by omega, fun i i0 i1 => by omega, fun _ => 0, fun i i0 i1 => by omega, fun i i0 i1 => by omega, fun f _ => ?_⟩
  rw [zz_sum0, zz_sum0]
theorem zs_skip (h : zs_in P H k nh) (hP : ¬ P k) : zs_in P H (k + 1) nh := by
  obtain ⟨h1, h2, ih, h3, h4, h5⟩ := h
  refine ⟨by omega, fun i i0 i1 => ?_, ih, h3, fun c c0 c1 hc => ?_, fun f hf => ?_⟩
  · have := h2 i i0 i1
    exact ⟨this.1, by omega, this.2.2⟩
  · by_cases e : c = k
    · subst e; exact absurd hc hP
    · exact h4 c c0 (by omega) hc
  · rw [zz_sum1 (by omega), h5 f (fun c c0 c1 => hf c c0 (by omega)), hf k (by omega) (by omega) hP, Int.add_zero]
theorem zs_add (h : zs_in P H k nh) (hP : P k) : zs_in P (zz_f H nh k) (k + 1) (nh + 1) := by
  obtain ⟨h1, h2, ih, h3, h4, h5⟩ := h
  refine ⟨by omega, fun i i0 i1 => ?_, zz_f ih k nh, fun i i0 i1 => ?_, fun c c0 c1 hc => ?_, fun f hf => ?_⟩
  · by_cases e : i = nh
    · subst e; rw [zf_s]; exact ⟨by omega, by omega, hP⟩
    · rw [zf_n e]
      have := h2 i i0 (by omega)
      exact ⟨this.1, by omega, this.2.2⟩
  · by_cases e : i = nh
    · subst e; rw [zf_s, zf_s]
    · rw [zf_n e]
      have := h2 i i0 (by omega)
      rw [zf_n (by omega)]
      exact h3 i i0 (by omega)
  · by_cases e : c = k
    · subst e; rw [zf_s, zf_s]; exact ⟨by omega, by omega, rfl⟩
    · rw [zf_n e]
      have := h4 c c0 (by omega) hc
      rw [zf_n (by omega)]
      exact ⟨this.1, by omega, this.2.2⟩
  · rw [zz_sum1 (by omega), zz_sum1 (by omega), h5 f (fun c c0 c1 => hf c c0 (by omega))]
    congr 1
    · refine zz_sum_c (by omega) (fun i i0 i1 => ?_)
      show f (H i) = f (zz_f H nh k i)
      rw [zf_n (by omega)]
    · show f k = f (zz_f H nh k nh)
      rw [zf_s]
theorem c_217 {i : Int} (hd : 1 ≤ d) (hL : ZL T R) (h0 : 0 ≤ i) (h1 : i < 16) : ∃ X, mv_cax d 217 [.inr (.inr (some (85 + i.toNat))), .inl (mv_c 0)] (zz_S T J R G) = some (none, zz_S T (zz_w J (85 + i.toNat) X) R G) ∧ ∀ c, 0 ≤ c → c < 16 → X c = 0 := by
  suffices h : ∃ r, mv_cax d 217 [.inr (.inr (some (85 + i.toNat))), .inl (mv_c 0)] (zz_S T J R G) = some r ∧ ∃ X, r = (none, zz_S T (zz_w J (85 + i.toNat) X) R G) ∧ ∀ c, 0 ≤ c → c < 16 → X c = 0 by
    obtain ⟨r, q1, X, rfl, q2⟩ := h
    exact ⟨X, q1, q2⟩
  refine zz_call (by omega) t_217 rfl (fun n => e_217 _ _ _) ?_
  simp (maxSteps := 5000000) (disch := first | assumption | omega) only [zg_78_0, zp_78_0, zg_78_1, zp_78_1, zr_78_2, zg_78_3, zp_78_3, zg_78_4, zp_78_4, zr_78_5, zr_78_6, zr_78_7, zr_78_8, zr_78_9, zr_78_10, zr_78_11, zr_78_12, zr_78_13, zi_78, za_79, zs_79, zl_79, za_80, zs_80, zl_80, za_81, zs_81, zl_81, za_82, zs_82, zl_82, za_83, zs_83, zl_83, zl_84, za_101, zs_101, zl_101, za_102, zs_102, zl_102, za_103, zs_103, zl_103, za_104, zs_104, zl_104, zg_L_0, zp_L_0, zg_L_1, zp_L_1, zg_L_2, zp_L_2, zg_L_3, zp_L_3, zg_L_4, zp_L_4, zg_L_5, zp_L_5, zg_L_6, zp_L_6, zg_L_7, zp_L_7, zi_L, zr_L_8, za_L_1, zs_L_1, zr_L_9, za_L_2, zs_L_2, zr_L_10, za_L_3, zs_L_3, zr_L_11, za_L_4, zs_L_4, zr_L_12, za_L_5, zs_L_5, zr_L_13, za_L_6, zs_L_6, zr_L_14, za_L_7, zs_L_7, zr_L_15, za_L_8, zs_L_8, zr_L_16, za_L_9, zs_L_9, zr_L_17, za_L_10, zs_L_10, zr_L_18, za_L_11, zs_L_11, zr_L_19, za_L_12, zs_L_12, zr_mv, za_mv, zs_mv, zl_mv, zz_0, zz_31, zz_add, zz_sub, zz_mul, zz_neg, zz_lt, zz_le, zz_eq, zz_div, zz_md, zz_dv, zz_abs, zz_max, zz_min, zz_nI, zz_be0, zz_be1, zz_zb, zz_z, zz_l0, zz_l, zz_lcmp, zo_rf, zo_nl, zo_nn, zo_rI, zo_rL, zo_rR, zo_rV, Int.add_zero, Int.zero_add, Int.mul_zero, Int.zero_mul, Int.one_mul, Int.mul_one, if_true, if_false, not_true_eq_false, not_false_eq_true]
  have l := zz_loop (α := Int → Int) (run := fun c X n => mv_run (mv_cax (d - 1)) mm_217 n 5 [(0, .inr (.inr (some (85 + i.toNat)))), (1, .inl (mv_c 0)), (2, .inl (mv_c c)), (3, .inl (mv_c 16))] [] (zz_S T (zz_w J (85 + i.toNat) X) R G)) (Q := fun r => ∃ X, r = (none, zz_S T (zz_w J (85 + i.toNat) X) R G) ∧ ∀ c, 0 ≤ c → c < 16 → X c = 0) 16 (fun c X => 0 ≤ c ∧ ∀ b, 0 ≤ b → b < c → X b = 0) ?_ ?_ 16 0 (J (85 + i.toNat)) (by omega) ⟨by omega, fun b b0 b1 => by omega⟩
  · rw [zw_i] at l
    exact l
  · rintro c X ⟨hc, hX⟩ hlt kk
    refine zz_Es (fun n => e_217_5 _ _ _ _ _) ?_
    simp (maxSteps := 5000000) (disch := first | assumption | omega) only [zz_wu, zg_78_0, zp_78_0, zg_78_1, zp_78_1, zr_78_2, zg_78_3, zp_78_3, zg_78_4, zp_78_4, zr_78_5, zr_78_6, zr_78_7, zr_78_8, zr_78_9, zr_78_10, zr_78_11, zr_78_12, zr_78_13, zi_78, za_79, zs_79, zl_79, za_80, zs_80, zl_80, za_81, zs_81, zl_81, za_82, zs_82, zl_82, za_83, zs_83, zl_83, zl_84, za_101, zs_101, zl_101, za_102, zs_102, zl_102, za_103, zs_103, zl_103, za_104, zs_104, zl_104, zg_L_0, zp_L_0, zg_L_1, zp_L_1, zg_L_2, zp_L_2, zg_L_3, zp_L_3, zg_L_4, zp_L_4, zg_L_5, zp_L_5, zg_L_6, zp_L_6, zg_L_7, zp_L_7, zi_L, zr_L_8, za_L_1, zs_L_1, zr_L_9, za_L_2, zs_L_2, zr_L_10, za_L_3, zs_L_3, zr_L_11, za_L_4, zs_L_4, zr_L_12, za_L_5, zs_L_5, zr_L_13, za_L_6, zs_L_6, zr_L_14, za_L_7, zs_L_7, zr_L_15, za_L_8, zs_L_8, zr_L_16, za_L_9, zs_L_9, zr_L_17, za_L_10, zs_L_10, zr_L_18, za_L_11, zs_L_11, zr_L_19, za_L_12, zs_L_12, zr_mv, za_mv, zs_mv, zl_mv, zz_0, zz_31, zz_add, zz_sub, zz_mul, zz_neg, zz_lt, zz_le, zz_eq, zz_div, zz_md, zz_dv, zz_abs, zz_max, zz_min, zz_nI, zz_be0, zz_be1, zz_zb, zz_z, zz_l0, zz_l, zz_lcmp, zo_rf, zo_nl, zo_nn, zo_rI, zo_rL, zo_rR, zo_rV, Int.add_zero, Int.zero_add, Int.mul_zero, Int.zero_mul, Int.one_mul, Int.mul_one, if_true, if_false, not_true_eq_false, not_false_eq_true]
    refine zz_Ei (fun h => absurd h (by omega)) (fun _ => ?_)
    refine kk _ ⟨by omega, fun b b0 b1 => ?_⟩
    by_cases e : b = c
    · subst e; exact zf_s
    · rw [zf_n e]; exact hX b b0 (by omega)
  · rintro X ⟨_, hX⟩
    refine zz_Es (fun n => e_217_5 _ _ _ _ _) ?_
    simp (maxSteps := 5000000) (disch := first | assumption | omega) only [zg_78_0, zp_78_0, zg_78_1, zp_78_1, zr_78_2, zg_78_3, zp_78_3, zg_78_4, zp_78_4, zr_78_5, zr_78_6, zr_78_7, zr_78_8, zr_78_9, zr_78_10, zr_78_11, zr_78_12, zr_78_13, zi_78, za_79, zs_79, zl_79, za_80, zs_80, zl_80, za_81, zs_81, zl_81, za_82, zs_82, zl_82, za_83, zs_83, zl_83, zl_84, za_101, zs_101, zl_101, za_102, zs_102, zl_102, za_103, zs_103, zl_103, za_104, zs_104, zl_104, zg_L_0, zp_L_0, zg_L_1, zp_L_1, zg_L_2, zp_L_2, zg_L_3, zp_L_3, zg_L_4, zp_L_4, zg_L_5, zp_L_5, zg_L_6, zp_L_6, zg_L_7, zp_L_7, zi_L, zr_L_8, za_L_1, zs_L_1, zr_L_9, za_L_2, zs_L_2, zr_L_10, za_L_3, zs_L_3, zr_L_11, za_L_4, zs_L_4, zr_L_12, za_L_5, zs_L_5, zr_L_13, za_L_6, zs_L_6, zr_L_14, za_L_7, zs_L_7, zr_L_15, za_L_8, zs_L_8, zr_L_16, za_L_9, zs_L_9, zr_L_17, za_L_10, zs_L_10, zr_L_18, za_L_11, zs_L_11, zr_L_19, za_L_12, zs_L_12, zr_mv, za_mv, zs_mv, zl_mv, zz_0, zz_31, zz_add, zz_sub, zz_mul, zz_neg, zz_lt, zz_le, zz_eq, zz_div, zz_md, zz_dv, zz_abs, zz_max, zz_min, zz_nI, zz_be0, zz_be1, zz_zb, zz_z, zz_l0, zz_l, zz_lcmp, zo_rf, zo_nl, zo_nn, zo_rI, zo_rL, zo_rR, zo_rV, Int.add_zero, Int.zero_add, Int.mul_zero, Int.zero_mul, Int.one_mul, Int.mul_one, if_true, if_false, not_true_eq_false, not_false_eq_true]
    refine zz_Ei (fun _ => ?_) (fun h => absurd (Int.le_refl _) h)
    exact zz_Er ⟨X, rfl, hX⟩
theorem c_18 {q : Nat} (hd : 1 ≤ d) (hL : ZL T R) (hp : Lnd p) (hA : zz_ok Y A) (hR : zc_rep T R J p A) (hq : q ≠ 79) (hqa : ∀ (J' : Nat → Int → Int) (c : Int) (k : Int32 → mv_O), 0 ≤ c → c < A 0 * A 1 → mo_aI (zz_S T J' R G) q (mv_c c) k = k (mv_c (J' q c))) (hg : ∀ c, 0 ≤ c → c < A 0 * A 1 → -1 ≤ J q c ∧ J q c ≤ 9) :
    ∃ E, mv_cax d 18 [.inr (.inr (some 78)), .inr (.inr (some p)), .inr (.inr (some q))] (zz_S T J R G) = some (none, zz_S T (zz_w J 79 E) R G) ∧ ∀ c, 0 ≤ c → c < A 0 * A 1 → E c = zz_ex A (J q) c := by
  have hn := hA.n
  suffices h : ∃ r, mv_cax d 18 [.inr (.inr (some 78)), .inr (.inr (some p)), .inr (.inr (some q))] (zz_S T J R G) = some r ∧ ∃ E, r = (none, zz_S T (zz_w J 79 E) R G) ∧ ∀ c, 0 ≤ c → c < A 0 * A 1 → E c = zz_ex A (J q) c by
    obtain ⟨r, q1, X, rfl, q2⟩ := h
    exact ⟨X, q1, q2⟩
  refine zz_call (by omega) t_18 rfl (fun n => e_18 _ _ _ _) ?_
  have hR' : ∀ E, zc_rep T R (zz_w J 79 E) p A := fun E => zc_rep_f hR (fun x hx => zw_n (by rcases hp with rfl | rfl | rfl | rfl <;> omega))
  have l := zz_loop (α := Int → Int) (run := fun c E n => mv_run (mv_cax (d - 1)) mm_18 n 2 [(0, .inr (.inr (some 78))), (1, .inr (.inr (some p))), (2, .inr (.inr (some q))), (3, .inl (mv_c c))] [] (zz_S T (zz_w J 79 E) R G)) (Q := fun r => ∃ E, r = (none, zz_S T (zz_w J 79 E) R G) ∧ ∀ c, 0 ≤ c → c < A 0 * A 1 → E c = zz_ex A (J q) c) (A 0 * A 1) (fun c E => 0 ≤ c ∧ ∀ i, 0 ≤ i → i < c → E i = zz_ex A (J q) i) ?_ ?_ (A 0 * A 1).toNat 0 (J 79) (by omega) ⟨by omega, fun b b0 b1 => by omega⟩
  · rw [zw_i] at l
    exact l
  · rintro c E ⟨hc, hE⟩ hlt kk
    have hgc := hg c hc hlt
    have hac := hA.2.2.2.2.2.2.2.1 c hc hlt
    have e2 := (hR' E).1.1.2.2
    have e4 := ((hR' E).2.2.1 c hc hlt).1
    have eq : zz_w J 79 E q = J q := zw_n hq
    refine zz_Es (fun n => e_18_2 _ _ _ _ _) ?_
    simp (maxSteps := 5000000) (disch := first | assumption | omega) only [e2, e4, hqa, eq, zz_wu, zg_78_0, zp_78_0, zg_78_1, zp_78_1, zr_78_2, zg_78_3, zp_78_3, zg_78_4, zp_78_4, zr_78_5, zr_78_6, zr_78_7, zr_78_8, zr_78_9, zr_78_10, zr_78_11, zr_78_12, zr_78_13, zi_78, za_79, zs_79, zl_79, za_80, zs_80, zl_80, za_81, zs_81, zl_81, za_82, zs_82, zl_82, za_83, zs_83, zl_83, zl_84, za_101, zs_101, zl_101, za_102, zs_102, zl_102, za_103, zs_103, zl_103, za_104, zs_104, zl_104, zg_L_0, zp_L_0, zg_L_1, zp_L_1, zg_L_2, zp_L_2, zg_L_3, zp_L_3, zg_L_4, zp_L_4, zg_L_5, zp_L_5, zg_L_6, zp_L_6, zg_L_7, zp_L_7, zi_L, zr_L_8, za_L_1, zs_L_1, zr_L_9, za_L_2, zs_L_2, zr_L_10, za_L_3, zs_L_3, zr_L_11, za_L_4, zs_L_4, zr_L_12, za_L_5, zs_L_5, zr_L_13, za_L_6, zs_L_6, zr_L_14, za_L_7, zs_L_7, zr_L_15, za_L_8, zs_L_8, zr_L_16, za_L_9, zs_L_9, zr_L_17, za_L_10, zs_L_10, zr_L_18, za_L_11, zs_L_11, zr_L_19, za_L_12, zs_L_12, zr_mv, za_mv, zs_mv, zl_mv, zz_0, zz_31, zz_add, zz_sub, zz_mul, zz_neg, zz_lt, zz_le, zz_eq, zz_div, zz_md, zz_dv, zz_abs, zz_max, zz_min, zz_nI, zz_be0, zz_be1, zz_zb, zz_z, zz_l0, zz_l, zz_lcmp, zo_rf, zo_nl, zo_nn, zo_rI, zo_rL, zo_rR, zo_rV, Int.add_zero, Int.zero_add, Int.mul_zero, Int.zero_mul, Int.one_mul, Int.mul_one, if_true, if_false, not_true_eq_false, not_false_eq_true]
    have go : ∀ v, v = zz_ex A (J q) c → 0 ≤ c + 1 ∧ ∀ i, 0 ≤ i → i < c + 1 → zz_f E c v i = zz_ex A (J q) i := fun v hv => ⟨by omega, fun i i0 i1 => by
      by_cases e : i = c
      · subst e; rw [zf_s]; exact hv
      · rw [zf_n e]; exact hE i i0 (by omega)⟩
    refine zz_Ei (fun h => absurd h (by omega)) (fun _ => ?_)
    refine zz_Ei (fun h => ?_) (fun h => ?_)
    · exact kk _ (go 0 (by unfold zz_ex; rw [if_pos (by omega)]))
    · exact kk _ (go _ (by unfold zz_ex; rw [if_neg (by omega)]))
  · rintro E ⟨_, hE⟩
    have e2 := (hR' E).1.1.2.2
    refine zz_Es (fun n => e_18_2 _ _ _ _ _) ?_
    simp (maxSteps := 5000000) (disch := first | assumption | omega) only [e2, zg_78_0, zp_78_0, zg_78_1, zp_78_1, zr_78_2, zg_78_3, zp_78_3, zg_78_4, zp_78_4, zr_78_5, zr_78_6, zr_78_7, zr_78_8, zr_78_9, zr_78_10, zr_78_11, zr_78_12, zr_78_13, zi_78, za_79, zs_79, zl_79, za_80, zs_80, zl_80, za_81, zs_81, zl_81, za_82, zs_82, zl_82, za_83, zs_83, zl_83, zl_84, za_101, zs_101, zl_101, za_102, zs_102, zl_102, za_103, zs_103, zl_103, za_104, zs_104, zl_104, zg_L_0, zp_L_0, zg_L_1, zp_L_1, zg_L_2, zp_L_2, zg_L_3, zp_L_3, zg_L_4, zp_L_4, zg_L_5, zp_L_5, zg_L_6, zp_L_6, zg_L_7, zp_L_7, zi_L, zr_L_8, za_L_1, zs_L_1, zr_L_9, za_L_2, zs_L_2, zr_L_10, za_L_3, zs_L_3, zr_L_11, za_L_4, zs_L_4, zr_L_12, za_L_5, zs_L_5, zr_L_13, za_L_6, zs_L_6, zr_L_14, za_L_7, zs_L_7, zr_L_15, za_L_8, zs_L_8, zr_L_16, za_L_9, zs_L_9, zr_L_17, za_L_10, zs_L_10, zr_L_18, za_L_11, zs_L_11, zr_L_19, za_L_12, zs_L_12, zr_mv, za_mv, zs_mv, zl_mv, zz_0, zz_31, zz_add, zz_sub, zz_mul, zz_neg, zz_lt, zz_le, zz_eq, zz_div, zz_md, zz_dv, zz_abs, zz_max, zz_min, zz_nI, zz_be0, zz_be1, zz_zb, zz_z, zz_l0, zz_l, zz_lcmp, zo_rf, zo_nl, zo_nn, zo_rI, zo_rL, zo_rR, zo_rV, Int.add_zero, Int.zero_add, Int.mul_zero, Int.zero_mul, Int.one_mul, Int.mul_one, if_true, if_false, not_true_eq_false, not_false_eq_true]
    refine zz_Ei (fun _ => ?_) (fun h => absurd (Int.le_refl _) h)
    exact zz_Er ⟨E, rfl, hE⟩
end ZSRT
