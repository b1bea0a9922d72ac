/-! PURE LAYER, 46: the class sends along a way -/
def zd_pg (x : Int → Int → Int) (s P V : Int → Int) : Nat → Int → Int → Int → Prop
  | 0, _, _, _ => False
  | k + 1, a, δ, r => (0 ≤ P a ∧ δ ≤ x a (P a) ∧ zd_pg x s P V k (V (P a)) δ r) ∨ (P a < 0 ∧ δ ≤ s a ∧ r = a)
section ZSEN
variable {T : List mv_T} {J : Nat → Int → Int} {R : Nat → Nat → Option Nat} {G : Nat → Nat → Int64} {d p : Nat} {Y : Int} {A u v : Int → Int}
theorem zd_x_u {n m i j v : Int} (h : zd_hi n i) (h0 : 0 ≤ j) (h1 : j < m) : zd_x n m (zz_u J (85 + i.toNat) j v) = zz_u2 (zd_x n m J) i j v := by
  funext a b
  unfold zz_u2
  have hi0 := h.1
  by_cases e : a = i ∧ b = j
  · obtain ⟨rfl, rfl⟩ := e
    rw [if_pos ⟨rfl, rfl⟩, zd_x_v h h0 h1, zu_s]
  · rw [if_neg e]
    by_cases q : zd_hi n a ∧ 0 ≤ b ∧ b < m
    · rw [zd_x_v q.1 q.2.1 q.2.2, zd_x_v q.1 q.2.1 q.2.2]
      have := q.1.1
      unfold zz_u
      rw [if_neg]
      intro r
      exact e (by omega)
    · have e1 : zd_x n m (zz_u J (85 + i.toNat) j v) a b = 0 := if_neg q
      have e2 : zd_x n m J a b = 0 := if_neg q
      rw [e1, e2]
theorem zd_x_c {n m : Int} {J' : Nat → Int → Int} (hn : n ≤ 16) (h : ∀ x, 85 ≤ x → x ≤ 100 → J' x = J x) : zd_x n m J' = zd_x n m J := by
  funext i j
  by_cases q : zd_hi n i ∧ 0 ≤ j ∧ j < m
  · rw [zd_x_v q.1 q.2.1 q.2.2, zd_x_v q.1 q.2.1 q.2.2]
    have := q.1.1
    have := q.1.2
    rw [h _ (by omega) (by omega)]
  · have e1 : zd_x n m J' i j = 0 := if_neg q
    have e2 : zd_x n m J i j = 0 := if_neg q
    rw [e1, e2]
theorem zd_x_n {n m i : Int} (h : ¬ zd_hi n i) : zd_x n m J i = fun _ => 0 := by
  funext b
  exact if_neg (fun q => h q.1)
theorem c_24 (hd : 1 ≤ d) (hL : ZL T R) (hk : zd_ok J A) (hE : ∀ j, 0 ≤ j → j < J 78 4 → -96 ≤ J 102 j ∧ J 102 j ≤ 1000000) : ∃ e, mv_cax d 24 [.inr (.inr (some 78))] (zz_S T J R G) = some (some (.inl (mv_c e)), (zz_S T J R G)) ∧ ((e = -1 ∧ ∀ j, 0 ≤ j → j < J 78 4 → J 83 j ≤ 0 ∨ 1000000 ≤ J 102 j) ∨ (0 ≤ e ∧ e < J 78 4 ∧ 0 < J 83 e ∧ J 102 e < 1000000)) := by
  have hk1 := hk.1
  suffices h : ∃ r, mv_cax d 24 [.inr (.inr (some 78))] (zz_S T J R G) = some r ∧ ∃ e, r = (some (.inl (mv_c e)), (zz_S T J R G)) ∧ ((e = -1 ∧ ∀ j, 0 ≤ j → j < J 78 4 → J 83 j ≤ 0 ∨ 1000000 ≤ J 102 j) ∨ (0 ≤ e ∧ e < J 78 4 ∧ 0 < J 83 e ∧ J 102 e < 1000000)) by
    obtain ⟨r, h1, e, rfl, h2⟩ := h
    exact ⟨e, h1, h2⟩
  refine zz_call (by omega) t_24 rfl (fun n => e_24 _ _) ?_
  refine zz_loop (run := fun j e n => mv_run (mv_cax (d - 1)) mm_24 n 4 [(0, .inr (.inr (some 78))), (1, .inl (mv_c e)), (2, .inl (mv_c j))] [] (zz_S T J R G)) (J 78 4) (fun j e => 0 ≤ j ∧ ((e = -1 ∧ ∀ i, 0 ≤ i → i < j → J 83 i ≤ 0 ∨ 1000000 ≤ J 102 i) ∨ (0 ≤ e ∧ e < j ∧ 0 < J 83 e ∧ J 102 e < 1000000))) ?_ ?_ (J 78 4).toNat 0 (-1) (by omega) ⟨by omega, Or.inl ⟨rfl, fun i _ _ => by omega⟩⟩
  · rintro j e ⟨hj, he⟩ hlt kk
    have hs := hk.2.2.2.2.2 j hj hlt
    have hEj := hE j hj hlt
    have her : -1 ≤ e ∧ e < 16 := by omega
    have stay : (J 83 j ≤ 0 ∨ 1000000 ≤ J 102 j) ∨ 0 ≤ e → zz_E (fun n => mv_run (mv_cax (d - 1)) mm_24 n 4 [(0, .inr (.inr (some 78))), (1, .inl (mv_c e)), (2, .inl (mv_c (j + 1)))] [] (zz_S T J R G)) (fun r => ∃ e, r = (some (.inl (mv_c e)), (zz_S T J R G)) ∧ ((e = -1 ∧ ∀ j, 0 ≤ j → j < J 78 4 → J 83 j ≤ 0 ∨ 1000000 ≤ J 102 j) ∨ (0 ≤ e ∧ e < J 78 4 ∧ 0 < J 83 e ∧ J 102 e < 1000000))) := fun hh => kk e ⟨by omega, by
      rcases he with ⟨q1, q2⟩ | q
      · refine Or.inl ⟨q1, fun i i0 i1 => ?_⟩
        by_cases e' : i = j
        · subst e'
          rcases hh with hh | hh
          · exact hh
          · omega
        · exact q2 i i0 (by omega)
      · exact Or.inr ⟨q.1, by omega, q.2.2⟩⟩
    refine zz_Es (fun n => e_24_4 _ _ _ _) ?_
    simp (maxSteps := 5000000) (disch := first | assumption | omega) only [zg_78_0, zp_78_0, zg_78_1, zp_78_1, zr_78_2, zg_78_3, zp_78_3, zg_78_4, zp_78_4, zr_78_5, zr_78_6, zr_78_7, zr_78_8, zr_78_9, zr_78_10, zr_78_11, zr_78_12, zr_78_13, zi_78, za_79, zs_79, zl_79, za_80, zs_80, zl_80, za_81, zs_81, zl_81, za_82, zs_82, zl_82, za_83, zs_83, zl_83, zl_84, za_101, zs_101, zl_101, za_102, zs_102, zl_102, za_103, zs_103, zl_103, za_104, zs_104, zl_104, zg_L_0, zp_L_0, zg_L_1, zp_L_1, zg_L_2, zp_L_2, zg_L_3, zp_L_3, zg_L_4, zp_L_4, zg_L_5, zp_L_5, zg_L_6, zp_L_6, zg_L_7, zp_L_7, zi_L, zr_L_8, za_L_1, zs_L_1, zr_L_9, za_L_2, zs_L_2, zr_L_10, za_L_3, zs_L_3, zr_L_11, za_L_4, zs_L_4, zr_L_12, za_L_5, zs_L_5, zr_L_13, za_L_6, zs_L_6, zr_L_14, za_L_7, zs_L_7, zr_L_15, za_L_8, zs_L_8, zr_L_16, za_L_9, zs_L_9, zr_L_17, za_L_10, zs_L_10, zr_L_18, za_L_11, zs_L_11, zr_L_19, za_L_12, zs_L_12, zr_mv, za_mv, zs_mv, zl_mv, zz_0, zz_31, zz_add, zz_sub, zz_mul, zz_neg, zz_lt, zz_le, zz_eq, zz_div, zz_md, zz_dv, zz_abs, zz_max, zz_min, zz_nI, zz_be0, zz_be1, zz_zb, zz_z, zz_l0, zz_l, zz_lcmp, zo_rf, zo_nl, zo_nn, zo_rI, zo_rL, zo_rR, zo_rV, Int.add_zero, Int.zero_add, Int.mul_zero, Int.zero_mul, Int.one_mul, Int.mul_one, if_true, if_false, not_true_eq_false, not_false_eq_true]
    refine zz_Ei (fun h => absurd h (by omega)) (fun _ => ?_)
    refine zz_Ei (fun h => stay (Or.inl (Or.inl h))) (fun h1 => ?_)
    refine zz_Ei (fun h => stay (Or.inl (Or.inr h))) (fun h2 => ?_)
    refine zz_Ei (fun h => kk j ⟨by omega, Or.inr ⟨hj, by omega, by omega, by omega⟩⟩) (fun h3 => ?_)
    have hEe := hE e (by omega) (by omega)
    simp (maxSteps := 5000000) (disch := first | assumption | omega) only [zg_78_0, zp_78_0, zg_78_1, zp_78_1, zr_78_2, zg_78_3, zp_78_3, zg_78_4, zp_78_4, zr_78_5, zr_78_6, zr_78_7, zr_78_8, zr_78_9, zr_78_10, zr_78_11, zr_78_12, zr_78_13, zi_78, za_79, zs_79, zl_79, za_80, zs_80, zl_80, za_81, zs_81, zl_81, za_82, zs_82, zl_82, za_83, zs_83, zl_83, zl_84, za_101, zs_101, zl_101, za_102, zs_102, zl_102, za_103, zs_103, zl_103, za_104, zs_104, zl_104, zg_L_0, zp_L_0, zg_L_1, zp_L_1, zg_L_2, zp_L_2, zg_L_3, zp_L_3, zg_L_4, zp_L_4, zg_L_5, zp_L_5, zg_L_6, zp_L_6, zg_L_7, zp_L_7, zi_L, zr_L_8, za_L_1, zs_L_1, zr_L_9, za_L_2, zs_L_2, zr_L_10, za_L_3, zs_L_3, zr_L_11, za_L_4, zs_L_4, zr_L_12, za_L_5, zs_L_5, zr_L_13, za_L_6, zs_L_6, zr_L_14, za_L_7, zs_L_7, zr_L_15, za_L_8, zs_L_8, zr_L_16, za_L_9, zs_L_9, zr_L_17, za_L_10, zs_L_10, zr_L_18, za_L_11, zs_L_11, zr_L_19, za_L_12, zs_L_12, zr_mv, za_mv, zs_mv, zl_mv, zz_0, zz_31, zz_add, zz_sub, zz_mul, zz_neg, zz_lt, zz_le, zz_eq, zz_div, zz_md, zz_dv, zz_abs, zz_max, zz_min, zz_nI, zz_be0, zz_be1, zz_zb, zz_z, zz_l0, zz_l, zz_lcmp, zo_rf, zo_nl, zo_nn, zo_rI, zo_rL, zo_rR, zo_rV, Int.add_zero, Int.zero_add, Int.mul_zero, Int.zero_mul, Int.one_mul, Int.mul_one, if_true, if_false, not_true_eq_false, not_false_eq_true]
    refine zz_Ei (fun h => stay (Or.inr (by omega))) (fun h => kk j ⟨by omega, Or.inr ⟨hj, by omega, by omega, by omega⟩⟩)
  · rintro e ⟨_, he⟩
    refine zz_Es (fun n => e_24_4 _ _ _ _) ?_
    simp (maxSteps := 5000000) (disch := first | assumption | omega) only [zg_78_0, zp_78_0, zg_78_1, zp_78_1, zr_78_2, zg_78_3, zp_78_3, zg_78_4, zp_78_4, zr_78_5, zr_78_6, zr_78_7, zr_78_8, zr_78_9, zr_78_10, zr_78_11, zr_78_12, zr_78_13, zi_78, za_79, zs_79, zl_79, za_80, zs_80, zl_80, za_81, zs_81, zl_81, za_82, zs_82, zl_82, za_83, zs_83, zl_83, zl_84, za_101, zs_101, zl_101, za_102, zs_102, zl_102, za_103, zs_103, zl_103, za_104, zs_104, zl_104, zg_L_0, zp_L_0, zg_L_1, zp_L_1, zg_L_2, zp_L_2, zg_L_3, zp_L_3, zg_L_4, zp_L_4, zg_L_5, zp_L_5, zg_L_6, zp_L_6, zg_L_7, zp_L_7, zi_L, zr_L_8, za_L_1, zs_L_1, zr_L_9, za_L_2, zs_L_2, zr_L_10, za_L_3, zs_L_3, zr_L_11, za_L_4, zs_L_4, zr_L_12, za_L_5, zs_L_5, zr_L_13, za_L_6, zs_L_6, zr_L_14, za_L_7, zs_L_7, zr_L_15, za_L_8, zs_L_8, zr_L_16, za_L_9, zs_L_9, zr_L_17, za_L_10, zs_L_10, zr_L_18, za_L_11, zs_L_11, zr_L_19, za_L_12, zs_L_12, zr_mv, za_mv, zs_mv, zl_mv, zz_0, zz_31, zz_add, zz_sub, zz_mul, zz_neg, zz_lt, zz_le, zz_eq, zz_div, zz_md, zz_dv, zz_abs, zz_max, zz_min, zz_nI, zz_be0, zz_be1, zz_zb, zz_z, zz_l0, zz_l, zz_lcmp, zo_rf, zo_nl, zo_nn, zo_rI, zo_rL, zo_rR, zo_rV, Int.add_zero, Int.zero_add, Int.mul_zero, Int.zero_mul, Int.one_mul, Int.mul_one, if_true, if_false, not_true_eq_false, not_false_eq_true]
    refine zz_Ei (fun _ => ?_) (fun h => absurd (Int.le_refl _) h)
    exact zz_Er ⟨e, rfl, he⟩
theorem c_25 (hd : 1 ≤ d) (hL : ZL T R) (hk : zd_ok J A) {e : Int} {rk : Int → Int} {w : Int → Int → Int}
    (hu : ∀ a, zd_hi (J 78 3) a → (J 103 a < 0 ∧ -1 ≤ J 103 a ∧ J 101 a = 0 ∧ 0 < J 82 a) ∨ (0 ≤ J 103 a ∧ J 103 a < J 78 4 ∧ 0 < zd_x (J 78 3) (J 78 4) J a (J 103 a) ∧ J 102 (J 103 a) - J 101 a = w a (J 103 a) ∧ rk (J 104 (J 103 a)) < rk a))
    (hv : ∀ b, 0 ≤ b → b < J 78 4 → zd_hi (J 78 3) (J 104 b) ∧ J 102 b = J 101 (J 104 b) + w (J 104 b) b) (hrk : ∀ a, zd_hi (J 78 3) a → 0 ≤ rk a ∧ rk a < 16) (he0 : 0 ≤ e) (he1 : e < J 78 4) (het : 0 < J 83 e)
    (hx0 : ∀ a b, zd_hi (J 78 3) a → 0 ≤ b → b < J 78 4 → 0 ≤ zd_x (J 78 3) (J 78 4) J a b ∧ (0 < zd_x (J 78 3) (J 78 4) J a b → J 102 b - J 101 a = w a b)) :
    ∃ δ r J', mv_cax d 25 [.inr (.inr (some 78)), .inl (mv_c e)] (zz_S T J R G) = some (some (.inl (mv_c δ)), zz_S T J' R G) ∧ (∀ x, x ≠ 82 → x ≠ 83 → (x < 85 ∨ 100 < x) → J' x = J x) ∧ zd_hi (J 78 3) r ∧ 1 ≤ δ ∧ δ ≤ J 82 r ∧ δ ≤ J 83 e ∧ J' 82 = zz_f (J 82) r (J 82 r - δ) ∧ J' 83 = zz_f (J 83) e (J 83 e - δ) ∧
      (∀ a b, zd_hi (J 78 3) a → 0 ≤ b → b < J 78 4 → 0 ≤ zd_x (J 78 3) (J 78 4) J' a b ∧ (0 < zd_x (J 78 3) (J 78 4) J' a b → J 102 b - J 101 a = w a b)) ∧
      (∀ a, zd_hi (J 78 3) a → zz_sum (zd_x (J 78 3) (J 78 4) J' a) (J 78 4) = zz_sum (zd_x (J 78 3) (J 78 4) J a) (J 78 4) + (if a = r then δ else 0)) ∧
      (∀ b, 0 ≤ b → b < J 78 4 → zz_sum (fun a => zd_x (J 78 3) (J 78 4) J' a b) (J 78 3) = zz_sum (fun a => zd_x (J 78 3) (J 78 4) J a b) (J 78 3) + (if b = e then δ else 0)) ∧
      zz_cst w (zd_x (J 78 3) (J 78 4) J') (J 78 3) (J 78 4) = zz_cst w (zd_x (J 78 3) (J 78 4) J) (J 78 3) (J 78 4) + δ * J 102 e := by
  have hk1 := hk.1
  generalize hN : J 78 3 = n at *
  generalize hM : J 78 4 = m at *
  suffices h : ∃ q, mv_cax d 25 [.inr (.inr (some 78)), .inl (mv_c e)] (zz_S T J R G) = some q ∧ ∃ δ r J', q = (some (.inl (mv_c δ)), zz_S T J' R G) ∧ (∀ x, x ≠ 82 → x ≠ 83 → (x < 85 ∨ 100 < x) → J' x = J x) ∧ zd_hi n r ∧ 1 ≤ δ ∧ δ ≤ J 82 r ∧ δ ≤ J 83 e ∧ J' 82 = zz_f (J 82) r (J 82 r - δ) ∧ J' 83 = zz_f (J 83) e (J 83 e - δ) ∧
      (∀ a b, zd_hi n a → 0 ≤ b → b < m → 0 ≤ zd_x n m J' a b ∧ (0 < zd_x n m J' a b → J 102 b - J 101 a = w a b)) ∧
      (∀ a, zd_hi n a → zz_sum (zd_x n m J' a) m = zz_sum (zd_x n m J a) m + (if a = r then δ else 0)) ∧
      (∀ b, 0 ≤ b → b < m → zz_sum (fun a => zd_x n m J' a b) n = zz_sum (fun a => zd_x n m J a b) n + (if b = e then δ else 0)) ∧
      zz_cst w (zd_x n m J') n m = zz_cst w (zd_x n m J) n m + δ * J 102 e by
    obtain ⟨q, h1, δ, r, J', rfl, h2⟩ := h
    exact ⟨δ, r, J', h1, h2⟩
  refine zz_call (by omega) t_25 rfl (fun n => e_25 _ _ _) ?_
  obtain ⟨Q, hQ⟩ : ∃ Q : Option mv_V × mv_S → Prop, Q = fun q => ∃ δ r J', q = (some (.inl (mv_c δ)), zz_S T J' R G) ∧ (∀ x, x ≠ 82 → x ≠ 83 → (x < 85 ∨ 100 < x) → J' x = J x) ∧ zd_hi n r ∧ 1 ≤ δ ∧ δ ≤ J 82 r ∧ δ ≤ J 83 e ∧ J' 82 = zz_f (J 82) r (J 82 r - δ) ∧ J' 83 = zz_f (J 83) e (J 83 e - δ) ∧
      (∀ a b, zd_hi n a → 0 ≤ b → b < m → 0 ≤ zd_x n m J' a b ∧ (0 < zd_x n m J' a b → J 102 b - J 101 a = w a b)) ∧
      (∀ a, zd_hi n a → zz_sum (zd_x n m J' a) m = zz_sum (zd_x n m J a) m + (if a = r then δ else 0)) ∧
      (∀ b, 0 ≤ b → b < m → zz_sum (fun a => zd_x n m J' a b) n = zz_sum (fun a => zd_x n m J a b) n + (if b = e then δ else 0)) ∧
      zz_cst w (zd_x n m J') n m = zz_cst w (zd_x n m J) n m + δ * J 102 e := ⟨_, rfl⟩
  rw [← hQ]
  have hve := hv e he0 he1
  have hte := hk.2.2.2.2.2 e he0 (by rw [hM]; exact he1)
  have hrke := hrk _ hve.1
  have hve0 := hve.1.1
  have hve1 := hve.1.2
  -- the second walk: what has been sent
  have walk : ∀ (δ r : Int) (J1 : Nat → Int → Int), 1 ≤ δ → δ ≤ J 82 r → δ ≤ J 83 e → zd_hi n r → (∀ x, x ≠ 82 → x ≠ 83 → J1 x = J x) → J1 82 = zz_f (J 82) r (J 82 r - δ) → J1 83 = zz_f (J 83) e (J 83 e - δ) → ∀ (k : Nat) (j t : Int) (J2 : Nat → Int → Int), 0 ≤ j → j < m → zd_pg (zd_x n m J) (J 82) (J 103) (J 104) k (J 104 j) δ r → 0 ≤ t → t + rk (J 104 j) ≤ 15 → (∀ x, (x < 85 ∨ 100 < x) → J2 x = J1 x) → zz_au (zd_hi n) m n w (zd_x n m J) (J 101) (J 102) (J 104) rk δ e j (zd_x n m J2) → zz_E (fun q => mv_run (mv_cax (d - 1)) mm_25 q 116 [(0, .inr (.inr (some 78))), (2, .inl (mv_c δ)), (4, .inl (mv_c j)), (5, .inl (mv_c t))] [] (zz_S T J2 R G)) Q := by
    intro δ r J1 d1 dr de hr g0 g1 g2 k
    induction k with
    | zero => intro j t J2 j0 j1 hpg; exact absurd hpg (fun h => h)
    | succ k ih =>
      intro j t J2 j0 j1 hpg t0 t1 g3 hau
      obtain ⟨v1, v2⟩ := hv j j0 j1
      have v10 := v1.1
      have v11 := v1.2
      have hri := hrk _ v1
      have f104 : J2 104 = J 104 := by rw [g3 104 (by omega), g0 104 (by omega) (by omega)]
      have f103 : J2 103 = J 103 := by rw [g3 103 (by omega), g0 103 (by omega) (by omega)]
      have hx1 := zd_x_u (J := J2) (n := n) (m := m) (i := J 104 j) (j := j) (v := J2 (85 + (J 104 j).toNat) j + δ) v1 j0 j1
      have hxv : zd_x n m J2 (J 104 j) j = J2 (85 + (J 104 j).toNat) j := zd_x_v v1 j0 j1
      refine zz_Es (fun n => e_25_116 _ _ _ _ _) ?_
      rcases hpg with ⟨p1, p2, p3⟩ | ⟨p1, p2, p3⟩
      · rcases hu _ v1 with ⟨u1, _⟩ | ⟨u1, u2, u3, u4, u5⟩
        · omega
        · obtain ⟨hne, hau1⟩ := zz_au1 (pu := J 103) (by omega) hau (fun a ha => ha) j0 j1 v1 v2 u1 u2 p2 u3 (hv _ u1 u2).1 u5 u4
          have hJ3 : zd_x n m (zz_u (zz_u J2 (85 + (J 104 j).toNat) j (J2 (85 + (J 104 j).toNat) j + δ)) (85 + (J 104 j).toNat) (J 103 (J 104 j)) (J2 (85 + (J 104 j).toNat) (J 103 (J 104 j)) - δ)) = zz_u2 (zz_u2 (zd_x n m J2) (J 104 j) j (zd_x n m J2 (J 104 j) j + δ)) (J 104 j) (J 103 (J 104 j)) (zd_x n m J2 (J 104 j) (J 103 (J 104 j)) - δ) := by
            rw [zd_x_u v1 u1 u2, zd_x_u v1 j0 j1, hxv, zd_x_v (J := J2) v1 u1 u2]
          simp (maxSteps := 5000000) (disch := first | assumption | omega) only [f104, f103, zu_k, zu_A, zg_78_0, zp_78_0, zg_78_1, zp_78_1, zr_78_2, zg_78_3, zp_78_3, zg_78_4, zp_78_4, zr_78_5, zr_78_6, zr_78_7, zr_78_8, zr_78_9, zr_78_10, zr_78_11, zr_78_12, zr_78_13, zi_78, za_79, zs_79, zl_79, za_80, zs_80, zl_80, za_81, zs_81, zl_81, za_82, zs_82, zl_82, za_83, zs_83, zl_83, zl_84, za_101, zs_101, zl_101, za_102, zs_102, zl_102, za_103, zs_103, zl_103, za_104, zs_104, zl_104, zg_L_0, zp_L_0, zg_L_1, zp_L_1, zg_L_2, zp_L_2, zg_L_3, zp_L_3, zg_L_4, zp_L_4, zg_L_5, zp_L_5, zg_L_6, zp_L_6, zg_L_7, zp_L_7, zi_L, zr_L_8, za_L_1, zs_L_1, zr_L_9, za_L_2, zs_L_2, zr_L_10, za_L_3, zs_L_3, zr_L_11, za_L_4, zs_L_4, zr_L_12, za_L_5, zs_L_5, zr_L_13, za_L_6, zs_L_6, zr_L_14, za_L_7, zs_L_7, zr_L_15, za_L_8, zs_L_8, zr_L_16, za_L_9, zs_L_9, zr_L_17, za_L_10, zs_L_10, zr_L_18, za_L_11, zs_L_11, zr_L_19, za_L_12, zs_L_12, zr_mv, za_mv, zs_mv, zl_mv, zz_0, zz_31, zz_add, zz_sub, zz_mul, zz_neg, zz_lt, zz_le, zz_eq, zz_div, zz_md, zz_dv, zz_abs, zz_max, zz_min, zz_nI, zz_be0, zz_be1, zz_zb, zz_z, zz_l0, zz_l, zz_lcmp, zo_rf, zo_nl, zo_nn, zo_rI, zo_rL, zo_rR, zo_rV, Int.add_zero, Int.zero_add, Int.mul_zero, Int.zero_mul, Int.one_mul, Int.mul_one, if_true, if_false, not_true_eq_false, not_false_eq_true]
          refine zz_Ei (fun h => absurd h (by omega)) (fun _ => ?_)
          refine zz_Ei (fun h => absurd h (by omega)) (fun _ => ?_)
          refine zz_Ei (fun _ => ?_) (fun h => absurd v10 h)
          refine zz_Ei (fun h => absurd h (by omega)) (fun _ => ?_)
          refine ih (J 103 (J 104 j)) (t + 1) _ u1 u2 p3 (by omega) (by omega) (fun x hx => ?_) (by rw [hJ3]; exact hau1)
          rw [zu_A (by omega), zu_A (by omega)]
          exact g3 x hx
      · subst p3
        rcases hu _ v1 with ⟨u1, u1', u2, u3⟩ | ⟨u1, _⟩
        · obtain ⟨f1, f2, f3, f4, f5⟩ := zz_au2 (by omega) hau (fun a ha => ha) j0 j1 v1 v2 u2
          rw [hxv, ← hx1] at f1 f2 f3 f4 f5
          simp (maxSteps := 5000000) (disch := first | assumption | omega) only [f104, f103, zu_k, zu_A, zg_78_0, zp_78_0, zg_78_1, zp_78_1, zr_78_2, zg_78_3, zp_78_3, zg_78_4, zp_78_4, zr_78_5, zr_78_6, zr_78_7, zr_78_8, zr_78_9, zr_78_10, zr_78_11, zr_78_12, zr_78_13, zi_78, za_79, zs_79, zl_79, za_80, zs_80, zl_80, za_81, zs_81, zl_81, za_82, zs_82, zl_82, za_83, zs_83, zl_83, zl_84, za_101, zs_101, zl_101, za_102, zs_102, zl_102, za_103, zs_103, zl_103, za_104, zs_104, zl_104, zg_L_0, zp_L_0, zg_L_1, zp_L_1, zg_L_2, zp_L_2, zg_L_3, zp_L_3, zg_L_4, zp_L_4, zg_L_5, zp_L_5, zg_L_6, zp_L_6, zg_L_7, zp_L_7, zi_L, zr_L_8, za_L_1, zs_L_1, zr_L_9, za_L_2, zs_L_2, zr_L_10, za_L_3, zs_L_3, zr_L_11, za_L_4, zs_L_4, zr_L_12, za_L_5, zs_L_5, zr_L_13, za_L_6, zs_L_6, zr_L_14, za_L_7, zs_L_7, zr_L_15, za_L_8, zs_L_8, zr_L_16, za_L_9, zs_L_9, zr_L_17, za_L_10, zs_L_10, zr_L_18, za_L_11, zs_L_11, zr_L_19, za_L_12, zs_L_12, zr_mv, za_mv, zs_mv, zl_mv, zz_0, zz_31, zz_add, zz_sub, zz_mul, zz_neg, zz_lt, zz_le, zz_eq, zz_div, zz_md, zz_dv, zz_abs, zz_max, zz_min, zz_nI, zz_be0, zz_be1, zz_zb, zz_z, zz_l0, zz_l, zz_lcmp, zo_rf, zo_nl, zo_nn, zo_rI, zo_rL, zo_rR, zo_rV, Int.add_zero, Int.zero_add, Int.mul_zero, Int.zero_mul, Int.one_mul, Int.mul_one, if_true, if_false, not_true_eq_false, not_false_eq_true]
          refine zz_Ei (fun h => absurd h (by omega)) (fun _ => ?_)
          refine zz_Ei (fun h => absurd h (by omega)) (fun _ => ?_)
          refine zz_Ei (fun _ => ?_) (fun h => absurd v10 h)
          refine zz_Ei (fun _ => ?_) (fun h => absurd u1 h)
          have done : Q (some (.inl (mv_c δ)), zz_S T (zz_u J2 (85 + (J 104 j).toNat) j (J2 (85 + (J 104 j).toNat) j + δ)) R G) := by
            rw [hQ]
            refine ⟨δ, J 104 j, _, rfl, fun x x1 x2 x3 => ?_, v1, d1, dr, de, ?_, ?_, f1, f2, f3, f4⟩
            · rw [zu_A (by omega), g3 x x3, g0 x x1 x2]
            · rw [zu_A (by omega), g3 82 (by omega), g1]
            · rw [zu_A (by omega), g3 83 (by omega), g2]
          refine zz_Es (fun n => e_25_116 _ _ _ _ _) ?_
          simp (maxSteps := 5000000) (disch := first | assumption | omega) only [zg_78_0, zp_78_0, zg_78_1, zp_78_1, zr_78_2, zg_78_3, zp_78_3, zg_78_4, zp_78_4, zr_78_5, zr_78_6, zr_78_7, zr_78_8, zr_78_9, zr_78_10, zr_78_11, zr_78_12, zr_78_13, zi_78, za_79, zs_79, zl_79, za_80, zs_80, zl_80, za_81, zs_81, zl_81, za_82, zs_82, zl_82, za_83, zs_83, zl_83, zl_84, za_101, zs_101, zl_101, za_102, zs_102, zl_102, za_103, zs_103, zl_103, za_104, zs_104, zl_104, zg_L_0, zp_L_0, zg_L_1, zp_L_1, zg_L_2, zp_L_2, zg_L_3, zp_L_3, zg_L_4, zp_L_4, zg_L_5, zp_L_5, zg_L_6, zp_L_6, zg_L_7, zp_L_7, zi_L, zr_L_8, za_L_1, zs_L_1, zr_L_9, za_L_2, zs_L_2, zr_L_10, za_L_3, zs_L_3, zr_L_11, za_L_4, zs_L_4, zr_L_12, za_L_5, zs_L_5, zr_L_13, za_L_6, zs_L_6, zr_L_14, za_L_7, zs_L_7, zr_L_15, za_L_8, zs_L_8, zr_L_16, za_L_9, zs_L_9, zr_L_17, za_L_10, zs_L_10, zr_L_18, za_L_11, zs_L_11, zr_L_19, za_L_12, zs_L_12, zr_mv, za_mv, zs_mv, zl_mv, zz_0, zz_31, zz_add, zz_sub, zz_mul, zz_neg, zz_lt, zz_le, zz_eq, zz_div, zz_md, zz_dv, zz_abs, zz_max, zz_min, zz_nI, zz_be0, zz_be1, zz_zb, zz_z, zz_l0, zz_l, zz_lcmp, zo_rf, zo_nl, zo_nn, zo_rI, zo_rL, zo_rR, zo_rV, Int.add_zero, Int.zero_add, Int.mul_zero, Int.zero_mul, Int.one_mul, Int.mul_one, if_true, if_false, not_true_eq_false, not_false_eq_true]
          refine zz_Ei (fun _ => zz_Er done) (fun _ => ?_)
          refine zz_Ei (fun _ => zz_Er done) (fun h => absurd u1 h)
        · omega
  -- the first walk: how many
  have first : ∀ (k : Nat) (a many t : Int), zd_hi n a → rk a < k → 0 ≤ t → t + rk a ≤ 15 → 1 ≤ many → many ≤ J 83 e → (∀ δ r, δ ≤ many → (∃ k, zd_pg (zd_x n m J) (J 82) (J 103) (J 104) k a δ r) → ∃ k, zd_pg (zd_x n m J) (J 82) (J 103) (J 104) k (J 104 e) δ r) → zz_E (fun q => mv_run (mv_cax (d - 1)) mm_25 q 17 [(0, .inr (.inr (some 78))), (1, .inl (mv_c e)), (2, .inl (mv_c many)), (3, .inl (mv_c a)), (4, .inl (mv_c t))] [] (zz_S T J R G)) Q := by
    intro k
    induction k with
    | zero => intro a many t ha hrka; have := hrk a ha; omega
    | succ k ih =>
      intro a many t ha hrka t0 t1 m1 m2 hpre
      have ha0 := ha.1
      have ha1 := ha.2
      have hra := hrk a ha
      have hsa := hk.2.2.2.2.1 a ha.1 (by rw [hN]; exact ha.2)
      refine zz_Es (fun n => e_25_17 _ _ _ _ _ _) ?_
      rcases hu a ha with ⟨u1, u1', u2, u3⟩ | ⟨u1, u2, u3, u4, u5⟩
      · simp (maxSteps := 5000000) (disch := first | assumption | omega) only [zu_A, zg_78_0, zp_78_0, zg_78_1, zp_78_1, zr_78_2, zg_78_3, zp_78_3, zg_78_4, zp_78_4, zr_78_5, zr_78_6, zr_78_7, zr_78_8, zr_78_9, zr_78_10, zr_78_11, zr_78_12, zr_78_13, zi_78, za_79, zs_79, zl_79, za_80, zs_80, zl_80, za_81, zs_81, zl_81, za_82, zs_82, zl_82, za_83, zs_83, zl_83, zl_84, za_101, zs_101, zl_101, za_102, zs_102, zl_102, za_103, zs_103, zl_103, za_104, zs_104, zl_104, zg_L_0, zp_L_0, zg_L_1, zp_L_1, zg_L_2, zp_L_2, zg_L_3, zp_L_3, zg_L_4, zp_L_4, zg_L_5, zp_L_5, zg_L_6, zp_L_6, zg_L_7, zp_L_7, zi_L, zr_L_8, za_L_1, zs_L_1, zr_L_9, za_L_2, zs_L_2, zr_L_10, za_L_3, zs_L_3, zr_L_11, za_L_4, zs_L_4, zr_L_12, za_L_5, zs_L_5, zr_L_13, za_L_6, zs_L_6, zr_L_14, za_L_7, zs_L_7, zr_L_15, za_L_8, zs_L_8, zr_L_16, za_L_9, zs_L_9, zr_L_17, za_L_10, zs_L_10, zr_L_18, za_L_11, zs_L_11, zr_L_19, za_L_12, zs_L_12, zr_mv, za_mv, zs_mv, zl_mv, zz_0, zz_31, zz_add, zz_sub, zz_mul, zz_neg, zz_lt, zz_le, zz_eq, zz_div, zz_md, zz_dv, zz_abs, zz_max, zz_min, zz_nI, zz_be0, zz_be1, zz_zb, zz_z, zz_l0, zz_l, zz_lcmp, zo_rf, zo_nl, zo_nn, zo_rI, zo_rL, zo_rR, zo_rV, Int.add_zero, Int.zero_add, Int.mul_zero, Int.zero_mul, Int.one_mul, Int.mul_one, if_true, if_false, not_true_eq_false, not_false_eq_true]
        refine zz_Ei (fun h => absurd h (by omega)) (fun _ => ?_)
        refine zz_Ei (fun h => absurd h (by omega)) (fun _ => ?_)
        refine zz_Ei (fun _ => ?_) (fun h => absurd u1 h)
        refine zz_Ei (fun _ => ?_) (fun h => absurd ha0 h)
        obtain ⟨kp, hpg⟩ := hpre (min many (J 82 a)) a (by omega) ⟨1, Or.inr ⟨u1, by omega, rfl⟩⟩
        exact walk (min many (J 82 a)) a _ (by omega) (by omega) (by omega) ha (fun x x1 x2 => by rw [zu_A x2, zu_A x1]) (by rw [zu_A (by omega), zz_uw, zw_s]) (by rw [zz_uw, zw_s, zu_A (by omega)]) kp e 0 _ he0 he1 hpg (by omega) (by omega) (fun x _ => rfl) (by
          have ex : zd_x n m (zz_u (zz_u J 82 a (J 82 a - min many (J 82 a))) 83 e (J 83 e - min many (J 82 a))) = zd_x n m J := zd_x_c (by omega) (fun x x1 x2 => by rw [zu_A (by omega), zu_A (by omega)])
          rw [ex]
          exact zz_au0 hx0)
      · have hmv := (hk.2.2.2.1 a (J 103 a) ha.1 (by rw [hN]; exact ha.2) u1 (by rw [hM]; exact u2)).2
        have hvn := hv _ u1 u2
        rw [zd_x_v ha u1 u2] at u3
        simp (maxSteps := 5000000) (disch := first | assumption | omega) only [zg_78_0, zp_78_0, zg_78_1, zp_78_1, zr_78_2, zg_78_3, zp_78_3, zg_78_4, zp_78_4, zr_78_5, zr_78_6, zr_78_7, zr_78_8, zr_78_9, zr_78_10, zr_78_11, zr_78_12, zr_78_13, zi_78, za_79, zs_79, zl_79, za_80, zs_80, zl_80, za_81, zs_81, zl_81, za_82, zs_82, zl_82, za_83, zs_83, zl_83, zl_84, za_101, zs_101, zl_101, za_102, zs_102, zl_102, za_103, zs_103, zl_103, za_104, zs_104, zl_104, zg_L_0, zp_L_0, zg_L_1, zp_L_1, zg_L_2, zp_L_2, zg_L_3, zp_L_3, zg_L_4, zp_L_4, zg_L_5, zp_L_5, zg_L_6, zp_L_6, zg_L_7, zp_L_7, zi_L, zr_L_8, za_L_1, zs_L_1, zr_L_9, za_L_2, zs_L_2, zr_L_10, za_L_3, zs_L_3, zr_L_11, za_L_4, zs_L_4, zr_L_12, za_L_5, zs_L_5, zr_L_13, za_L_6, zs_L_6, zr_L_14, za_L_7, zs_L_7, zr_L_15, za_L_8, zs_L_8, zr_L_16, za_L_9, zs_L_9, zr_L_17, za_L_10, zs_L_10, zr_L_18, za_L_11, zs_L_11, zr_L_19, za_L_12, zs_L_12, zr_mv, za_mv, zs_mv, zl_mv, zz_0, zz_31, zz_add, zz_sub, zz_mul, zz_neg, zz_lt, zz_le, zz_eq, zz_div, zz_md, zz_dv, zz_abs, zz_max, zz_min, zz_nI, zz_be0, zz_be1, zz_zb, zz_z, zz_l0, zz_l, zz_lcmp, zo_rf, zo_nl, zo_nn, zo_rI, zo_rL, zo_rR, zo_rV, Int.add_zero, Int.zero_add, Int.mul_zero, Int.zero_mul, Int.one_mul, Int.mul_one, if_true, if_false, not_true_eq_false, not_false_eq_true]
        refine zz_Ei (fun h => absurd h (by omega)) (fun _ => ?_)
        refine zz_Ei (fun h => absurd h (by omega)) (fun _ => ?_)
        refine zz_Ei (fun h => absurd h (by omega)) (fun _ => ?_)
        refine ih (J 104 (J 103 a)) (min many (J (85 + a.toNat) (J 103 a))) (t + 1) hvn.1 (by omega) (by omega) (by omega) (by omega) (by omega) (fun δ r hδ hp => ?_)
        obtain ⟨kp, hp⟩ := hp
        exact hpre δ r (by omega) ⟨kp + 1, Or.inl ⟨u1, by rw [zd_x_v ha u1 u2]; omega, hp⟩⟩
  simp (maxSteps := 5000000) (disch := first | assumption | omega) only [zg_78_0, zp_78_0, zg_78_1, zp_78_1, zr_78_2, zg_78_3, zp_78_3, zg_78_4, zp_78_4, zr_78_5, zr_78_6, zr_78_7, zr_78_8, zr_78_9, zr_78_10, zr_78_11, zr_78_12, zr_78_13, zi_78, za_79, zs_79, zl_79, za_80, zs_80, zl_80, za_81, zs_81, zl_81, za_82, zs_82, zl_82, za_83, zs_83, zl_83, zl_84, za_101, zs_101, zl_101, za_102, zs_102, zl_102, za_103, zs_103, zl_103, za_104, zs_104, zl_104, zg_L_0, zp_L_0, zg_L_1, zp_L_1, zg_L_2, zp_L_2, zg_L_3, zp_L_3, zg_L_4, zp_L_4, zg_L_5, zp_L_5, zg_L_6, zp_L_6, zg_L_7, zp_L_7, zi_L, zr_L_8, za_L_1, zs_L_1, zr_L_9, za_L_2, zs_L_2, zr_L_10, za_L_3, zs_L_3, zr_L_11, za_L_4, zs_L_4, zr_L_12, za_L_5, zs_L_5, zr_L_13, za_L_6, zs_L_6, zr_L_14, za_L_7, zs_L_7, zr_L_15, za_L_8, zs_L_8, zr_L_16, za_L_9, zs_L_9, zr_L_17, za_L_10, zs_L_10, zr_L_18, za_L_11, zs_L_11, zr_L_19, za_L_12, zs_L_12, zr_mv, za_mv, zs_mv, zl_mv, zz_0, zz_31, zz_add, zz_sub, zz_mul, zz_neg, zz_lt, zz_le, zz_eq, zz_div, zz_md, zz_dv, zz_abs, zz_max, zz_min, zz_nI, zz_be0, zz_be1, zz_zb, zz_z, zz_l0, zz_l, zz_lcmp, zo_rf, zo_nl, zo_nn, zo_rI, zo_rL, zo_rR, zo_rV, Int.add_zero, Int.zero_add, Int.mul_zero, Int.zero_mul, Int.one_mul, Int.mul_one, if_true, if_false, not_true_eq_false, not_false_eq_true]
  exact first (rk (J 104 e) + 1).toNat (J 104 e) (J 83 e) 0 hve.1 (by omega) (by omega) (by omega) (by omega) (by omega) (fun δ r _ h => h)
end ZSEN
