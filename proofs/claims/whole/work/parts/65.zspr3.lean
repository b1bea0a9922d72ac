/-! PURE LAYER, 45: the class spreads all -/
def zd_q (J : Nat → Int → Int) (D E P V : Int → Int) : Nat → Int → Int := fun x => if x = 101 then D else if x = 102 then E else if x = 103 then P else if x = 104 then V else J x
section ZSP3
variable {T : List mv_T} {J : Nat → Int → Int} {R : Nat → Nat → Option Nat} {G : Nat → Nat → Int64} {d p : Nat} {Y : Int} {A u v D E P V : Int → Int}
theorem zq_1 : zd_q J D E P V 101 = D := rfl
theorem zq_2 : zd_q J D E P V 102 = E := rfl
theorem zq_3 : zd_q J D E P V 103 = P := rfl
theorem zq_4 : zd_q J D E P V 104 = V := rfl
theorem zq_n {x : Nat} (h : x < 101 ∨ 104 < x) : zd_q J D E P V x = J x := by
  unfold zd_q
  rw [if_neg (by omega), if_neg (by omega), if_neg (by omega), if_neg (by omega)]
theorem zq_i : zd_q J (J 101) (J 102) (J 103) (J 104) = J := by
  funext x
  unfold zd_q
  split
  · rename_i h; rw [h]
  · split
    · rename_i h; rw [h]
    · split
      · rename_i h; rw [h]
      · split
        · rename_i h; rw [h]
        · rfl
theorem zq_w1 {X : Int → Int} : zz_w (zd_q J D E P V) 101 X = zd_q J X E P V := by
  funext x
  unfold zz_w zd_q
  by_cases h : x = 101
  · rw [if_pos h, if_pos h]
  · rw [if_neg h, if_neg h, if_neg h]
theorem zq_w2 {X : Int → Int} : zz_w (zd_q J D E P V) 102 X = zd_q J D X P V := by
  funext x
  unfold zz_w zd_q
  by_cases h : x = 102
  · subst h; rfl
  · rw [if_neg h, if_neg h, if_neg h]
theorem zq_w3 {X : Int → Int} : zz_w (zd_q J D E P V) 103 X = zd_q J D E X V := by
  funext x
  unfold zz_w zd_q
  by_cases h : x = 103
  · subst h; rfl
  · rw [if_neg h, if_neg h, if_neg h]
theorem zq_w4 {X : Int → Int} : zz_w (zd_q J D E P V) 104 X = zd_q J D E P X := by
  funext x
  unfold zz_w zd_q
  by_cases h : x = 104
  · subst h; rfl
  · rw [if_neg h, if_neg h, if_neg h]
theorem zq_u1 {k w : Int} : zz_u (zd_q J D E P V) 101 k w = zd_q J (zz_f D k w) E P V := by rw [zz_uw, zq_w1, zq_1]
theorem zq_u2 {k w : Int} : zz_u (zd_q J D E P V) 102 k w = zd_q J D (zz_f E k w) P V := by rw [zz_uw, zq_w2, zq_2]
theorem zq_u3 {k w : Int} : zz_u (zd_q J D E P V) 103 k w = zd_q J D E (zz_f P k w) V := by rw [zz_uw, zq_w3, zq_3]
theorem zq_u4 {k w : Int} : zz_u (zd_q J D E P V) 104 k w = zd_q J D E P (zz_f V k w) := by rw [zz_uw, zq_w4, zq_4]
theorem zq_x {n m : Int} (hn : n ≤ 16) : zd_x n m (zd_q J D E P V) = zd_x n m J := by
  funext i j
  by_cases h : zd_hi n i ∧ 0 ≤ j ∧ j < m
  · rw [zd_x_v h.1 h.2.1 h.2.2, zd_x_v h.1 h.2.1 h.2.2]
    have := h.1.1
    have := h.1.2
    rw [zq_n (by omega)]
  · have e1 : zd_x n m (zd_q J D E P V) i j = 0 := if_neg h
    have e2 : zd_x n m J i j = 0 := if_neg h
    rw [e1, e2]
theorem zq_ok (h : zd_ok J A) : zd_ok (zd_q J D E P V) A := by
  have h1 := h.1
  unfold zd_ok at h ⊢
  rw [zq_n (x := 78) (by omega), zq_n (x := 80) (by omega), zq_n (x := 81) (by omega), zq_n (x := 82) (by omega), zq_n (x := 83) (by omega)]
  refine ⟨h.1, h.2.1, h.2.2.1, fun i j i0 i1 j0 j1 => ?_, h.2.2.2.2⟩
  rw [zq_n (by omega)]
  exact h.2.2.2.1 i j i0 i1 j0 j1
theorem zq_rep (hp : Lnd p) (h : zc_rep T R J p A) : zc_rep T R (zd_q J D E P V) p A := by
  have hplt : p + 12 < 78 := by rcases hp with rfl | rfl | rfl | rfl <;> omega
  exact zc_rep_f h (fun x hx => zq_n (by omega))
theorem zq_bf {C : Int} {D' E' P' V' : Int → Int} (hn : J 78 3 ≤ 16) : zd_bf (zd_q J D E P V) C u v D' E' P' V' = zd_bf J C u v D' E' P' V' := by
  unfold zd_bf
  rw [zq_n (x := 78) (by omega), zq_n (x := 80) (by omega), zq_n (x := 81) (by omega), zq_n (x := 82) (by omega), zq_x hn]
theorem c_21 (hd : 3 ≤ d) (hL : ZL T R) (hp : Lnd p) (hA : zz_ok Y A) (hR : zc_rep T R J p A) (hk : zd_ok J A) (hpot : zz_pot (zd_hi (J 78 3)) (J 78 4) 6 (zd_w (A 1) (J 80) (J 81)) (zd_x (J 78 3) (J 78 4) J) u v) :
    ∃ D E P V, mv_cax d 21 [.inr (.inr (some 78)), .inr (.inr (some p))] (zz_S T J R G) = some (none, zz_S T (zd_q J D E P V) R G) ∧ zd_bf J (A 1) u v D E P V ∧ (∀ i j, 0 ≤ i → i < J 78 3 → 0 ≤ j → j < J 78 4 → D i < 1000000 → E j ≤ D i + zd_w (A 1) (J 80) (J 81) i j) ∧ (∀ i j, 0 ≤ i → i < J 78 3 → 0 ≤ j → j < J 78 4 → 0 < J (85 + i.toNat) j → E j < 1000000 → D i ≤ E j - zd_w (A 1) (J 80) (J 81) i j) := by
  have hn := hA.n
  have hk1 := hk.1
  suffices h : ∃ r, mv_cax d 21 [.inr (.inr (some 78)), .inr (.inr (some p))] (zz_S T J R G) = some r ∧ ∃ D E P V, r = (none, zz_S T (zd_q J D E P V) R G) ∧ zd_bf J (A 1) u v D E P V ∧ (∀ i j, 0 ≤ i → i < J 78 3 → 0 ≤ j → j < J 78 4 → D i < 1000000 → E j ≤ D i + zd_w (A 1) (J 80) (J 81) i j) ∧ (∀ i j, 0 ≤ i → i < J 78 3 → 0 ≤ j → j < J 78 4 → 0 < J (85 + i.toNat) j → E j < 1000000 → D i ≤ E j - zd_w (A 1) (J 80) (J 81) i j) by
    obtain ⟨r, h1, D, E, P, V, rfl, h2⟩ := h
    exact ⟨D, E, P, V, h1, h2⟩
  refine zz_call (by omega) t_21 rfl (fun n => e_21 _ _ _) ?_
  obtain ⟨Q, hQ⟩ : ∃ Q : Option mv_V × mv_S → Prop, Q = fun r => ∃ D E P V, r = (none, zz_S T (zd_q J D E P V) R G) ∧ zd_bf J (A 1) u v D E P V ∧ (∀ i j, 0 ≤ i → i < J 78 3 → 0 ≤ j → j < J 78 4 → D i < 1000000 → E j ≤ D i + zd_w (A 1) (J 80) (J 81) i j) ∧ (∀ i j, 0 ≤ i → i < J 78 3 → 0 ≤ j → j < J 78 4 → 0 < J (85 + i.toNat) j → E j < 1000000 → D i ≤ E j - zd_w (A 1) (J 80) (J 81) i j) := ⟨_, rfl⟩
  rw [← hQ]
  have fin : ∀ D E P V t, zd_bf J (A 1) u v D E P V → (∀ i j, 0 ≤ i → i < J 78 3 → 0 ≤ j → j < J 78 4 → D i < 1000000 → E j ≤ D i + zd_w (A 1) (J 80) (J 81) i j) → (∀ i j, 0 ≤ i → i < J 78 3 → 0 ≤ j → j < J 78 4 → 0 < J (85 + i.toNat) j → E j < 1000000 → D i ≤ E j - zd_w (A 1) (J 80) (J 81) i j) → zz_E (fun n => mv_run (mv_cax (d - 1)) mm_21 n 79 [(0, .inr (.inr (some 78))), (1, .inr (.inr (some p))), (2, .inl (mv_c 0)), (3, .inl (mv_c t))] [] (zz_S T (zd_q J D E P V) R G)) Q := by
    intro D E P V t w1 w2 w3
    refine zz_Es (fun n => e_21_79 _ _ _ _ _) ?_
    simp (maxSteps := 5000000) (disch := first | assumption | omega) only [zg_78_0, zp_78_0, zg_78_1, zp_78_1, zr_78_2, zg_78_3, zp_78_3, zg_78_4, zp_78_4, zr_78_5, zr_78_6, zr_78_7, zr_78_8, zr_78_9, zr_78_10, zr_78_11, zr_78_12, zr_78_13, zi_78, za_79, zs_79, zl_79, za_80, zs_80, zl_80, za_81, zs_81, zl_81, za_82, zs_82, zl_82, za_83, zs_83, zl_83, zl_84, za_101, zs_101, zl_101, za_102, zs_102, zl_102, za_103, zs_103, zl_103, za_104, zs_104, zl_104, zg_L_0, zp_L_0, zg_L_1, zp_L_1, zg_L_2, zp_L_2, zg_L_3, zp_L_3, zg_L_4, zp_L_4, zg_L_5, zp_L_5, zg_L_6, zp_L_6, zg_L_7, zp_L_7, zi_L, zr_L_8, za_L_1, zs_L_1, zr_L_9, za_L_2, zs_L_2, zr_L_10, za_L_3, zs_L_3, zr_L_11, za_L_4, zs_L_4, zr_L_12, za_L_5, zs_L_5, zr_L_13, za_L_6, zs_L_6, zr_L_14, za_L_7, zs_L_7, zr_L_15, za_L_8, zs_L_8, zr_L_16, za_L_9, zs_L_9, zr_L_17, za_L_10, zs_L_10, zr_L_18, za_L_11, zs_L_11, zr_L_19, za_L_12, zs_L_12, zr_mv, za_mv, zs_mv, zl_mv, zz_0, zz_31, zz_add, zz_sub, zz_mul, zz_neg, zz_lt, zz_le, zz_eq, zz_div, zz_md, zz_dv, zz_abs, zz_max, zz_min, zz_nI, zz_be0, zz_be1, zz_zb, zz_z, zz_l0, zz_l, zz_lcmp, zo_rf, zo_nl, zo_nn, zo_rI, zo_rL, zo_rR, zo_rV, Int.add_zero, Int.zero_add, Int.mul_zero, Int.zero_mul, Int.one_mul, Int.mul_one, if_true, if_false, not_true_eq_false, not_false_eq_true]
    exact zz_Er (by rw [hQ]; exact ⟨D, E, P, V, rfl, w1, w2, w3⟩)
  -- till nothing is nearer
  have main : ∀ (k : Nat) (t : Int) (D E P V : Int → Int), zd_bf J (A 1) u v D E P V → ((∀ i, 0 ≤ i → i < J 78 3 → D i ≤ 0 ∨ D i = 1000000) ∨ (∀ j, 0 ≤ j → j < J 78 4 → E j ≤ 6)) → (∀ i j, 0 ≤ i → i < J 78 3 → 0 ≤ j → j < J 78 4 → 0 < J (85 + i.toNat) j → E j < 1000000 → D i ≤ E j - zd_w (A 1) (J 80) (J 81) i j) → 0 ≤ t → (if J 78 3 ≤ J 78 4 then zd_mu D (J 78 3) else zd_mu E (J 78 4)) < k → t + k ≤ 900 → zz_E (fun n => mv_run (mv_cax (d - 1)) mm_21 n 79 [(0, .inr (.inr (some 78))), (1, .inr (.inr (some p))), (2, .inl (mv_c 1)), (3, .inl (mv_c t))] [] (zz_S T (zd_q J D E P V) R G)) Q := by
    intro k
    induction k with
    | zero =>
      intro t D E P V w1 w2 w3 ht hmu htk
      have hlow := zd_low hA hk hpot w1
      have h1 := (zd_mu_b (n := J 78 3) hk1.1 (fun i i0 i1 => (hlow.1 i i0 i1).1)).1
      have h2 := (zd_mu_b (n := J 78 4) hk1.2.1 (fun i i0 i1 => (hlow.2 i i0 i1).1)).1
      split at hmu <;> omega
    | succ k ih =>
      intro t D E P V w1 w2 w3 ht hmu htk
      obtain ⟨f, E', V', s1, s2, s3, s4, s5, s6⟩ := c_22 (T := T) (J := zd_q J D E P V) (R := R) (G := G) (d := d - 1) (p := p) (Y := Y) (A := A) (u := u) (v := v) (by omega) hL hp hA (zq_rep hp hR) (zq_ok hk) (by
        rw [zq_n (x := 78) (by omega), zq_n (x := 80) (by omega), zq_n (x := 81) (by omega), zq_x (by omega)]
        exact hpot) (by rw [zq_bf (by omega)]; exact w1) (by rw [zq_n (x := 78) (by omega)]; exact w2)
      rw [zq_n (x := 78) (by omega), zq_n (x := 80) (by omega), zq_n (x := 81) (by omega)] at s4
      rw [zq_n (x := 78) (by omega)] at s6
      rw [zq_bf (by omega)] at s3
      rw [zq_w2, zq_w4] at s1
      refine zz_Es (fun n => e_21_79 _ _ _ _ _) ?_
      rcases s2 with rfl | rfl
      · obtain ⟨e1, e2⟩ := s5 rfl
        have e1 : E' = E := e1
        have e2 : V' = V := e2
        subst e1 e2
        simp (maxSteps := 5000000) (disch := first | assumption | omega) only [s1, zg_78_0, zp_78_0, zg_78_1, zp_78_1, zr_78_2, zg_78_3, zp_78_3, zg_78_4, zp_78_4, zr_78_5, zr_78_6, zr_78_7, zr_78_8, zr_78_9, zr_78_10, zr_78_11, zr_78_12, zr_78_13, zi_78, za_79, zs_79, zl_79, za_80, zs_80, zl_80, za_81, zs_81, zl_81, za_82, zs_82, zl_82, za_83, zs_83, zl_83, zl_84, za_101, zs_101, zl_101, za_102, zs_102, zl_102, za_103, zs_103, zl_103, za_104, zs_104, zl_104, zg_L_0, zp_L_0, zg_L_1, zp_L_1, zg_L_2, zp_L_2, zg_L_3, zp_L_3, zg_L_4, zp_L_4, zg_L_5, zp_L_5, zg_L_6, zp_L_6, zg_L_7, zp_L_7, zi_L, zr_L_8, za_L_1, zs_L_1, zr_L_9, za_L_2, zs_L_2, zr_L_10, za_L_3, zs_L_3, zr_L_11, za_L_4, zs_L_4, zr_L_12, za_L_5, zs_L_5, zr_L_13, za_L_6, zs_L_6, zr_L_14, za_L_7, zs_L_7, zr_L_15, za_L_8, zs_L_8, zr_L_16, za_L_9, zs_L_9, zr_L_17, za_L_10, zs_L_10, zr_L_18, za_L_11, zs_L_11, zr_L_19, za_L_12, zs_L_12, zr_mv, za_mv, zs_mv, zl_mv, zz_0, zz_31, zz_add, zz_sub, zz_mul, zz_neg, zz_lt, zz_le, zz_eq, zz_div, zz_md, zz_dv, zz_abs, zz_max, zz_min, zz_nI, zz_be0, zz_be1, zz_zb, zz_z, zz_l0, zz_l, zz_lcmp, zo_rf, zo_nl, zo_nn, zo_rI, zo_rL, zo_rR, zo_rV, Int.add_zero, Int.zero_add, Int.mul_zero, Int.zero_mul, Int.one_mul, Int.mul_one, if_true, if_false, not_true_eq_false, not_false_eq_true]
        refine zz_Ei (fun h => absurd h (by omega)) (fun _ => ?_)
        refine zz_Ei (fun h => absurd h (by omega)) (fun _ => ?_)
        exact fin D E' P V' (t + 1) w1 s4 w3
      · obtain ⟨g1, g2⟩ := s6 rfl
        obtain ⟨f', D', P', q1, q2, q3, q4, q5, q6⟩ := c_23 (T := T) (J := zd_q J D E' P V') (R := R) (G := G) (d := d - 1) (p := p) (Y := Y) (A := A) (u := u) (v := v) (by omega) hL hp hA (zq_rep hp hR) (zq_ok hk) (by
          rw [zq_n (x := 78) (by omega), zq_n (x := 80) (by omega), zq_n (x := 81) (by omega), zq_x (by omega)]
          exact hpot) (by rw [zq_bf (by omega)]; exact s3) (by rw [zq_n (x := 78) (by omega)]; exact g1)
        rw [zq_n (x := 78) (by omega), zq_n (x := 80) (by omega), zq_n (x := 81) (by omega)] at q4
        have q4' : ∀ i j, 0 ≤ i → i < J 78 3 → 0 ≤ j → j < J 78 4 → 0 < J (85 + i.toNat) j → E' j < 1000000 → D' i ≤ E' j - zd_w (A 1) (J 80) (J 81) i j := fun i j i0 i1 j0 j1 hx => q4 i j i0 i1 j0 j1 (by rw [zq_n (by omega)]; exact hx)
        rw [zq_n (x := 78) (by omega)] at q6
        rw [zq_bf (by omega)] at q3
        rw [zq_w1, zq_w3] at q1
        rcases q2 with rfl | rfl
        · obtain ⟨e1, e2⟩ := q5 rfl
          have e1 : D' = D := e1
          have e2 : P' = P := e2
          subst e1 e2
          simp (maxSteps := 5000000) (disch := first | assumption | omega) only [s1, q1, zg_78_0, zp_78_0, zg_78_1, zp_78_1, zr_78_2, zg_78_3, zp_78_3, zg_78_4, zp_78_4, zr_78_5, zr_78_6, zr_78_7, zr_78_8, zr_78_9, zr_78_10, zr_78_11, zr_78_12, zr_78_13, zi_78, za_79, zs_79, zl_79, za_80, zs_80, zl_80, za_81, zs_81, zl_81, za_82, zs_82, zl_82, za_83, zs_83, zl_83, zl_84, za_101, zs_101, zl_101, za_102, zs_102, zl_102, za_103, zs_103, zl_103, za_104, zs_104, zl_104, zg_L_0, zp_L_0, zg_L_1, zp_L_1, zg_L_2, zp_L_2, zg_L_3, zp_L_3, zg_L_4, zp_L_4, zg_L_5, zp_L_5, zg_L_6, zp_L_6, zg_L_7, zp_L_7, zi_L, zr_L_8, za_L_1, zs_L_1, zr_L_9, za_L_2, zs_L_2, zr_L_10, za_L_3, zs_L_3, zr_L_11, za_L_4, zs_L_4, zr_L_12, za_L_5, zs_L_5, zr_L_13, za_L_6, zs_L_6, zr_L_14, za_L_7, zs_L_7, zr_L_15, za_L_8, zs_L_8, zr_L_16, za_L_9, zs_L_9, zr_L_17, za_L_10, zs_L_10, zr_L_18, za_L_11, zs_L_11, zr_L_19, za_L_12, zs_L_12, zr_mv, za_mv, zs_mv, zl_mv, zz_0, zz_31, zz_add, zz_sub, zz_mul, zz_neg, zz_lt, zz_le, zz_eq, zz_div, zz_md, zz_dv, zz_abs, zz_max, zz_min, zz_nI, zz_be0, zz_be1, zz_zb, zz_z, zz_l0, zz_l, zz_lcmp, zo_rf, zo_nl, zo_nn, zo_rI, zo_rL, zo_rR, zo_rV, Int.add_zero, Int.zero_add, Int.mul_zero, Int.zero_mul, Int.one_mul, Int.mul_one, if_true, if_false, not_true_eq_false, not_false_eq_true]
          refine zz_Ei (fun h => absurd h (by omega)) (fun _ => ?_)
          refine zz_Ei (fun h => absurd h (by omega)) (fun _ => ?_)
          refine zz_Ei (fun h => absurd h (by omega)) (fun _ => ?_)
          exact fin D' E' P' V' (t + 1) q3 s4 q4'
        · have q6 : zd_mu D' (J 78 3) < zd_mu D (J 78 3) := q6 rfl
          have g2 : zd_mu E' (J 78 4) < zd_mu E (J 78 4) := g2
          simp (maxSteps := 5000000) (disch := first | assumption | omega) only [s1, q1, zg_78_0, zp_78_0, zg_78_1, zp_78_1, zr_78_2, zg_78_3, zp_78_3, zg_78_4, zp_78_4, zr_78_5, zr_78_6, zr_78_7, zr_78_8, zr_78_9, zr_78_10, zr_78_11, zr_78_12, zr_78_13, zi_78, za_79, zs_79, zl_79, za_80, zs_80, zl_80, za_81, zs_81, zl_81, za_82, zs_82, zl_82, za_83, zs_83, zl_83, zl_84, za_101, zs_101, zl_101, za_102, zs_102, zl_102, za_103, zs_103, zl_103, za_104, zs_104, zl_104, zg_L_0, zp_L_0, zg_L_1, zp_L_1, zg_L_2, zp_L_2, zg_L_3, zp_L_3, zg_L_4, zp_L_4, zg_L_5, zp_L_5, zg_L_6, zp_L_6, zg_L_7, zp_L_7, zi_L, zr_L_8, za_L_1, zs_L_1, zr_L_9, za_L_2, zs_L_2, zr_L_10, za_L_3, zs_L_3, zr_L_11, za_L_4, zs_L_4, zr_L_12, za_L_5, zs_L_5, zr_L_13, za_L_6, zs_L_6, zr_L_14, za_L_7, zs_L_7, zr_L_15, za_L_8, zs_L_8, zr_L_16, za_L_9, zs_L_9, zr_L_17, za_L_10, zs_L_10, zr_L_18, za_L_11, zs_L_11, zr_L_19, za_L_12, zs_L_12, zr_mv, za_mv, zs_mv, zl_mv, zz_0, zz_31, zz_add, zz_sub, zz_mul, zz_neg, zz_lt, zz_le, zz_eq, zz_div, zz_md, zz_dv, zz_abs, zz_max, zz_min, zz_nI, zz_be0, zz_be1, zz_zb, zz_z, zz_l0, zz_l, zz_lcmp, zo_rf, zo_nl, zo_nn, zo_rI, zo_rL, zo_rR, zo_rV, Int.add_zero, Int.zero_add, Int.mul_zero, Int.zero_mul, Int.one_mul, Int.mul_one, if_true, if_false, not_true_eq_false, not_false_eq_true]
          refine zz_Ei (fun h => absurd h (by omega)) (fun _ => ?_)
          refine zz_Ei (fun h => absurd h (by omega)) (fun _ => ?_)
          refine zz_Ei (fun h => absurd h (by omega)) (fun _ => ?_)
          refine zz_Ei (fun h => absurd h (by omega)) (fun _ => ?_)
          refine ih (t + 1) D' E' P' V' q3 (Or.inr g1) q4' (by omega) ?_ (by omega)
          by_cases hc : J 78 3 ≤ J 78 4
          · rw [if_pos hc] at hmu ⊢
            omega
          · rw [if_neg hc] at hmu ⊢
            omega
  -- all anew
  have l1 := zz_loop (α := (Int → Int) × (Int → Int)) (run := fun i q n => mv_run (mv_cax (d - 1)) mm_21 n 2 [(0, .inr (.inr (some 78))), (1, .inr (.inr (some p))), (2, .inl (mv_c i))] [] (zz_S T (zd_q J q.1 (J 102) q.2 (J 104)) R G)) (Q := Q) (J 78 3) (fun i q => 0 ≤ i ∧ ∀ k, 0 ≤ k → k < i → (0 < J 82 k → q.1 k = 0) ∧ (¬ 0 < J 82 k → q.1 k = 1000000) ∧ q.2 k = -1) ?_ ?_ (J 78 3).toNat 0 (J 101, J 103) (by omega) ⟨by omega, fun k k0 k1 => by omega⟩
  · rw [zq_i] at l1
    exact l1
  · rintro i ⟨D, P⟩ ⟨hi, hq⟩ hlt kk
    have hq : ∀ k, 0 ≤ k → k < i → (0 < J 82 k → D k = 0) ∧ (¬ 0 < J 82 k → D k = 1000000) ∧ P k = -1 := hq
    have hs := hk.2.2.2.2.1 i hi hlt
    have nx : ∀ v, (0 < J 82 i → v = 0) → (¬ 0 < J 82 i → v = 1000000) → zz_E (fun n => mv_run (mv_cax (d - 1)) mm_21 n 2 [(0, .inr (.inr (some 78))), (1, .inr (.inr (some p))), (2, .inl (mv_c (i + 1)))] [] (zz_S T (zd_q J (zz_f D i v) (J 102) (zz_f P i (-1)) (J 104)) R G)) Q := fun v v1 v2 => kk (zz_f D i v, zz_f P i (-1)) ⟨by omega, fun k k0 k1 => by
      show (_ → zz_f D i v k = 0) ∧ (_ → zz_f D i v k = 1000000) ∧ zz_f P i (-1) k = -1
      by_cases e : k = i
      · subst e
        rw [zf_s, zf_s]
        exact ⟨v1, v2, rfl⟩
      · rw [zf_n e, zf_n e]
        exact hq k k0 (by omega)⟩
    refine zz_Es (fun n => e_21_2 _ _ _ _) ?_
    simp (maxSteps := 5000000) (disch := first | assumption | omega) only [zq_n, zq_u1, zq_u3, zg_78_0, zp_78_0, zg_78_1, zp_78_1, zr_78_2, zg_78_3, zp_78_3, zg_78_4, zp_78_4, zr_78_5, zr_78_6, zr_78_7, zr_78_8, zr_78_9, zr_78_10, zr_78_11, zr_78_12, zr_78_13, zi_78, za_79, zs_79, zl_79, za_80, zs_80, zl_80, za_81, zs_81, zl_81, za_82, zs_82, zl_82, za_83, zs_83, zl_83, zl_84, za_101, zs_101, zl_101, za_102, zs_102, zl_102, za_103, zs_103, zl_103, za_104, zs_104, zl_104, zg_L_0, zp_L_0, zg_L_1, zp_L_1, zg_L_2, zp_L_2, zg_L_3, zp_L_3, zg_L_4, zp_L_4, zg_L_5, zp_L_5, zg_L_6, zp_L_6, zg_L_7, zp_L_7, zi_L, zr_L_8, za_L_1, zs_L_1, zr_L_9, za_L_2, zs_L_2, zr_L_10, za_L_3, zs_L_3, zr_L_11, za_L_4, zs_L_4, zr_L_12, za_L_5, zs_L_5, zr_L_13, za_L_6, zs_L_6, zr_L_14, za_L_7, zs_L_7, zr_L_15, za_L_8, zs_L_8, zr_L_16, za_L_9, zs_L_9, zr_L_17, za_L_10, zs_L_10, zr_L_18, za_L_11, zs_L_11, zr_L_19, za_L_12, zs_L_12, zr_mv, za_mv, zs_mv, zl_mv, zz_0, zz_31, zz_add, zz_sub, zz_mul, zz_neg, zz_lt, zz_le, zz_eq, zz_div, zz_md, zz_dv, zz_abs, zz_max, zz_min, zz_nI, zz_be0, zz_be1, zz_zb, zz_z, zz_l0, zz_l, zz_lcmp, zo_rf, zo_nl, zo_nn, zo_rI, zo_rL, zo_rR, zo_rV, Int.add_zero, Int.zero_add, Int.mul_zero, Int.zero_mul, Int.one_mul, Int.mul_one, if_true, if_false, not_true_eq_false, not_false_eq_true]
    refine zz_Ei (fun h => absurd h (by omega)) (fun _ => ?_)
    refine zz_Ei (fun h => nx _ (fun q => by omega) (fun _ => rfl)) (fun h => nx _ (fun _ => rfl) (fun q => by omega))
  · rintro ⟨D, P⟩ ⟨_, hq⟩
    have hq : ∀ k, 0 ≤ k → k < J 78 3 → (0 < J 82 k → D k = 0) ∧ (¬ 0 < J 82 k → D k = 1000000) ∧ P k = -1 := hq
    refine zz_Es (fun n => e_21_2 _ _ _ _) ?_
    simp (maxSteps := 5000000) (disch := first | assumption | omega) only [zq_n, zg_78_0, zp_78_0, zg_78_1, zp_78_1, zr_78_2, zg_78_3, zp_78_3, zg_78_4, zp_78_4, zr_78_5, zr_78_6, zr_78_7, zr_78_8, zr_78_9, zr_78_10, zr_78_11, zr_78_12, zr_78_13, zi_78, za_79, zs_79, zl_79, za_80, zs_80, zl_80, za_81, zs_81, zl_81, za_82, zs_82, zl_82, za_83, zs_83, zl_83, zl_84, za_101, zs_101, zl_101, za_102, zs_102, zl_102, za_103, zs_103, zl_103, za_104, zs_104, zl_104, zg_L_0, zp_L_0, zg_L_1, zp_L_1, zg_L_2, zp_L_2, zg_L_3, zp_L_3, zg_L_4, zp_L_4, zg_L_5, zp_L_5, zg_L_6, zp_L_6, zg_L_7, zp_L_7, zi_L, zr_L_8, za_L_1, zs_L_1, zr_L_9, za_L_2, zs_L_2, zr_L_10, za_L_3, zs_L_3, zr_L_11, za_L_4, zs_L_4, zr_L_12, za_L_5, zs_L_5, zr_L_13, za_L_6, zs_L_6, zr_L_14, za_L_7, zs_L_7, zr_L_15, za_L_8, zs_L_8, zr_L_16, za_L_9, zs_L_9, zr_L_17, za_L_10, zs_L_10, zr_L_18, za_L_11, zs_L_11, zr_L_19, za_L_12, zs_L_12, zr_mv, za_mv, zs_mv, zl_mv, zz_0, zz_31, zz_add, zz_sub, zz_mul, zz_neg, zz_lt, zz_le, zz_eq, zz_div, zz_md, zz_dv, zz_abs, zz_max, zz_min, zz_nI, zz_be0, zz_be1, zz_zb, zz_z, zz_l0, zz_l, zz_lcmp, zo_rf, zo_nl, zo_nn, zo_rI, zo_rL, zo_rR, zo_rV, Int.add_zero, Int.zero_add, Int.mul_zero, Int.zero_mul, Int.one_mul, Int.mul_one, if_true, if_false, not_true_eq_false, not_false_eq_true]
    refine zz_Ei (fun _ => ?_) (fun h => absurd (Int.le_refl _) h)
    refine zz_loop (α := (Int → Int) × (Int → Int)) (run := fun j q n => mv_run (mv_cax (d - 1)) mm_21 n 46 [(0, .inr (.inr (some 78))), (1, .inr (.inr (some p))), (2, .inl (mv_c j))] [] (zz_S T (zd_q J D q.1 P q.2) R G)) (J 78 4) (fun j q => 0 ≤ j ∧ ∀ k, 0 ≤ k → k < j → q.1 k = 1000000 ∧ q.2 k = -1) ?_ ?_ (J 78 4).toNat 0 (J 102, J 104) (by omega) ⟨by omega, fun k k0 k1 => by omega⟩
    · rintro j ⟨E, V⟩ ⟨hj, hr⟩ hlt kk
      have hr : ∀ k, 0 ≤ k → k < j → E k = 1000000 ∧ V k = -1 := hr
      refine zz_Es (fun n => e_21_46 _ _ _ _) ?_
      simp (maxSteps := 5000000) (disch := first | assumption | omega) only [zq_n, zq_u2, zq_u4, zg_78_0, zp_78_0, zg_78_1, zp_78_1, zr_78_2, zg_78_3, zp_78_3, zg_78_4, zp_78_4, zr_78_5, zr_78_6, zr_78_7, zr_78_8, zr_78_9, zr_78_10, zr_78_11, zr_78_12, zr_78_13, zi_78, za_79, zs_79, zl_79, za_80, zs_80, zl_80, za_81, zs_81, zl_81, za_82, zs_82, zl_82, za_83, zs_83, zl_83, zl_84, za_101, zs_101, zl_101, za_102, zs_102, zl_102, za_103, zs_103, zl_103, za_104, zs_104, zl_104, zg_L_0, zp_L_0, zg_L_1, zp_L_1, zg_L_2, zp_L_2, zg_L_3, zp_L_3, zg_L_4, zp_L_4, zg_L_5, zp_L_5, zg_L_6, zp_L_6, zg_L_7, zp_L_7, zi_L, zr_L_8, za_L_1, zs_L_1, zr_L_9, za_L_2, zs_L_2, zr_L_10, za_L_3, zs_L_3, zr_L_11, za_L_4, zs_L_4, zr_L_12, za_L_5, zs_L_5, zr_L_13, za_L_6, zs_L_6, zr_L_14, za_L_7, zs_L_7, zr_L_15, za_L_8, zs_L_8, zr_L_16, za_L_9, zs_L_9, zr_L_17, za_L_10, zs_L_10, zr_L_18, za_L_11, zs_L_11, zr_L_19, za_L_12, zs_L_12, zr_mv, za_mv, zs_mv, zl_mv, zz_0, zz_31, zz_add, zz_sub, zz_mul, zz_neg, zz_lt, zz_le, zz_eq, zz_div, zz_md, zz_dv, zz_abs, zz_max, zz_min, zz_nI, zz_be0, zz_be1, zz_zb, zz_z, zz_l0, zz_l, zz_lcmp, zo_rf, zo_nl, zo_nn, zo_rI, zo_rL, zo_rR, zo_rV, Int.add_zero, Int.zero_add, Int.mul_zero, Int.zero_mul, Int.one_mul, Int.mul_one, if_true, if_false, not_true_eq_false, not_false_eq_true]
      refine zz_Ei (fun h => absurd h (by omega)) (fun _ => ?_)
      refine kk (zz_f E j 1000000, zz_f V j (-1)) ⟨by omega, fun k k0 k1 => ?_⟩
      show zz_f E j 1000000 k = 1000000 ∧ zz_f V j (-1) k = -1
      by_cases e : k = j
      · rw [e, zf_s, zf_s]
        exact ⟨rfl, rfl⟩
      · rw [zf_n e, zf_n e]
        exact hr k k0 (by omega)
    · rintro ⟨E, V⟩ ⟨_, hr⟩
      have hr : ∀ k, 0 ≤ k → k < J 78 4 → E k = 1000000 ∧ V k = -1 := hr
      refine zz_Es (fun n => e_21_46 _ _ _ _) ?_
      simp (maxSteps := 5000000) (disch := first | assumption | omega) only [zq_n, zg_78_0, zp_78_0, zg_78_1, zp_78_1, zr_78_2, zg_78_3, zp_78_3, zg_78_4, zp_78_4, zr_78_5, zr_78_6, zr_78_7, zr_78_8, zr_78_9, zr_78_10, zr_78_11, zr_78_12, zr_78_13, zi_78, za_79, zs_79, zl_79, za_80, zs_80, zl_80, za_81, zs_81, zl_81, za_82, zs_82, zl_82, za_83, zs_83, zl_83, zl_84, za_101, zs_101, zl_101, za_102, zs_102, zl_102, za_103, zs_103, zl_103, za_104, zs_104, zl_104, zg_L_0, zp_L_0, zg_L_1, zp_L_1, zg_L_2, zp_L_2, zg_L_3, zp_L_3, zg_L_4, zp_L_4, zg_L_5, zp_L_5, zg_L_6, zp_L_6, zg_L_7, zp_L_7, zi_L, zr_L_8, za_L_1, zs_L_1, zr_L_9, za_L_2, zs_L_2, zr_L_10, za_L_3, zs_L_3, zr_L_11, za_L_4, zs_L_4, zr_L_12, za_L_5, zs_L_5, zr_L_13, za_L_6, zs_L_6, zr_L_14, za_L_7, zs_L_7, zr_L_15, za_L_8, zs_L_8, zr_L_16, za_L_9, zs_L_9, zr_L_17, za_L_10, zs_L_10, zr_L_18, za_L_11, zs_L_11, zr_L_19, za_L_12, zs_L_12, zr_mv, za_mv, zs_mv, zl_mv, zz_0, zz_31, zz_add, zz_sub, zz_mul, zz_neg, zz_lt, zz_le, zz_eq, zz_div, zz_md, zz_dv, zz_abs, zz_max, zz_min, zz_nI, zz_be0, zz_be1, zz_zb, zz_z, zz_l0, zz_l, zz_lcmp, zo_rf, zo_nl, zo_nn, zo_rI, zo_rL, zo_rR, zo_rV, Int.add_zero, Int.zero_add, Int.mul_zero, Int.zero_mul, Int.one_mul, Int.mul_one, if_true, if_false, not_true_eq_false, not_false_eq_true]
      refine zz_Ei (fun _ => ?_) (fun h => absurd (Int.le_refl _) h)
      have hbf : zd_bf J (A 1) u v D E P V := ⟨zz_bf0 (fun a ha => ⟨(hq a ha.1 ha.2).1, (hq a ha.1 ha.2).2.1, by rw [(hq a ha.1 ha.2).2.2]; omega⟩) (fun b b0 b1 => ⟨(hr b b0 b1).1, by rw [(hr b b0 b1).2]; omega⟩), fun i i0 i1 => by rw [(hq i i0 i1).2.2]; omega⟩
      have hlow := zd_low hA hk hpot hbf
      have b1 := zd_mu_b (n := J 78 3) hk1.1 (fun i i0 i1 => (hlow.1 i i0 i1).1)
      have b2 := zd_mu_b (n := J 78 4) hk1.2.1 (fun i i0 i1 => (hlow.2 i i0 i1).1)
      refine main 900 0 D E P V hbf (Or.inl (fun i i0 i1 => ?_)) (fun i j i0 i1 j0 j1 _ h => ?_) (by omega) ?_ (by omega)
      · by_cases h : 0 < J 82 i
        · have := (hq i i0 i1).1 h
          omega
        · exact Or.inr ((hq i i0 i1).2.1 h)
      · have := (hr j j0 j1).1
        omega
      · split <;> omega
end ZSP3
