/-! PURE LAYER, 41: the class's land: water, worths, sums -/
theorem zz_la_get : ∀ (l : List Int) (x : Int), l ≠ [] → zz_la x l = l.getD (l.length - 1) 0
  | [], _, h => absurd rfl h
  | [a], _, _ => rfl
  | a :: b :: l, x, _ => by
    show zz_la a (b :: l) = _
    rw [zz_la_get (b :: l) a (by simp)]
    simp
theorem zz_rim {A : Int → Int} {c : Int} (h : 2 ≤ A 0 ∧ A 0 ≤ 4 ∧ 2 ≤ A 1 ∧ A 1 ≤ 4) (h1 : 0 ≤ c) (h2 : c < A 0 * A 1) : (zz_cd A c 0 < 0 ↔ c / A 1 = 0) ∧ (zz_cd A c 1 < 0 ↔ c % A 1 = A 1 - 1) ∧ (zz_cd A c 2 < 0 ↔ c / A 1 = A 0 - 1) ∧ (zz_cd A c 3 < 0 ↔ c % A 1 = 0) := by
  have q := zz_dm h.1 h.2.1 h.2.2.1 h.2.2.2 h1 h2
  have key : ∀ i y x, zz_dy i = y → zz_dx i = x → (zz_cd A c i < 0 ↔ ¬ ((0 ≤ c / A 1 + y ∧ c / A 1 + y ≤ A 0 - 1) ∧ (0 ≤ c % A 1 + x ∧ c % A 1 + x ≤ A 1 - 1))) := by
    intro i y x hy hx
    unfold zz_cd
    rw [hy, hx]
    by_cases r : (0 ≤ c / A 1 + y ∧ c / A 1 + y ≤ A 0 - 1) ∧ (0 ≤ c % A 1 + x ∧ c % A 1 + x ≤ A 1 - 1)
    · rw [if_pos r]
      have : 0 ≤ (c / A 1 + y) * A 1 := Int.mul_nonneg r.1.1 (by omega)
      constructor
      · intro; omega
      · intro r'; exact absurd r r'
    · rw [if_neg r]
      exact ⟨fun _ => r, fun _ => by omega⟩
  refine ⟨?_, ?_, ?_, ?_⟩
  · rw [key 0 (-1) 0 rfl rfl]; omega
  · rw [key 1 0 1 rfl rfl]; omega
  · rw [key 2 1 0 rfl rfl]; omega
  · rw [key 3 0 (-1) rfl rfl]; omega
section ZLN2
variable {T : List mv_T} {J : Nat → Int → Int} {R : Nat → Nat → Option Nat} {G : Nat → Nat → Int64} {d p : Nat} {Y : Int} {A : Int → Int}
theorem zc_rep_w {O : Int → Int} (hp : Lnd p) (h : zc_rep T R J p A) : zc_rep T R (zz_w J (p + 12) O) p A := by
  have hlt : p + 12 < 156 := by rcases hp with rfl | rfl | rfl | rfl <;> omega
  exact zc_rep_f h (fun x hx => zw_n (by omega))
theorem c_46l (hd : 1 ≤ d) (hL : ZL T R) (hp : Lnd p) (hA : zz_ok Y A) (hR : zc_rep T R J p A) : ∀ (m : Nat) (c k : Int) (O : Int → Int), 0 ≤ k → k + m = 9 → 0 ≤ c → c < A 0 * A 1 → A (8 + c) ≤ m → zz_E (fun n => mv_run (mv_cax d) mm_46 n 7 [(0, .inr (.inr (some p))), (1, .inl (mv_c c)), (2, .inl (mv_c k))] [] (zz_S T (zz_w J (p + 12) O) R G)) (fun r => ∃ O', r = (some (.inl (mv_c (k + ((zz_wy A m c).length : Int)))), zz_S T (zz_w J (p + 12) O') R G) ∧ (∀ i, i < k → O' i = O i) ∧ ∀ j : Nat, j < (zz_wy A m c).length → O' (k + j) = (zz_wy A m c).getD j 0) := by
  have hn := hA.n
  have h0 := hA.1
  -- one step: to the lowest beside
  have step : ∀ (c k : Int) (O : Int → Int) (Q : Option mv_V × mv_S → Prop), 0 ≤ k → k ≤ 9 → 0 ≤ c → c < A 0 * A 1 → (zz_nx A c = c → Q (some (.inl (mv_c (k + 1))), zz_S T (zz_w J (p + 12) (zz_f O k c)) R G)) → (zz_nx A c ≠ c → zz_E (fun n => mv_run (mv_cax d) mm_46 n 7 [(0, .inr (.inr (some p))), (1, .inl (mv_c (zz_nx A c))), (2, .inl (mv_c (k + 1)))] [] (zz_S T (zz_w J (p + 12) (zz_f O k c)) R G)) Q) → zz_E (fun n => mv_run (mv_cax d) mm_46 n 7 [(0, .inr (.inr (some p))), (1, .inl (mv_c c)), (2, .inl (mv_c k))] [] (zz_S T (zz_w J (p + 12) O) R G)) Q := by
    intro c k O Q k0 k1 c0 c1 q1 q2
    have hR' : zc_rep T R (zz_w J (p + 12) (zz_f O k c)) p A := zc_rep_w hp hR
    refine zz_Es (fun n => e_46_7 _ _ _ _) ?_
    simp (maxSteps := 5000000) (disch := first | assumption | omega) only [zz_wu, zg_L_0, zp_L_0, zg_L_1, zp_L_1, zg_L_2, zp_L_2, zg_L_3, zp_L_3, zg_L_4, zp_L_4, zg_L_5, zp_L_5, zg_L_6, zp_L_6, zg_L_7, zp_L_7, zi_L, zr_L_8, za_L_1, zs_L_1, zr_L_9, za_L_2, zs_L_2, zr_L_10, za_L_3, zs_L_3, zr_L_11, za_L_4, zs_L_4, zr_L_12, za_L_5, zs_L_5, zr_L_13, za_L_6, zs_L_6, zr_L_14, za_L_7, zs_L_7, zr_L_15, za_L_8, zs_L_8, zr_L_16, za_L_9, zs_L_9, zr_L_17, za_L_10, zs_L_10, zr_L_18, za_L_11, zs_L_11, zr_L_19, za_L_12, zs_L_12, zz_0, zz_31, zz_add, zz_sub, zz_mul, zz_neg, zz_lt, zz_le, zz_eq, zz_div, zz_md, zz_dv, zz_abs, zz_max, zz_min, zz_nI, zz_be0, zz_be1, zz_zb, zz_z, zz_l0, zz_l, zz_lcmp, zo_rf, zo_nl, zo_nn, zo_rI, zo_rL, zo_rR, zo_rV, Int.add_zero, Int.zero_add, Int.mul_zero, Int.zero_mul, Int.one_mul, Int.mul_one, if_true, if_false, not_true_eq_false, not_false_eq_true]
    refine zz_Ei (fun h => absurd h (by omega)) (fun _ => ?_)
    generalize hJ1 : zz_w J (p + 12) (zz_f O k c) = J1 at *
    have hcA := (hA.2.2.2.2.2.2.2.1 c c0 c1).1
    refine zz_loop (run := fun s low n => mv_run (mv_cax d) mm_46 n 30 [(0, .inr (.inr (some p))), (1, .inl (mv_c c)), (2, .inl (mv_c (k + 1))), (3, .inl (mv_c low)), (4, .inl (mv_c s))] [] (zz_S T J1 R G)) (c * 4 + 4) (fun s low => c * 4 ≤ s ∧ low = zz_ln A c (s - c * 4).toNat) ?_ ?_ 4 (c * 4) c (by omega) ⟨by omega, by rw [show c * 4 - c * 4 = 0 by omega]; rfl⟩
    · rintro s low ⟨hs, rfl⟩ hlt kk
      have hcd := (hR'.1.2.1 c c0 c1).2 (s - c * 4) (by omega) (by omega)
      rw [show c * 4 + (s - c * 4) = s by omega] at hcd
      have hr := zz_cd_r (c := c) (i := s - c * 4) h0
      have hlr := (zz_ln_r h0 c0 c1 (s - c * 4).toNat).1
      have hl1 := zz_ln1 (A := A) (c := c) (i := s - c * 4) (by omega)
      have hlA := (hA.2.2.2.2.2.2.2.1 _ hlr.1 hlr.2).1
      have hlJ := (hR'.2.2.1 _ hlr.1 hlr.2).1
      rw [show s - c * 4 + 1 = s + 1 - c * 4 by omega] at hl1
      have stay : ¬ (0 ≤ zz_cd A c (s - c * 4) ∧ A (8 + zz_cd A c (s - c * 4)) < A (8 + zz_ln A c (s - c * 4).toNat)) → zz_E (fun n => mv_run (mv_cax d) mm_46 n 30 [(0, .inr (.inr (some p))), (1, .inl (mv_c c)), (2, .inl (mv_c (k + 1))), (3, .inl (mv_c (zz_ln A c (s - c * 4).toNat))), (4, .inl (mv_c (s + 1)))] [] (zz_S T J1 R G)) Q := fun h => kk _ ⟨by omega, by rw [hl1]; unfold zz_lw; rw [if_neg h]⟩
      refine zz_Es (fun n => e_46_30 _ _ _ _ _ _) ?_
      by_cases hneg : zz_cd A c (s - c * 4) < 0
      · simp (maxSteps := 5000000) (disch := first | assumption | omega) only [hcd, zg_L_0, zp_L_0, zg_L_1, zp_L_1, zg_L_2, zp_L_2, zg_L_3, zp_L_3, zg_L_4, zp_L_4, zg_L_5, zp_L_5, zg_L_6, zp_L_6, zg_L_7, zp_L_7, zi_L, zr_L_8, za_L_1, zs_L_1, zr_L_9, za_L_2, zs_L_2, zr_L_10, za_L_3, zs_L_3, zr_L_11, za_L_4, zs_L_4, zr_L_12, za_L_5, zs_L_5, zr_L_13, za_L_6, zs_L_6, zr_L_14, za_L_7, zs_L_7, zr_L_15, za_L_8, zs_L_8, zr_L_16, za_L_9, zs_L_9, zr_L_17, za_L_10, zs_L_10, zr_L_18, za_L_11, zs_L_11, zr_L_19, za_L_12, zs_L_12, zz_0, zz_31, zz_add, zz_sub, zz_mul, zz_neg, zz_lt, zz_le, zz_eq, zz_div, zz_md, zz_dv, zz_abs, zz_max, zz_min, zz_nI, zz_be0, zz_be1, zz_zb, zz_z, zz_l0, zz_l, zz_lcmp, zo_rf, zo_nl, zo_nn, zo_rI, zo_rL, zo_rR, zo_rV, Int.add_zero, Int.zero_add, Int.mul_zero, Int.zero_mul, Int.one_mul, Int.mul_one, if_true, if_false, not_true_eq_false, not_false_eq_true]
        refine zz_Ei (fun h => absurd h (by omega)) (fun _ => ?_)
        refine zz_Ei (fun _ => stay (by omega)) (fun h => absurd hneg h)
      · have hxA := (hA.2.2.2.2.2.2.2.1 (zz_cd A c (s - c * 4)) (by omega) (by omega)).1
        have hxJ := (hR'.2.2.1 (zz_cd A c (s - c * 4)) (by omega) (by omega)).1
        simp (maxSteps := 5000000) (disch := first | assumption | omega) only [hcd, hxJ, hlJ, zg_L_0, zp_L_0, zg_L_1, zp_L_1, zg_L_2, zp_L_2, zg_L_3, zp_L_3, zg_L_4, zp_L_4, zg_L_5, zp_L_5, zg_L_6, zp_L_6, zg_L_7, zp_L_7, zi_L, zr_L_8, za_L_1, zs_L_1, zr_L_9, za_L_2, zs_L_2, zr_L_10, za_L_3, zs_L_3, zr_L_11, za_L_4, zs_L_4, zr_L_12, za_L_5, zs_L_5, zr_L_13, za_L_6, zs_L_6, zr_L_14, za_L_7, zs_L_7, zr_L_15, za_L_8, zs_L_8, zr_L_16, za_L_9, zs_L_9, zr_L_17, za_L_10, zs_L_10, zr_L_18, za_L_11, zs_L_11, zr_L_19, za_L_12, zs_L_12, zz_0, zz_31, zz_add, zz_sub, zz_mul, zz_neg, zz_lt, zz_le, zz_eq, zz_div, zz_md, zz_dv, zz_abs, zz_max, zz_min, zz_nI, zz_be0, zz_be1, zz_zb, zz_z, zz_l0, zz_l, zz_lcmp, zo_rf, zo_nl, zo_nn, zo_rI, zo_rL, zo_rR, zo_rV, Int.add_zero, Int.zero_add, Int.mul_zero, Int.zero_mul, Int.one_mul, Int.mul_one, if_true, if_false, not_true_eq_false, not_false_eq_true]
        refine zz_Ei (fun h => absurd h (by omega)) (fun _ => ?_)
        refine zz_Ei (fun h => absurd h hneg) (fun _ => ?_)
        refine zz_Ei (fun h => stay (by omega)) (fun h => ?_)
        exact kk _ ⟨by omega, by rw [hl1]; unfold zz_lw; rw [if_pos (by omega)]⟩
    · rintro low ⟨_, rfl⟩
      rw [show c * 4 + 4 - c * 4 = 4 by omega]
      have e4 : zz_nx A c = zz_ln A c (4 : Int).toNat := rfl
      have hnx := (zz_nx_r h0 c0 c1).1
      rw [← e4]
      refine zz_Es (fun n => e_46_30 _ _ _ _ _ _) ?_
      simp (maxSteps := 5000000) (disch := first | assumption | omega) only [zg_L_0, zp_L_0, zg_L_1, zp_L_1, zg_L_2, zp_L_2, zg_L_3, zp_L_3, zg_L_4, zp_L_4, zg_L_5, zp_L_5, zg_L_6, zp_L_6, zg_L_7, zp_L_7, zi_L, zr_L_8, za_L_1, zs_L_1, zr_L_9, za_L_2, zs_L_2, zr_L_10, za_L_3, zs_L_3, zr_L_11, za_L_4, zs_L_4, zr_L_12, za_L_5, zs_L_5, zr_L_13, za_L_6, zs_L_6, zr_L_14, za_L_7, zs_L_7, zr_L_15, za_L_8, zs_L_8, zr_L_16, za_L_9, zs_L_9, zr_L_17, za_L_10, zs_L_10, zr_L_18, za_L_11, zs_L_11, zr_L_19, za_L_12, zs_L_12, zz_0, zz_31, zz_add, zz_sub, zz_mul, zz_neg, zz_lt, zz_le, zz_eq, zz_div, zz_md, zz_dv, zz_abs, zz_max, zz_min, zz_nI, zz_be0, zz_be1, zz_zb, zz_z, zz_l0, zz_l, zz_lcmp, zo_rf, zo_nl, zo_nn, zo_rI, zo_rL, zo_rR, zo_rV, Int.add_zero, Int.zero_add, Int.mul_zero, Int.zero_mul, Int.one_mul, Int.mul_one, if_true, if_false, not_true_eq_false, not_false_eq_true]
      refine zz_Ei (fun _ => ?_) (fun h => absurd (Int.le_refl _) h)
      refine zz_Ei (fun h => zz_Er (q1 h)) (fun h => q2 h)
  intro m
  induction m with
  | zero =>
    intro c k O k0 km c0 c1 hH
    refine step c k O _ k0 (by omega) c0 c1 (fun h => ⟨_, rfl, fun i hi => zf_n (by omega), fun j hj => ?_⟩) (fun h => ?_)
    · have hj : j < 1 := hj
      obtain rfl : j = 0 := by omega
      show zz_f O k c (k + 0) = c
      rw [Int.add_zero, zf_s]
    · have h1 := zz_nx_r h0 c0 c1
      have := (hA.2.2.2.2.2.2.2.1 _ h1.1.1 h1.1.2).1
      omega
  | succ m ih =>
    intro c k O k0 km c0 c1 hH
    have hN := zz_nx_r h0 c0 c1
    unfold zz_wy
    refine step c k O _ k0 (by omega) c0 c1 (fun h => ?_) (fun h => ?_)
    · rw [if_pos h]
      refine ⟨_, rfl, fun i hi => zf_n (by omega), fun j hj => ?_⟩
      have hj : j < 1 := hj
      obtain rfl : j = 0 := by omega
      show zz_f O k c (k + 0) = c
      rw [Int.add_zero, zf_s]
    · rw [if_neg h]
      refine zz_Em (ih (zz_nx A c) (k + 1) (zz_f O k c) (by omega) (by omega) hN.1.1 hN.1.2 (by omega)) ?_
      rintro r ⟨O', hr, g1, g2⟩
      refine ⟨O', ?_, fun i hi => by rw [g1 i (by omega), zf_n (by omega)], fun j hj => ?_⟩
      · rw [hr]
        have : k + 1 + ((zz_wy A m (zz_nx A c)).length : Int) = k + ((c :: zz_wy A m (zz_nx A c)).length : Int) := by
          rw [List.length_cons]
          omega
        rw [this]
      · rcases j with _ | j
        · show O' (k + ((0 : Nat) : Int)) = c
          rw [g1 _ (by omega)]
          rw [show k + ((0 : Nat) : Int) = k by omega, zf_s]
        · have hj : j + 1 < (zz_wy A m (zz_nx A c)).length + 1 := hj
          have := g2 j (by omega)
          rw [show k + ((j + 1 : Nat) : Int) = k + 1 + (j : Int) by omega, this]
          rfl
theorem zz_way_len (hA : zz_ok Y A) : 1 ≤ (zz_way A).length ∧ (zz_way A).length ≤ 10 := by
  have key : ∀ (m : Nat) c, 1 ≤ (zz_wy A m c).length ∧ (zz_wy A m c).length ≤ m + 1 := by
    intro m
    induction m with
    | zero => intro c; exact ⟨Nat.le_refl _, Nat.le_refl _⟩
    | succ m ih =>
      intro c
      unfold zz_wy
      split
      · exact ⟨Nat.le_refl _, by show 1 ≤ m + 1 + 1; omega⟩
      · have := ih (zz_nx A c)
        rw [List.length_cons]
        omega
  exact key 9 (A 5)
theorem c_46 (hd : 2 ≤ d) (hL : ZL T R) (hp : Lnd p) (hA : zz_ok Y A) (hR : zc_rep T R J p A) : ∃ O, mv_cax d 46 [.inr (.inr (some p))] (zz_S T J R G) = some (some (.inl (mv_c ((zz_way A).length : Int))), zz_S T (zz_w J (p + 12) O) R G) ∧ ∀ j : Nat, j < (zz_way A).length → O j = (zz_way A).getD j 0 := by
  have h5 := hA.2.2.2.2.1
  have h8 := (hA.2.2.2.2.2.2.2.1 _ h5.1 h5.2).1
  suffices h : ∃ r, mv_cax d 46 [.inr (.inr (some p))] (zz_S T J R G) = some r ∧ ∃ O, r = (some (.inl (mv_c ((zz_way A).length : Int))), zz_S T (zz_w J (p + 12) O) R G) ∧ ∀ j : Nat, j < (zz_way A).length → O j = (zz_way A).getD j 0 by
    obtain ⟨r, h1, O, rfl, h2⟩ := h
    exact ⟨O, h1, h2⟩
  refine zz_call (by omega) t_46 rfl (fun n => e_46 _ _) ?_
  have e3 := hR.2.1.1
  simp (maxSteps := 5000000) (disch := first | assumption | omega) only [e3, zg_L_0, zp_L_0, zg_L_1, zp_L_1, zg_L_2, zp_L_2, zg_L_3, zp_L_3, zg_L_4, zp_L_4, zg_L_5, zp_L_5, zg_L_6, zp_L_6, zg_L_7, zp_L_7, zi_L, zr_L_8, za_L_1, zs_L_1, zr_L_9, za_L_2, zs_L_2, zr_L_10, za_L_3, zs_L_3, zr_L_11, za_L_4, zs_L_4, zr_L_12, za_L_5, zs_L_5, zr_L_13, za_L_6, zs_L_6, zr_L_14, za_L_7, zs_L_7, zr_L_15, za_L_8, zs_L_8, zr_L_16, za_L_9, zs_L_9, zr_L_17, za_L_10, zs_L_10, zr_L_18, za_L_11, zs_L_11, zr_L_19, za_L_12, zs_L_12, zz_0, zz_31, zz_add, zz_sub, zz_mul, zz_neg, zz_lt, zz_le, zz_eq, zz_div, zz_md, zz_dv, zz_abs, zz_max, zz_min, zz_nI, zz_be0, zz_be1, zz_zb, zz_z, zz_l0, zz_l, zz_lcmp, zo_rf, zo_nl, zo_nn, zo_rI, zo_rL, zo_rR, zo_rV, Int.add_zero, Int.zero_add, Int.mul_zero, Int.zero_mul, Int.one_mul, Int.mul_one, if_true, if_false, not_true_eq_false, not_false_eq_true]
  have l := c_46l (G := G) (d := d - 1) (by omega) hL hp hA hR 9 (A 5) 0 (J (p + 12)) (by omega) (by omega) h5.1 h5.2 (by omega)
  rw [zw_i] at l
  refine zz_Em l ?_
  rintro r ⟨O, hr, g1, g2⟩
  refine ⟨O, ?_, fun j hj => ?_⟩
  · rw [hr, Int.zero_add]
    rfl
  · have := g2 j hj
    rw [Int.zero_add] at this
    exact this
theorem c_50 {c : Int} (hd : 1 ≤ d) (hL : ZL T R) (hp : Lnd p) (hA : zz_ok Y A) (hR : zc_rep T R J p A) (h1 : 0 ≤ c) (h2 : c < A 0 * A 1) : mv_cax d 50 [.inr (.inr (some p)), .inl (mv_c c)] (zz_S T J R G) = some (some (.inl (mv_c (zz_b (c / A 1 = 0 ∨ c % A 1 = 0 ∨ c / A 1 = A 0 - 1 ∨ c % A 1 = A 1 - 1)))), (zz_S T J R G)) := by
  have hn := hA.n
  have hz := zz_rim hA.1 h1 h2
  have hc := (hR.1.2.1 c h1 h2).2
  have c0 := hc 0 (by omega) (by omega)
  have c1 := hc 1 (by omega) (by omega)
  have c2 := hc 2 (by omega) (by omega)
  have c3 := hc 3 (by omega) (by omega)
  rw [Int.add_zero] at c0
  have r0 := zz_cd_r (c := c) (i := 0) hA.1
  have r1 := zz_cd_r (c := c) (i := 1) hA.1
  have r2 := zz_cd_r (c := c) (i := 2) hA.1
  have r3 := zz_cd_r (c := c) (i := 3) hA.1
  refine zz_c (zz_call (by omega) t_50 rfl (fun n => e_50 _ _ _) ?_)
  simp (maxSteps := 5000000) (disch := first | assumption | omega) only [c0, c1, c2, c3, zg_L_0, zp_L_0, zg_L_1, zp_L_1, zg_L_2, zp_L_2, zg_L_3, zp_L_3, zg_L_4, zp_L_4, zg_L_5, zp_L_5, zg_L_6, zp_L_6, zg_L_7, zp_L_7, zi_L, zr_L_8, za_L_1, zs_L_1, zr_L_9, za_L_2, zs_L_2, zr_L_10, za_L_3, zs_L_3, zr_L_11, za_L_4, zs_L_4, zr_L_12, za_L_5, zs_L_5, zr_L_13, za_L_6, zs_L_6, zr_L_14, za_L_7, zs_L_7, zr_L_15, za_L_8, zs_L_8, zr_L_16, za_L_9, zs_L_9, zr_L_17, za_L_10, zs_L_10, zr_L_18, za_L_11, zs_L_11, zr_L_19, za_L_12, zs_L_12, zz_0, zz_31, zz_add, zz_sub, zz_mul, zz_neg, zz_lt, zz_le, zz_eq, zz_div, zz_md, zz_dv, zz_abs, zz_max, zz_min, zz_nI, zz_be0, zz_be1, zz_zb, zz_z, zz_l0, zz_l, zz_lcmp, zo_rf, zo_nl, zo_nn, zo_rI, zo_rL, zo_rR, zo_rV, Int.add_zero, Int.zero_add, Int.mul_zero, Int.zero_mul, Int.one_mul, Int.mul_one, if_true, if_false, not_true_eq_false, not_false_eq_true]
  refine zz_Ei (fun h => zz_Er (by rw [zz_b_t (Or.inl (hz.1.mp h))])) (fun g0 => ?_)
  refine zz_Ei (fun h => zz_Er (by rw [zz_b_t (Or.inr (Or.inr (Or.inr (hz.2.1.mp h))))])) (fun g1 => ?_)
  refine zz_Ei (fun h => zz_Er (by rw [zz_b_t (Or.inr (Or.inr (Or.inl (hz.2.2.1.mp h))))])) (fun g2 => ?_)
  refine zz_Ei (fun h => zz_Er (by rw [zz_b_f]; intro q; rcases q with q | q | q | q; exact g0 (hz.1.mpr q); exact absurd (hz.2.2.2.mpr q) (by omega); exact g2 (hz.2.2.1.mpr q); exact g1 (hz.2.1.mpr q))) (fun g3 => zz_Er (by rw [zz_b_t (Or.inr (Or.inl (hz.2.2.2.mp (by omega))))]))
theorem c_47 {O : Int → Int} (hd : 1 ≤ d) (hL : ZL T R) (hp : Lnd p) (hA : zz_ok Y A) (hO : ∀ j : Nat, j < (zz_way A).length → O j = (zz_way A).getD j 0) : mv_cax d 47 [.inr (.inr (some p)), .inl (mv_c ((zz_way A).length : Int))] (zz_S T (zz_w J (p + 12) O) R G) = some (some (.inl (mv_c (zz_stn A))), zz_S T (zz_w J (p + 12) O) R G) := by
  have hlen := zz_way_len hA
  have hO' := hO ((zz_way A).length - 1) (by omega)
  have e1 : (((zz_way A).length - 1 : Nat) : Int) = ((zz_way A).length : Int) - 1 := by omega
  rw [e1, ← zz_la_get (zz_way A) 0 (by intro q; rw [q] at hlen; exact absurd hlen.1 (by decide))] at hO'
  refine zz_c (zz_call (by omega) t_47 rfl (fun n => e_47 _ _ _) ?_)
  simp (maxSteps := 5000000) (disch := first | assumption | omega) only [zw_s, hO', zg_L_0, zp_L_0, zg_L_1, zp_L_1, zg_L_2, zp_L_2, zg_L_3, zp_L_3, zg_L_4, zp_L_4, zg_L_5, zp_L_5, zg_L_6, zp_L_6, zg_L_7, zp_L_7, zi_L, zr_L_8, za_L_1, zs_L_1, zr_L_9, za_L_2, zs_L_2, zr_L_10, za_L_3, zs_L_3, zr_L_11, za_L_4, zs_L_4, zr_L_12, za_L_5, zs_L_5, zr_L_13, za_L_6, zs_L_6, zr_L_14, za_L_7, zs_L_7, zr_L_15, za_L_8, zs_L_8, zr_L_16, za_L_9, zs_L_9, zr_L_17, za_L_10, zs_L_10, zr_L_18, za_L_11, zs_L_11, zr_L_19, za_L_12, zs_L_12, zz_0, zz_31, zz_add, zz_sub, zz_mul, zz_neg, zz_lt, zz_le, zz_eq, zz_div, zz_md, zz_dv, zz_abs, zz_max, zz_min, zz_nI, zz_be0, zz_be1, zz_zb, zz_z, zz_l0, zz_l, zz_lcmp, zo_rf, zo_nl, zo_nn, zo_rI, zo_rL, zo_rR, zo_rV, Int.add_zero, Int.zero_add, Int.mul_zero, Int.zero_mul, Int.one_mul, Int.mul_one, if_true, if_false, not_true_eq_false, not_false_eq_true]
  refine zz_Ei (fun h => absurd h (by omega)) (fun _ => ?_)
  refine zz_Ei (fun h => absurd h (by omega)) (fun _ => ?_)
  exact zz_Er rfl
theorem c_49 (hd : 3 ≤ d) (hL : ZL T R) (hp : Lnd p) (hA : zz_ok Y A) (hR : zc_rep T R J p A) : ∃ O, mv_cax d 49 [.inr (.inr (some p))] (zz_S T J R G) = some (some (.inl (mv_c (zz_b (zz_ls A)))), zz_S T (zz_w J (p + 12) O) R G) := by
  obtain ⟨O, h1, h2⟩ := c_46 (G := G) (d := d - 1) (by omega) hL hp hA hR
  have hs := zz_stn_r hA
  have e47 := c_47 (T := T) (J := J) (R := R) (G := G) (d := d - 1) (by omega) hL hp hA h2
  have e50 := c_50 (T := T) (J := zz_w J (p + 12) O) (R := R) (G := G) (d := d - 1) (by omega) hL hp hA (zc_rep_w hp hR) hs.1 hs.2
  refine ⟨O, ?_⟩
  refine zz_c (zz_call (by omega) t_49 rfl (fun n => e_49 _ _) ?_)
  simp (maxSteps := 5000000) (disch := first | assumption | omega) only [h1, e47, e50, zg_L_0, zp_L_0, zg_L_1, zp_L_1, zg_L_2, zp_L_2, zg_L_3, zp_L_3, zg_L_4, zp_L_4, zg_L_5, zp_L_5, zg_L_6, zp_L_6, zg_L_7, zp_L_7, zi_L, zr_L_8, za_L_1, zs_L_1, zr_L_9, za_L_2, zs_L_2, zr_L_10, za_L_3, zs_L_3, zr_L_11, za_L_4, zs_L_4, zr_L_12, za_L_5, zs_L_5, zr_L_13, za_L_6, zs_L_6, zr_L_14, za_L_7, zs_L_7, zr_L_15, za_L_8, zs_L_8, zr_L_16, za_L_9, zs_L_9, zr_L_17, za_L_10, zs_L_10, zr_L_18, za_L_11, zs_L_11, zr_L_19, za_L_12, zs_L_12, zz_0, zz_31, zz_add, zz_sub, zz_mul, zz_neg, zz_lt, zz_le, zz_eq, zz_div, zz_md, zz_dv, zz_abs, zz_max, zz_min, zz_nI, zz_be0, zz_be1, zz_zb, zz_z, zz_l0, zz_l, zz_lcmp, zo_rf, zo_nl, zo_nn, zo_rI, zo_rL, zo_rR, zo_rV, Int.add_zero, Int.zero_add, Int.mul_zero, Int.zero_mul, Int.one_mul, Int.mul_one, if_true, if_false, not_true_eq_false, not_false_eq_true]
  exact zz_Er rfl
theorem c_48 {c : Int} (hd : 3 ≤ d) (hL : ZL T R) (hp : Lnd p) (hA : zz_ok Y A) (hR : zc_rep T R J p A) (hc1 : 0 ≤ c) (hc2 : c < A 0 * A 1) : ∃ O, mv_cax d 48 [.inr (.inr (some p)), .inl (mv_c c)] (zz_S T J R G) = some (some (.inl (mv_c (zz_b (c ∈ zz_way A)))), zz_S T (zz_w J (p + 12) O) R G) := by
  have hn := hA.n
  obtain ⟨O, h1, h2⟩ := c_46 (G := G) (d := d - 1) (by omega) hL hp hA hR
  have hlen := zz_way_len hA
  have hmem : ∀ j : Nat, j < (zz_way A).length → (zz_way A).getD j 0 ∈ zz_way A := fun j hj => by
    rw [List.getD_eq_getElem?_getD, List.getElem?_eq_getElem hj]
    exact List.getElem_mem hj
  refine ⟨O, ?_⟩
  refine zz_c (zz_call (by omega) t_48 rfl (fun n => e_48 _ _ _) ?_)
  simp (maxSteps := 5000000) (disch := first | assumption | omega) only [h1, zg_L_0, zp_L_0, zg_L_1, zp_L_1, zg_L_2, zp_L_2, zg_L_3, zp_L_3, zg_L_4, zp_L_4, zg_L_5, zp_L_5, zg_L_6, zp_L_6, zg_L_7, zp_L_7, zi_L, zr_L_8, za_L_1, zs_L_1, zr_L_9, za_L_2, zs_L_2, zr_L_10, za_L_3, zs_L_3, zr_L_11, za_L_4, zs_L_4, zr_L_12, za_L_5, zs_L_5, zr_L_13, za_L_6, zs_L_6, zr_L_14, za_L_7, zs_L_7, zr_L_15, za_L_8, zs_L_8, zr_L_16, za_L_9, zs_L_9, zr_L_17, za_L_10, zs_L_10, zr_L_18, za_L_11, zs_L_11, zr_L_19, za_L_12, zs_L_12, zz_0, zz_31, zz_add, zz_sub, zz_mul, zz_neg, zz_lt, zz_le, zz_eq, zz_div, zz_md, zz_dv, zz_abs, zz_max, zz_min, zz_nI, zz_be0, zz_be1, zz_zb, zz_z, zz_l0, zz_l, zz_lcmp, zo_rf, zo_nl, zo_nn, zo_rI, zo_rL, zo_rR, zo_rV, Int.add_zero, Int.zero_add, Int.mul_zero, Int.zero_mul, Int.one_mul, Int.mul_one, if_true, if_false, not_true_eq_false, not_false_eq_true]
  refine zz_loop (α := Unit) (run := fun i _ n => mv_run (mv_cax (d - 1)) mm_48 n 7 [(0, .inr (.inr (some p))), (1, .inl (mv_c c)), (2, .inl (mv_c ((zz_way A).length : Int))), (3, .inl (mv_c i))] [] (zz_S T (zz_w J (p + 12) O) R G)) ((zz_way A).length : Int) (fun i _ => 0 ≤ i ∧ ∀ j : Nat, (j : Int) < i → (zz_way A).getD j 0 ≠ c) ?_ ?_ (zz_way A).length 0 () (by omega) ⟨by omega, fun j hj => by omega⟩
  · rintro i _ ⟨hi, hq⟩ hlt kk
    obtain ⟨j, rfl⟩ := Int.eq_ofNat_of_zero_le hi
    have hj : j < (zz_way A).length := by omega
    have hOj := h2 j hj
    have hr := (zz_wy_m hA.1 9 (A 5) hA.2.2.2.2.1.1 hA.2.2.2.2.1.2 _ (hmem j hj)).1
    refine zz_Es (fun n => e_48_7 _ _ _ _ _) ?_
    simp (maxSteps := 5000000) (disch := first | assumption | omega) only [zw_s, hOj, zg_L_0, zp_L_0, zg_L_1, zp_L_1, zg_L_2, zp_L_2, zg_L_3, zp_L_3, zg_L_4, zp_L_4, zg_L_5, zp_L_5, zg_L_6, zp_L_6, zg_L_7, zp_L_7, zi_L, zr_L_8, za_L_1, zs_L_1, zr_L_9, za_L_2, zs_L_2, zr_L_10, za_L_3, zs_L_3, zr_L_11, za_L_4, zs_L_4, zr_L_12, za_L_5, zs_L_5, zr_L_13, za_L_6, zs_L_6, zr_L_14, za_L_7, zs_L_7, zr_L_15, za_L_8, zs_L_8, zr_L_16, za_L_9, zs_L_9, zr_L_17, za_L_10, zs_L_10, zr_L_18, za_L_11, zs_L_11, zr_L_19, za_L_12, zs_L_12, zz_0, zz_31, zz_add, zz_sub, zz_mul, zz_neg, zz_lt, zz_le, zz_eq, zz_div, zz_md, zz_dv, zz_abs, zz_max, zz_min, zz_nI, zz_be0, zz_be1, zz_zb, zz_z, zz_l0, zz_l, zz_lcmp, zo_rf, zo_nl, zo_nn, zo_rI, zo_rL, zo_rR, zo_rV, Int.add_zero, Int.zero_add, Int.mul_zero, Int.zero_mul, Int.one_mul, Int.mul_one, if_true, if_false, not_true_eq_false, not_false_eq_true]
    refine zz_Ei (fun h => absurd h (by omega)) (fun _ => ?_)
    refine zz_Ei (fun h => zz_Er (by rw [zz_b_t (by rw [← h]; exact hmem j hj)])) (fun h => ?_)
    refine kk () ⟨by omega, fun j' hj' => ?_⟩
    by_cases e : j' = j
    · rw [e]; exact h
    · exact hq j' (by omega)
  · rintro _ ⟨_, hq⟩
    refine zz_Es (fun n => e_48_7 _ _ _ _ _) ?_
    simp (maxSteps := 5000000) (disch := first | assumption | omega) only [zg_L_0, zp_L_0, zg_L_1, zp_L_1, zg_L_2, zp_L_2, zg_L_3, zp_L_3, zg_L_4, zp_L_4, zg_L_5, zp_L_5, zg_L_6, zp_L_6, zg_L_7, zp_L_7, zi_L, zr_L_8, za_L_1, zs_L_1, zr_L_9, za_L_2, zs_L_2, zr_L_10, za_L_3, zs_L_3, zr_L_11, za_L_4, zs_L_4, zr_L_12, za_L_5, zs_L_5, zr_L_13, za_L_6, zs_L_6, zr_L_14, za_L_7, zs_L_7, zr_L_15, za_L_8, zs_L_8, zr_L_16, za_L_9, zs_L_9, zr_L_17, za_L_10, zs_L_10, zr_L_18, za_L_11, zs_L_11, zr_L_19, za_L_12, zs_L_12, zz_0, zz_31, zz_add, zz_sub, zz_mul, zz_neg, zz_lt, zz_le, zz_eq, zz_div, zz_md, zz_dv, zz_abs, zz_max, zz_min, zz_nI, zz_be0, zz_be1, zz_zb, zz_z, zz_l0, zz_l, zz_lcmp, zo_rf, zo_nl, zo_nn, zo_rI, zo_rL, zo_rR, zo_rV, Int.add_zero, Int.zero_add, Int.mul_zero, Int.zero_mul, Int.one_mul, Int.mul_one, if_true, if_false, not_true_eq_false, not_false_eq_true]
    refine zz_Ei (fun _ => zz_Er ?_) (fun h => absurd (Int.le_refl _) h)
    rw [zz_b_f]
    intro hm
    obtain ⟨j, hj, e⟩ := List.mem_iff_getElem.mp hm
    refine hq j (by omega) ?_
    rw [List.getD_eq_getElem?_getD, List.getElem?_eq_getElem hj]
    exact e
end ZLN2
