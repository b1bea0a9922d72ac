/-! PURE LAYER, 64: what the class's drawers draw -/
theorem zk_cp0 {J : Nat → Int → Int} {a b : Nat} {n : Int} : zz_cp J a 0 b 0 n = zz_w J b (fun y => if 0 ≤ y ∧ y < n then J a y else J b y) := by
  funext x y
  unfold zz_cp zz_w
  by_cases h : x = b
  · rw [if_pos h]
    by_cases h' : 0 ≤ y ∧ y < n
    · rw [if_pos ⟨h, h'.1, by omega⟩, if_pos h', show 0 + (y - 0) = y by omega]
    · rw [if_neg (fun q => h' ⟨q.2.1, by omega⟩), if_neg h', h]
  · rw [if_neg h, if_neg (fun q => h q.1)]
theorem zz_wa_h {A A' g : Int → Int} (h7 : A' 7 = A 7) (hn : 0 ≤ A 7) (h : ∀ y, 40 ≤ y → A' y = A y) : zz_wa A' g = zz_wa A g := by
  unfold zz_wa
  rw [h7]
  exact zz_sum_c hn (fun d d0 d1 => zz_wo_h d0 h)
section ZSKT
variable {T : List mv_T} {J : Nat → Int → Int} {R : Nat → Nat → Option Nat} {G : Nat → Nat → Int64} {d p g : Nat} {Y : Int} {A : Int → Int}
theorem c_2 {f t : Int} (hd : 1 ≤ d) (hL : ZL T R) (hn : A 0 * A 1 ≤ 16) (hg : T[g]? = some (.inr (0, 16))) (g1 : 105 ≤ g) (hf : J 73 4 = f) (ht : J 73 5 = t) (hr : (f = -1 ∧ t = -1) ∨ (0 ≤ f ∧ f < A 0 * A 1 ∧ 0 ≤ t ∧ t < A 0 * A 1)) (hne : 0 ≤ f → f ≠ t) :
    ∃ O, mv_cax d 2 [.inr (.inr (some 73)), .inr (.inr (some g))] (zz_S T J R G) = some (none, zz_S T (zz_w J g O) R G) ∧ ∀ c, 0 ≤ c → c < A 0 * A 1 → O c = J g c + zz_dl f t c := by
  rcases hr with ⟨rfl, rfl⟩ | ⟨f0, f1, t0, t1⟩
  · refine ⟨J g, ?_, fun c c0 c1 => ?_⟩
    · rw [zw_i]
      refine zz_c (zz_call (by omega) t_2 rfl (fun n => e_2 _ _ _) ?_)
      simp (maxSteps := 5000000) (disch := first | assumption | omega) only [hf, ht, zr_73_0, zr_73_1, zr_73_2, zr_73_3, zg_73_4, zp_73_4, zg_73_5, zp_73_5, zi_73, za_74, zs_74, zl_74, za_75, zs_75, zl_75, za_76, zs_76, zl_76, za_77, zs_77, zl_77, zg_L_0, zp_L_0, zg_L_1, zp_L_1, zg_L_2, zp_L_2, zg_L_3, zp_L_3, zg_L_4, zp_L_4, zg_L_5, zp_L_5, zg_L_6, zp_L_6, zg_L_7, zp_L_7, zi_L, zr_L_8, za_L_1, zs_L_1, zr_L_9, za_L_2, zs_L_2, zr_L_10, za_L_3, zs_L_3, zr_L_11, za_L_4, zs_L_4, zr_L_12, za_L_5, zs_L_5, zr_L_13, za_L_6, zs_L_6, zr_L_14, za_L_7, zs_L_7, zr_L_15, za_L_8, zs_L_8, zr_L_16, za_L_9, zs_L_9, zr_L_17, za_L_10, zs_L_10, zr_L_18, za_L_11, zs_L_11, zr_L_19, za_L_12, zs_L_12, zz_0, zz_31, zz_add, zz_sub, zz_mul, zz_neg, zz_lt, zz_le, zz_eq, zz_div, zz_md, zz_dv, zz_abs, zz_max, zz_min, zz_nI, zz_be0, zz_be1, zz_zb, zz_z, zz_l0, zz_l, zz_lcmp, zo_rf, zo_nl, zo_nn, zo_rI, zo_rL, zo_rR, zo_rV, Int.add_zero, Int.zero_add, Int.mul_zero, Int.zero_mul, Int.one_mul, Int.mul_one, if_true, if_false, not_true_eq_false, not_false_eq_true]
      refine zz_Ei (fun _ => zz_Er rfl) (fun h => absurd (by omega) h)
    · unfold zz_dl
      rw [if_neg (by omega), Int.add_zero]
  · have hne' := hne f0
    refine ⟨zz_f (zz_f (J g) f (J g f - 1)) t (J g t + 1), ?_, fun c c0 c1 => ?_⟩
    · refine zz_c (zz_call (by omega) t_2 rfl (fun n => e_2 _ _ _) ?_)
      simp (maxSteps := 5000000) (disch := first | assumption | omega) only [hf, ht, zz_aI hg, zz_sI (by omega : 16 ≤ g) hg, zz_uw, zw_s, zw_w, zw_n, zf_n, zr_73_0, zr_73_1, zr_73_2, zr_73_3, zg_73_4, zp_73_4, zg_73_5, zp_73_5, zi_73, za_74, zs_74, zl_74, za_75, zs_75, zl_75, za_76, zs_76, zl_76, za_77, zs_77, zl_77, zg_L_0, zp_L_0, zg_L_1, zp_L_1, zg_L_2, zp_L_2, zg_L_3, zp_L_3, zg_L_4, zp_L_4, zg_L_5, zp_L_5, zg_L_6, zp_L_6, zg_L_7, zp_L_7, zi_L, zr_L_8, za_L_1, zs_L_1, zr_L_9, za_L_2, zs_L_2, zr_L_10, za_L_3, zs_L_3, zr_L_11, za_L_4, zs_L_4, zr_L_12, za_L_5, zs_L_5, zr_L_13, za_L_6, zs_L_6, zr_L_14, za_L_7, zs_L_7, zr_L_15, za_L_8, zs_L_8, zr_L_16, za_L_9, zs_L_9, zr_L_17, za_L_10, zs_L_10, zr_L_18, za_L_11, zs_L_11, zr_L_19, za_L_12, zs_L_12, zz_0, zz_31, zz_add, zz_sub, zz_mul, zz_neg, zz_lt, zz_le, zz_eq, zz_div, zz_md, zz_dv, zz_abs, zz_max, zz_min, zz_nI, zz_be0, zz_be1, zz_zb, zz_z, zz_l0, zz_l, zz_lcmp, zo_rf, zo_nl, zo_nn, zo_rI, zo_rL, zo_rR, zo_rV, Int.add_zero, Int.zero_add, Int.mul_zero, Int.zero_mul, Int.one_mul, Int.mul_one, if_true, if_false, not_true_eq_false, not_false_eq_true]
      refine zz_Ei (fun h => absurd h (by omega)) (fun _ => ?_)
      refine zz_Ei (fun h => absurd h (by omega)) (fun _ => ?_)
      exact zz_Er rfl
    · unfold zz_dl
      rw [if_pos f0]
      by_cases q : c = t
      · rw [q, zf_s, if_neg (fun h => hne' h.symm), if_pos rfl]
      · rw [zf_n q]
        by_cases q' : c = f
        · rw [q', zf_s, if_pos rfl]
          omega
        · rw [zf_n q', if_neg q', if_neg q, Int.add_zero]
theorem c_3 (hd : 2 ≤ d) (hL : ZL T R) (hp : Lnd p) (hA : zz_ok Y A) (hR : zc_rep T R J p A) (hg : T[g]? = some (.inr (0, 16))) (g1 : 105 ≤ g) (g2 : g < 156) :
    ∃ O, mv_cax d 3 [.inr (.inr (some p)), .inr (.inr (some g))] (zz_S T J R G) = some (none, zz_S T (zz_w J g O) R G) ∧ ∀ c, 0 ≤ c → c < A 0 * A 1 → O c = zz_tw A c := by
  have hn := hA.n
  have hpl : p + 12 < 73 := by rcases hp with rfl | rfl | rfl | rfl <;> omega
  have hR' : ∀ O, zc_rep T R (zz_w J g O) p A := fun O => zc_rep_f hR (fun x hx => zw_n (by omega))
  suffices h : ∃ r, mv_cax d 3 [.inr (.inr (some p)), .inr (.inr (some g))] (zz_S T J R G) = some r ∧ ∃ O, r = (none, zz_S T (zz_w J g O) R G) ∧ ∀ c, 0 ≤ c → c < A 0 * A 1 → O c = zz_tw A c by
    obtain ⟨r, h1, O, rfl, h2⟩ := h
    exact ⟨O, h1, h2⟩
  refine zz_call (by omega) t_3 rfl (fun n => e_3 _ _ _) ?_
  have l := zz_loop (α := Int → Int) (run := fun c O n => mv_run (mv_cax (d - 1)) mm_3 n 2 [(0, .inr (.inr (some p))), (1, .inr (.inr (some g))), (2, .inl (mv_c c))] [] (zz_S T (zz_w J g O) R G)) (Q := fun r => ∃ O, r = (none, zz_S T (zz_w J g O) R G) ∧ ∀ c, 0 ≤ c → c < A 0 * A 1 → O c = zz_tw A c) (A 0 * A 1) (fun c O => 0 ≤ c ∧ ∀ i, 0 ≤ i → i < c → O i = zz_tw A i) ?_ ?_ (A 0 * A 1).toNat 0 (J g) (by omega) ⟨by omega, fun i _ _ => by omega⟩
  · rw [zw_i] at l
    exact l
  · rintro c O ⟨hc, hO⟩ hlt kk
    have e2 := (hR' O).1.1.2.2
    have c38 := c_38 (T := T) (J := zz_w J g O) (R := R) (G := G) (d := d - 1) (by omega) hL hp hA (hR' O) hc hlt
    refine zz_Es (fun n => e_3_2 _ _ _ _) ?_
    simp (maxSteps := 5000000) (disch := first | assumption | omega) only [e2, c38, zz_sI (by omega : 16 ≤ g) hg, zz_wu, zg_L_0, zp_L_0, zg_L_1, zp_L_1, zg_L_2, zp_L_2, zg_L_3, zp_L_3, zg_L_4, zp_L_4, zg_L_5, zp_L_5, zg_L_6, zp_L_6, zg_L_7, zp_L_7, zi_L, zr_L_8, za_L_1, zs_L_1, zr_L_9, za_L_2, zs_L_2, zr_L_10, za_L_3, zs_L_3, zr_L_11, za_L_4, zs_L_4, zr_L_12, za_L_5, zs_L_5, zr_L_13, za_L_6, zs_L_6, zr_L_14, za_L_7, zs_L_7, zr_L_15, za_L_8, zs_L_8, zr_L_16, za_L_9, zs_L_9, zr_L_17, za_L_10, zs_L_10, zr_L_18, za_L_11, zs_L_11, zr_L_19, za_L_12, zs_L_12, zz_0, zz_31, zz_add, zz_sub, zz_mul, zz_neg, zz_lt, zz_le, zz_eq, zz_div, zz_md, zz_dv, zz_abs, zz_max, zz_min, zz_nI, zz_be0, zz_be1, zz_zb, zz_z, zz_l0, zz_l, zz_lcmp, zo_rf, zo_nl, zo_nn, zo_rI, zo_rL, zo_rR, zo_rV, Int.add_zero, Int.zero_add, Int.mul_zero, Int.zero_mul, Int.one_mul, Int.mul_one, if_true, if_false, not_true_eq_false, not_false_eq_true]
    refine zz_Ei (fun h => absurd h (by omega)) (fun _ => ?_)
    refine kk _ ⟨by omega, fun i i0 i1 => ?_⟩
    by_cases q : i = c
    · rw [q, zf_s]
    · rw [zf_n q]
      exact hO i i0 (by omega)
  · rintro O ⟨_, hO⟩
    have e2 := (hR' O).1.1.2.2
    refine zz_Es (fun n => e_3_2 _ _ _ _) ?_
    simp (maxSteps := 5000000) (disch := first | assumption | omega) only [zo_rf, zg_L_2, e2, zz_le]
    refine zz_Ei (fun _ => ?_) (fun h => absurd (Int.le_refl _) h)
    exact zz_Er ⟨O, rfl, hO⟩
theorem c_4 {k : Int} (hd : 2 ≤ d) (hL : ZL T R) (hp : Lnd p) (hA : zz_ok Y A) (hR : zc_rep T R J p A) (hg : T[g]? = some (.inr (0, 16))) (g1 : 105 ≤ g) (k0 : 0 ≤ k) (k1 : k ≤ 9) (hb : ∀ c, 0 ≤ c → c < A 0 * A 1 → 0 ≤ J g c ∧ J g c ≤ 9) :
    ∃ O, mv_cax d 4 [.inr (.inr (some p)), .inl (mv_c k), .inr (.inr (some g))] (zz_S T J R G) = some (none, zz_S T (zz_w J g O) R G) ∧ ∀ c, 0 ≤ c → c < A 0 * A 1 → O c = J g c - (if c = k ∧ 0 < J g c then 1 else 0) := by
  have hn := hA.n
  have c33 := c_33 (T := T) (J := J) (R := R) (G := G) (d := d - 1) (p := p) (c := k) (by omega) hL hp hA hR (by omega) (by omega)
  by_cases hc : k < A 0 * A 1
  · have hbk := hb k k0 hc
    rw [zz_b_t ⟨k0, hc⟩] at c33
    by_cases hz : J g k ≤ 0
    · refine ⟨J g, ?_, fun c c0 c1 => ?_⟩
      · rw [zw_i]
        refine zz_c (zz_call (by omega) t_4 rfl (fun n => e_4 _ _ _ _) ?_)
        simp (maxSteps := 5000000) (disch := first | assumption | omega) only [c33, zz_aI hg, zg_L_0, zp_L_0, zg_L_1, zp_L_1, zg_L_2, zp_L_2, zg_L_3, zp_L_3, zg_L_4, zp_L_4, zg_L_5, zp_L_5, zg_L_6, zp_L_6, zg_L_7, zp_L_7, zi_L, zr_L_8, za_L_1, zs_L_1, zr_L_9, za_L_2, zs_L_2, zr_L_10, za_L_3, zs_L_3, zr_L_11, za_L_4, zs_L_4, zr_L_12, za_L_5, zs_L_5, zr_L_13, za_L_6, zs_L_6, zr_L_14, za_L_7, zs_L_7, zr_L_15, za_L_8, zs_L_8, zr_L_16, za_L_9, zs_L_9, zr_L_17, za_L_10, zs_L_10, zr_L_18, za_L_11, zs_L_11, zr_L_19, za_L_12, zs_L_12, zz_0, zz_31, zz_add, zz_sub, zz_mul, zz_neg, zz_lt, zz_le, zz_eq, zz_div, zz_md, zz_dv, zz_abs, zz_max, zz_min, zz_nI, zz_be0, zz_be1, zz_zb, zz_z, zz_l0, zz_l, zz_lcmp, zo_rf, zo_nl, zo_nn, zo_rI, zo_rL, zo_rR, zo_rV, Int.add_zero, Int.zero_add, Int.mul_zero, Int.zero_mul, Int.one_mul, Int.mul_one, if_true, if_false, not_true_eq_false, not_false_eq_true]
        try (refine zz_Ei (fun h => absurd (show (1 : Int) = 0 from h) (by omega)) (fun _ => ?_))
        exact zz_Ei (fun _ => zz_Er rfl) (fun h => absurd hz h)
      · rw [if_neg, Int.sub_zero]
        rintro ⟨q, q'⟩
        rw [q] at q'
        omega
    · refine ⟨zz_f (J g) k (J g k - 1), ?_, fun c c0 c1 => ?_⟩
      · refine zz_c (zz_call (by omega) t_4 rfl (fun n => e_4 _ _ _ _) ?_)
        simp (maxSteps := 5000000) (disch := first | assumption | omega) only [c33, zz_aI hg, zz_sI (by omega : 16 ≤ g) hg, zz_uw, zg_L_0, zp_L_0, zg_L_1, zp_L_1, zg_L_2, zp_L_2, zg_L_3, zp_L_3, zg_L_4, zp_L_4, zg_L_5, zp_L_5, zg_L_6, zp_L_6, zg_L_7, zp_L_7, zi_L, zr_L_8, za_L_1, zs_L_1, zr_L_9, za_L_2, zs_L_2, zr_L_10, za_L_3, zs_L_3, zr_L_11, za_L_4, zs_L_4, zr_L_12, za_L_5, zs_L_5, zr_L_13, za_L_6, zs_L_6, zr_L_14, za_L_7, zs_L_7, zr_L_15, za_L_8, zs_L_8, zr_L_16, za_L_9, zs_L_9, zr_L_17, za_L_10, zs_L_10, zr_L_18, za_L_11, zs_L_11, zr_L_19, za_L_12, zs_L_12, zz_0, zz_31, zz_add, zz_sub, zz_mul, zz_neg, zz_lt, zz_le, zz_eq, zz_div, zz_md, zz_dv, zz_abs, zz_max, zz_min, zz_nI, zz_be0, zz_be1, zz_zb, zz_z, zz_l0, zz_l, zz_lcmp, zo_rf, zo_nl, zo_nn, zo_rI, zo_rL, zo_rR, zo_rV, Int.add_zero, Int.zero_add, Int.mul_zero, Int.zero_mul, Int.one_mul, Int.mul_one, if_true, if_false, not_true_eq_false, not_false_eq_true]
        try (refine zz_Ei (fun h => absurd (show (1 : Int) = 0 from h) (by omega)) (fun _ => ?_))
        exact zz_Ei (fun h => absurd h hz) (fun _ => zz_Er rfl)
      · by_cases q : c = k
        · rw [q, zf_s, if_pos ⟨rfl, by omega⟩]
        · rw [zf_n q, if_neg (fun h => q h.1), Int.sub_zero]
  · rw [zz_b_f (fun q => hc q.2)] at c33
    refine ⟨J g, ?_, fun c c0 c1 => ?_⟩
    · rw [zw_i]
      refine zz_c (zz_call (by omega) t_4 rfl (fun n => e_4 _ _ _ _) ?_)
      simp (maxSteps := 5000000) (disch := first | assumption | omega) only [c33, zg_L_0, zp_L_0, zg_L_1, zp_L_1, zg_L_2, zp_L_2, zg_L_3, zp_L_3, zg_L_4, zp_L_4, zg_L_5, zp_L_5, zg_L_6, zp_L_6, zg_L_7, zp_L_7, zi_L, zr_L_8, za_L_1, zs_L_1, zr_L_9, za_L_2, zs_L_2, zr_L_10, za_L_3, zs_L_3, zr_L_11, za_L_4, zs_L_4, zr_L_12, za_L_5, zs_L_5, zr_L_13, za_L_6, zs_L_6, zr_L_14, za_L_7, zs_L_7, zr_L_15, za_L_8, zs_L_8, zr_L_16, za_L_9, zs_L_9, zr_L_17, za_L_10, zs_L_10, zr_L_18, za_L_11, zs_L_11, zr_L_19, za_L_12, zs_L_12, zz_0, zz_31, zz_add, zz_sub, zz_mul, zz_neg, zz_lt, zz_le, zz_eq, zz_div, zz_md, zz_dv, zz_abs, zz_max, zz_min, zz_nI, zz_be0, zz_be1, zz_zb, zz_z, zz_l0, zz_l, zz_lcmp, zo_rf, zo_nl, zo_nn, zo_rI, zo_rL, zo_rR, zo_rV, Int.add_zero, Int.zero_add, Int.mul_zero, Int.zero_mul, Int.one_mul, Int.mul_one, if_true, if_false, not_true_eq_false, not_false_eq_true]
      exact zz_Er rfl
    · rw [if_neg (fun q => by omega), Int.sub_zero]
/-- behind the choice of a haul: it is drawn -/
theorem c_1h {f t e : Int} {J3 : Nat → Int → Int} (hd : 1 ≤ d) (hL : ZL T R) (hp : Lnd p) (hA : zz_ok Y A) (hR : zc_rep T R J3 p A) (hg : T[g]? = some (.inr (0, 16))) (g1 : 105 ≤ g) (g2 : g ≤ 113) (hf : J3 73 4 = f) (ht : J3 73 5 = t) (hr : (f = -1 ∧ t = -1) ∨ (0 ≤ f ∧ f < A 0 * A 1 ∧ 0 ≤ t ∧ t < A 0 * A 1)) (h3 : ∀ c, 0 ≤ c → c < A 0 * A 1 → J3 g c = A (8 + c)) (hfr : ∀ x, (x < 73 ∨ 77 < x) → x ≠ p + 4 → x ≠ p + 12 → x ≠ g → J3 x = J x) (hk : A (40 + 15 * e) ≠ 0 ∧ A (40 + 15 * e) ≠ 5 ∧ A (40 + 15 * e) ≠ 6) (hpk : zz_fdn A e (A (40 + 15 * e)) f t) :
    ∃ J', mv_cax d 2 [.inr (.inr (some 73)), .inr (.inr (some g))] (zz_S T J3 R G) = some (none, zz_S T J' R G) ∧ zc_rep T R J' p A ∧ (∀ x, (x < 73 ∨ 77 < x) → x ≠ p + 4 → x ≠ p + 12 → x ≠ g → J' x = J x) ∧ zz_dr A e (J' g) := by
  have hn := hA.n
  have hpl : p + 12 < 73 := by rcases hp with rfl | rfl | rfl | rfl <;> omega
  obtain ⟨O, h2, hO⟩ := c_2 (T := T) (J := J3) (R := R) (G := G) (d := d) (A := A) (g := g) hd hL hn.2 hg g1 hf ht hr (fun f0 => by
    rcases hpk with ⟨p1, _⟩ | ⟨_, p1, _⟩
    · omega
    · exact p1.1.1)
  refine ⟨_, h2, zc_rep_f hR (fun x hx => zw_n (by omega)), fun x x1 x2 x3 x4 => by rw [zw_n x4]; exact hfr x x1 x2 x3 x4, Or.inr (Or.inr (Or.inr ⟨hk, f, t, hpk, fun c c0 c1 => ?_⟩))⟩
  rw [zw_s, hO c c0 c1, h3 c c0 c1]
theorem c_1 {e : Int} (hd : 8 ≤ d) (hL : ZL T R) (hp : Lnd p) (hA : zz_ok Y A) (hR : zc_rep T R J p A) (e0 : 0 ≤ e) (e1 : e < A 7) (hg : T[g]? = some (.inr (0, 16))) (g1 : 105 ≤ g) (g2 : g ≤ 113) :
    ∃ J', mv_cax d 1 [.inr (.inr (some 73)), .inr (.inr (some p)), .inl (mv_c e), .inr (.inr (some g))] (zz_S T J R G) = some (none, zz_S T J' R G) ∧ zc_rep T R J' p A ∧ (∀ x, (x < 73 ∨ 77 < x) → x ≠ p + 4 → x ≠ p + 12 → x ≠ g → J' x = J x) ∧ zz_dr A e (J' g) := by
  have hn := hA.n
  have hpl : p + 12 < 73 := by rcases hp with rfl | rfl | rfl | rfl <;> omega
  have h7 := hA.2.2.2.2.2.2.1
  have hD := hA.2.2.2.2.2.2.2.2 e e0 e1
  have hk := hD.1
  have hfg := hD.2.1
  suffices h : ∃ r, mv_cax d 1 [.inr (.inr (some 73)), .inr (.inr (some p)), .inl (mv_c e), .inr (.inr (some g))] (zz_S T J R G) = some r ∧ ∃ J', r = (none, zz_S T J' R G) ∧ zc_rep T R J' p A ∧ (∀ x, (x < 73 ∨ 77 < x) → x ≠ p + 4 → x ≠ p + 12 → x ≠ g → J' x = J x) ∧ zz_dr A e (J' g) by
    obtain ⟨r, h1, J', rfl, h2⟩ := h
    exact ⟨J', h1, h2⟩
  refine zz_call (by omega) t_1 rfl (fun n => e_1 _ _ _ _ _) ?_
  obtain ⟨J1, hJ1⟩ : ∃ J1, zz_cp J (p + 4) 0 g 0 16 = J1 := ⟨_, rfl⟩
  have f1 : ∀ x, x ≠ g → J1 x = J x := fun x hx => by rw [← hJ1, zk_cp0, zw_n hx]
  have hR1 : zc_rep T R J1 p A := zc_rep_f hR (fun x hx => f1 x (by omega))
  have j1g : ∀ c, 0 ≤ c → c < A 0 * A 1 → J1 g c = A (8 + c) := fun c c0 c1 => by
    rw [← hJ1, zk_cp0, zw_s, if_pos (by omega)]
    exact (hR.2.2.1 c c0 c1).1
  obtain ⟨⟨a, a1, a2, a3, a4, a5, a6⟩, -, -⟩ := hR1.2.2.2 e e0 e1
  have c34 := c_34 (T := T) (J := J1) (R := R) (G := G) (d := d - 1) (p := p) (e := e) (by omega) hL hp hA hR1 (by omega) (by omega)
  rw [if_pos ⟨e0, e1⟩, a1] at c34
  have q74 : T[74]? = some (.inr (0, 160)) := hL.at 58 (by rfl)
  have hcpy : ∀ k : mv_S → mv_O, mo_cp (zz_S T J R G) (p + 4) (mv_c 0) g (mv_c 0) (mv_c 16) k = k (zz_S T J1 R G) := fun k => by
    rw [zz_cpy (by omega : 16 ≤ p + 4) (by omega : 16 ≤ g) (zz_Lt4 hL hp) hg (by omega) (by omega) (by omega) (by omega) (by omega) (by omega) (by omega), hJ1]
  -- the drawers by hauls
  have byhaul : ∀ (J3 : Nat → Int → Int) (f t : Int), zc_rep T R J3 p A → J3 73 4 = f → J3 73 5 = t → ((f = -1 ∧ t = -1) ∨ (0 ≤ f ∧ f < A 0 * A 1 ∧ 0 ≤ t ∧ t < A 0 * A 1)) → (∀ x, (x < 73 ∨ 77 < x) → x ≠ p + 4 → x ≠ p + 12 → J3 x = J1 x) → (A (40 + 15 * e) ≠ 0 ∧ A (40 + 15 * e) ≠ 5 ∧ A (40 + 15 * e) ≠ 6) → zz_fdn A e (A (40 + 15 * e)) f t → ∃ J', mv_cax (d - 1) 2 [.inr (.inr (some 73)), .inr (.inr (some g))] (zz_S T J3 R G) = some (none, zz_S T J' R G) ∧ zc_rep T R J' p A ∧ (∀ x, (x < 73 ∨ 77 < x) → x ≠ p + 4 → x ≠ p + 12 → x ≠ g → J' x = J x) ∧ zz_dr A e (J' g) := fun J3 f t i1 i2 i3 i4 i5 i6 i7 =>
    c_1h (by omega) hL hp hA i1 hg g1 g2 i2 i3 i4 (fun c c0 c1 => by rw [i5 g (by omega) (by omega) (by omega)]; exact j1g c c0 c1) (fun x x1 x2 x3 x4 => by rw [i5 x x1 x2 x3, f1 x x4]) i6 i7
  have mo : ∀ a b y, 40 ≤ y → 0 ≤ a → a < A 0 * A 1 → 0 ≤ b → b < A 0 * A 1 → zz_mv A a b y = A y := fun a b y hy a0 a1 b0 b1 => zz_mv_o (by omega) (by omega)
  have nr6 : ∀ a b, 0 ≤ a → a < A 0 * A 1 → 0 ≤ b → b < A 0 * A 1 → zz_nr (A 1) a b ≤ 6 := fun a b a0 a1 b0 b1 => (zz_nr_b hA.1.1 hA.1.2.1 hA.1.2.2.1 hA.1.2.2.2 a0 a1 b0 b1).2.1
  -- by the table of its own wishes
  have bytab : ∀ (reach μ : Int), 0 ≤ reach → reach ≤ 9 → (μ = 0 ∨ μ = 1) → ∃ (J2 J3 : Nat → Int → Int) (f t : Int), mv_cax (d - 1) 5 [.inr (.inr (some p)), .inl (mv_c e), .inr (.inr (some 74))] (zz_S T J1 R G) = some (none, zz_S T J2 R G) ∧ J2 a 2 = A (41 + 15 * e) ∧ mv_cax (d - 1) 8 [.inr (.inr (some 73)), .inr (.inr (some p)), .inr (.inr (some 74)), .inl (mv_c reach), .inl (mv_c μ)] (zz_S T J2 R G) = some (none, zz_S T J3 R G) ∧ zc_rep T R J3 p A ∧ J3 73 4 = f ∧ J3 73 5 = t ∧ ((f = -1 ∧ t = -1) ∨ (0 ≤ f ∧ f < A 0 * A 1 ∧ 0 ≤ t ∧ t < A 0 * A 1)) ∧ (∀ x, (x < 73 ∨ 77 < x) → x ≠ p + 4 → x ≠ p + 12 → J3 x = J1 x) ∧ zz_pick (A 0 * A 1) (fun a b => zz_mh A a b ∧ zz_nr (A 1) a b ≤ reach) (fun a b => zz_wo A (zz_H (zz_mv A a b)) e - μ * zz_hh A a b) (zz_wo A (zz_H A) e) f t := by
    intro reach μ r0 r1 hμ
    obtain ⟨O, h5, hO⟩ := c_5 (T := T) (J := J1) (R := R) (G := G) (d := d - 1) (p := p) (q := 74) (Y := Y) (A := A) (e := e) (by omega) hL hp hA hR1 e0 e1 q74 (by omega) (by omega)
    obtain ⟨J3, f, t, h8, fr, -, j4, j5, hr, hpk⟩ := c_8 (T := T) (J := zz_w J1 74 O) (R := R) (G := G) (d := d - 1) (p := p) (q := 74) (Y := Y) (A := A) (V := zk_T A e) (W := fun g => zz_wo A g e) (reach := reach) (μ := μ) (by omega) hL hp hA (zc_rep_f hR1 (fun x hx => zw_n (by omega))) q74 (by omega) (fun k k0 k1 => by rw [zw_s]; exact hO k k0 k1) (fun k _ _ => by have := zk_T_b (k := k) hD; omega) (zk_T_is hA e0 e1) ⟨r0, r1⟩ hμ
    have fr' : ∀ x, (x < 73 ∨ 77 < x) → J3 x = J1 x := fun x hx => by rw [fr x (by omega) (by omega) (by omega), zw_n (by omega)]
    exact ⟨_, J3, f, t, h5, by rw [zw_n (by omega)]; exact a6, h8, zc_rep_f hR1 (fun x hx => fr' x (by omega)), j4, j5, hr, fun x x1 _ _ => fr' x x1, hpk⟩
  rcases (show A (40 + 15 * e) = 0 ∨ A (40 + 15 * e) = 1 ∨ A (40 + 15 * e) = 2 ∨ A (40 + 15 * e) = 3 ∨ A (40 + 15 * e) = 4 ∨ A (40 + 15 * e) = 5 ∨ A (40 + 15 * e) = 6 ∨ A (40 + 15 * e) = 7 by omega) with k | k | k | k | k | k | k | k
  · rw [k] at a5
    simp (maxSteps := 5000000) (disch := first | assumption | omega) only [hcpy, c34, zg_D_1, a5, zr_73_0, zr_73_1, zr_73_2, zr_73_3, zg_73_4, zp_73_4, zg_73_5, zp_73_5, zi_73, za_74, zs_74, zl_74, za_75, zs_75, zl_75, za_76, zs_76, zl_76, za_77, zs_77, zl_77, zg_L_0, zp_L_0, zg_L_1, zp_L_1, zg_L_2, zp_L_2, zg_L_3, zp_L_3, zg_L_4, zp_L_4, zg_L_5, zp_L_5, zg_L_6, zp_L_6, zg_L_7, zp_L_7, zi_L, zr_L_8, za_L_1, zs_L_1, zr_L_9, za_L_2, zs_L_2, zr_L_10, za_L_3, zs_L_3, zr_L_11, za_L_4, zs_L_4, zr_L_12, za_L_5, zs_L_5, zr_L_13, za_L_6, zs_L_6, zr_L_14, za_L_7, zs_L_7, zr_L_15, za_L_8, zs_L_8, zr_L_16, za_L_9, zs_L_9, zr_L_17, za_L_10, zs_L_10, zr_L_18, za_L_11, zs_L_11, zr_L_19, za_L_12, zs_L_12, zz_0, zz_31, zz_add, zz_sub, zz_mul, zz_neg, zz_lt, zz_le, zz_eq, zz_div, zz_md, zz_dv, zz_abs, zz_max, zz_min, zz_nI, zz_be0, zz_be1, zz_zb, zz_z, zz_l0, zz_l, zz_lcmp, zo_rf, zo_nl, zo_nn, zo_rI, zo_rL, zo_rR, zo_rV, Int.add_zero, Int.zero_add, Int.mul_zero, Int.zero_mul, Int.one_mul, Int.mul_one, if_true, if_false, not_true_eq_false, not_false_eq_true]
    exact zz_Er ⟨J1, rfl, hR1, fun x _ _ _ x4 => f1 x x4, Or.inl ⟨k, j1g⟩⟩
  · rw [k] at a5
    obtain ⟨J2, J3, f, t, h5, -, h8, i1, i2, i3, i4, i5, hpk⟩ := bytab 6 0 (by omega) (by omega) (Or.inl rfl)
    obtain ⟨J', h2, i6⟩ := byhaul J3 f t i1 i2 i3 i4 i5 (by omega) (by
      rw [k]
      refine zk_pick_c hpk (fun a b r0 r1 r2 r3 => ⟨fun h => ⟨h.1, nr6 a b r0 r1 r2 r3⟩, fun h => ⟨h.1, fun q => by omega⟩⟩) (fun a b r0 r1 r2 r3 ho => ?_)
      show zz_wo (zz_mv A a b) (zz_H (zz_mv A a b)) e - zz_wo A (zz_H A) e = zz_wo A (zz_H (zz_mv A a b)) e - 0 * zz_hh A a b - zz_wo A (zz_H A) e
      rw [zz_wo_h e0 (fun y hy => mo a b y hy r0 r1 r2 r3), Int.zero_mul, Int.sub_zero])
    simp (maxSteps := 5000000) (disch := first | assumption | omega) only [hcpy, c34, zg_D_1, a5, h5, h8, h2, zr_73_0, zr_73_1, zr_73_2, zr_73_3, zg_73_4, zp_73_4, zg_73_5, zp_73_5, zi_73, za_74, zs_74, zl_74, za_75, zs_75, zl_75, za_76, zs_76, zl_76, za_77, zs_77, zl_77, zg_L_0, zp_L_0, zg_L_1, zp_L_1, zg_L_2, zp_L_2, zg_L_3, zp_L_3, zg_L_4, zp_L_4, zg_L_5, zp_L_5, zg_L_6, zp_L_6, zg_L_7, zp_L_7, zi_L, zr_L_8, za_L_1, zs_L_1, zr_L_9, za_L_2, zs_L_2, zr_L_10, za_L_3, zs_L_3, zr_L_11, za_L_4, zs_L_4, zr_L_12, za_L_5, zs_L_5, zr_L_13, za_L_6, zs_L_6, zr_L_14, za_L_7, zs_L_7, zr_L_15, za_L_8, zs_L_8, zr_L_16, za_L_9, zs_L_9, zr_L_17, za_L_10, zs_L_10, zr_L_18, za_L_11, zs_L_11, zr_L_19, za_L_12, zs_L_12, zz_0, zz_31, zz_add, zz_sub, zz_mul, zz_neg, zz_lt, zz_le, zz_eq, zz_div, zz_md, zz_dv, zz_abs, zz_max, zz_min, zz_nI, zz_be0, zz_be1, zz_zb, zz_z, zz_l0, zz_l, zz_lcmp, zo_rf, zo_nl, zo_nn, zo_rI, zo_rL, zo_rR, zo_rV, Int.add_zero, Int.zero_add, Int.mul_zero, Int.zero_mul, Int.one_mul, Int.mul_one, if_true, if_false, not_true_eq_false, not_false_eq_true]
    exact zz_Er ⟨J', rfl, i6⟩
  · rw [k] at a5
    obtain ⟨O, h6, hO⟩ := c_6 (T := T) (J := J1) (R := R) (G := G) (d := d - 1) (p := p) (Y := Y) (A := A) (by omega) hL hp hA hR1
    obtain ⟨J3, f, t, h8, fr, -, j4, j5, hr, hpk⟩ := c_8 (T := T) (J := zz_w J1 74 O) (R := R) (G := G) (d := d - 1) (p := p) (q := 74) (Y := Y) (A := A) (V := zk_A A (A 7)) (W := zz_wa A) (reach := 6) (μ := 0) (by omega) hL hp hA (zc_rep_f hR1 (fun x hx => zw_n (by omega))) q74 (by omega) (fun k k0 k1 => by rw [zw_s]; exact hO k k0 k1) (fun k _ _ => by have := zk_A_b (k := k) hA h7.1 (Int.le_refl _); omega) (zk_A_is hA) (by omega) (Or.inl rfl)
    have fr' : ∀ x, (x < 73 ∨ 77 < x) → J3 x = J1 x := fun x hx => by rw [fr x (by omega) (by omega) (by omega), zw_n (by omega)]
    obtain ⟨J', h2, i6⟩ := byhaul J3 f t (zc_rep_f hR1 (fun x hx => fr' x (by omega))) j4 j5 hr (fun x x1 _ _ => fr' x x1) (by omega) (by
      rw [k]
      refine zk_pick_c hpk (fun a b r0 r1 r2 r3 => ⟨fun h => ⟨h.1, nr6 a b r0 r1 r2 r3⟩, fun h => ⟨h.1, fun q => by omega⟩⟩) (fun a b r0 r1 r2 r3 ho => ?_)
      show zz_wa (zz_mv A a b) (zz_H (zz_mv A a b)) - zz_wa A (zz_H A) = zz_wa A (zz_H (zz_mv A a b)) - 0 * zz_hh A a b - zz_wa A (zz_H A)
      rw [zz_wa_h (zz_mv_o (by omega) (by omega)) h7.1 (fun y hy => mo a b y hy r0 r1 r2 r3), Int.zero_mul, Int.sub_zero])
    simp (maxSteps := 5000000) (disch := first | assumption | omega) only [hcpy, c34, zg_D_1, a5, h6, h8, h2, zr_73_0, zr_73_1, zr_73_2, zr_73_3, zg_73_4, zp_73_4, zg_73_5, zp_73_5, zi_73, za_74, zs_74, zl_74, za_75, zs_75, zl_75, za_76, zs_76, zl_76, za_77, zs_77, zl_77, zg_L_0, zp_L_0, zg_L_1, zp_L_1, zg_L_2, zp_L_2, zg_L_3, zp_L_3, zg_L_4, zp_L_4, zg_L_5, zp_L_5, zg_L_6, zp_L_6, zg_L_7, zp_L_7, zi_L, zr_L_8, za_L_1, zs_L_1, zr_L_9, za_L_2, zs_L_2, zr_L_10, za_L_3, zs_L_3, zr_L_11, za_L_4, zs_L_4, zr_L_12, za_L_5, zs_L_5, zr_L_13, za_L_6, zs_L_6, zr_L_14, za_L_7, zs_L_7, zr_L_15, za_L_8, zs_L_8, zr_L_16, za_L_9, zs_L_9, zr_L_17, za_L_10, zs_L_10, zr_L_18, za_L_11, zs_L_11, zr_L_19, za_L_12, zs_L_12, zz_0, zz_31, zz_add, zz_sub, zz_mul, zz_neg, zz_lt, zz_le, zz_eq, zz_div, zz_md, zz_dv, zz_abs, zz_max, zz_min, zz_nI, zz_be0, zz_be1, zz_zb, zz_z, zz_l0, zz_l, zz_lcmp, zo_rf, zo_nl, zo_nn, zo_rI, zo_rL, zo_rR, zo_rV, Int.add_zero, Int.zero_add, Int.mul_zero, Int.zero_mul, Int.one_mul, Int.mul_one, if_true, if_false, not_true_eq_false, not_false_eq_true]
    exact zz_Er ⟨J', rfl, i6⟩
  · rw [k] at a5
    obtain ⟨J2, J3, f, t, h5, -, h8, i1, i2, i3, i4, i5, hpk⟩ := bytab 6 1 (by omega) (by omega) (Or.inr rfl)
    obtain ⟨J', h2, i6⟩ := byhaul J3 f t i1 i2 i3 i4 i5 (by omega) (by
      rw [k]
      refine zk_pick_c hpk (fun a b r0 r1 r2 r3 => ⟨fun h => ⟨h.1, nr6 a b r0 r1 r2 r3⟩, fun h => ⟨h.1, fun q => by omega⟩⟩) (fun a b r0 r1 r2 r3 ho => ?_)
      show zz_wo (zz_mv A a b) (zz_H (zz_mv A a b)) e - zz_hh A a b - (zz_wo A (zz_H A) e - 0) = zz_wo A (zz_H (zz_mv A a b)) e - 1 * zz_hh A a b - zz_wo A (zz_H A) e
      rw [zz_wo_h e0 (fun y hy => mo a b y hy r0 r1 r2 r3), Int.one_mul, Int.sub_zero])
    simp (maxSteps := 5000000) (disch := first | assumption | omega) only [hcpy, c34, zg_D_1, a5, h5, h8, h2, zr_73_0, zr_73_1, zr_73_2, zr_73_3, zg_73_4, zp_73_4, zg_73_5, zp_73_5, zi_73, za_74, zs_74, zl_74, za_75, zs_75, zl_75, za_76, zs_76, zl_76, za_77, zs_77, zl_77, zg_L_0, zp_L_0, zg_L_1, zp_L_1, zg_L_2, zp_L_2, zg_L_3, zp_L_3, zg_L_4, zp_L_4, zg_L_5, zp_L_5, zg_L_6, zp_L_6, zg_L_7, zp_L_7, zi_L, zr_L_8, za_L_1, zs_L_1, zr_L_9, za_L_2, zs_L_2, zr_L_10, za_L_3, zs_L_3, zr_L_11, za_L_4, zs_L_4, zr_L_12, za_L_5, zs_L_5, zr_L_13, za_L_6, zs_L_6, zr_L_14, za_L_7, zs_L_7, zr_L_15, za_L_8, zs_L_8, zr_L_16, za_L_9, zs_L_9, zr_L_17, za_L_10, zs_L_10, zr_L_18, za_L_11, zs_L_11, zr_L_19, za_L_12, zs_L_12, zz_0, zz_31, zz_add, zz_sub, zz_mul, zz_neg, zz_lt, zz_le, zz_eq, zz_div, zz_md, zz_dv, zz_abs, zz_max, zz_min, zz_nI, zz_be0, zz_be1, zz_zb, zz_z, zz_l0, zz_l, zz_lcmp, zo_rf, zo_nl, zo_nn, zo_rI, zo_rL, zo_rR, zo_rV, Int.add_zero, Int.zero_add, Int.mul_zero, Int.zero_mul, Int.one_mul, Int.mul_one, if_true, if_false, not_true_eq_false, not_false_eq_true]
    exact zz_Er ⟨J', rfl, i6⟩
  · rw [k] at a5
    obtain ⟨J3, f, t, h10, i1, i5, i2, i3, i4, hpk⟩ := c_10 (T := T) (J := J1) (R := R) (G := G) (d := d - 1) (p := p) (Y := Y) (A := A) (e := e) (by omega) hL hp hA hR1 e0 e1
    obtain ⟨J', h2, i6⟩ := byhaul J3 f t i1 i2 i3 i4 i5 (by omega) (by
      rw [k]
      exact zk_pick_c hpk (fun a b r0 r1 r2 r3 => ⟨fun h => h.1, fun h => ⟨h, fun q => by omega⟩⟩) (fun a b r0 r1 r2 r3 ho => rfl))
    simp (maxSteps := 5000000) (disch := first | assumption | omega) only [hcpy, c34, zg_D_1, a5, h10, h2, zr_73_0, zr_73_1, zr_73_2, zr_73_3, zg_73_4, zp_73_4, zg_73_5, zp_73_5, zi_73, za_74, zs_74, zl_74, za_75, zs_75, zl_75, za_76, zs_76, zl_76, za_77, zs_77, zl_77, zg_L_0, zp_L_0, zg_L_1, zp_L_1, zg_L_2, zp_L_2, zg_L_3, zp_L_3, zg_L_4, zp_L_4, zg_L_5, zp_L_5, zg_L_6, zp_L_6, zg_L_7, zp_L_7, zi_L, zr_L_8, za_L_1, zs_L_1, zr_L_9, za_L_2, zs_L_2, zr_L_10, za_L_3, zs_L_3, zr_L_11, za_L_4, zs_L_4, zr_L_12, za_L_5, zs_L_5, zr_L_13, za_L_6, zs_L_6, zr_L_14, za_L_7, zs_L_7, zr_L_15, za_L_8, zs_L_8, zr_L_16, za_L_9, zs_L_9, zr_L_17, za_L_10, zs_L_10, zr_L_18, za_L_11, zs_L_11, zr_L_19, za_L_12, zs_L_12, zz_0, zz_31, zz_add, zz_sub, zz_mul, zz_neg, zz_lt, zz_le, zz_eq, zz_div, zz_md, zz_dv, zz_abs, zz_max, zz_min, zz_nI, zz_be0, zz_be1, zz_zb, zz_z, zz_l0, zz_l, zz_lcmp, zo_rf, zo_nl, zo_nn, zo_rI, zo_rL, zo_rR, zo_rV, Int.add_zero, Int.zero_add, Int.mul_zero, Int.zero_mul, Int.one_mul, Int.mul_one, if_true, if_false, not_true_eq_false, not_false_eq_true]
    exact zz_Er ⟨J', rfl, i6⟩
  · rw [k] at a5
    obtain ⟨O, h3, hO⟩ := c_3 (T := T) (J := J1) (R := R) (G := G) (d := d - 1) (p := p) (g := g) (Y := Y) (A := A) (by omega) hL hp hA hR1 hg g1 (by omega)
    simp (maxSteps := 5000000) (disch := first | assumption | omega) only [hcpy, c34, zg_D_1, a5, h3, zr_73_0, zr_73_1, zr_73_2, zr_73_3, zg_73_4, zp_73_4, zg_73_5, zp_73_5, zi_73, za_74, zs_74, zl_74, za_75, zs_75, zl_75, za_76, zs_76, zl_76, za_77, zs_77, zl_77, zg_L_0, zp_L_0, zg_L_1, zp_L_1, zg_L_2, zp_L_2, zg_L_3, zp_L_3, zg_L_4, zp_L_4, zg_L_5, zp_L_5, zg_L_6, zp_L_6, zg_L_7, zp_L_7, zi_L, zr_L_8, za_L_1, zs_L_1, zr_L_9, za_L_2, zs_L_2, zr_L_10, za_L_3, zs_L_3, zr_L_11, za_L_4, zs_L_4, zr_L_12, za_L_5, zs_L_5, zr_L_13, za_L_6, zs_L_6, zr_L_14, za_L_7, zs_L_7, zr_L_15, za_L_8, zs_L_8, zr_L_16, za_L_9, zs_L_9, zr_L_17, za_L_10, zs_L_10, zr_L_18, za_L_11, zs_L_11, zr_L_19, za_L_12, zs_L_12, zz_0, zz_31, zz_add, zz_sub, zz_mul, zz_neg, zz_lt, zz_le, zz_eq, zz_div, zz_md, zz_dv, zz_abs, zz_max, zz_min, zz_nI, zz_be0, zz_be1, zz_zb, zz_z, zz_l0, zz_l, zz_lcmp, zo_rf, zo_nl, zo_nn, zo_rI, zo_rL, zo_rR, zo_rV, Int.add_zero, Int.zero_add, Int.mul_zero, Int.zero_mul, Int.one_mul, Int.mul_one, if_true, if_false, not_true_eq_false, not_false_eq_true]
    exact zz_Er ⟨_, rfl, zc_rep_f hR1 (fun x hx => zw_n (by omega)), fun x _ _ _ x4 => by rw [zw_n x4, f1 x x4], Or.inr (Or.inl ⟨k, by rw [zw_s]; exact hO⟩)⟩
  · rw [k] at a5
    obtain ⟨O, h3, hO⟩ := c_3 (T := T) (J := J1) (R := R) (G := G) (d := d - 1) (p := p) (g := g) (Y := Y) (A := A) (by omega) hL hp hA hR1 hg g1 (by omega)
    have hR2 : zc_rep T R (zz_w J1 g O) p A := zc_rep_f hR1 (fun x hx => zw_n (by omega))
    have a6' : zz_w J1 g O a 2 = A (41 + 15 * e) := by rw [zw_n (by omega)]; exact a6
    obtain ⟨O2, h4, hO2⟩ := c_4 (T := T) (J := zz_w J1 g O) (R := R) (G := G) (d := d - 1) (p := p) (g := g) (Y := Y) (A := A) (k := A (41 + 15 * e)) (by omega) hL hp hA hR2 hg g1 hfg.1 hfg.2 (fun c c0 c1 => by
      rw [zw_s, hO c c0 c1]
      have := hA.2.2.2.2.2.2.2.1 c c0 c1
      unfold zz_tw
      split <;> omega)
    rw [zw_w] at h4
    simp (maxSteps := 5000000) (disch := first | assumption | omega) only [hcpy, c34, zg_D_1, zg_D_2, a5, a6', h3, h4, zr_73_0, zr_73_1, zr_73_2, zr_73_3, zg_73_4, zp_73_4, zg_73_5, zp_73_5, zi_73, za_74, zs_74, zl_74, za_75, zs_75, zl_75, za_76, zs_76, zl_76, za_77, zs_77, zl_77, zg_L_0, zp_L_0, zg_L_1, zp_L_1, zg_L_2, zp_L_2, zg_L_3, zp_L_3, zg_L_4, zp_L_4, zg_L_5, zp_L_5, zg_L_6, zp_L_6, zg_L_7, zp_L_7, zi_L, zr_L_8, za_L_1, zs_L_1, zr_L_9, za_L_2, zs_L_2, zr_L_10, za_L_3, zs_L_3, zr_L_11, za_L_4, zs_L_4, zr_L_12, za_L_5, zs_L_5, zr_L_13, za_L_6, zs_L_6, zr_L_14, za_L_7, zs_L_7, zr_L_15, za_L_8, zs_L_8, zr_L_16, za_L_9, zs_L_9, zr_L_17, za_L_10, zs_L_10, zr_L_18, za_L_11, zs_L_11, zr_L_19, za_L_12, zs_L_12, zz_0, zz_31, zz_add, zz_sub, zz_mul, zz_neg, zz_lt, zz_le, zz_eq, zz_div, zz_md, zz_dv, zz_abs, zz_max, zz_min, zz_nI, zz_be0, zz_be1, zz_zb, zz_z, zz_l0, zz_l, zz_lcmp, zo_rf, zo_nl, zo_nn, zo_rI, zo_rL, zo_rR, zo_rV, Int.add_zero, Int.zero_add, Int.mul_zero, Int.zero_mul, Int.one_mul, Int.mul_one, if_true, if_false, not_true_eq_false, not_false_eq_true]
    refine zz_Er ⟨_, rfl, zc_rep_f hR1 (fun x hx => zw_n (by omega)), fun x _ _ _ x4 => by rw [zw_n x4, f1 x x4], Or.inr (Or.inr (Or.inl ⟨k, fun c c0 c1 => ?_⟩))⟩
    rw [zw_s, hO2 c c0 c1, zw_s, hO c c0 c1]
  · rw [k] at a5
    obtain ⟨J2, J3, f, t, h5, a6', h8, i1, i2, i3, i4, i5, hpk⟩ := bytab (A (41 + 15 * e)) 1 hfg.1 hfg.2 (Or.inr rfl)
    obtain ⟨J', h2, i6⟩ := byhaul J3 f t i1 i2 i3 i4 i5 (by omega) (by
      rw [k]
      refine zk_pick_c hpk (fun a b r0 r1 r2 r3 => ⟨fun h => ⟨h.1, h.2 rfl⟩, fun h => ⟨h.1, fun _ => h.2⟩⟩) (fun a b r0 r1 r2 r3 ho => ?_)
      show zz_wo (zz_mv A a b) (zz_H (zz_mv A a b)) e - zz_hh A a b - (zz_wo A (zz_H A) e - 0) = zz_wo A (zz_H (zz_mv A a b)) e - 1 * zz_hh A a b - zz_wo A (zz_H A) e
      rw [zz_wo_h e0 (fun y hy => mo a b y hy r0 r1 r2 r3), Int.one_mul, Int.sub_zero])
    simp (maxSteps := 5000000) (disch := first | assumption | omega) only [hcpy, c34, zg_D_1, zg_D_2, a5, a6', h5, h8, h2, zr_73_0, zr_73_1, zr_73_2, zr_73_3, zg_73_4, zp_73_4, zg_73_5, zp_73_5, zi_73, za_74, zs_74, zl_74, za_75, zs_75, zl_75, za_76, zs_76, zl_76, za_77, zs_77, zl_77, zg_L_0, zp_L_0, zg_L_1, zp_L_1, zg_L_2, zp_L_2, zg_L_3, zp_L_3, zg_L_4, zp_L_4, zg_L_5, zp_L_5, zg_L_6, zp_L_6, zg_L_7, zp_L_7, zi_L, zr_L_8, za_L_1, zs_L_1, zr_L_9, za_L_2, zs_L_2, zr_L_10, za_L_3, zs_L_3, zr_L_11, za_L_4, zs_L_4, zr_L_12, za_L_5, zs_L_5, zr_L_13, za_L_6, zs_L_6, zr_L_14, za_L_7, zs_L_7, zr_L_15, za_L_8, zs_L_8, zr_L_16, za_L_9, zs_L_9, zr_L_17, za_L_10, zs_L_10, zr_L_18, za_L_11, zs_L_11, zr_L_19, za_L_12, zs_L_12, zz_0, zz_31, zz_add, zz_sub, zz_mul, zz_neg, zz_lt, zz_le, zz_eq, zz_div, zz_md, zz_dv, zz_abs, zz_max, zz_min, zz_nI, zz_be0, zz_be1, zz_zb, zz_z, zz_l0, zz_l, zz_lcmp, zo_rf, zo_nl, zo_nn, zo_rI, zo_rL, zo_rR, zo_rV, Int.add_zero, Int.zero_add, Int.mul_zero, Int.zero_mul, Int.one_mul, Int.mul_one, if_true, if_false, not_true_eq_false, not_false_eq_true]
    exact zz_Er ⟨J', rfl, i6⟩
end ZSKT
