/-! PURE LAYER, 62: the class looks ahead -/
theorem zk_T_h {A A' : Int → Int} {e k : Int} (e0 : 0 ≤ e) (h : ∀ y, 40 ≤ y → A' y = A y) : zk_T A' e k = zk_T A e k := by
  unfold zk_T zk_t
  rw [h (42 + 15 * e) (by omega)]
  by_cases q : 0 ≤ A (42 + 15 * e)
  · refine zz_sum_c q (fun w w0 w1 => ?_)
    show (if A' (43 + 15 * e + 3 * w) = k / 10 then zz_wi A' e w (k % 10) else 0) = (if A (43 + 15 * e + 3 * w) = k / 10 then zz_wi A e w (k % 10) else 0)
    unfold zz_wi
    rw [h (43 + 15 * e + 3 * w) (by omega), h (44 + 15 * e + 3 * w) (by omega), h (45 + 15 * e + 3 * w) (by omega)]
  · have e : (A (42 + 15 * e)).toNat = 0 := by omega
    unfold zz_sum
    rw [e]
    rfl
section ZAH2
variable {T : List mv_T} {J : Nat → Int → Int} {R : Nat → Nat → Option Nat} {G : Nat → Nat → Int64} {d p q : Nat} {Y : Int} {A : Int → Int}
theorem c_11t {f t wl pd e : Int} (hd : 5 ≤ d) (hL : ZL T R) (hp : Lnd p) (hA : zz_ok Y A) (hR : zc_rep T R J p A) (e0 : 0 ≤ e) (e1 : e < A 7) (h74 : ∀ k, 0 ≤ k → k < 160 → J 74 k = zk_T A e k) (hf : J 73 4 = f) (ht : J 73 5 = t) (f0 : 0 ≤ f) (f1 : f < A 0 * A 1) (t0 : 0 ≤ t) (t1 : t < A 0 * A 1) (hmh : zz_mh A f t) (hw : wl = 0 ∨ wl = 1) (hpd : pd = 0 ∨ pd = 1) :
    zz_E (fun n => mv_run (mv_cax d) mm_11 n 79 [(0, .inr (.inr (some 73))), (1, .inr (.inr (some p))), (2, .inl (mv_c wl))] [.inl (mv_c pd)] (zz_S T J R G)) (fun r => ∃ v J', r = (some (.inl (mv_c v)), zz_S T J' R G) ∧ zc_rep T R J' p A ∧ (∀ x, x ≠ p + 4 → x ≠ p + 12 → J' x = J x) ∧ ((pd = 1 ∧ (wl = 0 ∨ zz_ls (zz_mv A f t))) → v = zz_wo A (zz_H (zz_mv A f t)) e) ∧ (¬ (pd = 1 ∧ (wl = 0 ∨ zz_ls (zz_mv A f t))) → v = zz_wo A (zz_H A) e)) := by
  have hn := hA.n
  have hpl : p + 12 < 73 := by rcases hp with rfl | rfl | rfl | rfl <;> omega
  have hD := hA.2.2.2.2.2.2.2.2 e e0 e1
  have hne := hmh.1
  have hM : zz_ok Y (zz_mv A f t) := zz_mh_ok hA f0 f1 t0 t1 hmh
  have m0 : zz_mv A f t 0 = A 0 := zz_mv_o (by omega) (by omega)
  have m1 : zz_mv A f t 1 = A 1 := zz_mv_o (by omega) (by omega)
  obtain ⟨O, h56, hR1⟩ := c_56 (T := T) (J := J) (R := R) (G := G) (d := d) (by omega) hL hp hA hR f0 f1 t0 t1 hne
  obtain ⟨J1, hJ1⟩ : ∃ J1, J1 = zz_w J (p + 4) O := ⟨_, rfl⟩
  rw [← hJ1] at h56 hR1
  have fr1 : ∀ x, x ≠ p + 4 → J1 x = J x := fun x hx => by rw [hJ1, zw_n hx]
  clear hJ1
  have w12 : ∀ J2 : Nat → Int → Int, zc_rep T R J2 p A → J2 74 = J 74 → mv_cax d 12 [.inr (.inr (some 73)), .inr (.inr (some p))] (zz_S T J2 R G) = some (some (.inl (mv_c (zz_wo A (zz_H A) e))), zz_S T J2 R G) := fun J2 h2 h3 =>
    c_12 (V := zk_T A e) (W := fun g => zz_wo A g e) (by omega) hL hp hA h2 (fun k k0 k1 => by rw [h3]; exact h74 k k0 k1) (fun k _ _ => by have := zk_T_b (k := k) hD; omega) (zk_T_is hA e0 e1)
  have w12' : ∀ J2 : Nat → Int → Int, zc_rep T R J2 p (zz_mv A f t) → J2 74 = J 74 → mv_cax d 12 [.inr (.inr (some 73)), .inr (.inr (some p))] (zz_S T J2 R G) = some (some (.inl (mv_c (zz_wo A (zz_H (zz_mv A f t)) e))), zz_S T J2 R G) := fun J2 h2 h3 =>
    c_12 (V := zk_T A e) (W := fun g => zz_wo A g e) (by omega) hL hp hM h2 (fun k k0 k1 => by rw [h3]; exact h74 k k0 k1) (fun k _ _ => by have := zk_T_b (k := k) hD; omega) (by rw [m0, m1]; exact zk_T_is hA e0 e1)
  have back : ∀ J2 : Nat → Int → Int, zc_rep T R J2 p (zz_mv A f t) → ∃ J3 : Nat → Int → Int, mv_cax d 56 [.inr (.inr (some p)), .inl (mv_c t), .inl (mv_c f)] (zz_S T J2 R G) = some (none, zz_S T J3 R G) ∧ zc_rep T R J3 p A ∧ ∀ x, x ≠ p + 4 → J3 x = J2 x := by
    intro J2 h2
    obtain ⟨O2, g1, g2⟩ := c_56 (T := T) (J := J2) (R := R) (G := G) (d := d) (by omega) hL hp hM h2 t0 (by rw [m0, m1]; exact t1) f0 (by rw [m0, m1]; exact f1) (fun q => hne q.symm)
    rw [zz_mvb hne] at g2
    exact ⟨_, g1, g2, fun x hx => zw_n hx⟩
  have j4 : J1 73 4 = f := by rw [fr1 73 (by omega)]; exact hf
  have j5 : J1 73 5 = t := by rw [fr1 73 (by omega)]; exact ht
  have nodig : ∀ J2 : Nat → Int → Int, zc_rep T R J2 p (zz_mv A f t) → (∀ x, x ≠ p + 4 → x ≠ p + 12 → J2 x = J x) → ∃ J3 : Nat → Int → Int, mv_cax d 56 [.inr (.inr (some p)), .inl (mv_c t), .inl (mv_c f)] (zz_S T J2 R G) = some (none, zz_S T J3 R G) ∧ mv_cax d 12 [.inr (.inr (some 73)), .inr (.inr (some p))] (zz_S T J3 R G) = some (some (.inl (mv_c (zz_wo A (zz_H A) e))), zz_S T J3 R G) ∧ zc_rep T R J3 p A ∧ ∀ x, x ≠ p + 4 → x ≠ p + 12 → J3 x = J x := by
    intro J2 h2 h3
    obtain ⟨J3, g1, g2, g3⟩ := back J2 h2
    exact ⟨J3, g1, w12 J3 g2 (by rw [g3 74 (by omega), h3 74 (by omega) (by omega)]), g2, fun x x1 x2 => by rw [g3 x x1, h3 x x1 x2]⟩
  refine zz_Es (fun n => e_11_79 _ _ _ _ _) ?_
  rcases hpd with rfl | rfl
  · obtain ⟨J3, g1, g2, g3, g4⟩ := nodig J1 hR1 (fun x x1 _ => fr1 x x1)
    simp (maxSteps := 5000000) (disch := first | assumption | omega) only [hf, ht, h56, j4, j5, g1, g2, zr_73_0, zr_73_1, zr_73_2, zr_73_3, zg_73_4, zp_73_4, zg_73_5, zp_73_5, zi_73, za_74, zs_74, zl_74, za_75, zs_75, zl_75, za_76, zs_76, zl_76, za_77, zs_77, zl_77, zg_L_0, zp_L_0, zg_L_1, zp_L_1, zg_L_2, zp_L_2, zg_L_3, zp_L_3, zg_L_4, zp_L_4, zg_L_5, zp_L_5, zg_L_6, zp_L_6, zg_L_7, zp_L_7, zi_L, zr_L_8, za_L_1, zs_L_1, zr_L_9, za_L_2, zs_L_2, zr_L_10, za_L_3, zs_L_3, zr_L_11, za_L_4, zs_L_4, zr_L_12, za_L_5, zs_L_5, zr_L_13, za_L_6, zs_L_6, zr_L_14, za_L_7, zs_L_7, zr_L_15, za_L_8, zs_L_8, zr_L_16, za_L_9, zs_L_9, zr_L_17, za_L_10, zs_L_10, zr_L_18, za_L_11, zs_L_11, zr_L_19, za_L_12, zs_L_12, zz_0, zz_31, zz_add, zz_sub, zz_mul, zz_neg, zz_lt, zz_le, zz_eq, zz_div, zz_md, zz_dv, zz_abs, zz_max, zz_min, zz_nI, zz_be0, zz_be1, zz_zb, zz_z, zz_l0, zz_l, zz_lcmp, zo_rf, zo_nl, zo_nn, zo_rI, zo_rL, zo_rR, zo_rV, Int.add_zero, Int.zero_add, Int.mul_zero, Int.zero_mul, Int.one_mul, Int.mul_one, if_true, if_false, not_true_eq_false, not_false_eq_true]
    exact zz_Er ⟨_, J3, rfl, g3, g4, fun h => absurd h.1 (by omega), fun _ => rfl⟩
  · rcases hw with rfl | rfl
    · obtain ⟨J3, g1, g2, g3⟩ := back J1 hR1
      have g12 := w12' J1 hR1 (fr1 74 (by omega))
      simp (maxSteps := 5000000) (disch := first | assumption | omega) only [hf, ht, h56, j4, j5, g12, g1, zr_73_0, zr_73_1, zr_73_2, zr_73_3, zg_73_4, zp_73_4, zg_73_5, zp_73_5, zi_73, za_74, zs_74, zl_74, za_75, zs_75, zl_75, za_76, zs_76, zl_76, za_77, zs_77, zl_77, zg_L_0, zp_L_0, zg_L_1, zp_L_1, zg_L_2, zp_L_2, zg_L_3, zp_L_3, zg_L_4, zp_L_4, zg_L_5, zp_L_5, zg_L_6, zp_L_6, zg_L_7, zp_L_7, zi_L, zr_L_8, za_L_1, zs_L_1, zr_L_9, za_L_2, zs_L_2, zr_L_10, za_L_3, zs_L_3, zr_L_11, za_L_4, zs_L_4, zr_L_12, za_L_5, zs_L_5, zr_L_13, za_L_6, zs_L_6, zr_L_14, za_L_7, zs_L_7, zr_L_15, za_L_8, zs_L_8, zr_L_16, za_L_9, zs_L_9, zr_L_17, za_L_10, zs_L_10, zr_L_18, za_L_11, zs_L_11, zr_L_19, za_L_12, zs_L_12, zz_0, zz_31, zz_add, zz_sub, zz_mul, zz_neg, zz_lt, zz_le, zz_eq, zz_div, zz_md, zz_dv, zz_abs, zz_max, zz_min, zz_nI, zz_be0, zz_be1, zz_zb, zz_z, zz_l0, zz_l, zz_lcmp, zo_rf, zo_nl, zo_nn, zo_rI, zo_rL, zo_rR, zo_rV, Int.add_zero, Int.zero_add, Int.mul_zero, Int.zero_mul, Int.one_mul, Int.mul_one, if_true, if_false, not_true_eq_false, not_false_eq_true]
      exact zz_Er ⟨_, J3, rfl, g2, fun x x1 _ => by rw [g3 x x1, fr1 x x1], fun _ => rfl, fun h => (h ⟨by first | trivial | rfl, Or.inl (by first | trivial | rfl)⟩).elim⟩
    · obtain ⟨O3, h49⟩ := c_49 (T := T) (J := J1) (R := R) (G := G) (d := d) (p := p) (by omega) hL hp hM hR1
      have hR2 := zc_rep_w (O := O3) hp hR1
      obtain ⟨J2, hJ2⟩ : ∃ J2, J2 = zz_w J1 (p + 12) O3 := ⟨_, rfl⟩
      rw [← hJ2] at h49 hR2
      have fr2 : ∀ x, x ≠ p + 4 → x ≠ p + 12 → J2 x = J x := fun x x1 x2 => by rw [hJ2, zw_n x2, fr1 x x1]
      clear hJ2
      have k4 : J2 73 4 = f := by rw [fr2 73 (by omega) (by omega)]; exact hf
      have k5 : J2 73 5 = t := by rw [fr2 73 (by omega) (by omega)]; exact ht
      by_cases hls : zz_ls (zz_mv A f t)
      · rw [zz_b_t hls] at h49
        obtain ⟨J3, g1, g2, g3⟩ := back J2 hR2
        have g12 := w12' J2 hR2 (fr2 74 (by omega) (by omega))
        simp (maxSteps := 5000000) (disch := first | assumption | omega) only [hf, ht, h56, h49, k4, k5, g12, g1, zr_73_0, zr_73_1, zr_73_2, zr_73_3, zg_73_4, zp_73_4, zg_73_5, zp_73_5, zi_73, za_74, zs_74, zl_74, za_75, zs_75, zl_75, za_76, zs_76, zl_76, za_77, zs_77, zl_77, zg_L_0, zp_L_0, zg_L_1, zp_L_1, zg_L_2, zp_L_2, zg_L_3, zp_L_3, zg_L_4, zp_L_4, zg_L_5, zp_L_5, zg_L_6, zp_L_6, zg_L_7, zp_L_7, zi_L, zr_L_8, za_L_1, zs_L_1, zr_L_9, za_L_2, zs_L_2, zr_L_10, za_L_3, zs_L_3, zr_L_11, za_L_4, zs_L_4, zr_L_12, za_L_5, zs_L_5, zr_L_13, za_L_6, zs_L_6, zr_L_14, za_L_7, zs_L_7, zr_L_15, za_L_8, zs_L_8, zr_L_16, za_L_9, zs_L_9, zr_L_17, za_L_10, zs_L_10, zr_L_18, za_L_11, zs_L_11, zr_L_19, za_L_12, zs_L_12, zz_0, zz_31, zz_add, zz_sub, zz_mul, zz_neg, zz_lt, zz_le, zz_eq, zz_div, zz_md, zz_dv, zz_abs, zz_max, zz_min, zz_nI, zz_be0, zz_be1, zz_zb, zz_z, zz_l0, zz_l, zz_lcmp, zo_rf, zo_nl, zo_nn, zo_rI, zo_rL, zo_rR, zo_rV, Int.add_zero, Int.zero_add, Int.mul_zero, Int.zero_mul, Int.one_mul, Int.mul_one, if_true, if_false, not_true_eq_false, not_false_eq_true]
        exact zz_Er ⟨_, J3, rfl, g2, fun x x1 x2 => by rw [g3 x x1, fr2 x x1 x2], fun _ => rfl, fun h => (h ⟨by first | trivial | rfl, Or.inr hls⟩).elim⟩
      · rw [zz_b_f hls] at h49
        obtain ⟨J3, g1, g2, g3, g4⟩ := nodig J2 hR2 fr2
        simp (maxSteps := 5000000) (disch := first | assumption | omega) only [hf, ht, h56, h49, k4, k5, g1, g2, zr_73_0, zr_73_1, zr_73_2, zr_73_3, zg_73_4, zp_73_4, zg_73_5, zp_73_5, zi_73, za_74, zs_74, zl_74, za_75, zs_75, zl_75, za_76, zs_76, zl_76, za_77, zs_77, zl_77, zg_L_0, zp_L_0, zg_L_1, zp_L_1, zg_L_2, zp_L_2, zg_L_3, zp_L_3, zg_L_4, zp_L_4, zg_L_5, zp_L_5, zg_L_6, zp_L_6, zg_L_7, zp_L_7, zi_L, zr_L_8, za_L_1, zs_L_1, zr_L_9, za_L_2, zs_L_2, zr_L_10, za_L_3, zs_L_3, zr_L_11, za_L_4, zs_L_4, zr_L_12, za_L_5, zs_L_5, zr_L_13, za_L_6, zs_L_6, zr_L_14, za_L_7, zs_L_7, zr_L_15, za_L_8, zs_L_8, zr_L_16, za_L_9, zs_L_9, zr_L_17, za_L_10, zs_L_10, zr_L_18, za_L_11, zs_L_11, zr_L_19, za_L_12, zs_L_12, zz_0, zz_31, zz_add, zz_sub, zz_mul, zz_neg, zz_lt, zz_le, zz_eq, zz_div, zz_md, zz_dv, zz_abs, zz_max, zz_min, zz_nI, zz_be0, zz_be1, zz_zb, zz_z, zz_l0, zz_l, zz_lcmp, zo_rf, zo_nl, zo_nn, zo_rI, zo_rL, zo_rR, zo_rV, Int.add_zero, Int.zero_add, Int.mul_zero, Int.zero_mul, Int.one_mul, Int.mul_one, if_true, if_false, not_true_eq_false, not_false_eq_true]
        refine zz_Er ⟨_, J3, rfl, g3, g4, fun h => ?_, fun _ => rfl⟩
        rcases h.2 with h | h
        · exact absurd h (by omega)
        · exact absurd h hls
theorem c_11 {e : Int} (hd : 6 ≤ d) (hL : ZL T R) (hp : Lnd p) (hA : zz_ok Y A) (hR : zc_rep T R J p A) (e0 : 0 ≤ e) (e1 : e < A 7) (h74 : ∀ k, 0 ≤ k → k < 160 → J 74 k = zk_T A e k) (h75 : ∀ k, 0 ≤ k → k < 160 → J 75 k = zk_T A ((e + 1) % A 7) k) :
    ∃ J', mv_cax d 11 [.inr (.inr (some 73)), .inr (.inr (some p))] (zz_S T J R G) = some (some (.inl (mv_c (zz_ahv A e))), zz_S T J' R G) ∧ zc_rep T R J' p A ∧ (∀ x, x ≠ 73 → x ≠ 76 → x ≠ 77 → x ≠ p + 4 → x ≠ p + 12 → J' x = J x) := by
  have hn := hA.n
  have hpl : p + 12 < 73 := by rcases hp with rfl | rfl | rfl | rfl <;> omega
  have hD := hA.2.2.2.2.2.2.2.2 e e0 e1
  have h7 := hA.2.2.2.2.2.2.1
  have h2 := hA.2.1
  have h3 := hA.2.2.1
  have hnx : 0 ≤ (e + 1) % A 7 ∧ (e + 1) % A 7 < A 7 := ⟨Int.emod_nonneg _ (by omega), Int.emod_lt_of_pos _ (by omega)⟩
  have hD2 := hA.2.2.2.2.2.2.2.2 _ hnx.1 hnx.2
  suffices h : ∃ r, mv_cax d 11 [.inr (.inr (some 73)), .inr (.inr (some p))] (zz_S T J R G) = some r ∧ ∃ J', r = (some (.inl (mv_c (zz_ahv A e))), zz_S T J' R G) ∧ zc_rep T R J' p A ∧ (∀ x, x ≠ 73 → x ≠ 76 → x ≠ 77 → x ≠ p + 4 → x ≠ p + 12 → J' x = J x) by
    obtain ⟨r, h1, J', rfl, h2⟩ := h
    exact ⟨J', h1, h2⟩
  refine zz_call (by omega) t_11 rfl (fun n => e_11 _ _ _) ?_
  have hq : T[75]? = some (.inr (0, 160)) := hL.at 59 (by rfl)
  obtain ⟨J1, f, t, h8, fr1, fr73, j4, j5, hrg, hpick⟩ := c_8 (T := T) (J := J) (R := R) (G := G) (d := d - 1) (p := p) (q := 75) (Y := Y) (A := A) (V := zk_T A ((e + 1) % A 7)) (W := fun g => zz_wo A g ((e + 1) % A 7)) (reach := 6) (μ := 0) (by omega) hL hp hA hR hq (by omega) h75 (fun k _ _ => by have := zk_T_b (k := k) hD2; omega) (zk_T_is hA hnx.1 hnx.2) (by omega) (by omega)
  have hown : zz_own A ((e + 1) % A 7) f t := zk_pick_c hpick (fun a b r0 r1 r2 r3 => by
    have := zz_nr_b hA.1.1 hA.1.2.1 hA.1.2.2.1 hA.1.2.2.2 r0 r1 r2 r3
    exact ⟨fun h => ⟨h, by omega⟩, fun h => h.1⟩) (fun a b r0 r1 r2 r3 ho => by
    show zz_wo A (zz_H (zz_mv A a b)) ((e + 1) % A 7) - zz_wo A (zz_H A) ((e + 1) % A 7) = zz_wo A (zz_H (zz_mv A a b)) ((e + 1) % A 7) - 0 * zz_hh A a b - zz_wo A (zz_H A) ((e + 1) % A 7)
    rw [Int.zero_mul, Int.sub_zero])
  have hR1 : zc_rep T R J1 p A := zc_rep_f hR (fun x hx => fr1 x (by omega) (by omega) (by omega))
  have k74 : ∀ k, 0 ≤ k → k < 160 → J1 74 k = zk_T A e k := fun k k0 k1 => by rw [fr1 74 (by omega) (by omega) (by omega)]; exact h74 k k0 k1
  rcases hrg with ⟨hf, ht⟩ | ⟨f0, f1, t0, t1⟩
  · subst hf
    subst ht
    have w := c_12 (T := T) (J := J1) (R := R) (G := G) (d := d - 1) (V := zk_T A e) (W := fun g => zz_wo A g e) (by omega) hL hp hA hR1 k74 (fun k _ _ => by have := zk_T_b (k := k) hD; omega) (zk_T_is hA e0 e1)
    simp (maxSteps := 5000000) (disch := first | assumption | omega) only [h8, j4, w, zr_73_0, zr_73_1, zr_73_2, zr_73_3, zg_73_4, zp_73_4, zg_73_5, zp_73_5, zi_73, za_74, zs_74, zl_74, za_75, zs_75, zl_75, za_76, zs_76, zl_76, za_77, zs_77, zl_77, zg_L_0, zp_L_0, zg_L_1, zp_L_1, zg_L_2, zp_L_2, zg_L_3, zp_L_3, zg_L_4, zp_L_4, zg_L_5, zp_L_5, zg_L_6, zp_L_6, zg_L_7, zp_L_7, zi_L, zr_L_8, za_L_1, zs_L_1, zr_L_9, za_L_2, zs_L_2, zr_L_10, za_L_3, zs_L_3, zr_L_11, za_L_4, zs_L_4, zr_L_12, za_L_5, zs_L_5, zr_L_13, za_L_6, zs_L_6, zr_L_14, za_L_7, zs_L_7, zr_L_15, za_L_8, zs_L_8, zr_L_16, za_L_9, zs_L_9, zr_L_17, za_L_10, zs_L_10, zr_L_18, za_L_11, zs_L_11, zr_L_19, za_L_12, zs_L_12, zz_0, zz_31, zz_add, zz_sub, zz_mul, zz_neg, zz_lt, zz_le, zz_eq, zz_div, zz_md, zz_dv, zz_abs, zz_max, zz_min, zz_nI, zz_be0, zz_be1, zz_zb, zz_z, zz_l0, zz_l, zz_lcmp, zo_rf, zo_nl, zo_nn, zo_rI, zo_rL, zo_rR, zo_rV, Int.add_zero, Int.zero_add, Int.mul_zero, Int.zero_mul, Int.one_mul, Int.mul_one, if_true, if_false, not_true_eq_false, not_false_eq_true]
    refine zz_Ei (fun _ => ?_) (fun h => absurd h (by omega))
    exact zz_Er ⟨J1, by rw [zk_ah0 hA e0 e1 hown (by omega)], hR1, fun x x1 x2 x3 _ _ => fr1 x x1 x2 x3⟩
  · have hah := zk_ah1 hA e0 e1 hown f0
    have hmh : zz_mh A f t := by
      rcases hown with ⟨p1, _⟩ | ⟨_, p1, _⟩
      · omega
      · exact p1
    have hnr := zz_nr_b hA.1.1 hA.1.2.1 hA.1.2.2.1 hA.1.2.2.2 f0 f1 t0 t1
    have e5 : J1 p 5 = A 3 := hR1.2.1.2.2.1
    have tail : ∀ (J2 : Nat → Int → Int) (wl pd : Int), (∀ x, x ≠ p + 12 → J2 x = J1 x) → zc_rep T R J2 p A → ((wl = 1 ∧ A 3 = 2 ∧ zz_ls A) ∨ (wl = 0 ∧ ¬ (A 3 = 2 ∧ zz_ls A))) → ((pd = 1 ∧ 2 * zz_nr (A 1) f t ≤ A 2) ∨ (pd = 0 ∧ ¬ 2 * zz_nr (A 1) f t ≤ A 2)) → zz_E (fun n => mv_run (mv_cax (d - 1)) mm_11 n 79 [(0, .inr (.inr (some 73))), (1, .inr (.inr (some p))), (2, .inl (mv_c wl))] [.inl (mv_c pd)] (zz_S T J2 R G)) (fun r => ∃ J', r = (some (.inl (mv_c (zz_ahv A e))), zz_S T J' R G) ∧ zc_rep T R J' p A ∧ (∀ x, x ≠ 73 → x ≠ 76 → x ≠ 77 → x ≠ p + 4 → x ≠ p + 12 → J' x = J x)) := by
      intro J2 wl pd fr2 hR2 hw hpd
      refine zz_Em (c_11t (f := f) (t := t) (by omega) hL hp hA hR2 e0 e1 (fun k k0 k1 => by rw [fr2 74 (by omega)]; exact k74 k k0 k1) (by rw [fr2 73 (by omega)]; exact j4) (by rw [fr2 73 (by omega)]; exact j5) f0 f1 t0 t1 hmh (by omega) (by omega)) ?_
      rintro r ⟨v, J', hr, i1, i2, i3, i4⟩
      have hv : v = zz_ahv A e := by
        by_cases q : pd = 1 ∧ (wl = 0 ∨ zz_ls (zz_mv A f t))
        · rw [i3 q, hah.1 ⟨by omega, ?_⟩]
          rcases q.2 with q2 | q2
          · exact Or.inl (by rcases hw with w | w; omega; exact w.2)
          · exact Or.inr q2
        · rw [i4 q, hah.2 (fun h => q ⟨by omega, ?_⟩)]
          rcases h.2 with h2 | h2
          · exact Or.inl (by rcases hw with w | w; exact absurd w.2 h2; exact w.1)
          · exact Or.inr h2
      exact ⟨J', by rw [hr, hv], i1, fun x x1 x2 x3 x4 x5 => by rw [i2 x x4 x5, fr2 x x5, fr1 x x1 x2 x3]⟩
    have tl : ∀ (J2 : Nat → Int → Int) (wl : Int), (∀ x, x ≠ p + 12 → J2 x = J1 x) → zc_rep T R J2 p A → ((wl = 1 ∧ A 3 = 2 ∧ zz_ls A) ∨ (wl = 0 ∧ ¬ (A 3 = 2 ∧ zz_ls A))) → (mv_cax (d - 1) 51 [.inr (.inr (some p)), .inl (mv_c f), .inl (mv_c t)] (zz_S T J2 R G) = some (some (.inl (mv_c (zz_nr (A 1) f t))), zz_S T J2 R G) ∧ J2 p 4 = A 2 ∧ J2 73 4 = f ∧ J2 73 5 = t) := fun J2 wl fr2 hR2 _ => ⟨c_51 (by omega) hL hp hA hR2 f0 f1 t0 t1, hR2.2.1.2.1, by rw [fr2 73 (by omega)]; exact j4, by rw [fr2 73 (by omega)]; exact j5⟩
    by_cases hl2 : A 3 = 2
    · obtain ⟨O, h49⟩ := c_49 (T := T) (J := J1) (R := R) (G := G) (d := d - 1) (p := p) (Y := Y) (A := A) (by omega) hL hp hA hR1
      have hR2 := zc_rep_w (O := O) hp hR1
      obtain ⟨J2, hJ2⟩ : ∃ J2, J2 = zz_w J1 (p + 12) O := ⟨_, rfl⟩
      rw [← hJ2] at h49 hR2
      have fr2 : ∀ x, x ≠ p + 12 → J2 x = J1 x := fun x x2 => by rw [hJ2, zw_n x2]
      clear hJ2
      by_cases hls : zz_ls A
      · rw [zz_b_t hls] at h49
        obtain ⟨g1, g2, g3, g4⟩ := tl J2 1 fr2 hR2 (Or.inl ⟨rfl, hl2, hls⟩)
        simp (maxSteps := 5000000) (disch := first | assumption | omega) only [h8, j4, j5, e5, h49, g1, g2, g3, g4, zr_73_0, zr_73_1, zr_73_2, zr_73_3, zg_73_4, zp_73_4, zg_73_5, zp_73_5, zi_73, za_74, zs_74, zl_74, za_75, zs_75, zl_75, za_76, zs_76, zl_76, za_77, zs_77, zl_77, zg_L_0, zp_L_0, zg_L_1, zp_L_1, zg_L_2, zp_L_2, zg_L_3, zp_L_3, zg_L_4, zp_L_4, zg_L_5, zp_L_5, zg_L_6, zp_L_6, zg_L_7, zp_L_7, zi_L, zr_L_8, za_L_1, zs_L_1, zr_L_9, za_L_2, zs_L_2, zr_L_10, za_L_3, zs_L_3, zr_L_11, za_L_4, zs_L_4, zr_L_12, za_L_5, zs_L_5, zr_L_13, za_L_6, zs_L_6, zr_L_14, za_L_7, zs_L_7, zr_L_15, za_L_8, zs_L_8, zr_L_16, za_L_9, zs_L_9, zr_L_17, za_L_10, zs_L_10, zr_L_18, za_L_11, zs_L_11, zr_L_19, za_L_12, zs_L_12, zz_0, zz_31, zz_add, zz_sub, zz_mul, zz_neg, zz_lt, zz_le, zz_eq, zz_div, zz_md, zz_dv, zz_abs, zz_max, zz_min, zz_nI, zz_be0, zz_be1, zz_zb, zz_z, zz_l0, zz_l, zz_lcmp, zo_rf, zo_nl, zo_nn, zo_rI, zo_rL, zo_rR, zo_rV, Int.add_zero, Int.zero_add, Int.mul_zero, Int.zero_mul, Int.one_mul, Int.mul_one, if_true, if_false, not_true_eq_false, not_false_eq_true]
        refine zz_Ei (fun h => absurd h (by omega)) (fun _ => ?_)
        refine zz_Ei (fun _ => ?_) (fun h => absurd t0 h)
        refine zz_Ei (fun _ => ?_) (fun h => absurd hl2 h)
        refine zz_Ei (fun h => absurd h (by omega)) (fun _ => ?_)
        refine zz_Ei (fun h => ?_) (fun h => ?_)
        · exact tail J2 1 0 fr2 hR2 (Or.inl ⟨rfl, hl2, hls⟩) (Or.inr ⟨rfl, by omega⟩)
        · exact tail J2 1 1 fr2 hR2 (Or.inl ⟨rfl, hl2, hls⟩) (Or.inl ⟨rfl, by omega⟩)
      · rw [zz_b_f hls] at h49
        have hno : ¬ (A 3 = 2 ∧ zz_ls A) := fun h => hls h.2
        obtain ⟨g1, g2, g3, g4⟩ := tl J2 0 fr2 hR2 (Or.inr ⟨rfl, hno⟩)
        simp (maxSteps := 5000000) (disch := first | assumption | omega) only [h8, j4, j5, e5, h49, g1, g2, g3, g4, zr_73_0, zr_73_1, zr_73_2, zr_73_3, zg_73_4, zp_73_4, zg_73_5, zp_73_5, zi_73, za_74, zs_74, zl_74, za_75, zs_75, zl_75, za_76, zs_76, zl_76, za_77, zs_77, zl_77, zg_L_0, zp_L_0, zg_L_1, zp_L_1, zg_L_2, zp_L_2, zg_L_3, zp_L_3, zg_L_4, zp_L_4, zg_L_5, zp_L_5, zg_L_6, zp_L_6, zg_L_7, zp_L_7, zi_L, zr_L_8, za_L_1, zs_L_1, zr_L_9, za_L_2, zs_L_2, zr_L_10, za_L_3, zs_L_3, zr_L_11, za_L_4, zs_L_4, zr_L_12, za_L_5, zs_L_5, zr_L_13, za_L_6, zs_L_6, zr_L_14, za_L_7, zs_L_7, zr_L_15, za_L_8, zs_L_8, zr_L_16, za_L_9, zs_L_9, zr_L_17, za_L_10, zs_L_10, zr_L_18, za_L_11, zs_L_11, zr_L_19, za_L_12, zs_L_12, zz_0, zz_31, zz_add, zz_sub, zz_mul, zz_neg, zz_lt, zz_le, zz_eq, zz_div, zz_md, zz_dv, zz_abs, zz_max, zz_min, zz_nI, zz_be0, zz_be1, zz_zb, zz_z, zz_l0, zz_l, zz_lcmp, zo_rf, zo_nl, zo_nn, zo_rI, zo_rL, zo_rR, zo_rV, Int.add_zero, Int.zero_add, Int.mul_zero, Int.zero_mul, Int.one_mul, Int.mul_one, if_true, if_false, not_true_eq_false, not_false_eq_true]
        refine zz_Ei (fun h => absurd h (by omega)) (fun _ => ?_)
        refine zz_Ei (fun _ => ?_) (fun h => absurd t0 h)
        refine zz_Ei (fun _ => ?_) (fun h => absurd hl2 h)
        refine zz_Ei (fun h => ?_) (fun h => ?_)
        · exact tail J2 0 0 fr2 hR2 (Or.inr ⟨rfl, hno⟩) (Or.inr ⟨rfl, by omega⟩)
        · exact tail J2 0 1 fr2 hR2 (Or.inr ⟨rfl, hno⟩) (Or.inl ⟨rfl, by omega⟩)
    · have hno : ¬ (A 3 = 2 ∧ zz_ls A) := fun h => hl2 h.1
      obtain ⟨g1, g2, g3, g4⟩ := tl J1 0 (fun _ _ => rfl) hR1 (Or.inr ⟨rfl, hno⟩)
      simp (maxSteps := 5000000) (disch := first | assumption | omega) only [h8, j4, j5, e5, g1, g2, zr_73_0, zr_73_1, zr_73_2, zr_73_3, zg_73_4, zp_73_4, zg_73_5, zp_73_5, zi_73, za_74, zs_74, zl_74, za_75, zs_75, zl_75, za_76, zs_76, zl_76, za_77, zs_77, zl_77, zg_L_0, zp_L_0, zg_L_1, zp_L_1, zg_L_2, zp_L_2, zg_L_3, zp_L_3, zg_L_4, zp_L_4, zg_L_5, zp_L_5, zg_L_6, zp_L_6, zg_L_7, zp_L_7, zi_L, zr_L_8, za_L_1, zs_L_1, zr_L_9, za_L_2, zs_L_2, zr_L_10, za_L_3, zs_L_3, zr_L_11, za_L_4, zs_L_4, zr_L_12, za_L_5, zs_L_5, zr_L_13, za_L_6, zs_L_6, zr_L_14, za_L_7, zs_L_7, zr_L_15, za_L_8, zs_L_8, zr_L_16, za_L_9, zs_L_9, zr_L_17, za_L_10, zs_L_10, zr_L_18, za_L_11, zs_L_11, zr_L_19, za_L_12, zs_L_12, zz_0, zz_31, zz_add, zz_sub, zz_mul, zz_neg, zz_lt, zz_le, zz_eq, zz_div, zz_md, zz_dv, zz_abs, zz_max, zz_min, zz_nI, zz_be0, zz_be1, zz_zb, zz_z, zz_l0, zz_l, zz_lcmp, zo_rf, zo_nl, zo_nn, zo_rI, zo_rL, zo_rR, zo_rV, Int.add_zero, Int.zero_add, Int.mul_zero, Int.zero_mul, Int.one_mul, Int.mul_one, if_true, if_false, not_true_eq_false, not_false_eq_true]
      refine zz_Ei (fun h => absurd h (by omega)) (fun _ => ?_)
      refine zz_Ei (fun _ => ?_) (fun h => absurd t0 h)
      refine zz_Ei (fun h => absurd h hl2) (fun _ => ?_)
      refine zz_Ei (fun h => ?_) (fun h => ?_)
      · exact tail J1 0 0 (fun _ _ => rfl) hR1 (Or.inr ⟨rfl, hno⟩) (Or.inr ⟨rfl, by omega⟩)
      · exact tail J1 0 1 (fun _ _ => rfl) hR1 (Or.inr ⟨rfl, hno⟩) (Or.inl ⟨rfl, by omega⟩)
end ZAH2
