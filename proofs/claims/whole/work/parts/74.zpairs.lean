/-! PURE LAYER, 54: the class digs by pairs -/
section ZPRS
variable {T : List mv_T} {J J' : Nat → Int → Int} {R : Nat → Nat → Option Nat} {G : Nat → Nat → Int64} {d p : Nat} {Y : Int} {A A' : Int → Int}
theorem zz_nr_s (c a : Int) : zz_nr c a a = 0 := by
  unfold zz_nr
  omega
theorem zs_dp_r (h : zs_dp T R p Y J A J' A') : zs_dp T R p Y J' A' J' A' := by
  obtain ⟨i1, i2, i3, i4, i5, i6, i7, i8⟩ := h
  refine ⟨i1, i2, ?_, fun _ _ => rfl, fun _ _ _ _ _ => rfl, fun _ _ _ => rfl, i7, i8⟩
  rw [i4 0 (by omega), i4 1 (by omega)]
  exact i3
theorem zs_dp_t {J2 : Nat → Int → Int} {A2 : Int → Int} (h : zs_dp T R p Y J A J' A') (h' : zs_dp T R p Y J' A' J2 A2) : zs_dp T R p Y J A J2 A2 := by
  obtain ⟨i1, i2, i3, i4, i5, i6, i7, i8⟩ := h
  obtain ⟨j1, j2, j3, j4, j5, j6, j7, j8⟩ := h'
  rw [i4 0 (by omega), i4 1 (by omega)] at j3
  exact ⟨j1, j2, j3, fun y hy => by rw [j4 y hy, i4 y hy], fun x x1 x2 x3 x4 => by rw [j5 x x1 x2 x3 x4, i5 x x1 x2 x3 x4], fun y y1 y2 => by rw [j6 y y1 y2, i6 y y1 y2], j7, j8⟩
def zs_iv (T : List mv_T) (R : Nat → Nat → Option Nat) (p : Nat) (Y : Int) (must : Prop) (J : Nat → Int → Int) (A : Int → Int) (k : Int) (q : (Nat → Int → Int) × (Int → Int)) : Prop := zs_dp T R p Y J A q.1 q.2 ∧ ∀ r, zz_dg must k (q.2, q.1 78 1, q.1 78 0) r → zz_dg must 256 (A, J 78 1, J 78 0) r
theorem zs_iv_s {must : Prop} {k k' : Int} {q : (Nat → Int → Int) × (Int → Int)} (h : zs_iv T R p Y must J A k q) (h1 : k' ≤ 1792) (h2 : k ≤ k') (h3 : ∀ j, k ≤ j → j < k' → ¬ zz_el q.2 j) : zs_iv T R p Y must J A k' q := ⟨h.1, fun r hr => h.2 r (zz_dg_skips h1 h2 h3 hr)⟩
theorem c_16p {μ : Int} {must : Prop} (hd : 5 ≤ d) (hL : ZL T R) (hp : Lnd p) (hR : zs_dp T R p Y J A J A) (hμ : (μ = 1 ∧ must) ∨ (μ = 0 ∧ ¬ must)) {Q : Option mv_V × mv_S → Prop} (hQ : ∀ J' A', zs_dp T R p Y J A J' A' → zz_dg must 256 (A, J 78 1, J 78 0) (A', J' 78 1, J' 78 0) → Q (none, zz_S T J' R G)) :
    zz_E (fun n => mv_run (mv_cax d) mm_16 n 11 [(0, .inr (.inr (some 78))), (1, .inr (.inr (some p))), (2, .inl (mv_c μ)), (3, .inl (mv_c 1))] [] (zz_S T J R G)) Q := by
  have hA := hR.1
  have hn := hA.n
  have hpl : p + 12 < 78 := by rcases hp with rfl | rfl | rfl | rfl <;> omega
  have e2 : ∀ J' A', zs_dp T R p Y J A J' A' → J' p 2 = A 0 * A 1 := fun J' A' h => by
    have := h.2.1.1.1.2.2
    rw [h.2.2.2.1 0 (by omega), h.2.2.2.1 1 (by omega)] at this
    exact this
  refine zz_loop (α := (Nat → Int → Int) × (Int → Int)) (run := fun N q n => mv_run (mv_cax d) mm_16 n 11 [(0, .inr (.inr (some 78))), (1, .inr (.inr (some p))), (2, .inl (mv_c μ)), (3, .inl (mv_c N))] [] (zz_S T q.1 R G)) 7 (fun N q => 1 ≤ N ∧ zs_iv T R p Y must J A (256 * N) q) ?_ ?_ 6 1 (J, A) (by omega) ⟨by omega, hR, fun r hr => by
    have hr : zz_dg must (256 * 1) (A, J 78 1, J 78 0) r := hr
    rw [Int.mul_one] at hr
    exact hr⟩
  · rintro N q ⟨hN, hq⟩ hN7 kN
    refine zz_Es (fun n => e_16_11 _ _ _ _ _) ?_
    simp (maxSteps := 5000000) (disch := first | assumption | omega) only [zz_0, zz_31, zz_add, zz_sub, zz_mul, zz_neg, zz_lt, zz_le, zz_eq, zz_div, zz_md, zz_dv, zz_abs, zz_max, zz_min, zz_nI, zz_be0, zz_be1, zz_zb, zz_z, zz_l0, zz_l, zz_lcmp, zo_rf, zo_nl, zo_nn, zo_rI, zo_rL, zo_rR, zo_rV, Int.add_zero, Int.zero_add, Int.mul_zero, Int.zero_mul, Int.one_mul, Int.mul_one, if_true, if_false, not_true_eq_false, not_false_eq_true]
    refine zz_Ei (fun h => absurd h (by omega)) (fun _ => ?_)
    refine zz_loop (α := (Nat → Int → Int) × (Int → Int)) (run := fun a q n => mv_run (mv_cax d) mm_16 n 20 [(0, .inr (.inr (some 78))), (1, .inr (.inr (some p))), (2, .inl (mv_c μ)), (3, .inl (mv_c N)), (4, .inl (mv_c a))] [] (zz_S T q.1 R G)) (A 0 * A 1) (fun a q => 0 ≤ a ∧ zs_iv T R p Y must J A (256 * N + 16 * a) q) ?_ ?_ (A 0 * A 1).toNat 0 q (by omega) ⟨by omega, by rw [Int.mul_zero, Int.add_zero]; exact hq⟩
    · rintro a q ⟨ha, hq⟩ ha1 ka
      have e2q := e2 _ _ hq.1
      refine zz_Es (fun n => e_16_20 _ _ _ _ _ _) ?_
      simp (maxSteps := 5000000) (disch := first | assumption | omega) only [zg_L_2, e2q, zz_0, zz_31, zz_add, zz_sub, zz_mul, zz_neg, zz_lt, zz_le, zz_eq, zz_div, zz_md, zz_dv, zz_abs, zz_max, zz_min, zz_nI, zz_be0, zz_be1, zz_zb, zz_z, zz_l0, zz_l, zz_lcmp, zo_rf, zo_nl, zo_nn, zo_rI, zo_rL, zo_rR, zo_rV, Int.add_zero, Int.zero_add, Int.mul_zero, Int.zero_mul, Int.one_mul, Int.mul_one, if_true, if_false, not_true_eq_false, not_false_eq_true]
      refine zz_Ei (fun h => absurd h (by omega)) (fun _ => ?_)
      have nexta : ∀ b q, 0 ≤ b → b ≤ 16 → zs_iv T R p Y must J A (256 * N + 16 * a + b) q → (∀ j, 256 * N + 16 * a + b ≤ j → j < 256 * N + 16 * (a + 1) → ¬ zz_el q.2 j) → zz_E (fun n => mv_run (mv_cax d) mm_16 n 20 [(0, .inr (.inr (some 78))), (1, .inr (.inr (some p))), (2, .inl (mv_c μ)), (3, .inl (mv_c N)), (4, .inl (mv_c (a + 1)))] [] (zz_S T q.1 R G)) Q := fun b q b0 b1 h h' => ka q ⟨by omega, zs_iv_s h (by omega) (by omega) h'⟩
      refine zz_loop (α := (Nat → Int → Int) × (Int → Int)) (run := fun b q n => mv_run (mv_cax d) mm_16 n 32 [(0, .inr (.inr (some 78))), (1, .inr (.inr (some p))), (2, .inl (mv_c μ)), (3, .inl (mv_c N)), (4, .inl (mv_c a)), (5, .inl (mv_c b))] [] (zz_S T q.1 R G)) (A 0 * A 1) (fun b q => 0 ≤ b ∧ zs_iv T R p Y must J A (256 * N + 16 * a + b) q) ?_ ?_ (A 0 * A 1).toNat 0 q (by omega) ⟨by omega, by rw [Int.add_zero]; exact hq⟩
      · rintro b ⟨J', A'⟩ ⟨hb, hq⟩ hb1 kb
        have hq : zs_iv T R p Y must J A (256 * N + 16 * a + b) (J', A') := hq
        have hdp : zs_dp T R p Y J A J' A' := hq.1
        obtain ⟨i1, i2, i3, i4, i5, i6, i7, i8⟩ := id hdp
        have e2q := e2 _ _ hdp
        have m0 := i4 0 (by omega)
        have m1 := i4 1 (by omega)
        have ea := zz_exr i1 a ha (by rw [m0, m1]; exact ha1)
        rw [← i3 a ha ha1] at ea
        have e51 := c_51 (T := T) (J := J') (R := R) (G := G) (d := d) (by omega) hL hp i1 i2 ha (by rw [m0, m1]; exact ha1) hb (by rw [m0, m1]; exact hb1)
        have hnr := zz_nr_b (c := A' 1) (a := a) (b := b) i1.1.1 i1.1.2.1 i1.1.2.2.1 i1.1.2.2.2 ha (by rw [m0, m1]; exact ha1) hb (by rw [m0, m1]; exact hb1)
        refine zz_Es (fun n => e_16_32 _ _ _ _ _ _ _) ?_
        simp (maxSteps := 5000000) (disch := first | assumption | omega) only [zr_78_2, za_79, zg_L_2, e2q, zi_L, e51, zz_0, zz_31, zz_add, zz_sub, zz_mul, zz_neg, zz_lt, zz_le, zz_eq, zz_div, zz_md, zz_dv, zz_abs, zz_max, zz_min, zz_nI, zz_be0, zz_be1, zz_zb, zz_z, zz_l0, zz_l, zz_lcmp, zo_rf, zo_nl, zo_nn, zo_rI, zo_rL, zo_rR, zo_rV, Int.add_zero, Int.zero_add, Int.mul_zero, Int.zero_mul, Int.one_mul, Int.mul_one, if_true, if_false, not_true_eq_false, not_false_eq_true]
        refine zz_Ei (fun h => nexta b (J', A') hb (by omega) hq (fun j j0 j1 hel => ?_)) (fun g1 => ?_)
        · obtain ⟨-, -, -, ho, -⟩ := hel
          have ho : zz_ov A' (j / 16 % 16) := ho
          rw [show j / 16 % 16 = a by omega] at ho
          have := (zs_exa ho.2.2).mpr ho
          rw [← i3 a ha ha1] at this
          omega
        refine zz_Ei (fun h => absurd h (by omega)) (fun _ => ?_)
        refine zz_Ei (fun g3 => ?_) (fun g3 => ?_)
        · obtain ⟨f, J2, A2, h17, hd2, hf⟩ := c_17 (T := T) (J := J') (R := R) (G := G) (d := d) (p := p) (Y := Y) (A := A') (a := a) (b := b) (μ := μ) (N := N) (must := must) (by omega) hL hp (zs_dp_r hdp) ha (by rw [m0, m1]; exact ha1) hb (by rw [m0, m1]; exact hb1) (fun q => by
            subst q
            have := zz_nr_s (A' 1) a
            omega) g3 hN (by omega) hμ
          have hfr : f = 0 ∨ f = 1 := by omega
          simp (maxSteps := 5000000) (disch := first | assumption | omega) only [zi_78, h17, zz_0, zz_31, zz_add, zz_sub, zz_mul, zz_neg, zz_lt, zz_le, zz_eq, zz_div, zz_md, zz_dv, zz_abs, zz_max, zz_min, zz_nI, zz_be0, zz_be1, zz_zb, zz_z, zz_l0, zz_l, zz_lcmp, zo_rf, zo_nl, zo_nn, zo_rI, zo_rL, zo_rR, zo_rV, Int.add_zero, Int.zero_add, Int.mul_zero, Int.zero_mul, Int.one_mul, Int.mul_one, if_true, if_false, not_true_eq_false, not_false_eq_true]
          refine zz_Ei (fun h => ?_) (fun h => ?_)
          · rcases hf with ⟨hf0, hf⟩ | ⟨hf0, hf⟩
            · omega
            · exact zz_Er (hQ J2 A2 (zs_dp_t hdp hd2) (hq.2 _ hf))
          · rcases hf with ⟨hf0, hf⟩ | ⟨hf0, hf⟩
            · exact kb (J2, A2) ⟨by omega, zs_dp_t hdp hd2, fun r hr => hq.2 r (hf r (by rw [Int.add_assoc (256 * N + 16 * a) b 1]; exact hr))⟩
            · exact absurd hf0 h
        · refine kb (J', A') ⟨by omega, zs_iv_s hq (by omega) (by omega) (fun j j0 j1 hel => ?_)⟩
          obtain ⟨-, -, hel, -, -⟩ := hel
          have hel : zz_nr (A' 1) (j / 16 % 16) (j % 16) = j / 256 := hel
          rw [show j / 16 % 16 = a by omega, show j % 16 = b by omega, show j / 256 = N by omega] at hel
          exact g3 hel
      · rintro ⟨J', A'⟩ ⟨_, hq⟩
        have hq : zs_iv T R p Y must J A (256 * N + 16 * a + A 0 * A 1) (J', A') := hq
        have hdp : zs_dp T R p Y J A J' A' := hq.1
        obtain ⟨i1, i2, i3, i4, i5, i6, i7, i8⟩ := id hdp
        have e2q := e2 _ _ hdp
        have m0 := i4 0 (by omega)
        have m1 := i4 1 (by omega)
        have ea := zz_exr i1 a ha (by rw [m0, m1]; exact ha1)
        rw [← i3 a ha ha1] at ea
        have nel : ∀ j, 256 * N + 16 * a + A 0 * A 1 ≤ j → j < 256 * N + 16 * (a + 1) → ¬ zz_el (J', A').2 j := fun j j0 j1 hel => by
          obtain ⟨-, hel, -, -, -⟩ := hel
          have hel : j % 16 < A' 0 * A' 1 := hel
          rw [m0, m1] at hel
          omega
        refine zz_Es (fun n => e_16_32 _ _ _ _ _ _ _) ?_
        simp (maxSteps := 5000000) (disch := first | assumption | omega) only [zz_0, zo_rf, zr_78_2, za_79, zg_L_2, e2q, zz_le, zz_add]
        refine zz_Ei (fun h => nexta _ (J', A') (by omega) (by omega) hq nel) (fun g1 => ?_)
        refine zz_Ei (fun h => nexta _ (J', A') (by omega) (by omega) hq nel) (fun h => absurd (Int.le_refl _) h)
    · rintro ⟨J', A'⟩ ⟨_, hq⟩
      have hq : zs_iv T R p Y must J A (256 * N + 16 * (A 0 * A 1)) (J', A') := hq
      have hdp : zs_dp T R p Y J A J' A' := hq.1
      have e2q := e2 _ _ hdp
      have m0 := hdp.2.2.2.1 0 (by omega)
      have m1 := hdp.2.2.2.1 1 (by omega)
      refine zz_Es (fun n => e_16_20 _ _ _ _ _ _) ?_
      simp (maxSteps := 5000000) (disch := first | assumption | omega) only [zz_0, zo_rf, zg_L_2, e2q, zz_le, zz_add]
      refine zz_Ei (fun _ => ?_) (fun h => absurd (Int.le_refl _) h)
      refine kN (J', A') ⟨by omega, zs_iv_s hq (by omega) (by omega) (fun j j0 j1 hel => ?_)⟩
      obtain ⟨hel, -, -, -, -⟩ := hel
      have hel : j / 16 % 16 < A' 0 * A' 1 := hel
      rw [m0, m1] at hel
      omega
  · rintro q ⟨_, hq⟩
    refine zz_Es (fun n => e_16_11 _ _ _ _ _) ?_
    simp (maxSteps := 5000000) (disch := first | assumption | omega) only [zz_0, zz_31, zz_add, zz_sub, zz_mul, zz_neg, zz_lt, zz_le, zz_eq, zz_div, zz_md, zz_dv, zz_abs, zz_max, zz_min, zz_nI, zz_be0, zz_be1, zz_zb, zz_z, zz_l0, zz_l, zz_lcmp, zo_rf, zo_nl, zo_nn, zo_rI, zo_rL, zo_rR, zo_rV, Int.add_zero, Int.zero_add, Int.mul_zero, Int.zero_mul, Int.one_mul, Int.mul_one, if_true, if_false, not_true_eq_false, not_false_eq_true]
    refine zz_Ei (fun _ => ?_) (fun h => absurd (by omega) h)
    exact zz_Er (hQ q.1 q.2 hq.1 (hq.2 _ (zz_dg_end (by omega))))
end ZPRS
