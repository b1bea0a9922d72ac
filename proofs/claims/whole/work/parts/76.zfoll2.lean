/-! PURE LAYER, 56: the class follows the map -/
section ZFO2
variable {T : List mv_T} {J : Nat → Int → Int} {R : Nat → Nat → Option Nat} {G : Nat → Nat → Int64} {d p : Nat} {Y : Int} {A : Int → Int}
def zs_fo (T : List mv_T) (R : Nat → Nat → Option Nat) (p : Nat) (Y : Int) (J : Nat → Int → Int) (A : Int → Int) (J' : Nat → Int → Int) (A' : Int → Int) : Prop := zz_ok Y A' ∧ zc_rep T R J' p A' ∧ (∀ y, y < 8 ∨ 24 ≤ y → A' y = A y) ∧ (∀ x, x ≠ 78 → x ≠ p + 4 → x ≠ p + 12 → (x < 79 ∨ x = 84 ∨ 104 < x) → J' x = J x) ∧ (0 ≤ J' 78 1 ∧ J' 78 1 ≤ 999) ∧ zz_dgd A A' (J' 78 1) (J' 78 0)
theorem c_14 (hd : 7 ≤ d) (hL : ZL T R) (hp : Lnd p) (hA : zz_ok Y A) (hR : zc_rep T R J p A) :
    ∃ J' A', mv_cax d 14 [.inr (.inr (some 78)), .inr (.inr (some p))] (zz_S T J R G) = some (none, zz_S T J' R G) ∧ zs_fo T R p Y J A J' A' := by
  have hn := hA.n
  have hpl : p + 12 < 78 := by rcases hp with rfl | rfl | rfl | rfl <;> omega
  suffices h : ∃ r, mv_cax d 14 [.inr (.inr (some 78)), .inr (.inr (some p))] (zz_S T J R G) = some r ∧ ∃ J' A', r = (none, zz_S T J' R G) ∧ zs_fo T R p Y J A J' A' by
    obtain ⟨r, q1, J', A', rfl, q2⟩ := h
    exact ⟨J', A', q1, q2⟩
  refine zz_call (by omega) t_14 rfl (fun n => e_14 _ _ _) ?_
  obtain ⟨Q, hQ⟩ : ∃ Q : Option mv_V × mv_S → Prop, Q = fun r => ∃ J' A', r = (none, zz_S T J' R G) ∧ zs_fo T R p Y J A J' A' := ⟨_, rfl⟩
  rw [← hQ]
  have e4 : J p 4 = A 2 := hR.2.1.2.1
  have e5 : J p 5 = A 3 := hR.2.1.2.2.1
  have hA2 := hA.2.1
  have hA3 := hA.2.2.1
  obtain ⟨J1, hJ1⟩ : ∃ J1, J1 = zz_u (zz_u J 78 0 0) 78 1 (A 2) := ⟨_, rfl⟩
  have f1 : ∀ x, x ≠ 78 → J1 x = J x := fun x hx => by rw [hJ1, zu_A hx, zu_A hx]
  have s1 : J1 78 1 = A 2 := by rw [hJ1, zu_s]
  have s0 : J1 78 0 = 0 := by rw [hJ1, zu_k (by omega), zu_s]
  have hR1 : zc_rep T R J1 p A := zc_rep_f hR (fun x hx => f1 x (by omega))
  have g4 : J1 p 4 = A 2 := by rw [f1 p (by omega)]; exact e4
  have g5 : J1 p 5 = A 3 := by rw [f1 p (by omega)]; exact e5
  simp (maxSteps := 5000000) (disch := first | assumption | omega) only [zp_78_0, zp_78_1, zg_L_4, zg_L_5, zu_A, e4, e5, zz_0, zz_31, zz_add, zz_sub, zz_mul, zz_neg, zz_lt, zz_le, zz_eq, zz_div, zz_md, zz_dv, zz_abs, zz_max, zz_min, zz_nI, zz_be0, zz_be1, zz_zb, zz_z, zz_l0, zz_l, zz_lcmp, zo_rf, zo_nl, zo_nn, zo_rI, zo_rL, zo_rR, zo_rV, Int.add_zero, Int.zero_add, Int.mul_zero, Int.zero_mul, Int.one_mul, Int.mul_one, if_true, if_false, not_true_eq_false, not_false_eq_true]
  rw [← hJ1]
  refine zz_Ei (fun h0 => ?_) (fun h0 => ?_)
  · obtain ⟨K, J2, h19, hK, hE, ⟨hf, hf2⟩⟩ := c_19 (T := T) (J := J1) (R := R) (G := G) (d := d - 1) (p := p) (Y := Y) (A := A) (q := p + 5) (by omega) hL hp hA hR1 (by omega) (fun J' c k c0 c1 => za_L_5 hL hp c0 (by omega)) (fun c c0 c1 => (zs_sdr hA hR1 c0 c1).1)
    have hex : ∀ c, 0 ≤ c → c < A 0 * A 1 → zz_ex A (J1 (p + 5)) c = zz_ex A (fun c => A (24 + c)) c := fun c c0 c1 => (zs_sdr hA hR1 c0 c1).2
    have hK' : zz_lst A (zz_ex A (fun c => A (24 + c))) K := by
      rcases hK with ⟨k1, k2⟩ | ⟨k1, k2, k3, k4⟩
      · exact Or.inl ⟨(zs_bad_c (by omega) hex).mp k1, k2⟩
      · exact Or.inr ⟨fun q => k1 ((zs_bad_c (by omega) hex).mpr q), k2, k3, zs_cert_c hex k4⟩
    have hKr : -4 ≤ K ∧ K ≤ 2000 := by
      rcases hK with ⟨k1, k2⟩ | ⟨k1, k2, k3, k4⟩ <;> omega
    have hR2 : zc_rep T R J2 p A := zc_rep_f hR1 (fun x hx => hf x (by omega) (by omega))
    have g4' : J2 p 4 = A 2 := hR2.2.1.2.1
    have t1 : J2 78 1 = A 2 := by rw [hf2 1 (by omega) (by omega)]; exact s1
    have t0 : J2 78 0 = 0 := by rw [hf2 0 (by omega) (by omega)]; exact s0
    have stay : (K < 0 ∨ A 2 < K) → Q (none, zz_S T J2 R G) := fun h => by
      rw [hQ]
      refine ⟨J2, A, rfl, hA, hR2, fun _ _ => rfl, fun x x1 x2 x3 x4 => by rw [hf x x1 x4, f1 x x1], by rw [t1]; omega, Or.inl ⟨h0, K, hK', Or.inl ⟨h, rfl, t1, t0⟩⟩⟩
    simp (maxSteps := 5000000) (disch := first | assumption | omega) only [zr_L_12, zi_78, h19, zg_L_4, g4', zz_0, zz_31, zz_add, zz_sub, zz_mul, zz_neg, zz_lt, zz_le, zz_eq, zz_div, zz_md, zz_dv, zz_abs, zz_max, zz_min, zz_nI, zz_be0, zz_be1, zz_zb, zz_z, zz_l0, zz_l, zz_lcmp, zo_rf, zo_nl, zo_nn, zo_rI, zo_rL, zo_rR, zo_rV, Int.add_zero, Int.zero_add, Int.mul_zero, Int.zero_mul, Int.one_mul, Int.mul_one, if_true, if_false, not_true_eq_false, not_false_eq_true]
    refine zz_Ei (fun h => zz_Er (stay (Or.inl h))) (fun k0 => ?_)
    refine zz_Ei (fun h => zz_Er (stay (Or.inr h))) (fun k1 => ?_)
    obtain ⟨J3, h15, hR3, hf3, hf4, hs⟩ := c_15 (T := T) (J := zz_u J2 78 1 (A 2 - K)) (R := R) (G := G) (d := d - 1) (p := p) (Y := Y) (A := A) (by omega) hL hp hA (zc_rep_f hR2 (fun x hx => zu_A (by omega))) (fun c c0 c1 => by
      rw [zu_A (by omega), hE c c0 c1]
      exact hex c c0 c1)
    simp (maxSteps := 5000000) (disch := first | assumption | omega) only [zi_78, h15, zp_78_1, zz_0, zz_31, zz_add, zz_sub, zz_mul, zz_neg, zz_lt, zz_le, zz_eq, zz_div, zz_md, zz_dv, zz_abs, zz_max, zz_min, zz_nI, zz_be0, zz_be1, zz_zb, zz_z, zz_l0, zz_l, zz_lcmp, zo_rf, zo_nl, zo_nn, zo_rI, zo_rL, zo_rR, zo_rV, Int.add_zero, Int.zero_add, Int.mul_zero, Int.zero_mul, Int.one_mul, Int.mul_one, if_true, if_false, not_true_eq_false, not_false_eq_true]
    refine zz_Er ?_
    rw [hQ]
    have u1 : J3 78 1 = A 2 - K := by rw [hf4 1 (by omega), zu_s]
    rw [zu_k (by omega), t0, Int.zero_add] at hs
    refine ⟨J3, zz_hm A, rfl, zz_ok_hm hA, hR3, fun y hy => ?_, fun x x1 x2 x3 x4 => by rw [hf3 x x1 x2, zu_A x1, hf x x1 x4, f1 x x1], by rw [u1]; omega, Or.inl ⟨h0, K, hK', Or.inr ⟨by omega, by omega, rfl, u1, hs⟩⟩⟩
    unfold zz_hm
    exact if_neg (by omega)
  · -- by pairs
    have fin : ∀ (J2 : Nat → Int → Int), (∀ x, x ≠ p + 12 → J2 x = J1 x) → zc_rep T R J2 p A → ∀ μ : Int, ((μ = 1 ∧ (A 3 = 2 ∧ zz_ls A)) ∨ (μ = 0 ∧ ¬ (A 3 = 2 ∧ zz_ls A))) → ∃ J' : Nat → Int → Int, mv_cax (d - 1) 16 [.inr (.inr (some 78)), .inr (.inr (some p)), .inl (mv_c μ)] (zz_S T J2 R G) = some (none, zz_S T J' R G) ∧ Q (none, zz_S T J' R G) := by
      intro J2 hf hR2 μ hμ
      have v78 : J2 78 = J1 78 := hf 78 (by omega)
      obtain ⟨J', A', h16, ⟨i1, i2, i3, i4, i5, i6, i7⟩, hdg⟩ := c_16 (T := T) (J := J2) (R := R) (G := G) (d := d - 1) (p := p) (Y := Y) (A := A) (by omega) hL hp hA hR2 (by rw [v78, s1]; omega) (by rw [v78, s1]; omega) hμ
      rw [v78, s1, s0] at hdg
      refine ⟨J', h16, ?_⟩
      rw [hQ]
      exact ⟨J', A', rfl, i1, i2, i3, fun x x1 x2 x3 x4 => by rw [i4 x x1 (by omega) x2 x3, hf x x3, f1 x x1], ⟨i6, i7⟩, Or.inr ⟨h0, hdg⟩⟩
    refine zz_Ei (fun h2 => ?_) (fun h2 => ?_)
    · obtain ⟨O, h49⟩ := c_49 (T := T) (J := J1) (R := R) (G := G) (d := d - 1) (p := p) (Y := Y) (A := A) (by omega) hL hp hA hR1
      by_cases hls : zz_ls A
      · rw [zz_b_t hls] at h49
        obtain ⟨J', h16, hq⟩ := fin (zz_w J1 (p + 12) O) (fun x hx => zw_n hx) (zc_rep_w hp hR1) 1 (Or.inl ⟨rfl, h2, hls⟩)
        simp (maxSteps := 5000000) (disch := first | assumption | omega) only [zi_L, zi_78, h49, h16, zz_0, zz_31, zz_add, zz_sub, zz_mul, zz_neg, zz_lt, zz_le, zz_eq, zz_div, zz_md, zz_dv, zz_abs, zz_max, zz_min, zz_nI, zz_be0, zz_be1, zz_zb, zz_z, zz_l0, zz_l, zz_lcmp, zo_rf, zo_nl, zo_nn, zo_rI, zo_rL, zo_rR, zo_rV, Int.add_zero, Int.zero_add, Int.mul_zero, Int.zero_mul, Int.one_mul, Int.mul_one, if_true, if_false, not_true_eq_false, not_false_eq_true]
        first
          | exact zz_Er hq
          | exact zz_Ei (fun h => absurd h (by omega)) (fun _ => zz_Er hq)
      · rw [zz_b_f hls] at h49
        obtain ⟨J', h16, hq⟩ := fin (zz_w J1 (p + 12) O) (fun x hx => zw_n hx) (zc_rep_w hp hR1) 0 (Or.inr ⟨rfl, fun q => hls q.2⟩)
        simp (maxSteps := 5000000) (disch := first | assumption | omega) only [zi_L, zi_78, h49, h16, zz_0, zz_31, zz_add, zz_sub, zz_mul, zz_neg, zz_lt, zz_le, zz_eq, zz_div, zz_md, zz_dv, zz_abs, zz_max, zz_min, zz_nI, zz_be0, zz_be1, zz_zb, zz_z, zz_l0, zz_l, zz_lcmp, zo_rf, zo_nl, zo_nn, zo_rI, zo_rL, zo_rR, zo_rV, Int.add_zero, Int.zero_add, Int.mul_zero, Int.zero_mul, Int.one_mul, Int.mul_one, if_true, if_false, not_true_eq_false, not_false_eq_true]
        first
          | exact zz_Er hq
          | exact zz_Ei (fun _ => zz_Er hq) (fun h => absurd rfl h)
    · obtain ⟨J', h16, hq⟩ := fin J1 (fun _ _ => rfl) hR1 0 (Or.inr ⟨rfl, fun q => h2 q.1⟩)
      simp (maxSteps := 5000000) (disch := first | assumption | omega) only [zi_78, h16, zz_0, zz_31, zz_add, zz_sub, zz_mul, zz_neg, zz_lt, zz_le, zz_eq, zz_div, zz_md, zz_dv, zz_abs, zz_max, zz_min, zz_nI, zz_be0, zz_be1, zz_zb, zz_z, zz_l0, zz_l, zz_lcmp, zo_rf, zo_nl, zo_nn, zo_rI, zo_rL, zo_rR, zo_rV, Int.add_zero, Int.zero_add, Int.mul_zero, Int.zero_mul, Int.one_mul, Int.mul_one, if_true, if_false, not_true_eq_false, not_false_eq_true]
      exact zz_Er hq
end ZFO2
