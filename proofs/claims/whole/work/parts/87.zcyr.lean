/-! PURE LAYER, 67: the class's years in mind -/
theorem zk_shr {a : Int} (h0 : 0 ≤ a) (h1 : a < 2147483648) : mv_c a >>> (mv_c 16 &&& mv_c 31) = mv_c (a / 65536) := by
  have e16 : mv_c 16 &&& mv_c 31 = nI 16 &&& 31 := by decide
  rw [zz_nat h0, e16, pk_shrN (by omega) _ 16 (by decide), zz_nat (by omega)]
  congr 1
  omega
/-- lands of the machine stay so where the houses stay -/
theorem zk_raw_f {T : List mv_T} {R R' : Nat → Nat → Option Nat} {J J' : Nat → Int → Int} {p : Nat} (h : zk_raw T R J p) (h6 : ∀ c, 0 ≤ c → c < 16 → J' (p + 6) c = J (p + 6) c) (h7 : ∀ k, k < 6 → R' (p + 7) k = R (p + 7) k) : zk_raw T R' J' p := ⟨fun c c0 c1 => by rw [h6 c c0 c1]; exact h.1 c c0 c1, fun k a hk ha => h.2 k a hk (by rw [← h7 k hk]; exact ha)⟩
theorem zk_raw_c {T : List mv_T} {R R' : Nat → Nat → Option Nat} {J J' : Nat → Int → Int} {p q : Nat} (h : zk_raw T R J p) (hc : zk_cpd p q J J' R R') : zk_raw T R' J' q := ⟨fun c c0 c1 => by rw [hc.2.2.2.2.2.2.1 c c0 c1]; exact h.1 c c0 c1, fun k a hk ha => h.2 k a hk (by rw [← hc.2.2.2.2.2.2.2.1 k hk]; exact ha)⟩
/-- a call of the class that leaves all but its land 'here', which then is A' -/
def zk_op (T : List mv_T) (R R' : Nat → Nat → Option Nat) (J J' : Nat → Int → Int) (A' : Int → Int) : Prop := zc_rep T R' J' 17 A' ∧ (∀ x, (x < 17 ∨ (56 ≤ x ∧ x ≤ 67) ∨ 115 ≤ x) → J' x = J x) ∧ (∀ x k, x ≠ 37 → x ≠ 50 → R' x k = R x k) ∧ ∀ p, Lnd p → zk_raw T R' J' p
section ZCYR
variable {T : List mv_T} {J : Nat → Int → Int} {R : Nat → Nat → Option Nat} {G : Nat → Nat → Int64} {d p q : Nat} {Y : Int} {A : Int → Int}
theorem zk_op_0 {J' : Nat → Int → Int} {A' : Int → Int} (hraw : ∀ p, Lnd p → zk_raw T R J p) (h1 : zc_rep T R J' 17 A') (h2 : ∀ x, (x < 17 ∨ (56 ≤ x ∧ x ≤ 67) ∨ 115 ≤ x) → J' x = J x) (h6 : J' 23 = J 23 ∧ J' 36 = J 36 ∧ J' 49 = J 49) : zk_op T R R J J' A' := ⟨h1, h2, fun _ _ _ _ => rfl, fun p hp => zk_raw_f (hraw p hp) (fun c _ _ => by rcases hp with rfl | rfl | rfl | rfl; exact congrFun h6.1 c; exact congrFun h6.2.1 c; exact congrFun h6.2.2 c; exact congrFun (h2 62 (by omega)) c) (fun _ _ => rfl)⟩
/-- the mind takes what is here -/
theorem zk_mind (hd : 1 ≤ d) (hL : ZL T R) (hA : zz_ok Y A) (hR : zc_rep T R J 17 A) (hraw : ∀ p, Lnd p → zk_raw T R J p) : ∃ J' R', mv_cax d 32 [.inr (.inr (some 30)), .inr (.inr (some 17))] (zz_S T J R G) = some (none, zz_S T J' R' G) ∧ ZL T R' ∧ zc_rep T R' J' 30 A ∧ zc_rep T R' J' 17 A ∧ (∀ x, (x < 30 ∨ 41 < x) → J' x = J x) ∧ (∀ x k, x ≠ 37 → R' x k = R x k) ∧ ∀ p, Lnd p → zk_raw T R' J' p := by
  obtain ⟨J', R', h1, h2, h3, h4⟩ := c_32 (T := T) (J := J) (R := R) (G := G) (d := d) (p := 17) (q := 30) hd hL (by omega) (by omega) (by omega) (hraw 17 (by omega))
  have hL' : ZL T R' := ZL_R hL (fun x k x1 x2 x3 x4 x5 => h4 x k (by omega))
  refine ⟨J', R', h1, hL', zk_cpd_rep hA h2 hR (fun x hx => h3 x (by omega)), ?_, fun x hx => h3 x (by omega), fun x k hx => h4 x k (by omega), fun p hp => ?_⟩
  · obtain ⟨r1, r2, r3, r4⟩ := zc_rep_f hR (J' := J') (fun x hx => h3 x (by omega))
    exact ⟨r1, r2, r3, fun e e0 e1 => by
      obtain ⟨⟨a, q1, q2⟩, q3⟩ := r4 e e0 e1
      exact ⟨⟨a, by rw [h4 24 _ (by omega)]; exact q1, q2⟩, q3⟩⟩
  · rcases hp with rfl | rfl | rfl | rfl
    · exact zk_raw_f (hraw 17 (by omega)) (fun c _ _ => by rw [h3 (17 + 6) (by omega)]) (fun k _ => h4 _ _ (by omega))
    · exact zk_raw_c (hraw 17 (by omega)) h2
    · exact zk_raw_f (hraw 43 (by omega)) (fun c _ _ => by rw [h3 (43 + 6) (by omega)]) (fun k _ => h4 _ _ (by omega))
    · exact zk_raw_f (hraw 56 (by omega)) (fun c _ _ => by rw [h3 (56 + 6) (by omega)]) (fun k _ => h4 _ _ (by omega))
/-- years go by in mind -/
def zk_mf (J J' : Nat → Int → Int) : Prop := ∀ x, (x < 30 ∨ x = 36 ∨ (42 < x ∧ x < 73) ∨ 106 < x) → J' x = J x
theorem zk_mf_op {J1 J2 : Nat → Int → Int} {R1 : Nat → Nat → Option Nat} (h17 : zc_rep T R1 J1 17 A) (h1 : ∀ x, (x < 30 ∨ 41 < x) → J1 x = J x) (h2 : ∀ x k, x ≠ 37 → R1 x k = R x k) (h3 : ∀ p, Lnd p → zk_raw T R1 J1 p) (hm : zk_mf J1 J2) : zk_op T R R1 J J2 A := ⟨zc_rep_f h17 (fun x hx => hm x (by omega)), fun x hx => by rw [hm x (by omega), h1 x (by omega)], fun x k x1 _ => h2 x k x1, fun p hp => zk_raw_f (h3 p hp) (fun c _ _ => by rw [hm _ (by rcases hp with rfl | rfl | rfl | rfl <;> omega)]) (fun _ _ => rfl)⟩
/-- one year more -/
theorem zk_year {B : Int → Int} {e : Int} {J1 J2 : Nat → Int → Int} (hd : 9 ≤ d) (hL : ZL T R) (hB : zz_ok Y B) (hY : Y + 1 ≤ 1000000000) (hR : zc_rep T R J2 30 B) (hm : zk_mf J1 J2) (e0 : 0 ≤ e) (e1 : e < B 7) : ∃ J3, mv_cax d 128 [.inr (.inr (some 16)), .inr (.inr (some 30)), .inl (mv_c e)] (zz_S T J2 R G) = some (some (.inl (mv_c (zz_of (zz_yf B e) (zz_H B)))), zz_S T J3 R G) ∧ zc_rep T R J3 30 (zz_yf B e) ∧ zz_ok (Y + 1) (zz_yf B e) ∧ (∀ y, (y < 4 ∨ 4 < y ∧ y < 8 ∨ 40 ≤ y) → zz_yf B e y = B y) ∧ zk_mf J1 J3 := by
  obtain ⟨J3, h1, h2, h3, h4, h5⟩ := c_128 (T := T) (J := J2) (R := R) (G := G) (d := d) (p := 30) (Y := Y) (A := B) (e := e) hd hL (by omega) hB hY hR e0 e1
  exact ⟨J3, h1, h2, h3, h4, fun x hx => by rw [h5 x (by omega) (by omega) (by omega) (by omega) (by omega)]; exact hm x hx⟩
theorem zk_ofb {B : Int → Int} {e : Int} (hB : zz_ok Y B) (hY : zz_ok (Y + 1) (zz_yf B e)) (h0 : zz_yf B e 0 = B 0) (h1 : zz_yf B e 1 = B 1) : 0 ≤ zz_of (zz_yf B e) (zz_H B) ∧ zz_of (zz_yf B e) (zz_H B) ≤ 144 := zz_of_b hY (fun c c0 c1 => by
  rw [h0, h1] at c1
  exact (hB.2.2.2.2.2.2.2.1 c c0 c1).1.2)
theorem c_107 (hd : 10 ≤ d) (hL : ZL T R) (hA : zz_ok Y A) (hY : Y + 1 ≤ 1000000000) (hR : zc_rep T R J 17 A) (hraw : ∀ p, Lnd p → zk_raw T R J p) : ∃ v J', mv_cax d 107 [.inr (.inr (some 16))] (zz_S T J R G) = some (some (.inl (mv_c v)), zz_S T J' R G) ∧ ((A 7 = 0 ∧ v = -3 ∧ zk_op T R R J J' A) ∨ (A 7 ≠ 0 ∧ v = zz_of (zz_yn A) (zz_H A) ∧ zk_op T R R J J' (zz_yn A) ∧ zz_ok (Y + 1) (zz_yn A))) := by
  have h7 := hA.2.2.2.2.2.2.1
  have hy := hA.2.2.2.1
  have e7 := hR.2.1.2.2.2.2
  have e6 := hR.2.1.2.2.2.1
  by_cases hz : A 7 = 0
  · refine ⟨-3, J, ?_, Or.inl ⟨hz, rfl, zk_op_0 hraw hR (fun _ _ => rfl) ⟨rfl, rfl, rfl⟩⟩⟩
    rw [hz] at e7
    refine zz_c (zz_call (by omega) t_107 rfl (fun n => e_107 _ _) ?_)
    simp (maxSteps := 5000000) (disch := first | assumption | omega) only [e7, zr_16_0, zr_16_1, zr_16_2, zr_16_3, zg_16_4, zp_16_4, zr_16_5, zr_16_6, zr_16_7, zr_16_8, zr_16_9, zr_16_10, zr_16_11, zr_16_12, zi_16, za_105, zs_105, zl_105, za_106, zs_106, zl_106, zl_107, za_114, zs_114, zl_114, zr_pl, za_pl, zs_pl, zl_pl, zz_0, zz_31, zz_add, zz_sub, zz_mul, zz_neg, zz_lt, zz_le, zz_eq, zz_div, zz_md, zz_dv, zz_abs, zz_max, zz_min, zz_nI, zz_be0, zz_be1, zz_zb, zz_z, zz_l0, zz_l, zz_lcmp, zo_rf, zo_nl, zo_nn, zo_rI, zo_rL, zo_rR, zo_rV, Int.add_zero, Int.zero_add, Int.mul_zero, Int.zero_mul, Int.one_mul, Int.mul_one, if_true, if_false, not_true_eq_false, not_false_eq_true, zg_L_0, zp_L_0, zg_L_1, zp_L_1, zg_L_2, zp_L_2, zg_L_3, zp_L_3, zg_L_4, zp_L_4, zg_L_5, zp_L_5, zg_L_6, zp_L_6, zg_L_7, zp_L_7, zi_L, zr_L_8, za_L_1, zs_L_1, zr_L_9, za_L_2, zs_L_2, zr_L_10, za_L_3, zs_L_3, zr_L_11, za_L_4, zs_L_4, zr_L_12, za_L_5, zs_L_5, zr_L_13, za_L_6, zs_L_6, zr_L_14, za_L_7, zs_L_7, zr_L_15, za_L_8, zs_L_8, zr_L_16, za_L_9, zs_L_9, zr_L_17, za_L_10, zs_L_10, zr_L_18, za_L_11, zs_L_11, zr_L_19, za_L_12, zs_L_12]
    exact zz_Er rfl
  · have hm := zz_yn_y (A := A) (by omega)
    obtain ⟨J3, h1, h2, h3, h4, h5⟩ := c_128 (T := T) (J := J) (R := R) (G := G) (d := d - 1) (p := 17) (Y := Y) (A := A) (e := A 4 % A 7) (by omega) hL (by omega) hA hY hR hm.1 hm.2
    refine ⟨_, J3, ?_, Or.inr ⟨hz, rfl, zk_op_0 hraw h2 (fun x hx => h5 x (by omega) (by omega) (by omega) (by omega) (by omega)) ⟨h5 23 (by omega) (by omega) (by omega) (by omega) (by omega), h5 36 (by omega) (by omega) (by omega) (by omega) (by omega), h5 49 (by omega) (by omega) (by omega) (by omega) (by omega)⟩, h3⟩⟩
    refine zz_c (zz_call (by omega) t_107 rfl (fun n => e_107 _ _) ?_)
    simp (maxSteps := 5000000) (disch := first | assumption | omega) only [e7, e6, h1, zr_16_0, zr_16_1, zr_16_2, zr_16_3, zg_16_4, zp_16_4, zr_16_5, zr_16_6, zr_16_7, zr_16_8, zr_16_9, zr_16_10, zr_16_11, zr_16_12, zi_16, za_105, zs_105, zl_105, za_106, zs_106, zl_106, zl_107, za_114, zs_114, zl_114, zr_pl, za_pl, zs_pl, zl_pl, zz_0, zz_31, zz_add, zz_sub, zz_mul, zz_neg, zz_lt, zz_le, zz_eq, zz_div, zz_md, zz_dv, zz_abs, zz_max, zz_min, zz_nI, zz_be0, zz_be1, zz_zb, zz_z, zz_l0, zz_l, zz_lcmp, zo_rf, zo_nl, zo_nn, zo_rI, zo_rL, zo_rR, zo_rV, Int.add_zero, Int.zero_add, Int.mul_zero, Int.zero_mul, Int.one_mul, Int.mul_one, if_true, if_false, not_true_eq_false, not_false_eq_true, zg_L_0, zp_L_0, zg_L_1, zp_L_1, zg_L_2, zp_L_2, zg_L_3, zp_L_3, zg_L_4, zp_L_4, zg_L_5, zp_L_5, zg_L_6, zp_L_6, zg_L_7, zp_L_7, zi_L, zr_L_8, za_L_1, zs_L_1, zr_L_9, za_L_2, zs_L_2, zr_L_10, za_L_3, zs_L_3, zr_L_11, za_L_4, zs_L_4, zr_L_12, za_L_5, zs_L_5, zr_L_13, za_L_6, zs_L_6, zr_L_14, za_L_7, zs_L_7, zr_L_15, za_L_8, zs_L_8, zr_L_16, za_L_9, zs_L_9, zr_L_17, za_L_10, zs_L_10, zr_L_18, za_L_11, zs_L_11, zr_L_19, za_L_12, zs_L_12]
    refine zz_Ei (fun _ => ?_) (fun h => absurd (by omega) h)
    exact zz_Er rfl
theorem c_108 (hd : 10 ≤ d) (hL : ZL T R) (hA : zz_ok Y A) (hY : Y + 100 ≤ 1000000000) (hR : zc_rep T R J 17 A) (hraw : ∀ p, Lnd p → zk_raw T R J p) : ∃ v J' R', mv_cax d 108 [.inr (.inr (some 16))] (zz_S T J R G) = some (some (.inl (mv_c v)), zz_S T J' R' G) ∧ zk_op T R R' J J' A ∧ ((A 7 = 0 ∧ v = -3) ∨ (A 7 ≠ 0 ∧ v = zz_stl 60 A 0)) := by
  have h7 := hA.2.2.2.2.2.2.1
  have hy := hA.2.2.2.1
  have e7 := hR.2.1.2.2.2.2
  by_cases hz : A 7 = 0
  · refine ⟨-3, J, R, ?_, zk_op_0 hraw hR (fun _ _ => rfl) ⟨rfl, rfl, rfl⟩, Or.inl ⟨hz, rfl⟩⟩
    rw [hz] at e7
    refine zz_c (zz_call (by omega) t_108 rfl (fun n => e_108 _ _) ?_)
    simp (maxSteps := 5000000) (disch := first | assumption | omega) only [e7, zr_16_0, zr_16_1, zr_16_2, zr_16_3, zg_16_4, zp_16_4, zr_16_5, zr_16_6, zr_16_7, zr_16_8, zr_16_9, zr_16_10, zr_16_11, zr_16_12, zi_16, za_105, zs_105, zl_105, za_106, zs_106, zl_106, zl_107, za_114, zs_114, zl_114, zr_pl, za_pl, zs_pl, zl_pl, zz_0, zz_31, zz_add, zz_sub, zz_mul, zz_neg, zz_lt, zz_le, zz_eq, zz_div, zz_md, zz_dv, zz_abs, zz_max, zz_min, zz_nI, zz_be0, zz_be1, zz_zb, zz_z, zz_l0, zz_l, zz_lcmp, zo_rf, zo_nl, zo_nn, zo_rI, zo_rL, zo_rR, zo_rV, Int.add_zero, Int.zero_add, Int.mul_zero, Int.zero_mul, Int.one_mul, Int.mul_one, if_true, if_false, not_true_eq_false, not_false_eq_true, zg_L_0, zp_L_0, zg_L_1, zp_L_1, zg_L_2, zp_L_2, zg_L_3, zp_L_3, zg_L_4, zp_L_4, zg_L_5, zp_L_5, zg_L_6, zp_L_6, zg_L_7, zp_L_7, zi_L, zr_L_8, za_L_1, zs_L_1, zr_L_9, za_L_2, zs_L_2, zr_L_10, za_L_3, zs_L_3, zr_L_11, za_L_4, zs_L_4, zr_L_12, za_L_5, zs_L_5, zr_L_13, za_L_6, zs_L_6, zr_L_14, za_L_7, zs_L_7, zr_L_15, za_L_8, zs_L_8, zr_L_16, za_L_9, zs_L_9, zr_L_17, za_L_10, zs_L_10, zr_L_18, za_L_11, zs_L_11, zr_L_19, za_L_12, zs_L_12]
    exact zz_Er rfl
  · suffices h : ∃ r, mv_cax d 108 [.inr (.inr (some 16))] (zz_S T J R G) = some r ∧ ∃ J' R', r = (some (.inl (mv_c (zz_stl 60 A 0))), zz_S T J' R' G) ∧ zk_op T R R' J J' A by
      obtain ⟨r, h1, J', R', rfl, h2⟩ := h
      exact ⟨_, J', R', h1, h2, Or.inr ⟨hz, rfl⟩⟩
    refine zz_call (by omega) t_108 rfl (fun n => e_108 _ _) ?_
    obtain ⟨J1, R1, m1, hL1, hR30, hR17, m2, m3, m4⟩ := zk_mind (T := T) (J := J) (R := R) (G := G) (d := d - 1) (by omega) hL hA hR hraw
    simp (maxSteps := 5000000) (disch := first | assumption | omega) only [e7, m1, zr_16_0, zr_16_1, zr_16_2, zr_16_3, zg_16_4, zp_16_4, zr_16_5, zr_16_6, zr_16_7, zr_16_8, zr_16_9, zr_16_10, zr_16_11, zr_16_12, zi_16, za_105, zs_105, zl_105, za_106, zs_106, zl_106, zl_107, za_114, zs_114, zl_114, zr_pl, za_pl, zs_pl, zl_pl, zz_0, zz_31, zz_add, zz_sub, zz_mul, zz_neg, zz_lt, zz_le, zz_eq, zz_div, zz_md, zz_dv, zz_abs, zz_max, zz_min, zz_nI, zz_be0, zz_be1, zz_zb, zz_z, zz_l0, zz_l, zz_lcmp, zo_rf, zo_nl, zo_nn, zo_rI, zo_rL, zo_rR, zo_rV, Int.add_zero, Int.zero_add, Int.mul_zero, Int.zero_mul, Int.one_mul, Int.mul_one, if_true, if_false, not_true_eq_false, not_false_eq_true, zg_L_0, zp_L_0, zg_L_1, zp_L_1, zg_L_2, zp_L_2, zg_L_3, zp_L_3, zg_L_4, zp_L_4, zg_L_5, zp_L_5, zg_L_6, zp_L_6, zg_L_7, zp_L_7, zi_L, zr_L_8, za_L_1, zs_L_1, zr_L_9, za_L_2, zs_L_2, zr_L_10, za_L_3, zs_L_3, zr_L_11, za_L_4, zs_L_4, zr_L_12, za_L_5, zs_L_5, zr_L_13, za_L_6, zs_L_6, zr_L_14, za_L_7, zs_L_7, zr_L_15, za_L_8, zs_L_8, zr_L_16, za_L_9, zs_L_9, zr_L_17, za_L_10, zs_L_10, zr_L_18, za_L_11, zs_L_11, zr_L_19, za_L_12, zs_L_12]
    refine zz_Ei (fun _ => ?_) (fun h => absurd (by omega) h)
    generalize hV : zz_stl 60 A 0 = V
    have fin : ∀ J2, zk_mf J1 J2 → ∃ J' R', ((some (.inl (mv_c V)), zz_S T J2 R1 G) : Option mv_V × mv_S) = (some (.inl (mv_c V)), zz_S T J' R' G) ∧ zk_op T R R' J J' A := fun J2 h => ⟨J2, R1, rfl, zk_mf_op hR17 m2 m3 m4 h⟩
    have key : ∀ (k : Nat) (same : Int) (B : Int → Int) (J2 : Nat → Int → Int), k ≤ 60 → 0 ≤ same → same ≤ 60 - k → zk_mf J1 J2 → zc_rep T R1 J2 30 B → zz_ok (Y + (60 - k)) B → B 7 = A 7 → zz_stl k B same = V → zz_E (fun n => mv_run (mv_cax (d - 1)) mm_108 n 31 [(0, .inr (.inr (some 16))), (1, .inl (mv_c (A 7))), (2, .inl (mv_c same)), (3, .inl (mv_c (61 - k)))] [] (zz_S T J2 R1 G)) (fun r => ∃ J' R', r = (some (.inl (mv_c V)), zz_S T J' R' G) ∧ zk_op T R R' J J' A) := by
      intro k
      induction k with
      | zero =>
        intro same B J2 hk s0 s1 g1 g2 g3 g7 g4
        have g4 : -4 = V := g4
        refine zz_Es (fun n => e_108_31 _ _ _ _ _) ?_
        simp (maxSteps := 5000000) (disch := first | assumption | omega) only [zr_16_0, zr_16_1, zr_16_2, zr_16_3, zg_16_4, zp_16_4, zr_16_5, zr_16_6, zr_16_7, zr_16_8, zr_16_9, zr_16_10, zr_16_11, zr_16_12, zi_16, za_105, zs_105, zl_105, za_106, zs_106, zl_106, zl_107, za_114, zs_114, zl_114, zr_pl, za_pl, zs_pl, zl_pl, zz_0, zz_31, zz_add, zz_sub, zz_mul, zz_neg, zz_lt, zz_le, zz_eq, zz_div, zz_md, zz_dv, zz_abs, zz_max, zz_min, zz_nI, zz_be0, zz_be1, zz_zb, zz_z, zz_l0, zz_l, zz_lcmp, zo_rf, zo_nl, zo_nn, zo_rI, zo_rL, zo_rR, zo_rV, Int.add_zero, Int.zero_add, Int.mul_zero, Int.zero_mul, Int.one_mul, Int.mul_one, if_true, if_false, not_true_eq_false, not_false_eq_true, zg_L_0, zp_L_0, zg_L_1, zp_L_1, zg_L_2, zp_L_2, zg_L_3, zp_L_3, zg_L_4, zp_L_4, zg_L_5, zp_L_5, zg_L_6, zp_L_6, zg_L_7, zp_L_7, zi_L, zr_L_8, za_L_1, zs_L_1, zr_L_9, za_L_2, zs_L_2, zr_L_10, za_L_3, zs_L_3, zr_L_11, za_L_4, zs_L_4, zr_L_12, za_L_5, zs_L_5, zr_L_13, za_L_6, zs_L_6, zr_L_14, za_L_7, zs_L_7, zr_L_15, za_L_8, zs_L_8, zr_L_16, za_L_9, zs_L_9, zr_L_17, za_L_10, zs_L_10, zr_L_18, za_L_11, zs_L_11, zr_L_19, za_L_12, zs_L_12]
        refine zz_Ei (fun _ => ?_) (fun h => absurd (by omega) h)
        rw [g4]
        exact zz_Er (fin J2 g1)
      | succ k ih =>
        intro same B J2 hk s0 s1 g1 g2 g3 g7 g4
        have hm := zz_yn_y (A := B) (by omega)
        have g24 := g3.2.2.2.1
        obtain ⟨J3, v1, v2, v3, v4, v5⟩ := zk_year (T := T) (R := R1) (G := G) (d := d - 1) (Y := Y + (60 - ((k + 1 : Nat) : Int))) (B := B) (e := B 4 % B 7) (J1 := J1) (J2 := J2) (by omega) hL1 g3 (by omega) g2 g1 hm.1 hm.2
        have e6 : J2 30 6 = B 4 := g2.2.1.2.2.2.1
        have hob := zk_ofb g3 v3 (v4 0 (by omega)) (v4 1 (by omega))
        have hch := zk_of_ch (B := zz_yf B (B 4 % B 7)) g3 (v4 0 (by omega)) (v4 1 (by omega))
        have v7 : zz_yf B (B 4 % B 7) 7 = A 7 := by rw [v4 7 (by omega), g7]
        have v3' : zz_ok (Y + (60 - (k : Int))) (zz_yf B (B 4 % B 7)) := by
          rw [show Y + (60 - (k : Int)) = Y + (60 - ((k + 1 : Nat) : Int)) + 1 by omega]
          exact v3
        rw [g7] at v1
        unfold zz_stl at g4
        rw [show zz_yn B = zz_yf B (B 4 % B 7) from rfl] at g4
        refine zz_Es (fun n => e_108_31 _ _ _ _ _) ?_
        rw [g7] at hob hch v7 v3' g4 v2
        simp (maxSteps := 5000000) (disch := first | assumption | omega) only [e6, v1, zr_16_0, zr_16_1, zr_16_2, zr_16_3, zg_16_4, zp_16_4, zr_16_5, zr_16_6, zr_16_7, zr_16_8, zr_16_9, zr_16_10, zr_16_11, zr_16_12, zi_16, za_105, zs_105, zl_105, za_106, zs_106, zl_106, zl_107, za_114, zs_114, zl_114, zr_pl, za_pl, zs_pl, zl_pl, zz_0, zz_31, zz_add, zz_sub, zz_mul, zz_neg, zz_lt, zz_le, zz_eq, zz_div, zz_md, zz_dv, zz_abs, zz_max, zz_min, zz_nI, zz_be0, zz_be1, zz_zb, zz_z, zz_l0, zz_l, zz_lcmp, zo_rf, zo_nl, zo_nn, zo_rI, zo_rL, zo_rR, zo_rV, Int.add_zero, Int.zero_add, Int.mul_zero, Int.zero_mul, Int.one_mul, Int.mul_one, if_true, if_false, not_true_eq_false, not_false_eq_true, zg_L_0, zp_L_0, zg_L_1, zp_L_1, zg_L_2, zp_L_2, zg_L_3, zp_L_3, zg_L_4, zp_L_4, zg_L_5, zp_L_5, zg_L_6, zp_L_6, zg_L_7, zp_L_7, zi_L, zr_L_8, za_L_1, zs_L_1, zr_L_9, za_L_2, zs_L_2, zr_L_10, za_L_3, zs_L_3, zr_L_11, za_L_4, zs_L_4, zr_L_12, za_L_5, zs_L_5, zr_L_13, za_L_6, zs_L_6, zr_L_14, za_L_7, zs_L_7, zr_L_15, za_L_8, zs_L_8, zr_L_16, za_L_9, zs_L_9, zr_L_17, za_L_10, zs_L_10, zr_L_18, za_L_11, zs_L_11, zr_L_19, za_L_12, zs_L_12]
        refine zz_Ei (fun h => absurd h (by omega)) (fun _ => ?_)
        refine zz_Ei (fun h => ?_) (fun h => ?_)
        · rw [if_neg (hch.mp h)] at g4
          refine zz_Ei (fun h' => ?_) (fun h' => ?_)
          · rw [if_pos h'] at g4
            rw [show 61 - ((k + 1 : Nat) : Int) - A 7 = V by omega]
            exact zz_Er (fin J3 v5)
          · rw [if_neg h'] at g4
            rw [show 61 - ((k + 1 : Nat) : Int) + 1 = 61 - (k : Int) by omega]
            exact ih (same + 1) _ J3 (by omega) (by omega) (by omega) v5 v2 v3' v7 g4
        · rw [if_pos (Classical.not_not.mp (fun q => h (hch.mpr q)))] at g4
          refine zz_Ei (fun h' => absurd h' (by omega)) (fun h' => ?_)
          rw [if_neg h'] at g4
          rw [show 61 - ((k + 1 : Nat) : Int) + 1 = 61 - (k : Int) by omega]
          exact ih 0 _ J3 (by omega) (by omega) (by omega) v5 v2 v3' v7 g4
    exact key 60 0 A J1 (by omega) (by omega) (by omega) (fun _ _ => rfl) hR30 (by rw [show Y + (60 - ((60 : Nat) : Int)) = Y by omega]; exact hA) rfl hV
theorem c_110 {n z what : Int} (hd : 10 ≤ d) (hL : ZL T R) (hA : zz_ok Y A) (hY : Y + 100 ≤ 1000000000) (hR : zc_rep T R J 17 A) (hraw : ∀ p, Lnd p → zk_raw T R J p) (n1 : -2147483648 ≤ n) (n2 : n ≤ 2147483647) (w1 : -2147483648 ≤ what) (w2 : what ≤ 2147483647) : ∃ v J' R', mv_cax d 110 [.inr (.inr (some 16)), .inl (mv_c n), .inl (mv_c z), .inl (mv_c what)] (zz_S T J R G) = some (some (.inl (mv_c v)), zz_S T J' R' G) ∧ zk_op T R R' J J' A ∧ zz_sdv A n z what v := by
  have hn := hA.n
  have h7 := hA.2.2.2.2.2.2.1
  have hy := hA.2.2.2.1
  have e7 := hR.2.1.2.2.2.2
  by_cases hr : (1 ≤ n ∧ n ≤ 30) ∧ 0 ≤ what ∧ what ≤ 1
  · by_cases hz : A 7 = 0
    · refine ⟨-3, J, R, ?_, zk_op_0 hraw hR (fun _ _ => rfl) ⟨rfl, rfl, rfl⟩, Or.inr ⟨hr, Or.inl ⟨hz, rfl⟩⟩⟩
      rw [hz] at e7
      refine zz_c (zz_call (by omega) t_110 rfl (fun n => e_110 _ _ _ _ _) ?_)
      simp (maxSteps := 5000000) (disch := first | assumption | omega) only [e7, zr_16_0, zr_16_1, zr_16_2, zr_16_3, zg_16_4, zp_16_4, zr_16_5, zr_16_6, zr_16_7, zr_16_8, zr_16_9, zr_16_10, zr_16_11, zr_16_12, zi_16, za_105, zs_105, zl_105, za_106, zs_106, zl_106, zl_107, za_114, zs_114, zl_114, zr_pl, za_pl, zs_pl, zl_pl, zz_0, zz_31, zz_add, zz_sub, zz_mul, zz_neg, zz_lt, zz_le, zz_eq, zz_div, zz_md, zz_dv, zz_abs, zz_max, zz_min, zz_nI, zz_be0, zz_be1, zz_zb, zz_z, zz_l0, zz_l, zz_lcmp, zo_rf, zo_nl, zo_nn, zo_rI, zo_rL, zo_rR, zo_rV, Int.add_zero, Int.zero_add, Int.mul_zero, Int.zero_mul, Int.one_mul, Int.mul_one, if_true, if_false, not_true_eq_false, not_false_eq_true, zg_L_0, zp_L_0, zg_L_1, zp_L_1, zg_L_2, zp_L_2, zg_L_3, zp_L_3, zg_L_4, zp_L_4, zg_L_5, zp_L_5, zg_L_6, zp_L_6, zg_L_7, zp_L_7, zi_L, zr_L_8, za_L_1, zs_L_1, zr_L_9, za_L_2, zs_L_2, zr_L_10, za_L_3, zs_L_3, zr_L_11, za_L_4, zs_L_4, zr_L_12, za_L_5, zs_L_5, zr_L_13, za_L_6, zs_L_6, zr_L_14, za_L_7, zs_L_7, zr_L_15, za_L_8, zs_L_8, zr_L_16, za_L_9, zs_L_9, zr_L_17, za_L_10, zs_L_10, zr_L_18, za_L_11, zs_L_11, zr_L_19, za_L_12, zs_L_12]
      refine zz_Ei (fun h => absurd h (by omega)) (fun _ => ?_)
      refine zz_Ei (fun h => absurd h (by omega)) (fun _ => ?_)
      refine zz_Ei (fun h => absurd h (by omega)) (fun _ => ?_)
      refine zz_Ei (fun _ => ?_) (fun h => absurd (by omega) h)
      exact zz_Er rfl
    · suffices h : ∃ r, mv_cax d 110 [.inr (.inr (some 16)), .inl (mv_c n), .inl (mv_c z), .inl (mv_c what)] (zz_S T J R G) = some r ∧ ∃ J' R' v, r = (some (.inl (mv_c v)), zz_S T J' R' G) ∧ zk_op T R R' J J' A ∧ v = if what = 0 then zz_of (zz_sd n.toNat A z 0).1 (zz_H A) else (zz_sd n.toNat A z 0).2 by
        obtain ⟨r, h1, J', R', v, rfl, h2, h3⟩ := h
        exact ⟨v, J', R', h1, h2, Or.inr ⟨hr, Or.inr ⟨hz, h3⟩⟩⟩
      refine zz_call (by omega) t_110 rfl (fun n => e_110 _ _ _ _ _) ?_
      obtain ⟨J1, R1, m1, hL1, hR30, hR17, m2, m3, m4⟩ := zk_mind (T := T) (J := J) (R := R) (G := G) (d := d - 1) (by omega) hL hA hR hraw
      simp (maxSteps := 5000000) (disch := first | assumption | omega) only [e7, m1, zr_16_0, zr_16_1, zr_16_2, zr_16_3, zg_16_4, zp_16_4, zr_16_5, zr_16_6, zr_16_7, zr_16_8, zr_16_9, zr_16_10, zr_16_11, zr_16_12, zi_16, za_105, zs_105, zl_105, za_106, zs_106, zl_106, zl_107, za_114, zs_114, zl_114, zr_pl, za_pl, zs_pl, zl_pl, zz_0, zz_31, zz_add, zz_sub, zz_mul, zz_neg, zz_lt, zz_le, zz_eq, zz_div, zz_md, zz_dv, zz_abs, zz_max, zz_min, zz_nI, zz_be0, zz_be1, zz_zb, zz_z, zz_l0, zz_l, zz_lcmp, zo_rf, zo_nl, zo_nn, zo_rI, zo_rL, zo_rR, zo_rV, Int.add_zero, Int.zero_add, Int.mul_zero, Int.zero_mul, Int.one_mul, Int.mul_one, if_true, if_false, not_true_eq_false, not_false_eq_true, zg_L_0, zp_L_0, zg_L_1, zp_L_1, zg_L_2, zp_L_2, zg_L_3, zp_L_3, zg_L_4, zp_L_4, zg_L_5, zp_L_5, zg_L_6, zp_L_6, zg_L_7, zp_L_7, zi_L, zr_L_8, za_L_1, zs_L_1, zr_L_9, za_L_2, zs_L_2, zr_L_10, za_L_3, zs_L_3, zr_L_11, za_L_4, zs_L_4, zr_L_12, za_L_5, zs_L_5, zr_L_13, za_L_6, zs_L_6, zr_L_14, za_L_7, zs_L_7, zr_L_15, za_L_8, zs_L_8, zr_L_16, za_L_9, zs_L_9, zr_L_17, za_L_10, zs_L_10, zr_L_18, za_L_11, zs_L_11, zr_L_19, za_L_12, zs_L_12]
      refine zz_Ei (fun h => absurd h (by omega)) (fun _ => ?_)
      refine zz_Ei (fun h => absurd h (by omega)) (fun _ => ?_)
      refine zz_Ei (fun h => absurd h (by omega)) (fun _ => ?_)
      refine zz_Ei (fun _ => ?_) (fun h => absurd (by omega) h)
      refine zz_Ei (fun _ => ?_) (fun h => absurd (by omega) h)
      generalize hW : zz_sd n.toNat A z 0 = W
      have fin : ∀ J2 v, zk_mf J1 J2 → (v = if what = 0 then zz_of W.1 (zz_H A) else W.2) → ∃ J' R' v', ((some (.inl (mv_c v)), zz_S T J2 R1 G) : Option mv_V × mv_S) = (some (.inl (mv_c v')), zz_S T J' R' G) ∧ zk_op T R R' J J' A ∧ v' = if what = 0 then zz_of W.1 (zz_H A) else W.2 := fun J2 v h hv => ⟨J2, R1, v, rfl, zk_mf_op hR17 m2 m3 m4 h, hv⟩
      have key : ∀ (k : Nat) (z ch : Int) (B : Int → Int) (J2 : Nat → Int → Int), (k : Int) ≤ n → 0 ≤ ch → ch ≤ n - k → zk_mf J1 J2 → zc_rep T R1 J2 30 B → zz_ok (Y + (n - k)) B → (∀ y, (y < 4 ∨ 4 < y ∧ y < 8 ∨ 40 ≤ y) → B y = A y) → zz_sd k B z ch = W → zz_E (fun m => mv_run (mv_cax (d - 1)) mm_110 m 60 [(0, .inr (.inr (some 16))), (1, .inl (mv_c n)), (3, .inl (mv_c what)), (4, .inl (mv_c (A 7))), (5, .inl (mv_c z)), (6, .inl (mv_c ch)), (7, .inl (mv_c (n - k)))] [] (zz_S T J2 R1 G)) (fun r => ∃ J' R' v, r = (some (.inl (mv_c v)), zz_S T J' R' G) ∧ zk_op T R R' J J' A ∧ v = if what = 0 then zz_of W.1 (zz_H A) else W.2) := by
        intro k
        induction k with
        | zero =>
          intro z ch B J2 hk c0 c1 g1 g2 g3 gA g4
          have g4 : (B, ch) = W := g4
          subst g4
          have e0 : B 0 = A 0 := gA 0 (by omega)
          have e1 : B 1 = A 1 := gA 1 (by omega)
          have j21 : J2 21 = J1 21 := g1 21 (by omega)
          have hh : ∀ c, 0 ≤ c → c < A 0 * A 1 → J2 21 c = A (8 + c) := fun c c0 c1 => by rw [j21]; exact (hR17.2.2.1 c c0 c1).1
          have h41 := c_41 (T := T) (J := J2) (R := R1) (G := G) (d := d - 1) (p := 30) (A := B) (g := 21) (by omega) hL1 (by omega) g3 g2 (hL1.at 5 (by rfl)) (fun c c0 c1 => by
            rw [e0, e1] at c1
            rw [hh c c0 c1]
            exact (hA.2.2.2.2.2.2.2.1 c c0 c1).1)
          have hof : zz_sum (fun c => ((B (8 + c) - J2 21 c).natAbs : Int)) (B 0 * B 1) = zz_of B (zz_H A) := by
            unfold zz_of
            rw [e0, e1]
            refine zz_sum_c (by omega) (fun c c0 c1 => ?_)
            have hc := (hA.2.2.2.2.2.2.2.1 c c0 c1).1
            show ((B (8 + c) - J2 21 c).natAbs : Int) = if A (8 + c) < 0 then 0 else ((B (8 + c) - A (8 + c)).natAbs : Int)
            rw [hh c c0 c1, if_neg (by omega)]
          rw [hof] at h41
          refine zz_Es (fun n => e_110_60 _ _ _ _ _ _ _ _) ?_
          simp (maxSteps := 5000000) (disch := first | assumption | omega) only [h41, zr_16_0, zr_16_1, zr_16_2, zr_16_3, zg_16_4, zp_16_4, zr_16_5, zr_16_6, zr_16_7, zr_16_8, zr_16_9, zr_16_10, zr_16_11, zr_16_12, zi_16, za_105, zs_105, zl_105, za_106, zs_106, zl_106, zl_107, za_114, zs_114, zl_114, zr_pl, za_pl, zs_pl, zl_pl, zz_0, zz_31, zz_add, zz_sub, zz_mul, zz_neg, zz_lt, zz_le, zz_eq, zz_div, zz_md, zz_dv, zz_abs, zz_max, zz_min, zz_nI, zz_be0, zz_be1, zz_zb, zz_z, zz_l0, zz_l, zz_lcmp, zo_rf, zo_nl, zo_nn, zo_rI, zo_rL, zo_rR, zo_rV, Int.add_zero, Int.zero_add, Int.mul_zero, Int.zero_mul, Int.one_mul, Int.mul_one, if_true, if_false, not_true_eq_false, not_false_eq_true, zg_L_0, zp_L_0, zg_L_1, zp_L_1, zg_L_2, zp_L_2, zg_L_3, zp_L_3, zg_L_4, zp_L_4, zg_L_5, zp_L_5, zg_L_6, zp_L_6, zg_L_7, zp_L_7, zi_L, zr_L_8, za_L_1, zs_L_1, zr_L_9, za_L_2, zs_L_2, zr_L_10, za_L_3, zs_L_3, zr_L_11, za_L_4, zs_L_4, zr_L_12, za_L_5, zs_L_5, zr_L_13, za_L_6, zs_L_6, zr_L_14, za_L_7, zs_L_7, zr_L_15, za_L_8, zs_L_8, zr_L_16, za_L_9, zs_L_9, zr_L_17, za_L_10, zs_L_10, zr_L_18, za_L_11, zs_L_11, zr_L_19, za_L_12, zs_L_12]
          refine zz_Ei (fun _ => ?_) (fun h => absurd (by omega) h)
          refine zz_Ei (fun h => ?_) (fun h => ?_)
          · exact zz_Er (fin J2 _ g1 (by rw [if_pos h]))
          · exact zz_Er (fin J2 _ g1 (by rw [if_neg h]))
        | succ k ih =>
          intro z ch B J2 hk c0 c1 g1 g2 g3 gA g4
          have g7 : B 7 = A 7 := gA 7 (by omega)
          have g24 := g3.2.2.2.1
          have hz0 : 0 ≤ (z * 1103515245 + 12345) % 2147483648 ∧ (z * 1103515245 + 12345) % 2147483648 < 2147483648 := by omega
          have hz1 : 0 ≤ (z * 1103515245 + 12345) % 2147483648 / 65536 ∧ (z * 1103515245 + 12345) % 2147483648 / 65536 < 32768 := by omega
          have hm : 0 ≤ (z * 1103515245 + 12345) % 2147483648 / 65536 % A 7 ∧ (z * 1103515245 + 12345) % 2147483648 / 65536 % A 7 < A 7 := ⟨Int.emod_nonneg _ (by omega), Int.emod_lt_of_pos _ (by omega)⟩
          obtain ⟨J3, v1, v2, v3, v4, v5⟩ := zk_year (T := T) (R := R1) (G := G) (d := d - 1) (Y := Y + (n - ((k + 1 : Nat) : Int))) (B := B) (e := (z * 1103515245 + 12345) % 2147483648 / 65536 % A 7) (J1 := J1) (J2 := J2) (by omega) hL1 g3 (by omega) g2 g1 hm.1 (by rw [g7]; exact hm.2)
          have hob := zk_ofb g3 v3 (v4 0 (by omega)) (v4 1 (by omega))
          have hch := zk_of_ch (B := zz_yf B ((z * 1103515245 + 12345) % 2147483648 / 65536 % A 7)) g3 (v4 0 (by omega)) (v4 1 (by omega))
          have v3' : zz_ok (Y + (n - (k : Int))) (zz_yf B ((z * 1103515245 + 12345) % 2147483648 / 65536 % A 7)) := by
            rw [show Y + (n - (k : Int)) = Y + (n - ((k + 1 : Nat) : Int)) + 1 by omega]
            exact v3
          have g4' : zz_sd k (zz_yf B ((z * 1103515245 + 12345) % 2147483648 / 65536 % A 7)) (z * 1103515245 + 12345) (ch + zz_b (zz_ch B (zz_yf B ((z * 1103515245 + 12345) % 2147483648 / 65536 % A 7)))) = W := by
            rw [← g4]
            show _ = zz_sd k (zz_yf B (zz_nz z % 2147483648 / 65536 % B 7)) (zz_nz z) (ch + zz_b (zz_ch B (zz_yf B (zz_nz z % 2147483648 / 65536 % B 7))))
            rw [g7]
            rfl
          have gA' : ∀ y, (y < 4 ∨ 4 < y ∧ y < 8 ∨ 40 ≤ y) → zz_yf B ((z * 1103515245 + 12345) % 2147483648 / 65536 % A 7) y = A y := fun y hy => by rw [v4 y hy, gA y hy]
          refine zz_Es (fun n => e_110_60 _ _ _ _ _ _ _ _) ?_
          simp (maxSteps := 5000000) (disch := first | assumption | omega) only [zz_and31, zk_shr, v1, zr_16_0, zr_16_1, zr_16_2, zr_16_3, zg_16_4, zp_16_4, zr_16_5, zr_16_6, zr_16_7, zr_16_8, zr_16_9, zr_16_10, zr_16_11, zr_16_12, zi_16, za_105, zs_105, zl_105, za_106, zs_106, zl_106, zl_107, za_114, zs_114, zl_114, zr_pl, za_pl, zs_pl, zl_pl, zz_0, zz_31, zz_add, zz_sub, zz_mul, zz_neg, zz_lt, zz_le, zz_eq, zz_div, zz_md, zz_dv, zz_abs, zz_max, zz_min, zz_nI, zz_be0, zz_be1, zz_zb, zz_z, zz_l0, zz_l, zz_lcmp, zo_rf, zo_nl, zo_nn, zo_rI, zo_rL, zo_rR, zo_rV, Int.add_zero, Int.zero_add, Int.mul_zero, Int.zero_mul, Int.one_mul, Int.mul_one, if_true, if_false, not_true_eq_false, not_false_eq_true, zg_L_0, zp_L_0, zg_L_1, zp_L_1, zg_L_2, zp_L_2, zg_L_3, zp_L_3, zg_L_4, zp_L_4, zg_L_5, zp_L_5, zg_L_6, zp_L_6, zg_L_7, zp_L_7, zi_L, zr_L_8, za_L_1, zs_L_1, zr_L_9, za_L_2, zs_L_2, zr_L_10, za_L_3, zs_L_3, zr_L_11, za_L_4, zs_L_4, zr_L_12, za_L_5, zs_L_5, zr_L_13, za_L_6, zs_L_6, zr_L_14, za_L_7, zs_L_7, zr_L_15, za_L_8, zs_L_8, zr_L_16, za_L_9, zs_L_9, zr_L_17, za_L_10, zs_L_10, zr_L_18, za_L_11, zs_L_11, zr_L_19, za_L_12, zs_L_12]
          refine zz_Ei (fun h => absurd h (by omega)) (fun _ => ?_)
          rw [show n - ((k + 1 : Nat) : Int) + 1 = n - (k : Int) by omega]
          refine zz_Ei (fun h => ?_) (fun h => ?_)
          · rw [zz_b_f (hch.mp h), Int.add_zero] at g4'
            exact ih _ ch _ J3 (by omega) c0 (by omega) v5 v2 v3' gA' g4'
          · rw [zz_b_t (Classical.not_not.mp (fun q => h (hch.mpr q)))] at g4'
            exact ih _ (ch + 1) _ J3 (by omega) (by omega) (by omega) v5 v2 v3' gA' g4'
      have k0 := key n.toNat z 0 A J1 (by omega) (by omega) (by omega) (fun _ _ => rfl) hR30 (by rw [show Y + (n - (n.toNat : Int)) = Y by omega]; exact hA) (fun _ _ => rfl) hW
      rw [show n - (n.toNat : Int) = 0 by omega] at k0
      exact k0
  · refine ⟨-1, J, R, ?_, zk_op_0 hraw hR (fun _ _ => rfl) ⟨rfl, rfl, rfl⟩, Or.inl ⟨hr, rfl⟩⟩
    refine zz_c (zz_call (by omega) t_110 rfl (fun n => e_110 _ _ _ _ _) ?_)
    simp (maxSteps := 5000000) (disch := first | assumption | omega) only [zz_0, zz_31, zz_add, zz_sub, zz_mul, zz_neg, zz_lt, zz_le, zz_eq, zz_div, zz_md, zz_dv, zz_abs, zz_max, zz_min, zz_nI, zz_be0, zz_be1, zz_zb, zz_z, zz_l0, zz_l, zz_lcmp, zo_rf, zo_nl, zo_nn, zo_rI, zo_rL, zo_rR, zo_rV, Int.add_zero, Int.zero_add, Int.mul_zero, Int.zero_mul, Int.one_mul, Int.mul_one, if_true, if_false, not_true_eq_false, not_false_eq_true]
    refine zz_Ei (fun _ => zz_Er rfl) (fun h1 => ?_)
    refine zz_Ei (fun _ => zz_Er rfl) (fun h2 => ?_)
    refine zz_Ei (fun _ => zz_Er rfl) (fun h3 => ?_)
    refine zz_Ei (fun h4 => ?_) (fun _ => zz_Er rfl)
    exact absurd (by omega) hr
end ZCYR
