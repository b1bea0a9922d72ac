/-! PURE LAYER, 65: a year goes by on the class's land -/
theorem zk_dr_b {Y : Int} {A g : Int → Int} {e : Int} (hA : zz_ok Y A) (h : zz_dr A e g) : ∀ c, 0 ≤ c → c < A 0 * A 1 → 0 ≤ g c ∧ g c ≤ 9 := by
  intro c c0 c1
  have hc := hA.2.2.2.2.2.2.2.1 c c0 c1
  have htw : 0 ≤ zz_tw A c ∧ zz_tw A c ≤ 9 := by
    unfold zz_tw
    split <;> omega
  rcases h with ⟨-, h⟩ | ⟨-, h⟩ | ⟨-, h⟩ | ⟨-, f, t, q, h⟩
  · rw [h c c0 c1]; exact hc.1
  · rw [h c c0 c1]; exact htw
  · rw [h c c0 c1]
    split <;> omega
  · rw [h c c0 c1]
    rcases q with ⟨q, -⟩ | ⟨q0, q1, -, -⟩
    · unfold zz_dl
      rw [if_neg (by omega)]
      omega
    · have m1 := q1.1.2.1
      have m2 := q1.1.2.2.1
      unfold zz_dl
      rw [if_pos q0.1]
      by_cases e1 : c = f
      · rw [if_pos e1, e1]; rw [e1] at hc; omega
      · rw [if_neg e1]
        by_cases e2 : c = t
        · rw [if_pos e2, e2]; rw [e2] at hc; omega
        · rw [if_neg e2]; omega
section ZPAS
variable {T : List mv_T} {J J' : Nat → Int → Int} {R : Nat → Nat → Option Nat} {G : Nat → Nat → Int64} {d p g : Nat} {Y : Int} {A A' : Int → Int}
/-- the map, the heights, hours, law and year may differ -/
theorem zc_rep_m (hp : Lnd p) (hR : zc_rep T R J p A) (m : ∀ y, y < 2 ∨ (4 < y ∧ y < 8) ∨ 40 ≤ y → A' y = A y) (hf : ∀ x, ((p ≤ x ∧ x ≤ p + 11) ∨ 156 ≤ x) → x ≠ p → x ≠ p + 4 → x ≠ p + 5 → J' x = J x) (hpf : ∀ y, y ≠ 4 → y ≠ 5 → y ≠ 6 → J' p y = J p y) (hps : J' p 4 = A' 2 ∧ J' p 5 = A' 3 ∧ J' p 6 = A' 4) (h4 : ∀ c, 0 ≤ c → c < A 0 * A 1 → J' (p + 4) c = A' (8 + c)) (h5 : ∀ c, 0 ≤ c → c < A 0 * A 1 → J' (p + 5) c = zc_sd (A' (24 + c))) : zc_rep T R J' p A' := by
  have hlt : p + 12 < 78 := by rcases hp with rfl | rfl | rfl | rfl <;> omega
  obtain ⟨r1, r2, r3, r4⟩ := hR
  have hcd : ∀ c i, zz_cd A' c i = zz_cd A c i := fun c i => by
    unfold zz_cd
    rw [m 0 (by omega), m 1 (by omega)]
  refine ⟨?_, ?_, ?_, ?_⟩
  · unfold zc_geo at r1 ⊢
    rw [m 0 (by omega), m 1 (by omega), hpf 0 (by omega) (by omega) (by omega), hpf 1 (by omega) (by omega) (by omega), hpf 2 (by omega) (by omega) (by omega), hf (p + 1) (by omega) (by omega) (by omega) (by omega), hf (p + 2) (by omega) (by omega) (by omega) (by omega), hf (p + 3) (by omega) (by omega) (by omega) (by omega)]
    exact ⟨r1.1, fun c c0 c1 => ⟨(r1.2.1 c c0 c1).1, fun i i0 i1 => by rw [hcd]; exact (r1.2.1 c c0 c1).2 i i0 i1⟩, r1.2.2⟩
  · rw [hpf 3 (by omega) (by omega) (by omega), hpf 7 (by omega) (by omega) (by omega), m 5 (by omega), m 7 (by omega)]
    exact ⟨r2.1, hps.1, hps.2.1, hps.2.2, r2.2.2.2.2⟩
  · rw [m 0 (by omega), m 1 (by omega), hf (p + 6) (by omega) (by omega) (by omega) (by omega), m 6 (by omega)]
    intro c c0 c1
    have rc := r3 c c0 c1
    exact ⟨h4 c c0 c1, h5 c c0 c1, rc.2.2⟩
  · rw [m 7 (by omega)]
    intro e e0 e1
    obtain ⟨⟨x, q1, q2, q3, q4⟩, q5, q6⟩ := r4 e e0 e1
    unfold zc_dr
    rw [m (40 + 15 * e) (by omega), m (41 + 15 * e) (by omega), m (42 + 15 * e) (by omega), hf (p + 8) (by omega) (by omega) (by omega) (by omega), hf (p + 9) (by omega) (by omega) (by omega) (by omega), hf (p + 10) (by omega) (by omega) (by omega) (by omega), hf (p + 11) (by omega) (by omega) (by omega) (by omega)]
    refine ⟨⟨x, q1, q2, q3, ?_⟩, q5, fun w w0 w1 => ?_⟩
    · rw [hf x (by omega) (by omega) (by omega) (by omega)]
      exact q4
    · rw [m (43 + 15 * e + 3 * w) (by omega), m (44 + 15 * e + 3 * w) (by omega), m (45 + 15 * e + 3 * w) (by omega)]
      exact q6 w w0 w1
theorem zk_of_ch {B : Int → Int} (hA : zz_ok Y A) (h0 : B 0 = A 0) (h1 : B 1 = A 1) : zz_of B (zz_H A) = 0 ↔ ¬ zz_ch A B := by
  have hn := hA.n
  have key : ∀ c, 0 ≤ c → c < A 0 * A 1 → 0 ≤ (if zz_H A c < 0 then 0 else ((B (8 + c) - zz_H A c).natAbs : Int)) := fun c _ _ => by split <;> omega
  unfold zz_of
  rw [h0, h1]
  constructor
  · intro h
    rintro ⟨c, c0, c1, c2⟩
    have := zz_sum_1z key c0 c1
    have hc := (hA.2.2.2.2.2.2.2.1 c c0 c1).1
    have e : zz_H A c = A (8 + c) := rfl
    rw [h, e, if_neg (by omega)] at this
    omega
  · intro h
    refine zz_sum_z (by omega) (fun c c0 c1 => ?_)
    have e : zz_H A c = A (8 + c) := rfl
    have : B (8 + c) = A (8 + c) := by
      rcases Int.lt_trichotomy (B (8 + c)) (A (8 + c)) with q | q | q
      · exact absurd ⟨c, c0, c1, by omega⟩ h
      · exact q
      · exact absurd ⟨c, c0, c1, by omega⟩ h
    rw [e, this]
    split <;> omega
theorem c_128 {e : Int} (hd : 9 ≤ d) (hL : ZL T R) (hp : Lnd p) (hA : zz_ok Y A) (hY : Y + 1 ≤ 1000000000) (hR : zc_rep T R J p A) (e0 : 0 ≤ e) (e1 : e < A 7) :
    ∃ J', mv_cax d 128 [.inr (.inr (some 16)), .inr (.inr (some p)), .inl (mv_c e)] (zz_S T J R G) = some (some (.inl (mv_c (zz_of (zz_yf A e) (zz_H A)))), zz_S T J' R G) ∧ zc_rep T R J' p (zz_yf A e) ∧ zz_ok (Y + 1) (zz_yf A e) ∧ (∀ y, (y < 4 ∨ 4 < y ∧ y < 8 ∨ 40 ≤ y) → zz_yf A e y = A y) ∧ (∀ x, (x < 73 ∨ 106 < x) → x ≠ p → x ≠ p + 4 → x ≠ p + 5 → x ≠ p + 12 → J' x = J x) := by
  have hn := hA.n
  have hpl : p + 12 < 73 := by rcases hp with rfl | rfl | rfl | rfl <;> omega
  have hg : T[105]? = some (.inr (0, 16)) := hL.at 89 (by rfl)
  have hb : T[106]? = some (.inr (0, 16)) := hL.at 90 (by rfl)
  obtain ⟨J1, h1, hR1, f1, hdr⟩ := c_1 (T := T) (J := J) (R := R) (G := G) (d := d - 1) (p := p) (g := 105) (Y := Y) (A := A) (e := e) (by omega) hL hp hA hR e0 e1 hg (by omega) (by omega)
  have hgb := zk_dr_b hA hdr
  -- what was before
  obtain ⟨J2, hJ2⟩ : ∃ J2, zz_cp J1 (p + 4) 0 106 0 16 = J2 := ⟨_, rfl⟩
  have f2 : ∀ x, x ≠ 106 → J2 x = J1 x := fun x hx => by rw [← hJ2, zk_cp0, zw_n hx]
  have j106 : ∀ c, 0 ≤ c → c < A 0 * A 1 → J2 106 c = A (8 + c) := fun c c0 c1 => by
    rw [← hJ2, zk_cp0, zw_s, if_pos (by omega)]
    exact (hR1.2.2.1 c c0 c1).1
  have hc2 : ∀ k : mv_S → mv_O, mo_cp (zz_S T J1 R G) (p + 4) (mv_c 0) 106 (mv_c 0) (mv_c 16) k = k (zz_S T J2 R G) := fun k => by
    rw [zz_cpy (by omega : 16 ≤ p + 4) (by omega : 16 ≤ 106) (zz_Lt4 hL hp) hb (by omega) (by omega) (by omega) (by omega) (by omega) (by omega) (by omega), hJ2]
  -- the plan becomes the map
  obtain ⟨J3, hJ3⟩ : ∃ J3, zz_cp J2 105 0 (p + 5) 0 16 = J3 := ⟨_, rfl⟩
  have f3 : ∀ x, x ≠ p + 5 → J3 x = J2 x := fun x hx => by rw [← hJ3, zk_cp0, zw_n hx]
  have hc3 : ∀ k : mv_S → mv_O, mo_cp (zz_S T J2 R G) 105 (mv_c 0) (p + 5) (mv_c 0) (mv_c 16) k = k (zz_S T J3 R G) := fun k => by
    rw [zz_cpy (by omega : 16 ≤ 105) (by omega : 16 ≤ p + 5) hg (zz_Lt5 hL hp) (by omega) (by omega) (by omega) (by omega) (by omega) (by omega) (by omega), hJ3]
  have hpm := zz_pm_ok hA hgb
  have hR3 : zc_rep T R J3 p (zz_pm A (J1 105)) := by
    have hps := hR1.2.1
    refine zc_rep_m hp hR1 (fun y hy => if_neg (by omega)) (fun x x1 _ _ x4 => by rw [f3 x x4, f2 x (by omega)]) (fun y _ _ _ => by rw [f3 p (by omega), f2 p (by omega)]) ?_ (fun c c0 c1 => ?_) (fun c c0 c1 => ?_)
    · rw [f3 p (by omega), f2 p (by omega)]
      have u : ∀ y, y < 8 → zz_pm A (J1 105) y = A y := fun y hy => if_neg (by omega)
      rw [u 2 (by omega), u 3 (by omega), u 4 (by omega)]
      exact ⟨hps.2.1, hps.2.2.1, hps.2.2.2.1⟩
    · rw [f3 (p + 4) (by omega), f2 (p + 4) (by omega)]
      have u : zz_pm A (J1 105) (8 + c) = A (8 + c) := if_neg (by omega)
      rw [u]
      exact (hR1.2.2.1 c c0 c1).1
    · rw [← hJ3, zk_cp0, zw_s, if_pos (by omega), f2 105 (by omega)]
      have u : zz_pm A (J1 105) (24 + c) = J1 105 c := by
        unfold zz_pm
        rw [if_pos (by omega), show 24 + c - 24 = c by omega]
      rw [u]
      unfold zc_sd
      rw [if_neg (by have := hgb c c0 c1; omega)]
  obtain ⟨J4, A4, h14, hA4, hR4, m4, f4, -, hdg⟩ := c_14 (T := T) (J := J3) (R := R) (G := G) (d := d - 1) (p := p) (Y := Y) (A := zz_pm A (J1 105)) (by omega) hL hp hpm hR3
  have hyf : zz_yf A e = zz_f A4 4 (A4 4 + 1) := zz_yf_v (by omega) hn.2 ⟨_, _, _, _, hdr, hdg, rfl⟩
  have m4' : ∀ y, (y < 8 ∨ 40 ≤ y) → A4 y = A y := fun y hy => by
    rw [m4 y (by omega)]
    exact if_neg (by omega)
  have g6 : J4 p 6 = A4 4 := hR4.2.1.2.2.2.1
  have hA4y := hA4.2.2.2.1
  obtain ⟨J5, hJ5⟩ : ∃ J5, J5 = zz_u J4 p 6 (A4 4 + 1) := ⟨_, rfl⟩
  have f5 : ∀ x, x ≠ p → J5 x = J4 x := fun x hx => by rw [hJ5, zu_A hx]
  have hR5 : zc_rep T R J5 p (zz_f A4 4 (A4 4 + 1)) := by
    refine zc_rep_m hp hR4 (fun y hy => zf_n (by omega)) (fun x _ x2 _ _ => f5 x x2) (fun y _ _ y6 => by rw [hJ5, zu_k y6]) ⟨?_, ?_, ?_⟩ (fun c c0 c1 => ?_) (fun c c0 c1 => ?_)
    · rw [hJ5, zu_k (by omega), zf_n (by omega)]
      exact hR4.2.1.2.1
    · rw [hJ5, zu_k (by omega), zf_n (by omega)]
      exact hR4.2.1.2.2.1
    · rw [hJ5, zu_s, zf_s]
    · rw [f5 _ (by omega), zf_n (by omega)]
      exact (hR4.2.2.1 c c0 c1).1
    · rw [f5 _ (by omega), zf_n (by omega)]
      exact (hR4.2.2.1 c c0 c1).2.1
  have hok : zz_ok (Y + 1) (zz_f A4 4 (A4 4 + 1)) := zz_ok_y hA4 hY
  have e106 : ∀ c, 0 ≤ c → c < A 0 * A 1 → J5 106 c = A (8 + c) := fun c c0 c1 => by
    rw [f5 106 (by omega), f4 106 (by omega) (by omega) (by omega) (by omega), f3 106 (by omega)]
    exact j106 c c0 c1
  have y0 : zz_f A4 4 (A4 4 + 1) 0 = A 0 := by rw [zf_n (by omega), m4' 0 (by omega)]
  have y1 : zz_f A4 4 (A4 4 + 1) 1 = A 1 := by rw [zf_n (by omega), m4' 1 (by omega)]
  have h41 := c_41 (T := T) (J := J5) (R := R) (G := G) (d := d - 1) (p := p) (Y := Y + 1) (A := zz_f A4 4 (A4 4 + 1)) (g := 106) (by omega) hL hp hok hR5 hb (fun c c0 c1 => by
    rw [y0, y1] at c1
    rw [e106 c c0 c1]
    exact (hA.2.2.2.2.2.2.2.1 c c0 c1).1)
  have hof : zz_sum (fun c => ((zz_f A4 4 (A4 4 + 1) (8 + c) - J5 106 c).natAbs : Int)) (zz_f A4 4 (A4 4 + 1) 0 * zz_f A4 4 (A4 4 + 1) 1) = zz_of (zz_yf A e) (zz_H A) := by
    rw [hyf]
    unfold zz_of
    rw [y0, y1]
    refine zz_sum_c (by omega) (fun c c0 c1 => ?_)
    have hc := (hA.2.2.2.2.2.2.2.1 c c0 c1).1
    show ((zz_f A4 4 (A4 4 + 1) (8 + c) - J5 106 c).natAbs : Int) = if A (8 + c) < 0 then 0 else ((zz_f A4 4 (A4 4 + 1) (8 + c) - A (8 + c)).natAbs : Int)
    rw [e106 c c0 c1, if_neg (by omega)]
  rw [hof] at h41
  refine ⟨J5, ?_, by rw [hyf]; exact hR5, by rw [hyf]; exact hok, fun y hy => by rw [hyf, zf_n (by omega), m4' y (by omega)], fun x x1 x2 x3 x4 x5 => ?_⟩
  · have e5 : zz_u J4 p 6 (A4 4 + 1) = J5 := hJ5.symm
    refine zz_c (zz_call (by omega) t_128 rfl (fun n => e_128 _ _ _ _) ?_)
    simp (maxSteps := 5000000) (disch := first | assumption | omega) only [zr_73_0, zi_73, zi_78, h1, hc2, hc3, h14, g6, e5, h41, zr_16_0, zr_16_1, zr_16_2, zr_16_3, zg_16_4, zp_16_4, zr_16_5, zr_16_6, zr_16_7, zr_16_8, zr_16_9, zr_16_10, zr_16_11, zr_16_12, zi_16, za_105, zs_105, zl_105, za_106, zs_106, zl_106, zl_107, za_114, zs_114, zl_114, zr_pl, za_pl, zs_pl, zl_pl, zz_0, zz_31, zz_add, zz_sub, zz_mul, zz_neg, zz_lt, zz_le, zz_eq, zz_div, zz_md, zz_dv, zz_abs, zz_max, zz_min, zz_nI, zz_be0, zz_be1, zz_zb, zz_z, zz_l0, zz_l, zz_lcmp, zo_rf, zo_nl, zo_nn, zo_rI, zo_rL, zo_rR, zo_rV, Int.add_zero, Int.zero_add, Int.mul_zero, Int.zero_mul, Int.one_mul, Int.mul_one, if_true, if_false, not_true_eq_false, not_false_eq_true, zg_L_0, zp_L_0, zg_L_1, zp_L_1, zg_L_2, zp_L_2, zg_L_3, zp_L_3, zg_L_4, zp_L_4, zg_L_5, zp_L_5, zg_L_6, zp_L_6, zg_L_7, zp_L_7, zi_L, zr_L_8, za_L_1, zs_L_1, zr_L_9, za_L_2, zs_L_2, zr_L_10, za_L_3, zs_L_3, zr_L_11, za_L_4, zs_L_4, zr_L_12, za_L_5, zs_L_5, zr_L_13, za_L_6, zs_L_6, zr_L_14, za_L_7, zs_L_7, zr_L_15, za_L_8, zs_L_8, zr_L_16, za_L_9, zs_L_9, zr_L_17, za_L_10, zs_L_10, zr_L_18, za_L_11, zs_L_11, zr_L_19, za_L_12, zs_L_12]
    exact zz_Er rfl
  · rw [f5 x x2, f4 x (by omega) x3 x5 (by omega), f3 x x4, f2 x (by omega), f1 x (by omega) x3 x5 (by omega)]
end ZPAS
