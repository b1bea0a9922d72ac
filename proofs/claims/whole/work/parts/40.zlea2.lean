/-! PURE LAYER, 9: the reference's least hours, whole -/
theorem zz_wu {J : Nat → Int → Int} {a : Nat} {O : Int → Int} {k v : Int} : zz_u (zz_w J a O) a k v = zz_w J a (zz_f O k v) := by rw [zz_uw, zw_s, zw_w]
theorem zz_exr {Y : Int} {A : Int → Int} (hA : zz_ok Y A) : ∀ c, 0 ≤ c → c < A 0 * A 1 → -9 ≤ zz_ex A (fun c => A (24 + c)) c ∧ zz_ex A (fun c => A (24 + c)) c ≤ 9 := by
  intro c h0 h1
  have := hA.2.2.2.2.2.2.2.1 c h0 h1
  unfold zz_ex
  show -9 ≤ (if A (24 + c) < 0 then (0 : Int) else A (8 + c) - A (24 + c)) ∧ (if A (24 + c) < 0 then (0 : Int) else A (8 + c) - A (24 + c)) ≤ 9
  split <;> omega
section ZLE2
variable {T : List mv_T} {J : Nat → Int → Int} {R : Nat → Nat → Option Nat} {G : Nat → Nat → Int64} {d : Nat} {Y : Int}
theorem r_172m (hL : ZL T R) (hA : zz_ok Y (J 132)) (hd : 5 ≤ d) {ex : Int → Int} (hex : ∀ c, 0 ≤ c → c < J 132 0 * J 132 1 → -9 ≤ ex c ∧ ex c ≤ 9) (hsum : zz_sum ex (J 132 0 * J 132 1) = 0) {Q : Option mv_V × mv_S → Prop}
    (fin : ∀ J' K, zz_fx J J' → 0 ≤ K → K ≤ 2000 → zz_cert (J 132 0 * J 132 1) (zz_w2 (J 132 1)) ex K → J' 131 23 = zz_sum (fun a => max 0 (ex a)) (J 132 0 * J 132 1) → Q (some (.inl (mv_c K)), zz_S T J' R G)) :
    ∀ q : Int × (Nat → Int → Int), zz_li J ex q.2 q.1 → zz_E (fun n => mv_run (mv_cax d) mm_172 n 126 [(0, .inr (.inr (some 131))), (3, .inl (mv_c q.1))] [] (zz_S T q.2 R G)) Q := by
  have hn := hA.n
  refine zz_whil (α := Int × (Nat → Int → Int)) (run := fun q n => mv_run (mv_cax d) mm_172 n 126 [(0, .inr (.inr (some 131))), (3, .inl (mv_c q.1))] [] (zz_S T q.2 R G)) (fun q => (zz_sum (zz_sO ex (q.2 143) (J 132 0 * J 132 1)) (J 132 0 * J 132 1)).toNat) (fun q => zz_li J ex q.2 q.1) ?_
  rintro ⟨K, J'⟩ hli kw
  have hli : zz_li J ex J' K := hli
  have hos := zz_li_os (by omega) hex hli
  obtain ⟨hfx, hz, htr, hst⟩ := hli
  have h132 : J' 132 = J 132 := hfx.1 132 (by omega) (by omega)
  obtain ⟨⟨u, v, hpot⟩, rows, cols, xz, cost⟩ := id htr
  have rows : ∀ a, zz_hi ex (J 132 0 * J 132 1) a → zz_sum (zz_xr ex (J 132 0 * J 132 1) (J' 144) a) (J 132 0 * J 132 1) + zz_sO ex (J' 143) (J 132 0 * J 132 1) a = max 0 (ex a) ∧ 0 ≤ zz_sO ex (J' 143) (J 132 0 * J 132 1) a := rows
  have cols : ∀ b, 0 ≤ b → b < J 132 0 * J 132 1 → zz_sum (fun a => zz_xr ex (J 132 0 * J 132 1) (J' 144) a b) (J 132 0 * J 132 1) + zz_tO ex (J' 143) (J 132 0 * J 132 1) b = max 0 (-ex b) ∧ 0 ≤ zz_tO ex (J' 143) (J 132 0 * J 132 1) b := cols
  have sv : ∀ a, zz_hi ex (J 132 0 * J 132 1) a → zz_sO ex (J' 143) (J 132 0 * J 132 1) a = J' 143 a := fun a ha => if_pos ha
  have s0 : ∀ a, 0 ≤ zz_sO ex (J' 143) (J 132 0 * J 132 1) a := by
    intro a
    by_cases ha : zz_hi ex (J 132 0 * J 132 1) a
    · exact (rows a ha).2
    · have : zz_sO ex (J' 143) (J 132 0 * J 132 1) a = 0 := if_neg ha
      omega
  have tv : ∀ b, 0 ≤ b → b < J 132 0 * J 132 1 → ¬ zz_hi ex (J 132 0 * J 132 1) b → zz_tO ex (J' 143) (J 132 0 * J 132 1) b = -J' 143 b := fun b b0 b1 hb => if_pos ⟨b0, b1, hb⟩
  have th : ∀ b, zz_hi ex (J 132 0 * J 132 1) b → zz_tO ex (J' 143) (J 132 0 * J 132 1) b = 0 := fun b hb => if_neg (fun q => q.2.2 hb)
  have hst2 : zz_sum (zz_sO ex (J' 143) (J 132 0 * J 132 1)) (J 132 0 * J 132 1) = zz_sum (zz_tO ex (J' 143) (J 132 0 * J 132 1)) (J 132 0 * J 132 1) := by
    refine zz_left (by omega) (by omega) htr (fun a a0 a1 ha => ⟨?_, if_neg ha⟩) ?_
    · have : ¬ 0 < ex a := fun q' => ha ⟨a0, a1, q'⟩
      show max 0 (ex a) = 0
      omega
    · have e1 := zz_sum_sub (f := fun a => max 0 (ex a)) (g := fun a => max 0 (-ex a)) (c := J 132 0 * J 132 1) (by omega)
      have e2 : zz_sum (fun a => max 0 (ex a) - max 0 (-ex a)) (J 132 0 * J 132 1) = zz_sum ex (J 132 0 * J 132 1) := zz_sum_c (by omega) (fun i _ _ => by omega)
      show zz_sum (fun a => max 0 (ex a)) _ = zz_sum (fun b => max 0 (-ex b)) _
      omega
  obtain ⟨best, D, P, hrun, hbf, harc, hbest⟩ := r_171 (T := T) (J := J') (R := R) (G := G) (d := d) (Y := Y) (ex := ex) (u := u) (v := v) hL (by rw [h132]; exact hA) (by rw [h132]; exact hos) (by rw [h132]; exact hpot) (by omega)
  rw [h132] at hbf harc hbest
  have hbb := zz_bfr_b hbf (by omega) (by omega) hpot
  have lu : ∀ a, a < J 132 0 * J 132 1 → zl_u D a = D a := fun a h => if_pos (by omega)
  have lv : ∀ b, 0 ≤ b → zl_v D b = D (16 + b) := fun b h => if_pos h
  have newp : ∀ a0, zz_hi ex (J 132 0 * J 132 1) a0 → 0 < J' 143 a0 → (∀ b, 0 ≤ b → b < J 132 0 * J 132 1 → zl_v D b < 1000000) ∧ (∀ a, zz_hi ex (J 132 0 * J 132 1) a → zl_u D a < 1000000) ∧ zz_pot (zz_hi ex (J 132 0 * J 132 1)) (J 132 0 * J 132 1) 12 (zz_w2 (J 132 1)) (zz_xr ex (J 132 0 * J 132 1) (J' 144)) (zl_u D) (zl_v D) := by
    intro a0 ha0 hs0
    refine zz_newp (by omega) (by omega) hpot hbf.1 (fun a b ha b0 b1 q => ?_) (fun a b ha b0 b1 q1 q2 => ?_) ha0 hs0 (fun a ha => ?_)
    · rw [lv b b0, lu a ha.2.1]
      rw [lu a ha.2.1] at q
      exact ((harc a b ha.1 ha.2.1 b0 b1) ha).1 q
    · rw [lv b b0, lu a ha.2.1]
      rw [lv b b0] at q2
      rw [zz_xr_v ha b0 b1] at q1
      exact ((harc a b ha.1 ha.2.1 b0 b1) ha).2 q1 q2
    · by_cases q : 0 < J' 143 a
      · exact Or.inl q
      · right
        have e1 := rows a ha
        rw [sv a ha] at e1
        have := ha.2.2
        exact zz_sum_pos (by omega) (by omega)
  refine zz_Es (fun n => e_172_126 _ _ _) ?_
  rcases hbest with ⟨rfl, hb⟩ | ⟨hb0, hb1, hb2, hb3⟩
  · simp (maxSteps := 5000000) (disch := first | assumption | omega) only [hrun, zr_131_0, zr_131_1, zr_131_2, zr_131_3, zr_131_4, zr_131_5, zr_131_6, zr_131_7, zr_131_8, zg_131_9, zp_131_9, zg_131_10, zp_131_10, zg_131_11, zp_131_11, zg_131_12, zp_131_12, zg_131_13, zp_131_13, zg_131_14, zp_131_14, zr_131_15, zg_131_16, zp_131_16, zg_131_17, zp_131_17, zr_131_18, zr_131_19, zr_131_20, zr_131_21, zr_131_22, zg_131_23, zp_131_23, zr_131_24, zg_131_25, zp_131_25, zg_131_26, zp_131_26, zr_131_27, zr_131_28, zg_131_29, zp_131_29, zg_131_30, zp_131_30, zr_131_31, zr_131_32, zr_131_33, zr_131_34, zr_131_35, zi_131, za_132, zs_132, zl_132, za_133, zs_133, zl_133, za_134, zs_134, zl_134, za_135, zs_135, zl_135, za_136, zs_136, zl_136, za_137, zs_137, zl_137, za_138, zs_138, zl_138, za_139, zs_139, zl_139, za_140, zs_140, zl_140, za_141, zs_141, zl_141, za_142, zs_142, zl_142, za_143, zs_143, zl_143, za_144, zs_144, zl_144, za_145, zs_145, zl_145, za_146, zs_146, zl_146, za_147, zs_147, zl_147, za_148, zs_148, zl_148, za_149, zs_149, zl_149, za_150, zs_150, zl_150, za_151, zs_151, zl_151, za_152, zs_152, zl_152, za_153, zs_153, zl_153, za_154, zs_154, zl_154, zz_0, zz_31, zz_add, zz_sub, zz_mul, zz_neg, zz_lt, zz_le, zz_eq, zz_div, zz_md, zz_dv, zz_abs, zz_max, zz_min, zz_nI, zz_be0, zz_be1, zz_zb, zz_z, zz_l0, zz_l, zz_lcmp, zo_rf, zo_nl, zo_nn, zo_rI, zo_rL, zo_rR, zo_rV, Int.add_zero, Int.zero_add, Int.mul_zero, Int.zero_mul, Int.one_mul, Int.mul_one, if_true, if_false, not_true_eq_false, not_false_eq_true]
    refine zz_Ei (fun h => absurd h (by omega)) (fun _ => ?_)
    have tz : ∀ b, 0 ≤ b → b < J 132 0 * J 132 1 → 0 ≤ zz_tO ex (J' 143) (J 132 0 * J 132 1) b := fun b b0 b1 => (cols b b0 b1).2
    have hs0 : zz_sum (zz_sO ex (J' 143) (J 132 0 * J 132 1)) (J 132 0 * J 132 1) = 0 := by
      refine Classical.byContradiction fun q => ?_
      have q1 := zz_sum_le (f := fun _ => 0) (g := zz_sO ex (J' 143) (J 132 0 * J 132 1)) (c := J 132 0 * J 132 1) (by omega) (fun i _ _ => s0 i)
      rw [zz_sum_z (f := fun _ => 0) (by omega) (fun _ _ _ => rfl)] at q1
      obtain ⟨a0, p0, p1, p2⟩ := zz_sum_pos (f := zz_sO ex (J' 143) (J 132 0 * J 132 1)) (c := J 132 0 * J 132 1) (by omega) (by omega)
      have ha0 : zz_hi ex (J 132 0 * J 132 1) a0 := Classical.byContradiction fun q' => by
        have : zz_sO ex (J' 143) (J 132 0 * J 132 1) a0 = 0 := if_neg q'
        omega
      rw [sv a0 ha0] at p2
      have hnp := (newp a0 ha0 p2).1
      obtain ⟨b, b0, b1, b2⟩ := zz_sum_pos (f := zz_tO ex (J' 143) (J 132 0 * J 132 1)) (c := J 132 0 * J 132 1) (by omega) (by omega)
      have hbh : ¬ zz_hi ex (J 132 0 * J 132 1) b := fun q' => by
        have := th b q'
        omega
      have e1 := tv b b0 b1 hbh
      have e2 := hb b b0 b1
      have e3 := hnp b b0 b1
      rw [lv b b0] at e3
      omega
    have hsz := zz_allz (by omega) (fun i _ _ => s0 i) hs0
    have htz := zz_allz (by omega) tz (by omega)
    have hbd := zz_trb (by omega) (by omega) (by omega) (by omega) (fun c c0 c1 => (hex c c0 c1).2) htr
    refine zz_Er (fin _ K ⟨fun x x1 x2 => ?_, fun y hy => ?_⟩ hbd.1 hbd.2 (zz_trc (by omega) htr (fun a ha => hsz a ha.1 ha.2.1) htz) ?_)
    · rw [zz_dpn (by omega) (by omega)]
      exact hfx.1 x x1 x2
    · rw [zz_dpn (by omega) (by omega)]
      exact hfx.2 y hy
    · rw [zz_dpn (by omega) (by omega), hst, hs0, Int.sub_zero]
  · have hob := hos.1 best hb0 hb1
    have hbh : ¬ zz_hi ex (J 132 0 * J 132 1) best := fun q => by
      have := hob.2.1 q
      omega
    have ebb := hbb best hb0 hb1
    have etb := tv best hb0 hb1 hbh
    obtain ⟨a0, p0, p1, p2⟩ := zz_sum_pos (f := zz_sO ex (J' 143) (J 132 0 * J 132 1)) (c := J 132 0 * J 132 1) (by omega) (by
      have := zz_sum_1z (f := zz_tO ex (J' 143) (J 132 0 * J 132 1)) (c := J 132 0 * J 132 1) (fun b b0 b1 => (cols b b0 b1).2) hb0 hb1
      omega)
    have ha0 : zz_hi ex (J 132 0 * J 132 1) a0 := Classical.byContradiction fun q' => by
      have : zz_sO ex (J' 143) (J 132 0 * J 132 1) a0 = 0 := if_neg q'
      omega
    rw [sv a0 ha0] at p2
    obtain ⟨np1, np2, np3⟩ := newp a0 ha0 p2
    obtain ⟨rk, rk1, rk2⟩ := zz_rank (nl := J 132 0 * J 132 1) (fun a ha => ⟨ha.1, ha.2.1⟩) hbf.1
    simp (maxSteps := 5000000) (disch := first | assumption | omega) only [hrun, zz_dp5, zz_dp6, zz_dpn, zr_131_0, zr_131_1, zr_131_2, zr_131_3, zr_131_4, zr_131_5, zr_131_6, zr_131_7, zr_131_8, zg_131_9, zp_131_9, zg_131_10, zp_131_10, zg_131_11, zp_131_11, zg_131_12, zp_131_12, zg_131_13, zp_131_13, zg_131_14, zp_131_14, zr_131_15, zg_131_16, zp_131_16, zg_131_17, zp_131_17, zr_131_18, zr_131_19, zr_131_20, zr_131_21, zr_131_22, zg_131_23, zp_131_23, zr_131_24, zg_131_25, zp_131_25, zg_131_26, zp_131_26, zr_131_27, zr_131_28, zg_131_29, zp_131_29, zg_131_30, zp_131_30, zr_131_31, zr_131_32, zr_131_33, zr_131_34, zr_131_35, zi_131, za_132, zs_132, zl_132, za_133, zs_133, zl_133, za_134, zs_134, zl_134, za_135, zs_135, zl_135, za_136, zs_136, zl_136, za_137, zs_137, zl_137, za_138, zs_138, zl_138, za_139, zs_139, zl_139, za_140, zs_140, zl_140, za_141, zs_141, zl_141, za_142, zs_142, zl_142, za_143, zs_143, zl_143, za_144, zs_144, zl_144, za_145, zs_145, zl_145, za_146, zs_146, zl_146, za_147, zs_147, zl_147, za_148, zs_148, zl_148, za_149, zs_149, zl_149, za_150, zs_150, zl_150, za_151, zs_151, zl_151, za_152, zs_152, zl_152, za_153, zs_153, zl_153, za_154, zs_154, zl_154, zz_0, zz_31, zz_add, zz_sub, zz_mul, zz_neg, zz_lt, zz_le, zz_eq, zz_div, zz_md, zz_dv, zz_abs, zz_max, zz_min, zz_nI, zz_be0, zz_be1, zz_zb, zz_z, zz_l0, zz_l, zz_lcmp, zo_rf, zo_nl, zo_nn, zo_rI, zo_rL, zo_rR, zo_rV, Int.add_zero, Int.zero_add, Int.mul_zero, Int.zero_mul, Int.one_mul, Int.mul_one, if_true, if_false, not_true_eq_false, not_false_eq_true]
    refine zz_Ei (fun _ => ?_) (fun h => absurd hb0 h)
    simp (maxSteps := 5000000) (disch := first | assumption | omega) only [hrun, zz_dp5, zz_dp6, zz_dpn, zu_s, zu_a, zr_131_0, zr_131_1, zr_131_2, zr_131_3, zr_131_4, zr_131_5, zr_131_6, zr_131_7, zr_131_8, zg_131_9, zp_131_9, zg_131_10, zp_131_10, zg_131_11, zp_131_11, zg_131_12, zp_131_12, zg_131_13, zp_131_13, zg_131_14, zp_131_14, zr_131_15, zg_131_16, zp_131_16, zg_131_17, zp_131_17, zr_131_18, zr_131_19, zr_131_20, zr_131_21, zr_131_22, zg_131_23, zp_131_23, zr_131_24, zg_131_25, zp_131_25, zg_131_26, zp_131_26, zr_131_27, zr_131_28, zg_131_29, zp_131_29, zg_131_30, zp_131_30, zr_131_31, zr_131_32, zr_131_33, zr_131_34, zr_131_35, zi_131, za_132, zs_132, zl_132, za_133, zs_133, zl_133, za_134, zs_134, zl_134, za_135, zs_135, zl_135, za_136, zs_136, zl_136, za_137, zs_137, zl_137, za_138, zs_138, zl_138, za_139, zs_139, zl_139, za_140, zs_140, zl_140, za_141, zs_141, zl_141, za_142, zs_142, zl_142, za_143, zs_143, zl_143, za_144, zs_144, zl_144, za_145, zs_145, zl_145, za_146, zs_146, zl_146, za_147, zs_147, zl_147, za_148, zs_148, zl_148, za_149, zs_149, zl_149, za_150, zs_150, zl_150, za_151, zs_151, zl_151, za_152, zs_152, zl_152, za_153, zs_153, zl_153, za_154, zs_154, zl_154, zz_0, zz_31, zz_add, zz_sub, zz_mul, zz_neg, zz_lt, zz_le, zz_eq, zz_div, zz_md, zz_dv, zz_abs, zz_max, zz_min, zz_nI, zz_be0, zz_be1, zz_zb, zz_z, zz_l0, zz_l, zz_lcmp, zo_rf, zo_nl, zo_nn, zo_rI, zo_rL, zo_rR, zo_rV, Int.add_zero, Int.zero_add, Int.mul_zero, Int.zero_mul, Int.one_mul, Int.mul_one, if_true, if_false, not_true_eq_false, not_false_eq_true]
    have j143 : zz_u (zz_dp J' D P) 131 23 (J' 131 23 + 1) 143 = J' 143 := by rw [zu_A (by omega), zz_dpn (by omega) (by omega)]
    have j144 : zz_u (zz_dp J' D P) 131 23 (J' 131 23 + 1) 144 = J' 144 := by rw [zu_A (by omega), zz_dpn (by omega) (by omega)]
    have kk := r_172w (T := T) (J := J) (R := R) (G := G) (d := d) hL (by omega) (by omega) (ex := ex) (du := zl_u D) (dv := zl_v D) (D := D) (P := P) (rk := rk) (J1 := zz_u (zz_dp J' D P) 131 23 (J' 131 23 + 1)) (K := K + D (16 + best)) (e := best) (Q := Q) ?_ ?_ ?_ ?_ ?_ hb0 hb1 hbh ?_ ?_ ?_ (rk (zz_pv P best) + 1).toNat best (J' 144) hb0 hb1 ?_ ?_ ?_
    · have e1 : zz_w (zz_w (zz_u (zz_dp J' D P) 131 23 (J' 131 23 + 1)) 143 (zz_f (zz_u (zz_dp J' D P) 131 23 (J' 131 23 + 1) 143) best (zz_u (zz_dp J' D P) 131 23 (J' 131 23 + 1) 143 best + 1))) 144 (J' 144) = zz_u (zz_u (zz_dp J' D P) 131 23 (J' 131 23 + 1)) 143 best (J' 143 best + 1) := by
        rw [zz_uw (a := 143)]
        rw [zu_A (by omega), zz_dpn (by omega) (by omega)]
        funext x
        by_cases h : x = 144
        · rw [h, zw_s, zw_n (by omega), zu_A (by omega), zz_dpn (by omega) (by omega)]
        · rw [zw_n h]
      rw [e1] at kk
      exact kk
    · rw [j143, j144]
      exact hos
    · exact hbf.2.2
    · rw [j143, j144]
      intro a ha
      have f := np2 a ha
      rcases hbf.1.1 a ha with q | q | ⟨q0, q1, q2, q3, q4, q5⟩
      · omega
      · exact Or.inl ⟨q.2.1, q.1, q.2.2⟩
      · exact Or.inr ⟨q0, q1, q2, (np3 a _ ha q0 q1).2.2.2 q2, (rk2 a ha q0).2⟩
    · intro b b0 b1
      have f := np1 b b0 b1
      rcases hbf.1.2.1 b b0 b1 with q | ⟨q0, q1, q2⟩
      · omega
      · have := (np3 _ b q0 b0 b1).2.2.1
        exact ⟨q0, by omega⟩
    · exact fun a ha => (rk1 a ha).1
    · intro x1 r J2 hr hr0 hx1 g1 g2 g3 g4 g5 g6 g7
      rw [j143] at hr0 g6
      rw [j144] at g2 g3 g4 g7
      have hne : r ≠ best := fun q => hbh (by rw [← q]; exact hr)
      have esO : zz_sO ex (J2 143) (J 132 0 * J 132 1) = zz_f (zz_sO ex (J' 143) (J 132 0 * J 132 1)) r (zz_sO ex (J' 143) (J 132 0 * J 132 1) r - 1) := by
        funext a
        rw [sv r hr, g6]
        by_cases ha : zz_hi ex (J 132 0 * J 132 1) a
        · have e1 : zz_sO ex (zz_f (zz_f (J' 143) best (J' 143 best + 1)) r (J' 143 r - 1)) (J 132 0 * J 132 1) a = zz_f (zz_f (J' 143) best (J' 143 best + 1)) r (J' 143 r - 1) a := if_pos ha
          rw [e1]
          by_cases e : a = r
          · rw [e, zf_s, zf_s]
          · rw [zf_n e, zf_n e, zf_n (fun q => hbh (by rw [← q]; exact ha)), sv a ha]
        · have e1 : zz_sO ex (zz_f (zz_f (J' 143) best (J' 143 best + 1)) r (J' 143 r - 1)) (J 132 0 * J 132 1) a = 0 := if_neg ha
          rw [e1, zf_n (fun q => ha (by rw [q]; exact hr))]
          exact (if_neg ha).symm
      have etO : zz_tO ex (J2 143) (J 132 0 * J 132 1) = zz_f (zz_tO ex (J' 143) (J 132 0 * J 132 1)) best (zz_tO ex (J' 143) (J 132 0 * J 132 1) best - 1) := by
        funext a
        rw [etb, g6]
        by_cases ha : 0 ≤ a ∧ a < J 132 0 * J 132 1 ∧ ¬ zz_hi ex (J 132 0 * J 132 1) a
        · have e1 : zz_tO ex (zz_f (zz_f (J' 143) best (J' 143 best + 1)) r (J' 143 r - 1)) (J 132 0 * J 132 1) a = -zz_f (zz_f (J' 143) best (J' 143 best + 1)) r (J' 143 r - 1) a := if_pos ha
          rw [e1, zf_n (fun q => ha.2.2 (by rw [q]; exact hr))]
          by_cases e : a = best
          · rw [e, zf_s, zf_s]
            omega
          · rw [zf_n e, zf_n e, tv a ha.1 ha.2.1 ha.2.2]
        · have e1 : zz_tO ex (zz_f (zz_f (J' 143) best (J' 143 best + 1)) r (J' 143 r - 1)) (J 132 0 * J 132 1) a = 0 := if_neg ha
          rw [e1, zf_n (fun q => ha (by rw [q]; exact ⟨hb0, hb1, hbh⟩))]
          exact (if_neg ha).symm
      have hsr := zz_sum_f (f := zz_sO ex (J' 143) (J 132 0 * J 132 1)) (k := r) (v := zz_sO ex (J' 143) (J 132 0 * J 132 1) r - 1) hr.1 hr.2.1
      have h131 : J2 131 = zz_f (J' 131) 23 (J' 131 23 + 1) := by
        rw [g5 131 (by omega) (by omega), zz_uw, zw_s, zz_dpn (by omega) (by omega)]
      refine kw (K + D (16 + best), J2) ⟨⟨fun x x1 x2 => ?_, fun y hy => ?_⟩, fun a b a0 a1 b0 b1 ha => ?_, ?_, ?_⟩ ?_
      · show J2 x = J x
        rw [g5 x (by omega) (by omega), zu_A x1, zz_dpn (by omega) (by omega)]
        exact hfx.1 x x1 x2
      · show J2 131 y = J 131 y
        rw [h131, zf_n hy]
        exact hfx.2 y hy
      · show J2 144 (16 * a + b) = 0
        rw [g7 a b a0 a1 b0 b1 ha]
        exact hz a b a0 a1 b0 b1 ha
      · have := zz_trs htr np3 hr (e := best) rfl (by omega) (by rw [sv r hr]; omega) (by rw [etb]; omega) g1 g2 g3 g4 (fun a ha => by rw [hx1, xz a ha, zz_xr_n ha])
        show zz_tr _ _ _ _ _ _ _ (zz_xr ex _ (J2 144)) (zz_sO ex (J2 143) _) (zz_tO ex (J2 143) _) (K + D (16 + best))
        rw [← hx1, esO, etO]
        rw [lv best hb0, Int.mul_one] at this
        exact this
      · show J2 131 23 = _ - zz_sum (zz_sO ex (J2 143) _) _
        rw [h131, zf_s, esO, hsr, hst]
        omega
      · show (zz_sum (zz_sO ex (J2 143) _) _).toNat < (zz_sum (zz_sO ex (J' 143) _) _).toNat
        rw [esO, hsr]
        have := zz_sum_1z (f := zz_sO ex (J' 143) (J 132 0 * J 132 1)) (c := J 132 0 * J 132 1) (fun i _ _ => s0 i) hr.1 hr.2.1
        rw [sv r hr] at this ⊢
        omega
    · rw [zu_A (by omega), zz_dp6]
    · rw [j144]
      exact fun a b ha b0 b1 => ⟨(np3 a b ha b0 b1).2.1, (np3 a b ha b0 b1).2.2.2⟩
    · have q := (rk1 (zz_pv P best) (by
        rcases hbf.1.2.1 best hb0 hb1 with q | q
        · have := np1 best hb0 hb1
          omega
        · exact q.1)).1
      omega
    · rw [j144]
      exact zz_au0 (fun a b ha b0 b1 => ⟨(np3 a b ha b0 b1).2.1, (np3 a b ha b0 b1).2.2.2⟩)
    · rw [j144]
      exact fun _ _ _ _ _ _ _ => rfl
theorem r_172 (hL : ZL T R) (hA : zz_ok Y (J 132)) (hd : 6 ≤ d) : ∃ K J', mv_cax d 172 [.inr (.inr (some 131))] (zz_S T J R G) = some (some (.inl (mv_c K)), zz_S T J' R G) ∧ zz_fx J J' ∧ zz_lst (J 132) (zz_ex (J 132) (fun c => J 132 (24 + c))) K ∧ (0 ≤ K → J' 131 23 = zz_sum (fun c => max 0 (zz_ex (J 132) (fun c => J 132 (24 + c)) c)) (J 132 0 * J 132 1)) := by
  have hn := hA.n
  have hex := zz_exr hA
  suffices h : ∃ r, mv_cax d 172 [.inr (.inr (some 131))] (zz_S T J R G) = some r ∧ ∃ K J', r = (some (.inl (mv_c K)), zz_S T J' R G) ∧ zz_fx J J' ∧ zz_lst (J 132) (zz_ex (J 132) (fun c => J 132 (24 + c))) K ∧ (0 ≤ K → J' 131 23 = zz_sum (fun c => max 0 (zz_ex (J 132) (fun c => J 132 (24 + c)) c)) (J 132 0 * J 132 1)) by
    obtain ⟨r, h1, K, J', rfl, h2⟩ := h
    exact ⟨K, J', h1, h2⟩
  refine zz_call (by omega) t_172 rfl (fun n => e_172 _ _) ?_
  simp (maxSteps := 5000000) (disch := first | assumption | omega) only [r_135, zr_131_0, zr_131_1, zr_131_2, zr_131_3, zr_131_4, zr_131_5, zr_131_6, zr_131_7, zr_131_8, zg_131_9, zp_131_9, zg_131_10, zp_131_10, zg_131_11, zp_131_11, zg_131_12, zp_131_12, zg_131_13, zp_131_13, zg_131_14, zp_131_14, zr_131_15, zg_131_16, zp_131_16, zg_131_17, zp_131_17, zr_131_18, zr_131_19, zr_131_20, zr_131_21, zr_131_22, zg_131_23, zp_131_23, zr_131_24, zg_131_25, zp_131_25, zg_131_26, zp_131_26, zr_131_27, zr_131_28, zg_131_29, zp_131_29, zg_131_30, zp_131_30, zr_131_31, zr_131_32, zr_131_33, zr_131_34, zr_131_35, zi_131, za_132, zs_132, zl_132, za_133, zs_133, zl_133, za_134, zs_134, zl_134, za_135, zs_135, zl_135, za_136, zs_136, zl_136, za_137, zs_137, zl_137, za_138, zs_138, zl_138, za_139, zs_139, zl_139, za_140, zs_140, zl_140, za_141, zs_141, zl_141, za_142, zs_142, zl_142, za_143, zs_143, zl_143, za_144, zs_144, zl_144, za_145, zs_145, zl_145, za_146, zs_146, zl_146, za_147, zs_147, zl_147, za_148, zs_148, zl_148, za_149, zs_149, zl_149, za_150, zs_150, zl_150, za_151, zs_151, zl_151, za_152, zs_152, zl_152, za_153, zs_153, zl_153, za_154, zs_154, zl_154, zz_0, zz_31, zz_add, zz_sub, zz_mul, zz_neg, zz_lt, zz_le, zz_eq, zz_div, zz_md, zz_dv, zz_abs, zz_max, zz_min, zz_nI, zz_be0, zz_be1, zz_zb, zz_z, zz_l0, zz_l, zz_lcmp, zo_rf, zo_nl, zo_nn, zo_rI, zo_rL, zo_rR, zo_rV, Int.add_zero, Int.zero_add, Int.mul_zero, Int.zero_mul, Int.one_mul, Int.mul_one, if_true, if_false, not_true_eq_false, not_false_eq_true]
  generalize hX : zz_ex (J 132) (fun c => J 132 (24 + c)) = ex at *
  have e0 : J = zz_w J 143 (J 143) := zw_i.symm
  have r142 : ∀ (O : Int → Int) (c : Int), 0 ≤ c → c < J 132 0 * J 132 1 → mv_cax (d - 1) 142 [.inr (.inr (some 131)), .inl (mv_c c)] (zz_S T (zz_w J 143 O) R G) = some (some (.inl (mv_c (zz_bit (J 132 6) c))), zz_S T (zz_w J 143 O) R G) := by
    intro O c c0 c1
    have := r_142 (T := T) (J := zz_w J 143 O) (R := R) (G := G) (d := d - 1) (Y := Y) (c := c) (by omega) hL (by rw [zw_n (by omega)]; exact hA) c0 (by omega)
    rw [zw_n (by omega)] at this
    exact this
  have l1 := zz_loop (run := fun c q n => mv_run (mv_cax (d - 1)) mm_172 n 9 [(0, .inr (.inr (some 131))), (1, .inl (mv_c (J 132 0 * J 132 1))), (2, .inl (mv_c q.1)), (3, .inl (mv_c c))] [] (zz_S T (zz_w J 143 q.2) R G)) (Q := fun r => ∃ K J', r = (some (.inl (mv_c K)), zz_S T J' R G) ∧ zz_fx J J' ∧ zz_lst (J 132) ex K ∧ (0 ≤ K → J' 131 23 = zz_sum (fun c => max 0 (ex c)) (J 132 0 * J 132 1))) (J 132 0 * J 132 1) (fun c q => 0 ≤ c ∧ q.1 = zz_sum ex c ∧ ∀ i, 0 ≤ i → i < c → q.2 i = ex i ∧ ¬ (ex i ≠ 0 ∧ zz_bit (J 132 6) i = 1)) ?_ ?_ (J 132 0 * J 132 1).toNat 0 (0, J 143) (by omega) ⟨by omega, rfl, fun i _ _ => by omega⟩
  · rw [← e0] at l1
    exact l1
  · rintro c ⟨s, O⟩ ⟨hc, hs, hO⟩ hlt kk
    have hs : s = zz_sum ex c := hs
    have hO : ∀ i, 0 ≤ i → i < c → O i = ex i ∧ ¬ (ex i ≠ 0 ∧ zz_bit (J 132 6) i = 1) := hO
    have hcA := hA.2.2.2.2.2.2.2.1 c hc hlt
    have hec := hex c hc hlt
    have hs1 := zz_sum1 (f := ex) hc
    have hbt := zz_bit01 (J 132 6) c
    refine zz_Es (fun n => e_172_9 _ _ _ _ _) ?_
    have fin : ∀ v, v = ex c → ¬ (ex c ≠ 0 ∧ zz_bit (J 132 6) c = 1) → zz_E (fun n => mv_run (mv_cax (d - 1)) mm_172 n 9 [(0, .inr (.inr (some 131))), (1, .inl (mv_c (J 132 0 * J 132 1))), (2, .inl (mv_c (s + v))), (3, .inl (mv_c (c + 1)))] [] (zz_S T (zz_w J 143 (zz_f O c v)) R G)) _ := fun v hv hb => kk (s + v, zz_f O c v) ⟨by omega, by show s + v = _; rw [hs1, hs, hv], fun i i0 i1 => by
      show zz_f O c v i = ex i ∧ _
      by_cases e : i = c
      · rw [e, zf_s]
        exact ⟨hv, hb⟩
      · rw [zf_n e]
        exact hO i i0 (by omega)⟩
    have bad : ∀ v, v = ex c → ex c ≠ 0 → zz_bit (J 132 6) c = 1 → ∃ K J', (some (.inl (mv_c (-4))), zz_S T (zz_w J 143 (zz_f O c v)) R G) = ((some (.inl (mv_c K)), zz_S T J' R G) : Option mv_V × mv_S) ∧ zz_fx J J' ∧ zz_lst (J 132) ex K ∧ (0 ≤ K → J' 131 23 = zz_sum (fun c => max 0 (ex c)) (J 132 0 * J 132 1)) := fun v hv h1 h2 => ⟨-4, _, rfl, ⟨fun x x1 x2 => zw_n (by omega), fun y _ => by rw [zw_n (by omega)]⟩, Or.inl ⟨Or.inl ⟨c, hc, hlt, h1, h2⟩, rfl⟩, fun h => by omega⟩
    have hexc : ex c = if J 132 (24 + c) < 0 then 0 else J 132 (8 + c) - J 132 (24 + c) := by rw [← hX]; rfl
    by_cases h24 : J 132 (24 + c) < 0
    · rw [if_pos h24] at hexc
      simp (maxSteps := 5000000) (disch := first | assumption | omega) only [zw_s, zw_n, zz_wu, zf_s, r142, zr_131_0, zr_131_1, zr_131_2, zr_131_3, zr_131_4, zr_131_5, zr_131_6, zr_131_7, zr_131_8, zg_131_9, zp_131_9, zg_131_10, zp_131_10, zg_131_11, zp_131_11, zg_131_12, zp_131_12, zg_131_13, zp_131_13, zg_131_14, zp_131_14, zr_131_15, zg_131_16, zp_131_16, zg_131_17, zp_131_17, zr_131_18, zr_131_19, zr_131_20, zr_131_21, zr_131_22, zg_131_23, zp_131_23, zr_131_24, zg_131_25, zp_131_25, zg_131_26, zp_131_26, zr_131_27, zr_131_28, zg_131_29, zp_131_29, zg_131_30, zp_131_30, zr_131_31, zr_131_32, zr_131_33, zr_131_34, zr_131_35, zi_131, za_132, zs_132, zl_132, za_133, zs_133, zl_133, za_134, zs_134, zl_134, za_135, zs_135, zl_135, za_136, zs_136, zl_136, za_137, zs_137, zl_137, za_138, zs_138, zl_138, za_139, zs_139, zl_139, za_140, zs_140, zl_140, za_141, zs_141, zl_141, za_142, zs_142, zl_142, za_143, zs_143, zl_143, za_144, zs_144, zl_144, za_145, zs_145, zl_145, za_146, zs_146, zl_146, za_147, zs_147, zl_147, za_148, zs_148, zl_148, za_149, zs_149, zl_149, za_150, zs_150, zl_150, za_151, zs_151, zl_151, za_152, zs_152, zl_152, za_153, zs_153, zl_153, za_154, zs_154, zl_154, zz_0, zz_31, zz_add, zz_sub, zz_mul, zz_neg, zz_lt, zz_le, zz_eq, zz_div, zz_md, zz_dv, zz_abs, zz_max, zz_min, zz_nI, zz_be0, zz_be1, zz_zb, zz_z, zz_l0, zz_l, zz_lcmp, zo_rf, zo_nl, zo_nn, zo_rI, zo_rL, zo_rR, zo_rV, Int.add_zero, Int.zero_add, Int.mul_zero, Int.zero_mul, Int.one_mul, Int.mul_one, if_true, if_false, not_true_eq_false, not_false_eq_true]
      refine zz_Ei (fun h => absurd h (by omega)) (fun _ => ?_)
      refine zz_Ei (fun h => absurd h (by omega)) (fun _ => ?_)
      have f0 := fin 0 hexc.symm (fun q => q.1 hexc)
      rw [Int.add_zero] at f0
      exact f0
    · rw [if_neg h24] at hexc
      simp (maxSteps := 5000000) (disch := first | assumption | omega) only [zw_s, zw_n, zz_wu, zf_s, r142, zr_131_0, zr_131_1, zr_131_2, zr_131_3, zr_131_4, zr_131_5, zr_131_6, zr_131_7, zr_131_8, zg_131_9, zp_131_9, zg_131_10, zp_131_10, zg_131_11, zp_131_11, zg_131_12, zp_131_12, zg_131_13, zp_131_13, zg_131_14, zp_131_14, zr_131_15, zg_131_16, zp_131_16, zg_131_17, zp_131_17, zr_131_18, zr_131_19, zr_131_20, zr_131_21, zr_131_22, zg_131_23, zp_131_23, zr_131_24, zg_131_25, zp_131_25, zg_131_26, zp_131_26, zr_131_27, zr_131_28, zg_131_29, zp_131_29, zg_131_30, zp_131_30, zr_131_31, zr_131_32, zr_131_33, zr_131_34, zr_131_35, zi_131, za_132, zs_132, zl_132, za_133, zs_133, zl_133, za_134, zs_134, zl_134, za_135, zs_135, zl_135, za_136, zs_136, zl_136, za_137, zs_137, zl_137, za_138, zs_138, zl_138, za_139, zs_139, zl_139, za_140, zs_140, zl_140, za_141, zs_141, zl_141, za_142, zs_142, zl_142, za_143, zs_143, zl_143, za_144, zs_144, zl_144, za_145, zs_145, zl_145, za_146, zs_146, zl_146, za_147, zs_147, zl_147, za_148, zs_148, zl_148, za_149, zs_149, zl_149, za_150, zs_150, zl_150, za_151, zs_151, zl_151, za_152, zs_152, zl_152, za_153, zs_153, zl_153, za_154, zs_154, zl_154, zz_0, zz_31, zz_add, zz_sub, zz_mul, zz_neg, zz_lt, zz_le, zz_eq, zz_div, zz_md, zz_dv, zz_abs, zz_max, zz_min, zz_nI, zz_be0, zz_be1, zz_zb, zz_z, zz_l0, zz_l, zz_lcmp, zo_rf, zo_nl, zo_nn, zo_rI, zo_rL, zo_rR, zo_rV, Int.add_zero, Int.zero_add, Int.mul_zero, Int.zero_mul, Int.one_mul, Int.mul_one, if_true, if_false, not_true_eq_false, not_false_eq_true]
      refine zz_Ei (fun h => absurd h (by omega)) (fun _ => ?_)
      refine zz_Ei (fun _ => ?_) (fun h => absurd (by omega) h)
      refine zz_Ei (fun h => fin _ hexc.symm (fun q => by omega)) (fun h => ?_)
      refine zz_Ei (fun h => fin _ hexc.symm (fun q => by omega)) (fun h2 => ?_)
      exact zz_Er (bad _ hexc.symm (by omega) (by omega))
  · rintro ⟨s, O⟩ ⟨_, hs, hO⟩
    have hs : s = zz_sum ex (J 132 0 * J 132 1) := hs
    have hO : ∀ i, 0 ≤ i → i < J 132 0 * J 132 1 → O i = ex i ∧ ¬ (ex i ≠ 0 ∧ zz_bit (J 132 6) i = 1) := hO
    have hsb := zz_sum_b (f := ex) (a := -9) (b := 9) (c := J 132 0 * J 132 1) (by omega) hex
    refine zz_Es (fun n => e_172_9 _ _ _ _ _) ?_
    simp (maxSteps := 5000000) (disch := first | assumption | omega) only [zr_131_0, zr_131_1, zr_131_2, zr_131_3, zr_131_4, zr_131_5, zr_131_6, zr_131_7, zr_131_8, zg_131_9, zp_131_9, zg_131_10, zp_131_10, zg_131_11, zp_131_11, zg_131_12, zp_131_12, zg_131_13, zp_131_13, zg_131_14, zp_131_14, zr_131_15, zg_131_16, zp_131_16, zg_131_17, zp_131_17, zr_131_18, zr_131_19, zr_131_20, zr_131_21, zr_131_22, zg_131_23, zp_131_23, zr_131_24, zg_131_25, zp_131_25, zg_131_26, zp_131_26, zr_131_27, zr_131_28, zg_131_29, zp_131_29, zg_131_30, zp_131_30, zr_131_31, zr_131_32, zr_131_33, zr_131_34, zr_131_35, zi_131, za_132, zs_132, zl_132, za_133, zs_133, zl_133, za_134, zs_134, zl_134, za_135, zs_135, zl_135, za_136, zs_136, zl_136, za_137, zs_137, zl_137, za_138, zs_138, zl_138, za_139, zs_139, zl_139, za_140, zs_140, zl_140, za_141, zs_141, zl_141, za_142, zs_142, zl_142, za_143, zs_143, zl_143, za_144, zs_144, zl_144, za_145, zs_145, zl_145, za_146, zs_146, zl_146, za_147, zs_147, zl_147, za_148, zs_148, zl_148, za_149, zs_149, zl_149, za_150, zs_150, zl_150, za_151, zs_151, zl_151, za_152, zs_152, zl_152, za_153, zs_153, zl_153, za_154, zs_154, zl_154, zz_0, zz_31, zz_add, zz_sub, zz_mul, zz_neg, zz_lt, zz_le, zz_eq, zz_div, zz_md, zz_dv, zz_abs, zz_max, zz_min, zz_nI, zz_be0, zz_be1, zz_zb, zz_z, zz_l0, zz_l, zz_lcmp, zo_rf, zo_nl, zo_nn, zo_rI, zo_rL, zo_rR, zo_rV, Int.add_zero, Int.zero_add, Int.mul_zero, Int.zero_mul, Int.one_mul, Int.mul_one, if_true, if_false, not_true_eq_false, not_false_eq_true]
    refine zz_Ei (fun _ => ?_) (fun h => absurd (Int.le_refl _) h)
    refine zz_Ei (fun hz => ?_) (fun hz => ?_)
    · have e1 : zz_w J 143 O = zz_w (zz_w J 143 O) 144 (J 144) := by
        funext x
        by_cases h : x = 144
        · rw [h, zw_s, zw_n (by omega)]
        · rw [zw_n (a := 144) h]
      have l2 := zz_loop (run := fun k B n => mv_run (mv_cax (d - 1)) mm_172 n 99 [(0, .inr (.inr (some 131))), (3, .inl (mv_c k))] [] (zz_S T (zz_w (zz_w J 143 O) 144 B) R G)) (Q := fun r => ∃ K J', r = (some (.inl (mv_c K)), zz_S T J' R G) ∧ zz_fx J J' ∧ zz_lst (J 132) ex K ∧ (0 ≤ K → J' 131 23 = zz_sum (fun c => max 0 (ex c)) (J 132 0 * J 132 1))) 256 (fun k B => 0 ≤ k ∧ ∀ i, 0 ≤ i → i < k → B i = 0) ?_ ?_ 256 0 (J 144) (by omega) ⟨by omega, fun i _ _ => by omega⟩
      · rw [← e1] at l2
        exact l2
      · rintro k B ⟨hk, hB⟩ hlt kk
        refine zz_Es (fun n => e_172_99 _ _ _) ?_
        simp (maxSteps := 5000000) (disch := first | assumption | omega) only [zz_wu, zr_131_0, zr_131_1, zr_131_2, zr_131_3, zr_131_4, zr_131_5, zr_131_6, zr_131_7, zr_131_8, zg_131_9, zp_131_9, zg_131_10, zp_131_10, zg_131_11, zp_131_11, zg_131_12, zp_131_12, zg_131_13, zp_131_13, zg_131_14, zp_131_14, zr_131_15, zg_131_16, zp_131_16, zg_131_17, zp_131_17, zr_131_18, zr_131_19, zr_131_20, zr_131_21, zr_131_22, zg_131_23, zp_131_23, zr_131_24, zg_131_25, zp_131_25, zg_131_26, zp_131_26, zr_131_27, zr_131_28, zg_131_29, zp_131_29, zg_131_30, zp_131_30, zr_131_31, zr_131_32, zr_131_33, zr_131_34, zr_131_35, zi_131, za_132, zs_132, zl_132, za_133, zs_133, zl_133, za_134, zs_134, zl_134, za_135, zs_135, zl_135, za_136, zs_136, zl_136, za_137, zs_137, zl_137, za_138, zs_138, zl_138, za_139, zs_139, zl_139, za_140, zs_140, zl_140, za_141, zs_141, zl_141, za_142, zs_142, zl_142, za_143, zs_143, zl_143, za_144, zs_144, zl_144, za_145, zs_145, zl_145, za_146, zs_146, zl_146, za_147, zs_147, zl_147, za_148, zs_148, zl_148, za_149, zs_149, zl_149, za_150, zs_150, zl_150, za_151, zs_151, zl_151, za_152, zs_152, zl_152, za_153, zs_153, zl_153, za_154, zs_154, zl_154, zz_0, zz_31, zz_add, zz_sub, zz_mul, zz_neg, zz_lt, zz_le, zz_eq, zz_div, zz_md, zz_dv, zz_abs, zz_max, zz_min, zz_nI, zz_be0, zz_be1, zz_zb, zz_z, zz_l0, zz_l, zz_lcmp, zo_rf, zo_nl, zo_nn, zo_rI, zo_rL, zo_rR, zo_rV, Int.add_zero, Int.zero_add, Int.mul_zero, Int.zero_mul, Int.one_mul, Int.mul_one, if_true, if_false, not_true_eq_false, not_false_eq_true]
        refine zz_Ei (fun h => absurd h (by omega)) (fun _ => ?_)
        refine kk (zz_f B k 0) ⟨by omega, fun i i0 i1 => ?_⟩
        by_cases e : i = k
        · rw [e, zf_s]
        · rw [zf_n e]
          exact hB i i0 (by omega)
      · rintro B ⟨_, hB⟩
        refine zz_Es (fun n => e_172_99 _ _ _) ?_
        simp (maxSteps := 5000000) (disch := first | assumption | omega) only [zr_131_0, zr_131_1, zr_131_2, zr_131_3, zr_131_4, zr_131_5, zr_131_6, zr_131_7, zr_131_8, zg_131_9, zp_131_9, zg_131_10, zp_131_10, zg_131_11, zp_131_11, zg_131_12, zp_131_12, zg_131_13, zp_131_13, zg_131_14, zp_131_14, zr_131_15, zg_131_16, zp_131_16, zg_131_17, zp_131_17, zr_131_18, zr_131_19, zr_131_20, zr_131_21, zr_131_22, zg_131_23, zp_131_23, zr_131_24, zg_131_25, zp_131_25, zg_131_26, zp_131_26, zr_131_27, zr_131_28, zg_131_29, zp_131_29, zg_131_30, zp_131_30, zr_131_31, zr_131_32, zr_131_33, zr_131_34, zr_131_35, zi_131, za_132, zs_132, zl_132, za_133, zs_133, zl_133, za_134, zs_134, zl_134, za_135, zs_135, zl_135, za_136, zs_136, zl_136, za_137, zs_137, zl_137, za_138, zs_138, zl_138, za_139, zs_139, zl_139, za_140, zs_140, zl_140, za_141, zs_141, zl_141, za_142, zs_142, zl_142, za_143, zs_143, zl_143, za_144, zs_144, zl_144, za_145, zs_145, zl_145, za_146, zs_146, zl_146, za_147, zs_147, zl_147, za_148, zs_148, zl_148, za_149, zs_149, zl_149, za_150, zs_150, zl_150, za_151, zs_151, zl_151, za_152, zs_152, zl_152, za_153, zs_153, zl_153, za_154, zs_154, zl_154, zz_0, zz_31, zz_add, zz_sub, zz_mul, zz_neg, zz_lt, zz_le, zz_eq, zz_div, zz_md, zz_dv, zz_abs, zz_max, zz_min, zz_nI, zz_be0, zz_be1, zz_zb, zz_z, zz_l0, zz_l, zz_lcmp, zo_rf, zo_nl, zo_nn, zo_rI, zo_rL, zo_rR, zo_rV, Int.add_zero, Int.zero_add, Int.mul_zero, Int.zero_mul, Int.one_mul, Int.mul_one, if_true, if_false, not_true_eq_false, not_false_eq_true]
        refine zz_Ei (fun _ => ?_) (fun h => absurd (Int.le_refl _) h)
        have nb : ¬ zz_bad (J 132) ex := by
          intro q
          rcases q with ⟨c, c0, c1, c2, c3⟩ | q
          · exact (hO c c0 c1).2 ⟨c2, c3⟩
          · omega
        refine r_172m (J := J) hL hA (by omega) hex (by omega) (fun J' K f1 f2 f3 f4 f5 => ⟨K, J', rfl, f1, Or.inr ⟨nb, f2, f3, f4⟩, fun _ => f5⟩) (0, zz_u (zz_w (zz_w J 143 O) 144 B) 131 23 0) ?_
        · have j3 : zz_u (zz_w (zz_w J 143 O) 144 B) 131 23 0 143 = O := by rw [zu_A (by omega), zw_n (by omega), zw_s]
          have j4 : zz_u (zz_w (zz_w J 143 O) 144 B) 131 23 0 144 = B := by rw [zu_A (by omega), zw_s]
          have hx0 : ∀ a b, zz_xr ex (J 132 0 * J 132 1) B a b = 0 := by
            intro a b
            by_cases q : zz_hi ex (J 132 0 * J 132 1) a ∧ 0 ≤ b ∧ b < J 132 0 * J 132 1
            · rw [zz_xr_v q.1 q.2.1 q.2.2]
              have := q.1.1
              have := q.1.2.1
              exact hB _ (by omega) (by omega)
            · exact if_neg q
          have es : ∀ a, 0 ≤ a → a < J 132 0 * J 132 1 → zz_sO ex O (J 132 0 * J 132 1) a = max 0 (ex a) := by
            intro a a0 a1
            by_cases q : zz_hi ex (J 132 0 * J 132 1) a
            · have e3 : zz_sO ex O (J 132 0 * J 132 1) a = O a := if_pos q
              have := q.2.2
              rw [e3, (hO a a0 a1).1]
              omega
            · have e3 : zz_sO ex O (J 132 0 * J 132 1) a = 0 := if_neg q
              have : ¬ 0 < ex a := fun q' => q ⟨a0, a1, q'⟩
              omega
          show zz_li J ex (zz_u (zz_w (zz_w J 143 O) 144 B) 131 23 0) 0
          refine ⟨⟨fun x x1 x2 => ?_, fun y hy => ?_⟩, fun a b a0 a1 b0 b1 _ => ?_, ?_, ?_⟩
          · rw [zu_A x1, zw_n (by omega), zw_n (by omega)]
          · rw [zu_k hy, zw_n (by omega), zw_n (by omega)]
          · rw [j4]
            exact hB _ (by omega) (by omega)
          · rw [j3, j4]
            refine ⟨⟨fun _ => 0, fun _ => 0, fun a b ha b0 b1 => ?_⟩, fun a ha => ?_, fun b b0 b1 => ?_, fun a _ => funext (hx0 a), ?_⟩
            · have := zz_nr_b hA.1.1 hA.1.2.1 hA.1.2.2.1 hA.1.2.2.2 ha.1 ha.2.1 b0 b1
              have hww : zz_w2 (J 132 1) a b = 2 * zz_nr (J 132 1) a b := rfl
              rw [hx0 a b]
              refine ⟨by omega, by omega, by show (0 : Int) - 0 ≤ _; omega, fun q => by omega⟩
            · rw [zz_sum_z (by omega) (fun i _ _ => hx0 a i), es a ha.1 ha.2.1]
              refine ⟨by show 0 + max 0 (ex a) = max 0 (ex a); omega, by omega⟩
            · rw [zz_sum_z (by omega) (fun i _ _ => hx0 i b)]
              show 0 + zz_tO ex O _ b = max 0 (-ex b) ∧ _
              have e3 : zz_tO ex O (J 132 0 * J 132 1) b = max 0 (-ex b) := by
                by_cases q : zz_hi ex (J 132 0 * J 132 1) b
                · have e4 : zz_tO ex O (J 132 0 * J 132 1) b = 0 := if_neg (fun q' => q'.2.2 q)
                  have := q.2.2
                  omega
                · have e4 : zz_tO ex O (J 132 0 * J 132 1) b = -O b := if_pos ⟨b0, b1, q⟩
                  have : ¬ 0 < ex b := fun q' => q ⟨b0, b1, q'⟩
                  rw [e4, (hO b b0 b1).1]
                  omega
              omega
            · unfold zz_cst
              exact zz_sum_z (by omega) (fun a _ _ => zz_sum_z (by omega) (fun b _ _ => by rw [hx0]; exact Int.mul_zero _))
          · rw [j3, zu_s, zz_sum_c (by omega) (fun i i0 i1 => es i i0 i1)]
            omega
    · exact zz_Er ⟨-4, _, rfl, ⟨fun x x1 x2 => zw_n (by omega), fun y _ => by rw [zw_n (by omega)]⟩, Or.inl ⟨Or.inr (by omega), rfl⟩, fun h => by omega⟩
end ZLE2
