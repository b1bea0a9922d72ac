/-! PURE LAYER, 15: the reference: what is drawn, a year -/
def zz_tw (A : Int → Int) (c : Int) : Int := if A (24 + c) < 0 then A (8 + c) else A (24 + c)
def zz_dl (f t c : Int) : Int := if 0 ≤ f then (if c = f then -1 else if c = t then 1 else 0) else 0
def zz_dr (A : Int → Int) (d : Int) (g : Int → Int) : Prop :=
  (A (40 + 15 * d) = 0 ∧ ∀ c, 0 ≤ c → c < A 0 * A 1 → g c = A (8 + c)) ∨
  (A (40 + 15 * d) = 5 ∧ ∀ c, 0 ≤ c → c < A 0 * A 1 → g c = zz_tw A c) ∨
  (A (40 + 15 * d) = 6 ∧ ∀ c, 0 ≤ c → c < A 0 * A 1 → g c = zz_tw A c - (if c = A (41 + 15 * d) ∧ 0 < zz_tw A c then 1 else 0)) ∨
  ((A (40 + 15 * d) ≠ 0 ∧ A (40 + 15 * d) ≠ 5 ∧ A (40 + 15 * d) ≠ 6) ∧ ∃ f t, zz_fdn A d (A (40 + 15 * d)) f t ∧ ∀ c, 0 ≤ c → c < A 0 * A 1 → g c = A (8 + c) + zz_dl f t c)
theorem zz_dr_u {A g g' : Int → Int} {d : Int} (hn : A 0 * A 1 ≤ 16) (h : zz_dr A d g) (h' : zz_dr A d g') : ∀ c, 0 ≤ c → c < A 0 * A 1 → g c = g' c := by
  intro c c0 c1
  rcases h with ⟨k, p⟩ | ⟨k, p⟩ | ⟨k, p⟩ | ⟨k, f, t, q, p⟩
  · rcases h' with ⟨k', p'⟩ | ⟨k', p'⟩ | ⟨k', p'⟩ | ⟨k', f', t', q', p'⟩
    · rw [p c c0 c1, p' c c0 c1]
    · omega
    · omega
    · omega
  · rcases h' with ⟨k', p'⟩ | ⟨k', p'⟩ | ⟨k', p'⟩ | ⟨k', f', t', q', p'⟩
    · omega
    · rw [p c c0 c1, p' c c0 c1]
    · omega
    · omega
  · rcases h' with ⟨k', p'⟩ | ⟨k', p'⟩ | ⟨k', p'⟩ | ⟨k', f', t', q', p'⟩
    · omega
    · omega
    · rw [p c c0 c1, p' c c0 c1]
    · omega
  · rcases h' with ⟨k', p'⟩ | ⟨k', p'⟩ | ⟨k', p'⟩ | ⟨k', f', t', q', p'⟩
    · omega
    · omega
    · omega
    · rw [p c c0 c1, p' c c0 c1]
      rcases zz_pick_u hn q q' with ⟨r1, r2⟩ | ⟨r1, r2, r3⟩
      · unfold zz_dl
        rw [if_neg (by omega), if_neg (by omega)]
      · rw [r2, r3]
def zz_pm (A g : Int → Int) : Int → Int := fun y => if 24 ≤ y ∧ y < 24 + A 0 * A 1 then g (y - 24) else A y
def zz_ye (A : Int → Int) (d : Int) (A' : Int → Int) : Prop := ∃ g A1 l u, zz_dr A d g ∧ zz_dgd (zz_pm A g) A1 l u ∧ A' = zz_f A1 4 (A1 4 + 1)
theorem zz_pm01 {A g : Int → Int} : zz_pm A g 0 = A 0 ∧ zz_pm A g 1 = A 1 := ⟨if_neg (by omega), if_neg (by omega)⟩
theorem zz_pm_c {A g g' : Int → Int} (h : ∀ c, 0 ≤ c → c < A 0 * A 1 → g c = g' c) : zz_pm A g = zz_pm A g' := by
  funext y
  unfold zz_pm
  split
  · exact h _ (by omega) (by omega)
  · rfl
theorem zz_ye_u {A A1 A2 : Int → Int} {d : Int} (hn : 0 ≤ A 0 * A 1) (hn2 : A 0 * A 1 ≤ 16) (h : zz_ye A d A1) (h' : zz_ye A d A2) : A1 = A2 := by
  obtain ⟨g, B, l, u, p1, p2, rfl⟩ := h
  obtain ⟨g', B', l', u', q1, q2, rfl⟩ := h'
  rw [zz_pm_c (zz_dr_u hn2 p1 q1)] at p2
  have := (zz_dgd_u (by rw [zz_pm01.1, zz_pm01.2]; exact hn) p2 q2).1
  rw [this]
noncomputable def zz_yf (A : Int → Int) (d : Int) : Int → Int := @dite _ (∃ A', zz_ye A d A') (Classical.propDecidable _) (fun h => Classical.choose h) (fun _ => A)
theorem zz_yf_v {A A' : Int → Int} {d : Int} (hn : 0 ≤ A 0 * A 1) (hn2 : A 0 * A 1 ≤ 16) (h : zz_ye A d A') : zz_yf A d = A' := by
  have hx : ∃ A', zz_ye A d A' := ⟨A', h⟩
  unfold zz_yf
  rw [dif_pos hx]
  exact zz_ye_u hn hn2 (Classical.choose_spec hx) h
def zz_ch (A A' : Int → Int) : Prop := ∃ c, 0 ≤ c ∧ c < A 0 * A 1 ∧ A' (8 + c) ≠ A (8 + c)
theorem zz_ok_y {Y : Int} {A : Int → Int} (hA : zz_ok Y A) (hY : Y + 1 ≤ 1000000000) : zz_ok (Y + 1) (zz_f A 4 (A 4 + 1)) := by
  obtain ⟨q0, q1, q2, q3, q4, q5, q6, q7, q8⟩ := hA
  have e : ∀ y, y ≠ 4 → zz_f A 4 (A 4 + 1) y = A y := fun y h => zf_n h
  refine ⟨?_, ?_, ?_, ?_, ?_, ?_, ?_, ?_, ?_⟩
  · rw [e 0 (by omega), e 1 (by omega)]; exact q0
  · rw [e 2 (by omega)]; exact q1
  · rw [e 3 (by omega)]; exact q2
  · rw [zf_s]; omega
  · rw [e 0 (by omega), e 1 (by omega), e 5 (by omega)]; exact q4
  · rw [e 6 (by omega)]; exact q5
  · rw [e 7 (by omega)]; exact q6
  · rw [e 0 (by omega), e 1 (by omega)]
    intro c c0 c1
    rw [e (8 + c) (by omega), e (24 + c) (by omega)]
    exact q7 c c0 c1
  · rw [e 7 (by omega)]
    intro d d0 d1
    obtain ⟨p0, p1, p2, p3⟩ := q8 d d0 d1
    unfold zz_dok
    rw [e (40 + 15 * d) (by omega), e (41 + 15 * d) (by omega), e (42 + 15 * d) (by omega), e 0 (by omega), e 1 (by omega)]
    refine ⟨p0, p1, p2, fun w w0 w1 => ?_⟩
    rw [e (43 + 15 * d + 3 * w) (by omega), e (44 + 15 * d + 3 * w) (by omega), e (45 + 15 * d + 3 * w) (by omega)]
    exact p3 w w0 w1
theorem zz_pm_ok {Y : Int} {A g : Int → Int} (hA : zz_ok Y A) (hg : ∀ c, 0 ≤ c → c < A 0 * A 1 → 0 ≤ g c ∧ g c ≤ 9) : zz_ok Y (zz_pm A g) := by
  have hn := hA.n
  refine zz_ok_h hA (fun y hy => if_neg (by omega)) (fun c c0 c1 => ?_)
  have hc := (hA.2.2.2.2.2.2.2.1 c c0 c1).1
  have e1 : zz_pm A g (8 + c) = A (8 + c) := if_neg (by omega)
  have e2 : zz_pm A g (24 + c) = g c := by
    unfold zz_pm
    rw [if_pos (by omega), show 24 + c - 24 = c by omega]
  rw [e1, e2]
  exact ⟨hc, Or.inr (hg c c0 c1)⟩
section ZYEA
variable {T : List mv_T} {J : Nat → Int → Int} {R : Nat → Nat → Option Nat} {G : Nat → Nat → Int64} {d : Nat} {Y : Int}
theorem zz_fg_m {w w' : Nat} {J J' : Nat → Int → Int} (hw : w ≤ w') (h : zz_fg w J J') : zz_fg w' J J' := ⟨fun x x1 x2 x3 => h.1 x x1 x2 (by omega), h.2⟩
theorem r_187 {e : Int} (hL : ZL T R) (hA : zz_ok Y (J 132)) (hBc : zz_bc (J 142)) (hd : 12 ≤ d) (he0 : 0 ≤ e) (he1 : e < J 132 7) : ∃ J', mv_cax d 187 [.inr (.inr (some 131)), .inl (mv_c e)] (zz_S T J R G) = some (none, zz_S T J' R G) ∧ zz_fg 150 J J' ∧ J' 132 = J 132 ∧ zz_dr (J 132) e (J' 150) ∧ ∀ c, 0 ≤ c → c < J 132 0 * J 132 1 → 0 ≤ J' 150 c ∧ J' 150 c ≤ 9 := by
  have hn := hA.n
  have h7 := hA.2.2.2.2.2.2.1
  obtain ⟨hk, hfig, -⟩ := hA.2.2.2.2.2.2.2.2 e he0 he1
  suffices h : ∃ r, mv_cax d 187 [.inr (.inr (some 131)), .inl (mv_c e)] (zz_S T J R G) = some r ∧ ∃ J', r = (none, zz_S T J' R G) ∧ zz_fg 150 J J' ∧ J' 132 = J 132 ∧ zz_dr (J 132) e (J' 150) ∧ ∀ c, 0 ≤ c → c < J 132 0 * J 132 1 → 0 ≤ J' 150 c ∧ J' 150 c ≤ 9 by
    obtain ⟨r, h1, J', rfl, h2⟩ := h
    exact ⟨J', h1, h2⟩
  refine zz_call (by omega) t_187 rfl (fun n => e_187 _ _ _) ?_
  obtain ⟨Q, hQ⟩ : ∃ Q : Option mv_V × mv_S → Prop, Q = fun r => ∃ J', r = (none, zz_S T J' R G) ∧ zz_fg 150 J J' ∧ J' 132 = J 132 ∧ zz_dr (J 132) e (J' 150) ∧ ∀ c, 0 ≤ c → c < J 132 0 * J 132 1 → 0 ≤ J' 150 c ∧ J' 150 c ≤ 9 := ⟨_, rfl⟩
  rw [← hQ]
  have fin : ∀ J', zz_fg 150 J J' → J' 132 = J 132 → zz_dr (J 132) e (J' 150) → (∀ c, 0 ≤ c → c < J 132 0 * J 132 1 → 0 ≤ J' 150 c ∧ J' 150 c ≤ 9) → Q (none, zz_S T J' R G) := by
    intro J' w1 w2 w3 w4
    rw [hQ]
    exact ⟨J', rfl, w1, w2, w3, w4⟩
  clear hQ
  have fgw : ∀ J1 O, zz_fg 150 J J1 → zz_fg 150 J (zz_w J1 150 O) := fun J1 O h => ⟨fun x x1 x2 x3 => by rw [zw_n (by omega)]; exact h.1 x x1 x2 x3, fun y hy => by rw [zw_n (by omega)]; exact h.2 y hy⟩
  simp (maxSteps := 5000000) (disch := first | assumption | omega) only [r_140_0, zr_131_0, zr_131_1, zr_131_2, zr_131_3, zr_131_4, zr_131_5, zr_131_6, zr_131_7, zr_131_8, zg_131_9, zp_131_9, zg_131_10, zp_131_10, zg_131_11, zp_131_11, zg_131_12, zp_131_12, zg_131_13, zp_131_13, zg_131_14, zp_131_14, zr_131_15, zg_131_16, zp_131_16, zg_131_17, zp_131_17, zr_131_18, zr_131_19, zr_131_20, zr_131_21, zr_131_22, zg_131_23, zp_131_23, zr_131_24, zg_131_25, zp_131_25, zg_131_26, zp_131_26, zr_131_27, zr_131_28, zg_131_29, zp_131_29, zg_131_30, zp_131_30, zr_131_31, zr_131_32, zr_131_33, zr_131_34, zr_131_35, zi_131, za_132, zs_132, zl_132, za_133, zs_133, zl_133, za_134, zs_134, zl_134, za_135, zs_135, zl_135, za_136, zs_136, zl_136, za_137, zs_137, zl_137, za_138, zs_138, zl_138, za_139, zs_139, zl_139, za_140, zs_140, zl_140, za_141, zs_141, zl_141, za_142, zs_142, zl_142, za_143, zs_143, zl_143, za_144, zs_144, zl_144, za_145, zs_145, zl_145, za_146, zs_146, zl_146, za_147, zs_147, zl_147, za_148, zs_148, zl_148, za_149, zs_149, zl_149, za_150, zs_150, zl_150, za_151, zs_151, zl_151, za_152, zs_152, zl_152, za_153, zs_153, zl_153, za_154, zs_154, zl_154, zz_0, zz_31, zz_add, zz_sub, zz_mul, zz_neg, zz_lt, zz_le, zz_eq, zz_div, zz_md, zz_dv, zz_abs, zz_max, zz_min, zz_nI, zz_be0, zz_be1, zz_zb, zz_z, zz_l0, zz_l, zz_lcmp, zo_rf, zo_nl, zo_nn, zo_rI, zo_rL, zo_rR, zo_rV, Int.add_zero, Int.zero_add, Int.mul_zero, Int.zero_mul, Int.one_mul, Int.mul_one, if_true, if_false, not_true_eq_false, not_false_eq_true]
  have e0 : J = zz_w J 150 (J 150) := zw_i.symm
  have l := zz_loop (run := fun c O n => mv_run (mv_cax (d - 1)) mm_187 n 9 [(0, .inr (.inr (some 131))), (1, .inl (mv_c e)), (2, .inl (mv_c (J 132 (40 + 15 * e)))), (3, .inl (mv_c c))] [] (zz_S T (zz_w J 150 O) R G)) (Q := Q) (J 132 0 * J 132 1) (fun c O => 0 ≤ c ∧ ∀ i, 0 ≤ i → i < c → O i = J 132 (8 + i)) ?_ ?_ (J 132 0 * J 132 1).toNat 0 (J 150) (by omega) ⟨by omega, fun i _ _ => by omega⟩
  · rw [← e0] at l
    exact l
  · rintro c O ⟨hc, hO⟩ hlt kk
    refine zz_Es (fun n => e_187_9 _ _ _ _ _) ?_
    simp (maxSteps := 5000000) (disch := first | assumption | omega) only [r_135, zw_n, zw_s, zz_wu, zr_131_0, zr_131_1, zr_131_2, zr_131_3, zr_131_4, zr_131_5, zr_131_6, zr_131_7, zr_131_8, zg_131_9, zp_131_9, zg_131_10, zp_131_10, zg_131_11, zp_131_11, zg_131_12, zp_131_12, zg_131_13, zp_131_13, zg_131_14, zp_131_14, zr_131_15, zg_131_16, zp_131_16, zg_131_17, zp_131_17, zr_131_18, zr_131_19, zr_131_20, zr_131_21, zr_131_22, zg_131_23, zp_131_23, zr_131_24, zg_131_25, zp_131_25, zg_131_26, zp_131_26, zr_131_27, zr_131_28, zg_131_29, zp_131_29, zg_131_30, zp_131_30, zr_131_31, zr_131_32, zr_131_33, zr_131_34, zr_131_35, zi_131, za_132, zs_132, zl_132, za_133, zs_133, zl_133, za_134, zs_134, zl_134, za_135, zs_135, zl_135, za_136, zs_136, zl_136, za_137, zs_137, zl_137, za_138, zs_138, zl_138, za_139, zs_139, zl_139, za_140, zs_140, zl_140, za_141, zs_141, zl_141, za_142, zs_142, zl_142, za_143, zs_143, zl_143, za_144, zs_144, zl_144, za_145, zs_145, zl_145, za_146, zs_146, zl_146, za_147, zs_147, zl_147, za_148, zs_148, zl_148, za_149, zs_149, zl_149, za_150, zs_150, zl_150, za_151, zs_151, zl_151, za_152, zs_152, zl_152, za_153, zs_153, zl_153, za_154, zs_154, zl_154, zz_0, zz_31, zz_add, zz_sub, zz_mul, zz_neg, zz_lt, zz_le, zz_eq, zz_div, zz_md, zz_dv, zz_abs, zz_max, zz_min, zz_nI, zz_be0, zz_be1, zz_zb, zz_z, zz_l0, zz_l, zz_lcmp, zo_rf, zo_nl, zo_nn, zo_rI, zo_rL, zo_rR, zo_rV, Int.add_zero, Int.zero_add, Int.mul_zero, Int.zero_mul, Int.one_mul, Int.mul_one, if_true, if_false, not_true_eq_false, not_false_eq_true]
    refine zz_Ei (fun h => absurd h (by omega)) (fun _ => ?_)
    refine kk (zz_f O c (J 132 (8 + c))) ⟨by omega, fun i i0 i1 => ?_⟩
    by_cases q : i = c
    · rw [q, zf_s]
    · rw [zf_n q]
      exact hO i i0 (by omega)
  · rintro O ⟨_, hO⟩
    refine zz_Es (fun n => e_187_9 _ _ _ _ _) ?_
    simp (maxSteps := 5000000) (disch := first | assumption | omega) only [r_135, zw_n, zw_s, zr_131_0, zr_131_1, zr_131_2, zr_131_3, zr_131_4, zr_131_5, zr_131_6, zr_131_7, zr_131_8, zg_131_9, zp_131_9, zg_131_10, zp_131_10, zg_131_11, zp_131_11, zg_131_12, zp_131_12, zg_131_13, zp_131_13, zg_131_14, zp_131_14, zr_131_15, zg_131_16, zp_131_16, zg_131_17, zp_131_17, zr_131_18, zr_131_19, zr_131_20, zr_131_21, zr_131_22, zg_131_23, zp_131_23, zr_131_24, zg_131_25, zp_131_25, zg_131_26, zp_131_26, zr_131_27, zr_131_28, zg_131_29, zp_131_29, zg_131_30, zp_131_30, zr_131_31, zr_131_32, zr_131_33, zr_131_34, zr_131_35, zi_131, za_132, zs_132, zl_132, za_133, zs_133, zl_133, za_134, zs_134, zl_134, za_135, zs_135, zl_135, za_136, zs_136, zl_136, za_137, zs_137, zl_137, za_138, zs_138, zl_138, za_139, zs_139, zl_139, za_140, zs_140, zl_140, za_141, zs_141, zl_141, za_142, zs_142, zl_142, za_143, zs_143, zl_143, za_144, zs_144, zl_144, za_145, zs_145, zl_145, za_146, zs_146, zl_146, za_147, zs_147, zl_147, za_148, zs_148, zl_148, za_149, zs_149, zl_149, za_150, zs_150, zl_150, za_151, zs_151, zl_151, za_152, zs_152, zl_152, za_153, zs_153, zl_153, za_154, zs_154, zl_154, zz_0, zz_31, zz_add, zz_sub, zz_mul, zz_neg, zz_lt, zz_le, zz_eq, zz_div, zz_md, zz_dv, zz_abs, zz_max, zz_min, zz_nI, zz_be0, zz_be1, zz_zb, zz_z, zz_l0, zz_l, zz_lcmp, zo_rf, zo_nl, zo_nn, zo_rI, zo_rL, zo_rR, zo_rV, Int.add_zero, Int.zero_add, Int.mul_zero, Int.zero_mul, Int.one_mul, Int.mul_one, if_true, if_false, not_true_eq_false, not_false_eq_true]
    refine zz_Ei (fun _ => ?_) (fun h => absurd (Int.le_refl _) h)
    have told : (J 132 (40 + 15 * e) = 5 ∨ J 132 (40 + 15 * e) = 6) → zz_E (fun n => mv_run (mv_cax (d - 1)) mm_187 n 56 [(0, .inr (.inr (some 131))), (1, .inl (mv_c e)), (2, .inl (mv_c (J 132 (40 + 15 * e)))), (3, .inl (mv_c 0))] [] (zz_S T (zz_w J 150 O) R G)) Q := by
      intro hk56
      refine zz_loop (run := fun c O n => mv_run (mv_cax (d - 1)) mm_187 n 56 [(0, .inr (.inr (some 131))), (1, .inl (mv_c e)), (2, .inl (mv_c (J 132 (40 + 15 * e)))), (3, .inl (mv_c c))] [] (zz_S T (zz_w J 150 O) R G)) (J 132 0 * J 132 1) (fun c O => 0 ≤ c ∧ ∀ i, 0 ≤ i → i < c → O i = zz_tw (J 132) i) ?_ ?_ (J 132 0 * J 132 1).toNat 0 O (by omega) ⟨by omega, fun i _ _ => by omega⟩
      · clear hO O
        rintro c O ⟨hc, hO⟩ hlt kk
        have hcA := hA.2.2.2.2.2.2.2.1 c hc hlt
        have nx : ∀ v, v = zz_tw (J 132) c → zz_E (fun n => mv_run (mv_cax (d - 1)) mm_187 n 56 [(0, .inr (.inr (some 131))), (1, .inl (mv_c e)), (2, .inl (mv_c (J 132 (40 + 15 * e)))), (3, .inl (mv_c (c + 1)))] [] (zz_S T (zz_w J 150 (zz_f O c v)) R G)) Q := fun v hv => kk (zz_f O c v) ⟨by omega, fun i i0 i1 => by
          by_cases q : i = c
          · rw [q, zf_s, hv]
          · rw [zf_n q]
            exact hO i i0 (by omega)⟩
        refine zz_Es (fun n => e_187_56 _ _ _ _ _) ?_
        simp (maxSteps := 5000000) (disch := first | assumption | omega) only [r_135, zw_n, zw_s, zz_wu, zr_131_0, zr_131_1, zr_131_2, zr_131_3, zr_131_4, zr_131_5, zr_131_6, zr_131_7, zr_131_8, zg_131_9, zp_131_9, zg_131_10, zp_131_10, zg_131_11, zp_131_11, zg_131_12, zp_131_12, zg_131_13, zp_131_13, zg_131_14, zp_131_14, zr_131_15, zg_131_16, zp_131_16, zg_131_17, zp_131_17, zr_131_18, zr_131_19, zr_131_20, zr_131_21, zr_131_22, zg_131_23, zp_131_23, zr_131_24, zg_131_25, zp_131_25, zg_131_26, zp_131_26, zr_131_27, zr_131_28, zg_131_29, zp_131_29, zg_131_30, zp_131_30, zr_131_31, zr_131_32, zr_131_33, zr_131_34, zr_131_35, zi_131, za_132, zs_132, zl_132, za_133, zs_133, zl_133, za_134, zs_134, zl_134, za_135, zs_135, zl_135, za_136, zs_136, zl_136, za_137, zs_137, zl_137, za_138, zs_138, zl_138, za_139, zs_139, zl_139, za_140, zs_140, zl_140, za_141, zs_141, zl_141, za_142, zs_142, zl_142, za_143, zs_143, zl_143, za_144, zs_144, zl_144, za_145, zs_145, zl_145, za_146, zs_146, zl_146, za_147, zs_147, zl_147, za_148, zs_148, zl_148, za_149, zs_149, zl_149, za_150, zs_150, zl_150, za_151, zs_151, zl_151, za_152, zs_152, zl_152, za_153, zs_153, zl_153, za_154, zs_154, zl_154, zz_0, zz_31, zz_add, zz_sub, zz_mul, zz_neg, zz_lt, zz_le, zz_eq, zz_div, zz_md, zz_dv, zz_abs, zz_max, zz_min, zz_nI, zz_be0, zz_be1, zz_zb, zz_z, zz_l0, zz_l, zz_lcmp, zo_rf, zo_nl, zo_nn, zo_rI, zo_rL, zo_rR, zo_rV, Int.add_zero, Int.zero_add, Int.mul_zero, Int.zero_mul, Int.one_mul, Int.mul_one, if_true, if_false, not_true_eq_false, not_false_eq_true]
        refine zz_Ei (fun h => absurd h (by omega)) (fun _ => ?_)
        refine zz_Ei (fun h => nx _ ?_) (fun h => nx _ ?_)
        · unfold zz_tw; rw [if_neg (by omega)]
        · unfold zz_tw; rw [if_pos (by omega)]
      · clear hO O
        rintro O ⟨_, hO⟩
        have hr : ∀ c, 0 ≤ c → c < J 132 0 * J 132 1 → 0 ≤ zz_tw (J 132) c ∧ zz_tw (J 132) c ≤ 9 := by
          intro c c0 c1
          have := hA.2.2.2.2.2.2.2.1 c c0 c1
          unfold zz_tw
          split <;> omega
        refine zz_Es (fun n => e_187_56 _ _ _ _ _) ?_
        have r1401 := r_140_1 (T := T) (J := zz_w J 150 O) (R := R) (G := G) (d := d - 1) (c := e) (by omega) hL he0 (by omega)
        rw [zw_n (by omega)] at r1401
        simp (maxSteps := 5000000) (disch := first | assumption | omega) only [r_135, zw_n, zw_s, r1401, zr_131_0, zr_131_1, zr_131_2, zr_131_3, zr_131_4, zr_131_5, zr_131_6, zr_131_7, zr_131_8, zg_131_9, zp_131_9, zg_131_10, zp_131_10, zg_131_11, zp_131_11, zg_131_12, zp_131_12, zg_131_13, zp_131_13, zg_131_14, zp_131_14, zr_131_15, zg_131_16, zp_131_16, zg_131_17, zp_131_17, zr_131_18, zr_131_19, zr_131_20, zr_131_21, zr_131_22, zg_131_23, zp_131_23, zr_131_24, zg_131_25, zp_131_25, zg_131_26, zp_131_26, zr_131_27, zr_131_28, zg_131_29, zp_131_29, zg_131_30, zp_131_30, zr_131_31, zr_131_32, zr_131_33, zr_131_34, zr_131_35, zi_131, za_132, zs_132, zl_132, za_133, zs_133, zl_133, za_134, zs_134, zl_134, za_135, zs_135, zl_135, za_136, zs_136, zl_136, za_137, zs_137, zl_137, za_138, zs_138, zl_138, za_139, zs_139, zl_139, za_140, zs_140, zl_140, za_141, zs_141, zl_141, za_142, zs_142, zl_142, za_143, zs_143, zl_143, za_144, zs_144, zl_144, za_145, zs_145, zl_145, za_146, zs_146, zl_146, za_147, zs_147, zl_147, za_148, zs_148, zl_148, za_149, zs_149, zl_149, za_150, zs_150, zl_150, za_151, zs_151, zl_151, za_152, zs_152, zl_152, za_153, zs_153, zl_153, za_154, zs_154, zl_154, zz_0, zz_31, zz_add, zz_sub, zz_mul, zz_neg, zz_lt, zz_le, zz_eq, zz_div, zz_md, zz_dv, zz_abs, zz_max, zz_min, zz_nI, zz_be0, zz_be1, zz_zb, zz_z, zz_l0, zz_l, zz_lcmp, zo_rf, zo_nl, zo_nn, zo_rI, zo_rL, zo_rR, zo_rV, Int.add_zero, Int.zero_add, Int.mul_zero, Int.zero_mul, Int.one_mul, Int.mul_one, if_true, if_false, not_true_eq_false, not_false_eq_true]
        refine zz_Ei (fun _ => ?_) (fun h => absurd (Int.le_refl _) h)
        have keep : (J 132 (40 + 15 * e) = 6 → J 132 0 * J 132 1 ≤ J 132 (41 + 15 * e) ∨ zz_tw (J 132) (J 132 (41 + 15 * e)) ≤ 0) → Q (none, zz_S T (zz_w J 150 O) R G) := by
          intro h6
          refine fin _ (fgw _ _ zz_fg_r) (zw_n (by omega)) ?_ (fun c c0 c1 => by rw [zw_s, hO c c0 c1]; exact hr c c0 c1)
          rw [zw_s]
          rcases hk56 with q | q
          · exact Or.inr (Or.inl ⟨q, hO⟩)
          · refine Or.inr (Or.inr (Or.inl ⟨q, fun c c0 c1 => ?_⟩))
            rw [hO c c0 c1, if_neg, Int.sub_zero]
            intro q'
            have := h6 q
            rw [← q'.1] at this
            omega
        refine zz_Ei (fun h6 => ?_) (fun h6 => zz_Er (keep (fun q => absurd q h6)))
        refine zz_Ei (fun h8 => zz_Er (keep (fun _ => Or.inl h8))) (fun h8 => ?_)
        have hof := hO _ hfig.1 (by omega)
        have hrf := hr (J 132 (41 + 15 * e)) hfig.1 (by omega)
        simp (maxSteps := 5000000) (disch := first | assumption | omega) only [zw_s, zz_wu, hof, zr_131_0, zr_131_1, zr_131_2, zr_131_3, zr_131_4, zr_131_5, zr_131_6, zr_131_7, zr_131_8, zg_131_9, zp_131_9, zg_131_10, zp_131_10, zg_131_11, zp_131_11, zg_131_12, zp_131_12, zg_131_13, zp_131_13, zg_131_14, zp_131_14, zr_131_15, zg_131_16, zp_131_16, zg_131_17, zp_131_17, zr_131_18, zr_131_19, zr_131_20, zr_131_21, zr_131_22, zg_131_23, zp_131_23, zr_131_24, zg_131_25, zp_131_25, zg_131_26, zp_131_26, zr_131_27, zr_131_28, zg_131_29, zp_131_29, zg_131_30, zp_131_30, zr_131_31, zr_131_32, zr_131_33, zr_131_34, zr_131_35, zi_131, za_132, zs_132, zl_132, za_133, zs_133, zl_133, za_134, zs_134, zl_134, za_135, zs_135, zl_135, za_136, zs_136, zl_136, za_137, zs_137, zl_137, za_138, zs_138, zl_138, za_139, zs_139, zl_139, za_140, zs_140, zl_140, za_141, zs_141, zl_141, za_142, zs_142, zl_142, za_143, zs_143, zl_143, za_144, zs_144, zl_144, za_145, zs_145, zl_145, za_146, zs_146, zl_146, za_147, zs_147, zl_147, za_148, zs_148, zl_148, za_149, zs_149, zl_149, za_150, zs_150, zl_150, za_151, zs_151, zl_151, za_152, zs_152, zl_152, za_153, zs_153, zl_153, za_154, zs_154, zl_154, zz_0, zz_31, zz_add, zz_sub, zz_mul, zz_neg, zz_lt, zz_le, zz_eq, zz_div, zz_md, zz_dv, zz_abs, zz_max, zz_min, zz_nI, zz_be0, zz_be1, zz_zb, zz_z, zz_l0, zz_l, zz_lcmp, zo_rf, zo_nl, zo_nn, zo_rI, zo_rL, zo_rR, zo_rV, Int.add_zero, Int.zero_add, Int.mul_zero, Int.zero_mul, Int.one_mul, Int.mul_one, if_true, if_false, not_true_eq_false, not_false_eq_true]
        refine zz_Ei (fun h9 => zz_Er (keep (fun _ => Or.inr h9))) (fun h9 => ?_)
        refine zz_Er (fin _ (fgw _ _ zz_fg_r) (zw_n (by omega)) ?_ (fun c c0 c1 => ?_))
        · rw [zw_s]
          refine Or.inr (Or.inr (Or.inl ⟨h6, fun c c0 c1 => ?_⟩))
          by_cases q : c = J 132 (41 + 15 * e)
          · rw [q, zf_s, if_pos ⟨rfl, by omega⟩]
          · rw [zf_n q, hO c c0 c1, if_neg (fun q' => q q'.1), Int.sub_zero]
        · rw [zw_s]
          by_cases q : c = J 132 (41 + 15 * e)
          · rw [q, zf_s]; omega
          · rw [zf_n q, hO c c0 c1]
            exact hr c c0 c1
    refine zz_Ei (fun h => ?_) (fun hk0 => ?_)
    · refine zz_Er (fin _ (fgw _ _ zz_fg_r) (zw_n (by omega)) ?_ (fun c c0 c1 => ?_))
      · rw [zw_s]
        exact Or.inl ⟨h, hO⟩
      · rw [zw_s, hO c c0 c1]
        exact (hA.2.2.2.2.2.2.2.1 c c0 c1).1
    · refine zz_Ei (fun h => told (Or.inl h)) (fun hk5 => ?_)
      refine zz_Ei (fun h => told (Or.inr h)) (fun hk6 => ?_)
      obtain ⟨J2, f, t, s1, s2, s3, s4, s5, s6, s7⟩ := r_186w (T := T) (J := zz_w J 150 O) (R := R) (G := G) (d := d - 1) (Y := Y) (e := e) (kind := J 132 (40 + 15 * e)) hL (by rw [zw_n (by omega)]; exact hA) (by rw [zw_n (by omega)]; exact hBc) (by omega) he0 (by rw [zw_n (by omega)]; exact he1) hk
      rw [zw_n (by omega)] at s3 s7
      have j150 : J2 150 = O := by rw [s2.1 150 (by omega) (by omega) (by omega), zw_s]
      have hfg : zz_fg 150 J J2 := zz_fg_t (fgw J O zz_fg_r) (zz_fg_m (by omega) s2)
      rcases id s7 with ⟨p1, _⟩ | ⟨p0, p1, _, _⟩
      · simp (maxSteps := 5000000) (disch := first | assumption | omega) only [s1, s4, s5, j150, zr_131_0, zr_131_1, zr_131_2, zr_131_3, zr_131_4, zr_131_5, zr_131_6, zr_131_7, zr_131_8, zg_131_9, zp_131_9, zg_131_10, zp_131_10, zg_131_11, zp_131_11, zg_131_12, zp_131_12, zg_131_13, zp_131_13, zg_131_14, zp_131_14, zr_131_15, zg_131_16, zp_131_16, zg_131_17, zp_131_17, zr_131_18, zr_131_19, zr_131_20, zr_131_21, zr_131_22, zg_131_23, zp_131_23, zr_131_24, zg_131_25, zp_131_25, zg_131_26, zp_131_26, zr_131_27, zr_131_28, zg_131_29, zp_131_29, zg_131_30, zp_131_30, zr_131_31, zr_131_32, zr_131_33, zr_131_34, zr_131_35, zi_131, za_132, zs_132, zl_132, za_133, zs_133, zl_133, za_134, zs_134, zl_134, za_135, zs_135, zl_135, za_136, zs_136, zl_136, za_137, zs_137, zl_137, za_138, zs_138, zl_138, za_139, zs_139, zl_139, za_140, zs_140, zl_140, za_141, zs_141, zl_141, za_142, zs_142, zl_142, za_143, zs_143, zl_143, za_144, zs_144, zl_144, za_145, zs_145, zl_145, za_146, zs_146, zl_146, za_147, zs_147, zl_147, za_148, zs_148, zl_148, za_149, zs_149, zl_149, za_150, zs_150, zl_150, za_151, zs_151, zl_151, za_152, zs_152, zl_152, za_153, zs_153, zl_153, za_154, zs_154, zl_154, zz_0, zz_31, zz_add, zz_sub, zz_mul, zz_neg, zz_lt, zz_le, zz_eq, zz_div, zz_md, zz_dv, zz_abs, zz_max, zz_min, zz_nI, zz_be0, zz_be1, zz_zb, zz_z, zz_l0, zz_l, zz_lcmp, zo_rf, zo_nl, zo_nn, zo_rI, zo_rL, zo_rR, zo_rV, Int.add_zero, Int.zero_add, Int.mul_zero, Int.zero_mul, Int.one_mul, Int.mul_one, if_true, if_false, not_true_eq_false, not_false_eq_true]
        refine zz_Ei (fun h => absurd h (by omega)) (fun _ => ?_)
        refine zz_Er (fin J2 hfg s3 (Or.inr (Or.inr (Or.inr ⟨⟨hk0, hk5, hk6⟩, f, t, s7, fun c c0 c1 => ?_⟩))) (fun c c0 c1 => ?_))
        · rw [j150, hO c c0 c1]
          unfold zz_dl
          rw [if_neg (by omega), Int.add_zero]
        · rw [j150, hO c c0 c1]
          exact (hA.2.2.2.2.2.2.2.1 c c0 c1).1
      · have hne : f ≠ t := p1.1.1
        have hof := hO f p0.1 p0.2.1
        have hot := hO t p0.2.2.1 p0.2.2.2
        have e1 : J2 = zz_w J2 150 O := by rw [← j150, zw_i]
        rw [e1] at s1 s4 s5
        rw [zw_n (by omega)] at s4 s5
        simp (maxSteps := 5000000) (disch := first | assumption | omega) only [s1, s4, s5, zw_n, zw_s, zz_wu, zf_n, zr_131_0, zr_131_1, zr_131_2, zr_131_3, zr_131_4, zr_131_5, zr_131_6, zr_131_7, zr_131_8, zg_131_9, zp_131_9, zg_131_10, zp_131_10, zg_131_11, zp_131_11, zg_131_12, zp_131_12, zg_131_13, zp_131_13, zg_131_14, zp_131_14, zr_131_15, zg_131_16, zp_131_16, zg_131_17, zp_131_17, zr_131_18, zr_131_19, zr_131_20, zr_131_21, zr_131_22, zg_131_23, zp_131_23, zr_131_24, zg_131_25, zp_131_25, zg_131_26, zp_131_26, zr_131_27, zr_131_28, zg_131_29, zp_131_29, zg_131_30, zp_131_30, zr_131_31, zr_131_32, zr_131_33, zr_131_34, zr_131_35, zi_131, za_132, zs_132, zl_132, za_133, zs_133, zl_133, za_134, zs_134, zl_134, za_135, zs_135, zl_135, za_136, zs_136, zl_136, za_137, zs_137, zl_137, za_138, zs_138, zl_138, za_139, zs_139, zl_139, za_140, zs_140, zl_140, za_141, zs_141, zl_141, za_142, zs_142, zl_142, za_143, zs_143, zl_143, za_144, zs_144, zl_144, za_145, zs_145, zl_145, za_146, zs_146, zl_146, za_147, zs_147, zl_147, za_148, zs_148, zl_148, za_149, zs_149, zl_149, za_150, zs_150, zl_150, za_151, zs_151, zl_151, za_152, zs_152, zl_152, za_153, zs_153, zl_153, za_154, zs_154, zl_154, zz_0, zz_31, zz_add, zz_sub, zz_mul, zz_neg, zz_lt, zz_le, zz_eq, zz_div, zz_md, zz_dv, zz_abs, zz_max, zz_min, zz_nI, zz_be0, zz_be1, zz_zb, zz_z, zz_l0, zz_l, zz_lcmp, zo_rf, zo_nl, zo_nn, zo_rI, zo_rL, zo_rR, zo_rV, Int.add_zero, Int.zero_add, Int.mul_zero, Int.zero_mul, Int.one_mul, Int.mul_one, if_true, if_false, not_true_eq_false, not_false_eq_true]
        refine zz_Ei (fun _ => ?_) (fun h => absurd p0.1 h)
        have hg : ∀ c, 0 ≤ c → c < J 132 0 * J 132 1 → zz_f (zz_f O f (O f - 1)) t (O t + 1) c = J 132 (8 + c) + zz_dl f t c := by
          intro c c0 c1
          unfold zz_dl
          rw [if_pos p0.1]
          by_cases q : c = t
          · rw [q, zf_s, if_neg (fun q' => hne q'.symm), if_pos rfl, hot]
          · rw [zf_n q]
            by_cases q' : c = f
            · rw [q', zf_s, if_pos rfl, hof]
              omega
            · rw [zf_n q', if_neg q', if_neg q, hO c c0 c1, Int.add_zero]
        refine zz_Er (fin _ (fgw _ _ hfg) (by rw [zw_n (by omega)]; exact s3) ?_ (fun c c0 c1 => ?_))
        · rw [zw_s]
          exact Or.inr (Or.inr (Or.inr ⟨⟨hk0, hk5, hk6⟩, f, t, s7, hg⟩))
        · rw [zw_s, hg c c0 c1]
          have hc := (hA.2.2.2.2.2.2.2.1 c c0 c1).1
          have m1 := p1.1.2.1
          have m2 := p1.1.2.2.1
          unfold zz_dl
          rw [if_pos p0.1]
          by_cases q : c = f
          · rw [if_pos q, q]; rw [q] at hc; omega
          · rw [if_neg q]
            by_cases q' : c = t
            · rw [if_pos q', q']; rw [q'] at hc; omega
            · rw [if_neg q']; omega
theorem r_189 {e : Int} (hL : ZL T R) (hA : zz_ok Y (J 132)) (hBc : zz_bc (J 142)) (hd : 13 ≤ d) (he0 : 0 ≤ e) (he1 : e < J 132 7) (hY : Y + 1 ≤ 1000000000) : ∃ J', mv_cax d 189 [.inr (.inr (some 131)), .inl (mv_c e)] (zz_S T J R G) = some (some (.inl (mv_c (zz_b (zz_ch (J 132) (zz_yf (J 132) e))))), zz_S T J' R G) ∧ zz_fg 151 J J' ∧ J' 132 = zz_yf (J 132) e ∧ zz_ok (Y + 1) (J' 132) ∧ (∀ y, (y < 4 ∨ 4 < y ∧ y < 8 ∨ 40 ≤ y) → J' 132 y = J 132 y) := by
  have hn := hA.n
  suffices h : ∃ r, mv_cax d 189 [.inr (.inr (some 131)), .inl (mv_c e)] (zz_S T J R G) = some r ∧ ∃ J', r = (some (.inl (mv_c (zz_b (zz_ch (J 132) (zz_yf (J 132) e))))), zz_S T J' R G) ∧ zz_fg 151 J J' ∧ J' 132 = zz_yf (J 132) e ∧ zz_ok (Y + 1) (J' 132) ∧ (∀ y, (y < 4 ∨ 4 < y ∧ y < 8 ∨ 40 ≤ y) → J' 132 y = J 132 y) by
    obtain ⟨r, h1, J', rfl, h2⟩ := h
    exact ⟨J', h1, h2⟩
  refine zz_call (by omega) t_189 rfl (fun n => e_189 _ _ _) ?_
  obtain ⟨J1, s1, s2, s3, s4, s5⟩ := r_187 (T := T) (J := J) (R := R) (G := G) (d := d - 1) (Y := Y) (e := e) hL hA hBc (by omega) he0 he1
  simp (maxSteps := 5000000) (disch := first | assumption | omega) only [s1, zr_131_0, zr_131_1, zr_131_2, zr_131_3, zr_131_4, zr_131_5, zr_131_6, zr_131_7, zr_131_8, zg_131_9, zp_131_9, zg_131_10, zp_131_10, zg_131_11, zp_131_11, zg_131_12, zp_131_12, zg_131_13, zp_131_13, zg_131_14, zp_131_14, zr_131_15, zg_131_16, zp_131_16, zg_131_17, zp_131_17, zr_131_18, zr_131_19, zr_131_20, zr_131_21, zr_131_22, zg_131_23, zp_131_23, zr_131_24, zg_131_25, zp_131_25, zg_131_26, zp_131_26, zr_131_27, zr_131_28, zg_131_29, zp_131_29, zg_131_30, zp_131_30, zr_131_31, zr_131_32, zr_131_33, zr_131_34, zr_131_35, zi_131, za_132, zs_132, zl_132, za_133, zs_133, zl_133, za_134, zs_134, zl_134, za_135, zs_135, zl_135, za_136, zs_136, zl_136, za_137, zs_137, zl_137, za_138, zs_138, zl_138, za_139, zs_139, zl_139, za_140, zs_140, zl_140, za_141, zs_141, zl_141, za_142, zs_142, zl_142, za_143, zs_143, zl_143, za_144, zs_144, zl_144, za_145, zs_145, zl_145, za_146, zs_146, zl_146, za_147, zs_147, zl_147, za_148, zs_148, zl_148, za_149, zs_149, zl_149, za_150, zs_150, zl_150, za_151, zs_151, zl_151, za_152, zs_152, zl_152, za_153, zs_153, zl_153, za_154, zs_154, zl_154, zz_0, zz_31, zz_add, zz_sub, zz_mul, zz_neg, zz_lt, zz_le, zz_eq, zz_div, zz_md, zz_dv, zz_abs, zz_max, zz_min, zz_nI, zz_be0, zz_be1, zz_zb, zz_z, zz_l0, zz_l, zz_lcmp, zo_rf, zo_nl, zo_nn, zo_rI, zo_rL, zo_rR, zo_rV, Int.add_zero, Int.zero_add, Int.mul_zero, Int.zero_mul, Int.one_mul, Int.mul_one, if_true, if_false, not_true_eq_false, not_false_eq_true]
  have e0 : J1 = zz_w (zz_w J1 132 (J 132)) 151 (J1 151) := by
    rw [← s3, zw_i, zw_i]
  have l := zz_loop (α := (Int → Int) × (Int → Int)) (run := fun c q n => mv_run (mv_cax (d - 1)) mm_189 n 7 [(0, .inr (.inr (some 131))), (2, .inl (mv_c c))] [] (zz_S T (zz_w (zz_w J1 132 q.1) 151 q.2) R G)) (Q := fun r => ∃ J', r = (some (.inl (mv_c (zz_b (zz_ch (J 132) (zz_yf (J 132) e))))), zz_S T J' R G) ∧ zz_fg 151 J J' ∧ J' 132 = zz_yf (J 132) e ∧ zz_ok (Y + 1) (J' 132) ∧ (∀ y, (y < 4 ∨ 4 < y ∧ y < 8 ∨ 40 ≤ y) → J' 132 y = J 132 y)) (J 132 0 * J 132 1) (fun c q => 0 ≤ c ∧ (∀ y, q.1 y = if 24 ≤ y ∧ y < 24 + c then J1 150 (y - 24) else J 132 y) ∧ ∀ i, 0 ≤ i → i < c → q.2 i = J 132 (8 + i)) ?_ ?_ (J 132 0 * J 132 1).toNat 0 (J 132, J1 151) (by omega) ⟨by omega, fun y => by rw [if_neg (by omega)], fun i _ _ => by omega⟩
  · rw [← e0] at l
    exact l
  · rintro c ⟨O, P⟩ ⟨hc, hO, hP⟩ hlt kk
    have hO : ∀ y, O y = if 24 ≤ y ∧ y < 24 + c then J1 150 (y - 24) else J 132 y := hO
    have hP : ∀ i, 0 ≤ i → i < c → P i = J 132 (8 + i) := hP
    have o0 : O 0 = J 132 0 := by rw [hO 0, if_neg (by omega)]
    have o1 : O 1 = J 132 1 := by rw [hO 1, if_neg (by omega)]
    have o8 : O (8 + c) = J 132 (8 + c) := by rw [hO (8 + c), if_neg (by omega)]
    have w1 : ∀ v, zz_u (zz_w (zz_w J1 132 O) 151 P) 132 (24 + c) v = zz_w (zz_w J1 132 (zz_f O (24 + c) v)) 151 P := by
      intro v
      rw [zz_uw, zw_n (by omega), zw_s]
      funext x
      by_cases q : x = 132
      · rw [q, zw_s, zw_n (by omega), zw_s]
      · rw [zw_n q]
        by_cases q' : x = 151
        · rw [q', zw_s, zw_s]
        · rw [zw_n q', zw_n q', zw_n q, zw_n q]
    refine zz_Es (fun n => e_189_7 _ _ _) ?_
    simp (maxSteps := 5000000) (disch := first | assumption | omega) only [r_135, zw_n, zw_s, zz_wu, o0, o1, o8, w1, zf_n, zr_131_0, zr_131_1, zr_131_2, zr_131_3, zr_131_4, zr_131_5, zr_131_6, zr_131_7, zr_131_8, zg_131_9, zp_131_9, zg_131_10, zp_131_10, zg_131_11, zp_131_11, zg_131_12, zp_131_12, zg_131_13, zp_131_13, zg_131_14, zp_131_14, zr_131_15, zg_131_16, zp_131_16, zg_131_17, zp_131_17, zr_131_18, zr_131_19, zr_131_20, zr_131_21, zr_131_22, zg_131_23, zp_131_23, zr_131_24, zg_131_25, zp_131_25, zg_131_26, zp_131_26, zr_131_27, zr_131_28, zg_131_29, zp_131_29, zg_131_30, zp_131_30, zr_131_31, zr_131_32, zr_131_33, zr_131_34, zr_131_35, zi_131, za_132, zs_132, zl_132, za_133, zs_133, zl_133, za_134, zs_134, zl_134, za_135, zs_135, zl_135, za_136, zs_136, zl_136, za_137, zs_137, zl_137, za_138, zs_138, zl_138, za_139, zs_139, zl_139, za_140, zs_140, zl_140, za_141, zs_141, zl_141, za_142, zs_142, zl_142, za_143, zs_143, zl_143, za_144, zs_144, zl_144, za_145, zs_145, zl_145, za_146, zs_146, zl_146, za_147, zs_147, zl_147, za_148, zs_148, zl_148, za_149, zs_149, zl_149, za_150, zs_150, zl_150, za_151, zs_151, zl_151, za_152, zs_152, zl_152, za_153, zs_153, zl_153, za_154, zs_154, zl_154, zz_0, zz_31, zz_add, zz_sub, zz_mul, zz_neg, zz_lt, zz_le, zz_eq, zz_div, zz_md, zz_dv, zz_abs, zz_max, zz_min, zz_nI, zz_be0, zz_be1, zz_zb, zz_z, zz_l0, zz_l, zz_lcmp, zo_rf, zo_nl, zo_nn, zo_rI, zo_rL, zo_rR, zo_rV, Int.add_zero, Int.zero_add, Int.mul_zero, Int.zero_mul, Int.one_mul, Int.mul_one, if_true, if_false, not_true_eq_false, not_false_eq_true]
    refine zz_Ei (fun h => absurd h (by omega)) (fun _ => ?_)
    refine kk (zz_f O (24 + c) (J1 150 c), zz_f P c (J 132 (8 + c))) ⟨by omega, fun y => ?_, fun i i0 i1 => ?_⟩
    · show zz_f O (24 + c) (J1 150 c) y = _
      by_cases q : y = 24 + c
      · rw [q, zf_s, if_pos (by omega), show 24 + c - 24 = c by omega]
      · rw [zf_n q, hO y]
        by_cases q' : 24 ≤ y ∧ y < 24 + c
        · rw [if_pos q', if_pos (by omega)]
        · rw [if_neg q', if_neg (by omega)]
    · show zz_f P c (J 132 (8 + c)) i = _
      by_cases q : i = c
      · rw [q, zf_s]
      · rw [zf_n q]
        exact hP i i0 (by omega)
  · rintro ⟨O, P⟩ ⟨_, hO, hP⟩
    have hO : ∀ y, O y = if 24 ≤ y ∧ y < 24 + J 132 0 * J 132 1 then J1 150 (y - 24) else J 132 y := hO
    have hP : ∀ i, 0 ≤ i → i < J 132 0 * J 132 1 → P i = J 132 (8 + i) := hP
    have eO : O = zz_pm (J 132) (J1 150) := funext hO
    have o0 : O 0 = J 132 0 := by rw [hO 0, if_neg (by omega)]
    have o1 : O 1 = J 132 1 := by rw [hO 1, if_neg (by omega)]
    obtain ⟨J3, v1, v2, v3, v4, v5, v6⟩ := r_179 (T := T) (J := zz_w (zz_w J1 132 O) 151 P) (R := R) (G := G) (d := d - 1) (Y := Y) hL (by rw [zw_n (by omega), zw_s, eO]; exact zz_pm_ok hA s5) (by rw [zw_n (by omega), zw_n (by omega), s2.1 142 (by omega) (by omega) (by omega)]; exact hBc) (by omega)
    rw [zw_n (by omega), zw_s] at v3 v6
    rw [eO] at v6
    have hye : zz_yf (J 132) e = zz_f (J3 132) 4 (J3 132 4 + 1) := zz_yf_v (by omega) (by omega) ⟨_, _, _, _, s4, v6, rfl⟩
    have j151 : J3 151 = P := by rw [v2.1 151 (by omega) (by omega) (by omega), zw_s]
    have a0 : J3 132 0 = J 132 0 := by rw [v3 0 (by omega), o0]
    have a1 : J3 132 1 = J 132 1 := by rw [v3 1 (by omega), o1]
    have h34 := v4.2.2.2.1
    refine zz_Es (fun n => e_189_7 _ _ _) ?_
    simp (maxSteps := 5000000) (disch := first | assumption | omega) only [r_135, zw_n, zw_s, o0, o1, v1, zz_uw, zr_131_0, zr_131_1, zr_131_2, zr_131_3, zr_131_4, zr_131_5, zr_131_6, zr_131_7, zr_131_8, zg_131_9, zp_131_9, zg_131_10, zp_131_10, zg_131_11, zp_131_11, zg_131_12, zp_131_12, zg_131_13, zp_131_13, zg_131_14, zp_131_14, zr_131_15, zg_131_16, zp_131_16, zg_131_17, zp_131_17, zr_131_18, zr_131_19, zr_131_20, zr_131_21, zr_131_22, zg_131_23, zp_131_23, zr_131_24, zg_131_25, zp_131_25, zg_131_26, zp_131_26, zr_131_27, zr_131_28, zg_131_29, zp_131_29, zg_131_30, zp_131_30, zr_131_31, zr_131_32, zr_131_33, zr_131_34, zr_131_35, zi_131, za_132, zs_132, zl_132, za_133, zs_133, zl_133, za_134, zs_134, zl_134, za_135, zs_135, zl_135, za_136, zs_136, zl_136, za_137, zs_137, zl_137, za_138, zs_138, zl_138, za_139, zs_139, zl_139, za_140, zs_140, zl_140, za_141, zs_141, zl_141, za_142, zs_142, zl_142, za_143, zs_143, zl_143, za_144, zs_144, zl_144, za_145, zs_145, zl_145, za_146, zs_146, zl_146, za_147, zs_147, zl_147, za_148, zs_148, zl_148, za_149, zs_149, zl_149, za_150, zs_150, zl_150, za_151, zs_151, zl_151, za_152, zs_152, zl_152, za_153, zs_153, zl_153, za_154, zs_154, zl_154, zz_0, zz_31, zz_add, zz_sub, zz_mul, zz_neg, zz_lt, zz_le, zz_eq, zz_div, zz_md, zz_dv, zz_abs, zz_max, zz_min, zz_nI, zz_be0, zz_be1, zz_zb, zz_z, zz_l0, zz_l, zz_lcmp, zo_rf, zo_nl, zo_nn, zo_rI, zo_rL, zo_rR, zo_rV, Int.add_zero, Int.zero_add, Int.mul_zero, Int.zero_mul, Int.one_mul, Int.mul_one, if_true, if_false, not_true_eq_false, not_false_eq_true]
    refine zz_Ei (fun _ => ?_) (fun h => absurd (Int.le_refl _) h)
    rw [hye]
    have hfg : zz_fg 151 J (zz_w J3 132 (zz_f (J3 132) 4 (J3 132 4 + 1))) := ⟨fun x x1 x2 x3 => by rw [zw_n x2, v2.1 x x1 x2 (by omega), zw_n (by omega), zw_n x2, s2.1 x x1 x2 (by omega)], fun y hy => by rw [zw_n (by omega), v2.2 y (by omega), zw_n (by omega), zw_n (by omega), s2.2 y hy]⟩
    have hfin : ∀ x, x = zz_b (zz_ch (J 132) (zz_f (J3 132) 4 (J3 132 4 + 1))) → ∃ J', ((some (.inl (mv_c x)), zz_S T (zz_w J3 132 (zz_f (J3 132) 4 (J3 132 4 + 1))) R G) : Option mv_V × mv_S) = (some (.inl (mv_c (zz_b (zz_ch (J 132) (zz_f (J3 132) 4 (J3 132 4 + 1)))))), zz_S T J' R G) ∧ zz_fg 151 J J' ∧ J' 132 = zz_f (J3 132) 4 (J3 132 4 + 1) ∧ zz_ok (Y + 1) (J' 132) ∧ (∀ y, (y < 4 ∨ 4 < y ∧ y < 8 ∨ 40 ≤ y) → J' 132 y = J 132 y) := fun x hx => ⟨_, by rw [hx], hfg, zw_s, by rw [zw_s]; exact zz_ok_y v4 hY, fun y hy => by rw [zw_s, zf_n (by omega), v3 y (by omega), hO y, if_neg (by omega)]⟩
    refine zz_loop (α := Unit) (run := fun c _ n => mv_run (mv_cax (d - 1)) mm_189 n 67 [(0, .inr (.inr (some 131))), (2, .inl (mv_c c))] [] (zz_S T (zz_w J3 132 (zz_f (J3 132) 4 (J3 132 4 + 1))) R G)) (J 132 0 * J 132 1) (fun c _ => 0 ≤ c ∧ ∀ i, 0 ≤ i → i < c → J3 132 (8 + i) = J 132 (8 + i)) ?_ ?_ (J 132 0 * J 132 1).toNat 0 () (by omega) ⟨by omega, fun i _ _ => by omega⟩
    · rintro c _ ⟨hc, hO'⟩ hlt kk
      have hcA := (v4.2.2.2.2.2.2.2.1 c hc (by rw [a0, a1]; exact hlt)).1
      have hcB := (hA.2.2.2.2.2.2.2.1 c hc hlt).1
      have hPc := hP c hc hlt
      refine zz_Es (fun n => e_189_67 _ _ _) ?_
      simp (maxSteps := 5000000) (disch := first | assumption | omega) only [r_135, zw_n, zw_s, zf_n, a0, a1, j151, hPc, zr_131_0, zr_131_1, zr_131_2, zr_131_3, zr_131_4, zr_131_5, zr_131_6, zr_131_7, zr_131_8, zg_131_9, zp_131_9, zg_131_10, zp_131_10, zg_131_11, zp_131_11, zg_131_12, zp_131_12, zg_131_13, zp_131_13, zg_131_14, zp_131_14, zr_131_15, zg_131_16, zp_131_16, zg_131_17, zp_131_17, zr_131_18, zr_131_19, zr_131_20, zr_131_21, zr_131_22, zg_131_23, zp_131_23, zr_131_24, zg_131_25, zp_131_25, zg_131_26, zp_131_26, zr_131_27, zr_131_28, zg_131_29, zp_131_29, zg_131_30, zp_131_30, zr_131_31, zr_131_32, zr_131_33, zr_131_34, zr_131_35, zi_131, za_132, zs_132, zl_132, za_133, zs_133, zl_133, za_134, zs_134, zl_134, za_135, zs_135, zl_135, za_136, zs_136, zl_136, za_137, zs_137, zl_137, za_138, zs_138, zl_138, za_139, zs_139, zl_139, za_140, zs_140, zl_140, za_141, zs_141, zl_141, za_142, zs_142, zl_142, za_143, zs_143, zl_143, za_144, zs_144, zl_144, za_145, zs_145, zl_145, za_146, zs_146, zl_146, za_147, zs_147, zl_147, za_148, zs_148, zl_148, za_149, zs_149, zl_149, za_150, zs_150, zl_150, za_151, zs_151, zl_151, za_152, zs_152, zl_152, za_153, zs_153, zl_153, za_154, zs_154, zl_154, zz_0, zz_31, zz_add, zz_sub, zz_mul, zz_neg, zz_lt, zz_le, zz_eq, zz_div, zz_md, zz_dv, zz_abs, zz_max, zz_min, zz_nI, zz_be0, zz_be1, zz_zb, zz_z, zz_l0, zz_l, zz_lcmp, zo_rf, zo_nl, zo_nn, zo_rI, zo_rL, zo_rR, zo_rV, Int.add_zero, Int.zero_add, Int.mul_zero, Int.zero_mul, Int.one_mul, Int.mul_one, if_true, if_false, not_true_eq_false, not_false_eq_true]
      refine zz_Ei (fun h => absurd h (by omega)) (fun _ => ?_)
      refine zz_Ei (fun h => ?_) (fun h => zz_Er (hfin _ ?_))
      · refine kk () ⟨by omega, fun i i0 i1 => ?_⟩
        by_cases q : i = c
        · rw [q]; exact h
        · exact hO' i i0 (by omega)
      · rw [zz_b_t]
        exact ⟨c, hc, hlt, by rw [zf_n (by omega)]; exact h⟩
    · rintro _ ⟨_, hO'⟩
      refine zz_Es (fun n => e_189_67 _ _ _) ?_
      simp (maxSteps := 5000000) (disch := first | assumption | omega) only [r_135, zw_n, zw_s, zf_n, a0, a1, zr_131_0, zr_131_1, zr_131_2, zr_131_3, zr_131_4, zr_131_5, zr_131_6, zr_131_7, zr_131_8, zg_131_9, zp_131_9, zg_131_10, zp_131_10, zg_131_11, zp_131_11, zg_131_12, zp_131_12, zg_131_13, zp_131_13, zg_131_14, zp_131_14, zr_131_15, zg_131_16, zp_131_16, zg_131_17, zp_131_17, zr_131_18, zr_131_19, zr_131_20, zr_131_21, zr_131_22, zg_131_23, zp_131_23, zr_131_24, zg_131_25, zp_131_25, zg_131_26, zp_131_26, zr_131_27, zr_131_28, zg_131_29, zp_131_29, zg_131_30, zp_131_30, zr_131_31, zr_131_32, zr_131_33, zr_131_34, zr_131_35, zi_131, za_132, zs_132, zl_132, za_133, zs_133, zl_133, za_134, zs_134, zl_134, za_135, zs_135, zl_135, za_136, zs_136, zl_136, za_137, zs_137, zl_137, za_138, zs_138, zl_138, za_139, zs_139, zl_139, za_140, zs_140, zl_140, za_141, zs_141, zl_141, za_142, zs_142, zl_142, za_143, zs_143, zl_143, za_144, zs_144, zl_144, za_145, zs_145, zl_145, za_146, zs_146, zl_146, za_147, zs_147, zl_147, za_148, zs_148, zl_148, za_149, zs_149, zl_149, za_150, zs_150, zl_150, za_151, zs_151, zl_151, za_152, zs_152, zl_152, za_153, zs_153, zl_153, za_154, zs_154, zl_154, zz_0, zz_31, zz_add, zz_sub, zz_mul, zz_neg, zz_lt, zz_le, zz_eq, zz_div, zz_md, zz_dv, zz_abs, zz_max, zz_min, zz_nI, zz_be0, zz_be1, zz_zb, zz_z, zz_l0, zz_l, zz_lcmp, zo_rf, zo_nl, zo_nn, zo_rI, zo_rL, zo_rR, zo_rV, Int.add_zero, Int.zero_add, Int.mul_zero, Int.zero_mul, Int.one_mul, Int.mul_one, if_true, if_false, not_true_eq_false, not_false_eq_true]
      refine zz_Ei (fun _ => zz_Er (hfin _ ?_)) (fun h => absurd (Int.le_refl _) h)
      rw [zz_b_f]
      rintro ⟨c, c0, c1, c2⟩
      rw [zf_n (by omega)] at c2
      exact c2 (hO' c c0 c1)
end ZYEA
