/-! PURE LAYER, 100: the reference's hours, haul -/
section ZRHL
variable {T : List mv_T} {J : Nat → Int → Int} {R : Nat → Nat → Option Nat} {G : Nat → Nat → Int64} {d : Nat} {Y : Int}
theorem r_167 {a b : Int} (hd : 4 ≤ d) (hL : ZL T R) (hA : zz_ok Y (J 132)) (a0 : -2147483648 ≤ a) (a1 : a ≤ 2147483647) (b0 : -2147483648 ≤ b) (b1 : b ≤ 2147483647) : mv_cax d 167 [.inr (.inr (some 131)), .inl (mv_c a), .inl (mv_c b)] (zz_S T J R G) = some (some (.inl (mv_c (zv_hours (J 132) a b))), (zz_S T J R G)) := by
  have ra := r_136 (T := T) (J := J) (R := R) (G := G) (d := d - 1) (c := a) (by omega) hL hA a0 a1
  have rb := r_136 (T := T) (J := J) (R := R) (G := G) (d := d - 1) (c := b) (by omega) hL hA b0 b1
  unfold zv_hours zv_rf
  by_cases hq : (0 ≤ a ∧ a < J 132 0 * J 132 1) ∧ (0 ≤ b ∧ b < J 132 0 * J 132 1) ∧ a ≠ b
  · rw [if_pos hq]
    have r164 := r_164 (T := T) (J := J) (R := R) (G := G) (d := d - 1) (a := a) (b := b) (by omega) hL hA hq.1.1 hq.1.2 hq.2.1.1 hq.2.1.2
    have r165 := r_165 (T := T) (J := J) (R := R) (G := G) (d := d - 1) (a := a) (b := b) (by omega) hL hA hq.1.1 hq.1.2 hq.2.1.1 hq.2.1.2
    refine zz_c (zz_call (by omega) t_167 rfl (fun n => e_167 _ _ _ _) ?_)
    simp (maxSteps := 5000000) (disch := first | assumption | omega) only [zi_131, ra, rb, zo_rI, zz_0, r164, r165]
    refine zz_Ei (fun g => absurd hq.1 (by rw [zz_be0] at g; exact g)) (fun _ => ?_)
    refine zz_Ei (fun g => absurd hq.2.1 (by rw [zz_be0] at g; exact g)) (fun _ => ?_)
    refine zz_Ei (fun g => absurd (zt_eq a0 a1 b0 b1 g) hq.2.2) (fun _ => ?_)
    refine zz_Ei (fun g => ?_) (fun g => ?_)
    · rw [zz_be0] at g
      exact zz_Er (by rw [if_neg g, if_neg (by omega)])
    · rw [zz_be0] at g
      exact zz_Er (by rw [if_pos (Classical.not_not.mp g), if_pos rfl])
  · rw [if_neg hq]
    refine zz_c (zz_call (by omega) t_167 rfl (fun n => e_167 _ _ _ _) ?_)
    simp (maxSteps := 5000000) (disch := first | assumption | omega) only [zi_131, ra, rb, zo_rI, zz_0]
    refine zz_Ei (fun g => zz_Er (by rw [if_neg (by omega)])) (fun g1 => ?_)
    rw [zz_be0] at g1
    refine zz_Ei (fun g => zz_Er (by rw [if_neg (by omega)])) (fun g2 => ?_)
    rw [zz_be0] at g2
    refine zz_Ei (fun g => zz_Er (by rw [if_neg (by omega)])) (fun g3 => ?_)
    exact absurd ⟨Classical.not_not.mp g1, Classical.not_not.mp g2, fun e => g3 (by rw [e])⟩ hq
theorem r_168 {a b : Int} (hd : 5 ≤ d) (hL : ZL T R) (hA : zz_ok Y (J 132)) (a0 : -2147483648 ≤ a) (a1 : a ≤ 2147483647) (b0 : -2147483648 ≤ b) (b1 : b ≤ 2147483647) : mv_cax d 168 [.inr (.inr (some 131)), .inl (mv_c a), .inl (mv_c b)] (zz_S T J R G) = some (some (.inl (mv_c (zv_hours (J 132) a b))), zz_S T (zz_w J 132 (zv_haulA (J 132) a b)) R G) := by
  have hN := hA.n
  have r167 := r_167 (T := T) (J := J) (R := R) (G := G) (d := d - 1) (a := a) (b := b) (by omega) hL hA a0 a1 b0 b1
  unfold zv_haulA
  by_cases hr : zv_rf (J 132) a b = 0
  · have hq : (0 ≤ a ∧ a < J 132 0 * J 132 1) ∧ (0 ≤ b ∧ b < J 132 0 * J 132 1) ∧ a ≠ b := by
      unfold zv_rf at hr
      by_cases q : (0 ≤ a ∧ a < J 132 0 * J 132 1) ∧ (0 ≤ b ∧ b < J 132 0 * J 132 1) ∧ a ≠ b
      · exact q
      · rw [if_neg q] at hr
        omega
    have hv : zv_hours (J 132) a b = zz_hh (J 132) a b := if_pos hr
    have hb := zz_hh_b hA hq.1.1 hq.1.2 hq.2.1.1 hq.2.1.2
    have r166 := r_166 (T := T) (J := J) (R := R) (G := G) (d := d - 1) (a := a) (b := b) (by omega) hL hq.2.2 hq.1.1 (by omega) hq.2.1.1 (by omega)
    rw [if_pos hr]
    rw [hv] at r167 ⊢
    refine zz_c (zz_call (by omega) t_168 rfl (fun n => e_168 _ _ _ _) ?_)
    simp (maxSteps := 5000000) (disch := first | assumption | omega) only [zi_131, r167, zo_rI, zo_rV, zz_0, zz_lt, r166]
    refine zz_Ei (fun g => absurd g (by omega)) (fun _ => zz_Er rfl)
  · have hv : zv_hours (J 132) a b = zv_rf (J 132) a b := if_neg hr
    have hb : zv_rf (J 132) a b = -1 ∨ zv_rf (J 132) a b = -3 := by
      unfold zv_rf at hr ⊢
      by_cases q : (0 ≤ a ∧ a < J 132 0 * J 132 1) ∧ (0 ≤ b ∧ b < J 132 0 * J 132 1) ∧ a ≠ b
      · rw [if_pos q] at hr ⊢
        by_cases m : zz_mh (J 132) a b
        · rw [if_pos m] at hr
          exact absurd rfl hr
        · rw [if_neg m]
          exact Or.inr rfl
      · rw [if_neg q]
        exact Or.inl rfl
    rw [if_neg hr, zw_i]
    rw [hv] at r167 ⊢
    refine zz_c (zz_call (by omega) t_168 rfl (fun n => e_168 _ _ _ _) ?_)
    simp (maxSteps := 5000000) (disch := first | assumption | omega) only [zi_131, r167, zo_rI, zz_0, zz_lt]
    refine zz_Ei (fun _ => zz_Er rfl) (fun g => absurd (by omega) g)
end ZRHL
