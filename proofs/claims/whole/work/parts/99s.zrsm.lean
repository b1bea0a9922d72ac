/-! PURE LAYER, 98: the reference's state, set, says -/
section ZRSM
variable {T : List mv_T} {J : Nat → Int → Int} {R : Nat → Nat → Option Nat} {G : Nat → Nat → Int64} {d : Nat} {Y : Int}
theorem r_157 {w : Int} (hd : 2 ≤ d) (hL : ZL T R) (w0 : -2147483648 ≤ w) (w1 : w ≤ 2147483647) : mv_cax d 157 [.inr (.inr (some 131)), .inl (mv_c w)] (zz_S T J R G) = some (some (.inl (mv_c (zv_state (J 132) w))), (zz_S T J R G)) := by
  unfold zv_state
  refine zz_c (zz_call (by omega) t_157 rfl (fun n => e_157 _ _ _) ?_)
  simp (maxSteps := 5000000) (disch := first | assumption | omega) only [zz_l, zz_l0, zz_l1, r_134, zo_rI, zz_0, zz_be0]
  refine zz_Ei (fun g => ?_) (fun g => ?_)
  · try rw [zz_be0] at g
    exact zz_Er (by rw [if_neg (by omega), if_neg (by omega), if_neg (by omega), if_neg (by omega), if_neg (by omega), if_neg (by omega)])
  · try rw [zz_be0] at g
    simp (maxSteps := 5000000) (disch := first | assumption | omega) only [zr_131_0, zo_rf, za_132]
    refine zz_Er ?_
    have : w = 0 ∨ w = 1 ∨ w = 2 ∨ w = 3 ∨ w = 4 ∨ w = 5 := by omega
    rcases this with rfl | rfl | rfl | rfl | rfl | rfl <;> rfl
theorem r_158 {w n : Int} (hd : 2 ≤ d) (hL : ZL T R) (w0 : -2147483648 ≤ w) (w1 : w ≤ 2147483647) (n0 : -2147483648 ≤ n) (n1 : n ≤ 2147483647) : mv_cax d 158 [.inr (.inr (some 131)), .inl (mv_c w), .inl (mv_c n)] (zz_S T J R G) = some (some (.inl (mv_c (zv_set (J 132) w n))), zz_S T (zz_w J 132 (zv_setA (J 132) w n)) R G) := by
  unfold zv_set zv_setA
  refine zz_c (zz_call (by omega) t_158 rfl (fun n => e_158 _ _ _ _) ?_)
  simp (maxSteps := 5000000) (disch := first | assumption | omega) only [zz_l, zz_l0, zz_l1, r_134, zo_rI, zz_0, zz_be0, zz_eq]
  refine zz_Ei (fun g => ?_) (fun g => ?_)
  · try rw [zz_be0] at g
    exact zz_Er (by rw [if_neg (by omega), if_neg (by omega), if_neg (by omega), if_neg (by omega), zw_i])
  · try rw [zz_be0] at g
    refine zz_Ei (fun e => ?_) (fun e => ?_)
    · subst e
      refine zz_Ei (fun g2 => ?_) (fun g2 => ?_)
      · try rw [zz_be0] at g2
        exact zz_Er (by rw [if_neg (by omega), if_neg (by omega), if_neg (by omega), if_neg (by omega), zw_i])
      · try rw [zz_be0] at g2
        simp (maxSteps := 5000000) (disch := first | assumption | omega) only [zr_131_0, zo_rf, za_132, zs_132, zz_add]
        exact zz_Er (by rw [if_pos (by first | omega | exact ⟨trivial, by omega, by omega⟩), if_pos (by first | omega | exact ⟨trivial, by omega, by omega⟩), zt_uw]; rfl)
    · have e1 : w = 1 := by omega
      subst e1
      refine zz_Ei (fun g2 => ?_) (fun g2 => ?_)
      · try rw [zz_be0] at g2
        exact zz_Er (by rw [if_neg (by omega), if_neg (by omega), if_neg (by omega), if_neg (by omega), zw_i])
      · try rw [zz_be0] at g2
        simp (maxSteps := 5000000) (disch := first | assumption | omega) only [zr_131_0, zo_rf, za_132, zs_132, zz_add]
        exact zz_Er (by rw [if_neg (by omega), if_pos (by first | omega | exact ⟨trivial, by omega, by omega⟩), if_neg (by omega), if_pos (by first | omega | exact ⟨trivial, by omega, by omega⟩), zt_uw]; rfl)
theorem r_159 {c h : Int} (hd : 3 ≤ d) (hL : ZL T R) (hA : zz_ok Y (J 132)) (c0 : -2147483648 ≤ c) (c1 : c ≤ 2147483647) (h0 : -2147483648 ≤ h) (h1 : h ≤ 2147483647) : mv_cax d 159 [.inr (.inr (some 131)), .inl (mv_c c), .inl (mv_c h)] (zz_S T J R G) = some (some (.inl (mv_c (zv_says (J 132) c h))), zz_S T (zz_w J 132 (zv_saysA (J 132) c h)) R G) := by
  have hN := hA.n
  have r136 := r_136 (T := T) (J := J) (R := R) (G := G) (d := d - 1) (c := c) (by omega) hL hA c0 c1
  unfold zv_says zv_saysA
  refine zz_c (zz_call (by omega) t_159 rfl (fun n => e_159 _ _ _ _) ?_)
  simp (maxSteps := 5000000) (disch := first | assumption | omega) only [zi_131, r136, zz_l, zz_l0, zz_l1, r_134, zo_rI, zz_0, zz_be0, zz_le]
  refine zz_Ei (fun g => ?_) (fun g => ?_)
  · try rw [zz_be0] at g
    exact zz_Er (by rw [if_neg (fun q => g q.1), if_neg (fun q => g q.1), zw_i])
  · try rw [zz_be0] at g
    refine zz_Ei (fun g2 => ?_) (fun g2 => ?_)
    · try rw [zz_be0] at g2
      exact zz_Er (by rw [if_neg (fun q => g2 q.2), if_neg (fun q => g2 q.2), zw_i])
    · try rw [zz_be0] at g2
      simp (maxSteps := 5000000) (disch := first | assumption | omega) only [zr_131_0, zo_rf, za_132, zs_132, zz_add]
      refine zz_Ei (fun s => ?_) (fun s => ?_)
      · exact zz_Er (by rw [if_pos (by omega), if_pos (by omega), if_neg (by omega), zt_uw])
      · exact zz_Er (by rw [if_pos (by omega), if_pos (by omega), if_pos (by omega), zt_uw])
end ZRSM
