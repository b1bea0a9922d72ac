/-! PURE LAYER, 101: the reference's drawer, least -/
section ZRDW
variable {T : List mv_T} {J : Nat → Int → Int} {R : Nat → Nat → Option Nat} {G : Nat → Nat → Int64} {d : Nat} {Y : Int}
theorem r_183 {e w : Int} (hd : 3 ≤ d) (hL : ZL T R) (hA : zz_ok Y (J 132)) (e0 : -2147483648 ≤ e) (e1 : e ≤ 2147483647) (w0 : -2147483648 ≤ w) (w1 : w ≤ 2147483647) : mv_cax d 183 [.inr (.inr (some 131)), .inl (mv_c e), .inl (mv_c w)] (zz_S T J R G) = some (some (.inl (mv_c (zv_drawer (J 132) e w))), (zz_S T J R G)) := by
  have h7 := hA.2.2.2.2.2.2.1
  have r137 := r_137 (T := T) (J := J) (R := R) (G := G) (d := d - 1) (c := e) (by omega) hL hA e0 e1
  unfold zv_drawer
  by_cases hq : 0 ≤ e ∧ e < J 132 7
  · rw [if_pos hq]
    have r181 := r_181 (T := T) (J := J) (R := R) (G := G) (d := d - 1) (e := e) (by omega) hL hA hq.1 hq.2
    refine zz_c (zz_call (by omega) t_183 rfl (fun n => e_183 _ _ _ _) ?_)
    simp (maxSteps := 5000000) (disch := first | assumption | omega) only [zi_131, r137, zo_rI, zz_0, zz_be0, zz_l, zz_l0, zz_l1, r_134, r181, zz_eq]
    refine zz_Ei (fun g => absurd hq (by first | exact g | (rw [zz_be0] at g; exact g))) (fun _ => ?_)
    refine zz_Ei (fun g => ?_) (fun g => ?_)
    · try rw [zz_be0] at g
      refine zz_Ei (fun h3 => zz_Er (by rw [if_neg (by omega), if_neg (by omega), if_neg (by omega), if_pos h3]; rfl)) (fun h3 => zz_Er (by rw [if_neg (by omega), if_neg (by omega), if_neg (by omega), if_neg h3]))
    · try rw [zz_be0] at g
      have r140 := r_140 (T := T) (J := J) (R := R) (G := G) (d := d - 1) (c := e) (k := w) (by omega) hL hq.1 (by omega) (by omega) (by omega)
      simp (maxSteps := 5000000) (disch := first | assumption | omega) only [r140, zo_rI]
      refine zz_Er ?_
      have hw : w = 0 ∨ w = 1 ∨ w = 2 := by omega
      rcases hw with rfl | rfl | rfl
      · rw [if_pos rfl, show 40 + 15 * e + 0 = 40 + 15 * e by omega]
      · rw [if_neg (by omega), if_pos rfl, show 40 + 15 * e + 1 = 41 + 15 * e by omega]
      · rw [if_neg (by omega), if_neg (by omega), if_pos rfl, show 40 + 15 * e + 2 = 42 + 15 * e by omega]
  · rw [if_neg hq]
    refine zz_c (zz_call (by omega) t_183 rfl (fun n => e_183 _ _ _ _) ?_)
    simp (maxSteps := 5000000) (disch := first | assumption | omega) only [zi_131, r137, zo_rI, zz_0, zz_be0]
    refine zz_Ei (fun g => zz_Er rfl) (fun g => absurd (Decidable.not_not.mp (by first | exact g | (rw [zz_be0] at g; exact g))) hq)
end ZRDW
