/-! PURE LAYER, 102: the reference's dig -/
section ZRDG
variable {T : List mv_T} {J : Nat → Int → Int} {R : Nat → Nat → Option Nat} {G : Nat → Nat → Int64} {d : Nat} {Y : Int}
theorem r_180 {w : Int} (hd : 10 ≤ d) (hL : ZL T R) (hA : zz_ok Y (J 132)) (hBc : zz_bc (J 142)) (w0 : -2147483648 ≤ w) (w1 : w ≤ 2147483647) : ∃ v J', mv_cax d 180 [.inr (.inr (some 131)), .inl (mv_c w)] (zz_S T J R G) = some (some (.inl (mv_c v)), zz_S T J' R G) ∧ ((∀ x, x ≠ 131 → x ≠ 132 → (x < 143 ∨ 154 < x) → J' x = J x) ∧ ∀ y, (y < 16 ∨ 26 < y) → J' 131 y = J 131 y) ∧ J' 132 = J 132 ∧ zv_dig (J 132) w v := by
  by_cases hw : 0 ≤ w ∧ w ≤ 2
  · have r175 := r_175 (T := T) (J := J) (R := R) (G := G) (d := d - 1) (by omega) hL
    obtain ⟨J1, hJ1⟩ : ∃ J1, J1 = zz_w J 147 (zz_c130 (J 132) (J 147)) := ⟨_, rfl⟩
    rw [← hJ1] at r175
    have f1 : ∀ x, x ≠ 147 → J1 x = J x := fun x hx => by rw [hJ1, zw_n hx]
    have a1 : J1 147 = zz_c130 (J 132) (J 147) := by rw [hJ1, zw_s]
    have e132 := f1 132 (by omega)
    obtain ⟨J2, r179, fd, k1, k2, k3, k4⟩ := r_179 (T := T) (J := J1) (R := R) (G := G) (d := d - 1) (Y := Y) hL (by rw [e132]; exact hA) (by rw [f1 142 (by omega)]; exact hBc) (by omega)
    have r169 := r_169 (T := T) (J := J2) (R := R) (G := G) (d := d - 1) (Y := Y) (by omega) hL k2
    have r176 := r_176 (T := T) (J := J2) (R := R) (G := G) (d := d - 1) (by omega) hL
    rw [e132] at k4
    refine ⟨if w = 0 then zz_of (J2 132) (fun c => J2 132 (24 + c)) else if w = 1 then J2 131 25 else J2 131 26, zz_w J2 132 (zz_c130 (J2 147) (J2 132)), ?_, ⟨fun x x1 x2 x3 => by rw [zw_n x2, fd.1 x x1 x2 (by omega), f1 x (by omega)], fun y hy => by rw [zw_n (by omega), fd.2 y hy, f1 131 (by omega)]⟩, ?_, Or.inr ⟨hw, J2 132, J2 131 26, J2 131 25, k4, rfl⟩⟩
    · refine zz_c (zz_call (by omega) t_180 rfl (fun n => e_180 _ _ _) ?_)
      simp (maxSteps := 5000000) (disch := first | assumption | omega) only [zz_l, zz_l0, zz_l1, r_134, zo_rI, zz_0, zz_be0, zi_131, r175, r179, r169, r176, zo_rV, zg_131_25, zg_131_26, zz_eq, zw_n]
      refine zz_Ei (fun g => absurd hw (by first | exact g | (rw [zz_be0] at g; exact g))) (fun _ => ?_)
      refine zz_Ei (fun h0 => zz_Er (by rw [if_pos h0])) (fun h0 => ?_)
      refine zz_Ei (fun h1 => zz_Er (by rw [if_neg h0, if_pos h1])) (fun h1 => zz_Er (by rw [if_neg h0, if_neg h1]))
    · rw [zw_s, fd.1 147 (by omega) (by omega) (by omega), a1]
      funext y
      by_cases hy : 0 ≤ y ∧ y < 130
      · rw [z130 hy, z130 hy]
      · rw [z130_n hy, k1 y (by omega), e132]
  · refine ⟨-1, J, ?_, ⟨fun _ _ _ _ => rfl, fun _ _ => rfl⟩, rfl, Or.inl ⟨hw, rfl⟩⟩
    refine zz_c (zz_call (by omega) t_180 rfl (fun n => e_180 _ _ _) ?_)
    simp (maxSteps := 5000000) (disch := first | assumption | omega) only [zz_l, zz_l0, zz_l1, r_134, zo_rI, zz_0, zz_be0]
    refine zz_Ei (fun g => zz_Er rfl) (fun g => absurd (Decidable.not_not.mp (by first | exact g | (rw [zz_be0] at g; exact g))) hw)
end ZRDG
