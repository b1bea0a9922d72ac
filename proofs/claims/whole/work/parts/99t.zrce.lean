/-! PURE LAYER, 99: the reference's cell -/
section ZRCE
variable {T : List mv_T} {J : Nat → Int → Int} {R : Nat → Nat → Option Nat} {G : Nat → Nat → Int64} {d : Nat} {Y : Int}
theorem r_156 {c w : Int} (hd : 3 ≤ d) (hL : ZL T R) (hA : zz_ok Y (J 132)) (hB : zz_bc (J 142)) (hw : ∀ x ∈ zz_way (J 132), 0 ≤ x ∧ x < 16) (c0 : -2147483648 ≤ c) (c1 : c ≤ 2147483647) (w0 : -2147483648 ≤ w) (w1 : w ≤ 2147483647) : ∃ J', mv_cax d 156 [.inr (.inr (some 131)), .inl (mv_c c), .inl (mv_c w)] (zz_S T J R G) = some (some (.inl (mv_c (zv_cell (J 132) c w))), zz_S T J' R G) ∧ (∀ x, x ≠ 131 → J' x = J x) ∧ ∀ y, y ≠ 16 → y ≠ 17 → J' 131 y = J 131 y := by
  have hN := hA.n
  have r136 := r_136 (T := T) (J := J) (R := R) (G := G) (d := d - 1) (c := c) (by omega) hL hA c0 c1
  unfold zv_cell
  by_cases hq : 0 ≤ c ∧ c < J 132 0 * J 132 1
  · rw [if_pos hq]
    have r142 := r_142 (T := T) (J := J) (R := R) (G := G) (d := d - 1) (c := c) (by omega) hL hA hq.1 (by omega)
    have r153 := r_153 (T := T) (J := J) (R := R) (G := G) (d := d - 1) hL hA hB (by omega)
    have hb := zz_mk_b (A := J 132) (zz_way (J 132)) 0 hw (by omega) (by omega)
    have hbit := zz_mk_bit (e := c) hq.1 (zz_way (J 132)) 0 (fun x hx => (hw x hx).1)
    rw [zz_bit0] at hbit
    have h01 := zz_bit01 (J 132 6) c
    by_cases h3 : w = 3
    · subst h3
      refine ⟨zz_fm J (zz_stn (J 132)) (zz_mk (zz_way (J 132)) 0), ?_, fun x hx => by funext y; exact zz_fm_a hx, fun y y1 y2 => by unfold zz_fm; rw [zu_k y1, zu_k y2]⟩
      have f16 : zz_fm J (zz_stn (J 132)) (zz_mk (zz_way (J 132)) 0) 131 16 = zz_mk (zz_way (J 132)) 0 := by unfold zz_fm; rw [zu_s]
      rw [if_neg (by omega), if_neg (by omega), if_neg (by omega), if_pos rfl]
      have ev : zz_b (c ∈ zz_way (J 132)) = zz_bit (zz_mk (zz_way (J 132)) 0) c := by
        rw [hbit]
        by_cases q : c ∈ zz_way (J 132)
        · rw [zz_b_t q, if_pos q]
        · rw [zz_b_f q, if_neg q]
      rw [ev]
      refine zz_c (zz_call (by omega) t_156 rfl (fun n => e_156 _ _ _ _) ?_)
      simp (maxSteps := 5000000) (disch := first | assumption | omega) only [zi_131, r136, zo_rI, zz_0, zz_be0, zo_rV, r153, zg_131_16, f16, zz_31, zz_sbit]
      refine zz_Ei (fun g => absurd hq (by first | exact g | (rw [zz_be0] at g; exact g))) (fun _ => ?_)
      iterate 3 (refine zz_Ei (fun h => absurd h (by decide)) (fun _ => ?_))
      refine zz_Ei (fun _ => ?_) (fun h => absurd trivial h)
      exact zz_Er rfl
    · refine ⟨J, ?_, fun _ _ => rfl, fun _ _ _ => rfl⟩
      refine zz_c (zz_call (by omega) t_156 rfl (fun n => e_156 _ _ _ _) ?_)
      simp (maxSteps := 5000000) (disch := first | assumption | omega) only [zi_131, r136, zo_rI, zz_0, zz_be0, zr_131_0, zo_rf, za_132, zz_add, r142, zz_eq]
      refine zz_Ei (fun g => absurd hq (by first | exact g | (rw [zz_be0] at g; exact g))) (fun _ => ?_)
      refine zz_Ei (fun h0 => zz_Er (by rw [if_pos h0])) (fun h0 => ?_)
      rw [if_neg h0]
      refine zz_Ei (fun h1 => ?_) (fun h1 => ?_)
      · rw [if_pos h1]
        refine zz_Ei (fun b => zz_Er (by rw [b])) (fun b => zz_Er (by rw [show zz_bit (J 132 6) c = 1 by omega]))
      · rw [if_neg h1]
        refine zz_Ei (fun h2 => zz_Er (by rw [if_pos h2])) (fun h2 => ?_)
        refine zz_Ei (fun h => absurd h h3) (fun _ => zz_Er (by rw [if_neg h2, if_neg h3]))
  · rw [if_neg hq]
    refine ⟨J, ?_, fun _ _ => rfl, fun _ _ _ => rfl⟩
    refine zz_c (zz_call (by omega) t_156 rfl (fun n => e_156 _ _ _ _) ?_)
    simp (maxSteps := 5000000) (disch := first | assumption | omega) only [zi_131, r136, zo_rI, zz_0, zz_be0]
    refine zz_Ei (fun g => zz_Er rfl) (fun g => absurd (Decidable.not_not.mp (by first | exact g | (rw [zz_be0] at g; exact g))) hq)
end ZRCE
