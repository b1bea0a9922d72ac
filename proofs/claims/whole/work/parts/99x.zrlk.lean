/-! PURE LAYER, 103: the reference's least, like -/
section ZRLK
variable {T : List mv_T} {J : Nat → Int → Int} {R : Nat → Nat → Option Nat} {G : Nat → Nat → Int64} {d : Nat} {Y : Int}
theorem r_173 (hL : ZL T R) (hA : zz_ok Y (J 132)) (hd : 7 ≤ d) : ∃ K J', mv_cax d 173 [.inr (.inr (some 131))] (zz_S T J R G) = some (some (.inl (mv_c K)), zz_S T J' R G) ∧ zz_fx J J' ∧ zz_lst (J 132) (zz_ex (J 132) (fun c => J 132 (24 + c))) K := by
  obtain ⟨K, J', r172, h1, h2, _⟩ := r_172 (T := T) (J := J) (R := R) (G := G) (d := d - 1) hL hA (by omega)
  refine ⟨K, J', ?_, h1, h2⟩
  refine zz_c (zz_call (by omega) t_173 rfl (fun n => e_173 _ _) ?_)
  simp (maxSteps := 5000000) (disch := first | assumption | omega) only [zi_131, r172, zo_rI]
  exact zz_Er rfl
theorem r_170 {w : Int} (hd : 3 ≤ d) (hL : ZL T R) (hA : zz_ok Y (J 132)) (w0 : -2147483648 ≤ w) (w1 : w ≤ 2147483647) : ∃ v, mv_cax d 170 [.inr (.inr (some 131)), .inl (mv_c w)] (zz_S T J R G) = some (some (.inl (mv_c v)), (zz_S T J R G)) ∧ zv_like (J 132) w v := by
  have hN := hA.n
  have hc := hA.2.2.2.2.2.2.2.1
  by_cases hw : 0 ≤ w ∧ w ≤ 1
  · by_cases h1 : w = 1
    · subst h1
      have r169 := r_169 (T := T) (J := J) (R := R) (G := G) (d := d - 1) (Y := Y) (by omega) hL hA
      refine ⟨_, ?_, Or.inr (Or.inl ⟨rfl, rfl⟩)⟩
      refine zz_c (zz_call (by omega) t_170 rfl (fun n => e_170 _ _ _) ?_)
      simp (maxSteps := 5000000) (disch := first | assumption | omega) only [zz_l, zz_l0, zz_l1, r_134, zo_rI, zz_0, zz_be0, zi_131, r169]
      refine zz_Ei (fun g => absurd hw (by first | exact g | (rw [zz_be0] at g; exact g))) (fun _ => ?_)
      try (refine zz_Ei (fun _ => ?_) (fun h => absurd trivial h))
      try (refine zz_Ei (fun _ => ?_) (fun h => absurd rfl h))
      exact zz_Er rfl
    · have h0 : w = 0 := by omega
      subst h0
      suffices h : ∃ r, mv_cax d 170 [.inr (.inr (some 131)), .inl (mv_c 0)] (zz_S T J R G) = some r ∧ ∃ v, r = (some (.inl (mv_c v)), (zz_S T J R G)) ∧ zv_fu (J 132) v by
        obtain ⟨r, g1, v, rfl, g2⟩ := h
        exact ⟨v, g1, Or.inl ⟨rfl, g2⟩⟩
      refine zz_call (by omega) t_170 rfl (fun n => e_170 _ _ _) ?_
      simp (maxSteps := 5000000) (disch := first | assumption | omega) only [zz_l, zz_l0, zz_l1, r_134, zo_rI, zz_0, zz_be0, zz_eq]
      refine zz_Ei (fun g => absurd hw (by first | exact g | (rw [zz_be0] at g; exact g))) (fun _ => ?_)
      refine zz_Ei (fun g => absurd g (by omega)) (fun _ => ?_)
      have r135 := r_135 (T := T) (J := J) (R := R) (G := G) (d := d - 1) (by omega) hL
      refine zz_loop (α := Unit) (run := fun c _ n => mv_run (mv_cax (d - 1)) mm_170 n 26 [(0, .inr (.inr (some 131))), (2, .inl (mv_c c))] [] (zz_S T J R G)) (J 132 0 * J 132 1) (fun c _ => 0 ≤ c ∧ ∀ i, 0 ≤ i → i < c → zz_tw (J 132) i = J 132 (8 + i)) ?_ ?_ (J 132 0 * J 132 1).toNat 0 () (by omega) ⟨by omega, fun i _ _ => by omega⟩
      · rintro c _ ⟨c0, hc0⟩ hlt kk
        have hcc := hc c c0 hlt
        have nx : ∀ e : zz_tw (J 132) c = J 132 (8 + c), zz_E (fun n => mv_run (mv_cax (d - 1)) mm_170 n 26 [(0, .inr (.inr (some 131))), (2, .inl (mv_c (c + 1)))] [] (zz_S T J R G)) _ := fun e => kk () ⟨by omega, fun i i0 i1 => by
          by_cases q : i = c
          · rw [q]; exact e
          · exact hc0 i i0 (by omega)⟩
        refine zz_Es (fun n => e_170_26 _ _ _) ?_
        simp (maxSteps := 5000000) (disch := first | assumption | omega) only [zi_131, r135, zo_rI, zz_0, zz_le, zz_lt, zr_131_0, zo_rf, za_132, zz_add, zz_eq]
        refine zz_Ei (fun g => absurd g (by omega)) (fun _ => ?_)
        refine zz_Ei (fun g => nx ?_) (fun g => ?_)
        · unfold zz_tw
          rw [if_pos g]
        · refine zz_Ei (fun e => nx ?_) (fun e => zz_Er ⟨c, rfl, Or.inr ⟨⟨c0, hlt⟩, ?_, hc0⟩⟩)
          · unfold zz_tw
            rw [if_neg g]
            exact e
          · unfold zz_tw
            rw [if_neg g]
            exact e
      · rintro _ ⟨_, hall⟩
        refine zz_Es (fun n => e_170_26 _ _ _) ?_
        simp (maxSteps := 5000000) (disch := first | assumption | omega) only [zi_131, r135, zo_rI, zz_le]
        refine zz_Ei (fun _ => zz_Er ⟨-4, rfl, Or.inl ⟨rfl, hall⟩⟩) (fun h => absurd (Int.le_refl _) h)
  · refine ⟨-1, ?_, Or.inr (Or.inr ⟨hw, rfl⟩)⟩
    refine zz_c (zz_call (by omega) t_170 rfl (fun n => e_170 _ _ _) ?_)
    simp (maxSteps := 5000000) (disch := first | assumption | omega) only [zz_l, zz_l0, zz_l1, r_134, zo_rI, zz_0, zz_be0]
    refine zz_Ei (fun g => zz_Er rfl) (fun g => absurd (Decidable.not_not.mp (by first | exact g | (rw [zz_be0] at g; exact g))) hw)
end ZRLK
