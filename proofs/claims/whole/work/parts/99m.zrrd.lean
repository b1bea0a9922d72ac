/-! PURE LAYER, 92: texts: the reference's statements are done -/
section ZRRD
variable {T : List mv_T} {J : Nat → Int → Int} {R : Nat → Nat → Option Nat} {G : Nat → Nat → Int64} {d : Nat} {Y : Int}
theorem r_149 {r c : Int} (hd : 2 ≤ d) (hL : ZL T R) (hA : zz_ok Y (J 134)) (hr : 0 ≤ r ∧ r ≤ 999) (hc : 0 ≤ c ∧ c ≤ 999) : mv_cax d 149 [.inr (.inr (some 131)), .inl (mv_c r), .inl (mv_c c)] (zz_S T J R G) = some (some (.inl (mv_c (if ((2 ≤ r ∧ r ≤ 4) ∧ 2 ≤ c ∧ c ≤ 4) ∧ J 134 7 ≤ 0 then 1 else 0))), zz_S T (if ((2 ≤ r ∧ r ≤ 4) ∧ 2 ≤ c ∧ c ≤ 4) ∧ J 134 7 ≤ 0 then zz_w J 134 (zt_new (J 134) r c) else J) R G) := by
  have h7 := hA.2.2.2.2.2.2.1
  by_cases hcc : ((2 ≤ r ∧ r ≤ 4) ∧ 2 ≤ c ∧ c ≤ 4) ∧ J 134 7 ≤ 0
  · rw [if_pos hcc, if_pos hcc]
    have e0 : J = zz_w J 134 (J 134) := zw_i.symm
    have l := zz_loop (run := fun k O n => mv_run (mv_cax (d - 1)) mm_149 n 71 [(0, .inr (.inr (some 131))), (3, .inl (mv_c k))] [] (zz_S T (zz_w J 134 O) R G)) (Q := fun r' => r' = (some (.inl (mv_c 1)), zz_S T (zz_w J 134 (zt_new (J 134) r c)) R G)) 16 (fun k O => 0 ≤ k ∧ ∀ y, O y = if y = 0 then r else if y = 1 then c else if y = 5 ∨ y = 6 then 0 else if 8 ≤ y ∧ y < 8 + k then 2 else if 24 ≤ y ∧ y < 24 + k then -4 else J 134 y) ?_ ?_ 16 0 (zz_f (zz_f (zz_f (zz_f (J 134) 0 r) 1 c) 6 0) 5 0) rfl ⟨by omega, fun y => ?_⟩
    · refine zz_c (zz_call (by omega) t_149 rfl (fun n => e_149 _ _ _ _) ?_)
      simp (maxSteps := 5000000) (disch := first | assumption | omega) only [zz_l, zz_l1, r_134, zo_rI, zz_0, zz_be0, zr_131_2, zo_rf, za_134, zs_134, zz_le, zu_A, zu_k]
      refine zz_Ei (fun g => absurd hcc.1.1 (by first | exact g | (rw [zz_be0] at g; exact g))) (fun _ => ?_)
      refine zz_Ei (fun g => absurd hcc.1.2 (by first | exact g | (rw [zz_be0] at g; exact g))) (fun _ => ?_)
      refine zz_Ei (fun _ => ?_) (fun g => absurd hcc.2 g)
      have e1 : zz_u (zz_u (zz_u (zz_u J 134 0 r) 134 1 c) 134 6 0) 134 5 0 = zz_w J 134 (zz_f (zz_f (zz_f (zz_f (J 134) 0 r) 1 c) 6 0) 5 0) := by
        rw [e0, zz_wu, zz_wu, zz_wu, zz_wu, zw_s, zw_w]
      rw [e1]
      exact l
    · rintro k O ⟨hk, hO⟩ hlt kk
      refine zz_Es (fun n => e_149_71 _ _ _) ?_
      simp (maxSteps := 5000000) (disch := first | assumption | omega) only [zz_le, zr_131_2, zo_rf, zs_134, zz_add, zz_wu]
      refine zz_Ei (fun h => absurd h (by omega)) (fun _ => ?_)
      refine kk (zz_f (zz_f O (8 + k) 2) (24 + k) (-4)) ⟨by omega, fun y => ?_⟩
      by_cases y1 : y = 24 + k
      · rw [y1, zf_s, if_neg (by omega), if_neg (by omega), if_neg (by omega), if_neg (by omega), if_pos (by omega)]
      · rw [zf_n y1]
        by_cases y2 : y = 8 + k
        · rw [y2, zf_s, if_neg (by omega), if_neg (by omega), if_neg (by omega), if_pos (by omega)]
        · rw [zf_n y2, hO y]
          repeat' split
          all_goals first | rfl | (exfalso; omega)
    · rintro O ⟨_, hO⟩
      refine zz_Es (fun n => e_149_71 _ _ _) ?_
      simp (maxSteps := 5000000) (disch := first | assumption | omega) only [zz_le, zz_z]
      refine zz_Ei (fun _ => ?_) (fun h => absurd (Int.le_refl _) h)
      have : O = zt_new (J 134) r c := funext fun y => by
        rw [hO y]
        rfl
      exact zz_Er (by rw [this])
    · by_cases y5 : y = 5
      · rw [y5, zf_s]; rfl
      · rw [zf_n y5]
        by_cases y6 : y = 6
        · rw [y6, zf_s]; rfl
        · rw [zf_n y6]
          by_cases y1 : y = 1
          · rw [y1, zf_s]; rfl
          · rw [zf_n y1]
            by_cases y0 : y = 0
            · rw [y0, zf_s]; rfl
            · rw [zf_n y0, if_neg y0, if_neg y1, if_neg (by omega), if_neg (by omega), if_neg (by omega)]
  · rw [if_neg hcc, if_neg hcc]
    refine zz_c (zz_call (by omega) t_149 rfl (fun n => e_149 _ _ _ _) ?_)
    simp (maxSteps := 5000000) (disch := first | assumption | omega) only [zz_l, zz_l1, r_134, zo_rI, zz_0, zz_be0, zr_131_2, zo_rf, za_134, zz_le, zz_z]
    refine zz_Ei (fun g => zz_Er rfl) (fun g1 => ?_)
    refine zz_Ei (fun g => zz_Er rfl) (fun g2 => ?_)
    refine zz_Ei (fun g => ?_) (fun g => zz_Er rfl)
    try rw [zz_be0] at g1
    try rw [zz_be0] at g2
    exact absurd ⟨⟨Decidable.not_not.mp g1, Decidable.not_not.mp g2⟩, g⟩ hcc
end ZRRD
