/-! PURE LAYER, 104: the reference's price, toss -/
section ZRKP
variable {T : List mv_T} {J : Nat → Int → Int} {R : Nat → Nat → Option Nat} {G : Nat → Nat → Int64} {d : Nat} {k : Int}
theorem r_214 (hd : 3 ≤ d) (hL : ZL T R) (hk : zk_kd J) (k0 : -2147483648 ≤ k) (k1 : k ≤ 2147483647) : mv_cax d 214 [.inr (.inr (some 131)), .inl (mv_c k)] (zz_S T J R G) = some (some (.inl (mv_c (if 0 ≤ k ∧ k < 8 then (if J 135 k = 0 then -11 else if J 135 k = 1 then 0 else -12) else -1))), (zz_S T J R G)) := by
  have r138 := r_138 (c := k) (σ := zz_S T J R G) (d := d - 1) (by omega) k0 k1
  by_cases hq : 0 ≤ k ∧ k < 8
  · rw [if_pos hq]
    have h : 0 ≤ J 135 k ∧ J 135 k ≤ 2 := by
      rcases hk k hq.1 hq.2 with h | h | h <;> omega
    refine zz_c (zz_call (by omega) t_214 rfl (fun n => e_214 _ _ _) ?_)
    simp (maxSteps := 5000000) (disch := first | assumption | omega) only [r138, zo_rI, zz_0, zz_be0, zr_131_3, zo_rf, za_135, zz_eq]
    refine zz_Ei (fun g => absurd hq (by first | exact g | (rw [zz_be0] at g; exact g))) (fun _ => ?_)
    refine zz_Ei (fun g => zz_Er (by rw [if_pos g])) (fun g => ?_)
    refine zz_Ei (fun g' => zz_Er (by rw [if_neg g, if_pos g'])) (fun g' => zz_Er (by rw [if_neg g, if_neg g']))
  · rw [if_neg hq]
    refine zz_c (zz_call (by omega) t_214 rfl (fun n => e_214 _ _ _) ?_)
    simp (maxSteps := 5000000) (disch := first | assumption | omega) only [r138, zo_rI, zz_0, zz_be0]
    refine zz_Ei (fun g => zz_Er rfl) (fun g => absurd (Decidable.not_not.mp (by first | exact g | (rw [zz_be0] at g; exact g))) hq)
theorem r_215 (hd : 4 ≤ d) (hL : ZL T R) (hk : zk_kd J) (k0 : -2147483648 ≤ k) (k1 : k ≤ 2147483647) : mv_cax d 215 [.inr (.inr (some 131)), .inl (mv_c k)] (zz_S T J R G) = some (some (.inl (mv_c (zv_kd J k (J 139 k)))), (zz_S T J R G)) := by
  have r214 := r_214 (T := T) (J := J) (R := R) (G := G) (d := d - 1) (k := k) (by omega) hL hk k0 k1
  unfold zv_kd
  by_cases hq : 0 ≤ k ∧ k < 8
  · rw [if_pos hq] at r214 ⊢
    by_cases h0 : J 135 k = 0
    · rw [if_pos h0] at r214 ⊢
      refine zz_c (zz_call (by omega) t_215 rfl (fun n => e_215 _ _ _) ?_)
      simp (maxSteps := 5000000) (disch := first | assumption | omega) only [zi_131, r214, zo_rI, zz_0, zz_eq]
      refine zz_Ei (fun g => absurd g (by omega)) (fun _ => zz_Er rfl)
    · rw [if_neg h0] at r214 ⊢
      by_cases h1 : J 135 k = 1
      · rw [if_pos h1] at r214 ⊢
        refine zz_c (zz_call (by omega) t_215 rfl (fun n => e_215 _ _ _) ?_)
        simp (maxSteps := 5000000) (disch := first | assumption | omega) only [zi_131, r214, zo_rI, zz_0, if_true, zr_131_7, zo_rf, za_139]
        try (refine zz_Ei (fun _ => ?_) (fun h => absurd trivial h))
        exact zz_Er rfl
      · rw [if_neg h1] at r214 ⊢
        refine zz_c (zz_call (by omega) t_215 rfl (fun n => e_215 _ _ _) ?_)
        simp (maxSteps := 5000000) (disch := first | assumption | omega) only [zi_131, r214, zo_rI, zz_0, zz_eq]
        refine zz_Ei (fun g => absurd g (by omega)) (fun _ => zz_Er rfl)
  · rw [if_neg hq] at r214 ⊢
    refine zz_c (zz_call (by omega) t_215 rfl (fun n => e_215 _ _ _) ?_)
    simp (maxSteps := 5000000) (disch := first | assumption | omega) only [zi_131, r214, zo_rI, zz_0, zz_eq]
    refine zz_Ei (fun g => absurd g (by omega)) (fun _ => zz_Er rfl)
theorem r_216 (hd : 4 ≤ d) (hL : ZL T R) (hk : zk_kd J) (k0 : -2147483648 ≤ k) (k1 : k ≤ 2147483647) : mv_cax d 216 [.inr (.inr (some 131)), .inl (mv_c k)] (zz_S T J R G) = some (some (.inl (mv_c (zv_kd J k (J 140 k)))), (zz_S T J R G)) := by
  have r214 := r_214 (T := T) (J := J) (R := R) (G := G) (d := d - 1) (k := k) (by omega) hL hk k0 k1
  unfold zv_kd
  by_cases hq : 0 ≤ k ∧ k < 8
  · rw [if_pos hq] at r214 ⊢
    by_cases h0 : J 135 k = 0
    · rw [if_pos h0] at r214 ⊢
      refine zz_c (zz_call (by omega) t_216 rfl (fun n => e_216 _ _ _) ?_)
      simp (maxSteps := 5000000) (disch := first | assumption | omega) only [zi_131, r214, zo_rI, zz_0, zz_eq]
      refine zz_Ei (fun g => absurd g (by omega)) (fun _ => zz_Er rfl)
    · rw [if_neg h0] at r214 ⊢
      by_cases h1 : J 135 k = 1
      · rw [if_pos h1] at r214 ⊢
        refine zz_c (zz_call (by omega) t_216 rfl (fun n => e_216 _ _ _) ?_)
        simp (maxSteps := 5000000) (disch := first | assumption | omega) only [zi_131, r214, zo_rI, zz_0, if_true, zr_131_8, zo_rf, za_140]
        try (refine zz_Ei (fun _ => ?_) (fun h => absurd trivial h))
        exact zz_Er rfl
      · rw [if_neg h1] at r214 ⊢
        refine zz_c (zz_call (by omega) t_216 rfl (fun n => e_216 _ _ _) ?_)
        simp (maxSteps := 5000000) (disch := first | assumption | omega) only [zi_131, r214, zo_rI, zz_0, zz_eq]
        refine zz_Ei (fun g => absurd g (by omega)) (fun _ => zz_Er rfl)
  · rw [if_neg hq] at r214 ⊢
    refine zz_c (zz_call (by omega) t_216 rfl (fun n => e_216 _ _ _) ?_)
    simp (maxSteps := 5000000) (disch := first | assumption | omega) only [zi_131, r214, zo_rI, zz_0, zz_eq]
    refine zz_Ei (fun g => absurd g (by omega)) (fun _ => zz_Er rfl)
end ZRKP
