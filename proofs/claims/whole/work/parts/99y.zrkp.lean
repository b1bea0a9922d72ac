/-! PURE LAYER, 104: the reference's price, toss -/
section ZRKP
variable {T : List mv_T} {J : Nat → Int → Int} {R : Nat → Nat → Option Nat} {G : Nat → Nat → Int64} {d : Nat} {k : Int}
theorem r_214 (hd : 3 ≤ d) (hL : ZL T R) (hk : zk_kd J) (k0 : -2147483648 ≤ k) (k1 : k ≤ 2147483647) : mv_cax d 214 [.inr (.inr (some 131)), .inl (mv_c k)] (zz_S T J R G) = some (some (.inl (mv_c (if 0 ≤ k ∧ k < 8 then (if J 135 k = 0 then -11 else if J 135 k = 1 then 0 else -12) else -1))), (zz_S T J R G)) := by
  have r138 := r_138 (c := k) (σ := zz_S T J R G) (d := d - 1) (by omega) k0 k1
  by_cases hq : 0 ≤ k ∧ k < 8
  · rw [if_pos hq]
    have h : 0 ≤ J 135 k ∧ J 135 k ≤ 2 := by
      rcases hk k hq.1 hq.2 with h | h | h <;> omega
    refine zz_c (zz_call (by omega) t_214 rfl (fun n => e_214 _ _ _) ?_)
    simp (maxSteps := 5000000) (disch := first | assumption | omega) only [r138, zo_rI, zz_0, zz_be0, zr_131_3, zo_rf, za_135, zz_eq]
    refine zz_Ei (fun g => absurd hq (by first | exact g | (rw [zz_be0] at g; exact g))) (fun _ => ?_)
    refine zz_Ei (fun g => zz_Er (by rw [if_pos g])) (fun g => ?_)
    refine zz_Ei (fun g' => zz_Er (by rw [if_neg g, if_pos g'])) (fun g' => zz_Er (by rw [if_neg g, if_neg g']))
  · rw [if_neg hq]
    refine zz_c (zz_call (by omega) t_214 rfl (fun n => e_214 _ _ _) ?_)
    simp (maxSteps := 5000000) (disch := first | assumption | omega) only [r138, zo_rI, zz_0, zz_be0]
    refine zz_Ei (fun g => zz_Er rfl) (fun g => absurd (Decidable.not_not.mp (by first | exact g | (rw [zz_be0] at g; exact g))) hq)
end ZRKP
