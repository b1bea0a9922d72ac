/-! PURE LAYER, 57: the class's drawers -/
section ZDRW
variable {T : List mv_T} {J : Nat → Int → Int} {R : Nat → Nat → Option Nat} {G : Nat → Nat → Int64} {d p : Nat} {Y : Int} {A : Int → Int}
theorem c_34 {e : Int} (hd : 1 ≤ d) (hL : ZL T R) (hp : Lnd p) (hA : zz_ok Y A) (hR : zc_rep T R J p A) (h1 : -2147483648 ≤ e) (h2 : e ≤ 2147483647) : mv_cax d 34 [.inr (.inr (some p)), .inl (mv_c e)] (zz_S T J R G) = some (some (.inr (.inr (if 0 ≤ e ∧ e < A 7 then R (p + 7) e.toNat else none))), (zz_S T J R G)) := by
  have e7 := hR.2.1.2.2.2.2
  have hA7 := hA.2.2.2.2.2.2.1
  refine zz_c (zz_call (by omega) t_34 rfl (fun n => e_34 _ _ _) ?_)
  simp (maxSteps := 5000000) (disch := first | assumption | omega) only [zg_L_7, e7, zz_0, zz_31, zz_add, zz_sub, zz_mul, zz_neg, zz_lt, zz_le, zz_eq, zz_div, zz_md, zz_dv, zz_abs, zz_max, zz_min, zz_nI, zz_be0, zz_be1, zz_zb, zz_z, zz_l0, zz_l, zz_lcmp, zo_rf, zo_nl, zo_nn, zo_rI, zo_rL, zo_rR, zo_rV, Int.add_zero, Int.zero_add, Int.mul_zero, Int.zero_mul, Int.one_mul, Int.mul_one, if_true, if_false, not_true_eq_false, not_false_eq_true]
  refine zz_Ei (fun h => zz_Er (by rw [if_neg (by omega)])) (fun g1 => ?_)
  refine zz_Ei (fun h => zz_Er (by rw [if_neg (by omega)])) (fun g2 => ?_)
  refine zz_Ei (fun h => absurd h (by omega)) (fun _ => ?_)
  simp (maxSteps := 5000000) (disch := first | assumption | omega) only [zr_L_14, za_L_7, zz_0, zz_31, zz_add, zz_sub, zz_mul, zz_neg, zz_lt, zz_le, zz_eq, zz_div, zz_md, zz_dv, zz_abs, zz_max, zz_min, zz_nI, zz_be0, zz_be1, zz_zb, zz_z, zz_l0, zz_l, zz_lcmp, zo_rf, zo_nl, zo_nn, zo_rI, zo_rL, zo_rR, zo_rV, Int.add_zero, Int.zero_add, Int.mul_zero, Int.zero_mul, Int.one_mul, Int.mul_one, if_true, if_false, not_true_eq_false, not_false_eq_true]
  exact zz_Er (by rw [if_pos (by omega)])
end ZDRW
