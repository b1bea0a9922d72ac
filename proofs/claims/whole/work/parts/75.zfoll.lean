/-! PURE LAYER, 55: the class digs by the law -/
section ZFOL
variable {T : List mv_T} {J : Nat → Int → Int} {R : Nat → Nat → Option Nat} {G : Nat → Nat → Int64} {d p : Nat} {Y : Int} {A : Int → Int}
theorem zs_sdr (hA : zz_ok Y A) (hR : zc_rep T R J p A) {c : Int} (h0 : 0 ≤ c) (h1 : c < A 0 * A 1) : (-1 ≤ J (p + 5) c ∧ J (p + 5) c ≤ 9) ∧ zz_ex A (J (p + 5)) c = zz_ex A (fun c => A (24 + c)) c := by
  have hc := hA.2.2.2.2.2.2.2.1 c h0 h1
  have q2 := (hR.2.2.1 c h0 h1).2.1
  unfold zz_ex
  show _ ∧ _ = if A (24 + c) < 0 then 0 else A (8 + c) - A (24 + c)
  rw [q2]
  unfold zc_sd
  by_cases h : A (24 + c) < 0
  · rw [if_pos h, if_pos (by omega), if_pos h]
    omega
  · rw [if_neg h, if_neg h]
    exact ⟨by omega, by omega⟩
theorem c_16 {μ : Int} {must : Prop} (hd : 6 ≤ d) (hL : ZL T R) (hp : Lnd p) (hA : zz_ok Y A) (hR : zc_rep T R J p A) (h1 : 0 ≤ J 78 1) (h2 : J 78 1 ≤ 999) (hμ : (μ = 1 ∧ must) ∨ (μ = 0 ∧ ¬ must)) :
    ∃ J' A', mv_cax d 16 [.inr (.inr (some 78)), .inr (.inr (some p)), .inl (mv_c μ)] (zz_S T J R G) = some (none, zz_S T J' R G) ∧ (zz_ok Y A' ∧ zc_rep T R J' p A' ∧ (∀ y, y < 8 ∨ 24 ≤ y → A' y = A y) ∧ (∀ x, x ≠ 78 → x ≠ 79 → x ≠ p + 4 → x ≠ p + 12 → J' x = J x) ∧ (∀ y, y ≠ 0 → y ≠ 1 → J' 78 y = J 78 y) ∧ 0 ≤ J' 78 1 ∧ J' 78 1 ≤ 999) ∧ zz_dg must 256 (A, J 78 1, J 78 0) (A', J' 78 1, J' 78 0) := by
  have hn := hA.n
  have hpl : p + 12 < 78 := by rcases hp with rfl | rfl | rfl | rfl <;> omega
  suffices h : ∃ r, mv_cax d 16 [.inr (.inr (some 78)), .inr (.inr (some p)), .inl (mv_c μ)] (zz_S T J R G) = some r ∧ ∃ J' A', r = (none, zz_S T J' R G) ∧ (zz_ok Y A' ∧ zc_rep T R J' p A' ∧ (∀ y, y < 8 ∨ 24 ≤ y → A' y = A y) ∧ (∀ x, x ≠ 78 → x ≠ 79 → x ≠ p + 4 → x ≠ p + 12 → J' x = J x) ∧ (∀ y, y ≠ 0 → y ≠ 1 → J' 78 y = J 78 y) ∧ 0 ≤ J' 78 1 ∧ J' 78 1 ≤ 999) ∧ zz_dg must 256 (A, J 78 1, J 78 0) (A', J' 78 1, J' 78 0) by
    obtain ⟨r, q1, J', A', rfl, q2⟩ := h
    exact ⟨J', A', q1, q2⟩
  refine zz_call (by omega) t_16 rfl (fun n => e_16 _ _ _ _) ?_
  obtain ⟨E, h18, hE⟩ := c_18 (T := T) (J := J) (R := R) (G := G) (d := d - 1) (p := p) (Y := Y) (A := A) (q := p + 5) (by omega) hL hp hA hR (by omega) (fun J' c k c0 c1 => za_L_5 hL hp c0 (by omega)) (fun c c0 c1 => (zs_sdr hA hR c0 c1).1)
  have hdp : zs_dp T R p Y (zz_w J 79 E) A (zz_w J 79 E) A := by
    refine ⟨hA, zc_rep_f hR (fun x hx => zw_n (by omega)), fun c c0 c1 => ?_, fun _ _ => rfl, fun _ _ _ _ _ => rfl, fun _ _ _ => rfl, ?_, ?_⟩
    · rw [zw_s, hE c c0 c1]
      exact (zs_sdr hA hR c0 c1).2
    · rw [zw_n (by omega)]; exact h1
    · rw [zw_n (by omega)]; exact h2
  simp (maxSteps := 5000000) (disch := first | assumption | omega) only [zr_L_12, zi_78, h18, zz_0, zz_31, zz_add, zz_sub, zz_mul, zz_neg, zz_lt, zz_le, zz_eq, zz_div, zz_md, zz_dv, zz_abs, zz_max, zz_min, zz_nI, zz_be0, zz_be1, zz_zb, zz_z, zz_l0, zz_l, zz_lcmp, zo_rf, zo_nl, zo_nn, zo_rI, zo_rL, zo_rR, zo_rV, Int.add_zero, Int.zero_add, Int.mul_zero, Int.zero_mul, Int.one_mul, Int.mul_one, if_true, if_false, not_true_eq_false, not_false_eq_true]
  refine c_16p (T := T) (J := zz_w J 79 E) (R := R) (G := G) (d := d - 1) (p := p) (Y := Y) (A := A) (must := must) (by omega) hL hp hdp hμ (fun J' A' h h' => ?_)
  rw [zw_n (x := 78) (by omega)] at h'
  obtain ⟨i1, i2, i3, i4, i5, i6, i7, i8⟩ := h
  refine ⟨J', A', rfl, ⟨i1, i2, i4, fun x x1 x2 x3 x4 => by rw [i5 x x1 x2 x3 x4, zw_n x2], fun y y1 y2 => by rw [i6 y y1 y2, zw_n (by omega)], i7, i8⟩, h'⟩
end ZFOL
