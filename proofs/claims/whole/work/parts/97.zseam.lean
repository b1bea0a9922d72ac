/-! PURE LAYER, 77: the class: seams -/
theorem zk_sum_split {f : Int → Int} {a b : Int} (ha : 0 ≤ a) (hb : 0 ≤ b) : zz_sum f (a + b) = zz_sum f a + zz_sum (fun i => f (a + i)) b := by
  obtain ⟨m, rfl⟩ := Int.eq_ofNat_of_zero_le hb
  induction m with
  | zero => rw [show a + ((0 : Nat) : Int) = a by omega, show (((0 : Nat) : Int)) = 0 from rfl, zz_sum0, Int.add_zero]
  | succ m ih =>
    have ih := ih (by omega)
    rw [show a + ((m + 1 : Nat) : Int) = a + m + 1 by omega, show ((m + 1 : Nat) : Int) = (m : Int) + 1 by omega, zz_sum1 (by omega), zz_sum1 (by omega), ih, Int.add_assoc]
theorem zk_cols {f : Int → Int} {C col r : Int} (hC : 2 ≤ C ∧ C ≤ 4) (h0 : 0 ≤ col) (h1 : col < C) (hr : 0 ≤ r) : zz_sum (fun c => if c % C = col then f c else 0) (r * C) = zz_sum (fun i => f (i * C + col)) r := by
  obtain ⟨m, rfl⟩ := Int.eq_ofNat_of_zero_le hr
  induction m with
  | zero =>
    rw [show (((0 : Nat) : Int)) = 0 from rfl, Int.zero_mul]
    rfl
  | succ m ih =>
    have ih := ih (by omega)
    have hm : 0 ≤ (m : Int) * C := Int.mul_nonneg (by omega) (by omega)
    rw [show ((m + 1 : Nat) : Int) = (m : Int) + 1 by omega, zz_sum1 (by omega), Int.add_mul, Int.one_mul, zk_sum_split hm (by omega), ih]
    congr 1
    rw [zz_sum_c (g := fun i => if col = i then f (m * C + i) else 0) (by omega) (fun i i0 i1 => ?_)]
    · exact zk_one (f := fun i => f (m * C + i)) h0 h1
    · show (if (m * C + i) % C = col then f (m * C + i) else 0) = if col = i then f (m * C + i) else 0
      have e : (m * C + i) % C = i := by
        rcases (show C = 2 ∨ C = 3 ∨ C = 4 by omega) with rfl | rfl | rfl <;> omega
      rw [e]
      by_cases q : col = i
      · rw [if_pos q, if_pos q.symm]
      · rw [if_neg q, if_neg (fun h => q h.symm)]
def zv_st (x y : Int) : Int := if x ≠ 99 ∧ y ≠ 99 ∧ 2 < ((x - y).natAbs : Int) then 1 else 0
def zv_smA (V : Nat → Int → Int) (A : Int → Int) (k e col : Int) : Int → Int := fun y => if 24 ≤ y ∧ y < 24 + A 0 * A 1 then (if V 138 (100 * (if (y - 24) % A 1 < col then k else e) + (y - 24)) = 99 then -4 else V 138 (100 * (if (y - 24) % A 1 < col then k else e) + (y - 24))) else A y
noncomputable def zv_seam (V : Nat → Int → Int) (A : Int → Int) (k e col jn : Int) : Int × (Int → Int) := @ite _ ((0 ≤ k ∧ k < 8) ∧ (0 ≤ e ∧ e < 8) ∧ 1 ≤ col ∧ col < A 1) (Classical.propDecidable _) (@ite _ (V 135 k = 0 ∨ V 135 e = 0) (Classical.propDecidable _) (-11, A) (@ite _ ((V 135 k = 2 ∧ V 136 k = 0) ∧ V 135 e = 2 ∧ V 136 e = 0) (Classical.propDecidable _) (@ite _ (zk_mp V k (A 0 * A 1) ∧ zk_mp V e (A 0 * A 1)) (Classical.propDecidable _) (zz_sum (fun r => zv_st (V 138 (100 * k + (r * A 1 + col - 1))) (V 138 (100 * e + (r * A 1 + col)))) (A 0), @ite _ (jn = 0) (Classical.propDecidable _) A (zv_smA V A k e col)) (-13, A)) (-12, A))) (-1, A)
section ZSEA
variable {T : List mv_T} {J V : Nat → Int → Int} {R : Nat → Nat → Option Nat} {G : Nat → Nat → Int64} {d p q : Nat} {k Y : Int} {A : Int → Int}
theorem c_129 {x y : Int} {σ : mv_S} (hd : 1 ≤ d) (hx : -1 ≤ x ∧ x ≤ 99) (hy : -1 ≤ y ∧ y ≤ 99) : mv_cax d 129 [.inl (mv_c x), .inl (mv_c y)] σ = some (some (.inl (mv_c (zz_b (x ≠ -1 ∧ y ≠ -1 ∧ 2 < ((x - y).natAbs : Int))))), σ) := by
  refine zz_c (zz_call (by omega) t_129 rfl (fun n => e_129 _ _ _) ?_)
  simp (maxSteps := 5000000) (disch := first | assumption | omega) only [zz_z, zz_0, zz_31, zz_add, zz_sub, zz_mul, zz_neg, zz_lt, zz_le, zz_eq, zz_div, zz_md, zz_dv, zz_abs, zz_max, zz_min, zz_nI, zz_be0, zz_be1, zz_zb, zz_z, zz_l0, zz_l, zz_lcmp, zo_rf, zo_nl, zo_nn, zo_rI, zo_rL, zo_rR, zo_rV, Int.add_zero, Int.zero_add, Int.mul_zero, Int.zero_mul, Int.one_mul, Int.mul_one, if_true, if_false, not_true_eq_false, not_false_eq_true]
  refine zz_Ei (fun h => zz_Er (by rw [zz_b_f (fun q => q.1 h)])) (fun g1 => ?_)
  refine zz_Ei (fun h => zz_Er (by rw [zz_b_f (fun q => q.2.1 h)])) (fun g2 => ?_)
  refine zz_Ei (fun h => zz_Er (by rw [zz_b_f (by omega)])) (fun g3 => zz_Er (by rw [zz_b_t ⟨g1, g2, by omega⟩]))
theorem zv_smA_ok {e col : Int} (hA : zz_ok Y A) (hk : zk_mp V k (A 0 * A 1)) (he : zk_mp V e (A 0 * A 1)) : zz_ok Y (zv_smA V A k e col) := by
  have hn := hA.n
  refine zz_ok_h hA (fun y hy => if_neg (by omega)) (fun c c0 c1 => ?_)
  have e8 : zv_smA V A k e col (8 + c) = A (8 + c) := if_neg (by omega)
  rw [e8]
  refine ⟨(hA.2.2.2.2.2.2.2.1 c c0 c1).1, ?_⟩
  have m1 := hk.2 c c0 (by rw [hk.1]; exact c1)
  have m2 := he.2 c c0 (by rw [he.1]; exact c1)
  unfold zk_mo at m1 m2
  unfold zv_smA
  rw [if_pos (by omega), show 24 + c - 24 = c by omega]
  by_cases q : c % A 1 < col
  · rw [if_pos q]
    split <;> omega
  · rw [if_neg q]
    split <;> omega
theorem c_111l {col jn N C : Int} {q1 q2 : Nat} {S1 S2 F : Int → Int} {Q : Option mv_V × mv_S → Prop} (hL : ZL T R) (hN : 0 ≤ N ∧ N ≤ 16) (hC : 2 ≤ C ∧ C ≤ 4) (hcl1 : 1 ≤ col) (hcl2 : col < C) (e2 : J 17 2 = N) (hcl : ∀ c, 0 ≤ c → c < N → J 18 c = c % C) (hq1 : Shf q1) (hq2 : Shf q2)
    (k74 : ∀ (O : Int → Int) c, 0 ≤ c → c < N → mv_cax d 74 [.inr (.inr (some q1)), .inl (mv_c c)] (zz_S T (zz_w J 105 O) R G) = some (some (.inl (mv_c (S1 c))), zz_S T (zz_w J 105 O) R G))
    (e74 : ∀ (O : Int → Int) c, 0 ≤ c → c < N → mv_cax d 74 [.inr (.inr (some q2)), .inl (mv_c c)] (zz_S T (zz_w J 105 O) R G) = some (some (.inl (mv_c (S2 c))), zz_S T (zz_w J 105 O) R G))
    (b1 : ∀ c, 0 ≤ c → c < N → -1 ≤ S1 c ∧ S1 c ≤ 9) (b2 : ∀ c, 0 ≤ c → c < N → -1 ≤ S2 c ∧ S2 c ≤ 9) (hd : 1 ≤ d)
    (hFb : ∀ c, 0 ≤ F c ∧ F c ≤ 1) (hF0 : ∀ c, 0 ≤ c → c < N → c % C ≠ col → F c = 0) (hF1 : ∀ c, 1 ≤ c → c < N → c % C = col → F c = if S1 (c - 1) ≠ -1 ∧ S2 c ≠ -1 ∧ 2 < ((S1 (c - 1) - S2 c).natAbs : Int) then 1 else 0)
    (fin : ∀ O : Int → Int, (∀ i, 0 ≤ i → i < N → O i = if i % C < col then S1 i else S2 i) → zz_E (fun n => mv_run (mv_cax d) mm_111 n 121 [(0, .inr (.inr (some 16))), (3, .inl (mv_c col)), (4, .inl (mv_c jn)), (5, .inr (.inr (some q1))), (6, .inr (.inr (some q2))), (7, .inl (mv_c (zz_sum F N))), (8, .inl (mv_c N))] [] (zz_S T (zz_w J 105 O) R G)) Q) :
    zz_E (fun n => mv_run (mv_cax d) mm_111 n 121 [(0, .inr (.inr (some 16))), (3, .inl (mv_c col)), (4, .inl (mv_c jn)), (5, .inr (.inr (some q1))), (6, .inr (.inr (some q2))), (7, .inl (mv_c 0)), (8, .inl (mv_c 0))] [] (zz_S T J R G)) Q := by
  have l := zz_loop (α := Int × (Int → Int)) (run := fun c s n => mv_run (mv_cax d) mm_111 n 121 [(0, .inr (.inr (some 16))), (3, .inl (mv_c col)), (4, .inl (mv_c jn)), (5, .inr (.inr (some q1))), (6, .inr (.inr (some q2))), (7, .inl (mv_c s.1)), (8, .inl (mv_c c))] [] (zz_S T (zz_w J 105 s.2) R G)) (Q := Q) N (fun c s => 0 ≤ c ∧ s.1 = zz_sum F c ∧ ∀ i, 0 ≤ i → i < c → s.2 i = if i % C < col then S1 i else S2 i) ?_ ?_ N.toNat 0 (0, J 105) (by omega) ⟨by omega, rfl, fun i _ _ => by omega⟩
  · have l : zz_E (fun n => mv_run (mv_cax d) mm_111 n 121 [(0, .inr (.inr (some 16))), (3, .inl (mv_c col)), (4, .inl (mv_c jn)), (5, .inr (.inr (some q1))), (6, .inr (.inr (some q2))), (7, .inl (mv_c 0)), (8, .inl (mv_c 0))] [] (zz_S T (zz_w J 105 (J 105)) R G)) Q := l
    rw [zw_i] at l
    exact l
  · rintro c ⟨s, O⟩ ⟨hc, hs1, hO⟩ hlt kk
    have hs1 : s = zz_sum F c := hs1
    subst hs1
    have hO : ∀ i, 0 ≤ i → i < c → O i = if i % C < col then S1 i else S2 i := hO
    have e2' : zz_w J 105 O 17 2 = N := by rw [zw_n (by omega)]; exact e2
    have hcol : ∀ O : Int → Int, zz_w J 105 O 18 c = c % C := fun O => by rw [zw_n (by omega)]; exact hcl c hc hlt
    have hm : 0 ≤ c % C ∧ c % C < C := ⟨Int.emod_nonneg _ (by omega), Int.emod_lt_of_pos _ (by omega)⟩
    have hsb := zz_sum_b (f := F) (a := 0) (b := 1) hc (fun i _ _ => hFb i)
    have hs0 : 0 ≤ zz_sum F c := by omega
    have hs2 : zz_sum F c ≤ 16 := by omega
    have nx : ∀ (v : Int) (x : Int), v = zz_sum F c + F c → x = (if c % C < col then S1 c else S2 c) → zz_E (fun n => mv_run (mv_cax d) mm_111 n 121 [(0, .inr (.inr (some 16))), (3, .inl (mv_c col)), (4, .inl (mv_c jn)), (5, .inr (.inr (some q1))), (6, .inr (.inr (some q2))), (7, .inl (mv_c v)), (8, .inl (mv_c (c + 1)))] [] (zz_S T (zz_w J 105 (zz_f O c x)) R G)) Q := by
      intro v x hv hx
      refine kk (v, zz_f O c x) ⟨by omega, by show v = _; rw [hv, zz_sum1 hc], fun i i0 i1 => ?_⟩
      show zz_f O c x i = _
      by_cases q : i = c
      · rw [q, zf_s, hx]
      · rw [zf_n q]
        exact hO i i0 (by omega)
    clear kk fin
    have kc := k74 O c hc hlt
    have ec := e74 O c hc hlt
    have bb1 := b1 c hc hlt
    have bb2 := b2 c hc hlt
    refine zz_Es (fun n => e_111_121 _ _ _ _ _ _ _ _) ?_
    simp (maxSteps := 5000000) (disch := first | assumption | omega) only [zr_16_0, zg_L_2, zr_L_8, za_L_1, e2', hcol, zz_0, zz_31, zz_add, zz_sub, zz_mul, zz_neg, zz_lt, zz_le, zz_eq, zz_div, zz_md, zz_dv, zz_abs, zz_max, zz_min, zz_nI, zz_be0, zz_be1, zz_zb, zz_z, zz_l0, zz_l, zz_lcmp, zo_rf, zo_nl, zo_nn, zo_rI, zo_rL, zo_rR, zo_rV, Int.add_zero, Int.zero_add, Int.mul_zero, Int.zero_mul, Int.one_mul, Int.mul_one, if_true, if_false, not_true_eq_false, not_false_eq_true]
    refine zz_Ei (fun h => absurd h (by omega)) (fun _ => ?_)
    refine zz_Ei (fun hge => ?_) (fun hlt' => ?_)
    · have ev : S2 c = (if c % C < col then S1 c else S2 c) := by rw [if_neg (by omega)]
      refine zz_Es (fun n => e_111_152 _ _ _ _ _ _ _ _ _) ?_
      by_cases hq' : c % C = col
      · have hc1' : 1 ≤ c := by
          rcases Int.lt_or_le 0 c with q | q
          · omega
          · have : c = 0 := by omega
            rw [this, Int.zero_emod] at hq'
            omega
        have hFv := hF1 c hc1' hlt hq'
        have hO1 : O (c - 1) = S1 (c - 1) := by
          rw [hO (c - 1) (by omega) (by omega), if_pos]
          rcases (show C = 2 ∨ C = 3 ∨ C = 4 by omega) with q | q | q <;> rw [q] at hq' ⊢ <;> omega
        have bb3 := b1 (c - 1) (by omega) (by omega)
        have c129 := c_129 (x := S1 (c - 1)) (y := S2 c) (d := d) (σ := zz_S T (zz_w J 105 (zz_f O c (S2 c))) R G) (by omega) (by omega) (by omega)
        by_cases hst : S1 (c - 1) ≠ -1 ∧ S2 c ≠ -1 ∧ 2 < ((S1 (c - 1) - S2 c).natAbs : Int)
        · rw [zz_b_t hst] at c129
          rw [if_pos hst] at hFv
          clear hst
          simp (maxSteps := 5000000) (disch := first | assumption | omega) only [zr_16_0, zr_16_9, zr_L_8, za_L_1, za_105, zs_105, zi_H, ec, zz_wu, hcol, zw_s, zf_n, zf_s, hO1, c129, zz_0, zz_31, zz_add, zz_sub, zz_mul, zz_neg, zz_lt, zz_le, zz_eq, zz_div, zz_md, zz_dv, zz_abs, zz_max, zz_min, zz_nI, zz_be0, zz_be1, zz_zb, zz_z, zz_l0, zz_l, zz_lcmp, zo_rf, zo_nl, zo_nn, zo_rI, zo_rL, zo_rR, zo_rV, Int.add_zero, Int.zero_add, Int.mul_zero, Int.zero_mul, Int.one_mul, Int.mul_one, if_true, if_false, not_true_eq_false, not_false_eq_true]
          refine zz_Ei (fun _ => ?_) (fun h => absurd hq' h)
          refine zz_Ei (fun h => absurd h (by omega)) (fun _ => ?_)
          try (refine zz_Ei (fun h => absurd (show (1 : Int) = 0 from h) (by omega)) (fun _ => ?_))
          exact nx _ _ (by rw [hFv]) ev
        · rw [zz_b_f hst] at c129
          rw [if_neg hst] at hFv
          clear hst
          simp (maxSteps := 5000000) (disch := first | assumption | omega) only [zr_16_0, zr_16_9, zr_L_8, za_L_1, za_105, zs_105, zi_H, ec, zz_wu, hcol, zw_s, zf_n, zf_s, hO1, c129, zz_0, zz_31, zz_add, zz_sub, zz_mul, zz_neg, zz_lt, zz_le, zz_eq, zz_div, zz_md, zz_dv, zz_abs, zz_max, zz_min, zz_nI, zz_be0, zz_be1, zz_zb, zz_z, zz_l0, zz_l, zz_lcmp, zo_rf, zo_nl, zo_nn, zo_rI, zo_rL, zo_rR, zo_rV, Int.add_zero, Int.zero_add, Int.mul_zero, Int.zero_mul, Int.one_mul, Int.mul_one, if_true, if_false, not_true_eq_false, not_false_eq_true]
          refine zz_Ei (fun _ => ?_) (fun h => absurd hq' h)
          refine zz_Ei (fun h => absurd h (by omega)) (fun _ => ?_)
          exact nx _ _ (by rw [hFv, Int.add_zero]) ev
      · simp (maxSteps := 5000000) (disch := first | assumption | omega) only [zr_16_0, zr_16_9, zr_L_8, za_L_1, zs_105, zi_H, ec, zz_wu, hcol, zz_0, zz_31, zz_add, zz_sub, zz_mul, zz_neg, zz_lt, zz_le, zz_eq, zz_div, zz_md, zz_dv, zz_abs, zz_max, zz_min, zz_nI, zz_be0, zz_be1, zz_zb, zz_z, zz_l0, zz_l, zz_lcmp, zo_rf, zo_nl, zo_nn, zo_rI, zo_rL, zo_rR, zo_rV, Int.add_zero, Int.zero_add, Int.mul_zero, Int.zero_mul, Int.one_mul, Int.mul_one, if_true, if_false, not_true_eq_false, not_false_eq_true]
        refine zz_Ei (fun h => absurd h hq') (fun _ => ?_)
        exact nx _ _ (by rw [hF0 c hc hlt hq', Int.add_zero]) ev
    · have ev : S1 c = (if c % C < col then S1 c else S2 c) := by rw [if_pos (by omega)]
      refine zz_Es (fun n => e_111_152 _ _ _ _ _ _ _ _ _) ?_
      simp (maxSteps := 5000000) (disch := first | assumption | omega) only [zr_16_0, zr_16_9, zr_L_8, za_L_1, zs_105, zi_H, kc, zz_wu, hcol, zz_0, zz_31, zz_add, zz_sub, zz_mul, zz_neg, zz_lt, zz_le, zz_eq, zz_div, zz_md, zz_dv, zz_abs, zz_max, zz_min, zz_nI, zz_be0, zz_be1, zz_zb, zz_z, zz_l0, zz_l, zz_lcmp, zo_rf, zo_nl, zo_nn, zo_rI, zo_rL, zo_rR, zo_rV, Int.add_zero, Int.zero_add, Int.mul_zero, Int.zero_mul, Int.one_mul, Int.mul_one, if_true, if_false, not_true_eq_false, not_false_eq_true]
      try (refine zz_Ei (fun h => absurd (show (1 : Int) = 0 from h) (by omega)) (fun _ => ?_))
      refine zz_Ei (fun h => absurd h (by omega)) (fun _ => ?_)
      exact nx _ _ (by rw [hF0 c hc hlt (by omega), Int.add_zero]) ev
  · rintro ⟨s, O⟩ ⟨_, hs1, hO⟩
    have hs1 : s = zz_sum F N := hs1
    subst hs1
    exact fin O hO
set_option maxHeartbeats 8000000 in
theorem c_111 {e col jn : Int} (hd : 4 ≤ d) (hL : ZL T R) (hA : zz_ok Y A) (hR : zc_rep T R J 17 A) (hraw : ∀ p, Lnd p → zk_raw T R J p) (hs : zk_sh T R J V) (h1 : zk_r32 k) (h2 : zk_r32 e) (h3 : zk_r32 col) (h4 : jn = 0 ∨ jn = 1) : ∃ J', mv_cax d 111 [.inr (.inr (some 16)), .inl (mv_c k), .inl (mv_c e), .inl (mv_c col), .inl (mv_c jn)] (zz_S T J R G) = some (some (.inl (mv_c (zv_seam V A k e col jn).1)), zz_S T J' R G) ∧ zk_op T R R J J' (zv_seam V A k e col jn).2 ∧ zz_ok Y (zv_seam V A k e col jn).2 := by
  have hn := hA.n
  have h01 := hA.1
  have o0 : zk_op T R R J J A := zk_op_0 hraw hR (fun _ _ => rfl) ⟨rfl, rfl, rfl⟩
  obtain ⟨h1, h1'⟩ := h1
  obtain ⟨h2, h2'⟩ := h2
  obtain ⟨h3, h3'⟩ := h3
  have e2 : J 17 2 = A 0 * A 1 := hR.1.1.2.2
  have e1 : J 17 1 = A 1 := hR.1.1.2.1
  have ck := c_126 (T := T) (J := J) (R := R) (G := G) (d := d - 1) (k := k) (by omega) hL h1 h1'
  have ce := c_126 (T := T) (J := J) (R := R) (G := G) (d := d - 1) (k := e) (by omega) hL h2 h2'
  by_cases hP1 : (0 ≤ k ∧ k < 8) ∧ (0 ≤ e ∧ e < 8) ∧ 1 ≤ col ∧ col < A 1
  · obtain ⟨hk, he, hc1, hc2⟩ := id hP1
    rw [if_pos hk] at ck
    rw [if_pos he] at ce
    have hq := zk_q hk.1 hk.2
    have q16 := zk_q16 hq
    have hqe := zk_q he.1 he.2
    have qe16 := zk_q16 hqe
    have hsk := hs k hk.1 hk.2
    have hse := hs e he.1 he.2
    have k64 := c_64 (T := T) (J := J) (V := V) (R := R) (G := G) (d := d - 1) (k := k) (by omega) hL hq hsk
    have e64 := c_64 (T := T) (J := J) (V := V) (R := R) (G := G) (d := d - 1) (k := e) (by omega) hL hqe hse
    have k65 := c_65 (T := T) (J := J) (V := V) (R := R) (G := G) (d := d - 1) (k := k) (s := 0) (by omega) hL hq hsk (by omega) (by omega)
    have e65 := c_65 (T := T) (J := J) (V := V) (R := R) (G := G) (d := d - 1) (k := e) (s := 0) (by omega) hL hqe hse (by omega) (by omega)
    by_cases hP2 : V 135 k = 0 ∨ V 135 e = 0
    · rw [zv_seam, if_pos hP1, if_pos hP2]
      refine ⟨J, ?_, o0, hA⟩
      by_cases hk0 : V 135 k = 0
      · rw [zz_b_t hk0] at k64
        refine zz_c (zz_call (by omega) t_111 rfl (fun n => e_111 _ _ _ _ _ _) ?_)
        simp (maxSteps := 5000000) (disch := first | assumption | omega) only [zi_H, ck, ce, e1, k64, zr_16_0, zr_16_1, zr_16_2, zr_16_3, zr_16_7, zr_16_8, zr_16_9, zi_16, zi_L, zi_H, zi_73, zi_78, zg_L_0, zg_L_1, zg_L_2, zg_L_3, zg_L_4, zg_L_5, zg_L_6, zg_L_7, zz_0, zz_31, zz_add, zz_sub, zz_mul, zz_neg, zz_lt, zz_le, zz_eq, zz_div, zz_md, zz_dv, zz_abs, zz_max, zz_min, zz_nI, zz_be0, zz_be1, zz_zb, zz_z, zz_l0, zz_l, zz_lcmp, zo_rf, zo_nl, zo_nn, zo_rI, zo_rL, zo_rR, zo_rV, Int.add_zero, Int.zero_add, Int.mul_zero, Int.zero_mul, Int.one_mul, Int.mul_one, if_true, if_false, not_true_eq_false, not_false_eq_true]
        refine zz_Ei (fun h => absurd h (by omega)) (fun _ => ?_)
        refine zz_Ei (fun _ => ?_) (fun h => absurd hc2 h)
        try (refine zz_Ei (fun h => absurd (show (1 : Int) = 0 from h) (by omega)) (fun _ => ?_))
        exact zz_Er rfl
      · have he0 : V 135 e = 0 := by omega
        rw [zz_b_f hk0] at k64
        rw [zz_b_t he0] at e64
        refine zz_c (zz_call (by omega) t_111 rfl (fun n => e_111 _ _ _ _ _ _) ?_)
        simp (maxSteps := 5000000) (disch := first | assumption | omega) only [zi_H, ck, ce, e1, k64, e64, zr_16_0, zr_16_1, zr_16_2, zr_16_3, zr_16_7, zr_16_8, zr_16_9, zi_16, zi_L, zi_H, zi_73, zi_78, zg_L_0, zg_L_1, zg_L_2, zg_L_3, zg_L_4, zg_L_5, zg_L_6, zg_L_7, zz_0, zz_31, zz_add, zz_sub, zz_mul, zz_neg, zz_lt, zz_le, zz_eq, zz_div, zz_md, zz_dv, zz_abs, zz_max, zz_min, zz_nI, zz_be0, zz_be1, zz_zb, zz_z, zz_l0, zz_l, zz_lcmp, zo_rf, zo_nl, zo_nn, zo_rI, zo_rL, zo_rR, zo_rV, Int.add_zero, Int.zero_add, Int.mul_zero, Int.zero_mul, Int.one_mul, Int.mul_one, if_true, if_false, not_true_eq_false, not_false_eq_true]
        refine zz_Ei (fun h => absurd h (by omega)) (fun _ => ?_)
        refine zz_Ei (fun _ => ?_) (fun h => absurd hc2 h)
        try (refine zz_Ei (fun h => absurd (show (1 : Int) = 0 from h) (by omega)) (fun _ => ?_))
        exact zz_Er rfl
    · rw [zz_b_f (fun q => hP2 (Or.inl q))] at k64
      rw [zz_b_f (fun q => hP2 (Or.inr q))] at e64
      by_cases hP3 : (V 135 k = 2 ∧ V 136 k = 0) ∧ V 135 e = 2 ∧ V 136 e = 0
      · rw [zz_b_t hP3.1] at k65
        rw [zz_b_t hP3.2] at e65
        have hrk := zk_sq2 hsk hP3.1.1
        have hre := zk_sq2 hse hP3.2.1
        have k73 := c_73 (T := T) (J := J) (V := V) (R := R) (G := G) (d := d - 1) (k := k) (n := A 0 * A 1) (by omega) hL hq hrk (by omega) (by omega)
        have e73 := c_73 (T := T) (J := J) (V := V) (R := R) (G := G) (d := d - 1) (k := e) (n := A 0 * A 1) (by omega) hL hqe hre (by omega) (by omega)
        by_cases hP4 : zk_mp V k (A 0 * A 1) ∧ zk_mp V e (A 0 * A 1)
        · rw [zz_b_t hP4.1] at k73
          rw [zz_b_t hP4.2] at e73
          obtain ⟨mk, me⟩ := hP4
          rw [zv_seam, if_pos hP1, if_neg hP2, if_pos hP3, if_pos ⟨mk, me⟩]
          have hC : 2 ≤ A 1 ∧ A 1 ≤ 4 := ⟨h01.2.2.1, h01.2.2.2⟩
          obtain ⟨S, hS⟩ : ∃ S : Int → Int → Int, S = fun k c => if V 138 (100 * k + c) = 99 then -1 else V 138 (100 * k + c) := ⟨_, rfl⟩
          have hSb : ∀ c, 0 ≤ c → c < A 0 * A 1 → (-1 ≤ S k c ∧ S k c ≤ 9 ∧ (S k c = -1 ↔ V 138 (100 * k + c) = 99) ∧ (V 138 (100 * k + c) ≠ 99 → S k c = V 138 (100 * k + c))) ∧ (-1 ≤ S e c ∧ S e c ≤ 9 ∧ (S e c = -1 ↔ V 138 (100 * e + c) = 99) ∧ (V 138 (100 * e + c) ≠ 99 → S e c = V 138 (100 * e + c))) := by
            intro c c0 c1
            have m1 := mk.2 c c0 (by rw [mk.1]; exact c1)
            have m2 := me.2 c c0 (by rw [me.1]; exact c1)
            unfold zk_mo at m1 m2
            rw [hS]
            refine ⟨?_, ?_⟩
            · show -1 ≤ (if V 138 (100 * k + c) = 99 then -1 else V 138 (100 * k + c)) ∧ (if V 138 (100 * k + c) = 99 then -1 else V 138 (100 * k + c)) ≤ 9 ∧ ((if V 138 (100 * k + c) = 99 then -1 else V 138 (100 * k + c)) = -1 ↔ _) ∧ (_ → (if V 138 (100 * k + c) = 99 then -1 else V 138 (100 * k + c)) = _)
              split <;> omega
            · show -1 ≤ (if V 138 (100 * e + c) = 99 then -1 else V 138 (100 * e + c)) ∧ (if V 138 (100 * e + c) = 99 then -1 else V 138 (100 * e + c)) ≤ 9 ∧ ((if V 138 (100 * e + c) = 99 then -1 else V 138 (100 * e + c)) = -1 ↔ _) ∧ (_ → (if V 138 (100 * e + c) = 99 then -1 else V 138 (100 * e + c)) = _)
              split <;> omega
          have k74 : ∀ (O : Int → Int) c, 0 ≤ c → c < A 0 * A 1 → mv_cax (d - 1) 74 [.inr (.inr (some (115 + 2 * k.toNat))), .inl (mv_c c)] (zz_S T (zz_w J 105 O) R G) = some (some (.inl (mv_c (S k c))), zz_S T (zz_w J 105 O) R G) := fun O c c0 c1 => by
            rw [hS]
            exact c_74 (by omega) hL hq (zk_ro_f hrk (zw_n (by omega)) (zw_n (by omega))) c0 (by rw [mk.1]; exact c1)
          have e74 : ∀ (O : Int → Int) c, 0 ≤ c → c < A 0 * A 1 → mv_cax (d - 1) 74 [.inr (.inr (some (115 + 2 * e.toNat))), .inl (mv_c c)] (zz_S T (zz_w J 105 O) R G) = some (some (.inl (mv_c (S e c))), zz_S T (zz_w J 105 O) R G) := fun O c c0 c1 => by
            rw [hS]
            exact c_74 (by omega) hL hqe (zk_ro_f hre (zw_n (by omega)) (zw_n (by omega))) c0 (by rw [me.1]; exact c1)
          -- what one cell adds
          obtain ⟨F, hF⟩ : ∃ F : Int → Int, F = fun c => if c % A 1 = col then zv_st (V 138 (100 * k + (c - 1))) (V 138 (100 * e + c)) else 0 := ⟨_, rfl⟩
          have hsum : zz_sum F (A 0 * A 1) = zz_sum (fun r => zv_st (V 138 (100 * k + (r * A 1 + col - 1))) (V 138 (100 * e + (r * A 1 + col)))) (A 0) := by
            rw [hF]
            exact zk_cols (f := fun c => zv_st (V 138 (100 * k + (c - 1))) (V 138 (100 * e + c))) hC (by omega) hc2 (by omega)
          have hFb : ∀ c, 0 ≤ F c ∧ F c ≤ 1 := by
            intro c
            rw [hF]
            show 0 ≤ (if c % A 1 = col then zv_st (V 138 (100 * k + (c - 1))) (V 138 (100 * e + c)) else 0) ∧ (if c % A 1 = col then zv_st (V 138 (100 * k + (c - 1))) (V 138 (100 * e + c)) else 0) ≤ 1
            unfold zv_st
            split
            · split <;> omega
            · omega
          have hrc := hR.1.2.1
          suffices hx : ∃ r, mv_cax d 111 [.inr (.inr (some 16)), .inl (mv_c k), .inl (mv_c e), .inl (mv_c col), .inl (mv_c jn)] (zz_S T J R G) = some r ∧ ∃ J', r = (some (.inl (mv_c (zz_sum F (A 0 * A 1)))), zz_S T J' R G) ∧ zk_op T R R J J' (@ite _ (jn = 0) (Classical.propDecidable _) A (zv_smA V A k e col)) by
            obtain ⟨r, g1, J', rfl, g2⟩ := hx
            rw [hsum] at g1
            refine ⟨J', g1, g2, ?_⟩
            show zz_ok Y (@ite _ (jn = 0) (Classical.propDecidable _) A (zv_smA V A k e col))
            split
            · exact hA
            · exact zv_smA_ok hA mk me
          refine zz_call (by omega) t_111 rfl (fun n => e_111 _ _ _ _ _ _) ?_
          obtain ⟨Q, hQ⟩ : ∃ Q : Option mv_V × mv_S → Prop, Q = fun r => ∃ J', r = (some (.inl (mv_c (zz_sum F (A 0 * A 1)))), zz_S T J' R G) ∧ zk_op T R R J J' (@ite _ (jn = 0) (Classical.propDecidable _) A (zv_smA V A k e col)) := ⟨_, rfl⟩
          rw [← hQ]
          simp (maxSteps := 5000000) (disch := first | assumption | omega) only [zi_H, ck, ce, e1, k64, e64, k65, e65, e2, k73, e73, zr_16_0, zr_16_1, zr_16_2, zr_16_3, zr_16_7, zr_16_8, zr_16_9, zi_16, zi_L, zi_H, zi_73, zi_78, zg_L_0, zg_L_1, zg_L_2, zg_L_3, zg_L_4, zg_L_5, zg_L_6, zg_L_7, zz_0, zz_31, zz_add, zz_sub, zz_mul, zz_neg, zz_lt, zz_le, zz_eq, zz_div, zz_md, zz_dv, zz_abs, zz_max, zz_min, zz_nI, zz_be0, zz_be1, zz_zb, zz_z, zz_l0, zz_l, zz_lcmp, zo_rf, zo_nl, zo_nn, zo_rI, zo_rL, zo_rR, zo_rV, Int.add_zero, Int.zero_add, Int.mul_zero, Int.zero_mul, Int.one_mul, Int.mul_one, if_true, if_false, not_true_eq_false, not_false_eq_true]
          refine zz_Ei (fun h => absurd h (by omega)) (fun _ => ?_)
          refine zz_Ei (fun _ => ?_) (fun h => absurd hc2 h)
          try (refine zz_Ei (fun h => absurd (show (1 : Int) = 0 from h) (by omega)) (fun _ => ?_))
          try (refine zz_Ei (fun h => absurd (show (1 : Int) = 0 from h) (by omega)) (fun _ => ?_))
          try (refine zz_Ei (fun h => absurd (show (1 : Int) = 0 from h) (by omega)) (fun _ => ?_))
          try (refine zz_Ei (fun h => absurd (show (1 : Int) = 0 from h) (by omega)) (fun _ => ?_))
          have hF0 : ∀ c, 0 ≤ c → c < A 0 * A 1 → c % A 1 ≠ col → F c = 0 := fun c _ _ h => by rw [hF]; exact if_neg h
          have hF1 : ∀ c, 1 ≤ c → c < A 0 * A 1 → c % A 1 = col → F c = (if S k (c - 1) ≠ -1 ∧ S e c ≠ -1 ∧ 2 < ((S k (c - 1) - S e c).natAbs : Int) then 1 else 0) := by
            intro c hc hlt h
            have b1 := (hSb (c - 1) (by omega) (by omega)).1
            have b2 := (hSb c (by omega) hlt).2
            rw [hF]
            show (if c % A 1 = col then zv_st (V 138 (100 * k + (c - 1))) (V 138 (100 * e + c)) else 0) = _
            rw [if_pos h]
            unfold zv_st
            by_cases q1 : V 138 (100 * k + (c - 1)) = 99
            · rw [if_neg (fun q => q.1 q1), if_neg (fun q => q.1 (b1.2.2.1.mpr q1))]
            · by_cases q2 : V 138 (100 * e + c) = 99
              · rw [if_neg (fun q => q.2.1 q2), if_neg (fun q => q.2.1 (b2.2.2.1.mpr q2))]
              · rw [b1.2.2.2 q1, b2.2.2.2 q2]
                by_cases q3 : 2 < ((V 138 (100 * k + (c - 1)) - V 138 (100 * e + c)).natAbs : Int)
                · rw [if_pos ⟨q1, q2, q3⟩, if_pos ⟨fun q => q1 (b1.2.2.1.mp (by rw [b1.2.2.2 q1]; exact q)), fun q => q2 (b2.2.2.1.mp (by rw [b2.2.2.2 q2]; exact q)), q3⟩]
                · rw [if_neg (fun q => q3 q.2.2), if_neg (fun q => q3 q.2.2)]
          refine c_111l (S1 := S k) (S2 := S e) (F := F) hL ⟨by omega, hn.2⟩ hC hc1 hc2 e2 (fun c c0 c1 => (hrc c c0 c1).1) hq hqe k74 e74 (fun c c0 c1 => ⟨(hSb c c0 c1).1.1, (hSb c c0 c1).1.2.1⟩) (fun c c0 c1 => ⟨(hSb c c0 c1).2.1, (hSb c c0 c1).2.2.1⟩) (by omega) hFb hF0 hF1 ?_
          · intro O hO
            have e2' : zz_w J 105 O 17 2 = A 0 * A 1 := by rw [zw_n (by omega)]; exact e2
            refine zz_Es (fun n => e_111_121 _ _ _ _ _ _ _ _) ?_
            rcases h4 with rfl | rfl
            · simp (maxSteps := 5000000) (disch := first | assumption | omega) only [e2', zr_16_0, zr_16_1, zr_16_2, zr_16_3, zr_16_7, zr_16_8, zr_16_9, zi_16, zi_L, zi_H, zi_73, zi_78, zg_L_0, zg_L_1, zg_L_2, zg_L_3, zg_L_4, zg_L_5, zg_L_6, zg_L_7, zz_0, zz_31, zz_add, zz_sub, zz_mul, zz_neg, zz_lt, zz_le, zz_eq, zz_div, zz_md, zz_dv, zz_abs, zz_max, zz_min, zz_nI, zz_be0, zz_be1, zz_zb, zz_z, zz_l0, zz_l, zz_lcmp, zo_rf, zo_nl, zo_nn, zo_rI, zo_rL, zo_rR, zo_rV, Int.add_zero, Int.zero_add, Int.mul_zero, Int.zero_mul, Int.one_mul, Int.mul_one, if_true, if_false, not_true_eq_false, not_false_eq_true]
              refine zz_Ei (fun _ => ?_) (fun h => absurd (Int.le_refl _) h)
              rw [hQ]
              exact zz_Er ⟨_, rfl, by rw [if_pos rfl]; exact zk_op_0 hraw (zc_rep_f hR (fun x hx => zw_n (by omega))) (fun x hx => zw_n (by omega)) ⟨zw_n (by omega), zw_n (by omega), zw_n (by omega)⟩⟩
            · obtain ⟨J2, cp, f2, v2⟩ := zk_cpx (T := T) (J := zz_w J 105 O) (R := R) (G := G) (a := 105) (b := 17 + 5) (n := 16) (by omega) (by omega) (hL.at 89 (by rfl)) (zz_Lt5 hL (by omega)) rfl (by omega)
              simp (maxSteps := 5000000) (disch := first | assumption | omega) only [zr_L_12, e2', cp, zr_16_0, zr_16_1, zr_16_2, zr_16_3, zr_16_7, zr_16_8, zr_16_9, zi_16, zi_L, zi_H, zi_73, zi_78, zg_L_0, zg_L_1, zg_L_2, zg_L_3, zg_L_4, zg_L_5, zg_L_6, zg_L_7, zz_0, zz_31, zz_add, zz_sub, zz_mul, zz_neg, zz_lt, zz_le, zz_eq, zz_div, zz_md, zz_dv, zz_abs, zz_max, zz_min, zz_nI, zz_be0, zz_be1, zz_zb, zz_z, zz_l0, zz_l, zz_lcmp, zo_rf, zo_nl, zo_nn, zo_rI, zo_rL, zo_rR, zo_rV, Int.add_zero, Int.zero_add, Int.mul_zero, Int.zero_mul, Int.one_mul, Int.mul_one, if_true, if_false, not_true_eq_false, not_false_eq_true]
              refine zz_Ei (fun _ => ?_) (fun h => absurd (Int.le_refl _) h)
              try (refine zz_Ei (fun h => absurd (show (1 : Int) = 0 from h) (by omega)) (fun _ => ?_))
              rw [hQ]
              refine zz_Er ⟨J2, rfl, ?_⟩
              rw [if_neg (by omega)]
              have hps := hR.2.1
              have hp' : ∀ x, x ≠ 22 → x ≠ 105 → J2 x = J x := fun x x1 x2 => by rw [f2 x x1, zw_n x2]
              have u : ∀ y, y < 24 → zv_smA V A k e col y = A y := fun y hy => if_neg (by omega)
              refine zk_op_0 hraw (zc_rep_m (by omega) hR (fun y hy => if_neg (by omega)) (fun x x1 _ _ x4 => hp' x (by omega) (by omega)) (fun y _ _ _ => by rw [hp' 17 (by omega) (by omega)]) ⟨?_, ?_, ?_⟩ (fun c c0 c1 => ?_) (fun c c0 c1 => ?_)) (fun x hx => hp' x (by omega) (by omega)) ⟨hp' 23 (by omega) (by omega), hp' 36 (by omega) (by omega), hp' 49 (by omega) (by omega)⟩
              · rw [hp' 17 (by omega) (by omega), u 2 (by omega)]; exact hps.2.1
              · rw [hp' 17 (by omega) (by omega), u 3 (by omega)]; exact hps.2.2.1
              · rw [hp' 17 (by omega) (by omega), u 4 (by omega)]; exact hps.2.2.2.1
              · rw [hp' _ (by omega) (by omega), u (8 + c) (by omega)]; exact (hR.2.2.1 c c0 c1).1
              · rw [v2 c c0 (by omega), zw_s, hO c c0 c1]
                have b := hSb c c0 c1
                have m1 := mk.2 c c0 (by rw [mk.1]; exact c1)
                have m2 := me.2 c c0 (by rw [me.1]; exact c1)
                unfold zk_mo at m1 m2
                unfold zv_smA zc_sd
                rw [if_pos (show 24 ≤ 24 + c ∧ 24 + c < 24 + A 0 * A 1 by omega), show 24 + c - 24 = c by omega]
                by_cases q : c % A 1 < col
                · rw [if_pos q, if_pos q]
                  by_cases q' : V 138 (100 * k + c) = 99
                  · rw [if_pos q', if_pos (by omega)]; exact b.1.2.2.1.mpr q'
                  · rw [if_neg q', if_neg (by omega)]; exact b.1.2.2.2 q'
                · rw [if_neg q, if_neg q]
                  by_cases q' : V 138 (100 * e + c) = 99
                  · rw [if_pos q', if_pos (by omega)]; exact b.2.2.2.1.mpr q'
                  · rw [if_neg q', if_neg (by omega)]; exact b.2.2.2.2 q'
        · rw [zv_seam, if_pos hP1, if_neg hP2, if_pos hP3, if_neg hP4]
          refine ⟨J, ?_, o0, hA⟩
          by_cases mk : zk_mp V k (A 0 * A 1)
          · rw [zz_b_t mk] at k73
            rw [zz_b_f (fun q => hP4 ⟨mk, q⟩)] at e73
            refine zz_c (zz_call (by omega) t_111 rfl (fun n => e_111 _ _ _ _ _ _) ?_)
            simp (maxSteps := 5000000) (disch := first | assumption | omega) only [zi_H, ck, ce, e1, k64, e64, k65, e65, e2, k73, e73, zr_16_0, zr_16_1, zr_16_2, zr_16_3, zr_16_7, zr_16_8, zr_16_9, zi_16, zi_L, zi_H, zi_73, zi_78, zg_L_0, zg_L_1, zg_L_2, zg_L_3, zg_L_4, zg_L_5, zg_L_6, zg_L_7, zz_0, zz_31, zz_add, zz_sub, zz_mul, zz_neg, zz_lt, zz_le, zz_eq, zz_div, zz_md, zz_dv, zz_abs, zz_max, zz_min, zz_nI, zz_be0, zz_be1, zz_zb, zz_z, zz_l0, zz_l, zz_lcmp, zo_rf, zo_nl, zo_nn, zo_rI, zo_rL, zo_rR, zo_rV, Int.add_zero, Int.zero_add, Int.mul_zero, Int.zero_mul, Int.one_mul, Int.mul_one, if_true, if_false, not_true_eq_false, not_false_eq_true]
            refine zz_Ei (fun h => absurd h (by omega)) (fun _ => ?_)
            refine zz_Ei (fun _ => ?_) (fun h => absurd hc2 h)
            try (refine zz_Ei (fun h => absurd (show (1 : Int) = 0 from h) (by omega)) (fun _ => ?_))
            try (refine zz_Ei (fun h => absurd (show (1 : Int) = 0 from h) (by omega)) (fun _ => ?_))
            try (refine zz_Ei (fun h => absurd (show (1 : Int) = 0 from h) (by omega)) (fun _ => ?_))
            exact zz_Er rfl
          · rw [zz_b_f mk] at k73
            refine zz_c (zz_call (by omega) t_111 rfl (fun n => e_111 _ _ _ _ _ _) ?_)
            simp (maxSteps := 5000000) (disch := first | assumption | omega) only [zi_H, ck, ce, e1, k64, e64, k65, e65, e2, k73, zr_16_0, zr_16_1, zr_16_2, zr_16_3, zr_16_7, zr_16_8, zr_16_9, zi_16, zi_L, zi_H, zi_73, zi_78, zg_L_0, zg_L_1, zg_L_2, zg_L_3, zg_L_4, zg_L_5, zg_L_6, zg_L_7, zz_0, zz_31, zz_add, zz_sub, zz_mul, zz_neg, zz_lt, zz_le, zz_eq, zz_div, zz_md, zz_dv, zz_abs, zz_max, zz_min, zz_nI, zz_be0, zz_be1, zz_zb, zz_z, zz_l0, zz_l, zz_lcmp, zo_rf, zo_nl, zo_nn, zo_rI, zo_rL, zo_rR, zo_rV, Int.add_zero, Int.zero_add, Int.mul_zero, Int.zero_mul, Int.one_mul, Int.mul_one, if_true, if_false, not_true_eq_false, not_false_eq_true]
            refine zz_Ei (fun h => absurd h (by omega)) (fun _ => ?_)
            refine zz_Ei (fun _ => ?_) (fun h => absurd hc2 h)
            try (refine zz_Ei (fun h => absurd (show (1 : Int) = 0 from h) (by omega)) (fun _ => ?_))
            try (refine zz_Ei (fun h => absurd (show (1 : Int) = 0 from h) (by omega)) (fun _ => ?_))
            exact zz_Er rfl
      · rw [zv_seam, if_pos hP1, if_neg hP2, if_neg hP3]
        refine ⟨J, ?_, o0, hA⟩
        by_cases mk : V 135 k = 2 ∧ V 136 k = 0
        · rw [zz_b_t mk] at k65
          rw [zz_b_f (fun q => hP3 ⟨mk, q⟩)] at e65
          refine zz_c (zz_call (by omega) t_111 rfl (fun n => e_111 _ _ _ _ _ _) ?_)
          simp (maxSteps := 5000000) (disch := first | assumption | omega) only [zi_H, ck, ce, e1, k64, e64, k65, e65, zr_16_0, zr_16_1, zr_16_2, zr_16_3, zr_16_7, zr_16_8, zr_16_9, zi_16, zi_L, zi_H, zi_73, zi_78, zg_L_0, zg_L_1, zg_L_2, zg_L_3, zg_L_4, zg_L_5, zg_L_6, zg_L_7, zz_0, zz_31, zz_add, zz_sub, zz_mul, zz_neg, zz_lt, zz_le, zz_eq, zz_div, zz_md, zz_dv, zz_abs, zz_max, zz_min, zz_nI, zz_be0, zz_be1, zz_zb, zz_z, zz_l0, zz_l, zz_lcmp, zo_rf, zo_nl, zo_nn, zo_rI, zo_rL, zo_rR, zo_rV, Int.add_zero, Int.zero_add, Int.mul_zero, Int.zero_mul, Int.one_mul, Int.mul_one, if_true, if_false, not_true_eq_false, not_false_eq_true]
          refine zz_Ei (fun h => absurd h (by omega)) (fun _ => ?_)
          refine zz_Ei (fun _ => ?_) (fun h => absurd hc2 h)
          try (refine zz_Ei (fun h => absurd (show (1 : Int) = 0 from h) (by omega)) (fun _ => ?_))
          exact zz_Er rfl
        · rw [zz_b_f mk] at k65
          refine zz_c (zz_call (by omega) t_111 rfl (fun n => e_111 _ _ _ _ _ _) ?_)
          simp (maxSteps := 5000000) (disch := first | assumption | omega) only [zi_H, ck, ce, e1, k64, e64, k65, zr_16_0, zr_16_1, zr_16_2, zr_16_3, zr_16_7, zr_16_8, zr_16_9, zi_16, zi_L, zi_H, zi_73, zi_78, zg_L_0, zg_L_1, zg_L_2, zg_L_3, zg_L_4, zg_L_5, zg_L_6, zg_L_7, zz_0, zz_31, zz_add, zz_sub, zz_mul, zz_neg, zz_lt, zz_le, zz_eq, zz_div, zz_md, zz_dv, zz_abs, zz_max, zz_min, zz_nI, zz_be0, zz_be1, zz_zb, zz_z, zz_l0, zz_l, zz_lcmp, zo_rf, zo_nl, zo_nn, zo_rI, zo_rL, zo_rR, zo_rV, Int.add_zero, Int.zero_add, Int.mul_zero, Int.zero_mul, Int.one_mul, Int.mul_one, if_true, if_false, not_true_eq_false, not_false_eq_true]
          refine zz_Ei (fun h => absurd h (by omega)) (fun _ => ?_)
          refine zz_Ei (fun _ => ?_) (fun h => absurd hc2 h)
          exact zz_Er rfl
  · rw [zv_seam, if_neg hP1]
    refine ⟨J, ?_, o0, hA⟩
    by_cases hk : 0 ≤ k ∧ k < 8
    · rw [if_pos hk] at ck
      by_cases he : 0 ≤ e ∧ e < 8
      · rw [if_pos he] at ce
        refine zz_c (zz_call (by omega) t_111 rfl (fun n => e_111 _ _ _ _ _ _) ?_)
        simp (maxSteps := 5000000) (disch := first | assumption | omega) only [ck, ce, e1, zr_16_0, zr_16_1, zr_16_2, zr_16_3, zr_16_7, zr_16_8, zr_16_9, zi_16, zi_L, zi_H, zi_73, zi_78, zg_L_0, zg_L_1, zg_L_2, zg_L_3, zg_L_4, zg_L_5, zg_L_6, zg_L_7, zz_0, zz_31, zz_add, zz_sub, zz_mul, zz_neg, zz_lt, zz_le, zz_eq, zz_div, zz_md, zz_dv, zz_abs, zz_max, zz_min, zz_nI, zz_be0, zz_be1, zz_zb, zz_z, zz_l0, zz_l, zz_lcmp, zo_rf, zo_nl, zo_nn, zo_rI, zo_rL, zo_rR, zo_rV, Int.add_zero, Int.zero_add, Int.mul_zero, Int.zero_mul, Int.one_mul, Int.mul_one, if_true, if_false, not_true_eq_false, not_false_eq_true]
        refine zz_Ei (fun _ => zz_Er rfl) (fun g1 => ?_)
        refine zz_Ei (fun g2 => absurd ⟨hk, he, by omega, g2⟩ hP1) (fun _ => zz_Er rfl)
      · rw [if_neg he] at ce
        refine zz_c (zz_call (by omega) t_111 rfl (fun n => e_111 _ _ _ _ _ _) ?_)
        simp (maxSteps := 5000000) (disch := first | assumption | omega) only [ck, ce, zr_16_0, zr_16_1, zr_16_2, zr_16_3, zr_16_7, zr_16_8, zr_16_9, zi_16, zi_L, zi_H, zi_73, zi_78, zg_L_0, zg_L_1, zg_L_2, zg_L_3, zg_L_4, zg_L_5, zg_L_6, zg_L_7, zz_0, zz_31, zz_add, zz_sub, zz_mul, zz_neg, zz_lt, zz_le, zz_eq, zz_div, zz_md, zz_dv, zz_abs, zz_max, zz_min, zz_nI, zz_be0, zz_be1, zz_zb, zz_z, zz_l0, zz_l, zz_lcmp, zo_rf, zo_nl, zo_nn, zo_rI, zo_rL, zo_rR, zo_rV, Int.add_zero, Int.zero_add, Int.mul_zero, Int.zero_mul, Int.one_mul, Int.mul_one, if_true, if_false, not_true_eq_false, not_false_eq_true]
        exact zz_Er rfl
    · rw [if_neg hk] at ck
      refine zz_c (zz_call (by omega) t_111 rfl (fun n => e_111 _ _ _ _ _ _) ?_)
      simp (maxSteps := 5000000) (disch := first | assumption | omega) only [ck, ce, zr_16_0, zr_16_1, zr_16_2, zr_16_3, zr_16_7, zr_16_8, zr_16_9, zi_16, zi_L, zi_H, zi_73, zi_78, zg_L_0, zg_L_1, zg_L_2, zg_L_3, zg_L_4, zg_L_5, zg_L_6, zg_L_7, zz_0, zz_31, zz_add, zz_sub, zz_mul, zz_neg, zz_lt, zz_le, zz_eq, zz_div, zz_md, zz_dv, zz_abs, zz_max, zz_min, zz_nI, zz_be0, zz_be1, zz_zb, zz_z, zz_l0, zz_l, zz_lcmp, zo_rf, zo_nl, zo_nn, zo_rI, zo_rL, zo_rR, zo_rV, Int.add_zero, Int.zero_add, Int.mul_zero, Int.zero_mul, Int.one_mul, Int.mul_one, if_true, if_false, not_true_eq_false, not_false_eq_true]
      exact zz_Er rfl
end ZSEA
