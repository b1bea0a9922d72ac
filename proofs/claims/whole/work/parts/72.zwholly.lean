/-! PURE LAYER, 52: the class digs wholly -/
section ZWHO
variable {T : List mv_T} {J J' : Nat → Int → Int} {R : Nat → Nat → Option Nat} {G : Nat → Nat → Int64} {d p : Nat} {Y : Int} {A A' : Int → Int}
/-- other heights -/
theorem zc_rep_h (hp : Lnd p) (hR : zc_rep T R J p A) (m : ∀ y, y < 8 ∨ 24 ≤ y → A' y = A y) (hf : ∀ x, ((p ≤ x ∧ x ≤ p + 11) ∨ 156 ≤ x) → x ≠ p + 4 → J' x = J x) (h4 : ∀ c, 0 ≤ c → c < A 0 * A 1 → J' (p + 4) c = A' (8 + c)) : zc_rep T R J' p A' := by
  have hlt : p + 12 < 78 := by rcases hp with rfl | rfl | rfl | rfl <;> omega
  obtain ⟨r1, r2, r3, r4⟩ := hR
  have hcd : ∀ c i, zz_cd A' c i = zz_cd A c i := fun c i => by
    unfold zz_cd
    rw [m 0 (by omega), m 1 (by omega)]
  refine ⟨?_, ?_, ?_, ?_⟩
  · have := zc_geo_f (J' := J') r1 (fun x x1 x2 => hf x (by omega) (by omega))
    unfold zc_geo at this ⊢
    rw [m 0 (by omega), m 1 (by omega)]
    refine ⟨this.1, fun c c0 c1 => ⟨(this.2.1 c c0 c1).1, fun i i0 i1 => by rw [hcd]; exact (this.2.1 c c0 c1).2 i i0 i1⟩, this.2.2⟩
  · rw [hf p (by omega) (by omega), m 5 (by omega), m 2 (by omega), m 3 (by omega), m 4 (by omega), m 7 (by omega)]
    exact r2
  · rw [m 0 (by omega), m 1 (by omega), hf (p + 5) (by omega) (by omega), hf (p + 6) (by omega) (by omega), m 6 (by omega)]
    intro c c0 c1
    have rc := r3 c c0 c1
    rw [m (24 + c) (by omega)]
    exact ⟨h4 c c0 c1, rc.2⟩
  · rw [m 7 (by omega)]
    intro e e0 e1
    obtain ⟨⟨x, q1, q2, q3, q4⟩, q5, q6⟩ := r4 e e0 e1
    unfold zc_dr
    rw [m (40 + 15 * e) (by omega), m (41 + 15 * e) (by omega), m (42 + 15 * e) (by omega), hf (p + 8) (by omega) (by omega), hf (p + 9) (by omega) (by omega), hf (p + 10) (by omega) (by omega), hf (p + 11) (by omega) (by omega)]
    refine ⟨⟨x, q1, q2, q3, ?_⟩, q5, fun w w0 w1 => ?_⟩
    · rw [hf x (by omega) (by omega)]
      exact q4
    · rw [m (43 + 15 * e + 3 * w) (by omega), m (44 + 15 * e + 3 * w) (by omega), m (45 + 15 * e + 3 * w) (by omega)]
      exact q6 w w0 w1
theorem c_15 (hd : 1 ≤ d) (hL : ZL T R) (hp : Lnd p) (hA : zz_ok Y A) (hR : zc_rep T R J p A) (hE : ∀ c, 0 ≤ c → c < A 0 * A 1 → J 79 c = zz_ex A (fun c => A (24 + c)) c) :
    ∃ J', mv_cax d 15 [.inr (.inr (some 78)), .inr (.inr (some p))] (zz_S T J R G) = some (none, zz_S T J' R G) ∧ zc_rep T R J' p (zz_hm A) ∧ (∀ x, x ≠ 78 → x ≠ p + 4 → J' x = J x) ∧ (∀ y, y ≠ 0 → J' 78 y = J 78 y) ∧ J' 78 0 = J 78 0 + zz_sum (fun c => max 0 (zz_ex A (fun c => A (24 + c)) c)) (A 0 * A 1) := by
  have hn := hA.n
  have hpl : p + 12 < 78 := by rcases hp with rfl | rfl | rfl | rfl <;> omega
  have hEb := zz_exr hA
  suffices h : ∃ r, mv_cax d 15 [.inr (.inr (some 78)), .inr (.inr (some p))] (zz_S T J R G) = some r ∧ ∃ J', r = (none, zz_S T J' R G) ∧ zc_rep T R J' p (zz_hm A) ∧ (∀ x, x ≠ 78 → x ≠ p + 4 → J' x = J x) ∧ (∀ y, y ≠ 0 → J' 78 y = J 78 y) ∧ J' 78 0 = J 78 0 + zz_sum (fun c => max 0 (zz_ex A (fun c => A (24 + c)) c)) (A 0 * A 1) by
    obtain ⟨r, h1, J', rfl, h2⟩ := h
    exact ⟨J', h1, h2⟩
  refine zz_call (by omega) t_15 rfl (fun n => e_15 _ _ _) ?_
  refine zz_loop (α := Nat → Int → Int) (run := fun c J' n => mv_run (mv_cax (d - 1)) mm_15 n 2 [(0, .inr (.inr (some 78))), (1, .inr (.inr (some p))), (2, .inl (mv_c c))] [] (zz_S T J' R G)) (A 0 * A 1) (fun c J' => 0 ≤ c ∧ (∀ x, x ≠ 78 → x ≠ p + 4 → J' x = J x) ∧ (∀ y, y ≠ 0 → J' 78 y = J 78 y) ∧ J' 78 0 = J 78 0 + zz_sum (fun c => max 0 (J 79 c)) c ∧ ∀ i, 0 ≤ i → i < A 0 * A 1 → J' (p + 4) i = if i < c then A (8 + i) - J 79 i else A (8 + i)) ?_ ?_ (A 0 * A 1).toNat 0 J (by omega) ⟨by omega, fun _ _ _ => rfl, fun _ _ => rfl, by rw [zz_sum0, Int.add_zero], fun i i0 i1 => ?_⟩
  · rintro c J' ⟨hc, hf, hf2, hs, hh⟩ hlt kk
    have e2 : J' p 2 = A 0 * A 1 := by rw [hf p (by omega) (by omega)]; exact hR.1.1.2.2
    have e79 : J' 79 = J 79 := hf 79 (by omega) (by omega)
    have eb := hEb c hc hlt
    have eE := hE c hc hlt
    have hcc := hh c hc hlt
    rw [if_neg (Int.lt_irrefl c)] at hcc
    have hac := hA.2.2.2.2.2.2.2.1 c hc hlt
    have hs1 := zz_sum1 (f := fun c => max 0 (J 79 c)) hc
    refine zz_Es (fun n => e_15_2 _ _ _ _) ?_
    simp (maxSteps := 5000000) (disch := first | assumption | omega) only [e2, e79, zu_A, hcc, zg_78_0, zp_78_0, zg_78_1, zp_78_1, zr_78_2, zg_78_3, zp_78_3, zg_78_4, zp_78_4, zr_78_5, zr_78_6, zr_78_7, zr_78_8, zr_78_9, zr_78_10, zr_78_11, zr_78_12, zr_78_13, zi_78, za_79, zs_79, zl_79, za_80, zs_80, zl_80, za_81, zs_81, zl_81, za_82, zs_82, zl_82, za_83, zs_83, zl_83, zl_84, za_101, zs_101, zl_101, za_102, zs_102, zl_102, za_103, zs_103, zl_103, za_104, zs_104, zl_104, zg_L_0, zp_L_0, zg_L_1, zp_L_1, zg_L_2, zp_L_2, zg_L_3, zp_L_3, zg_L_4, zp_L_4, zg_L_5, zp_L_5, zg_L_6, zp_L_6, zg_L_7, zp_L_7, zi_L, zr_L_8, za_L_1, zs_L_1, zr_L_9, za_L_2, zs_L_2, zr_L_10, za_L_3, zs_L_3, zr_L_11, za_L_4, zs_L_4, zr_L_12, za_L_5, zs_L_5, zr_L_13, za_L_6, zs_L_6, zr_L_14, za_L_7, zs_L_7, zr_L_15, za_L_8, zs_L_8, zr_L_16, za_L_9, zs_L_9, zr_L_17, za_L_10, zs_L_10, zr_L_18, za_L_11, zs_L_11, zr_L_19, za_L_12, zs_L_12, zr_mv, za_mv, zs_mv, zl_mv, zz_0, zz_31, zz_add, zz_sub, zz_mul, zz_neg, zz_lt, zz_le, zz_eq, zz_div, zz_md, zz_dv, zz_abs, zz_max, zz_min, zz_nI, zz_be0, zz_be1, zz_zb, zz_z, zz_l0, zz_l, zz_lcmp, zo_rf, zo_nl, zo_nn, zo_rI, zo_rL, zo_rR, zo_rV, Int.add_zero, Int.zero_add, Int.mul_zero, Int.zero_mul, Int.one_mul, Int.mul_one, if_true, if_false, not_true_eq_false, not_false_eq_true]
    refine zz_Ei (fun h => absurd h (by omega)) (fun _ => ?_)
    refine kk _ ⟨by omega, fun x x1 x2 => ?_, fun y hy => ?_, ?_, fun i i0 i1 => ?_⟩
    · rw [zu_A x2, zu_A x1]; exact hf x x1 x2
    · rw [zu_A (by omega), zu_k hy]; exact hf2 y hy
    · rw [zu_A (by omega), zu_s, hs1, hs, Int.add_assoc]
    · rw [zz_uw (a := p + 4), zw_s, zu_A (by omega)]
      by_cases e : i = c
      · subst e; rw [zf_s, if_pos (by omega)]
      · rw [zf_n e, hh i i0 i1]
        by_cases q : i < c
        · rw [if_pos q, if_pos (by omega)]
        · rw [if_neg q, if_neg (by omega)]
  · rintro J' ⟨_, hf, hf2, hs, hh⟩
    have e2 : J' p 2 = A 0 * A 1 := by rw [hf p (by omega) (by omega)]; exact hR.1.1.2.2
    refine zz_Es (fun n => e_15_2 _ _ _ _) ?_
    simp (maxSteps := 5000000) (disch := first | assumption | omega) only [zo_rf, zg_L_2, e2, zz_le]
    refine zz_Ei (fun _ => ?_) (fun h => absurd (Int.le_refl _) h)
    refine zz_Er ⟨J', rfl, zc_rep_h hp hR (fun y hy => ?_) (fun x x1 x2 => hf x (by omega) x2) (fun c c0 c1 => ?_), hf, hf2, ?_⟩
    · unfold zz_hm
      exact if_neg (by omega)
    · rw [hh c c0 c1, if_pos c1, hE c c0 c1]
      unfold zz_hm zz_ex
      show A (8 + c) - (if A (24 + c) < 0 then 0 else A (8 + c) - A (24 + c)) = if (8 ≤ 8 + c ∧ 8 + c < 8 + A 0 * A 1) ∧ 0 ≤ A (16 + (8 + c)) then A (16 + (8 + c)) else A (8 + c)
      rw [show 16 + (8 + c) = 24 + c by omega]
      by_cases q : A (24 + c) < 0
      · rw [if_pos q, if_neg (by omega), Int.sub_zero]
      · rw [if_neg q, if_pos (by omega)]
        omega
    · rw [hs]
      congr 1
      exact zz_sum_c (by omega) (fun i i0 i1 => by
        show max 0 (J 79 i) = max 0 (zz_ex A (fun c => A (24 + c)) i)
        rw [hE i i0 i1])
  · rw [if_neg (by omega)]
    exact (hR.2.2.1 i i0 i1).1
end ZWHO
