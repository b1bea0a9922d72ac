/-! PURE LAYER, 79: texts: how they are read; the class reads -/
abbrev zt_dg (B : Int → Int) (N i : Int) : Prop := i < N ∧ 48 ≤ B i ∧ B i ≤ 57
/-- further digits, m at most -/
def zt_nl (B : Int → Int) (N : Int) : Nat → Int → Int → Int × Int
  | 0, i, v => (i, v)
  | m + 1, i, v => if 0 < v ∧ zt_dg B N i then zt_nl B N m (i + 1) (10 * v + B i - 48) else (i, v)
/-- by a form: 68 a digit, 78 a number, else a sign: whether it went, where it stands, the numbers -/
def zt_rd (B : Int → Int) (N : Int) : List Nat → Int → List Int → Bool × Int × List Int
  | [], i, l => (true, i, l)
  | c :: r, i, l => if c = 68 then (if zt_dg B N i then zt_rd B N r (zt_nl B N 0 (i + 1) (B i - 48)).1 (l ++ [(zt_nl B N 0 (i + 1) (B i - 48)).2]) else (false, i, l)) else if c = 78 then (if zt_dg B N i then zt_rd B N r (zt_nl B N 2 (i + 1) (B i - 48)).1 (l ++ [(zt_nl B N 2 (i + 1) (B i - 48)).2]) else (false, i, l)) else if i < N ∧ B i = c then zt_rd B N r (i + 1) l else (false, i, l)
/-- which string a letter's form is -/
def zt_fn (c : Int) : Nat := if c = 115 ∨ c = 100 then 1 else if c = 103 then 2 else if c = 98 ∨ c = 113 ∨ c = 116 then 3 else if c = 108 then 4 else if c = 119 then 5 else 6
/-- a statement at i -/
def zt_sm (B : Int → Int) (N i : Int) : Bool × Int × List Int := if i < N ∧ zt_fn (B i) ≠ 6 then zt_rd B N (mv_str (zt_fn (B i))) (i + 1) [] else (false, i, [])
theorem zt_nl_r {B : Int → Int} {N : Int} : ∀ (m : Nat) (i v : Int), i ≤ N → 0 ≤ v → m ≤ 2 → (v + 1) * 10 ^ m ≤ 1000 → i ≤ (zt_nl B N m i v).1 ∧ (zt_nl B N m i v).1 ≤ N ∧ 0 ≤ (zt_nl B N m i v).2 ∧ (zt_nl B N m i v).2 ≤ 999
  | 0, i, v, h, h0, _, h2 => ⟨Int.le_refl _, h, h0, by show v ≤ 999; omega⟩
  | m + 1, i, v, h, h0, h1, h2 => by
    show i ≤ (if 0 < v ∧ zt_dg B N i then zt_nl B N m (i + 1) (10 * v + B i - 48) else (i, v)).1 ∧ (if 0 < v ∧ zt_dg B N i then zt_nl B N m (i + 1) (10 * v + B i - 48) else (i, v)).1 ≤ N ∧ 0 ≤ (if 0 < v ∧ zt_dg B N i then zt_nl B N m (i + 1) (10 * v + B i - 48) else (i, v)).2 ∧ (if 0 < v ∧ zt_dg B N i then zt_nl B N m (i + 1) (10 * v + B i - 48) else (i, v)).2 ≤ 999
    rcases (show m = 0 ∨ m = 1 by omega) with rfl | rfl
    · split
      · rename_i q
        obtain ⟨q1, q2, q3, q4⟩ := q
        show i ≤ i + 1 ∧ i + 1 ≤ N ∧ 0 ≤ 10 * v + B i - 48 ∧ 10 * v + B i - 48 ≤ 999
        omega
      · show i ≤ i ∧ i ≤ N ∧ 0 ≤ v ∧ v ≤ 999
        omega
    · split
      · rename_i q
        obtain ⟨q1, q2, q3, q4⟩ := q
        show i ≤ (if 0 < (10 * v + B i - 48) ∧ zt_dg B N (i + 1) then (i + 1 + 1, 10 * (10 * v + B i - 48) + B (i + 1) - 48) else (i + 1, 10 * v + B i - 48)).1 ∧ (if 0 < (10 * v + B i - 48) ∧ zt_dg B N (i + 1) then (i + 1 + 1, 10 * (10 * v + B i - 48) + B (i + 1) - 48) else (i + 1, 10 * v + B i - 48)).1 ≤ N ∧ 0 ≤ (if 0 < (10 * v + B i - 48) ∧ zt_dg B N (i + 1) then (i + 1 + 1, 10 * (10 * v + B i - 48) + B (i + 1) - 48) else (i + 1, 10 * v + B i - 48)).2 ∧ (if 0 < (10 * v + B i - 48) ∧ zt_dg B N (i + 1) then (i + 1 + 1, 10 * (10 * v + B i - 48) + B (i + 1) - 48) else (i + 1, 10 * v + B i - 48)).2 ≤ 999
        split
        · rename_i w
          obtain ⟨w1, w2, w3, w4⟩ := w
          show i ≤ i + 1 + 1 ∧ i + 1 + 1 ≤ N ∧ 0 ≤ 10 * (10 * v + B i - 48) + B (i + 1) - 48 ∧ 10 * (10 * v + B i - 48) + B (i + 1) - 48 ≤ 999
          omega
        · show i ≤ i + 1 ∧ i + 1 ≤ N ∧ 0 ≤ 10 * v + B i - 48 ∧ 10 * v + B i - 48 ≤ 999
          omega
      · show i ≤ i ∧ i ≤ N ∧ 0 ≤ v ∧ v ≤ 999
        omega
section ZPAR
variable {T : List mv_T} {J : Nat → Int → Int} {R : Nat → Nat → Option Nat} {G : Nat → Nat → Int64} {d q : Nat} {B : Int → Int} {N i : Int}
/-- the text lies open: the bytes B, N of them -/
def zt_tx (R : Nat → Nat → Option Nat) (J : Nat → Int → Int) (q : Nat) (B : Int → Int) (N : Int) : Prop := Shf q ∧ R 70 0 = some (q + 1) ∧ J 70 1 = N ∧ (0 ≤ N ∧ N ≤ 100) ∧ ∀ k, 0 ≤ k → k < N → J (q + 1) k = B k ∧ zk_r32 (B k)
theorem zt_uu {J : Nat → Int → Int} {a : Nat} {k v w : Int} : zz_u (zz_u J a k v) a k w = zz_u J a k w := by
  funext x y
  unfold zz_u
  split
  · rfl
  · rfl
theorem zt_tx_f {J' : Nat → Int → Int} (h : zt_tx R J q B N) (h1 : J' 70 1 = J 70 1) (h2 : J' (q + 1) = J (q + 1)) : zt_tx R J' q B N := by
  unfold zt_tx at h ⊢
  rw [h1, h2]
  exact h
theorem c_83 (hd : 1 ≤ d) (hL : ZL T R) (ht : zt_tx R J q B N) (hi : J 70 2 = i) (i0 : 0 ≤ i) (i1 : i ≤ N) : mv_cax d 83 [.inr (.inr (some 70))] (zz_S T J R G) = some (some (.inl (mv_c (zz_b (zt_dg B N i)))), (zz_S T J R G)) := by
  obtain ⟨hq, h0, h1, ⟨h2, h3⟩, h4⟩ := ht
  by_cases hlt : i < N
  · obtain ⟨hb, hr⟩ := h4 i i0 hlt
    unfold zk_r32 at hr
    refine zz_c (zz_call (by omega) t_83 rfl (fun n => e_83 _ _) ?_)
    simp (maxSteps := 5000000) (disch := first | assumption | omega) only [h0, h1, hi, za_H, hb, zz_z, zr_70_0, zq_70_0, zg_70_1, zp_70_1, zg_70_2, zp_70_2, zg_70_3, zp_70_3, zr_70_4, zi_70, za_72, zs_72, zl_72, zz_0, zz_31, zz_add, zz_sub, zz_mul, zz_neg, zz_lt, zz_le, zz_eq, zz_div, zz_md, zz_dv, zz_abs, zz_max, zz_min, zz_nI, zz_be0, zz_be1, zz_zb, zz_z, zz_l0, zz_l, zz_lcmp, zo_rf, zo_nl, zo_nn, zo_rI, zo_rL, zo_rR, zo_rV, Int.add_zero, Int.zero_add, Int.mul_zero, Int.zero_mul, Int.one_mul, Int.mul_one, if_true, if_false, not_true_eq_false, not_false_eq_true]
    refine zz_Ei (fun h => absurd h (by omega)) (fun _ => ?_)
    refine zz_Ei (fun h => zz_Er (by rw [zz_b_f (by omega)])) (fun g1 => ?_)
    refine zz_Ei (fun h => zz_Er (by rw [zz_b_f (by omega)])) (fun g2 => zz_Er (by rw [zz_b_t (by omega)]))
  · refine zz_c (zz_call (by omega) t_83 rfl (fun n => e_83 _ _) ?_)
    simp (maxSteps := 5000000) (disch := first | assumption | omega) only [h0, h1, hi, zz_z, zr_70_0, zq_70_0, zg_70_1, zp_70_1, zg_70_2, zp_70_2, zg_70_3, zp_70_3, zr_70_4, zi_70, za_72, zs_72, zl_72, zz_0, zz_31, zz_add, zz_sub, zz_mul, zz_neg, zz_lt, zz_le, zz_eq, zz_div, zz_md, zz_dv, zz_abs, zz_max, zz_min, zz_nI, zz_be0, zz_be1, zz_zb, zz_z, zz_l0, zz_l, zz_lcmp, zo_rf, zo_nl, zo_nn, zo_rI, zo_rL, zo_rR, zo_rV, Int.add_zero, Int.zero_add, Int.mul_zero, Int.zero_mul, Int.one_mul, Int.mul_one, if_true, if_false, not_true_eq_false, not_false_eq_true]
    refine zz_Ei (fun _ => zz_Er (by rw [zz_b_f (by omega)])) (fun h => absurd (by omega) h)
/-- a number stands written -/
def zt_fi (J : Nat → Int → Int) (f i v : Int) : Nat → Int → Int := zz_u (zz_u (zz_u J 70 2 i) 72 f v) 70 3 (f + 1)
theorem c_82l {f most : Int} (hd : 1 ≤ d) (hL : ZL T R) (ht : zt_tx R J q B N) (hf : J 70 3 = f) (f0 : 0 ≤ f) (f1 : f < 4) : ∀ (m : Nat) (i v dg : Int), 0 ≤ i → i ≤ N → 0 < v → (v + 1) * 10 ^ m ≤ 1000 → m ≤ 2 → dg + m = most → 1 ≤ dg → most ≤ 3 →
    zz_E (fun n => mv_run (mv_cax d) mm_82 n 21 [(0, .inr (.inr (some 70))), (1, .inl (mv_c most)), (2, .inl (mv_c v)), (3, .inl (mv_c dg))] [] (zz_S T (zz_u J 70 2 i) R G)) (fun r => r = (some (.inl (mv_c 1)), zz_S T (zt_fi J f (zt_nl B N m i v).1 (zt_nl B N m i v).2) R G)) := by
  intro m
  induction m with
  | zero =>
    intro i v dg i0 i1 v0 v1 hm hdg d1 d3
    have q3 : zz_u J 70 2 i 70 3 = f := by rw [zu_k (by omega)]; exact hf
    refine zz_Es (fun n => e_82_21 _ _ _ _ _) ?_
    simp (maxSteps := 5000000) (disch := first | assumption | omega) only [q3, zu_A, zz_z, zr_70_0, zq_70_0, zg_70_1, zp_70_1, zg_70_2, zp_70_2, zg_70_3, zp_70_3, zr_70_4, zi_70, za_72, zs_72, zl_72, zz_0, zz_31, zz_add, zz_sub, zz_mul, zz_neg, zz_lt, zz_le, zz_eq, zz_div, zz_md, zz_dv, zz_abs, zz_max, zz_min, zz_nI, zz_be0, zz_be1, zz_zb, zz_z, zz_l0, zz_l, zz_lcmp, zo_rf, zo_nl, zo_nn, zo_rI, zo_rL, zo_rR, zo_rV, Int.add_zero, Int.zero_add, Int.mul_zero, Int.zero_mul, Int.one_mul, Int.mul_one, if_true, if_false, not_true_eq_false, not_false_eq_true]
    refine zz_Ei (fun _ => ?_) (fun h => absurd (by omega) h)
    exact zz_Er rfl
  | succ m ih =>
    intro i v dg i0 i1 v0 v1 hm hdg d1 d3
    have v2 : v ≤ 99 := by
      rcases (show m = 0 ∨ m = 1 by omega) with rfl | rfl <;> omega
    have ht' : zt_tx R (zz_u J 70 2 i) q B N := zt_tx_f ht (zu_k (by omega)) (zu_A (by have := zk_q16 ht.1; omega))
    have q3 : zz_u J 70 2 i 70 3 = f := by rw [zu_k (by omega)]; exact hf
    have c83 := c_83 (T := T) (J := zz_u J 70 2 i) (R := R) (G := G) (d := d) hd hL ht' zu_s i0 i1
    have e1 : zt_nl B N (m + 1) i v = if 0 < v ∧ zt_dg B N i then zt_nl B N m (i + 1) (10 * v + B i - 48) else (i, v) := rfl
    refine zz_Es (fun n => e_82_21 _ _ _ _ _) ?_
    by_cases hdgi : zt_dg B N i
    · rw [zz_b_t hdgi] at c83
      rw [e1, if_pos ⟨v0, hdgi⟩]
      obtain ⟨g1, g2, g3⟩ := hdgi
      obtain ⟨hq, h0, h1, h2, h4⟩ := ht'
      have hb := (h4 i i0 g1).1
      have ih' := ih (i + 1) (10 * v + B i - 48) (dg + 1) (by omega) (by omega) (by omega) (by
        rcases (show m = 0 ∨ m = 1 by omega) with rfl | rfl <;> omega) (by omega) (by omega) (by omega) d3
      rw [show 10 * v + B i - 48 = v * 10 + B i - 48 by omega] at ih' ⊢
      simp (maxSteps := 5000000) (disch := first | assumption | omega) only [zi_70, c83, h0, zu_s, za_H, hb, zt_uu, zr_70_0, zq_70_0, zg_70_1, zp_70_1, zg_70_2, zp_70_2, zg_70_3, zp_70_3, zr_70_4, zi_70, za_72, zs_72, zl_72, zz_0, zz_31, zz_add, zz_sub, zz_mul, zz_neg, zz_lt, zz_le, zz_eq, zz_div, zz_md, zz_dv, zz_abs, zz_max, zz_min, zz_nI, zz_be0, zz_be1, zz_zb, zz_z, zz_l0, zz_l, zz_lcmp, zo_rf, zo_nl, zo_nn, zo_rI, zo_rL, zo_rR, zo_rV, Int.add_zero, Int.zero_add, Int.mul_zero, Int.zero_mul, Int.one_mul, Int.mul_one, if_true, if_false, not_true_eq_false, not_false_eq_true]
      refine zz_Ei (fun h => absurd h (by omega)) (fun _ => ?_)
      try (refine zz_Ei (fun h => absurd (show (1 : Int) = 0 from h) (by omega)) (fun _ => ?_))
      refine zz_Ei (fun h => absurd h (by omega)) (fun _ => ?_)
      exact ih'
    · rw [zz_b_f hdgi] at c83
      rw [e1, if_neg (fun q => hdgi q.2)]
      simp (maxSteps := 5000000) (disch := first | assumption | omega) only [zi_70, c83, q3, zu_A, zz_z, zr_70_0, zq_70_0, zg_70_1, zp_70_1, zg_70_2, zp_70_2, zg_70_3, zp_70_3, zr_70_4, zi_70, za_72, zs_72, zl_72, zz_0, zz_31, zz_add, zz_sub, zz_mul, zz_neg, zz_lt, zz_le, zz_eq, zz_div, zz_md, zz_dv, zz_abs, zz_max, zz_min, zz_nI, zz_be0, zz_be1, zz_zb, zz_z, zz_l0, zz_l, zz_lcmp, zo_rf, zo_nl, zo_nn, zo_rI, zo_rL, zo_rR, zo_rV, Int.add_zero, Int.zero_add, Int.mul_zero, Int.zero_mul, Int.one_mul, Int.mul_one, if_true, if_false, not_true_eq_false, not_false_eq_true]
      refine zz_Ei (fun h => absurd h (by omega)) (fun _ => ?_)
      exact zz_Er rfl
theorem c_82 {f : Int} {m : Nat} (hd : 2 ≤ d) (hL : ZL T R) (ht : zt_tx R J q B N) (hi : J 70 2 = i) (i0 : 0 ≤ i) (i1 : i ≤ N) (hf : J 70 3 = f) (f0 : 0 ≤ f) (f1 : f < 4) (hm : m ≤ 2) :
    (zt_dg B N i → mv_cax d 82 [.inr (.inr (some 70)), .inl (mv_c ((m : Int) + 1))] (zz_S T J R G) = some (some (.inl (mv_c 1)), zz_S T (zt_fi J f (zt_nl B N m (i + 1) (B i - 48)).1 (zt_nl B N m (i + 1) (B i - 48)).2) R G)) ∧ (¬ zt_dg B N i → mv_cax d 82 [.inr (.inr (some 70)), .inl (mv_c ((m : Int) + 1))] (zz_S T J R G) = some (some (.inl (mv_c 0)), (zz_S T J R G))) := by
  have c83 := c_83 (T := T) (J := J) (R := R) (G := G) (d := d - 1) (by omega) hL ht hi i0 i1
  constructor
  · intro hdgi
    rw [zz_b_t hdgi] at c83
    obtain ⟨g1, g2, g3⟩ := id hdgi
    obtain ⟨hq, h0, h1, h2, h4⟩ := id ht
    have hb := (h4 i i0 g1).1
    refine zz_c (zz_call (by omega) t_82 rfl (fun n => e_82 _ _ _) ?_)
    simp (maxSteps := 5000000) (disch := first | assumption | omega) only [zi_70, c83, hf, zz_z, zr_70_0, zq_70_0, zg_70_1, zp_70_1, zg_70_2, zp_70_2, zg_70_3, zp_70_3, zr_70_4, zi_70, za_72, zs_72, zl_72, zz_0, zz_31, zz_add, zz_sub, zz_mul, zz_neg, zz_lt, zz_le, zz_eq, zz_div, zz_md, zz_dv, zz_abs, zz_max, zz_min, zz_nI, zz_be0, zz_be1, zz_zb, zz_z, zz_l0, zz_l, zz_lcmp, zo_rf, zo_nl, zo_nn, zo_rI, zo_rL, zo_rR, zo_rV, Int.add_zero, Int.zero_add, Int.mul_zero, Int.zero_mul, Int.one_mul, Int.mul_one, if_true, if_false, not_true_eq_false, not_false_eq_true]
    try (refine zz_Ei (fun h => absurd (show (1 : Int) = 0 from h) (by omega)) (fun _ => ?_))
    refine zz_Ei (fun _ => ?_) (fun h => absurd (by omega) h)
    refine zz_Es (fun n => e_82_21 _ _ _ _ _) ?_
    simp (maxSteps := 5000000) (disch := first | assumption | omega) only [zi_70, c83, h0, hi, za_H, hb, zz_z, zr_70_0, zq_70_0, zg_70_1, zp_70_1, zg_70_2, zp_70_2, zg_70_3, zp_70_3, zr_70_4, zi_70, za_72, zs_72, zl_72, zz_0, zz_31, zz_add, zz_sub, zz_mul, zz_neg, zz_lt, zz_le, zz_eq, zz_div, zz_md, zz_dv, zz_abs, zz_max, zz_min, zz_nI, zz_be0, zz_be1, zz_zb, zz_z, zz_l0, zz_l, zz_lcmp, zo_rf, zo_nl, zo_nn, zo_rI, zo_rL, zo_rR, zo_rV, Int.add_zero, Int.zero_add, Int.mul_zero, Int.zero_mul, Int.one_mul, Int.mul_one, if_true, if_false, not_true_eq_false, not_false_eq_true]
    refine zz_Ei (fun h => absurd h (by omega)) (fun _ => ?_)
    try (refine zz_Ei (fun h => absurd (show (1 : Int) = 0 from h) (by omega)) (fun _ => ?_))
    have q3 : zz_u J 70 2 (i + 1) 70 3 = f := by rw [zu_k (by omega)]; exact hf
    refine zz_Ei (fun hz => ?_) (fun hz => ?_)
    · have e0 : zt_nl B N m (i + 1) (B i - 48) = (i + 1, B i - 48) := by
        rcases m with _ | m
        · rfl
        · exact if_neg (fun q => by omega)
      rw [e0]
      simp (maxSteps := 5000000) (disch := first | assumption | omega) only [q3, zu_A, zz_z, zr_70_0, zq_70_0, zg_70_1, zp_70_1, zg_70_2, zp_70_2, zg_70_3, zp_70_3, zr_70_4, zi_70, za_72, zs_72, zl_72, zz_0, zz_31, zz_add, zz_sub, zz_mul, zz_neg, zz_lt, zz_le, zz_eq, zz_div, zz_md, zz_dv, zz_abs, zz_max, zz_min, zz_nI, zz_be0, zz_be1, zz_zb, zz_z, zz_l0, zz_l, zz_lcmp, zo_rf, zo_nl, zo_nn, zo_rI, zo_rL, zo_rR, zo_rV, Int.add_zero, Int.zero_add, Int.mul_zero, Int.zero_mul, Int.one_mul, Int.mul_one, if_true, if_false, not_true_eq_false, not_false_eq_true]
      exact zz_Er rfl
    · have l := c_82l (T := T) (R := R) (G := G) (d := d - 1) (f := f) (most := (m : Int) + 1) (by omega) hL ht hf f0 f1 m (i + 1) (B i - 48) 1 (by omega) (by omega) (by omega) (by
        rcases (show m = 0 ∨ m = 1 ∨ m = 2 by omega) with rfl | rfl | rfl <;> omega) hm (by omega) (by omega) (by omega)
      exact l
  · intro hdgi
    rw [zz_b_f hdgi] at c83
    refine zz_c (zz_call (by omega) t_82 rfl (fun n => e_82 _ _ _) ?_)
    simp (maxSteps := 5000000) (disch := first | assumption | omega) only [zi_70, c83, zz_z, zr_70_0, zq_70_0, zg_70_1, zp_70_1, zg_70_2, zp_70_2, zg_70_3, zp_70_3, zr_70_4, zi_70, za_72, zs_72, zl_72, zz_0, zz_31, zz_add, zz_sub, zz_mul, zz_neg, zz_lt, zz_le, zz_eq, zz_div, zz_md, zz_dv, zz_abs, zz_max, zz_min, zz_nI, zz_be0, zz_be1, zz_zb, zz_z, zz_l0, zz_l, zz_lcmp, zo_rf, zo_nl, zo_nn, zo_rI, zo_rL, zo_rR, zo_rV, Int.add_zero, Int.zero_add, Int.mul_zero, Int.zero_mul, Int.one_mul, Int.mul_one, if_true, if_false, not_true_eq_false, not_false_eq_true]
    exact zz_Er rfl
theorem c_81 {c : Int} (hd : 1 ≤ d) (hL : ZL T R) (ht : zt_tx R J q B N) (hi : J 70 2 = i) (i0 : 0 ≤ i) (i1 : i ≤ N) (c0 : 0 ≤ c) (c1 : c ≤ 1000) :
    ((i < N ∧ B i = c) → mv_cax d 81 [.inr (.inr (some 70)), .inl (mv_c c)] (zz_S T J R G) = some (some (.inl (mv_c 1)), zz_S T (zz_u J 70 2 (i + 1)) R G)) ∧ (¬ (i < N ∧ B i = c) → mv_cax d 81 [.inr (.inr (some 70)), .inl (mv_c c)] (zz_S T J R G) = some (some (.inl (mv_c 0)), (zz_S T J R G))) := by
  obtain ⟨hq, h0, h1, ⟨h2, h3⟩, h4⟩ := ht
  by_cases hlt : i < N
  · obtain ⟨hb, hr⟩ := h4 i i0 hlt
    unfold zk_r32 at hr
    constructor
    · intro h
      refine zz_c (zz_call (by omega) t_81 rfl (fun n => e_81 _ _ _) ?_)
      simp (maxSteps := 5000000) (disch := first | assumption | omega) only [h0, h1, hi, za_H, hb, zz_z, zr_70_0, zq_70_0, zg_70_1, zp_70_1, zg_70_2, zp_70_2, zg_70_3, zp_70_3, zr_70_4, zi_70, za_72, zs_72, zl_72, zz_0, zz_31, zz_add, zz_sub, zz_mul, zz_neg, zz_lt, zz_le, zz_eq, zz_div, zz_md, zz_dv, zz_abs, zz_max, zz_min, zz_nI, zz_be0, zz_be1, zz_zb, zz_z, zz_l0, zz_l, zz_lcmp, zo_rf, zo_nl, zo_nn, zo_rI, zo_rL, zo_rR, zo_rV, Int.add_zero, Int.zero_add, Int.mul_zero, Int.zero_mul, Int.one_mul, Int.mul_one, if_true, if_false, not_true_eq_false, not_false_eq_true]
      refine zz_Ei (fun h => absurd h (by omega)) (fun _ => ?_)
      refine zz_Ei (fun _ => zz_Er rfl) (fun g => absurd h.2 g)
    · intro h
      refine zz_c (zz_call (by omega) t_81 rfl (fun n => e_81 _ _ _) ?_)
      simp (maxSteps := 5000000) (disch := first | assumption | omega) only [h0, h1, hi, za_H, hb, zz_z, zr_70_0, zq_70_0, zg_70_1, zp_70_1, zg_70_2, zp_70_2, zg_70_3, zp_70_3, zr_70_4, zi_70, za_72, zs_72, zl_72, zz_0, zz_31, zz_add, zz_sub, zz_mul, zz_neg, zz_lt, zz_le, zz_eq, zz_div, zz_md, zz_dv, zz_abs, zz_max, zz_min, zz_nI, zz_be0, zz_be1, zz_zb, zz_z, zz_l0, zz_l, zz_lcmp, zo_rf, zo_nl, zo_nn, zo_rI, zo_rL, zo_rR, zo_rV, Int.add_zero, Int.zero_add, Int.mul_zero, Int.zero_mul, Int.one_mul, Int.mul_one, if_true, if_false, not_true_eq_false, not_false_eq_true]
      refine zz_Ei (fun h => absurd h (by omega)) (fun _ => ?_)
      refine zz_Ei (fun g => absurd ⟨hlt, g⟩ h) (fun _ => zz_Er rfl)
  · refine ⟨fun h => absurd h.1 hlt, fun _ => ?_⟩
    refine zz_c (zz_call (by omega) t_81 rfl (fun n => e_81 _ _ _) ?_)
    simp (maxSteps := 5000000) (disch := first | assumption | omega) only [h1, hi, zz_z, zr_70_0, zq_70_0, zg_70_1, zp_70_1, zg_70_2, zp_70_2, zg_70_3, zp_70_3, zr_70_4, zi_70, za_72, zs_72, zl_72, zz_0, zz_31, zz_add, zz_sub, zz_mul, zz_neg, zz_lt, zz_le, zz_eq, zz_div, zz_md, zz_dv, zz_abs, zz_max, zz_min, zz_nI, zz_be0, zz_be1, zz_zb, zz_z, zz_l0, zz_l, zz_lcmp, zo_rf, zo_nl, zo_nn, zo_rI, zo_rL, zo_rR, zo_rV, Int.add_zero, Int.zero_add, Int.mul_zero, Int.zero_mul, Int.one_mul, Int.mul_one, if_true, if_false, not_true_eq_false, not_false_eq_true]
    refine zz_Ei (fun _ => zz_Er rfl) (fun h => absurd (by omega) h)
end ZPAR
