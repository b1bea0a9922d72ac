/-! PURE LAYER, 73: the class's shelves: what is put there -/
theorem zk_upR {R : Nat → Nat → Option Nat} {q : Nat} {o : Option Nat} (hq : Shf q) : zk_fR R (mv_up R q 0 o) := fun x k x1 x2 x3 x4 x5 => by
  have := zk_q16 hq
  unfold mv_up
  by_cases h : x = q
  · rw [if_pos h, if_neg, h]
    intro h'
    exact x5 ⟨h', Or.inr (by omega)⟩
  · rw [if_neg h]
theorem zk_up0 {R : Nat → Nat → Option Nat} {q : Nat} {o : Option Nat} : mv_up R q 0 o q 0 = o := by
  unfold mv_up
  rw [if_pos rfl, if_pos rfl]
theorem zk_upn {R : Nat → Nat → Option Nat} {q x k : Nat} {o : Option Nat} (h : x ≠ q) : mv_up R q 0 o x k = R x k := by
  unfold mv_up
  rw [if_neg h]
theorem zk_upk {R : Nat → Nat → Option Nat} {q x k : Nat} {o : Option Nat} (h : k ≠ 0) : mv_up R q 0 o x k = R x k := by
  unfold mv_up
  by_cases h' : x = q
  · rw [if_pos h', if_neg h, h']
  · rw [if_neg h']
/-- where a shelf and what is told of it stay -/
def zk_vs (V V' : Nat → Int → Int) (i : Int) : Prop := V' 135 i = V 135 i ∧ V' 136 i = V 136 i ∧ V' 137 i = V 137 i ∧ V' 139 i = V 139 i ∧ V' 140 i = V 140 i ∧ ∀ y, 0 ≤ y → y < 100 → V' 138 (100 * i + y) = V 138 (100 * i + y)
theorem zk_vs_r {V : Nat → Int → Int} {i : Int} : zk_vs V V i := ⟨rfl, rfl, rfl, rfl, rfl, fun _ _ _ => rfl⟩
theorem zk_sq_f {T T' : List mv_T} {R R' : Nat → Nat → Option Nat} {J J' V V' : Nat → Int → Int} {q : Nat} {k : Int} (h : zk_sq T R J V q k) (hT : ∀ a : Nat, T[a]? = some (.inl 2) → T'[a]? = some (.inl 2)) (h0 : J' q = J q) (h1 : J' (q + 1) = J (q + 1)) (ha : ∀ a : Nat, 156 ≤ a → T[a]? = some (.inl 2) → J' a = J a) (hR : R' q 0 = R q 0) (hV : zk_vs V V' k) : zk_sq T' R' J' V' q k := by
  obtain ⟨v1, v2, v3, v4, v5, v6⟩ := hV
  unfold zk_sq zk_ro
  rw [v1, v2, v3, v4, v5, h0, h1, hR]
  rcases h with h | ⟨h, g1, a, n, e, f, g2, ⟨g3, g4, g5⟩, g6⟩ | ⟨h, g1, g2, g3, g4, g5⟩
  · exact Or.inl h
  · refine Or.inr (Or.inl ⟨h, g1, a, n, e, f, g2, ⟨hT a g3, g4, ?_⟩, g6⟩)
    rw [ha a g4 g3]
    exact g5
  · refine Or.inr (Or.inr ⟨h, g1, g2, g3, g4, fun i i0 i1 => ?_⟩)
    rw [v6 i i0 i1]
    exact g5 i i0 i1
theorem zk_sh_f {T T' : List mv_T} {R R' : Nat → Nat → Option Nat} {J J' V V' : Nat → Int → Int} (h : zk_sh T R J V) (hT : ∀ a : Nat, T[a]? = some (.inl 2) → T'[a]? = some (.inl 2)) (h0 : ∀ x, 115 ≤ x → x ≤ 130 → J' x = J x) (ha : ∀ a : Nat, 156 ≤ a → T[a]? = some (.inl 2) → J' a = J a) (hR : ∀ x, 115 ≤ x → x ≤ 130 → R' x 0 = R x 0) (hV : ∀ k, 0 ≤ k → k < 8 → zk_vs V V' k) : zk_sh T' R' J' V' := fun k k0 k1 => by
  have := zk_q16 (zk_q k0 k1)
  exact zk_sq_f (h k k0 k1) hT (h0 _ (by omega) (by omega)) (h0 _ (by omega) (by omega)) ha (hR _ (by omega) (by omega)) (hV k k0 k1)
/-- one shelf is changed -/
theorem zk_sh_s {T : List mv_T} {R R' : Nat → Nat → Option Nat} {J J' V V' : Nat → Int → Int} {k : Int} (h : zk_sh T R J V) (hk : 0 ≤ k ∧ k < 8) (hs : zk_sq T R' J' V' (115 + 2 * k.toNat) k) (hJ : ∀ x, x ≠ 115 + 2 * k.toNat → x ≠ 115 + 2 * k.toNat + 1 → J' x = J x) (hR : ∀ x, x ≠ 115 + 2 * k.toNat → R' x 0 = R x 0) (hV : ∀ i, i ≠ k → zk_vs V V' i) : zk_sh T R' J' V' := fun i i0 i1 => by
  by_cases e : i = k
  · rw [e]; exact hs
  · have q1 := zk_q16 (zk_q hk.1 hk.2)
    exact zk_sq_f (h i i0 i1) (fun _ h => h) (hJ _ (by omega) (by omega)) (hJ _ (by omega) (by omega)) (fun a a1 _ => hJ a (by omega) (by omega)) (hR _ (by omega)) (hV i e)
/-- what is put: its lowest bits -/
def zv_cv (s v : Int) : Int := if s = 0 then ((mv_c v).toInt8.toInt32).toInt else if s = 1 then ((mv_c v).toInt16.toInt32).toInt else v
theorem zk_ci (x : Int32) : mv_c x.toInt = x := Int32.ofInt_toInt x
theorem zk_cv0 {v : Int} : (mv_c v).toInt8.toInt32 = mv_c (zv_cv 0 v) := by
  unfold zv_cv
  rw [if_pos rfl, zk_ci]
theorem zk_cv1 {v : Int} : (mv_c v).toInt16.toInt32 = mv_c (zv_cv 1 v) := by
  unfold zv_cv
  rw [if_neg (by omega), if_pos rfl, zk_ci]
theorem zk_i32 (x : Int32) : zk_r32 x.toInt := ⟨Int32.le_toInt x, by have := Int32.toInt_lt x; omega⟩
theorem zk_cvr {s v : Int} (hv : zk_r32 v) : zk_r32 (zv_cv s v) := by
  unfold zv_cv
  split
  · exact zk_i32 _
  · split
    · exact zk_i32 _
    · exact hv
noncomputable def zv_keep (A : Int → Int) (k w e : Int) : Int := if (0 ≤ k ∧ k < 8) ∧ (0 ≤ w ∧ w ≤ 1) ∧ (w = 1 → 0 ≤ e ∧ e < A 7) then 0 else -1
def zv_keepV (V : Nat → Int → Int) (A : Int → Int) (k w e : Int) : Nat → Int → Int := if (0 ≤ k ∧ k < 8) ∧ (0 ≤ w ∧ w ≤ 1) ∧ (w = 1 → 0 ≤ e ∧ e < A 7) then (if w = 0 then zz_w V 135 (zz_f (V 135) k 0) else zz_w (zz_w (zz_w V 135 (zz_f (V 135) k 1)) 139 (zz_f (V 139) k (zk_sp (A (40 + 15 * e)) (A (41 + 15 * e))))) 140 (zz_f (V 140) k (zk_st e (A (40 + 15 * e)) (A (41 + 15 * e))))) else V
def zv_row (k s n : Int) : Int := if (0 ≤ k ∧ k < 8) ∧ (0 ≤ s ∧ s ≤ 2) ∧ n ≤ 100 then (if n < 0 then -14 else 0) else -1
def zv_rowV (V : Nat → Int → Int) (k s n : Int) : Nat → Int → Int := if (0 ≤ k ∧ k < 8) ∧ (0 ≤ s ∧ s ≤ 2) ∧ 0 ≤ n ∧ n ≤ 100 then zz_w (zz_w (zz_w (zz_w V 135 (zz_f (V 135) k 2)) 136 (zz_f (V 136) k s)) 137 (zz_f (V 137) k n)) 138 (fun y => if 100 * k ≤ y ∧ y < 100 * k + 100 then 0 else V 138 y) else V
def zv_put (V : Nat → Int → Int) (k i : Int) : Int := if zv_wr V k (-1) = 0 then (if 0 ≤ i ∧ i < V 137 k then 0 else -13) else zv_wr V k (-1)
def zv_putV (V : Nat → Int → Int) (k i v : Int) : Nat → Int → Int := if zv_wr V k (-1) = 0 ∧ 0 ≤ i ∧ i < V 137 k then zz_w V 138 (zz_f (V 138) (100 * k + i) (zv_cv (V 136 k) v)) else V
section ZSHW
variable {T : List mv_T} {J V : Nat → Int → Int} {R : Nat → Nat → Option Nat} {G : Nat → Nat → Int64} {d p q : Nat} {k Y : Int} {A : Int → Int}
/-- the class's shelves are changed and nothing else of it -/
def zk_os (T : List mv_T) (R R' : Nat → Nat → Option Nat) (J J' V' : Nat → Int → Int) : Prop := (∀ x, (x < 115 ∨ 130 < x) → J' x = J x) ∧ (∀ x i, ¬ (i = 0 ∧ 115 ≤ x ∧ x ≤ 129) → R' x i = R x i) ∧ zk_sh T R' J' V'
theorem zk_os0 (h : zk_sh T R J V) : zk_os T R R J J V := ⟨fun _ _ => rfl, fun _ _ _ => rfl, h⟩
theorem c_61 (hd : 1 ≤ d) (hL : ZL T R) (hq : Shf q) : mv_cax d 61 [.inr (.inr (some q))] (zz_S T J R G) = some (none, zz_S T (zz_u (zz_u J q 1 0) q 3 0) (mv_up R q 0 none) G) := by
  have hL' : ZL T (mv_up R q 0 none) := ZL_R hL (zk_upR hq)
  refine zz_c (zz_call (by omega) t_61 rfl (fun n => e_61 _ _) ?_)
  simp (maxSteps := 5000000) (disch := first | assumption | omega) only [zz_z, zq_H_0 hL hq, zr_sh, zg_H_1, zp_H_1, zg_H_2, zp_H_2, zg_H_3, zp_H_3, zr_H_0, zq_H_0, zr_H_4, zi_H, za_H, zs_H, zl_H, zz_0, zz_31, zz_add, zz_sub, zz_mul, zz_neg, zz_lt, zz_le, zz_eq, zz_div, zz_md, zz_dv, zz_abs, zz_max, zz_min, zz_nI, zz_be0, zz_be1, zz_zb, zz_z, zz_l0, zz_l, zz_lcmp, zo_rf, zo_nl, zo_nn, zo_rI, zo_rL, zo_rR, zo_rV, Int.add_zero, Int.zero_add, Int.mul_zero, Int.zero_mul, Int.one_mul, Int.mul_one, if_true, if_false, not_true_eq_false, not_false_eq_true]
  exact zz_Er rfl
theorem c_62 {a : Nat} (hd : 2 ≤ d) (hL : ZL T R) (hq : Shf q) : mv_cax d 62 [.inr (.inr (some q)), .inr (.inr (some a))] (zz_S T J R G) = some (none, zz_S T (zz_u (zz_u J q 1 0) q 3 0) (mv_up (mv_up R q 0 none) q 0 (some a)) G) := by
  have hL' : ZL T (mv_up R q 0 none) := ZL_R hL (zk_upR hq)
  have c61 := c_61 (T := T) (J := J) (R := R) (G := G) (d := d - 1) (q := q) (by omega) hL hq
  refine zz_c (zz_call (by omega) t_62 rfl (fun n => e_62 _ _ _) ?_)
  simp (maxSteps := 5000000) (disch := first | assumption | omega) only [c61, zr_sh, zg_H_1, zp_H_1, zg_H_2, zp_H_2, zg_H_3, zp_H_3, zr_H_0, zq_H_0, zr_H_4, zi_H, za_H, zs_H, zl_H, zz_0, zz_31, zz_add, zz_sub, zz_mul, zz_neg, zz_lt, zz_le, zz_eq, zz_div, zz_md, zz_dv, zz_abs, zz_max, zz_min, zz_nI, zz_be0, zz_be1, zz_zb, zz_z, zz_l0, zz_l, zz_lcmp, zo_rf, zo_nl, zo_nn, zo_rI, zo_rL, zo_rR, zo_rV, Int.add_zero, Int.zero_add, Int.mul_zero, Int.zero_mul, Int.one_mul, Int.mul_one, if_true, if_false, not_true_eq_false, not_false_eq_true]
  exact zz_Er rfl
theorem c_63 {s n : Int} (hd : 2 ≤ d) (hL : ZL T R) (hq : Shf q) : ∃ J', mv_cax d 63 [.inr (.inr (some q)), .inl (mv_c s), .inl (mv_c n)] (zz_S T J R G) = some (none, zz_S T J' (mv_up R q 0 none) G) ∧ J' q 1 = 1 ∧ J' q 2 = s ∧ J' q 3 = n ∧ (∀ i, 0 ≤ i → i < 100 → J' (q + 1) i = 0) ∧ ∀ x, x ≠ q → x ≠ q + 1 → J' x = J x := by
  have hL' : ZL T (mv_up R q 0 none) := ZL_R hL (zk_upR hq)
  have h16 := zk_q16 hq
  have h217 := c_217g (T := T) (J := zz_u (zz_u (zz_u J q 1 1) q 2 s) q 3 n) (R := mv_up R q 0 none) (G := G) (d := d - 1) (q := q + 1) (m := 100) (v := 0) (by omega) (zz_Ht1 hL hq) (by omega) (by omega)
  refine ⟨zz_w (zz_u (zz_u (zz_u J q 1 1) q 2 s) q 3 n) (q + 1) (fun k : Int => if 0 ≤ k ∧ k < ((100 : Nat) : Int) then 0 else zz_u (zz_u (zz_u J q 1 1) q 2 s) q 3 n (q + 1) k), ?_, ?_, ?_, ?_, fun i i0 i1 => ?_, fun x x1 x2 => ?_⟩
  rotate_left
  · rw [zw_n (by omega), zu_k (by omega), zu_k (by omega), zu_s]
  · rw [zw_n (by omega), zu_k (by omega), zu_s]
  · rw [zw_n (by omega), zu_s]
  · rw [zw_s, if_pos ⟨i0, i1⟩]
  · rw [zw_n x2, zu_A x1, zu_A x1, zu_A x1]
  · refine zz_c (zz_call (by omega) t_63 rfl (fun n => e_63 _ _ _ _) ?_)
    simp (maxSteps := 5000000) (disch := first | assumption | omega) only [zz_z, zq_H_0 hL hq, h217, zr_sh, zg_H_1, zp_H_1, zg_H_2, zp_H_2, zg_H_3, zp_H_3, zr_H_0, zq_H_0, zr_H_4, zi_H, za_H, zs_H, zl_H, zz_0, zz_31, zz_add, zz_sub, zz_mul, zz_neg, zz_lt, zz_le, zz_eq, zz_div, zz_md, zz_dv, zz_abs, zz_max, zz_min, zz_nI, zz_be0, zz_be1, zz_zb, zz_z, zz_l0, zz_l, zz_lcmp, zo_rf, zo_nl, zo_nn, zo_rI, zo_rL, zo_rR, zo_rV, Int.add_zero, Int.zero_add, Int.mul_zero, Int.zero_mul, Int.one_mul, Int.mul_one, if_true, if_false, not_true_eq_false, not_false_eq_true]
    exact zz_Er rfl
theorem c_119 {w e : Int} (hd : 3 ≤ d) (hL : ZL T R) (hA : zz_ok Y A) (hR : zc_rep T R J 17 A) (hs : zk_sh T R J V) (h1 : zk_r32 k) (h2 : zk_r32 w) (h3 : zk_r32 e) : ∃ J' R', mv_cax d 119 [.inr (.inr (some 16)), .inl (mv_c k), .inl (mv_c w), .inl (mv_c e)] (zz_S T J R G) = some (some (.inl (mv_c (zv_keep A k w e))), zz_S T J' R' G) ∧ zk_os T R R' J J' (zv_keepV V A k w e) := by
  obtain ⟨h1, h1'⟩ := h1
  obtain ⟨h2, h2'⟩ := h2
  obtain ⟨h3, h3'⟩ := h3
  have h7 := hA.2.2.2.2.2.2.1
  have c126 := c_126 (T := T) (J := J) (R := R) (G := G) (d := d - 1) (k := k) (by omega) hL h1 h1'
  have c34 := c_34 (T := T) (J := J) (R := R) (G := G) (d := d - 1) (p := 17) (e := e) (by omega) hL (by omega) hA hR h3 h3'
  by_cases hk : 0 ≤ k ∧ k < 8
  · rw [if_pos hk] at c126
    have hq := zk_q hk.1 hk.2
    have h16 := zk_q16 hq
    by_cases hw : 0 ≤ w ∧ w ≤ 1
    · by_cases hw0 : w = 0
      · have hc : (0 ≤ k ∧ k < 8) ∧ (0 ≤ w ∧ w ≤ 1) ∧ (w = 1 → 0 ≤ e ∧ e < A 7) := ⟨hk, hw, fun q => by omega⟩
        rw [zv_keep, zv_keepV, if_pos hc, if_pos hc, if_pos hw0]
        have c61 := c_61 (T := T) (J := J) (R := R) (G := G) (d := d - 1) (by omega) hL hq
        refine ⟨zz_u (zz_u J (115 + 2 * k.toNat) 1 0) (115 + 2 * k.toNat) 3 0, mv_up R (115 + 2 * k.toNat) 0 none, ?_, fun x hx => by rw [zu_A (by omega), zu_A (by omega)], fun x i hx => ?_, ?_⟩
        · refine zz_c (zz_call (by omega) t_119 rfl (fun n => e_119 _ _ _ _ _) ?_)
          simp (maxSteps := 5000000) (disch := first | assumption | omega) only [c126, c61, zi_H, zr_16_0, zr_16_1, zr_16_2, zr_16_3, zg_16_4, zp_16_4, zr_16_5, zr_16_6, zr_16_7, zr_16_8, zr_16_9, zr_16_10, zr_16_11, zr_16_12, zi_16, za_105, zs_105, zl_105, za_106, zs_106, zl_106, zl_107, za_114, zs_114, zl_114, zr_pl, za_pl, zs_pl, zl_pl, zz_0, zz_31, zz_add, zz_sub, zz_mul, zz_neg, zz_lt, zz_le, zz_eq, zz_div, zz_md, zz_dv, zz_abs, zz_max, zz_min, zz_nI, zz_be0, zz_be1, zz_zb, zz_z, zz_l0, zz_l, zz_lcmp, zo_rf, zo_nl, zo_nn, zo_rI, zo_rL, zo_rR, zo_rV, Int.add_zero, Int.zero_add, Int.mul_zero, Int.zero_mul, Int.one_mul, Int.mul_one, if_true, if_false, not_true_eq_false, not_false_eq_true, zg_L_0, zp_L_0, zg_L_1, zp_L_1, zg_L_2, zp_L_2, zg_L_3, zp_L_3, zg_L_4, zp_L_4, zg_L_5, zp_L_5, zg_L_6, zp_L_6, zg_L_7, zp_L_7, zi_L, zr_L_8, za_L_1, zs_L_1, zr_L_9, za_L_2, zs_L_2, zr_L_10, za_L_3, zs_L_3, zr_L_11, za_L_4, zs_L_4, zr_L_12, za_L_5, zs_L_5, zr_L_13, za_L_6, zs_L_6, zr_L_14, za_L_7, zs_L_7, zr_L_15, za_L_8, zs_L_8, zr_L_16, za_L_9, zs_L_9, zr_L_17, za_L_10, zs_L_10, zr_L_18, za_L_11, zs_L_11, zr_L_19, za_L_12, zs_L_12]
          refine zz_Ei (fun h => absurd h (by omega)) (fun _ => ?_)
          refine zz_Ei (fun _ => ?_) (fun h => absurd (by omega) h)
          exact zz_Ei (fun _ => zz_Er rfl) (fun h => absurd hw0 h)
        · by_cases q : x = 115 + 2 * k.toNat
          · exact zk_upk (fun q' => hx ⟨q', by omega, by omega⟩)
          · exact zk_upn q
        · refine zk_sh_s hs hk (Or.inl ⟨by rw [zw_s, zf_s], by rw [zu_k (by omega), zu_s], zk_up0⟩) (fun x x1 _ => by rw [zu_A x1, zu_A x1]) (fun x x1 => zk_upn x1) (fun i hi => ⟨by rw [zw_s, zf_n hi], by rw [zw_n (by omega)], by rw [zw_n (by omega)], by rw [zw_n (by omega)], by rw [zw_n (by omega)], fun y _ _ => by rw [zw_n (by omega)]⟩)
      · by_cases he : 0 ≤ e ∧ e < A 7
        · have hc : (0 ≤ k ∧ k < 8) ∧ (0 ≤ w ∧ w ≤ 1) ∧ (w = 1 → 0 ≤ e ∧ e < A 7) := ⟨hk, hw, fun _ => he⟩
          rw [zv_keep, zv_keepV, if_pos hc, if_pos hc, if_neg hw0]
          obtain ⟨⟨a, a1, a2, a3, a4, a5, a6⟩, -⟩ := hR.2.2.2 e he.1 he.2
          have hD := hA.2.2.2.2.2.2.2.2 e he.1 he.2
          rw [if_pos he, a1] at c34
          have c62 := c_62 (T := T) (J := J) (R := R) (G := G) (d := d - 1) (a := a) (by omega) hL hq
          refine ⟨zz_u (zz_u J (115 + 2 * k.toNat) 1 0) (115 + 2 * k.toNat) 3 0, mv_up (mv_up R (115 + 2 * k.toNat) 0 none) (115 + 2 * k.toNat) 0 (some a), ?_, fun x hx => by rw [zu_A (by omega), zu_A (by omega)], fun x i hx => ?_, ?_⟩
          · refine zz_c (zz_call (by omega) t_119 rfl (fun n => e_119 _ _ _ _ _) ?_)
            simp (maxSteps := 5000000) (disch := first | assumption | omega) only [c126, c34, c62, zi_H, zr_16_0, zr_16_1, zr_16_2, zr_16_3, zg_16_4, zp_16_4, zr_16_5, zr_16_6, zr_16_7, zr_16_8, zr_16_9, zr_16_10, zr_16_11, zr_16_12, zi_16, za_105, zs_105, zl_105, za_106, zs_106, zl_106, zl_107, za_114, zs_114, zl_114, zr_pl, za_pl, zs_pl, zl_pl, zz_0, zz_31, zz_add, zz_sub, zz_mul, zz_neg, zz_lt, zz_le, zz_eq, zz_div, zz_md, zz_dv, zz_abs, zz_max, zz_min, zz_nI, zz_be0, zz_be1, zz_zb, zz_z, zz_l0, zz_l, zz_lcmp, zo_rf, zo_nl, zo_nn, zo_rI, zo_rL, zo_rR, zo_rV, Int.add_zero, Int.zero_add, Int.mul_zero, Int.zero_mul, Int.one_mul, Int.mul_one, if_true, if_false, not_true_eq_false, not_false_eq_true, zg_L_0, zp_L_0, zg_L_1, zp_L_1, zg_L_2, zp_L_2, zg_L_3, zp_L_3, zg_L_4, zp_L_4, zg_L_5, zp_L_5, zg_L_6, zp_L_6, zg_L_7, zp_L_7, zi_L, zr_L_8, za_L_1, zs_L_1, zr_L_9, za_L_2, zs_L_2, zr_L_10, za_L_3, zs_L_3, zr_L_11, za_L_4, zs_L_4, zr_L_12, za_L_5, zs_L_5, zr_L_13, za_L_6, zs_L_6, zr_L_14, za_L_7, zs_L_7, zr_L_15, za_L_8, zs_L_8, zr_L_16, za_L_9, zs_L_9, zr_L_17, za_L_10, zs_L_10, zr_L_18, za_L_11, zs_L_11, zr_L_19, za_L_12, zs_L_12]
            refine zz_Ei (fun h => absurd h (by omega)) (fun _ => ?_)
            refine zz_Ei (fun _ => ?_) (fun h => absurd (by omega) h)
            exact zz_Ei (fun h => absurd h hw0) (fun _ => zz_Er rfl)
          · by_cases q : x = 115 + 2 * k.toNat
            · rw [zk_upk (fun q' => hx ⟨q', by omega, by omega⟩), zk_upk (fun q' => hx ⟨q', by omega, by omega⟩)]
            · rw [zk_upn q, zk_upn q]
          · refine zk_sh_s hs hk (Or.inr (Or.inl ⟨by rw [zw_n (by omega), zw_n (by omega), zw_s, zf_s], by rw [zu_k (by omega), zu_s], a, e, A (40 + 15 * e), A (41 + 15 * e), zk_up0, ⟨a2, a3, ?_, ?_, ?_, by omega, hD.1, hD.2.1⟩, by rw [zw_n (by omega), zw_s, zf_s], by rw [zw_s, zf_s]⟩)) (fun x x1 _ => by rw [zu_A x1, zu_A x1]) (fun x x1 => by rw [zk_upn x1, zk_upn x1]) (fun i hi => ⟨by rw [zw_n (by omega), zw_n (by omega), zw_s, zf_n hi], by rw [zw_n (by omega), zw_n (by omega), zw_n (by omega)], by rw [zw_n (by omega), zw_n (by omega), zw_n (by omega)], by rw [zw_n (by omega), zw_s, zf_n hi], by rw [zw_s, zf_n hi], fun y _ _ => by rw [zw_n (by omega), zw_n (by omega), zw_n (by omega)]⟩)
            · rw [zu_A (by omega), zu_A (by omega)]; exact a4
            · rw [zu_A (by omega), zu_A (by omega)]; exact a5
            · rw [zu_A (by omega), zu_A (by omega)]; exact a6
        · have hc : ¬ ((0 ≤ k ∧ k < 8) ∧ (0 ≤ w ∧ w ≤ 1) ∧ (w = 1 → 0 ≤ e ∧ e < A 7)) := fun q => he (q.2.2 (by omega))
          rw [zv_keep, zv_keepV, if_neg hc, if_neg hc]
          rw [if_neg he] at c34
          refine ⟨J, R, ?_, zk_os0 hs⟩
          refine zz_c (zz_call (by omega) t_119 rfl (fun n => e_119 _ _ _ _ _) ?_)
          simp (maxSteps := 5000000) (disch := first | assumption | omega) only [c126, c34, zr_16_0, zr_16_1, zr_16_2, zr_16_3, zg_16_4, zp_16_4, zr_16_5, zr_16_6, zr_16_7, zr_16_8, zr_16_9, zr_16_10, zr_16_11, zr_16_12, zi_16, za_105, zs_105, zl_105, za_106, zs_106, zl_106, zl_107, za_114, zs_114, zl_114, zr_pl, za_pl, zs_pl, zl_pl, zz_0, zz_31, zz_add, zz_sub, zz_mul, zz_neg, zz_lt, zz_le, zz_eq, zz_div, zz_md, zz_dv, zz_abs, zz_max, zz_min, zz_nI, zz_be0, zz_be1, zz_zb, zz_z, zz_l0, zz_l, zz_lcmp, zo_rf, zo_nl, zo_nn, zo_rI, zo_rL, zo_rR, zo_rV, Int.add_zero, Int.zero_add, Int.mul_zero, Int.zero_mul, Int.one_mul, Int.mul_one, if_true, if_false, not_true_eq_false, not_false_eq_true, zg_L_0, zp_L_0, zg_L_1, zp_L_1, zg_L_2, zp_L_2, zg_L_3, zp_L_3, zg_L_4, zp_L_4, zg_L_5, zp_L_5, zg_L_6, zp_L_6, zg_L_7, zp_L_7, zi_L, zr_L_8, za_L_1, zs_L_1, zr_L_9, za_L_2, zs_L_2, zr_L_10, za_L_3, zs_L_3, zr_L_11, za_L_4, zs_L_4, zr_L_12, za_L_5, zs_L_5, zr_L_13, za_L_6, zs_L_6, zr_L_14, za_L_7, zs_L_7, zr_L_15, za_L_8, zs_L_8, zr_L_16, za_L_9, zs_L_9, zr_L_17, za_L_10, zs_L_10, zr_L_18, za_L_11, zs_L_11, zr_L_19, za_L_12, zs_L_12]
          refine zz_Ei (fun h => absurd h (by omega)) (fun _ => ?_)
          refine zz_Ei (fun _ => ?_) (fun h => absurd (by omega) h)
          exact zz_Ei (fun h => absurd h hw0) (fun _ => zz_Er rfl)
    · have hc : ¬ ((0 ≤ k ∧ k < 8) ∧ (0 ≤ w ∧ w ≤ 1) ∧ (w = 1 → 0 ≤ e ∧ e < A 7)) := fun q => hw q.2.1
      rw [zv_keep, zv_keepV, if_neg hc, if_neg hc]
      refine ⟨J, R, ?_, zk_os0 hs⟩
      refine zz_c (zz_call (by omega) t_119 rfl (fun n => e_119 _ _ _ _ _) ?_)
      simp (maxSteps := 5000000) (disch := first | assumption | omega) only [zi_16, c126, zz_0, zz_31, zz_add, zz_sub, zz_mul, zz_neg, zz_lt, zz_le, zz_eq, zz_div, zz_md, zz_dv, zz_abs, zz_max, zz_min, zz_nI, zz_be0, zz_be1, zz_zb, zz_z, zz_l0, zz_l, zz_lcmp, zo_rf, zo_nl, zo_nn, zo_rI, zo_rL, zo_rR, zo_rV, Int.add_zero, Int.zero_add, Int.mul_zero, Int.zero_mul, Int.one_mul, Int.mul_one, if_true, if_false, not_true_eq_false, not_false_eq_true]
      refine zz_Ei (fun _ => zz_Er rfl) (fun g => ?_)
      refine zz_Ei (fun h => absurd (by omega) hw) (fun _ => zz_Er rfl)
  · have hc : ¬ ((0 ≤ k ∧ k < 8) ∧ (0 ≤ w ∧ w ≤ 1) ∧ (w = 1 → 0 ≤ e ∧ e < A 7)) := fun q => hk q.1
    rw [zv_keep, zv_keepV, if_neg hc, if_neg hc]
    rw [if_neg hk] at c126
    refine ⟨J, R, ?_, zk_os0 hs⟩
    refine zz_c (zz_call (by omega) t_119 rfl (fun n => e_119 _ _ _ _ _) ?_)
    simp (maxSteps := 5000000) (disch := first | assumption | omega) only [zi_16, c126, zz_0, zz_31, zz_add, zz_sub, zz_mul, zz_neg, zz_lt, zz_le, zz_eq, zz_div, zz_md, zz_dv, zz_abs, zz_max, zz_min, zz_nI, zz_be0, zz_be1, zz_zb, zz_z, zz_l0, zz_l, zz_lcmp, zo_rf, zo_nl, zo_nn, zo_rI, zo_rL, zo_rR, zo_rV, Int.add_zero, Int.zero_add, Int.mul_zero, Int.zero_mul, Int.one_mul, Int.mul_one, if_true, if_false, not_true_eq_false, not_false_eq_true]
    exact zz_Er rfl
theorem c_120 {s n : Int} (hd : 3 ≤ d) (hL : ZL T R) (hs : zk_sh T R J V) (h1 : zk_r32 k) (h2 : zk_r32 s) (h3 : zk_r32 n) : ∃ J' R', mv_cax d 120 [.inr (.inr (some 16)), .inl (mv_c k), .inl (mv_c s), .inl (mv_c n)] (zz_S T J R G) = some (some (.inl (mv_c (zv_row k s n))), zz_S T J' R' G) ∧ zk_os T R R' J J' (zv_rowV V k s n) := by
  obtain ⟨h1, h1'⟩ := h1
  obtain ⟨h2, h2'⟩ := h2
  obtain ⟨h3, h3'⟩ := h3
  have c126 := c_126 (T := T) (J := J) (R := R) (G := G) (d := d - 1) (k := k) (by omega) hL h1 h1'
  by_cases hk : 0 ≤ k ∧ k < 8
  · rw [if_pos hk] at c126
    have hq := zk_q hk.1 hk.2
    have h16 := zk_q16 hq
    by_cases hc : (0 ≤ k ∧ k < 8) ∧ (0 ≤ s ∧ s ≤ 2) ∧ 0 ≤ n ∧ n ≤ 100
    · rw [zv_row, zv_rowV, if_pos ⟨hk, hc.2.1, hc.2.2.2⟩, if_neg (by omega), if_pos hc]
      obtain ⟨J', c63, g1, g2, g3, g4, g5⟩ := c_63 (T := T) (J := J) (R := R) (G := G) (d := d - 1) (s := s) (n := n) (by omega) hL hq
      refine ⟨J', mv_up R (115 + 2 * k.toNat) 0 none, ?_, fun x hx => g5 x (by omega) (by omega), fun x i hx => ?_, ?_⟩
      rotate_left
      · by_cases q : x = 115 + 2 * k.toNat
        · exact zk_upk (fun q' => hx ⟨q', by omega, by omega⟩)
        · exact zk_upn q
      · refine zk_sh_s hs hk (Or.inr (Or.inr ⟨by rw [zw_n (by omega), zw_n (by omega), zw_n (by omega), zw_s, zf_s], g1, zk_up0, ⟨by rw [zw_n (by omega), zw_n (by omega), zw_s, zf_s]; exact g2, by rw [zw_n (by omega), zw_n (by omega), zw_s, zf_s]; exact hc.2.1⟩, ⟨by rw [zw_n (by omega), zw_s, zf_s]; exact g3, by rw [zw_n (by omega), zw_s, zf_s]; exact hc.2.2⟩, fun i i0 i1 => by rw [zw_s, if_pos (by omega)]; exact ⟨g4 i i0 i1, by omega, by omega⟩⟩)) g5 (fun x x1 => zk_upn x1) (fun i hi => ⟨by rw [zw_n (by omega), zw_n (by omega), zw_n (by omega), zw_s, zf_n hi], by rw [zw_n (by omega), zw_n (by omega), zw_s, zf_n hi], by rw [zw_n (by omega), zw_s, zf_n hi], by rw [zw_n (by omega), zw_n (by omega), zw_n (by omega), zw_n (by omega)], by rw [zw_n (by omega), zw_n (by omega), zw_n (by omega), zw_n (by omega)], fun y _ _ => by rw [zw_s, if_neg (by omega)]⟩)
      · refine zz_c (zz_call (by omega) t_120 rfl (fun n => e_120 _ _ _ _ _) ?_)
        simp (maxSteps := 5000000) (disch := first | assumption | omega) only [c126, c63, zi_H, zr_16_0, zr_16_1, zr_16_2, zr_16_3, zg_16_4, zp_16_4, zr_16_5, zr_16_6, zr_16_7, zr_16_8, zr_16_9, zr_16_10, zr_16_11, zr_16_12, zi_16, za_105, zs_105, zl_105, za_106, zs_106, zl_106, zl_107, za_114, zs_114, zl_114, zr_pl, za_pl, zs_pl, zl_pl, zz_0, zz_31, zz_add, zz_sub, zz_mul, zz_neg, zz_lt, zz_le, zz_eq, zz_div, zz_md, zz_dv, zz_abs, zz_max, zz_min, zz_nI, zz_be0, zz_be1, zz_zb, zz_z, zz_l0, zz_l, zz_lcmp, zo_rf, zo_nl, zo_nn, zo_rI, zo_rL, zo_rR, zo_rV, Int.add_zero, Int.zero_add, Int.mul_zero, Int.zero_mul, Int.one_mul, Int.mul_one, if_true, if_false, not_true_eq_false, not_false_eq_true, zg_L_0, zp_L_0, zg_L_1, zp_L_1, zg_L_2, zp_L_2, zg_L_3, zp_L_3, zg_L_4, zp_L_4, zg_L_5, zp_L_5, zg_L_6, zp_L_6, zg_L_7, zp_L_7, zi_L, zr_L_8, za_L_1, zs_L_1, zr_L_9, za_L_2, zs_L_2, zr_L_10, za_L_3, zs_L_3, zr_L_11, za_L_4, zs_L_4, zr_L_12, za_L_5, zs_L_5, zr_L_13, za_L_6, zs_L_6, zr_L_14, za_L_7, zs_L_7, zr_L_15, za_L_8, zs_L_8, zr_L_16, za_L_9, zs_L_9, zr_L_17, za_L_10, zs_L_10, zr_L_18, za_L_11, zs_L_11, zr_L_19, za_L_12, zs_L_12]
        refine zz_Ei (fun h => absurd h (by omega)) (fun _ => ?_)
        refine zz_Ei (fun h => absurd h (by omega)) (fun _ => ?_)
        refine zz_Ei (fun _ => ?_) (fun h => absurd (by omega) h)
        exact zz_Ei (fun _ => zz_Er rfl) (fun h => absurd (by omega) h)
    · rw [zv_rowV, if_neg hc]
      refine ⟨J, R, ?_, zk_os0 hs⟩
      refine zz_c (zz_call (by omega) t_120 rfl (fun n => e_120 _ _ _ _ _) ?_)
      simp (maxSteps := 5000000) (disch := first | assumption | omega) only [zi_16, c126, zz_0, zz_31, zz_add, zz_sub, zz_mul, zz_neg, zz_lt, zz_le, zz_eq, zz_div, zz_md, zz_dv, zz_abs, zz_max, zz_min, zz_nI, zz_be0, zz_be1, zz_zb, zz_z, zz_l0, zz_l, zz_lcmp, zo_rf, zo_nl, zo_nn, zo_rI, zo_rL, zo_rR, zo_rV, Int.add_zero, Int.zero_add, Int.mul_zero, Int.zero_mul, Int.one_mul, Int.mul_one, if_true, if_false, not_true_eq_false, not_false_eq_true]
      refine zz_Ei (fun h => zz_Er (by rw [zv_row, if_neg (by omega)])) (fun g1 => ?_)
      refine zz_Ei (fun h => zz_Er (by rw [zv_row, if_neg (by omega)])) (fun g2 => ?_)
      refine zz_Ei (fun g3 => ?_) (fun h => zz_Er (by rw [zv_row, if_neg (by omega)]))
      refine zz_Ei (fun g4 => absurd (by omega) hc) (fun h => zz_Er (by rw [zv_row, if_pos (by omega), if_pos (by omega)]))
  · rw [if_neg hk] at c126
    rw [zv_row, zv_rowV, if_neg (fun q => hk q.1), if_neg (fun q => hk q.1)]
    refine ⟨J, R, ?_, zk_os0 hs⟩
    refine zz_c (zz_call (by omega) t_120 rfl (fun n => e_120 _ _ _ _ _) ?_)
    simp (maxSteps := 5000000) (disch := first | assumption | omega) only [zi_16, c126, zz_0, zz_31, zz_add, zz_sub, zz_mul, zz_neg, zz_lt, zz_le, zz_eq, zz_div, zz_md, zz_dv, zz_abs, zz_max, zz_min, zz_nI, zz_be0, zz_be1, zz_zb, zz_z, zz_l0, zz_l, zz_lcmp, zo_rf, zo_nl, zo_nn, zo_rI, zo_rL, zo_rR, zo_rV, Int.add_zero, Int.zero_add, Int.mul_zero, Int.zero_mul, Int.one_mul, Int.mul_one, if_true, if_false, not_true_eq_false, not_false_eq_true]
    exact zz_Er rfl
theorem zv_wr_c (V : Nat → Int → Int) (k s : Int) : (zv_wr V k s = -1 ∧ ¬ (0 ≤ k ∧ k < 8)) ∨ ((0 ≤ k ∧ k < 8) ∧ ((zv_wr V k s = -11 ∧ V 135 k = 0) ∨ (zv_wr V k s = -12 ∧ V 135 k ≠ 0 ∧ ¬ (V 135 k = 2 ∧ (s < 0 ∨ V 136 k = s))) ∨ (zv_wr V k s = 0 ∧ V 135 k = 2 ∧ (s < 0 ∨ V 136 k = s)))) := by
  unfold zv_wr
  by_cases hk : 0 ≤ k ∧ k < 8
  · rw [if_pos hk]
    refine Or.inr ⟨hk, ?_⟩
    by_cases h0 : V 135 k = 0
    · rw [if_pos h0]
      exact Or.inl ⟨rfl, h0⟩
    · rw [if_neg h0]
      by_cases h : V 135 k = 2 ∧ (s < 0 ∨ V 136 k = s)
      · rw [if_pos h]
        exact Or.inr (Or.inr ⟨rfl, h⟩)
      · rw [if_neg h]
        exact Or.inr (Or.inl ⟨rfl, h0, h⟩)
  · rw [if_neg hk]
    exact Or.inl ⟨rfl, hk⟩
theorem zk_sq2 (h : zk_sq T R J V q k) (h2 : V 135 k = 2) : zk_ro R J V q k := by
  rcases h with h | h | h
  · omega
  · omega
  · exact h.2
theorem c_71 {i v : Int} (hd : 2 ≤ d) (hL : ZL T R) (hq : Shf q) (hs : zk_ro R J V q k) (i0 : 0 ≤ i) (i1 : i < V 137 k) : mv_cax d 71 [.inr (.inr (some q)), .inl (mv_c i), .inl (mv_c v)] (zz_S T J R G) = some (none, zz_S T (zz_u J (q + 1) i (zv_cv (V 136 k) v)) R G) := by
  have h100 := hs.2.2.2.1.2.2
  have c68 := c_68 (T := T) (J := J) (V := V) (R := R) (G := G) (d := d - 1) (q := q) (k := k) (i := i) (by omega) hL hq hs (by omega) (by omega)
  rw [zz_b_t ⟨i0, i1⟩] at c68
  obtain ⟨h3, h4, h5⟩ := hs.2.2.1
  rcases (show V 136 k = 0 ∨ V 136 k = 1 ∨ V 136 k = 2 by omega) with e | e | e
  · rw [e] at h3 ⊢
    refine zz_c (zz_call (by omega) t_71 rfl (fun n => e_71 _ _ _ _) ?_)
    simp (maxSteps := 5000000) (disch := first | assumption | omega) only [c68, h3, zk_cv0, zr_sh, zg_H_1, zp_H_1, zg_H_2, zp_H_2, zg_H_3, zp_H_3, zr_H_0, zq_H_0, zr_H_4, zi_H, za_H, zs_H, zl_H, zz_0, zz_31, zz_add, zz_sub, zz_mul, zz_neg, zz_lt, zz_le, zz_eq, zz_div, zz_md, zz_dv, zz_abs, zz_max, zz_min, zz_nI, zz_be0, zz_be1, zz_zb, zz_z, zz_l0, zz_l, zz_lcmp, zo_rf, zo_nl, zo_nn, zo_rI, zo_rL, zo_rR, zo_rV, Int.add_zero, Int.zero_add, Int.mul_zero, Int.zero_mul, Int.one_mul, Int.mul_one, if_true, if_false, not_true_eq_false, not_false_eq_true]
    try (refine zz_Ei (fun h => absurd (show (1 : Int) = 0 from h) (by omega)) (fun _ => ?_))
    exact zz_Er rfl
  · rw [e] at h3 ⊢
    refine zz_c (zz_call (by omega) t_71 rfl (fun n => e_71 _ _ _ _) ?_)
    simp (maxSteps := 5000000) (disch := first | assumption | omega) only [c68, h3, zk_cv1, zr_sh, zg_H_1, zp_H_1, zg_H_2, zp_H_2, zg_H_3, zp_H_3, zr_H_0, zq_H_0, zr_H_4, zi_H, za_H, zs_H, zl_H, zz_0, zz_31, zz_add, zz_sub, zz_mul, zz_neg, zz_lt, zz_le, zz_eq, zz_div, zz_md, zz_dv, zz_abs, zz_max, zz_min, zz_nI, zz_be0, zz_be1, zz_zb, zz_z, zz_l0, zz_l, zz_lcmp, zo_rf, zo_nl, zo_nn, zo_rI, zo_rL, zo_rR, zo_rV, Int.add_zero, Int.zero_add, Int.mul_zero, Int.zero_mul, Int.one_mul, Int.mul_one, if_true, if_false, not_true_eq_false, not_false_eq_true]
    repeat' (first | exact zz_Er rfl | refine zz_Ei (fun h => ?_) (fun g => ?_))
    all_goals (exfalso; omega)
  · rw [e] at h3 ⊢
    have ev : zv_cv 2 v = v := by
      unfold zv_cv
      rw [if_neg (by omega), if_neg (by omega)]
    rw [ev]
    refine zz_c (zz_call (by omega) t_71 rfl (fun n => e_71 _ _ _ _) ?_)
    simp (maxSteps := 5000000) (disch := first | assumption | omega) only [c68, h3, zr_sh, zg_H_1, zp_H_1, zg_H_2, zp_H_2, zg_H_3, zp_H_3, zr_H_0, zq_H_0, zr_H_4, zi_H, za_H, zs_H, zl_H, zz_0, zz_31, zz_add, zz_sub, zz_mul, zz_neg, zz_lt, zz_le, zz_eq, zz_div, zz_md, zz_dv, zz_abs, zz_max, zz_min, zz_nI, zz_be0, zz_be1, zz_zb, zz_z, zz_l0, zz_l, zz_lcmp, zo_rf, zo_nl, zo_nn, zo_rI, zo_rL, zo_rR, zo_rV, Int.add_zero, Int.zero_add, Int.mul_zero, Int.zero_mul, Int.one_mul, Int.mul_one, if_true, if_false, not_true_eq_false, not_false_eq_true]
    repeat' (first | exact zz_Er rfl | refine zz_Ei (fun h => ?_) (fun g => ?_))
    all_goals (exfalso; omega)
theorem c_121 {i v : Int} (hd : 3 ≤ d) (hL : ZL T R) (hs : zk_sh T R J V) (h1 : zk_r32 k) (h2 : zk_r32 i) (h3 : zk_r32 v) : ∃ J', mv_cax d 121 [.inr (.inr (some 16)), .inl (mv_c k), .inl (mv_c i), .inl (mv_c v)] (zz_S T J R G) = some (some (.inl (mv_c (zv_put V k i))), zz_S T J' R G) ∧ zk_os T R R J J' (zv_putV V k i v) := by
  have hv := h3
  obtain ⟨h1, h1'⟩ := h1
  obtain ⟨h2, h2'⟩ := h2
  have c126 := c_126 (T := T) (J := J) (R := R) (G := G) (d := d - 1) (k := k) (by omega) hL h1 h1'
  rcases zv_wr_c V k (-1) with ⟨e, hk⟩ | ⟨hk, h⟩
  · rw [zv_put, zv_putV, if_neg (by omega), if_neg (by omega), e]
    rw [if_neg hk] at c126
    refine ⟨J, ?_, zk_os0 hs⟩
    refine zz_c (zz_call (by omega) t_121 rfl (fun n => e_121 _ _ _ _ _) ?_)
    simp (maxSteps := 5000000) (disch := first | assumption | omega) only [zi_16, c126, zz_0, zz_31, zz_add, zz_sub, zz_mul, zz_neg, zz_lt, zz_le, zz_eq, zz_div, zz_md, zz_dv, zz_abs, zz_max, zz_min, zz_nI, zz_be0, zz_be1, zz_zb, zz_z, zz_l0, zz_l, zz_lcmp, zo_rf, zo_nl, zo_nn, zo_rI, zo_rL, zo_rR, zo_rV, Int.add_zero, Int.zero_add, Int.mul_zero, Int.zero_mul, Int.one_mul, Int.mul_one, if_true, if_false, not_true_eq_false, not_false_eq_true]
    exact zz_Er rfl
  · have hq := zk_q hk.1 hk.2
    have h16 := zk_q16 hq
    have c66 := c_66 (T := T) (J := J) (V := V) (R := R) (G := G) (d := d - 1) (k := k) (by omega) hL hq (hs k hk.1 hk.2) hk.1 hk.2
    rw [if_pos hk] at c126
    rcases h with ⟨e, h⟩ | ⟨e, h⟩ | ⟨e, h, -⟩
    · rw [zv_put, zv_putV, if_neg (by omega), if_neg (by omega)]
      rw [e] at c66 ⊢
      refine ⟨J, ?_, zk_os0 hs⟩
      refine zz_c (zz_call (by omega) t_121 rfl (fun n => e_121 _ _ _ _ _) ?_)
      simp (maxSteps := 5000000) (disch := first | assumption | omega) only [zi_16, zi_H, c126, c66, zz_0, zz_31, zz_add, zz_sub, zz_mul, zz_neg, zz_lt, zz_le, zz_eq, zz_div, zz_md, zz_dv, zz_abs, zz_max, zz_min, zz_nI, zz_be0, zz_be1, zz_zb, zz_z, zz_l0, zz_l, zz_lcmp, zo_rf, zo_nl, zo_nn, zo_rI, zo_rL, zo_rR, zo_rV, Int.add_zero, Int.zero_add, Int.mul_zero, Int.zero_mul, Int.one_mul, Int.mul_one, if_true, if_false, not_true_eq_false, not_false_eq_true]
      first
        | exact zz_Er rfl
        | exact zz_Ei (fun h => absurd h (by omega)) (fun _ => zz_Er rfl)
    · rw [zv_put, zv_putV, if_neg (by omega), if_neg (by omega)]
      rw [e] at c66 ⊢
      refine ⟨J, ?_, zk_os0 hs⟩
      refine zz_c (zz_call (by omega) t_121 rfl (fun n => e_121 _ _ _ _ _) ?_)
      simp (maxSteps := 5000000) (disch := first | assumption | omega) only [zi_16, zi_H, c126, c66, zz_0, zz_31, zz_add, zz_sub, zz_mul, zz_neg, zz_lt, zz_le, zz_eq, zz_div, zz_md, zz_dv, zz_abs, zz_max, zz_min, zz_nI, zz_be0, zz_be1, zz_zb, zz_z, zz_l0, zz_l, zz_lcmp, zo_rf, zo_nl, zo_nn, zo_rI, zo_rL, zo_rR, zo_rV, Int.add_zero, Int.zero_add, Int.mul_zero, Int.zero_mul, Int.one_mul, Int.mul_one, if_true, if_false, not_true_eq_false, not_false_eq_true]
      first
        | exact zz_Er rfl
        | exact zz_Ei (fun h => absurd h (by omega)) (fun _ => zz_Er rfl)
    · rw [e] at c66
      have hro := zk_sq2 (hs k hk.1 hk.2) h
      have c68 := c_68 (T := T) (J := J) (V := V) (R := R) (G := G) (d := d - 1) (k := k) (i := i) (by omega) hL hq hro h2 h2'
      by_cases hi : 0 ≤ i ∧ i < V 137 k
      · rw [zz_b_t hi] at c68
        have c71 := c_71 (T := T) (J := J) (V := V) (R := R) (G := G) (d := d - 1) (k := k) (i := i) (v := v) (by omega) hL hq hro hi.1 hi.2
        rw [zv_put, zv_putV, if_pos e, if_pos hi, if_pos ⟨e, hi⟩]
        refine ⟨zz_u J (115 + 2 * k.toNat + 1) i (zv_cv (V 136 k) v), ?_, fun x hx => ?_, fun _ _ _ => rfl, ?_⟩
        rotate_left
        · exact zu_A (by omega)
        · obtain ⟨r1, r2, r3, r4, r5⟩ := hro
          have h100 := r4.2.2
          refine zk_sh_s hs hk (Or.inr (Or.inr ⟨by rw [zw_n (by omega)]; exact h, by rw [zu_A (by omega)]; exact r1, r2, ?_, ?_, fun y y0 y1 => ?_⟩)) (fun x _ x2 => zu_A x2) (fun _ _ => rfl) (fun y hy => ⟨by rw [zw_n (by omega)], by rw [zw_n (by omega)], by rw [zw_n (by omega)], by rw [zw_n (by omega)], by rw [zw_n (by omega)], fun z _ _ => by rw [zw_s, zf_n (by omega)]⟩)
          · rw [zu_A (by omega), zw_n (by omega)]; exact r3
          · rw [zu_A (by omega), zw_n (by omega)]; exact r4
          · rw [zw_s]
            by_cases q : y = i
            · rw [q, zu_s, zf_s]
              exact ⟨rfl, zk_cvr hv⟩
            · rw [zu_k q, zf_n (by omega)]
              exact r5 y y0 y1
        · refine zz_c (zz_call (by omega) t_121 rfl (fun n => e_121 _ _ _ _ _) ?_)
          simp (maxSteps := 5000000) (disch := first | assumption | omega) only [zi_16, zi_H, c126, c66, c68, c71, zz_0, zz_31, zz_add, zz_sub, zz_mul, zz_neg, zz_lt, zz_le, zz_eq, zz_div, zz_md, zz_dv, zz_abs, zz_max, zz_min, zz_nI, zz_be0, zz_be1, zz_zb, zz_z, zz_l0, zz_l, zz_lcmp, zo_rf, zo_nl, zo_nn, zo_rI, zo_rL, zo_rR, zo_rV, Int.add_zero, Int.zero_add, Int.mul_zero, Int.zero_mul, Int.one_mul, Int.mul_one, if_true, if_false, not_true_eq_false, not_false_eq_true]
          try (refine zz_Ei (fun h => absurd (show (1 : Int) = 0 from h) (by omega)) (fun _ => ?_))
          exact zz_Er rfl
      · rw [zz_b_f hi] at c68
        rw [zv_put, zv_putV, if_pos e, if_neg hi, if_neg (fun q => hi q.2)]
        refine ⟨J, ?_, zk_os0 hs⟩
        refine zz_c (zz_call (by omega) t_121 rfl (fun n => e_121 _ _ _ _ _) ?_)
        simp (maxSteps := 5000000) (disch := first | assumption | omega) only [zi_16, zi_H, c126, c66, c68, zz_0, zz_31, zz_add, zz_sub, zz_mul, zz_neg, zz_lt, zz_le, zz_eq, zz_div, zz_md, zz_dv, zz_abs, zz_max, zz_min, zz_nI, zz_be0, zz_be1, zz_zb, zz_z, zz_l0, zz_l, zz_lcmp, zo_rf, zo_nl, zo_nn, zo_rI, zo_rL, zo_rR, zo_rV, Int.add_zero, Int.zero_add, Int.mul_zero, Int.zero_mul, Int.one_mul, Int.mul_one, if_true, if_false, not_true_eq_false, not_false_eq_true]
        exact zz_Er rfl
end ZSHW
