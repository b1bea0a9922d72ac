/-! PURE LAYER, 80: texts: the class reads a statement -/
def zt_tm (J J1 : Nat → Int → Int) (i : Int) (l : List Int) : Prop := (∀ x, x ≠ 70 → x ≠ 72 → J1 x = J x) ∧ (∀ y, y ≠ 2 → y ≠ 3 → J1 70 y = J 70 y) ∧ J1 70 2 = i ∧ J1 70 3 = (l.length : Int) ∧ ∀ k : Nat, k < l.length → J1 72 k = l.getD k 0
theorem zt_tm_s {J J1 : Nat → Int → Int} {i i' : Int} {l : List Int} (h : zt_tm J J1 i l) : zt_tm J (zz_u J1 70 2 i') i' l := ⟨fun x x1 x2 => by rw [zu_A x1]; exact h.1 x x1 x2, fun y y1 y2 => by rw [zu_k y1]; exact h.2.1 y y1 y2, zu_s, by rw [zu_k (by omega)]; exact h.2.2.2.1, fun k hk => by rw [zu_A (by omega)]; exact h.2.2.2.2 k hk⟩
theorem zt_tm_n {J J1 : Nat → Int → Int} {i i' v : Int} {l : List Int} (h : zt_tm J J1 i l) : zt_tm J (zt_fi J1 (l.length : Int) i' v) i' (l ++ [v]) := by
  unfold zt_fi
  refine ⟨fun x x1 x2 => by rw [zu_A x1, zu_A x2, zu_A x1]; exact h.1 x x1 x2, fun y y1 y2 => by rw [zu_k y2, zu_A (by omega), zu_k y1]; exact h.2.1 y y1 y2, by rw [zu_k (by omega), zu_A (by omega), zu_s], by rw [zu_s, List.length_append]; rfl, fun k hk => ?_⟩
  rw [List.length_append] at hk
  have hk : k < l.length + 1 := hk
  rw [zu_A (by omega)]
  by_cases e : k = l.length
  · rw [e, zu_s, List.getD_eq_getElem?_getD, List.getElem?_append_right (Nat.le_refl _), Nat.sub_self]
    rfl
  · rw [zu_k (by omega), zu_A (by omega), h.2.2.2.2 k (by omega), List.getD_eq_getElem?_getD, List.getD_eq_getElem?_getD, List.getElem?_append_left (by omega)]
def zt_ns : List Nat → Nat
  | [] => 0
  | c :: r => if c = 68 ∨ c = 78 then zt_ns r + 1 else zt_ns r
def zt_vals : List Nat → List Int → Prop
  | [], l => l = []
  | c :: r, l => if c = 68 then (∃ v l', l = v :: l' ∧ (0 ≤ v ∧ v ≤ 9) ∧ zt_vals r l') else if c = 78 then (∃ v l', l = v :: l' ∧ (0 ≤ v ∧ v ≤ 999) ∧ zt_vals r l') else zt_vals r l
theorem zt_rd_r {B : Int → Int} {N : Int} : ∀ (r : List Nat) (i : Int) (l : List Int), i ≤ N → i ≤ (zt_rd B N r i l).2.1 ∧ (zt_rd B N r i l).2.1 ≤ N ∧ ((zt_rd B N r i l).1 = true → ∃ l', (zt_rd B N r i l).2.2 = l ++ l' ∧ zt_vals r l')
  | [], i, l, h => ⟨Int.le_refl _, h, fun _ => ⟨[], (List.append_nil l).symm, rfl⟩⟩
  | c :: r, i, l, h => by
    have num : ∀ m : Nat, m ≤ 2 → zt_dg B N i → i ≤ (zt_nl B N m (i + 1) (B i - 48)).1 ∧ (zt_nl B N m (i + 1) (B i - 48)).1 ≤ N ∧ 0 ≤ (zt_nl B N m (i + 1) (B i - 48)).2 ∧ (zt_nl B N m (i + 1) (B i - 48)).2 ≤ 999 := by
      intro m hm hd
      obtain ⟨g1, g2, g3⟩ := hd
      have := zt_nl_r (B := B) (N := N) m (i + 1) (B i - 48) (by omega) (by omega) hm (by
        rcases (show m = 0 ∨ m = 1 ∨ m = 2 by omega) with rfl | rfl | rfl <;> omega)
      omega
    have hrd : zt_rd B N (c :: r) i l = if c = 68 then (if zt_dg B N i then zt_rd B N r (zt_nl B N 0 (i + 1) (B i - 48)).1 (l ++ [(zt_nl B N 0 (i + 1) (B i - 48)).2]) else (false, i, l)) else if c = 78 then (if zt_dg B N i then zt_rd B N r (zt_nl B N 2 (i + 1) (B i - 48)).1 (l ++ [(zt_nl B N 2 (i + 1) (B i - 48)).2]) else (false, i, l)) else if i < N ∧ B i = c then zt_rd B N r (i + 1) l else (false, i, l) := rfl
    have hvl : ∀ L, zt_vals (c :: r) L = if c = 68 then (∃ v l', L = v :: l' ∧ (0 ≤ v ∧ v ≤ 9) ∧ zt_vals r l') else if c = 78 then (∃ v l', L = v :: l' ∧ (0 ≤ v ∧ v ≤ 999) ∧ zt_vals r l') else zt_vals r L := fun _ => rfl
    by_cases c1 : c = 68
    · have hvl' : ∀ L, zt_vals (c :: r) L = (∃ v l', L = v :: l' ∧ (0 ≤ v ∧ v ≤ 9) ∧ zt_vals r l') := fun L => by rw [hvl, if_pos c1]
      rw [if_pos c1] at hrd
      by_cases hd : zt_dg B N i
      · rw [if_pos hd] at hrd
        rw [hrd]
        have hv := num 0 (by omega) hd
        obtain ⟨q1, q2, q3⟩ := zt_rd_r r (zt_nl B N 0 (i + 1) (B i - 48)).1 (l ++ [(zt_nl B N 0 (i + 1) (B i - 48)).2]) hv.2.1
        refine ⟨by omega, q2, fun h => ?_⟩
        obtain ⟨l', e1, e2⟩ := q3 h
        refine ⟨(zt_nl B N 0 (i + 1) (B i - 48)).2 :: l', by rw [e1, List.append_assoc]; rfl, ?_⟩
        rw [hvl']
        refine ⟨_, l', rfl, ?_, e2⟩
        obtain ⟨g1, g2, g3⟩ := hd
        show 0 ≤ B i - 48 ∧ B i - 48 ≤ 9
        omega
      · rw [if_neg hd] at hrd
        rw [hrd]
        exact ⟨Int.le_refl _, h, fun h => by cases h⟩
    · rw [if_neg c1] at hrd
      by_cases c2 : c = 78
      · have hvl' : ∀ L, zt_vals (c :: r) L = (∃ v l', L = v :: l' ∧ (0 ≤ v ∧ v ≤ 999) ∧ zt_vals r l') := fun L => by rw [hvl, if_neg c1, if_pos c2]
        rw [if_pos c2] at hrd
        by_cases hd : zt_dg B N i
        · rw [if_pos hd] at hrd
          rw [hrd]
          have hv := num 2 (by omega) hd
          obtain ⟨q1, q2, q3⟩ := zt_rd_r r (zt_nl B N 2 (i + 1) (B i - 48)).1 (l ++ [(zt_nl B N 2 (i + 1) (B i - 48)).2]) hv.2.1
          refine ⟨by omega, q2, fun h => ?_⟩
          obtain ⟨l', e1, e2⟩ := q3 h
          refine ⟨(zt_nl B N 2 (i + 1) (B i - 48)).2 :: l', by rw [e1, List.append_assoc]; rfl, ?_⟩
          rw [hvl']
          exact ⟨_, l', rfl, hv.2.2, e2⟩
        · rw [if_neg hd] at hrd
          rw [hrd]
          exact ⟨Int.le_refl _, h, fun h => by cases h⟩
      · have hvl' : ∀ L, zt_vals (c :: r) L = zt_vals r L := fun L => by rw [hvl, if_neg c1, if_neg c2]
        rw [if_neg c2] at hrd
        by_cases hd : i < N ∧ B i = c
        · rw [if_pos hd] at hrd
          rw [hrd]
          obtain ⟨q1, q2, q3⟩ := zt_rd_r (B := B) (N := N) r (i + 1) l (by omega)
          refine ⟨by omega, q2, fun h => ?_⟩
          obtain ⟨l', e1, e2⟩ := q3 h
          exact ⟨l', e1, by rw [hvl']; exact e2⟩
        · rw [if_neg hd] at hrd
          rw [hrd]
          exact ⟨Int.le_refl _, h, fun h => by cases h⟩
section ZSTM
variable {T : List mv_T} {J : Nat → Int → Int} {R : Nat → Nat → Option Nat} {G : Nat → Nat → Int64} {d q : Nat} {B : Int → Int} {N i : Int}
theorem zt_eq {a b : Int} (h1 : -2147483648 ≤ a) (h2 : a ≤ 2147483647) (h3 : -2147483648 ≤ b) (h4 : b ≤ 2147483647) (h : mv_c a = mv_c b) : a = b := by
  rw [zz_eq h1 h2 h3 h4] at h
  exact h
theorem c_79 {c : Int} {σ : mv_S} (hd : 1 ≤ d) (h1 : -2147483648 ≤ c) (h2 : c ≤ 2147483647) : mv_cax d 79 [.inl (mv_c c)] σ = some (some (.inr (.inr (some (zt_fn c)))), σ) := by
  refine zz_c (zz_call (by omega) t_79 rfl (fun n => e_79 _ _) ?_)
  refine zz_Ei (fun h => zz_Er (by rw [zt_eq h1 h2 (by omega) (by omega) h]; rfl)) (fun g => ?_)
  have n98 : c ≠ 98 := fun e => g (by rw [e])
  clear g
  refine zz_Ei (fun h => zz_Er (by rw [zt_eq h1 h2 (by omega) (by omega) h]; rfl)) (fun g => ?_)
  have n99 : c ≠ 99 := fun e => g (by rw [e])
  clear g
  refine zz_Ei (fun h => zz_Er (by rw [zt_eq h1 h2 (by omega) (by omega) h]; rfl)) (fun g => ?_)
  have n100 : c ≠ 100 := fun e => g (by rw [e])
  clear g
  refine zz_Ei (fun h => zz_Er (by rw [zt_eq h1 h2 (by omega) (by omega) h]; rfl)) (fun g => ?_)
  have n101 : c ≠ 101 := fun e => g (by rw [e])
  clear g
  refine zz_Ei (fun h => zz_Er (by rw [zt_eq h1 h2 (by omega) (by omega) h]; rfl)) (fun g => ?_)
  have n102 : c ≠ 102 := fun e => g (by rw [e])
  clear g
  refine zz_Ei (fun h => zz_Er (by rw [zt_eq h1 h2 (by omega) (by omega) h]; rfl)) (fun g => ?_)
  have n103 : c ≠ 103 := fun e => g (by rw [e])
  clear g
  refine zz_Ei (fun h => zz_Er (by rw [zt_eq h1 h2 (by omega) (by omega) h]; rfl)) (fun g => ?_)
  have n104 : c ≠ 104 := fun e => g (by rw [e])
  clear g
  refine zz_Ei (fun h => zz_Er (by rw [zt_eq h1 h2 (by omega) (by omega) h]; rfl)) (fun g => ?_)
  have n105 : c ≠ 105 := fun e => g (by rw [e])
  clear g
  refine zz_Ei (fun h => zz_Er (by rw [zt_eq h1 h2 (by omega) (by omega) h]; rfl)) (fun g => ?_)
  have n106 : c ≠ 106 := fun e => g (by rw [e])
  clear g
  refine zz_Ei (fun h => zz_Er (by rw [zt_eq h1 h2 (by omega) (by omega) h]; rfl)) (fun g => ?_)
  have n107 : c ≠ 107 := fun e => g (by rw [e])
  clear g
  refine zz_Ei (fun h => zz_Er (by rw [zt_eq h1 h2 (by omega) (by omega) h]; rfl)) (fun g => ?_)
  have n108 : c ≠ 108 := fun e => g (by rw [e])
  clear g
  refine zz_Ei (fun h => zz_Er (by rw [zt_eq h1 h2 (by omega) (by omega) h]; rfl)) (fun g => ?_)
  have n109 : c ≠ 109 := fun e => g (by rw [e])
  clear g
  refine zz_Ei (fun h => zz_Er (by rw [zt_eq h1 h2 (by omega) (by omega) h]; rfl)) (fun g => ?_)
  have n110 : c ≠ 110 := fun e => g (by rw [e])
  clear g
  refine zz_Ei (fun h => zz_Er (by rw [zt_eq h1 h2 (by omega) (by omega) h]; rfl)) (fun g => ?_)
  have n111 : c ≠ 111 := fun e => g (by rw [e])
  clear g
  refine zz_Ei (fun h => zz_Er (by rw [zt_eq h1 h2 (by omega) (by omega) h]; rfl)) (fun g => ?_)
  have n112 : c ≠ 112 := fun e => g (by rw [e])
  clear g
  refine zz_Ei (fun h => zz_Er (by rw [zt_eq h1 h2 (by omega) (by omega) h]; rfl)) (fun g => ?_)
  have n113 : c ≠ 113 := fun e => g (by rw [e])
  clear g
  refine zz_Ei (fun h => zz_Er (by rw [zt_eq h1 h2 (by omega) (by omega) h]; rfl)) (fun g => ?_)
  have n114 : c ≠ 114 := fun e => g (by rw [e])
  clear g
  refine zz_Ei (fun h => zz_Er (by rw [zt_eq h1 h2 (by omega) (by omega) h]; rfl)) (fun g => ?_)
  have n115 : c ≠ 115 := fun e => g (by rw [e])
  clear g
  refine zz_Ei (fun h => zz_Er (by rw [zt_eq h1 h2 (by omega) (by omega) h]; rfl)) (fun g => ?_)
  have n116 : c ≠ 116 := fun e => g (by rw [e])
  clear g
  refine zz_Ei (fun h => zz_Er (by rw [zt_eq h1 h2 (by omega) (by omega) h]; rfl)) (fun g => ?_)
  have n117 : c ≠ 117 := fun e => g (by rw [e])
  clear g
  refine zz_Ei (fun h => zz_Er (by rw [zt_eq h1 h2 (by omega) (by omega) h]; rfl)) (fun g => ?_)
  have n118 : c ≠ 118 := fun e => g (by rw [e])
  clear g
  refine zz_Ei (fun h => zz_Er (by rw [zt_eq h1 h2 (by omega) (by omega) h]; rfl)) (fun g => ?_)
  have n119 : c ≠ 119 := fun e => g (by rw [e])
  clear g
  exact zz_Er (by rw [zt_fn, if_neg (by omega), if_neg (by omega), if_neg (by omega), if_neg (by omega), if_neg (by omega)])
theorem zt_str : ∀ a : Nat, 1 ≤ a → a ≤ 6 → (∀ k : List Nat → mv_O, mo_str a k = k (mv_str a)) ∧ (mv_str a).length ≤ 6 ∧ (∀ c ∈ mv_str a, c ≤ 100) ∧ zt_ns (mv_str a) ≤ 4 ∧ (a ≠ 6 → 0 < (mv_str a).length) := by
  intro a h1 h2
  refine ⟨fun k => if_pos ⟨h1, h2⟩, ?_⟩
  rcases (show a = 1 ∨ a = 2 ∨ a = 3 ∨ a = 4 ∨ a = 5 ∨ a = 6 by omega) with rfl | rfl | rfl | rfl | rfl | rfl <;> decide
theorem c_80l {a : Nat} (hd : 3 ≤ d) (hL : ZL T R) (ht : zt_tx R J q B N) (ha1 : 1 ≤ a) (ha2 : a ≤ 6) : ∀ (r pre : List Nat) (i y : Int) (l : List Int) (J1 : Nat → Int → Int), mv_str a = pre ++ r → y = (pre.length : Int) → 0 ≤ i → i ≤ N → l.length + zt_ns r ≤ 4 → zt_tm J J1 i l →
    zz_E (fun n => mv_run (mv_cax d) mm_80 n 55 [(0, .inr (.inr (some 70))), (1, .inr (.inr (some a))), (2, .inl (mv_c y))] [] (zz_S T J1 R G)) (fun s => ∃ J2, s = (some (.inl (mv_c (if (zt_rd B N r i l).1 = true then 1 else 0))), zz_S T J2 R G) ∧ zt_tm J J2 (zt_rd B N r i l).2.1 (zt_rd B N r i l).2.2) := by
  obtain ⟨hs, hlen, hc100, -, -⟩ := zt_str a ha1 ha2
  have h16 := zk_q16 ht.1
  intro r
  induction r with
  | nil =>
    intro pre i y l J1 hp hy i0 i1 hl hm
    have hpl : (mv_str a).length = pre.length := by rw [hp, List.append_nil]
    refine zz_Es (fun n => e_80_55 _ _ _ _) ?_
    simp (maxSteps := 5000000) (disch := first | assumption | omega) only [hs, zz_nI, zz_z, zr_70_0, zq_70_0, zg_70_1, zp_70_1, zg_70_2, zp_70_2, zg_70_3, zp_70_3, zr_70_4, zi_70, za_72, zs_72, zl_72, zz_0, zz_31, zz_add, zz_sub, zz_mul, zz_neg, zz_lt, zz_le, zz_eq, zz_div, zz_md, zz_dv, zz_abs, zz_max, zz_min, zz_nI, zz_be0, zz_be1, zz_zb, zz_z, zz_l0, zz_l, zz_lcmp, zo_rf, zo_nl, zo_nn, zo_rI, zo_rL, zo_rR, zo_rV, Int.add_zero, Int.zero_add, Int.mul_zero, Int.zero_mul, Int.one_mul, Int.mul_one, if_true, if_false, not_true_eq_false, not_false_eq_true]
    refine zz_Ei (fun _ => ?_) (fun h => absurd (by omega) h)
    exact zz_Er ⟨J1, rfl, hm⟩
  | cons c r ih =>
    intro pre i y l J1 hp hy i0 i1 hl hm
    have hpl : (mv_str a).length = pre.length + (r.length + 1) := by rw [hp, List.length_append, List.length_cons]
    have hget : (mv_str a).getD y.toNat 0 = c := by
      rw [hp, hy, Int.toNat_natCast, List.getD_eq_getElem?_getD, List.getElem?_append_right (Nat.le_refl _), Nat.sub_self]
      rfl
    have hc : c ≤ 100 := hc100 c (by rw [hp]; exact List.mem_append_right _ List.mem_cons_self)
    have ht1 : zt_tx R J1 q B N := zt_tx_f ht (hm.2.1 1 (by omega) (by omega)) (hm.1 (q + 1) (by omega) (by omega))
    have hns : zt_ns (c :: r) = if c = 68 ∨ c = 78 then zt_ns r + 1 else zt_ns r := rfl
    have ih' := fun (i' : Int) (l' : List Int) (J2 : Nat → Int → Int) (h1 : 0 ≤ i') (h2 : i' ≤ N) (h3 : l'.length + zt_ns r ≤ 4) (h4 : zt_tm J J2 i' l') => ih (pre ++ [c]) i' (y + 1) l' J2 (by rw [hp, List.append_assoc]; rfl) (by rw [List.length_append, hy]; rfl) h1 h2 h3 h4
    have hrd : zt_rd B N (c :: r) i l = if c = 68 then (if zt_dg B N i then zt_rd B N r (zt_nl B N 0 (i + 1) (B i - 48)).1 (l ++ [(zt_nl B N 0 (i + 1) (B i - 48)).2]) else (false, i, l)) else if c = 78 then (if zt_dg B N i then zt_rd B N r (zt_nl B N 2 (i + 1) (B i - 48)).1 (l ++ [(zt_nl B N 2 (i + 1) (B i - 48)).2]) else (false, i, l)) else if i < N ∧ B i = c then zt_rd B N r (i + 1) l else (false, i, l) := rfl
    refine zz_Es (fun n => e_80_55 _ _ _ _) ?_
    by_cases hcn : c = 68 ∨ c = 78
    · rw [if_pos hcn] at hns
      rw [hns] at hl
      have hfl : 0 ≤ (l.length : Int) ∧ (l.length : Int) < 4 := by omega
      have rng : ∀ m : Nat, m ≤ 2 → zt_dg B N i → 0 ≤ (zt_nl B N m (i + 1) (B i - 48)).1 ∧ (zt_nl B N m (i + 1) (B i - 48)).1 ≤ N := by
        intro m hm hd
        obtain ⟨g1, g2, g3⟩ := hd
        have := zt_nl_r (B := B) (N := N) m (i + 1) (B i - 48) (by omega) (by omega) hm (by
          rcases (show m = 0 ∨ m = 1 ∨ m = 2 by omega) with rfl | rfl | rfl <;> omega)
        omega
      rcases hcn with e | e
      · subst e
        rw [if_pos rfl] at hrd
        have c82 := c_82 (T := T) (J := J1) (R := R) (G := G) (d := d) (f := (l.length : Int)) (m := 0) (by omega) hL ht1 hm.2.2.1 i0 i1 hm.2.2.2.1 hfl.1 hfl.2 (by omega)
        by_cases hd' : zt_dg B N i
        · rw [if_pos hd'] at hrd
          have c82' := c82.1 hd'
          have r0 := rng 0 (by omega) hd'
          rw [show ((0 : Nat) : Int) + 1 = 1 by omega] at c82'
          rw [hrd]
          simp (maxSteps := 5000000) (disch := first | assumption | omega) only [zi_70, hs, hget, zz_nI, zz_ix, c82', zr_70_0, zq_70_0, zg_70_1, zp_70_1, zg_70_2, zp_70_2, zg_70_3, zp_70_3, zr_70_4, zi_70, za_72, zs_72, zl_72, zz_0, zz_31, zz_add, zz_sub, zz_mul, zz_neg, zz_lt, zz_le, zz_eq, zz_div, zz_md, zz_dv, zz_abs, zz_max, zz_min, zz_nI, zz_be0, zz_be1, zz_zb, zz_z, zz_l0, zz_l, zz_lcmp, zo_rf, zo_nl, zo_nn, zo_rI, zo_rL, zo_rR, zo_rV, Int.add_zero, Int.zero_add, Int.mul_zero, Int.zero_mul, Int.one_mul, Int.mul_one, if_true, if_false, not_true_eq_false, not_false_eq_true]
          refine zz_Ei (fun h => absurd h (by omega)) (fun _ => ?_)
          first
            | exact ih' _ _ _ r0.1 r0.2 (by rw [List.length_append]; show l.length + 1 + zt_ns r ≤ 4; omega) (zt_tm_n hm)
            | (refine zz_Ei (fun _ => ?_) (fun h => absurd rfl h)
               try (refine zz_Ei (fun h => absurd (show (1 : Int) = 0 from h) (by omega)) (fun _ => ?_))
               exact ih' _ _ _ r0.1 r0.2 (by rw [List.length_append]; show l.length + 1 + zt_ns r ≤ 4; omega) (zt_tm_n hm))
            | (try (refine zz_Ei (fun h => absurd (show (1 : Int) = 0 from h) (by omega)) (fun _ => ?_))
               exact ih' _ _ _ r0.1 r0.2 (by rw [List.length_append]; show l.length + 1 + zt_ns r ≤ 4; omega) (zt_tm_n hm))
        · rw [if_neg hd'] at hrd
          have c82' := c82.2 hd'
          rw [show ((0 : Nat) : Int) + 1 = 1 by omega] at c82'
          rw [hrd]
          simp (maxSteps := 5000000) (disch := first | assumption | omega) only [zi_70, hs, hget, zz_nI, zz_ix, c82', zz_z, zr_70_0, zq_70_0, zg_70_1, zp_70_1, zg_70_2, zp_70_2, zg_70_3, zp_70_3, zr_70_4, zi_70, za_72, zs_72, zl_72, zz_0, zz_31, zz_add, zz_sub, zz_mul, zz_neg, zz_lt, zz_le, zz_eq, zz_div, zz_md, zz_dv, zz_abs, zz_max, zz_min, zz_nI, zz_be0, zz_be1, zz_zb, zz_z, zz_l0, zz_l, zz_lcmp, zo_rf, zo_nl, zo_nn, zo_rI, zo_rL, zo_rR, zo_rV, Int.add_zero, Int.zero_add, Int.mul_zero, Int.zero_mul, Int.one_mul, Int.mul_one, if_true, if_false, not_true_eq_false, not_false_eq_true]
          refine zz_Ei (fun h => absurd h (by omega)) (fun _ => ?_)
          first
            | exact zz_Er ⟨J1, by rw [if_neg (by decide)], hm⟩
            | (refine zz_Ei (fun _ => ?_) (fun h => absurd rfl h)
               exact zz_Er ⟨J1, by rw [if_neg (by decide)], hm⟩)
      · subst e
        rw [if_neg (by omega), if_pos rfl] at hrd
        have c82 := c_82 (T := T) (J := J1) (R := R) (G := G) (d := d) (f := (l.length : Int)) (m := 2) (by omega) hL ht1 hm.2.2.1 i0 i1 hm.2.2.2.1 hfl.1 hfl.2 (by omega)
        by_cases hd' : zt_dg B N i
        · rw [if_pos hd'] at hrd
          have c82' := c82.1 hd'
          have r0 := rng 2 (by omega) hd'
          rw [show ((2 : Nat) : Int) + 1 = 3 by omega] at c82'
          rw [hrd]
          simp (maxSteps := 5000000) (disch := first | assumption | omega) only [zi_70, hs, hget, zz_nI, zz_ix, c82', zr_70_0, zq_70_0, zg_70_1, zp_70_1, zg_70_2, zp_70_2, zg_70_3, zp_70_3, zr_70_4, zi_70, za_72, zs_72, zl_72, zz_0, zz_31, zz_add, zz_sub, zz_mul, zz_neg, zz_lt, zz_le, zz_eq, zz_div, zz_md, zz_dv, zz_abs, zz_max, zz_min, zz_nI, zz_be0, zz_be1, zz_zb, zz_z, zz_l0, zz_l, zz_lcmp, zo_rf, zo_nl, zo_nn, zo_rI, zo_rL, zo_rR, zo_rV, Int.add_zero, Int.zero_add, Int.mul_zero, Int.zero_mul, Int.one_mul, Int.mul_one, if_true, if_false, not_true_eq_false, not_false_eq_true]
          refine zz_Ei (fun h => absurd h (by omega)) (fun _ => ?_)
          refine zz_Ei (fun h => absurd h (by omega)) (fun _ => ?_)
          first
            | exact ih' _ _ _ r0.1 r0.2 (by rw [List.length_append]; show l.length + 1 + zt_ns r ≤ 4; omega) (zt_tm_n hm)
            | (refine zz_Ei (fun _ => ?_) (fun h => absurd rfl h)
               try (refine zz_Ei (fun h => absurd (show (1 : Int) = 0 from h) (by omega)) (fun _ => ?_))
               exact ih' _ _ _ r0.1 r0.2 (by rw [List.length_append]; show l.length + 1 + zt_ns r ≤ 4; omega) (zt_tm_n hm))
            | (try (refine zz_Ei (fun h => absurd (show (1 : Int) = 0 from h) (by omega)) (fun _ => ?_))
               exact ih' _ _ _ r0.1 r0.2 (by rw [List.length_append]; show l.length + 1 + zt_ns r ≤ 4; omega) (zt_tm_n hm))
        · rw [if_neg hd'] at hrd
          have c82' := c82.2 hd'
          rw [show ((2 : Nat) : Int) + 1 = 3 by omega] at c82'
          rw [hrd]
          simp (maxSteps := 5000000) (disch := first | assumption | omega) only [zi_70, hs, hget, zz_nI, zz_ix, c82', zz_z, zr_70_0, zq_70_0, zg_70_1, zp_70_1, zg_70_2, zp_70_2, zg_70_3, zp_70_3, zr_70_4, zi_70, za_72, zs_72, zl_72, zz_0, zz_31, zz_add, zz_sub, zz_mul, zz_neg, zz_lt, zz_le, zz_eq, zz_div, zz_md, zz_dv, zz_abs, zz_max, zz_min, zz_nI, zz_be0, zz_be1, zz_zb, zz_z, zz_l0, zz_l, zz_lcmp, zo_rf, zo_nl, zo_nn, zo_rI, zo_rL, zo_rR, zo_rV, Int.add_zero, Int.zero_add, Int.mul_zero, Int.zero_mul, Int.one_mul, Int.mul_one, if_true, if_false, not_true_eq_false, not_false_eq_true]
          refine zz_Ei (fun h => absurd h (by omega)) (fun _ => ?_)
          refine zz_Ei (fun h => absurd h (by omega)) (fun _ => ?_)
          first
            | exact zz_Er ⟨J1, by rw [if_neg (by decide)], hm⟩
            | (refine zz_Ei (fun _ => ?_) (fun h => absurd rfl h)
               exact zz_Er ⟨J1, by rw [if_neg (by decide)], hm⟩)
    · rw [if_neg hcn] at hns
      rw [hns] at hl
      rw [if_neg (fun h => hcn (Or.inl h)), if_neg (fun h => hcn (Or.inr h))] at hrd
      have c81 := c_81 (T := T) (J := J1) (R := R) (G := G) (d := d) (c := (c : Int)) (by omega) hL ht1 hm.2.2.1 i0 i1 (by omega) (by omega)
      by_cases hd' : i < N ∧ B i = c
      · rw [if_pos hd'] at hrd
        have c81' := c81.1 hd'
        rw [hrd]
        simp (maxSteps := 5000000) (disch := first | assumption | omega) only [zi_70, hs, hget, zz_nI, zz_ix, c81', zr_70_0, zq_70_0, zg_70_1, zp_70_1, zg_70_2, zp_70_2, zg_70_3, zp_70_3, zr_70_4, zi_70, za_72, zs_72, zl_72, zz_0, zz_31, zz_add, zz_sub, zz_mul, zz_neg, zz_lt, zz_le, zz_eq, zz_div, zz_md, zz_dv, zz_abs, zz_max, zz_min, zz_nI, zz_be0, zz_be1, zz_zb, zz_z, zz_l0, zz_l, zz_lcmp, zo_rf, zo_nl, zo_nn, zo_rI, zo_rL, zo_rR, zo_rV, Int.add_zero, Int.zero_add, Int.mul_zero, Int.zero_mul, Int.one_mul, Int.mul_one, if_true, if_false, not_true_eq_false, not_false_eq_true]
        refine zz_Ei (fun h => absurd h (by omega)) (fun _ => ?_)
        refine zz_Ei (fun h => absurd h (by omega)) (fun _ => ?_)
        refine zz_Ei (fun h => absurd h (by omega)) (fun _ => ?_)
        try (refine zz_Ei (fun h => absurd (show (1 : Int) = 0 from h) (by omega)) (fun _ => ?_))
        exact ih' _ _ _ (by omega) (by omega) hl (zt_tm_s hm)
      · rw [if_neg hd'] at hrd
        have c81' := c81.2 hd'
        rw [hrd]
        simp (maxSteps := 5000000) (disch := first | assumption | omega) only [zi_70, hs, hget, zz_nI, zz_ix, c81', zz_z, zr_70_0, zq_70_0, zg_70_1, zp_70_1, zg_70_2, zp_70_2, zg_70_3, zp_70_3, zr_70_4, zi_70, za_72, zs_72, zl_72, zz_0, zz_31, zz_add, zz_sub, zz_mul, zz_neg, zz_lt, zz_le, zz_eq, zz_div, zz_md, zz_dv, zz_abs, zz_max, zz_min, zz_nI, zz_be0, zz_be1, zz_zb, zz_z, zz_l0, zz_l, zz_lcmp, zo_rf, zo_nl, zo_nn, zo_rI, zo_rL, zo_rR, zo_rV, Int.add_zero, Int.zero_add, Int.mul_zero, Int.zero_mul, Int.one_mul, Int.mul_one, if_true, if_false, not_true_eq_false, not_false_eq_true]
        refine zz_Ei (fun h => absurd h (by omega)) (fun _ => ?_)
        refine zz_Ei (fun h => absurd h (by omega)) (fun _ => ?_)
        refine zz_Ei (fun h => absurd h (by omega)) (fun _ => ?_)
        exact zz_Er ⟨J1, by rw [if_neg (by decide)], hm⟩
theorem zt_fn_r (c : Int) : 1 ≤ zt_fn c ∧ zt_fn c ≤ 6 := by
  unfold zt_fn
  repeat' split
  all_goals omega
theorem c_80 (hd : 4 ≤ d) (hL : ZL T R) (ht : zt_tx R J q B N) (hi : J 70 2 = i) (i0 : 0 ≤ i) (i1 : i ≤ N) : ∃ J2, mv_cax d 80 [.inr (.inr (some 70))] (zz_S T J R G) = some (some (.inl (mv_c (if (zt_sm B N i).1 = true then 1 else 0))), zz_S T J2 R G) ∧ zt_tm J J2 (zt_sm B N i).2.1 (zt_sm B N i).2.2 := by
  suffices h : ∃ r, mv_cax d 80 [.inr (.inr (some 70))] (zz_S T J R G) = some r ∧ ∃ J2, r = (some (.inl (mv_c (if (zt_sm B N i).1 = true then 1 else 0))), zz_S T J2 R G) ∧ zt_tm J J2 (zt_sm B N i).2.1 (zt_sm B N i).2.2 by
    obtain ⟨r, g1, J2, rfl, g2⟩ := h
    exact ⟨J2, g1, g2⟩
  refine zz_call (by omega) t_80 rfl (fun n => e_80 _ _) ?_
  obtain ⟨hq, h0, h1, ⟨h2, h3⟩, h4⟩ := id ht
  have h16 := zk_q16 hq
  have hs6 := (zt_str 6 (by omega) (by omega)).1
  have m0 : zt_tm J (zz_u J 70 3 0) i [] := ⟨fun x x1 _ => zu_A x1, fun y _ y2 => zu_k y2, by rw [zu_k (by omega)]; exact hi, by rw [zu_s]; rfl, fun k hk => absurd hk (Nat.not_lt_zero _)⟩
  have a1 : zz_u J 70 3 0 70 1 = N := by rw [zu_k (by omega)]; exact h1
  have a2 : zz_u J 70 3 0 70 2 = i := by rw [zu_k (by omega)]; exact hi
  by_cases hlt : i < N
  · obtain ⟨hb, hr⟩ := h4 i i0 hlt
    unfold zk_r32 at hr
    have hb' : zz_u J 70 3 0 (q + 1) i = B i := by rw [zu_A (by omega)]; exact hb
    have hfr := zt_fn_r (B i)
    obtain ⟨hs, hlen, -, hns, hpos⟩ := zt_str (zt_fn (B i)) hfr.1 hfr.2
    have c79 := c_79 (c := B i) (d := d - 1) (σ := zz_S T (zz_u J 70 3 0) R G) (by omega) (by omega) (by omega)
    by_cases h6 : zt_fn (B i) = 6
    · have hsm : zt_sm B N i = (false, i, []) := if_neg (fun q => q.2 h6)
      rw [hsm]
      rw [h6] at c79
      have e6 : (mv_str 6).length = 0 := rfl
      simp (maxSteps := 5000000) (disch := first | assumption | omega) only [h0, a1, a2, za_H, hb', c79, hs6, e6, zz_z, zr_70_0, zq_70_0, zg_70_1, zp_70_1, zg_70_2, zp_70_2, zg_70_3, zp_70_3, zr_70_4, zi_70, za_72, zs_72, zl_72, zz_0, zz_31, zz_add, zz_sub, zz_mul, zz_neg, zz_lt, zz_le, zz_eq, zz_div, zz_md, zz_dv, zz_abs, zz_max, zz_min, zz_nI, zz_be0, zz_be1, zz_zb, zz_z, zz_l0, zz_l, zz_lcmp, zo_rf, zo_nl, zo_nn, zo_rI, zo_rL, zo_rR, zo_rV, Int.add_zero, Int.zero_add, Int.mul_zero, Int.zero_mul, Int.one_mul, Int.mul_one, if_true, if_false, not_true_eq_false, not_false_eq_true]
      refine zz_Ei (fun h => absurd h (by omega)) (fun _ => ?_)
      first
        | exact zz_Er ⟨_, by rw [if_neg (by decide)], m0⟩
        | (refine zz_Ei (fun h => absurd h (by decide)) (fun _ => ?_)
           exact zz_Er ⟨_, by rw [if_neg (by decide)], m0⟩)
    · have hsm : zt_sm B N i = zt_rd B N (mv_str (zt_fn (B i))) (i + 1) [] := if_pos ⟨hlt, h6⟩
      rw [hsm]
      have e7 : ¬ ((mv_str (zt_fn (B i))).length = 0) := by have := hpos h6; omega
      have l := c_80l (T := T) (J := J) (R := R) (G := G) (d := d - 1) (a := zt_fn (B i)) (by omega) hL ht hfr.1 hfr.2 (mv_str (zt_fn (B i))) [] (i + 1) 0 [] (zz_u (zz_u J 70 3 0) 70 2 (i + 1)) rfl rfl (by omega) (by omega) (by show 0 + zt_ns _ ≤ 4; omega) (zt_tm_s m0)
      simp (maxSteps := 5000000) (disch := first | assumption | omega) only [h0, a1, a2, za_H, hb', c79, hs, e7, zr_70_0, zq_70_0, zg_70_1, zp_70_1, zg_70_2, zp_70_2, zg_70_3, zp_70_3, zr_70_4, zi_70, za_72, zs_72, zl_72, zz_0, zz_31, zz_add, zz_sub, zz_mul, zz_neg, zz_lt, zz_le, zz_eq, zz_div, zz_md, zz_dv, zz_abs, zz_max, zz_min, zz_nI, zz_be0, zz_be1, zz_zb, zz_z, zz_l0, zz_l, zz_lcmp, zo_rf, zo_nl, zo_nn, zo_rI, zo_rL, zo_rR, zo_rV, Int.add_zero, Int.zero_add, Int.mul_zero, Int.zero_mul, Int.one_mul, Int.mul_one, if_true, if_false, not_true_eq_false, not_false_eq_true]
      refine zz_Ei (fun h => absurd h (by omega)) (fun _ => ?_)
      exact l
  · have hsm : zt_sm B N i = (false, i, []) := if_neg (fun q => hlt q.1)
    rw [hsm]
    have e6 : (mv_str 6).length = 0 := rfl
    simp (maxSteps := 5000000) (disch := first | assumption | omega) only [a1, a2, hs6, e6, zz_z, zr_70_0, zq_70_0, zg_70_1, zp_70_1, zg_70_2, zp_70_2, zg_70_3, zp_70_3, zr_70_4, zi_70, za_72, zs_72, zl_72, zz_0, zz_31, zz_add, zz_sub, zz_mul, zz_neg, zz_lt, zz_le, zz_eq, zz_div, zz_md, zz_dv, zz_abs, zz_max, zz_min, zz_nI, zz_be0, zz_be1, zz_zb, zz_z, zz_l0, zz_l, zz_lcmp, zo_rf, zo_nl, zo_nn, zo_rI, zo_rL, zo_rR, zo_rV, Int.add_zero, Int.zero_add, Int.mul_zero, Int.zero_mul, Int.one_mul, Int.mul_one, if_true, if_false, not_true_eq_false, not_false_eq_true]
    refine zz_Ei (fun _ => ?_) (fun h => absurd (by omega) h)
    first
      | exact zz_Er ⟨_, by rw [if_neg (by decide)], m0⟩
      | (refine zz_Ei (fun h => absurd h (by decide)) (fun _ => ?_)
         exact zz_Er ⟨_, by rw [if_neg (by decide)], m0⟩)
end ZSTM
