/-! PURE LAYER, 53: the class digs one pair -/
section ZPAI
variable {T : List mv_T} {J : Nat → Int → Int} {R : Nat → Nat → Option Nat} {G : Nat → Nat → Int64} {d p : Nat} {Y : Int} {A : Int → Int}
/-- between two digs: excess, what is left, the row -/
def zs_dp (T : List mv_T) (R : Nat → Nat → Option Nat) (p : Nat) (Y : Int) (J : Nat → Int → Int) (A : Int → Int) (J' : Nat → Int → Int) (A' : Int → Int) : Prop := zz_ok Y A' ∧ zc_rep T R J' p A' ∧ (∀ c, 0 ≤ c → c < A 0 * A 1 → J' 79 c = zz_ex A' (fun c => A' (24 + c)) c) ∧ (∀ y, y < 8 ∨ 24 ≤ y → A' y = A y) ∧ (∀ x, x ≠ 78 → x ≠ 79 → x ≠ p + 4 → x ≠ p + 12 → J' x = J x) ∧ (∀ y, y ≠ 0 → y ≠ 1 → J' 78 y = J 78 y) ∧ 0 ≤ J' 78 1 ∧ J' 78 1 ≤ 999
theorem zs_exa {A : Int → Int} {a : Int} (h : zz_bit (A 6) a = 0) : 0 < zz_ex A (fun c => A (24 + c)) a ↔ zz_ov A a := by
  unfold zz_ex zz_ov
  show 0 < (if A (24 + a) < 0 then 0 else A (8 + a) - A (24 + a)) ↔ _
  split <;> omega
theorem zs_exb {A : Int → Int} {a : Int} (h : zz_bit (A 6) a = 0) : zz_ex A (fun c => A (24 + c)) a < 0 ↔ zz_un A a := by
  unfold zz_ex zz_un
  show (if A (24 + a) < 0 then 0 else A (8 + a) - A (24 + a)) < 0 ↔ _
  split <;> omega
theorem zs_exm {A : Int → Int} {a b c : Int} (h1 : zz_ov A a) (h2 : zz_un A b) (hne : a ≠ b) (ha : 0 ≤ a) (ha1 : a < 16) (hb : 0 ≤ b) (hb1 : b < 16) (hc : 0 ≤ c) (hc1 : c < 16) : zz_ex (zz_mv A a b) (fun c => zz_mv A a b (24 + c)) c = if c = b then zz_ex A (fun c => A (24 + c)) b + 1 else if c = a then zz_ex A (fun c => A (24 + c)) a - 1 else zz_ex A (fun c => A (24 + c)) c := by
  have h10 := h1.1
  have h20 := h2.1
  unfold zz_ex
  show (if zz_mv A a b (24 + c) < 0 then 0 else zz_mv A a b (8 + c) - zz_mv A a b (24 + c)) = if c = b then (if A (24 + b) < 0 then 0 else A (8 + b) - A (24 + b)) + 1 else if c = a then (if A (24 + a) < 0 then 0 else A (8 + a) - A (24 + a)) - 1 else if A (24 + c) < 0 then 0 else A (8 + c) - A (24 + c)
  rw [zz_mv_o (y := 24 + c) (by omega) (by omega)]
  by_cases e : c = b
  · subst e
    rw [if_pos rfl, if_neg (by omega), if_neg (by omega), zz_mv_b]
    omega
  · rw [if_neg e]
    by_cases e' : c = a
    · subst e'
      rw [if_pos rfl, if_neg (by omega), if_neg (by omega), zz_mv_a e]
      omega
    · rw [if_neg e', zz_mv_o (by omega) (by omega)]
theorem c_17 {a b μ N : Int} {must : Prop} (hd : 4 ≤ d) (hL : ZL T R) (hp : Lnd p) (hR : zs_dp T R p Y J A J A) (ha0 : 0 ≤ a) (ha1 : a < A 0 * A 1) (hb0 : 0 ≤ b) (hb1 : b < A 0 * A 1) (hne : a ≠ b) (hN : zz_nr (A 1) a b = N) (hN1 : 1 ≤ N) (hN2 : N ≤ 6) (hμ : (μ = 1 ∧ must) ∨ (μ = 0 ∧ ¬ must)) :
    ∃ f J' A', mv_cax d 17 [.inr (.inr (some 78)), .inr (.inr (some p)), .inl (mv_c a), .inl (mv_c b), .inl (mv_c μ)] (zz_S T J R G) = some (some (.inl (mv_c f)), zz_S T J' R G) ∧ zs_dp T R p Y J A J' A' ∧ ((f = 1 ∧ ∀ r, zz_dg must (256 * N + 16 * a + b + 1) (A', J' 78 1, J' 78 0) r → zz_dg must (256 * N + 16 * a + b) (A, J 78 1, J 78 0) r) ∨ (f = 0 ∧ zz_dg must (256 * N + 16 * a + b) (A, J 78 1, J 78 0) (A', J' 78 1, J' 78 0))) := by
  have hA := hR.1
  have hn := hA.n
  have hpl : p + 12 < 78 := by rcases hp with rfl | rfl | rfl | rfl <;> omega
  have ka : (256 * N + 16 * a + b) / 16 % 16 = a := by omega
  have kb : (256 * N + 16 * a + b) % 16 = b := by omega
  have kN : (256 * N + 16 * a + b) / 256 = N := by omega
  suffices h : ∃ r, mv_cax d 17 [.inr (.inr (some 78)), .inr (.inr (some p)), .inl (mv_c a), .inl (mv_c b), .inl (mv_c μ)] (zz_S T J R G) = some r ∧ ∃ f J' A', r = (some (.inl (mv_c f)), zz_S T J' R G) ∧ zs_dp T R p Y J A J' A' ∧ ((f = 1 ∧ ∀ r, zz_dg must (256 * N + 16 * a + b + 1) (A', J' 78 1, J' 78 0) r → zz_dg must (256 * N + 16 * a + b) (A, J 78 1, J 78 0) r) ∨ (f = 0 ∧ zz_dg must (256 * N + 16 * a + b) (A, J 78 1, J 78 0) (A', J' 78 1, J' 78 0))) by
    obtain ⟨r, h1, f, J', A', rfl, h2⟩ := h
    exact ⟨f, J', A', h1, h2⟩
  refine zz_call (by omega) t_17 rfl (fun n => e_17 _ _ _ _ _ _) ?_
  obtain ⟨Q, hQ⟩ : ∃ Q : Option mv_V × mv_S → Prop, Q = fun r => ∃ f J' A', r = (some (.inl (mv_c f)), zz_S T J' R G) ∧ zs_dp T R p Y J A J' A' ∧ ((f = 1 ∧ ∀ r, zz_dg must (256 * N + 16 * a + b + 1) (A', J' 78 1, J' 78 0) r → zz_dg must (256 * N + 16 * a + b) (A, J 78 1, J 78 0) r) ∨ (f = 0 ∧ zz_dg must (256 * N + 16 * a + b) (A, J 78 1, J 78 0) (A', J' 78 1, J' 78 0))) := ⟨_, rfl⟩
  rw [← hQ]
  have qa := (hR.2.1.2.2.1 a ha0 ha1).2.2
  have qb := (hR.2.1.2.2.1 b hb0 hb1).2.2
  have z1 := zz_bit01 (A 6) a
  have z2 := zz_bit01 (A 6) b
  have e51 := c_51 (T := T) (J := J) (R := R) (G := G) (d := d - 1) (by omega) hL hp hA hR.2.1 ha0 ha1 hb0 hb1
  have skip0 : ¬ (zz_ov A a ∧ zz_un A b) → Q (some (.inl (mv_c 1)), zz_S T J R G) := fun h => by
    rw [hQ]
    refine ⟨1, J, A, rfl, hR, Or.inl ⟨rfl, fun r hr => zz_dg_skip (by omega) (fun q => ?_) hr⟩⟩
    obtain ⟨-, -, -, q1, q2⟩ := q
    have q1 : zz_ov A ((256 * N + 16 * a + b) / 16 % 16) := q1
    have q2 : zz_un A ((256 * N + 16 * a + b) % 16) := q2
    rw [ka] at q1
    rw [kb] at q2
    exact h ⟨q1, q2⟩
  simp (maxSteps := 5000000) (disch := first | assumption | omega) only [zr_L_13, za_L_6, qa, qb, zi_L, e51, hN, zz_0, zz_31, zz_add, zz_sub, zz_mul, zz_neg, zz_lt, zz_le, zz_eq, zz_div, zz_md, zz_dv, zz_abs, zz_max, zz_min, zz_nI, zz_be0, zz_be1, zz_zb, zz_z, zz_l0, zz_l, zz_lcmp, zo_rf, zo_nl, zo_nn, zo_rI, zo_rL, zo_rR, zo_rV, Int.add_zero, Int.zero_add, Int.mul_zero, Int.zero_mul, Int.one_mul, Int.mul_one, if_true, if_false, not_true_eq_false, not_false_eq_true]
  refine zz_Ei (fun h1 => ?_) (fun h1 => ?_)
  rotate_left
  · exact zz_Er (skip0 (fun q => by have := q.1.2.2; omega))
  refine zz_Ei (fun h2 => ?_) (fun h2 => ?_)
  rotate_left
  · exact zz_Er (skip0 (fun q => by have := q.2.2.2; omega))
  -- one step after the other
  refine zz_whil (α := Int × (Int → Int) × (Nat → Int → Int)) (run := fun q n => mv_run (mv_cax (d - 1)) mm_17 n 33 [(0, .inr (.inr (some 78))), (1, .inr (.inr (some p))), (2, .inl (mv_c a)), (3, .inl (mv_c b)), (4, .inl (mv_c μ)), (5, .inl (mv_c (2 * N))), (6, .inl (mv_c q.1))] [] (zz_S T q.2.2 R G)) (fun q => (q.2.2 79 a).toNat) (fun q => zs_dp T R p Y J A q.2.2 q.2.1 ∧ 0 ≤ q.1 ∧ q.1 ≤ 9 ∧ q.1 + q.2.2 79 a ≤ 9 ∧ ∀ r, zz_dg must (256 * N + 16 * a + b) (q.2.1, q.2.2 78 1, q.2.2 78 0) r → zz_dg must (256 * N + 16 * a + b) (A, J 78 1, J 78 0) r) ?_ (0, A, J) ⟨hR, Int.le_refl _, by show (0 : Int) ≤ 9; omega, ?_, fun r hr => hr⟩
  · rintro ⟨st, A', J'⟩ ⟨hI, s0, s1, s2, htr⟩ kw
    have hI : zs_dp T R p Y J A J' A' := hI
    have s0 : 0 ≤ st := s0
    have s1 : st ≤ 9 := s1
    have s2 : st + J' 79 a ≤ 9 := s2
    have htr : ∀ r, zz_dg must (256 * N + 16 * a + b) (A', J' 78 1, J' 78 0) r → zz_dg must (256 * N + 16 * a + b) (A, J 78 1, J 78 0) r := htr
    obtain ⟨i1, i2, i3, i4, i5, i6, i7, i8⟩ := id hI
    have eb := zz_exr i1
    rw [i4 0 (by omega), i4 1 (by omega)] at eb
    have eba := eb a ha0 ha1
    have ebb := eb b hb0 hb1
    rw [← i3 a ha0 ha1] at eba
    rw [← i3 b hb0 hb1] at ebb
    have b1 : zz_bit (A' 6) a = 0 := by rw [i4 6 (by omega)]; exact h1
    have b2 : zz_bit (A' 6) b = 0 := by rw [i4 6 (by omega)]; exact h2
    have xa := zs_exa b1
    have xb := zs_exb b2
    rw [← i3 a ha0 ha1] at xa
    rw [← i3 b hb0 hb1] at xb
    have skip : ¬ (zz_ov A' a ∧ zz_un A' b) → Q (some (.inl (mv_c 1)), zz_S T J' R G) := fun h => by
      rw [hQ]
      refine ⟨1, J', A', rfl, hI, Or.inl ⟨rfl, fun r hr => htr r (zz_dg_skip (by omega) (fun q => ?_) hr)⟩⟩
      obtain ⟨-, -, -, q1, q2⟩ := q
      have q1 : zz_ov A' ((256 * N + 16 * a + b) / 16 % 16) := q1
      have q2 : zz_un A' ((256 * N + 16 * a + b) % 16) := q2
      rw [ka] at q1
      rw [kb] at q2
      exact h ⟨q1, q2⟩
    refine zz_Es (fun n => e_17_33 _ _ _ _ _ _ _ _) ?_
    simp (maxSteps := 5000000) (disch := first | assumption | omega) only [zr_78_2, za_79, zg_78_1, zz_0, zz_31, zz_add, zz_sub, zz_mul, zz_neg, zz_lt, zz_le, zz_eq, zz_div, zz_md, zz_dv, zz_abs, zz_max, zz_min, zz_nI, zz_be0, zz_be1, zz_zb, zz_z, zz_l0, zz_l, zz_lcmp, zo_rf, zo_nl, zo_nn, zo_rI, zo_rL, zo_rR, zo_rV, Int.add_zero, Int.zero_add, Int.mul_zero, Int.zero_mul, Int.one_mul, Int.mul_one, if_true, if_false, not_true_eq_false, not_false_eq_true]
    refine zz_Ei (fun h => absurd h (by omega)) (fun _ => ?_)
    refine zz_Ei (fun h => zz_Er (skip (fun q => by have := xa.mpr q.1; omega))) (fun g1 => ?_)
    refine zz_Ei (fun h => zz_Er (skip (fun q => by have := xb.mpr q.2; omega))) (fun g2 => ?_)
    have ov : zz_ov A' a := xa.mp (by omega)
    have un : zz_un A' b := xb.mp (by omega)
    have el : zz_el A' (256 * N + 16 * a + b) := by
      unfold zz_el
      rw [ka, kb, kN, i4 0 (by omega), i4 1 (by omega)]
      exact ⟨ha1, hb1, hN, ov, un⟩
    refine zz_Ei (fun g3 => ?_) (fun g3 => ?_)
    rotate_left
    · refine zz_Er ?_
      rw [hQ]
      exact ⟨0, J', A', rfl, hI, Or.inr ⟨rfl, htr _ (zz_dg_stop (by omega) el (by rw [kN]; show J' 78 1 < 2 * N; omega))⟩⟩
    have hha := i1.2.2.2.2.2.2.2.1 a ha0 (by rw [i4 0 (by omega), i4 1 (by omega)]; exact ha1)
    have hhb := i1.2.2.2.2.2.2.2.1 b hb0 (by rw [i4 0 (by omega), i4 1 (by omega)]; exact hb1)
    have ov0 := ov.1
    have ov1 := ov.2.1
    have un0 := un.1
    have un1 := un.2.1
    have i1' := zz_ok_mv i1 ha0 (by rw [i4 0 (by omega), i4 1 (by omega)]; exact ha1) hb0 (by rw [i4 0 (by omega), i4 1 (by omega)]; exact hb1) hne (by omega) (by omega)
    obtain ⟨O, h56, hR2⟩ := c_56 (T := T) (J := J') (R := R) (G := G) (d := d - 1) (p := p) (Y := Y) (A := A') (a := a) (b := b) (by omega) hL hp i1 i2 ha0 (by rw [i4 0 (by omega), i4 1 (by omega)]; exact ha1) hb0 (by rw [i4 0 (by omega), i4 1 (by omega)]; exact hb1) hne
    have m : ∀ y, (y < 8 ∨ 24 ≤ y) → zz_mv A' a b y = A y := fun y hy => by rw [zz_mv_o (by omega) (by omega)]; exact i4 y hy
    -- what holds after a step
    have nx : ∀ J2, (∀ x, x ≠ p + 4 → x ≠ p + 12 → J2 x = J' x) → zc_rep T R J2 p (zz_mv A' a b) → ¬ (must ∧ ¬ zz_ls (zz_mv A' a b)) → zz_E (fun n => mv_run (mv_cax (d - 1)) mm_17 n 33 [(0, .inr (.inr (some 78))), (1, .inr (.inr (some p))), (2, .inl (mv_c a)), (3, .inl (mv_c b)), (4, .inl (mv_c μ)), (5, .inl (mv_c (2 * N))), (6, .inl (mv_c (st + 1)))] [] (zz_S T (zz_u (zz_u (zz_u (zz_u J2 78 1 (J' 78 1 - 2 * N)) 78 0 (J' 78 0 + 1)) 79 a (J' 79 a - 1)) 79 b (J' 79 b + 1)) R G)) Q := by
      intro J2 hf hR3 hmust
      refine kw (st + 1, zz_mv A' a b, _) ⟨⟨i1', ?_, ?_, m, ?_, ?_, ?_, ?_⟩, ?_, ?_, ?_, ?_⟩ ?_
      · refine zc_rep_f hR3 (fun x hx => ?_)
        show (zz_u (zz_u (zz_u (zz_u J2 78 1 (J' 78 1 - 2 * N)) 78 0 (J' 78 0 + 1)) 79 a (J' 79 a - 1)) 79 b (J' 79 b + 1)) x = _
        rw [zu_A (by omega), zu_A (by omega), zu_A (by omega), zu_A (by omega)]
      · intro c c0 c1
        rw [zs_exm ov un hne ha0 (by omega) hb0 (by omega) c0 (by omega), ← i3 b hb0 hb1, ← i3 a ha0 ha1, ← i3 c c0 c1]
        show (zz_u (zz_u (zz_u (zz_u J2 78 1 (J' 78 1 - 2 * N)) 78 0 (J' 78 0 + 1)) 79 a (J' 79 a - 1)) 79 b (J' 79 b + 1)) 79 c = _
        by_cases e : c = b
        · rw [if_pos e, e, zu_s]
        · rw [if_neg e, zu_k e]
          by_cases e' : c = a
          · rw [if_pos e', e', zu_s]
          · rw [if_neg e', zu_k e', zu_A (by omega), zu_A (by omega), hf 79 (by omega) (by omega)]
      · intro x x1 x2 x3 x4
        show (zz_u (zz_u (zz_u (zz_u J2 78 1 (J' 78 1 - 2 * N)) 78 0 (J' 78 0 + 1)) 79 a (J' 79 a - 1)) 79 b (J' 79 b + 1)) x = _
        rw [zu_A x2, zu_A x2, zu_A x1, zu_A x1, hf x x3 x4]
        exact i5 x x1 x2 x3 x4
      · intro y y1 y2
        show (zz_u (zz_u (zz_u (zz_u J2 78 1 (J' 78 1 - 2 * N)) 78 0 (J' 78 0 + 1)) 79 a (J' 79 a - 1)) 79 b (J' 79 b + 1)) 78 y = J 78 y
        rw [zu_A (by omega), zu_A (by omega), zu_k y1, zu_k y2, hf 78 (by omega) (by omega)]
        exact i6 y y1 y2
      · show 0 ≤ (zz_u (zz_u (zz_u (zz_u J2 78 1 (J' 78 1 - 2 * N)) 78 0 (J' 78 0 + 1)) 79 a (J' 79 a - 1)) 79 b (J' 79 b + 1)) 78 1
        rw [zu_A (by omega), zu_A (by omega), zu_k (by omega), zu_s]
        omega
      · show (zz_u (zz_u (zz_u (zz_u J2 78 1 (J' 78 1 - 2 * N)) 78 0 (J' 78 0 + 1)) 79 a (J' 79 a - 1)) 79 b (J' 79 b + 1)) 78 1 ≤ 999
        rw [zu_A (by omega), zu_A (by omega), zu_k (by omega), zu_s]
        omega
      · show 0 ≤ st + 1
        omega
      · show st + 1 ≤ 9
        omega
      · show st + 1 + (zz_u (zz_u (zz_u (zz_u J2 78 1 (J' 78 1 - 2 * N)) 78 0 (J' 78 0 + 1)) 79 a (J' 79 a - 1)) 79 b (J' 79 b + 1)) 79 a ≤ 9
        rw [zu_k hne, zu_s]
        omega
      · intro r hr
        have hr : zz_dg must (256 * N + 16 * a + b) (zz_mv A' a b, zz_u (zz_u (zz_u (zz_u J2 78 1 (J' 78 1 - 2 * N)) 78 0 (J' 78 0 + 1)) 79 a (J' 79 a - 1)) 79 b (J' 79 b + 1) 78 1, zz_u (zz_u (zz_u (zz_u J2 78 1 (J' 78 1 - 2 * N)) 78 0 (J' 78 0 + 1)) 79 a (J' 79 a - 1)) 79 b (J' 79 b + 1) 78 0) r := hr
        rw [zu_A (by omega), zu_A (by omega), zu_k (by omega), zu_s, zu_s] at hr
        refine htr r (zz_dg_go (by omega) el (by rw [kN]; show ¬ J' 78 1 < 2 * N; omega) ?_ ?_)
        · rw [ka, kb]
          exact hmust
        · rw [ka, kb, kN]
          exact hr
      · show ((zz_u (zz_u (zz_u (zz_u J2 78 1 (J' 78 1 - 2 * N)) 78 0 (J' 78 0 + 1)) 79 a (J' 79 a - 1)) 79 b (J' 79 b + 1)) 79 a).toNat < (J' 79 a).toNat
        rw [zu_k hne, zu_s]
        omega
    rcases hμ with ⟨rfl, hm⟩ | ⟨rfl, hm⟩
    · obtain ⟨O2, h49⟩ := c_49 (T := T) (J := zz_w J' (p + 4) O) (R := R) (G := G) (d := d - 1) (p := p) (Y := Y) (A := zz_mv A' a b) (by omega) hL hp i1' hR2
      by_cases hls : zz_ls (zz_mv A' a b)
      · rw [zz_b_t hls] at h49
        simp (maxSteps := 5000000) (disch := first | assumption | omega) only [zi_L, h56, h49, zg_78_1, zp_78_1, zg_78_0, zp_78_0, zr_78_2, za_79, zs_79, zu_A, zw_n, zu_k, zz_0, zz_31, zz_add, zz_sub, zz_mul, zz_neg, zz_lt, zz_le, zz_eq, zz_div, zz_md, zz_dv, zz_abs, zz_max, zz_min, zz_nI, zz_be0, zz_be1, zz_zb, zz_z, zz_l0, zz_l, zz_lcmp, zo_rf, zo_nl, zo_nn, zo_rI, zo_rL, zo_rR, zo_rV, Int.add_zero, Int.zero_add, Int.mul_zero, Int.zero_mul, Int.one_mul, Int.mul_one, if_true, if_false, not_true_eq_false, not_false_eq_true]
        refine zz_Ei (fun h => absurd h (by omega)) (fun _ => ?_)
        refine zz_Ei (fun h => absurd h (by omega)) (fun _ => ?_)
        exact nx _ (fun x x1 x2 => by rw [zw_n x2, zw_n x1]) (zc_rep_w hp hR2) (fun q => q.2 hls)
      · rw [zz_b_f hls] at h49
        obtain ⟨O3, h56b, hR3⟩ := c_56 (T := T) (J := zz_w (zz_w J' (p + 4) O) (p + 12) O2) (R := R) (G := G) (d := d - 1) (p := p) (Y := Y) (A := zz_mv A' a b) (a := b) (b := a) (by omega) hL hp i1' (zc_rep_w hp hR2) hb0 (by rw [m 0 (by omega), m 1 (by omega)]; exact hb1) ha0 (by rw [m 0 (by omega), m 1 (by omega)]; exact ha1) (fun q => hne q.symm)
        rw [zz_mvb hne] at hR3
        simp (maxSteps := 5000000) (disch := first | assumption | omega) only [zi_L, h56, h49, h56b, zz_0, zz_31, zz_add, zz_sub, zz_mul, zz_neg, zz_lt, zz_le, zz_eq, zz_div, zz_md, zz_dv, zz_abs, zz_max, zz_min, zz_nI, zz_be0, zz_be1, zz_zb, zz_z, zz_l0, zz_l, zz_lcmp, zo_rf, zo_nl, zo_nn, zo_rI, zo_rL, zo_rR, zo_rV, Int.add_zero, Int.zero_add, Int.mul_zero, Int.zero_mul, Int.one_mul, Int.mul_one, if_true, if_false, not_true_eq_false, not_false_eq_true]
        refine zz_Ei (fun h => absurd h (by omega)) (fun _ => ?_)
        refine zz_Er ?_
        rw [hQ]
        have w : ∀ x, x ≠ p + 4 → x ≠ p + 12 → zz_w (zz_w (zz_w J' (p + 4) O) (p + 12) O2) (p + 4) O3 x = J' x := fun x x1 x2 => by rw [zw_n x1, zw_n x2, zw_n x1]
        refine ⟨1, _, A', rfl, ⟨i1, hR3, ?_, i4, ?_, ?_, ?_, ?_⟩, Or.inl ⟨rfl, fun r hr => ?_⟩⟩
        · rw [w 79 (by omega) (by omega)]; exact i3
        · intro x x1 x2 x3 x4; rw [w x x3 x4]; exact i5 x x1 x2 x3 x4
        · rw [w 78 (by omega) (by omega)]; exact i6
        · rw [w 78 (by omega) (by omega)]; exact i7
        · rw [w 78 (by omega) (by omega)]; exact i8
        · rw [w 78 (by omega) (by omega)] at hr
          refine htr r (zz_dg_undo (by omega) el (by rw [kN]; show ¬ J' 78 1 < 2 * N; omega) ?_ hr)
          rw [ka, kb]
          exact ⟨hm, hls⟩
    · simp (maxSteps := 5000000) (disch := first | assumption | omega) only [zi_L, h56, zg_78_1, zp_78_1, zg_78_0, zp_78_0, zr_78_2, za_79, zs_79, zu_A, zw_n, zu_k, zz_0, zz_31, zz_add, zz_sub, zz_mul, zz_neg, zz_lt, zz_le, zz_eq, zz_div, zz_md, zz_dv, zz_abs, zz_max, zz_min, zz_nI, zz_be0, zz_be1, zz_zb, zz_z, zz_l0, zz_l, zz_lcmp, zo_rf, zo_nl, zo_nn, zo_rI, zo_rL, zo_rR, zo_rV, Int.add_zero, Int.zero_add, Int.mul_zero, Int.zero_mul, Int.one_mul, Int.mul_one, if_true, if_false, not_true_eq_false, not_false_eq_true]
      exact nx _ (fun x x1 x2 => by rw [zw_n x1]) hR2 (fun q => hm q.1)
  · have eb := zz_exr hA a ha0 ha1
    rw [← hR.2.2.1 a ha0 ha1] at eb
    show 0 + J 79 a ≤ 9
    omega
end ZPAI
