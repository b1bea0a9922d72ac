/-! PURE LAYER, 63: the class looks ahead, whole -/
section ZAH3
variable {T : List mv_T} {J : Nat → Int → Int} {R : Nat → Nat → Option Nat} {G : Nat → Nat → Int64} {d p q : Nat} {Y : Int} {A : Int → Int}
/-- the desk at work for the drawer e -/
def zk_dk (T : List mv_T) (R : Nat → Nat → Option Nat) (p : Nat) (A : Int → Int) (e : Int) (J J' : Nat → Int → Int) : Prop := zc_rep T R J' p A ∧ (∀ k, 0 ≤ k → k < 160 → J' 74 k = zk_T A e k) ∧ (∀ k, 0 ≤ k → k < 160 → J' 75 k = zk_T A ((e + 1) % A 7) k) ∧ (∀ x, (x < 73 ∨ 77 < x) → x ≠ p + 4 → x ≠ p + 12 → J' x = J x)
theorem c_10l {e : Int} {J0 : Nat → Int → Int} (hd : 6 ≤ d) (hL : ZL T R) (hp : Lnd p) (hA : zz_ok Y A) (hk : zk_dk T R p A e J0 J) (e0 : 0 ≤ e) (e1 : e < A 7) {Q : Option mv_V × mv_S → Prop}
    (hQ : ∀ J' f t, zk_dk T R p A e J0 J' → ((f = -1 ∧ t = -1) ∨ (0 ≤ f ∧ f < A 0 * A 1 ∧ 0 ≤ t ∧ t < A 0 * A 1)) → zz_pick (A 0 * A 1) (zz_mh A) (fun a b => zz_ahv (zz_mv A a b) e) (zz_ahv A e) f t → Q (none, zz_S T (zk_m J' f t) R G)) :
    zz_E (fun n => mv_run (mv_cax d) mm_10 n 52 [(0, .inr (.inr (some 73))), (1, .inr (.inr (some p))), (4, .inl (mv_c (zz_ahv A e))), (5, .inl (mv_c (-1))), (6, .inl (mv_c (-1))), (7, .inl (mv_c 0))] [] (zz_S T J R G)) Q := by
  have hn := hA.n
  have hpl : p + 12 < 73 := by rcases hp with rfl | rfl | rfl | rfl <;> omega
  have hab := zz_ahv_b (hA.2.2.2.2.2.2.2.2 e e0 e1)
  refine zz_loop (α := (Int × Int × Int) × (Nat → Int → Int)) (run := fun a s n => mv_run (mv_cax d) mm_10 n 52 [(0, .inr (.inr (some 73))), (1, .inr (.inr (some p))), (4, .inl (mv_c s.1.2.2)), (5, .inl (mv_c s.1.1)), (6, .inl (mv_c s.1.2.1)), (7, .inl (mv_c a))] [] (zz_S T s.2 R G)) (A 0 * A 1) (fun a s => 0 ≤ a ∧ zk_dk T R p A e J0 s.2 ∧ zk_pk (A 0 * A 1) (zz_mh A) (fun a b => zz_ahv (zz_mv A a b) e) (zz_ahv A e) (16 * a) s.1.1 s.1.2.1 s.1.2.2 ∧ s.1.2.2 ≤ 396) ?_ ?_ (A 0 * A 1).toNat 0 ((-1, -1, zz_ahv A e), J) (by omega) ⟨by omega, hk, zk_pk0, hab.2⟩
  · rintro a ⟨⟨f, t, m⟩, J1⟩ ⟨ha, hk1, hpk, hm⟩ hlt kk
    have hk1 : zk_dk T R p A e J0 J1 := hk1
    have hpk : zk_pk (A 0 * A 1) (zz_mh A) (fun a b => zz_ahv (zz_mv A a b) e) (zz_ahv A e) (16 * a) f t m := hpk
    have hm : m ≤ 396 := hm
    have e2 := hk1.1.1.1.2.2
    refine zz_Es (fun n => e_10_52 _ _ _ _ _ _ _) ?_
    simp (maxSteps := 5000000) (disch := first | assumption | omega) only [zo_rf, zg_L_2, e2, zz_le]
    refine zz_Ei (fun h => absurd h (by omega)) (fun _ => ?_)
    refine zz_loop (α := (Int × Int × Int) × (Nat → Int → Int)) (run := fun b s n => mv_run (mv_cax d) mm_10 n 64 [(0, .inr (.inr (some 73))), (1, .inr (.inr (some p))), (4, .inl (mv_c s.1.2.2)), (5, .inl (mv_c s.1.1)), (6, .inl (mv_c s.1.2.1)), (7, .inl (mv_c a)), (8, .inl (mv_c b))] [] (zz_S T s.2 R G)) (A 0 * A 1) (fun b s => 0 ≤ b ∧ zk_dk T R p A e J0 s.2 ∧ zk_pk (A 0 * A 1) (zz_mh A) (fun a b => zz_ahv (zz_mv A a b) e) (zz_ahv A e) (16 * a + b) s.1.1 s.1.2.1 s.1.2.2 ∧ s.1.2.2 ≤ 396) ?_ ?_ (A 0 * A 1).toNat 0 ((f, t, m), J1) (by omega) ⟨by omega, hk1, by rw [Int.add_zero]; exact hpk, hm⟩
    · rintro b ⟨⟨f, t, m⟩, J1⟩ ⟨hb, hk1, hpk, hm⟩ hbt kb
      have hk1 : zk_dk T R p A e J0 J1 := hk1
      have hpk : zk_pk (A 0 * A 1) (zz_mh A) (fun a b => zz_ahv (zz_mv A a b) e) (zz_ahv A e) (16 * a + b) f t m := hpk
      have hm : m ≤ 396 := hm
      have hm0 := zk_pkm hpk
      have e2 := hk1.1.1.1.2.2
      have stay : ∀ J2, zk_dk T R p A e J0 J2 → (¬ zz_mh A a b ∨ zz_ahv (zz_mv A a b) e ≤ m) → zz_E (fun n => mv_run (mv_cax d) mm_10 n 64 [(0, .inr (.inr (some 73))), (1, .inr (.inr (some p))), (4, .inl (mv_c m)), (5, .inl (mv_c f)), (6, .inl (mv_c t)), (7, .inl (mv_c a)), (8, .inl (mv_c (b + 1)))] [] (zz_S T J2 R G)) Q := by
        intro J2 h2 h
        refine kb ((f, t, m), J2) ⟨by omega, h2, zk_pks hpk (by omega) (fun a' b' r0 r1 r2 r3 r4 r5 ho => ?_), hm⟩
        have ea : a' = a := by omega
        have eb : b' = b := by omega
        subst ea
        subst eb
        rcases h with h | h
        · exact absurd ho h
        · exact h
      have c54 := c_54 (T := T) (J := J1) (R := R) (G := G) (d := d) (p := p) (a := a) (b := b) (by omega) hL hp hA hk1.1 (by omega) (by omega) (by omega) (by omega)
      refine zz_Es (fun n => e_10_64 _ _ _ _ _ _ _ _) ?_
      by_cases hmh : zz_mh A a b
      · rw [zz_b_t ⟨⟨ha, hlt⟩, ⟨hb, hbt⟩, hmh⟩] at c54
        have hne := hmh.1
        have hM : zz_ok Y (zz_mv A a b) := zz_mh_ok hA ha hlt hb hbt hmh
        have m0 : zz_mv A a b 0 = A 0 := zz_mv_o (by omega) (by omega)
        have m1 : zz_mv A a b 1 = A 1 := zz_mv_o (by omega) (by omega)
        have m7 : zz_mv A a b 7 = A 7 := zz_mv_o (by omega) (by omega)
        have mh : ∀ y, 40 ≤ y → zz_mv A a b y = A y := fun y hy => zz_mv_o (by omega) (by omega)
        have h7 := hA.2.2.2.2.2.2.1
        have hnx : 0 ≤ (e + 1) % A 7 ∧ (e + 1) % A 7 < A 7 := ⟨Int.emod_nonneg _ (by omega), Int.emod_lt_of_pos _ (by omega)⟩
        obtain ⟨O, h56, hR1⟩ := c_56 (T := T) (J := J1) (R := R) (G := G) (d := d) (by omega) hL hp hA hk1.1 ha hlt hb hbt hne
        obtain ⟨J3, h11, hR3, fr3⟩ := c_11 (T := T) (J := zz_w J1 (p + 4) O) (R := R) (G := G) (d := d) (e := e) (by omega) hL hp hM hR1 e0 (by rw [m7]; exact e1) (fun k k0 k1 => by rw [zw_n (by omega), zk_T_h e0 mh]; exact hk1.2.1 k k0 k1) (fun k k0 k1 => by rw [zw_n (by omega), m7, zk_T_h hnx.1 mh]; exact hk1.2.2.1 k k0 k1)
        obtain ⟨O4, h56', hR4⟩ := c_56 (T := T) (J := J3) (R := R) (G := G) (d := d) (by omega) hL hp hM hR3 hb (by rw [m0, m1]; exact hbt) ha (by rw [m0, m1]; exact hlt) (fun q => hne q.symm)
        rw [zz_mvb hne] at hR4
        have hvb := zz_ahv_b (hM.2.2.2.2.2.2.2.2 e e0 (by rw [m7]; exact e1))
        have hk4 : zk_dk T R p A e J0 (zz_w J3 (p + 4) O4) := ⟨hR4, fun k k0 k1 => by rw [zw_n (by omega), fr3 74 (by omega) (by omega) (by omega) (by omega) (by omega), zw_n (by omega)]; exact hk1.2.1 k k0 k1, fun k k0 k1 => by rw [zw_n (by omega), fr3 75 (by omega) (by omega) (by omega) (by omega) (by omega), zw_n (by omega)]; exact hk1.2.2.1 k k0 k1, fun x x1 x2 x3 => by rw [zw_n x2, fr3 x (by omega) (by omega) (by omega) x2 x3, zw_n x2]; exact hk1.2.2.2 x x1 x2 x3⟩
        simp (maxSteps := 5000000) (disch := first | assumption | omega) only [e2, c54, h56, h11, h56', zr_73_0, zr_73_1, zr_73_2, zr_73_3, zg_73_4, zp_73_4, zg_73_5, zp_73_5, zi_73, za_74, zs_74, zl_74, za_75, zs_75, zl_75, za_76, zs_76, zl_76, za_77, zs_77, zl_77, zg_L_0, zp_L_0, zg_L_1, zp_L_1, zg_L_2, zp_L_2, zg_L_3, zp_L_3, zg_L_4, zp_L_4, zg_L_5, zp_L_5, zg_L_6, zp_L_6, zg_L_7, zp_L_7, zi_L, zr_L_8, za_L_1, zs_L_1, zr_L_9, za_L_2, zs_L_2, zr_L_10, za_L_3, zs_L_3, zr_L_11, za_L_4, zs_L_4, zr_L_12, za_L_5, zs_L_5, zr_L_13, za_L_6, zs_L_6, zr_L_14, za_L_7, zs_L_7, zr_L_15, za_L_8, zs_L_8, zr_L_16, za_L_9, zs_L_9, zr_L_17, za_L_10, zs_L_10, zr_L_18, za_L_11, zs_L_11, zr_L_19, za_L_12, zs_L_12, zz_0, zz_31, zz_add, zz_sub, zz_mul, zz_neg, zz_lt, zz_le, zz_eq, zz_div, zz_md, zz_dv, zz_abs, zz_max, zz_min, zz_nI, zz_be0, zz_be1, zz_zb, zz_z, zz_l0, zz_l, zz_lcmp, zo_rf, zo_nl, zo_nn, zo_rI, zo_rL, zo_rR, zo_rV, Int.add_zero, Int.zero_add, Int.mul_zero, Int.zero_mul, Int.one_mul, Int.mul_one, if_true, if_false, not_true_eq_false, not_false_eq_true]
        refine zz_Ei (fun h => absurd h (by omega)) (fun _ => ?_)
        try (refine zz_Ei (fun h => absurd (show (1 : Int) = 0 from h) (by omega)) (fun _ => ?_))
        refine zz_Ei (fun h => stay _ hk4 (Or.inr h)) (fun h => ?_)
        exact kb ((a, b, zz_ahv (zz_mv A a b) e), _) ⟨by omega, hk4, zk_pku hpk hn.2 ha hlt hb hbt hmh (by show m < zz_ahv (zz_mv A a b) e; omega), hvb.2⟩
      · rw [zz_b_f (fun q => hmh q.2.2)] at c54
        simp (maxSteps := 5000000) (disch := first | assumption | omega) only [e2, c54, zr_73_0, zr_73_1, zr_73_2, zr_73_3, zg_73_4, zp_73_4, zg_73_5, zp_73_5, zi_73, za_74, zs_74, zl_74, za_75, zs_75, zl_75, za_76, zs_76, zl_76, za_77, zs_77, zl_77, zg_L_0, zp_L_0, zg_L_1, zp_L_1, zg_L_2, zp_L_2, zg_L_3, zp_L_3, zg_L_4, zp_L_4, zg_L_5, zp_L_5, zg_L_6, zp_L_6, zg_L_7, zp_L_7, zi_L, zr_L_8, za_L_1, zs_L_1, zr_L_9, za_L_2, zs_L_2, zr_L_10, za_L_3, zs_L_3, zr_L_11, za_L_4, zs_L_4, zr_L_12, za_L_5, zs_L_5, zr_L_13, za_L_6, zs_L_6, zr_L_14, za_L_7, zs_L_7, zr_L_15, za_L_8, zs_L_8, zr_L_16, za_L_9, zs_L_9, zr_L_17, za_L_10, zs_L_10, zr_L_18, za_L_11, zs_L_11, zr_L_19, za_L_12, zs_L_12, zz_0, zz_31, zz_add, zz_sub, zz_mul, zz_neg, zz_lt, zz_le, zz_eq, zz_div, zz_md, zz_dv, zz_abs, zz_max, zz_min, zz_nI, zz_be0, zz_be1, zz_zb, zz_z, zz_l0, zz_l, zz_lcmp, zo_rf, zo_nl, zo_nn, zo_rI, zo_rL, zo_rR, zo_rV, Int.add_zero, Int.zero_add, Int.mul_zero, Int.zero_mul, Int.one_mul, Int.mul_one, if_true, if_false, not_true_eq_false, not_false_eq_true]
        refine zz_Ei (fun h => absurd h (by omega)) (fun _ => ?_)
        exact stay J1 hk1 (Or.inl hmh)
    · rintro ⟨⟨f, t, m⟩, J1⟩ ⟨_, hk1, hpk, hm⟩
      have hk1 : zk_dk T R p A e J0 J1 := hk1
      have hpk : zk_pk (A 0 * A 1) (zz_mh A) (fun a b => zz_ahv (zz_mv A a b) e) (zz_ahv A e) (16 * a + A 0 * A 1) f t m := hpk
      have hm0 := zk_pkm hpk
      have e2 := hk1.1.1.1.2.2
      refine zz_Es (fun n => e_10_64 _ _ _ _ _ _ _ _) ?_
      simp (maxSteps := 5000000) (disch := first | assumption | omega) only [zo_rf, zg_L_2, e2, zz_le, zz_add]
      refine zz_Ei (fun _ => ?_) (fun h => absurd (Int.le_refl _) h)
      exact kk ((f, t, m), J1) ⟨by omega, hk1, zk_pks hpk (by omega) (fun a' b' r0 r1 r2 r3 r4 r5 ho => by omega), hm⟩
  · rintro ⟨⟨f, t, m⟩, J1⟩ ⟨_, hk1, hpk, _⟩
    have hk1 : zk_dk T R p A e J0 J1 := hk1
    have hpk : zk_pk (A 0 * A 1) (zz_mh A) (fun a b => zz_ahv (zz_mv A a b) e) (zz_ahv A e) (16 * (A 0 * A 1)) f t m := hpk
    have e2 := hk1.1.1.1.2.2
    refine zz_Es (fun n => e_10_52 _ _ _ _ _ _ _) ?_
    simp (maxSteps := 5000000) (disch := first | assumption | omega) only [zo_rf, zg_L_2, e2, zz_le, zp_73_4, zp_73_5, zk_m0]
    refine zz_Ei (fun _ => ?_) (fun h => absurd (Int.le_refl _) h)
    exact zz_Er (hQ J1 f t hk1 (zk_pkf hpk) (zk_pke hpk hn.2))
theorem c_10 {e : Int} (hd : 7 ≤ d) (hL : ZL T R) (hp : Lnd p) (hA : zz_ok Y A) (hR : zc_rep T R J p A) (e0 : 0 ≤ e) (e1 : e < A 7) :
    ∃ J' f t, mv_cax d 10 [.inr (.inr (some 73)), .inr (.inr (some p)), .inl (mv_c e)] (zz_S T J R G) = some (none, zz_S T J' R G) ∧ zc_rep T R J' p A ∧ (∀ x, (x < 73 ∨ 77 < x) → x ≠ p + 4 → x ≠ p + 12 → J' x = J x) ∧ J' 73 4 = f ∧ J' 73 5 = t ∧ ((f = -1 ∧ t = -1) ∨ (0 ≤ f ∧ f < A 0 * A 1 ∧ 0 ≤ t ∧ t < A 0 * A 1)) ∧ zz_pick (A 0 * A 1) (zz_mh A) (fun a b => zz_ahv (zz_mv A a b) e) (zz_ahv A e) f t := by
  have hn := hA.n
  have hpl : p + 12 < 73 := by rcases hp with rfl | rfl | rfl | rfl <;> omega
  have h7 := hA.2.2.2.2.2.2.1
  have e7 := hR.2.1.2.2.2.2
  have hnx : 0 ≤ (e + 1) % A 7 ∧ (e + 1) % A 7 < A 7 := ⟨Int.emod_nonneg _ (by omega), Int.emod_lt_of_pos _ (by omega)⟩
  suffices h : ∃ r, mv_cax d 10 [.inr (.inr (some 73)), .inr (.inr (some p)), .inl (mv_c e)] (zz_S T J R G) = some r ∧ ∃ J' f t, r = (none, zz_S T J' R G) ∧ zc_rep T R J' p A ∧ (∀ x, (x < 73 ∨ 77 < x) → x ≠ p + 4 → x ≠ p + 12 → J' x = J x) ∧ J' 73 4 = f ∧ J' 73 5 = t ∧ ((f = -1 ∧ t = -1) ∨ (0 ≤ f ∧ f < A 0 * A 1 ∧ 0 ≤ t ∧ t < A 0 * A 1)) ∧ zz_pick (A 0 * A 1) (zz_mh A) (fun a b => zz_ahv (zz_mv A a b) e) (zz_ahv A e) f t by
    obtain ⟨r, h1, J', f, t, rfl, h2⟩ := h
    exact ⟨J', f, t, h1, h2⟩
  refine zz_call (by omega) t_10 rfl (fun n => e_10 _ _ _ _) ?_
  have q74 : T[74]? = some (.inr (0, 160)) := hL.at 58 (by rfl)
  have q75 : T[75]? = some (.inr (0, 160)) := hL.at 59 (by rfl)
  obtain ⟨O1, h5, hO1⟩ := c_5 (T := T) (J := J) (R := R) (G := G) (d := d - 1) (p := p) (q := 74) (Y := Y) (A := A) (e := e) (by omega) hL hp hA hR e0 e1 q74 (by omega) (by omega)
  obtain ⟨O2, h5', hO2⟩ := c_5 (T := T) (J := zz_w J 74 O1) (R := R) (G := G) (d := d - 1) (p := p) (q := 75) (Y := Y) (A := A) (e := (e + 1) % A 7) (by omega) hL hp hA (zc_rep_f hR (fun x hx => zw_n (by omega))) hnx.1 hnx.2 q75 (by omega) (by omega)
  obtain ⟨J2, hJ2⟩ : ∃ J2, J2 = zz_w (zz_w J 74 O1) 75 O2 := ⟨_, rfl⟩
  rw [← hJ2] at h5'
  have g74 : ∀ k, 0 ≤ k → k < 160 → J2 74 k = zk_T A e k := fun k k0 k1 => by rw [hJ2, zw_n (by omega), zw_s]; exact hO1 k k0 k1
  have g75 : ∀ k, 0 ≤ k → k < 160 → J2 75 k = zk_T A ((e + 1) % A 7) k := fun k k0 k1 => by rw [hJ2, zw_s]; exact hO2 k k0 k1
  have fr2 : ∀ x, x ≠ 74 → x ≠ 75 → J2 x = J x := fun x x1 x2 => by rw [hJ2, zw_n x2, zw_n x1]
  clear hJ2
  have hR2 : zc_rep T R J2 p A := zc_rep_f hR (fun x hx => fr2 x (by omega) (by omega))
  obtain ⟨J3, h11, hR3, fr3⟩ := c_11 (T := T) (J := J2) (R := R) (G := G) (d := d - 1) (e := e) (by omega) hL hp hA hR2 e0 e1 g74 g75
  have hk3 : zk_dk T R p A e J J3 := ⟨hR3, fun k k0 k1 => by rw [fr3 74 (by omega) (by omega) (by omega) (by omega) (by omega)]; exact g74 k k0 k1, fun k k0 k1 => by rw [fr3 75 (by omega) (by omega) (by omega) (by omega) (by omega)]; exact g75 k k0 k1, fun x x1 x2 x3 => by rw [fr3 x (by omega) (by omega) (by omega) x2 x3, fr2 x (by omega) (by omega)]⟩
  have l := c_10l (T := T) (J := J3) (R := R) (G := G) (d := d - 1) (e := e) (J0 := J) (by omega) hL hp hA hk3 e0 e1 (Q := fun r => ∃ J' f t, r = (none, zz_S T J' R G) ∧ zc_rep T R J' p A ∧ (∀ x, (x < 73 ∨ 77 < x) → x ≠ p + 4 → x ≠ p + 12 → J' x = J x) ∧ J' 73 4 = f ∧ J' 73 5 = t ∧ ((f = -1 ∧ t = -1) ∨ (0 ≤ f ∧ f < A 0 * A 1 ∧ 0 ≤ t ∧ t < A 0 * A 1)) ∧ zz_pick (A 0 * A 1) (zz_mh A) (fun a b => zz_ahv (zz_mv A a b) e) (zz_ahv A e) f t) (fun J' f t hk hr hpk => ⟨zk_m J' f t, f, t, rfl, zc_rep_f hk.1 (fun x hx => zk_mn (by omega)), fun x x1 x2 x3 => by rw [zk_mn (by omega)]; exact hk.2.2.2 x x1 x2 x3, zk_m4, zk_m5, hr, hpk⟩)
  by_cases hw : A 7 ≤ e + 1
  · have ex : (e + 1) % A 7 = 0 := by
      rw [show e + 1 = A 7 by omega]
      exact Int.emod_self
    rw [ex] at h5'
    simp (maxSteps := 5000000) (disch := first | assumption | omega) only [e7, h5, h5', h11, zr_73_0, zr_73_1, zr_73_2, zr_73_3, zg_73_4, zp_73_4, zg_73_5, zp_73_5, zi_73, za_74, zs_74, zl_74, za_75, zs_75, zl_75, za_76, zs_76, zl_76, za_77, zs_77, zl_77, zg_L_0, zp_L_0, zg_L_1, zp_L_1, zg_L_2, zp_L_2, zg_L_3, zp_L_3, zg_L_4, zp_L_4, zg_L_5, zp_L_5, zg_L_6, zp_L_6, zg_L_7, zp_L_7, zi_L, zr_L_8, za_L_1, zs_L_1, zr_L_9, za_L_2, zs_L_2, zr_L_10, za_L_3, zs_L_3, zr_L_11, za_L_4, zs_L_4, zr_L_12, za_L_5, zs_L_5, zr_L_13, za_L_6, zs_L_6, zr_L_14, za_L_7, zs_L_7, zr_L_15, za_L_8, zs_L_8, zr_L_16, za_L_9, zs_L_9, zr_L_17, za_L_10, zs_L_10, zr_L_18, za_L_11, zs_L_11, zr_L_19, za_L_12, zs_L_12, zz_0, zz_31, zz_add, zz_sub, zz_mul, zz_neg, zz_lt, zz_le, zz_eq, zz_div, zz_md, zz_dv, zz_abs, zz_max, zz_min, zz_nI, zz_be0, zz_be1, zz_zb, zz_z, zz_l0, zz_l, zz_lcmp, zo_rf, zo_nl, zo_nn, zo_rI, zo_rL, zo_rR, zo_rV, Int.add_zero, Int.zero_add, Int.mul_zero, Int.zero_mul, Int.one_mul, Int.mul_one, if_true, if_false, not_true_eq_false, not_false_eq_true]
    refine zz_Ei (fun _ => ?_) (fun h => absurd hw h)
    exact l
  · have ex : (e + 1) % A 7 = e + 1 := Int.emod_eq_of_lt (by omega) (by omega)
    rw [ex] at h5'
    simp (maxSteps := 5000000) (disch := first | assumption | omega) only [e7, h5, h5', h11, zr_73_0, zr_73_1, zr_73_2, zr_73_3, zg_73_4, zp_73_4, zg_73_5, zp_73_5, zi_73, za_74, zs_74, zl_74, za_75, zs_75, zl_75, za_76, zs_76, zl_76, za_77, zs_77, zl_77, zg_L_0, zp_L_0, zg_L_1, zp_L_1, zg_L_2, zp_L_2, zg_L_3, zp_L_3, zg_L_4, zp_L_4, zg_L_5, zp_L_5, zg_L_6, zp_L_6, zg_L_7, zp_L_7, zi_L, zr_L_8, za_L_1, zs_L_1, zr_L_9, za_L_2, zs_L_2, zr_L_10, za_L_3, zs_L_3, zr_L_11, za_L_4, zs_L_4, zr_L_12, za_L_5, zs_L_5, zr_L_13, za_L_6, zs_L_6, zr_L_14, za_L_7, zs_L_7, zr_L_15, za_L_8, zs_L_8, zr_L_16, za_L_9, zs_L_9, zr_L_17, za_L_10, zs_L_10, zr_L_18, za_L_11, zs_L_11, zr_L_19, za_L_12, zs_L_12, zz_0, zz_31, zz_add, zz_sub, zz_mul, zz_neg, zz_lt, zz_le, zz_eq, zz_div, zz_md, zz_dv, zz_abs, zz_max, zz_min, zz_nI, zz_be0, zz_be1, zz_zb, zz_z, zz_l0, zz_l, zz_lcmp, zo_rf, zo_nl, zo_nn, zo_rI, zo_rL, zo_rR, zo_rV, Int.add_zero, Int.zero_add, Int.mul_zero, Int.zero_mul, Int.one_mul, Int.mul_one, if_true, if_false, not_true_eq_false, not_false_eq_true]
    refine zz_Ei (fun h => absurd h hw) (fun _ => ?_)
    exact l
end ZAH3
