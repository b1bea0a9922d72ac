/-! PURE LAYER, 60: the class picks a haul, whole -/
theorem zk_Hmv {A : Int → Int} {a b : Int} : zz_H (zz_mv A a b) = zz_f (zz_f (zz_H A) a (zz_H A a - 1)) b (zz_H A b + 1) := by
  funext c
  show (if 8 + c = 8 + b then A (8 + b) + 1 else if 8 + c = 8 + a then A (8 + a) - 1 else A (8 + c)) = (if c = b then A (8 + b) + 1 else if c = a then A (8 + a) - 1 else A (8 + c))
  by_cases h : c = b
  · rw [if_pos h, if_pos (by omega)]
  · rw [if_neg h, if_neg (by omega)]
    by_cases h' : c = a
    · rw [if_pos h', if_pos (by omega)]
    · rw [if_neg h', if_neg (by omega)]
section ZPI2
variable {T : List mv_T} {J : Nat → Int → Int} {R : Nat → Nat → Option Nat} {G : Nat → Nat → Int64} {d p q : Nat} {Y : Int} {A V : Int → Int} {W : (Int → Int) → Int}
theorem zk_mi {f t : Int} (h4 : J 73 4 = f) (h5 : J 73 5 = t) : zk_m J f t = J := by
  unfold zk_m
  have e : zz_f (zz_f (J 73) 4 f) 5 t = J 73 := by
    funext y
    unfold zz_f
    split
    · rename_i h
      rw [h, h5]
    · split
      · rename_i h
        rw [h, h4]
      · rfl
  rw [e, zw_i]
theorem zk_my {f t y : Int} (h : y ≠ 4) (h' : y ≠ 5) : zk_m J f t 73 y = J 73 y := by
  unfold zk_m
  rw [zw_s, zf_n h', zf_n h]
/-- what a haul is worth, by lowering and raising -/
theorem zk_gain (hA : zz_ok Y A) (hW : zk_is (A 0 * A 1) V W) {a b : Int} (a0 : 0 ≤ a) (a1 : a < A 0 * A 1) (b0 : 0 ≤ b) (b1 : b < A 0 * A 1) (h : zz_mh A a b) : W (zz_H (zz_mv A a b)) = W (zz_H A) + (zk_lo A V a + zk_ra A V b) := by
  have hn := hA.n
  rw [zk_Hmv, zk_dl (g := zz_H A) hW (fun c c0 c1 => (hA.2.2.2.2.2.2.2.1 c c0 c1).1) (by omega) a0 a1 b0 b1 h.1 h.2.1 h.2.2.1]
  unfold zk_lo zk_ra
  rw [if_pos ⟨h.2.2.2.1, h.2.1⟩, if_pos ⟨h.2.2.2.2, h.2.2.1⟩]
  rfl
theorem c_8 {reach μ : Int} (hd : 3 ≤ d) (hL : ZL T R) (hp : Lnd p) (hA : zz_ok Y A) (hR : zc_rep T R J p A) (hq : T[q]? = some (.inr (0, 160))) (hq1 : q = 74 ∨ q = 75) (hV : ∀ k, 0 ≤ k → k < 160 → J q k = V k) (hVb : ∀ k, 0 ≤ k → k < 160 → 0 ≤ V k ∧ V k ≤ 2376) (hW : zk_is (A 0 * A 1) V W) (hr : 0 ≤ reach ∧ reach ≤ 9) (hμ : μ = 0 ∨ μ = 1) :
    ∃ J' f t, mv_cax d 8 [.inr (.inr (some 73)), .inr (.inr (some p)), .inr (.inr (some q)), .inl (mv_c reach), .inl (mv_c μ)] (zz_S T J R G) = some (none, zz_S T J' R G) ∧ (∀ x, x ≠ 73 → x ≠ 76 → x ≠ 77 → J' x = J x) ∧ (∀ y, y ≠ 4 → y ≠ 5 → J' 73 y = J 73 y) ∧ J' 73 4 = f ∧ J' 73 5 = t ∧ ((f = -1 ∧ t = -1) ∨ (0 ≤ f ∧ f < A 0 * A 1 ∧ 0 ≤ t ∧ t < A 0 * A 1)) ∧ zz_pick (A 0 * A 1) (fun a b => zz_mh A a b ∧ zz_nr (A 1) a b ≤ reach) (fun a b => W (zz_H (zz_mv A a b)) - μ * zz_hh A a b) (W (zz_H A)) f t := by
  have hn := hA.n
  have hpl : p + 12 < 73 := by rcases hp with rfl | rfl | rfl | rfl <;> omega
  suffices h : ∃ r, mv_cax d 8 [.inr (.inr (some 73)), .inr (.inr (some p)), .inr (.inr (some q)), .inl (mv_c reach), .inl (mv_c μ)] (zz_S T J R G) = some r ∧ ∃ J' f t, r = (none, zz_S T J' R G) ∧ (∀ x, x ≠ 73 → x ≠ 76 → x ≠ 77 → J' x = J x) ∧ (∀ y, y ≠ 4 → y ≠ 5 → J' 73 y = J 73 y) ∧ J' 73 4 = f ∧ J' 73 5 = t ∧ ((f = -1 ∧ t = -1) ∨ (0 ≤ f ∧ f < A 0 * A 1 ∧ 0 ≤ t ∧ t < A 0 * A 1)) ∧ zz_pick (A 0 * A 1) (fun a b => zz_mh A a b ∧ zz_nr (A 1) a b ≤ reach) (fun a b => W (zz_H (zz_mv A a b)) - μ * zz_hh A a b) (W (zz_H A)) f t by
    obtain ⟨r, h1, J', f, t, rfl, h2⟩ := h
    exact ⟨J', f, t, h1, h2⟩
  refine zz_call (by omega) t_8 rfl (fun n => e_8 _ _ _ _ _ _) ?_
  obtain ⟨Q, hQ⟩ : ∃ Q : Option mv_V × mv_S → Prop, Q = fun r => ∃ J' f t, r = (none, zz_S T J' R G) ∧ (∀ x, x ≠ 73 → x ≠ 76 → x ≠ 77 → J' x = J x) ∧ (∀ y, y ≠ 4 → y ≠ 5 → J' 73 y = J 73 y) ∧ J' 73 4 = f ∧ J' 73 5 = t ∧ ((f = -1 ∧ t = -1) ∨ (0 ≤ f ∧ f < A 0 * A 1 ∧ 0 ≤ t ∧ t < A 0 * A 1)) ∧ zz_pick (A 0 * A 1) (fun a b => zz_mh A a b ∧ zz_nr (A 1) a b ≤ reach) (fun a b => W (zz_H (zz_mv A a b)) - μ * zz_hh A a b) (W (zz_H A)) f t := ⟨_, rfl⟩
  rw [← hQ]
  obtain ⟨mx, X, Z, h9, hmx, hXZ⟩ := c_9 (T := T) (J := zk_m J (-1) (-1)) (R := R) (G := G) (d := d - 1) (p := p) (q := q) (Y := Y) (A := A) (V := V) (by omega) hL hp hA (zc_rep_f hR (fun x hx => zk_mn (by omega))) hq hq1 (fun k k0 k1 => by rw [zk_mn (by omega)]; exact hV k k0 k1) hVb
  obtain ⟨J1, hJ1⟩ : ∃ J1, J1 = zz_w (zz_w (zk_m J (-1) (-1)) 76 X) 77 Z := ⟨_, rfl⟩
  rw [← hJ1] at h9
  have f1 : ∀ x, x ≠ 73 → x ≠ 76 → x ≠ 77 → J1 x = J x := fun x x1 x2 x3 => by rw [hJ1, zw_n x3, zw_n x2, zk_mn x1]
  have f73 : J1 73 = zk_m J (-1) (-1) 73 := by rw [hJ1, zw_n (by omega), zw_n (by omega)]
  have j76 : J1 76 = X := by rw [hJ1, zw_n (by omega), zw_s]
  have j77 : J1 77 = Z := by rw [hJ1, zw_s]
  clear hJ1
  have e1 : zk_m J1 (-1) (-1) = J1 := zk_mi (by rw [f73]; exact zk_m4) (by rw [f73]; exact zk_m5)
  have hR1 : ∀ f t, zc_rep T R (zk_m J1 f t) p A := fun f t => zc_rep_f hR (fun x hx => by rw [zk_mn (by omega), f1 x (by omega) (by omega) (by omega)])
  have fin : ∀ f t m, zk_pk (A 0 * A 1) (fun a b => zz_mh A a b ∧ zz_nr (A 1) a b ≤ reach) (fun a b => zk_lo A V a + zk_ra A V b - μ * zz_hh A a b) 0 (16 * (A 0 * A 1)) f t m → Q (none, zz_S T (zk_m J1 f t) R G) := by
    intro f t m h
    rw [hQ]
    refine ⟨zk_m J1 f t, f, t, rfl, fun x x1 x2 x3 => by rw [zk_mn x1, f1 x x1 x2 x3], fun y y1 y2 => by rw [zk_my y1 y2, f73, zk_my y1 y2], zk_m4, zk_m5, zk_pkf h, zk_pick_c (zk_pke h (by omega)) (fun _ _ _ _ _ _ => Iff.rfl) (fun a b r0 r1 r2 r3 ho => ?_)⟩
    rw [zk_gain hA hW r0 r1 r2 r3 ho.1]
    omega
  clear hQ
  simp (maxSteps := 5000000) (disch := first | assumption | omega) only [zk_m0, h9, zr_73_0, zr_73_1, zr_73_2, zr_73_3, zg_73_4, zp_73_4, zg_73_5, zp_73_5, zi_73, za_74, zs_74, zl_74, za_75, zs_75, zl_75, za_76, zs_76, zl_76, za_77, zs_77, zl_77, zg_L_0, zp_L_0, zg_L_1, zp_L_1, zg_L_2, zp_L_2, zg_L_3, zp_L_3, zg_L_4, zp_L_4, zg_L_5, zp_L_5, zg_L_6, zp_L_6, zg_L_7, zp_L_7, zi_L, zr_L_8, za_L_1, zs_L_1, zr_L_9, za_L_2, zs_L_2, zr_L_10, za_L_3, zs_L_3, zr_L_11, za_L_4, zs_L_4, zr_L_12, za_L_5, zs_L_5, zr_L_13, za_L_6, zs_L_6, zr_L_14, za_L_7, zs_L_7, zr_L_15, za_L_8, zs_L_8, zr_L_16, za_L_9, zs_L_9, zr_L_17, za_L_10, zs_L_10, zr_L_18, za_L_11, zs_L_11, zr_L_19, za_L_12, zs_L_12, zz_0, zz_31, zz_add, zz_sub, zz_mul, zz_neg, zz_lt, zz_le, zz_eq, zz_div, zz_md, zz_dv, zz_abs, zz_max, zz_min, zz_nI, zz_be0, zz_be1, zz_zb, zz_z, zz_l0, zz_l, zz_lcmp, zo_rf, zo_nl, zo_nn, zo_rI, zo_rL, zo_rR, zo_rV, Int.add_zero, Int.zero_add, Int.mul_zero, Int.zero_mul, Int.one_mul, Int.mul_one, if_true, if_false, not_true_eq_false, not_false_eq_true]
  have l := zz_loop (α := Int × Int × Int) (run := fun a s n => mv_run (mv_cax (d - 1)) mm_8 n 24 [(0, .inr (.inr (some 73))), (1, .inr (.inr (some p))), (3, .inl (mv_c reach)), (4, .inl (mv_c μ)), (5, .inl (mv_c s.2.2)), (6, .inl (mv_c mx)), (7, .inl (mv_c a))] [] (zz_S T (zk_m J1 s.1 s.2.1) R G)) (Q := Q) (A 0 * A 1) (fun a s => 0 ≤ a ∧ zk_pk (A 0 * A 1) (fun a b => zz_mh A a b ∧ zz_nr (A 1) a b ≤ reach) (fun a b => zk_lo A V a + zk_ra A V b - μ * zz_hh A a b) 0 (16 * a) s.1 s.2.1 s.2.2 ∧ s.2.2 ≤ 5000) ?_ ?_ (A 0 * A 1).toNat 0 (-1, -1, 0) (by omega) ⟨by omega, zk_pk0, show (0 : Int) ≤ 5000 by omega⟩
  · have l : zz_E (fun n => mv_run (mv_cax (d - 1)) mm_8 n 24 [(0, .inr (.inr (some 73))), (1, .inr (.inr (some p))), (3, .inl (mv_c reach)), (4, .inl (mv_c μ)), (5, .inl (mv_c 0)), (6, .inl (mv_c mx)), (7, .inl (mv_c 0))] [] (zz_S T (zk_m J1 (-1) (-1)) R G)) Q := l
    rw [e1] at l
    exact l
  · rintro a ⟨f, t, m⟩ ⟨ha, hpk, hm⟩ hlt kk
    have hpk : zk_pk (A 0 * A 1) (fun a b => zz_mh A a b ∧ zz_nr (A 1) a b ≤ reach) (fun a b => zk_lo A V a + zk_ra A V b - μ * zz_hh A a b) 0 (16 * a) f t m := hpk
    have hm : m ≤ 5000 := hm
    have hm0 := zk_pkm hpk
    have hlb := zk_lo_b hA hVb ha hlt
    have e2 := (hR1 f t).1.1.2.2
    have xa := (hXZ a ha hlt).1
    have lob : -1000000 ≤ zk_lo A V a ∧ zk_lo A V a ≤ 2376 := by omega
    refine zz_Es (fun n => e_8_24 _ _ _ _ _ _ _ _) ?_
    simp (maxSteps := 5000000) (disch := first | assumption | omega) only [e2, zk_mn, j76, xa, zr_73_0, zr_73_1, zr_73_2, zr_73_3, zg_73_4, zp_73_4, zg_73_5, zp_73_5, zi_73, za_74, zs_74, zl_74, za_75, zs_75, zl_75, za_76, zs_76, zl_76, za_77, zs_77, zl_77, zg_L_0, zp_L_0, zg_L_1, zp_L_1, zg_L_2, zp_L_2, zg_L_3, zp_L_3, zg_L_4, zp_L_4, zg_L_5, zp_L_5, zg_L_6, zp_L_6, zg_L_7, zp_L_7, zi_L, zr_L_8, za_L_1, zs_L_1, zr_L_9, za_L_2, zs_L_2, zr_L_10, za_L_3, zs_L_3, zr_L_11, za_L_4, zs_L_4, zr_L_12, za_L_5, zs_L_5, zr_L_13, za_L_6, zs_L_6, zr_L_14, za_L_7, zs_L_7, zr_L_15, za_L_8, zs_L_8, zr_L_16, za_L_9, zs_L_9, zr_L_17, za_L_10, zs_L_10, zr_L_18, za_L_11, zs_L_11, zr_L_19, za_L_12, zs_L_12, zz_0, zz_31, zz_add, zz_sub, zz_mul, zz_neg, zz_lt, zz_le, zz_eq, zz_div, zz_md, zz_dv, zz_abs, zz_max, zz_min, zz_nI, zz_be0, zz_be1, zz_zb, zz_z, zz_l0, zz_l, zz_lcmp, zo_rf, zo_nl, zo_nn, zo_rI, zo_rL, zo_rR, zo_rV, Int.add_zero, Int.zero_add, Int.mul_zero, Int.zero_mul, Int.one_mul, Int.mul_one, if_true, if_false, not_true_eq_false, not_false_eq_true]
    refine zz_Ei (fun h => absurd h (by omega)) (fun _ => ?_)
    refine zz_Ei (fun hgo => ?_) (fun hno => ?_)
    · have hga : zz_bit (A 6) a = 0 ∧ 1 ≤ A (8 + a) := by
        rcases hlb with r | r
        · omega
        · exact r.1
      have lob' : -2376 ≤ zk_lo A V a := by
        rcases hlb with r | r <;> omega
      refine zz_loop (α := Int × Int × Int) (run := fun b s n => mv_run (mv_cax (d - 1)) mm_8 n 54 [(0, .inr (.inr (some 73))), (1, .inr (.inr (some p))), (3, .inl (mv_c reach)), (4, .inl (mv_c μ)), (5, .inl (mv_c s.2.2)), (6, .inl (mv_c mx)), (7, .inl (mv_c a)), (8, .inl (mv_c b))] [] (zz_S T (zk_m J1 s.1 s.2.1) R G)) (A 0 * A 1) (fun b s => 0 ≤ b ∧ zk_pk (A 0 * A 1) (fun a b => zz_mh A a b ∧ zz_nr (A 1) a b ≤ reach) (fun a b => zk_lo A V a + zk_ra A V b - μ * zz_hh A a b) 0 (16 * a + b) s.1 s.2.1 s.2.2 ∧ s.2.2 ≤ 5000) ?_ ?_ (A 0 * A 1).toNat 0 (f, t, m) (by omega) ⟨by omega, by rw [Int.add_zero]; exact hpk, hm⟩
      · rintro b ⟨f, t, m⟩ ⟨hb, hpk, hm⟩ hbt kb
        have hpk : zk_pk (A 0 * A 1) (fun a b => zz_mh A a b ∧ zz_nr (A 1) a b ≤ reach) (fun a b => zk_lo A V a + zk_ra A V b - μ * zz_hh A a b) 0 (16 * a + b) f t m := hpk
        have hm : m ≤ 5000 := hm
        have hm0 := zk_pkm hpk
        have hrb := zk_ra_b hA hVb hb hbt
        have e2 := (hR1 f t).1.1.2.2
        have zb := (hXZ b hb hbt).2.1
        have hnr := zz_nr_b hA.1.1 hA.1.2.1 hA.1.2.2.1 hA.1.2.2.2 ha hlt hb hbt
        have hhb := zz_hh_b hA ha hlt hb hbt
        have rab : -1000000 ≤ zk_ra A V b ∧ zk_ra A V b ≤ 2376 := by omega
        have stay : (¬ (zz_mh A a b ∧ zz_nr (A 1) a b ≤ reach) ∨ zk_lo A V a + zk_ra A V b - μ * zz_hh A a b ≤ m) → zz_E (fun n => mv_run (mv_cax (d - 1)) mm_8 n 54 [(0, .inr (.inr (some 73))), (1, .inr (.inr (some p))), (3, .inl (mv_c reach)), (4, .inl (mv_c μ)), (5, .inl (mv_c m)), (6, .inl (mv_c mx)), (7, .inl (mv_c a)), (8, .inl (mv_c (b + 1)))] [] (zz_S T (zk_m J1 f t) R G)) Q := by
          intro h
          refine kb (f, t, m) ⟨by omega, zk_pks hpk (by omega) (fun a' b' r0 r1 r2 r3 r4 r5 ho => ?_), hm⟩
          have ea : a' = a := by omega
          have eb : b' = b := by omega
          subst ea
          subst eb
          rcases h with h | h
          · exact absurd ho h
          · exact h
        have upd : ∀ v, zz_mh A a b → zz_nr (A 1) a b ≤ reach → v = zk_lo A V a + zk_ra A V b - μ * zz_hh A a b → m < v → v ≤ 5000 → zz_E (fun n => mv_run (mv_cax (d - 1)) mm_8 n 54 [(0, .inr (.inr (some 73))), (1, .inr (.inr (some p))), (3, .inl (mv_c reach)), (4, .inl (mv_c μ)), (5, .inl (mv_c v)), (6, .inl (mv_c mx)), (7, .inl (mv_c a)), (8, .inl (mv_c (b + 1)))] [] (zz_S T (zk_m J1 a b) R G)) Q := by
          intro v h1 h2 h3 h4 h5
          subst h3
          exact kb (a, b, zk_lo A V a + zk_ra A V b - μ * zz_hh A a b) ⟨by omega, zk_pku hpk hn.2 ha hlt hb hbt ⟨h1, h2⟩ h4, h5⟩
        have c51 := c_51 (T := T) (J := zk_m J1 f t) (R := R) (G := G) (d := d - 1) (p := p) (by omega) hL hp hA (hR1 f t) ha hlt hb hbt
        have c55 := c_55 (T := T) (J := zk_m J1 f t) (R := R) (G := G) (d := d - 1) (p := p) (by omega) hL hp hA (hR1 f t) ha hlt hb hbt
        refine zz_Es (fun n => e_8_54 _ _ _ _ _ _ _ _ _) ?_
        simp (maxSteps := 5000000) (disch := first | assumption | omega) only [e2, zk_mn, j76, j77, xa, zb, zk_mm, c51, c55, zr_73_0, zr_73_1, zr_73_2, zr_73_3, zg_73_4, zp_73_4, zg_73_5, zp_73_5, zi_73, za_74, zs_74, zl_74, za_75, zs_75, zl_75, za_76, zs_76, zl_76, za_77, zs_77, zl_77, zg_L_0, zp_L_0, zg_L_1, zp_L_1, zg_L_2, zp_L_2, zg_L_3, zp_L_3, zg_L_4, zp_L_4, zg_L_5, zp_L_5, zg_L_6, zp_L_6, zg_L_7, zp_L_7, zi_L, zr_L_8, za_L_1, zs_L_1, zr_L_9, za_L_2, zs_L_2, zr_L_10, za_L_3, zs_L_3, zr_L_11, za_L_4, zs_L_4, zr_L_12, za_L_5, zs_L_5, zr_L_13, za_L_6, zs_L_6, zr_L_14, za_L_7, zs_L_7, zr_L_15, za_L_8, zs_L_8, zr_L_16, za_L_9, zs_L_9, zr_L_17, za_L_10, zs_L_10, zr_L_18, za_L_11, zs_L_11, zr_L_19, za_L_12, zs_L_12, zz_0, zz_31, zz_add, zz_sub, zz_mul, zz_neg, zz_lt, zz_le, zz_eq, zz_div, zz_md, zz_dv, zz_abs, zz_max, zz_min, zz_nI, zz_be0, zz_be1, zz_zb, zz_z, zz_l0, zz_l, zz_lcmp, zo_rf, zo_nl, zo_nn, zo_rI, zo_rL, zo_rR, zo_rV, Int.add_zero, Int.zero_add, Int.mul_zero, Int.zero_mul, Int.one_mul, Int.mul_one, if_true, if_false, not_true_eq_false, not_false_eq_true]
        refine zz_Ei (fun h => absurd h (by omega)) (fun _ => ?_)
        refine zz_Ei (fun h => stay (Or.inl (fun q => q.1.1 h))) (fun hne => ?_)
        refine zz_Ei (fun h => stay (Or.inl (fun q => ?_))) (fun hra => ?_)
        · rcases hrb with r | r
          · exact r.2 ⟨q.1.2.2.2.2, q.1.2.2.1⟩
          · omega
        have hrb' : (zz_bit (A 6) b = 0 ∧ A (8 + b) ≤ 8) := by
          rcases hrb with r | r
          · exact absurd r.1 hra
          · exact r.1
        have hmh : zz_mh A a b := ⟨hne, hga.2, hrb'.2, hga.1, hrb'.1⟩
        refine zz_Ei (fun hrc => ?_) (fun hrc => stay (Or.inl (fun q => hrc q.2)))
        rcases hμ with rfl | rfl
        · refine zz_Ei (fun _ => ?_) (fun h => absurd rfl h)
          refine zz_Ei (fun h => stay (Or.inr (by rw [Int.zero_mul]; exact h))) (fun h => ?_)
          exact upd _ hmh hrc (by rw [Int.zero_mul]) (by omega) (by omega)
        · refine zz_Ei (fun h => absurd h (by omega)) (fun _ => ?_)
          refine zz_Ei (fun h => stay (Or.inr (by rw [Int.one_mul]; exact h))) (fun h => ?_)
          exact upd _ hmh hrc (by rw [Int.one_mul]) (by omega) (by omega)
      · rintro ⟨f, t, m⟩ ⟨hb, hpk, hm⟩
        have e2 := (hR1 f t).1.1.2.2
        refine zz_Es (fun n => e_8_54 _ _ _ _ _ _ _ _ _) ?_
        simp (maxSteps := 5000000) (disch := first | assumption | omega) only [zo_rf, zg_L_2, e2, zz_le, zz_add]
        refine zz_Ei (fun _ => ?_) (fun h => absurd (Int.le_refl _) h)
        refine kk (f, t, m) ⟨by omega, zk_pks hpk (by omega) (fun a' b' r0 r1 r2 r3 r4 r5 ho => by omega), hm⟩
    · refine kk (f, t, m) ⟨by omega, zk_pks hpk (by omega) (fun a' b' r0 r1 r2 r3 r4 r5 ho => ?_), hm⟩
      have ea : a' = a := by omega
      subst ea
      have hz := (hXZ b' r2 r3).2.2
      have hhb := zz_hh_b hA r0 r1 r2 r3
      show zk_lo A V a' + zk_ra A V b' - μ * zz_hh A a' b' ≤ m
      have : 0 ≤ μ * zz_hh A a' b' := by
        rcases hμ with rfl | rfl
        · rw [Int.zero_mul]; exact Int.le_refl _
        · rw [Int.one_mul]; exact hhb.1
      omega
  · rintro ⟨f, t, m⟩ ⟨_, hpk, _⟩
    have e2 := (hR1 f t).1.1.2.2
    refine zz_Es (fun n => e_8_24 _ _ _ _ _ _ _ _) ?_
    simp (maxSteps := 5000000) (disch := first | assumption | omega) only [zo_rf, zg_L_2, e2, zz_le]
    refine zz_Ei (fun _ => ?_) (fun h => absurd (Int.le_refl _) h)
    exact zz_Er (fin f t m hpk)
end ZPI2
