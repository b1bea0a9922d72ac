/-! PURE LAYER, 48: the class sorts -/
section ZSR2
variable {T : List mv_T} {J : Nat → Int → Int} {R : Nat → Nat → Option Nat} {G : Nat → Nat → Int64} {d p : Nat} {Y : Int} {A H : Int → Int}
/-- the lists that sorting leaves -/
def zs_ls (E : Int → Int) (n : Int) (J : Nat → Int → Int) : Prop := zs_in (fun c => 0 < E c) (J 80) n (J 78 3) ∧ zs_in (fun c => E c < 0) (J 81) n (J 78 4) ∧ J 78 3 + J 78 4 ≤ n ∧ (∀ i, 0 ≤ i → i < J 78 3 → J 82 i = E (J 80 i)) ∧ ∀ j, 0 ≤ j → j < J 78 4 → J 83 j = -E (J 81 j)
def zs_fr (J J' : Nat → Int → Int) : Prop := (∀ x, x ≠ 78 → (x < 80 ∨ (83 < x ∧ x < 85) ∨ 100 < x) → J' x = J x) ∧ ∀ y, y ≠ 3 → y ≠ 4 → J' 78 y = J 78 y
theorem zs_fr_h {J' : Nat → Int → Int} {a b v w x : Int} (hf : zs_fr J J') : zs_fr J (zz_u (zz_u (zz_u J' 80 a v) 82 b w) 78 3 x) := by
  refine ⟨fun x x1 x2 => ?_, fun y y1 y2 => ?_⟩
  · rw [zu_A x1, zu_A (by omega), zu_A (by omega)]; exact hf.1 x x1 x2
  · rw [zu_k y1, zu_A (by omega), zu_A (by omega)]; exact hf.2 y y1 y2
theorem zs_fr_l {J' : Nat → Int → Int} {a b v w x : Int} (hf : zs_fr J J') : zs_fr J (zz_u (zz_u (zz_u J' 81 a v) 83 b w) 78 4 x) := by
  refine ⟨fun x x1 x2 => ?_, fun y y1 y2 => ?_⟩
  · rw [zu_A x1, zu_A (by omega), zu_A (by omega)]; exact hf.1 x x1 x2
  · rw [zu_k y2, zu_A (by omega), zu_A (by omega)]; exact hf.2 y y1 y2
theorem zs_ls_l {J' : Nat → Int → Int} {E : Int → Int} {c : Int} (h : zs_ls E c J') (hE : E c < 0) : zs_ls E (c + 1) (zz_u (zz_u (zz_u J' 81 (J' 78 4) c) 83 (J' 78 4) (-E c)) 78 4 (J' 78 4 + 1)) := by
  obtain ⟨l1, l2, l3, l4, l5⟩ := h
  refine ⟨?_, ?_, ?_, ?_, ?_⟩
  · rw [zu_A (by omega), zu_A (by omega), zu_A (by omega), zu_k (by omega), zu_A (by omega), zu_A (by omega)]
    exact zs_skip l1 (by show ¬ 0 < E c; omega)
  · rw [zu_A (by omega), zu_A (by omega), zz_uw, zw_s, zu_s]
    exact zs_add l2 (by show E c < 0; omega)
  · rw [zu_k (by omega), zu_A (by omega), zu_A (by omega), zu_s]; omega
  · intro i i0 i1
    rw [zu_k (by omega), zu_A (by omega), zu_A (by omega)] at i1
    rw [zu_A (by omega), zu_A (by omega), zu_A (by omega), zu_A (by omega), zu_A (by omega), zu_A (by omega)]
    exact l4 i i0 i1
  · intro i i0 i1
    rw [zu_s] at i1
    rw [zu_A (by omega), zz_uw, zw_s, zu_A (by omega), zu_A (by omega), zw_n (by omega), zz_uw (a := 81), zw_s]
    by_cases e : i = J' 78 4
    · rw [e, zf_s, zf_s]
    · rw [zf_n e, zf_n e]; exact l5 i i0 (by omega)
theorem zs_ls_h {J' : Nat → Int → Int} {E : Int → Int} {c : Int} (h : zs_ls E c J') (hE : 0 < E c) : zs_ls E (c + 1) (zz_u (zz_u (zz_u J' 80 (J' 78 3) c) 82 (J' 78 3) (E c)) 78 3 (J' 78 3 + 1)) := by
  obtain ⟨l1, l2, l3, l4, l5⟩ := h
  refine ⟨?_, ?_, ?_, ?_, ?_⟩
  · rw [zu_A (by omega), zu_A (by omega), zz_uw, zw_s, zu_s]
    exact zs_add l1 (by show 0 < E c; omega)
  · rw [zu_A (by omega), zu_A (by omega), zu_A (by omega), zu_k (by omega), zu_A (by omega), zu_A (by omega)]
    exact zs_skip l2 (by show ¬ E c < 0; omega)
  · rw [zu_s, zu_k (by omega), zu_A (by omega), zu_A (by omega)]; omega
  · intro i i0 i1
    rw [zu_s] at i1
    rw [zu_A (by omega), zz_uw, zw_s, zu_A (by omega), zu_A (by omega), zw_n (by omega), zz_uw (a := 80), zw_s]
    by_cases e : i = J' 78 3
    · rw [e, zf_s, zf_s]
    · rw [zf_n e, zf_n e]; exact l4 i i0 (by omega)
  · intro i i0 i1
    rw [zu_k (by omega), zu_A (by omega), zu_A (by omega)] at i1
    rw [zu_A (by omega), zu_A (by omega), zu_A (by omega), zu_A (by omega), zu_A (by omega), zu_A (by omega)]
    exact l5 i i0 i1
theorem zs_ls_z {J' : Nat → Int → Int} {E : Int → Int} {c : Int} (h : zs_ls E c J') (hE : E c = 0) : zs_ls E (c + 1) J' := ⟨zs_skip h.1 (by show ¬ 0 < E c; omega), zs_skip h.2.1 (by show ¬ E c < 0; omega), by have := h.2.2.1; omega, h.2.2.2.1, h.2.2.2.2⟩
theorem c_20f {J1 : Nat → Int → Int} {Q : Option mv_V × mv_S → Prop} (hd : 1 ≤ d) (hL : ZL T R) (hn : A 0 * A 1 ≤ 16 ∧ 0 ≤ A 0 * A 1) (hE : ∀ c, 0 ≤ c → c < A 0 * A 1 → -9 ≤ J 79 c ∧ J 79 c ≤ 9) (hf : zs_fr J J1) (hl : zs_ls (J 79) (A 0 * A 1) J1) (hb : ∀ i, 0 ≤ i → i < A 0 * A 1 → J 79 i = 0 ∨ zz_bit (A 6) i = 0)
    (hQ : Q = (fun r => ∃ f J', r = (some (.inl (mv_c f)), zz_S T J' R G) ∧ zs_fr J J' ∧ ((f = 0 ∧ zz_bad A (J 79)) ∨ (f = 1 ∧ ¬ zz_bad A (J 79) ∧ zs_ls (J 79) (A 0 * A 1) J' ∧ ∀ i c, 0 ≤ i → i < J' 78 3 → 0 ≤ c → c < 16 → J' (85 + i.toNat) c = 0)))) :
    zz_E (fun n => mv_run (mv_cax d) mm_20 n 135 [(0, .inr (.inr (some 78))), (2, .inl (mv_c (zz_sum (J 79) (A 0 * A 1)))), (3, .inl (mv_c 0))] [] (zz_S T J1 R G)) Q := by
  have hsb := zz_sum_b (f := J 79) (a := -9) (b := 9) (c := A 0 * A 1) (by omega) hE
  have n3 := hl.1.1
  refine zz_loop (α := Nat → Int → Int) (run := fun i J2 n => mv_run (mv_cax d) mm_20 n 135 [(0, .inr (.inr (some 78))), (2, .inl (mv_c (zz_sum (J 79) (A 0 * A 1)))), (3, .inl (mv_c i))] [] (zz_S T J2 R G)) (J1 78 3) (fun i J2 => 0 ≤ i ∧ (∀ x, x < 85 ∨ 100 < x → J2 x = J1 x) ∧ ∀ k c, 0 ≤ k → k < i → 0 ≤ c → c < 16 → J2 (85 + k.toNat) c = 0) ?_ ?_ (J1 78 3).toNat 0 J1 (by omega) ⟨by omega, fun x _ => rfl, fun k c k0 k1 => by omega⟩
  · rintro i J2 ⟨hi, hf2, hz⟩ hlt kk
    have e3 : J2 78 = J1 78 := hf2 78 (by omega)
    obtain ⟨X, hX1, hX2⟩ := c_217 (J := J2) (G := G) (i := i) (d := d) (by omega) hL hi (by omega)
    refine zz_Es (fun n => e_20_135 _ _ _ _) ?_
    simp (maxSteps := 5000000) (disch := first | assumption | omega) only [e3, hX1, zg_78_0, zp_78_0, zg_78_1, zp_78_1, zr_78_2, zg_78_3, zp_78_3, zg_78_4, zp_78_4, zr_78_5, zr_78_6, zr_78_7, zr_78_8, zr_78_9, zr_78_10, zr_78_11, zr_78_12, zr_78_13, zi_78, za_79, zs_79, zl_79, za_80, zs_80, zl_80, za_81, zs_81, zl_81, za_82, zs_82, zl_82, za_83, zs_83, zl_83, zl_84, za_101, zs_101, zl_101, za_102, zs_102, zl_102, za_103, zs_103, zl_103, za_104, zs_104, zl_104, zg_L_0, zp_L_0, zg_L_1, zp_L_1, zg_L_2, zp_L_2, zg_L_3, zp_L_3, zg_L_4, zp_L_4, zg_L_5, zp_L_5, zg_L_6, zp_L_6, zg_L_7, zp_L_7, zi_L, zr_L_8, za_L_1, zs_L_1, zr_L_9, za_L_2, zs_L_2, zr_L_10, za_L_3, zs_L_3, zr_L_11, za_L_4, zs_L_4, zr_L_12, za_L_5, zs_L_5, zr_L_13, za_L_6, zs_L_6, zr_L_14, za_L_7, zs_L_7, zr_L_15, za_L_8, zs_L_8, zr_L_16, za_L_9, zs_L_9, zr_L_17, za_L_10, zs_L_10, zr_L_18, za_L_11, zs_L_11, zr_L_19, za_L_12, zs_L_12, zr_mv, za_mv, zs_mv, zl_mv, zz_0, zz_31, zz_add, zz_sub, zz_mul, zz_neg, zz_lt, zz_le, zz_eq, zz_div, zz_md, zz_dv, zz_abs, zz_max, zz_min, zz_nI, zz_be0, zz_be1, zz_zb, zz_z, zz_l0, zz_l, zz_lcmp, zo_rf, zo_nl, zo_nn, zo_rI, zo_rL, zo_rR, zo_rV, Int.add_zero, Int.zero_add, Int.mul_zero, Int.zero_mul, Int.one_mul, Int.mul_one, if_true, if_false, not_true_eq_false, not_false_eq_true]
    refine zz_Ei (fun h => absurd h (by omega)) (fun _ => ?_)
    refine kk _ ⟨by omega, fun x hx => ?_, fun k c k0 k1 c0 c1 => ?_⟩
    · rw [zw_n (by omega)]; exact hf2 x hx
    · by_cases e : k = i
      · subst e; rw [zw_s]; exact hX2 c c0 c1
      · rw [zw_n (by omega)]; exact hz k c k0 (by omega) c0 c1
  · rintro J2 ⟨_, hf2, hz⟩
    have e3 : J2 78 = J1 78 := hf2 78 (by omega)
    have hfr : zs_fr J J2 := ⟨fun x x1 x2 => by rw [hf2 x (by omega)]; exact hf.1 x x1 x2, fun y y1 y2 => by rw [e3]; exact hf.2 y y1 y2⟩
    refine zz_Es (fun n => e_20_135 _ _ _ _) ?_
    simp (maxSteps := 5000000) (disch := first | assumption | omega) only [e3, zg_78_0, zp_78_0, zg_78_1, zp_78_1, zr_78_2, zg_78_3, zp_78_3, zg_78_4, zp_78_4, zr_78_5, zr_78_6, zr_78_7, zr_78_8, zr_78_9, zr_78_10, zr_78_11, zr_78_12, zr_78_13, zi_78, za_79, zs_79, zl_79, za_80, zs_80, zl_80, za_81, zs_81, zl_81, za_82, zs_82, zl_82, za_83, zs_83, zl_83, zl_84, za_101, zs_101, zl_101, za_102, zs_102, zl_102, za_103, zs_103, zl_103, za_104, zs_104, zl_104, zg_L_0, zp_L_0, zg_L_1, zp_L_1, zg_L_2, zp_L_2, zg_L_3, zp_L_3, zg_L_4, zp_L_4, zg_L_5, zp_L_5, zg_L_6, zp_L_6, zg_L_7, zp_L_7, zi_L, zr_L_8, za_L_1, zs_L_1, zr_L_9, za_L_2, zs_L_2, zr_L_10, za_L_3, zs_L_3, zr_L_11, za_L_4, zs_L_4, zr_L_12, za_L_5, zs_L_5, zr_L_13, za_L_6, zs_L_6, zr_L_14, za_L_7, zs_L_7, zr_L_15, za_L_8, zs_L_8, zr_L_16, za_L_9, zs_L_9, zr_L_17, za_L_10, zs_L_10, zr_L_18, za_L_11, zs_L_11, zr_L_19, za_L_12, zs_L_12, zr_mv, za_mv, zs_mv, zl_mv, zz_0, zz_31, zz_add, zz_sub, zz_mul, zz_neg, zz_lt, zz_le, zz_eq, zz_div, zz_md, zz_dv, zz_abs, zz_max, zz_min, zz_nI, zz_be0, zz_be1, zz_zb, zz_z, zz_l0, zz_l, zz_lcmp, zo_rf, zo_nl, zo_nn, zo_rI, zo_rL, zo_rR, zo_rV, Int.add_zero, Int.zero_add, Int.mul_zero, Int.zero_mul, Int.one_mul, Int.mul_one, if_true, if_false, not_true_eq_false, not_false_eq_true]
    refine zz_Ei (fun _ => ?_) (fun h => absurd (Int.le_refl _) h)
    refine zz_Ei (fun h => ?_) (fun h => ?_)
    · refine zz_Er ?_
      rw [hQ]
      refine ⟨1, J2, rfl, hfr, Or.inr ⟨rfl, ?_, ?_, ?_⟩⟩
      · rintro (⟨c, c0, c1, c2, c3⟩ | hne)
        · rcases hb c c0 c1 with hb | hb
          · exact c2 hb
          · omega
        · exact hne h
      · unfold zs_ls
        rw [e3, hf2 80 (by omega), hf2 81 (by omega), hf2 82 (by omega), hf2 83 (by omega)]
        exact hl
      · intro i c i0 i1 c0 c1
        rw [e3] at i1
        exact hz i c i0 i1 c0 c1
    · refine zz_Er ?_
      rw [hQ]
      exact ⟨0, J2, rfl, hfr, Or.inl ⟨rfl, Or.inr h⟩⟩
theorem c_20 (hd : 2 ≤ d) (hL : ZL T R) (hp : Lnd p) (hA : zz_ok Y A) (hR : zc_rep T R J p A) (hE : ∀ c, 0 ≤ c → c < A 0 * A 1 → -9 ≤ J 79 c ∧ J 79 c ≤ 9) :
    ∃ f J', mv_cax d 20 [.inr (.inr (some 78)), .inr (.inr (some p))] (zz_S T J R G) = some (some (.inl (mv_c f)), zz_S T J' R G) ∧ zs_fr J J' ∧ ((f = 0 ∧ zz_bad A (J 79)) ∨ (f = 1 ∧ ¬ zz_bad A (J 79) ∧ zs_ls (J 79) (A 0 * A 1) J' ∧ ∀ i c, 0 ≤ i → i < J' 78 3 → 0 ≤ c → c < 16 → J' (85 + i.toNat) c = 0)) := by
  have hn := hA.n
  have hpl : p + 12 < 78 := by rcases hp with rfl | rfl | rfl | rfl <;> omega
  suffices h : ∃ r, mv_cax d 20 [.inr (.inr (some 78)), .inr (.inr (some p))] (zz_S T J R G) = some r ∧ ∃ f J', r = (some (.inl (mv_c f)), zz_S T J' R G) ∧ zs_fr J J' ∧ ((f = 0 ∧ zz_bad A (J 79)) ∨ (f = 1 ∧ ¬ zz_bad A (J 79) ∧ zs_ls (J 79) (A 0 * A 1) J' ∧ ∀ i c, 0 ≤ i → i < J' 78 3 → 0 ≤ c → c < 16 → J' (85 + i.toNat) c = 0)) by
    obtain ⟨r, q1, f, J', rfl, q2⟩ := h
    exact ⟨f, J', q1, q2⟩
  refine zz_call (by omega) t_20 rfl (fun n => e_20 _ _ _) ?_
  obtain ⟨Q, hQ⟩ : ∃ Q : Option mv_V × mv_S → Prop, Q = fun r => ∃ f J', r = (some (.inl (mv_c f)), zz_S T J' R G) ∧ zs_fr J J' ∧ ((f = 0 ∧ zz_bad A (J 79)) ∨ (f = 1 ∧ ¬ zz_bad A (J 79) ∧ zs_ls (J 79) (A 0 * A 1) J' ∧ ∀ i c, 0 ≤ i → i < J' 78 3 → 0 ≤ c → c < 16 → J' (85 + i.toNat) c = 0)) := ⟨_, rfl⟩
  rw [← hQ]
  have hR' : ∀ J', zs_fr J J' → zc_rep T R J' p A := fun J' h => zc_rep_f hR (fun x hx => h.1 x (by omega) (by omega))
  simp (maxSteps := 5000000) (disch := first | assumption | omega) only [zg_78_0, zp_78_0, zg_78_1, zp_78_1, zr_78_2, zg_78_3, zp_78_3, zg_78_4, zp_78_4, zr_78_5, zr_78_6, zr_78_7, zr_78_8, zr_78_9, zr_78_10, zr_78_11, zr_78_12, zr_78_13, zi_78, za_79, zs_79, zl_79, za_80, zs_80, zl_80, za_81, zs_81, zl_81, za_82, zs_82, zl_82, za_83, zs_83, zl_83, zl_84, za_101, zs_101, zl_101, za_102, zs_102, zl_102, za_103, zs_103, zl_103, za_104, zs_104, zl_104, zg_L_0, zp_L_0, zg_L_1, zp_L_1, zg_L_2, zp_L_2, zg_L_3, zp_L_3, zg_L_4, zp_L_4, zg_L_5, zp_L_5, zg_L_6, zp_L_6, zg_L_7, zp_L_7, zi_L, zr_L_8, za_L_1, zs_L_1, zr_L_9, za_L_2, zs_L_2, zr_L_10, za_L_3, zs_L_3, zr_L_11, za_L_4, zs_L_4, zr_L_12, za_L_5, zs_L_5, zr_L_13, za_L_6, zs_L_6, zr_L_14, za_L_7, zs_L_7, zr_L_15, za_L_8, zs_L_8, zr_L_16, za_L_9, zs_L_9, zr_L_17, za_L_10, zs_L_10, zr_L_18, za_L_11, zs_L_11, zr_L_19, za_L_12, zs_L_12, zr_mv, za_mv, zs_mv, zl_mv, zz_0, zz_31, zz_add, zz_sub, zz_mul, zz_neg, zz_lt, zz_le, zz_eq, zz_div, zz_md, zz_dv, zz_abs, zz_max, zz_min, zz_nI, zz_be0, zz_be1, zz_zb, zz_z, zz_l0, zz_l, zz_lcmp, zo_rf, zo_nl, zo_nn, zo_rI, zo_rL, zo_rR, zo_rV, Int.add_zero, Int.zero_add, Int.mul_zero, Int.zero_mul, Int.one_mul, Int.mul_one, if_true, if_false, not_true_eq_false, not_false_eq_true]
  refine zz_loop (α := Nat → Int → Int) (run := fun c J' n => mv_run (mv_cax (d - 1)) mm_20 n 14 [(0, .inr (.inr (some 78))), (1, .inr (.inr (some p))), (2, .inl (mv_c (zz_sum (J 79) c))), (3, .inl (mv_c c))] [] (zz_S T J' R G)) (A 0 * A 1) (fun c J' => 0 ≤ c ∧ zs_fr J J' ∧ zs_ls (J 79) c J' ∧ ∀ i, 0 ≤ i → i < c → J 79 i = 0 ∨ zz_bit (A 6) i = 0) ?_ ?_ (A 0 * A 1).toNat 0 _ (by omega) ⟨by omega, ⟨fun x x1 x2 => by rw [zu_A x1, zu_A x1], fun y y1 y2 => by rw [zu_k y2, zu_k y1]⟩, ?_, fun i i0 i1 => by omega⟩
  · rintro c J' ⟨hc, hf, hl, hb⟩ hlt kk
    have hEc := hE c hc hlt
    have e79 : J' 79 = J 79 := hf.1 79 (by omega) (by omega)
    have e2 := (hR' J' hf).1.1.2.2
    have e6 := ((hR' J' hf).2.2.1 c hc hlt).2.2
    have hsb := zz_sum_b (f := J 79) (a := -9) (b := 9) hc (fun i i0 i1 => hE i i0 (by omega))
    have hs1 := zz_sum1 (f := J 79) hc
    have n3 := hl.1.1
    have n4 := hl.2.1.1
    have n5 := hl.2.2.1
    have hb01 := zz_bit01 (A 6) c
    refine zz_Es (fun n => e_20_14 _ _ _ _ _) ?_
    simp (maxSteps := 5000000) (disch := first | assumption | omega) only [e2, e6, e79, zu_A, zg_78_0, zp_78_0, zg_78_1, zp_78_1, zr_78_2, zg_78_3, zp_78_3, zg_78_4, zp_78_4, zr_78_5, zr_78_6, zr_78_7, zr_78_8, zr_78_9, zr_78_10, zr_78_11, zr_78_12, zr_78_13, zi_78, za_79, zs_79, zl_79, za_80, zs_80, zl_80, za_81, zs_81, zl_81, za_82, zs_82, zl_82, za_83, zs_83, zl_83, zl_84, za_101, zs_101, zl_101, za_102, zs_102, zl_102, za_103, zs_103, zl_103, za_104, zs_104, zl_104, zg_L_0, zp_L_0, zg_L_1, zp_L_1, zg_L_2, zp_L_2, zg_L_3, zp_L_3, zg_L_4, zp_L_4, zg_L_5, zp_L_5, zg_L_6, zp_L_6, zg_L_7, zp_L_7, zi_L, zr_L_8, za_L_1, zs_L_1, zr_L_9, za_L_2, zs_L_2, zr_L_10, za_L_3, zs_L_3, zr_L_11, za_L_4, zs_L_4, zr_L_12, za_L_5, zs_L_5, zr_L_13, za_L_6, zs_L_6, zr_L_14, za_L_7, zs_L_7, zr_L_15, za_L_8, zs_L_8, zr_L_16, za_L_9, zs_L_9, zr_L_17, za_L_10, zs_L_10, zr_L_18, za_L_11, zs_L_11, zr_L_19, za_L_12, zs_L_12, zr_mv, za_mv, zs_mv, zl_mv, zz_0, zz_31, zz_add, zz_sub, zz_mul, zz_neg, zz_lt, zz_le, zz_eq, zz_div, zz_md, zz_dv, zz_abs, zz_max, zz_min, zz_nI, zz_be0, zz_be1, zz_zb, zz_z, zz_l0, zz_l, zz_lcmp, zo_rf, zo_nl, zo_nn, zo_rI, zo_rL, zo_rR, zo_rV, Int.add_zero, Int.zero_add, Int.mul_zero, Int.zero_mul, Int.one_mul, Int.mul_one, if_true, if_false, not_true_eq_false, not_false_eq_true]
    refine zz_Ei (fun h => absurd h (by omega)) (fun _ => ?_)
    rw [← hs1]
    refine zz_Ei (fun h0 => ?_) (fun h0 => ?_)
    · refine zz_Ei (fun _ => ?_) (fun h => absurd h (by omega))
      refine zz_Ei (fun _ => ?_) (fun h => absurd h (by omega))
      refine kk J' ⟨by omega, hf, zs_ls_z hl h0, fun i i0 i1 => ?_⟩
      by_cases e : i = c
      · subst e; exact Or.inl h0
      · exact hb i i0 (by omega)
    · refine zz_Ei (fun h1 => ?_) (fun h1 => ?_)
      · have hb' : ∀ i, 0 ≤ i → i < c + 1 → J 79 i = 0 ∨ zz_bit (A 6) i = 0 := fun i i0 i1 => by
          by_cases e : i = c
          · subst e; exact Or.inr h1
          · exact hb i i0 (by omega)
        refine zz_Ei (fun h2 => ?_) (fun h2 => ?_)
        · refine zz_Ei (fun h => absurd h (by omega)) (fun _ => ?_)
          exact kk _ ⟨by omega, zs_fr_l hf, zs_ls_l hl (by omega), hb'⟩
        · exact kk _ ⟨by omega, zs_fr_h hf, zs_ls_h hl (by omega), hb'⟩
      · refine zz_Er ?_
        rw [hQ]
        refine ⟨0, J', rfl, hf, Or.inl ⟨rfl, Or.inl ⟨c, hc, hlt, h0, ?_⟩⟩⟩
        omega
  · rintro J1 ⟨_, hf, hl, hb⟩
    have hsb := zz_sum_b (f := J 79) (a := -9) (b := 9) (c := A 0 * A 1) (by omega) hE
    have e2 := (hR' J1 hf).1.1.2.2
    have n3 := hl.1.1
    refine zz_Es (fun n => e_20_14 _ _ _ _ _) ?_
    simp (maxSteps := 5000000) (disch := first | assumption | omega) only [zo_rf, zg_L_2, e2, zz_le]
    refine zz_Ei (fun _ => ?_) (fun h => absurd (Int.le_refl _) h)
    exact c_20f (by omega) hL (by omega) hE hf hl hb hQ
  · refine ⟨?_, ?_, ?_, ?_, ?_⟩
    · rw [zu_k (by omega), zu_s]; exact zs_0
    · rw [zu_s]; exact zs_0
    · rw [zu_k (by omega), zu_s, zu_s]; omega
    · intro i i0 i1
      rw [zu_k (by omega), zu_s] at i1
      omega
    · intro i i0 i1
      rw [zu_s] at i1
      omega
end ZSR2
