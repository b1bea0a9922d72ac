/-! PURE LAYER, 43: the class spreads -/
section ZSPR
variable {T : List mv_T} {J : Nat → Int → Int} {R : Nat → Nat → Option Nat} {G : Nat → Nat → Int64} {d p : Nat} {Y : Int} {A u v : Int → Int}
def zd_hi (n i : Int) : Prop := 0 ≤ i ∧ i < n
def zd_w (C : Int) (H L : Int → Int) : Int → Int → Int := fun i j => zz_nr C (H i) (L j)
noncomputable def zd_x (n m : Int) (J : Nat → Int → Int) : Int → Int → Int := fun i j => @ite _ (zd_hi n i ∧ 0 ≤ j ∧ j < m) (Classical.propDecidable _) (J (85 + i.toNat) j) 0
/-- how many high and low ones, where they lie, what was moved -/
def zd_ok (J : Nat → Int → Int) (A : Int → Int) : Prop := (0 ≤ J 78 3 ∧ 0 ≤ J 78 4 ∧ J 78 3 + J 78 4 ≤ 16) ∧ (∀ i, 0 ≤ i → i < J 78 3 → 0 ≤ J 80 i ∧ J 80 i < A 0 * A 1) ∧ (∀ j, 0 ≤ j → j < J 78 4 → 0 ≤ J 81 j ∧ J 81 j < A 0 * A 1) ∧ (∀ i j, 0 ≤ i → i < J 78 3 → 0 ≤ j → j < J 78 4 → J 80 i ≠ J 81 j ∧ 0 ≤ J (85 + i.toNat) j ∧ J (85 + i.toNat) j ≤ 200) ∧ (∀ i, 0 ≤ i → i < J 78 3 → 0 ≤ J 82 i ∧ J 82 i ≤ 200) ∧ ∀ j, 0 ≤ j → j < J 78 4 → 0 ≤ J 83 j ∧ J 83 j ≤ 200
def zd_bf (J : Nat → Int → Int) (C : Int) (u v D E P V : Int → Int) : Prop := zz_bf (zd_hi (J 78 3)) (J 78 4) (zd_w C (J 80) (J 81)) (zd_x (J 78 3) (J 78 4) J) (fun i => 0 < J 82 i) u v D E P V ∧ ∀ i, 0 ≤ i → i < J 78 3 → -1 ≤ P i
theorem zd_x_v {n m i j : Int} (h : zd_hi n i) (h0 : 0 ≤ j) (h1 : j < m) : zd_x n m J i j = J (85 + i.toNat) j := if_pos ⟨h, h0, h1⟩
theorem zd_w_b (hA : zz_ok Y A) (h : zd_ok J A) {i j : Int} (i0 : 0 ≤ i) (i1 : i < J 78 3) (j0 : 0 ≤ j) (j1 : j < J 78 4) : 1 ≤ zd_w (A 1) (J 80) (J 81) i j ∧ zd_w (A 1) (J 80) (J 81) i j ≤ 6 := by
  have h1 := h.2.1 i i0 i1
  have h2 := h.2.2.1 j j0 j1
  have h3 := (h.2.2.2.1 i j i0 i1 j0 j1).1
  have hb := zz_nr_b hA.1.1 hA.1.2.1 hA.1.2.2.1 hA.1.2.2.2 h1.1 h1.2 h2.1 h2.2
  have e : zd_w (A 1) (J 80) (J 81) i j = zz_nr (A 1) (J 80 i) (J 81 j) := rfl
  omega
theorem zd_low (hA : zz_ok Y A) (h : zd_ok J A) {D E P V : Int → Int} (hp : zz_pot (zd_hi (J 78 3)) (J 78 4) 6 (zd_w (A 1) (J 80) (J 81)) (zd_x (J 78 3) (J 78 4) J) u v) (hb : zd_bf J (A 1) u v D E P V) : (∀ i, 0 ≤ i → i < J 78 3 → -96 ≤ D i ∧ D i ≤ 1000000) ∧ ∀ j, 0 ≤ j → j < J 78 4 → -96 ≤ E j ∧ E j ≤ 1000000 := by
  have q := zz_low (nl := J 78 3) (fun a ha => ha) (by omega) hp hb.1
  have h1 := h.1
  exact ⟨fun i i0 i1 => by have := q.1 i ⟨i0, i1⟩; omega, fun j j0 j1 => by have := q.2 j j0 j1 h1.1; omega⟩
def zd_mu (D : Int → Int) (n : Int) : Int := zz_sum (fun i => min (D i) 7 + 96) n
theorem zd_mu_f {D : Int → Int} {n k v : Int} (h0 : 0 ≤ k) (h1 : k < n) (hv : v < D k) (hv6 : v ≤ 6) : zd_mu (zz_f D k v) n < zd_mu D n := by
  refine zz_sum_lt (k := k) (fun i i0 i1 => ?_) h0 h1 ?_
  · show min (zz_f D k v i) 7 + 96 ≤ min (D i) 7 + 96
    by_cases e : i = k
    · rw [e, zf_s]; omega
    · rw [zf_n e]; exact Int.le_refl _
  · show min (zz_f D k v k) 7 + 96 < min (D k) 7 + 96
    rw [zf_s]
    omega
theorem zw_u2 {a b : Nat} (hab : a ≠ b) {E V : Int → Int} {k v : Int} : zz_u (zz_w (zz_w J a E) b V) a k v = zz_w (zz_w J a (zz_f E k v)) b V := by
  rw [zz_uw, zw_n hab, zw_s]
  funext x
  by_cases h : x = a
  · rw [h, zw_s, zw_n hab, zw_s]
  · rw [zw_n h]
    by_cases h2 : x = b
    · rw [h2, zw_s, zw_s]
    · rw [zw_n h2, zw_n h2, zw_n h, zw_n h]
theorem c_22 (hd : 2 ≤ d) (hL : ZL T R) (hp : Lnd p) (hA : zz_ok Y A) (hR : zc_rep T R J p A) (hk : zd_ok J A) (hpot : zz_pot (zd_hi (J 78 3)) (J 78 4) 6 (zd_w (A 1) (J 80) (J 81)) (zd_x (J 78 3) (J 78 4) J) u v) (hb : zd_bf J (A 1) u v (J 101) (J 102) (J 103) (J 104)) (hC : (∀ i, 0 ≤ i → i < J 78 3 → J 101 i ≤ 0 ∨ J 101 i = 1000000) ∨ (∀ j, 0 ≤ j → j < J 78 4 → J 102 j ≤ 6)) :
    ∃ f E V, mv_cax d 22 [.inr (.inr (some 78)), .inr (.inr (some p))] (zz_S T J R G) = some (some (.inl (mv_c f)), zz_S T (zz_w (zz_w J 102 E) 104 V) R G) ∧ (f = 0 ∨ f = 1) ∧ zd_bf J (A 1) u v (J 101) E (J 103) V ∧ (∀ i j, 0 ≤ i → i < J 78 3 → 0 ≤ j → j < J 78 4 → J 101 i < 1000000 → E j ≤ J 101 i + zd_w (A 1) (J 80) (J 81) i j) ∧ (f = 0 → E = J 102 ∧ V = J 104) ∧ (f = 1 → (∀ j, 0 ≤ j → j < J 78 4 → E j ≤ 6) ∧ zd_mu E (J 78 4) < zd_mu (J 102) (J 78 4)) := by
  have hn := hA.n
  have hk1 := hk.1
  suffices h : ∃ r, mv_cax d 22 [.inr (.inr (some 78)), .inr (.inr (some p))] (zz_S T J R G) = some r ∧ ∃ f E V, r = (some (.inl (mv_c f)), zz_S T (zz_w (zz_w J 102 E) 104 V) R G) ∧ (f = 0 ∨ f = 1) ∧ zd_bf J (A 1) u v (J 101) E (J 103) V ∧ (∀ i j, 0 ≤ i → i < J 78 3 → 0 ≤ j → j < J 78 4 → J 101 i < 1000000 → E j ≤ J 101 i + zd_w (A 1) (J 80) (J 81) i j) ∧ (f = 0 → E = J 102 ∧ V = J 104) ∧ (f = 1 → (∀ j, 0 ≤ j → j < J 78 4 → E j ≤ 6) ∧ zd_mu E (J 78 4) < zd_mu (J 102) (J 78 4)) by
    obtain ⟨r, h1, f, E, V, rfl, h2⟩ := h
    exact ⟨f, E, V, h1, h2⟩
  refine zz_call (by omega) t_22 rfl (fun n => e_22 _ _ _) ?_
  have e0 : J = zz_w (zz_w J 102 (J 102)) 104 (J 104) := by rw [zw_i, zw_i]
  have hplt : p + 12 < 78 := by rcases hp with rfl | rfl | rfl | rfl <;> omega
  have hR' : ∀ E V, zc_rep T R (zz_w (zz_w J 102 E) 104 V) p A := fun E V => zc_rep_f hR (fun x hx => by rw [zw_n (by omega), zw_n (by omega)])
  -- the state at the cells i, j
  let ST : (Int → Int → Prop) → Int × (Int → Int) × (Int → Int) → Prop := fun S q => (q.1 = 0 ∨ q.1 = 1) ∧ zd_bf J (A 1) u v (J 101) q.2.1 (J 103) q.2.2 ∧ (∀ i j, 0 ≤ i → i < J 78 3 → 0 ≤ j → j < J 78 4 → S i j → J 101 i < 1000000 → q.2.1 j ≤ J 101 i + zd_w (A 1) (J 80) (J 81) i j) ∧ (q.1 = 0 → q.2.1 = J 102 ∧ q.2.2 = J 104) ∧ (q.1 = 1 → (∃ i, 0 ≤ i ∧ i < J 78 3 ∧ J 101 i < 1000000) ∧ zd_mu q.2.1 (J 78 4) < zd_mu (J 102) (J 78 4)) ∧ ((∀ i, 0 ≤ i → i < J 78 3 → J 101 i ≤ 0 ∨ J 101 i = 1000000) ∨ (∀ j, 0 ≤ j → j < J 78 4 → q.2.1 j ≤ 6))
  have hST : ∀ S q, ST S q = ((q.1 = 0 ∨ q.1 = 1) ∧ zd_bf J (A 1) u v (J 101) q.2.1 (J 103) q.2.2 ∧ (∀ i j, 0 ≤ i → i < J 78 3 → 0 ≤ j → j < J 78 4 → S i j → J 101 i < 1000000 → q.2.1 j ≤ J 101 i + zd_w (A 1) (J 80) (J 81) i j) ∧ (q.1 = 0 → q.2.1 = J 102 ∧ q.2.2 = J 104) ∧ (q.1 = 1 → (∃ i, 0 ≤ i ∧ i < J 78 3 ∧ J 101 i < 1000000) ∧ zd_mu q.2.1 (J 78 4) < zd_mu (J 102) (J 78 4)) ∧ ((∀ i, 0 ≤ i → i < J 78 3 → J 101 i ≤ 0 ∨ J 101 i = 1000000) ∨ (∀ j, 0 ≤ j → j < J 78 4 → q.2.1 j ≤ 6))) := fun _ _ => rfl
  clear_value ST
  have l := zz_loop (α := Int × (Int → Int) × (Int → Int)) (run := fun i q n => mv_run (mv_cax (d - 1)) mm_22 n 4 [(0, .inr (.inr (some 78))), (1, .inr (.inr (some p))), (2, .inl (mv_c q.1)), (3, .inl (mv_c i))] [] (zz_S T (zz_w (zz_w J 102 q.2.1) 104 q.2.2) R G)) (Q := fun r => ∃ f E V, r = (some (.inl (mv_c f)), zz_S T (zz_w (zz_w J 102 E) 104 V) R G) ∧ (f = 0 ∨ f = 1) ∧ zd_bf J (A 1) u v (J 101) E (J 103) V ∧ (∀ i j, 0 ≤ i → i < J 78 3 → 0 ≤ j → j < J 78 4 → J 101 i < 1000000 → E j ≤ J 101 i + zd_w (A 1) (J 80) (J 81) i j) ∧ (f = 0 → E = J 102 ∧ V = J 104) ∧ (f = 1 → (∀ j, 0 ≤ j → j < J 78 4 → E j ≤ 6) ∧ zd_mu E (J 78 4) < zd_mu (J 102) (J 78 4))) (J 78 3) (fun i q => 0 ≤ i ∧ ST (fun i' _ => i' < i) q) ?_ ?_ (J 78 3).toNat 0 (0, J 102, J 104) (by omega) ⟨by omega, ?_⟩
  · rw [← e0] at l
    exact l
  · rintro i q ⟨hi, hq⟩ hlt kk
    refine zz_Es (fun n => e_22_4 _ _ _ _ _) ?_
    simp (maxSteps := 5000000) (disch := first | assumption | omega) only [zw_n, zg_78_0, zp_78_0, zg_78_1, zp_78_1, zr_78_2, zg_78_3, zp_78_3, zg_78_4, zp_78_4, zr_78_5, zr_78_6, zr_78_7, zr_78_8, zr_78_9, zr_78_10, zr_78_11, zr_78_12, zr_78_13, zi_78, za_79, zs_79, zl_79, za_80, zs_80, zl_80, za_81, zs_81, zl_81, za_82, zs_82, zl_82, za_83, zs_83, zl_83, zl_84, za_101, zs_101, zl_101, za_102, zs_102, zl_102, za_103, zs_103, zl_103, za_104, zs_104, zl_104, zg_L_0, zp_L_0, zg_L_1, zp_L_1, zg_L_2, zp_L_2, zg_L_3, zp_L_3, zg_L_4, zp_L_4, zg_L_5, zp_L_5, zg_L_6, zp_L_6, zg_L_7, zp_L_7, zi_L, zr_L_8, za_L_1, zs_L_1, zr_L_9, za_L_2, zs_L_2, zr_L_10, za_L_3, zs_L_3, zr_L_11, za_L_4, zs_L_4, zr_L_12, za_L_5, zs_L_5, zr_L_13, za_L_6, zs_L_6, zr_L_14, za_L_7, zs_L_7, zr_L_15, za_L_8, zs_L_8, zr_L_16, za_L_9, zs_L_9, zr_L_17, za_L_10, zs_L_10, zr_L_18, za_L_11, zs_L_11, zr_L_19, za_L_12, zs_L_12, zr_mv, za_mv, zs_mv, zl_mv, zz_0, zz_31, zz_add, zz_sub, zz_mul, zz_neg, zz_lt, zz_le, zz_eq, zz_div, zz_md, zz_dv, zz_abs, zz_max, zz_min, zz_nI, zz_be0, zz_be1, zz_zb, zz_z, zz_l0, zz_l, zz_lcmp, zo_rf, zo_nl, zo_nn, zo_rI, zo_rL, zo_rR, zo_rV, Int.add_zero, Int.zero_add, Int.mul_zero, Int.zero_mul, Int.one_mul, Int.mul_one, if_true, if_false, not_true_eq_false, not_false_eq_true]
    refine zz_Ei (fun h => absurd h (by omega)) (fun _ => ?_)
    refine zz_loop (α := Int × (Int → Int) × (Int → Int)) (run := fun j q n => mv_run (mv_cax (d - 1)) mm_22 n 15 [(0, .inr (.inr (some 78))), (1, .inr (.inr (some p))), (2, .inl (mv_c q.1)), (3, .inl (mv_c i)), (4, .inl (mv_c j))] [] (zz_S T (zz_w (zz_w J 102 q.2.1) 104 q.2.2) R G)) (J 78 4) (fun j q => 0 ≤ j ∧ ST (fun i' j' => i' < i ∨ i' = i ∧ j' < j) q) ?_ ?_ (J 78 4).toNat 0 q (by omega) ⟨by omega, ?_⟩
    · rintro j ⟨f, E, V⟩ ⟨hj, hq⟩ hjt kj
      rw [hST] at hq
      obtain ⟨t1, t2, t3, t4, t5, t6⟩ := hq
      have t1 : f = 0 ∨ f = 1 := t1
      have t2 : zd_bf J (A 1) u v (J 101) E (J 103) V := t2
      have t3 : ∀ i' j', 0 ≤ i' → i' < J 78 3 → 0 ≤ j' → j' < J 78 4 → (i' < i ∨ i' = i ∧ j' < j) → J 101 i' < 1000000 → E j' ≤ J 101 i' + zd_w (A 1) (J 80) (J 81) i' j' := t3
      have t4 : f = 0 → E = J 102 ∧ V = J 104 := t4
      have t5 : f = 1 → (∃ i, 0 ≤ i ∧ i < J 78 3 ∧ J 101 i < 1000000) ∧ zd_mu E (J 78 4) < zd_mu (J 102) (J 78 4) := t5
      have t6 : (∀ i, 0 ≤ i → i < J 78 3 → J 101 i ≤ 0 ∨ J 101 i = 1000000) ∨ (∀ j, 0 ≤ j → j < J 78 4 → E j ≤ 6) := t6
      have hlow := zd_low hA hk hpot t2
      have hDi := hlow.1 i hi hlt
      have hEj := hlow.2 j hj hjt
      have hhi := hk.2.1 i hi hlt
      have hlo := hk.2.2.1 j hj hjt
      have hwb := zd_w_b hA hk hi hlt hj hjt
      have hww : zd_w (A 1) (J 80) (J 81) i j = zz_nr (A 1) (J 80 i) (J 81 j) := rfl
      have e51 := c_51 (T := T) (J := zz_w (zz_w J 102 E) 104 V) (R := R) (G := G) (d := d - 1) (by omega) hL hp hA (hR' E V) hhi.1 hhi.2 hlo.1 hlo.2
      refine zz_Es (fun n => e_22_15 _ _ _ _ _ _) ?_
      by_cases hfar : 1000000 ≤ J 101 i
      · -- nothing goes out from here
        simp (maxSteps := 5000000) (disch := first | assumption | omega) only [zw_n, zg_78_0, zp_78_0, zg_78_1, zp_78_1, zr_78_2, zg_78_3, zp_78_3, zg_78_4, zp_78_4, zr_78_5, zr_78_6, zr_78_7, zr_78_8, zr_78_9, zr_78_10, zr_78_11, zr_78_12, zr_78_13, zi_78, za_79, zs_79, zl_79, za_80, zs_80, zl_80, za_81, zs_81, zl_81, za_82, zs_82, zl_82, za_83, zs_83, zl_83, zl_84, za_101, zs_101, zl_101, za_102, zs_102, zl_102, za_103, zs_103, zl_103, za_104, zs_104, zl_104, zg_L_0, zp_L_0, zg_L_1, zp_L_1, zg_L_2, zp_L_2, zg_L_3, zp_L_3, zg_L_4, zp_L_4, zg_L_5, zp_L_5, zg_L_6, zp_L_6, zg_L_7, zp_L_7, zi_L, zr_L_8, za_L_1, zs_L_1, zr_L_9, za_L_2, zs_L_2, zr_L_10, za_L_3, zs_L_3, zr_L_11, za_L_4, zs_L_4, zr_L_12, za_L_5, zs_L_5, zr_L_13, za_L_6, zs_L_6, zr_L_14, za_L_7, zs_L_7, zr_L_15, za_L_8, zs_L_8, zr_L_16, za_L_9, zs_L_9, zr_L_17, za_L_10, zs_L_10, zr_L_18, za_L_11, zs_L_11, zr_L_19, za_L_12, zs_L_12, zr_mv, za_mv, zs_mv, zl_mv, zz_0, zz_31, zz_add, zz_sub, zz_mul, zz_neg, zz_lt, zz_le, zz_eq, zz_div, zz_md, zz_dv, zz_abs, zz_max, zz_min, zz_nI, zz_be0, zz_be1, zz_zb, zz_z, zz_l0, zz_l, zz_lcmp, zo_rf, zo_nl, zo_nn, zo_rI, zo_rL, zo_rR, zo_rV, Int.add_zero, Int.zero_add, Int.mul_zero, Int.zero_mul, Int.one_mul, Int.mul_one, if_true, if_false, not_true_eq_false, not_false_eq_true]
        refine zz_Ei (fun _ => ?_) (fun h => absurd hfar h)
        refine kk (f, E, V) ⟨by omega, ?_⟩
        rw [hST]
        refine ⟨t1, t2, fun i' j' r0 r1 r2 r3 r4 r5 => t3 i' j' r0 r1 r2 r3 ?_ r5, t4, t5, t6⟩
        have r4 : i' < i + 1 := r4
        by_cases e : i' = i
        · rw [e] at r5
          omega
        · omega
      · simp (maxSteps := 5000000) (disch := first | assumption | omega) only [zw_n, zw_s, zw_u2, zz_wu, e51, zg_78_0, zp_78_0, zg_78_1, zp_78_1, zr_78_2, zg_78_3, zp_78_3, zg_78_4, zp_78_4, zr_78_5, zr_78_6, zr_78_7, zr_78_8, zr_78_9, zr_78_10, zr_78_11, zr_78_12, zr_78_13, zi_78, za_79, zs_79, zl_79, za_80, zs_80, zl_80, za_81, zs_81, zl_81, za_82, zs_82, zl_82, za_83, zs_83, zl_83, zl_84, za_101, zs_101, zl_101, za_102, zs_102, zl_102, za_103, zs_103, zl_103, za_104, zs_104, zl_104, zg_L_0, zp_L_0, zg_L_1, zp_L_1, zg_L_2, zp_L_2, zg_L_3, zp_L_3, zg_L_4, zp_L_4, zg_L_5, zp_L_5, zg_L_6, zp_L_6, zg_L_7, zp_L_7, zi_L, zr_L_8, za_L_1, zs_L_1, zr_L_9, za_L_2, zs_L_2, zr_L_10, za_L_3, zs_L_3, zr_L_11, za_L_4, zs_L_4, zr_L_12, za_L_5, zs_L_5, zr_L_13, za_L_6, zs_L_6, zr_L_14, za_L_7, zs_L_7, zr_L_15, za_L_8, zs_L_8, zr_L_16, za_L_9, zs_L_9, zr_L_17, za_L_10, zs_L_10, zr_L_18, za_L_11, zs_L_11, zr_L_19, za_L_12, zs_L_12, zr_mv, za_mv, zs_mv, zl_mv, zz_0, zz_31, zz_add, zz_sub, zz_mul, zz_neg, zz_lt, zz_le, zz_eq, zz_div, zz_md, zz_dv, zz_abs, zz_max, zz_min, zz_nI, zz_be0, zz_be1, zz_zb, zz_z, zz_l0, zz_l, zz_lcmp, zo_rf, zo_nl, zo_nn, zo_rI, zo_rL, zo_rR, zo_rV, Int.add_zero, Int.zero_add, Int.mul_zero, Int.zero_mul, Int.one_mul, Int.mul_one, if_true, if_false, not_true_eq_false, not_false_eq_true]
        refine zz_Ei (fun h => absurd h hfar) (fun _ => ?_)
        refine zz_Ei (fun h => absurd h (by omega)) (fun _ => ?_)
        refine zz_Ei (fun h => ?_) (fun h => ?_)
        · refine kj (f, E, V) ⟨by omega, ?_⟩
          rw [hST]
          refine ⟨t1, t2, fun i' j' r0 r1 r2 r3 r4 r5 => ?_, t4, t5, t6⟩
          by_cases e : i' = i ∧ j' = j
          · obtain ⟨rfl, rfl⟩ := e
            show E j' ≤ _
            omega
          · exact t3 i' j' r0 r1 r2 r3 (by have r4 : i' < i ∨ i' = i ∧ j' < j + 1 := r4; omega) r5
        · have hrf0 := zz_rf (fun a ha => ha.1) hpot t2.1 (a := i) (b := j) ⟨hi, hlt⟩ hj hjt (by omega)
          have hrf : zd_bf J (A 1) u v (J 101) _ (J 103) _ := ⟨hrf0, t2.2⟩
          have hnew : J 101 i + zz_nr (A 1) (J 80 i) (J 81 j) ≤ 6 := by
            rcases t6 with t6 | t6
            · have := t6 i hi hlt
              omega
            · have := t6 j hj hjt
              omega
          have hmu := zd_mu_f (D := E) (n := J 78 4) (k := j) (v := J 101 i + zz_nr (A 1) (J 80 i) (J 81 j)) hj hjt (by omega) hnew
          refine kj (1, zz_f E j (J 101 i + zz_nr (A 1) (J 80 i) (J 81 j)), zz_f V j i) ⟨by omega, ?_⟩
          rw [hST]
          refine ⟨Or.inr rfl, hrf, fun i' j' r0 r1 r2 r3 r4 r5 => ?_, fun q => absurd (show (1 : Int) = 0 from q) (by decide), fun _ => ⟨⟨i, hi, hlt, by omega⟩, ?_⟩, ?_⟩
          · show zz_f E j (J 101 i + zz_nr (A 1) (J 80 i) (J 81 j)) j' ≤ _
            by_cases e : j' = j
            · rw [e, zf_s]
              by_cases e' : i' = i
              · rw [e']
                exact Int.le_refl _
              · have := t3 i' j r0 r1 hj hjt (by have r4 : i' < i ∨ i' = i ∧ j' < j + 1 := r4; omega) r5
                omega
            · rw [zf_n e]
              exact t3 i' j' r0 r1 r2 r3 (by have r4 : i' < i ∨ i' = i ∧ j' < j + 1 := r4; omega) r5
          · show zd_mu (zz_f E j _) _ < _
            rcases t1 with t1 | t1
            · rw [(t4 t1).1] at hmu ⊢
              exact hmu
            · have := (t5 t1).2
              omega
          · rcases t6 with t6 | t6
            · exact Or.inl t6
            · refine Or.inr (fun j' r0 r1 => ?_)
              show zz_f E j _ j' ≤ 6
              by_cases e : j' = j
              · rw [e, zf_s]; exact hnew
              · rw [zf_n e]; exact t6 j' r0 r1
    · rintro ⟨f, E, V⟩ ⟨_, hq⟩
      rw [hST] at hq
      obtain ⟨t1, t2, t3, t4, t5, t6⟩ := hq
      have hlow := zd_low hA hk hpot t2
      have hDi := hlow.1 i hi hlt
      refine zz_Es (fun n => e_22_15 _ _ _ _ _ _) ?_
      have nxt : zz_E (fun n => mv_run (mv_cax (d - 1)) mm_22 n 4 [(0, .inr (.inr (some 78))), (1, .inr (.inr (some p))), (2, .inl (mv_c f)), (3, .inl (mv_c (i + 1)))] [] (zz_S T (zz_w (zz_w J 102 E) 104 V) R G)) _ := kk (f, E, V) ⟨by omega, by
        rw [hST]
        exact ⟨t1, t2, fun i' j' r0 r1 r2 r3 r4 r5 => t3 i' j' r0 r1 r2 r3 (by have r4 : i' < i + 1 := r4; show i' < i ∨ i' = i ∧ j' < J 78 4; omega) r5, t4, t5, t6⟩⟩
      simp (maxSteps := 5000000) (disch := first | assumption | omega) only [zw_n, zg_78_0, zp_78_0, zg_78_1, zp_78_1, zr_78_2, zg_78_3, zp_78_3, zg_78_4, zp_78_4, zr_78_5, zr_78_6, zr_78_7, zr_78_8, zr_78_9, zr_78_10, zr_78_11, zr_78_12, zr_78_13, zi_78, za_79, zs_79, zl_79, za_80, zs_80, zl_80, za_81, zs_81, zl_81, za_82, zs_82, zl_82, za_83, zs_83, zl_83, zl_84, za_101, zs_101, zl_101, za_102, zs_102, zl_102, za_103, zs_103, zl_103, za_104, zs_104, zl_104, zg_L_0, zp_L_0, zg_L_1, zp_L_1, zg_L_2, zp_L_2, zg_L_3, zp_L_3, zg_L_4, zp_L_4, zg_L_5, zp_L_5, zg_L_6, zp_L_6, zg_L_7, zp_L_7, zi_L, zr_L_8, za_L_1, zs_L_1, zr_L_9, za_L_2, zs_L_2, zr_L_10, za_L_3, zs_L_3, zr_L_11, za_L_4, zs_L_4, zr_L_12, za_L_5, zs_L_5, zr_L_13, za_L_6, zs_L_6, zr_L_14, za_L_7, zs_L_7, zr_L_15, za_L_8, zs_L_8, zr_L_16, za_L_9, zs_L_9, zr_L_17, za_L_10, zs_L_10, zr_L_18, za_L_11, zs_L_11, zr_L_19, za_L_12, zs_L_12, zr_mv, za_mv, zs_mv, zl_mv, zz_0, zz_31, zz_add, zz_sub, zz_mul, zz_neg, zz_lt, zz_le, zz_eq, zz_div, zz_md, zz_dv, zz_abs, zz_max, zz_min, zz_nI, zz_be0, zz_be1, zz_zb, zz_z, zz_l0, zz_l, zz_lcmp, zo_rf, zo_nl, zo_nn, zo_rI, zo_rL, zo_rR, zo_rV, Int.add_zero, Int.zero_add, Int.mul_zero, Int.zero_mul, Int.one_mul, Int.mul_one, if_true, if_false, not_true_eq_false, not_false_eq_true]
      refine zz_Ei (fun _ => nxt) (fun _ => ?_)
      refine zz_Ei (fun _ => nxt) (fun h => absurd (Int.le_refl _) h)
    · rw [hST] at hq ⊢
      obtain ⟨t1, t2, t3, t4, t5, t6⟩ := hq
      exact ⟨t1, t2, fun i' j' r0 r1 r2 r3 r4 r5 => t3 i' j' r0 r1 r2 r3 (by have r4 : i' < i ∨ i' = i ∧ j' < 0 := r4; show i' < i; omega) r5, t4, t5, t6⟩
  · rintro ⟨f, E, V⟩ ⟨_, hq⟩
    rw [hST] at hq
    obtain ⟨t1, t2, t3, t4, t5, t6⟩ := hq
    have t1 : f = 0 ∨ f = 1 := t1
    refine zz_Es (fun n => e_22_4 _ _ _ _ _) ?_
    simp (maxSteps := 5000000) (disch := first | assumption | omega) only [zw_n, zg_78_0, zp_78_0, zg_78_1, zp_78_1, zr_78_2, zg_78_3, zp_78_3, zg_78_4, zp_78_4, zr_78_5, zr_78_6, zr_78_7, zr_78_8, zr_78_9, zr_78_10, zr_78_11, zr_78_12, zr_78_13, zi_78, za_79, zs_79, zl_79, za_80, zs_80, zl_80, za_81, zs_81, zl_81, za_82, zs_82, zl_82, za_83, zs_83, zl_83, zl_84, za_101, zs_101, zl_101, za_102, zs_102, zl_102, za_103, zs_103, zl_103, za_104, zs_104, zl_104, zg_L_0, zp_L_0, zg_L_1, zp_L_1, zg_L_2, zp_L_2, zg_L_3, zp_L_3, zg_L_4, zp_L_4, zg_L_5, zp_L_5, zg_L_6, zp_L_6, zg_L_7, zp_L_7, zi_L, zr_L_8, za_L_1, zs_L_1, zr_L_9, za_L_2, zs_L_2, zr_L_10, za_L_3, zs_L_3, zr_L_11, za_L_4, zs_L_4, zr_L_12, za_L_5, zs_L_5, zr_L_13, za_L_6, zs_L_6, zr_L_14, za_L_7, zs_L_7, zr_L_15, za_L_8, zs_L_8, zr_L_16, za_L_9, zs_L_9, zr_L_17, za_L_10, zs_L_10, zr_L_18, za_L_11, zs_L_11, zr_L_19, za_L_12, zs_L_12, zr_mv, za_mv, zs_mv, zl_mv, zz_0, zz_31, zz_add, zz_sub, zz_mul, zz_neg, zz_lt, zz_le, zz_eq, zz_div, zz_md, zz_dv, zz_abs, zz_max, zz_min, zz_nI, zz_be0, zz_be1, zz_zb, zz_z, zz_l0, zz_l, zz_lcmp, zo_rf, zo_nl, zo_nn, zo_rI, zo_rL, zo_rR, zo_rV, Int.add_zero, Int.zero_add, Int.mul_zero, Int.zero_mul, Int.one_mul, Int.mul_one, if_true, if_false, not_true_eq_false, not_false_eq_true]
    refine zz_Ei (fun _ => ?_) (fun h => absurd (Int.le_refl _) h)
    refine zz_Er ⟨f, E, V, rfl, t1, t2, fun i j r0 r1 r2 r3 r4 => t3 i j r0 r1 r2 r3 r1 r4, t4, fun hf => ⟨fun j j0 j1 => ?_, (t5 hf).2⟩⟩
    rcases t6 with t6 | t6
    · obtain ⟨i, i0, i1, i2⟩ := (t5 hf).1
      have := t3 i j i0 i1 j0 j1 i1 i2
      have := t6 i i0 i1
      have := zd_w_b hA hk i0 i1 j0 j1
      have e : (f, E, V).2.1 j = E j := rfl
      omega
    · exact t6 j j0 j1
  · rw [hST]
    exact ⟨Or.inl rfl, hb, fun i j r0 r1 r2 r3 r4 => by have r4 : i < 0 := r4; omega, fun _ => ⟨rfl, rfl⟩, fun q => absurd (show (0 : Int) = 1 from q) (by decide), hC⟩
end ZSPR
