/-! PURE LAYER, 44: the class spreads back, and till nothing is nearer -/
section ZSP2
variable {T : List mv_T} {J : Nat → Int → Int} {R : Nat → Nat → Option Nat} {G : Nat → Nat → Int64} {d p : Nat} {Y : Int} {A u v : Int → Int}
theorem c_23 (hd : 2 ≤ d) (hL : ZL T R) (hp : Lnd p) (hA : zz_ok Y A) (hR : zc_rep T R J p A) (hk : zd_ok J A) (hpot : zz_pot (zd_hi (J 78 3)) (J 78 4) 6 (zd_w (A 1) (J 80) (J 81)) (zd_x (J 78 3) (J 78 4) J) u v) (hb : zd_bf J (A 1) u v (J 101) (J 102) (J 103) (J 104)) (hC : ∀ j, 0 ≤ j → j < J 78 4 → J 102 j ≤ 6) :
    ∃ f D P, mv_cax d 23 [.inr (.inr (some 78)), .inr (.inr (some p))] (zz_S T J R G) = some (some (.inl (mv_c f)), zz_S T (zz_w (zz_w J 101 D) 103 P) R G) ∧ (f = 0 ∨ f = 1) ∧ zd_bf J (A 1) u v D (J 102) P (J 104) ∧ (∀ i j, 0 ≤ i → i < J 78 3 → 0 ≤ j → j < J 78 4 → 0 < J (85 + i.toNat) j → J 102 j < 1000000 → D i ≤ J 102 j - zd_w (A 1) (J 80) (J 81) i j) ∧ (f = 0 → D = J 101 ∧ P = J 103) ∧ (f = 1 → zd_mu D (J 78 3) < zd_mu (J 101) (J 78 3)) := by
  have hn := hA.n
  have hk1 := hk.1
  suffices h : ∃ r, mv_cax d 23 [.inr (.inr (some 78)), .inr (.inr (some p))] (zz_S T J R G) = some r ∧ ∃ f D P, r = (some (.inl (mv_c f)), zz_S T (zz_w (zz_w J 101 D) 103 P) R G) ∧ (f = 0 ∨ f = 1) ∧ zd_bf J (A 1) u v D (J 102) P (J 104) ∧ (∀ i j, 0 ≤ i → i < J 78 3 → 0 ≤ j → j < J 78 4 → 0 < J (85 + i.toNat) j → J 102 j < 1000000 → D i ≤ J 102 j - zd_w (A 1) (J 80) (J 81) i j) ∧ (f = 0 → D = J 101 ∧ P = J 103) ∧ (f = 1 → zd_mu D (J 78 3) < zd_mu (J 101) (J 78 3)) by
    obtain ⟨r, h1, f, D, P, rfl, h2⟩ := h
    exact ⟨f, D, P, h1, h2⟩
  refine zz_call (by omega) t_23 rfl (fun n => e_23 _ _ _) ?_
  have e0 : J = zz_w (zz_w J 101 (J 101)) 103 (J 103) := by rw [zw_i, zw_i]
  have hplt : p + 12 < 78 := by rcases hp with rfl | rfl | rfl | rfl <;> omega
  have hR' : ∀ D P, zc_rep T R (zz_w (zz_w J 101 D) 103 P) p A := fun D P => zc_rep_f hR (fun x hx => by rw [zw_n (by omega), zw_n (by omega)])
  let ST : (Int → Int → Prop) → Int × (Int → Int) × (Int → Int) → Prop := fun S q => (q.1 = 0 ∨ q.1 = 1) ∧ zd_bf J (A 1) u v q.2.1 (J 102) q.2.2 (J 104) ∧ (∀ i j, 0 ≤ i → i < J 78 3 → 0 ≤ j → j < J 78 4 → S i j → 0 < J (85 + i.toNat) j → J 102 j < 1000000 → q.2.1 i ≤ J 102 j - zd_w (A 1) (J 80) (J 81) i j) ∧ (q.1 = 0 → q.2.1 = J 101 ∧ q.2.2 = J 103) ∧ (q.1 = 1 → zd_mu q.2.1 (J 78 3) < zd_mu (J 101) (J 78 3))
  have hST : ∀ S q, ST S q = ((q.1 = 0 ∨ q.1 = 1) ∧ zd_bf J (A 1) u v q.2.1 (J 102) q.2.2 (J 104) ∧ (∀ i j, 0 ≤ i → i < J 78 3 → 0 ≤ j → j < J 78 4 → S i j → 0 < J (85 + i.toNat) j → J 102 j < 1000000 → q.2.1 i ≤ J 102 j - zd_w (A 1) (J 80) (J 81) i j) ∧ (q.1 = 0 → q.2.1 = J 101 ∧ q.2.2 = J 103) ∧ (q.1 = 1 → zd_mu q.2.1 (J 78 3) < zd_mu (J 101) (J 78 3))) := fun _ _ => rfl
  clear_value ST
  have l := zz_loop (α := Int × (Int → Int) × (Int → Int)) (run := fun j q n => mv_run (mv_cax (d - 1)) mm_23 n 4 [(0, .inr (.inr (some 78))), (1, .inr (.inr (some p))), (2, .inl (mv_c q.1)), (3, .inl (mv_c j))] [] (zz_S T (zz_w (zz_w J 101 q.2.1) 103 q.2.2) R G)) (Q := fun r => ∃ f D P, r = (some (.inl (mv_c f)), zz_S T (zz_w (zz_w J 101 D) 103 P) R G) ∧ (f = 0 ∨ f = 1) ∧ zd_bf J (A 1) u v D (J 102) P (J 104) ∧ (∀ i j, 0 ≤ i → i < J 78 3 → 0 ≤ j → j < J 78 4 → 0 < J (85 + i.toNat) j → J 102 j < 1000000 → D i ≤ J 102 j - zd_w (A 1) (J 80) (J 81) i j) ∧ (f = 0 → D = J 101 ∧ P = J 103) ∧ (f = 1 → zd_mu D (J 78 3) < zd_mu (J 101) (J 78 3))) (J 78 4) (fun j q => 0 ≤ j ∧ ST (fun _ j' => j' < j) q) ?_ ?_ (J 78 4).toNat 0 (0, J 101, J 103) (by omega) ⟨by omega, ?_⟩
  · rw [← e0] at l
    exact l
  · rintro j q ⟨hj, hq⟩ hlt kk
    have hEj6 := hC j hj hlt
    refine zz_Es (fun n => e_23_4 _ _ _ _ _) ?_
    simp (maxSteps := 5000000) (disch := first | assumption | omega) only [zw_n, zg_78_0, zp_78_0, zg_78_1, zp_78_1, zr_78_2, zg_78_3, zp_78_3, zg_78_4, zp_78_4, zr_78_5, zr_78_6, zr_78_7, zr_78_8, zr_78_9, zr_78_10, zr_78_11, zr_78_12, zr_78_13, zi_78, za_79, zs_79, zl_79, za_80, zs_80, zl_80, za_81, zs_81, zl_81, za_82, zs_82, zl_82, za_83, zs_83, zl_83, zl_84, za_101, zs_101, zl_101, za_102, zs_102, zl_102, za_103, zs_103, zl_103, za_104, zs_104, zl_104, zg_L_0, zp_L_0, zg_L_1, zp_L_1, zg_L_2, zp_L_2, zg_L_3, zp_L_3, zg_L_4, zp_L_4, zg_L_5, zp_L_5, zg_L_6, zp_L_6, zg_L_7, zp_L_7, zi_L, zr_L_8, za_L_1, zs_L_1, zr_L_9, za_L_2, zs_L_2, zr_L_10, za_L_3, zs_L_3, zr_L_11, za_L_4, zs_L_4, zr_L_12, za_L_5, zs_L_5, zr_L_13, za_L_6, zs_L_6, zr_L_14, za_L_7, zs_L_7, zr_L_15, za_L_8, zs_L_8, zr_L_16, za_L_9, zs_L_9, zr_L_17, za_L_10, zs_L_10, zr_L_18, za_L_11, zs_L_11, zr_L_19, za_L_12, zs_L_12, zr_mv, za_mv, zs_mv, zl_mv, zz_0, zz_31, zz_add, zz_sub, zz_mul, zz_neg, zz_lt, zz_le, zz_eq, zz_div, zz_md, zz_dv, zz_abs, zz_max, zz_min, zz_nI, zz_be0, zz_be1, zz_zb, zz_z, zz_l0, zz_l, zz_lcmp, zo_rf, zo_nl, zo_nn, zo_rI, zo_rL, zo_rR, zo_rV, Int.add_zero, Int.zero_add, Int.mul_zero, Int.zero_mul, Int.one_mul, Int.mul_one, if_true, if_false, not_true_eq_false, not_false_eq_true]
    refine zz_Ei (fun h => absurd h (by omega)) (fun _ => ?_)
    refine zz_loop (α := Int × (Int → Int) × (Int → Int)) (run := fun i q n => mv_run (mv_cax (d - 1)) mm_23 n 15 [(0, .inr (.inr (some 78))), (1, .inr (.inr (some p))), (2, .inl (mv_c q.1)), (3, .inl (mv_c j)), (4, .inl (mv_c i))] [] (zz_S T (zz_w (zz_w J 101 q.2.1) 103 q.2.2) R G)) (J 78 3) (fun i q => 0 ≤ i ∧ ST (fun i' j' => j' < j ∨ j' = j ∧ i' < i) q) ?_ ?_ (J 78 3).toNat 0 q (by omega) ⟨by omega, ?_⟩
    · rintro i ⟨f, D, P⟩ ⟨hi, hq⟩ hit kj
      rw [hST] at hq
      obtain ⟨t1, t2, t3, t4, t5⟩ := hq
      have t1 : f = 0 ∨ f = 1 := t1
      have t2 : zd_bf J (A 1) u v D (J 102) P (J 104) := t2
      have t3 : ∀ i' j', 0 ≤ i' → i' < J 78 3 → 0 ≤ j' → j' < J 78 4 → (j' < j ∨ j' = j ∧ i' < i) → 0 < J (85 + i'.toNat) j' → J 102 j' < 1000000 → D i' ≤ J 102 j' - zd_w (A 1) (J 80) (J 81) i' j' := t3
      have t4 : f = 0 → D = J 101 ∧ P = J 103 := t4
      have t5 : f = 1 → zd_mu D (J 78 3) < zd_mu (J 101) (J 78 3) := t5
      have hlow := zd_low hA hk hpot t2
      have hDi := hlow.1 i hi hit
      have hEj := hlow.2 j hj hlt
      have hhi := hk.2.1 i hi hit
      have hlo := hk.2.2.1 j hj hlt
      have hmv := hk.2.2.2.1 i j hi hit hj hlt
      have hwb := zd_w_b hA hk hi hit hj hlt
      have hww : zd_w (A 1) (J 80) (J 81) i j = zz_nr (A 1) (J 80 i) (J 81 j) := rfl
      have e51 := c_51 (T := T) (J := zz_w (zz_w J 101 D) 103 P) (R := R) (G := G) (d := d - 1) (by omega) hL hp hA (hR' D P) hhi.1 hhi.2 hlo.1 hlo.2
      have j85 : zz_w (zz_w J 101 D) 103 P (85 + i.toNat) = J (85 + i.toNat) := by rw [zw_n (by omega), zw_n (by omega)]
      refine zz_Es (fun n => e_23_15 _ _ _ _ _ _) ?_
      have stay : (0 < J (85 + i.toNat) j → D i ≤ J 102 j - zd_w (A 1) (J 80) (J 81) i j) → zz_E (fun n => mv_run (mv_cax (d - 1)) mm_23 n 15 [(0, .inr (.inr (some 78))), (1, .inr (.inr (some p))), (2, .inl (mv_c f)), (3, .inl (mv_c j)), (4, .inl (mv_c (i + 1)))] [] (zz_S T (zz_w (zz_w J 101 D) 103 P) R G)) (fun r => ∃ f D P, r = (some (.inl (mv_c f)), zz_S T (zz_w (zz_w J 101 D) 103 P) R G) ∧ (f = 0 ∨ f = 1) ∧ zd_bf J (A 1) u v D (J 102) P (J 104) ∧ (∀ i j, 0 ≤ i → i < J 78 3 → 0 ≤ j → j < J 78 4 → 0 < J (85 + i.toNat) j → J 102 j < 1000000 → D i ≤ J 102 j - zd_w (A 1) (J 80) (J 81) i j) ∧ (f = 0 → D = J 101 ∧ P = J 103) ∧ (f = 1 → zd_mu D (J 78 3) < zd_mu (J 101) (J 78 3))) := by
        intro hs
        refine kj (f, D, P) ⟨by omega, ?_⟩
        rw [hST]
        refine ⟨t1, t2, fun i' j' r0 r1 r2 r3 r4 r5 r6 => ?_, t4, t5⟩
        by_cases e : i' = i ∧ j' = j
        · obtain ⟨rfl, rfl⟩ := e
          exact hs r5
        · exact t3 i' j' r0 r1 r2 r3 (by have r4 : j' < j ∨ j' = j ∧ i' < i + 1 := r4; omega) r5 r6
      simp (maxSteps := 5000000) (disch := first | assumption | omega) only [zw_n, zw_s, zw_u2, zz_wu, e51, j85, zg_78_0, zp_78_0, zg_78_1, zp_78_1, zr_78_2, zg_78_3, zp_78_3, zg_78_4, zp_78_4, zr_78_5, zr_78_6, zr_78_7, zr_78_8, zr_78_9, zr_78_10, zr_78_11, zr_78_12, zr_78_13, zi_78, za_79, zs_79, zl_79, za_80, zs_80, zl_80, za_81, zs_81, zl_81, za_82, zs_82, zl_82, za_83, zs_83, zl_83, zl_84, za_101, zs_101, zl_101, za_102, zs_102, zl_102, za_103, zs_103, zl_103, za_104, zs_104, zl_104, zg_L_0, zp_L_0, zg_L_1, zp_L_1, zg_L_2, zp_L_2, zg_L_3, zp_L_3, zg_L_4, zp_L_4, zg_L_5, zp_L_5, zg_L_6, zp_L_6, zg_L_7, zp_L_7, zi_L, zr_L_8, za_L_1, zs_L_1, zr_L_9, za_L_2, zs_L_2, zr_L_10, za_L_3, zs_L_3, zr_L_11, za_L_4, zs_L_4, zr_L_12, za_L_5, zs_L_5, zr_L_13, za_L_6, zs_L_6, zr_L_14, za_L_7, zs_L_7, zr_L_15, za_L_8, zs_L_8, zr_L_16, za_L_9, zs_L_9, zr_L_17, za_L_10, zs_L_10, zr_L_18, za_L_11, zs_L_11, zr_L_19, za_L_12, zs_L_12, zr_mv, za_mv, zs_mv, zl_mv, zz_0, zz_31, zz_add, zz_sub, zz_mul, zz_neg, zz_lt, zz_le, zz_eq, zz_div, zz_md, zz_dv, zz_abs, zz_max, zz_min, zz_nI, zz_be0, zz_be1, zz_zb, zz_z, zz_l0, zz_l, zz_lcmp, zo_rf, zo_nl, zo_nn, zo_rI, zo_rL, zo_rR, zo_rV, Int.add_zero, Int.zero_add, Int.mul_zero, Int.zero_mul, Int.one_mul, Int.mul_one, if_true, if_false, not_true_eq_false, not_false_eq_true]
      refine zz_Ei (fun h => absurd h (by omega)) (fun _ => ?_)
      refine zz_Ei (fun h => absurd h (by omega)) (fun _ => ?_)
      refine zz_Ei (fun h => stay (fun q => by omega)) (fun hx => ?_)
      refine zz_Ei (fun h => stay (fun q => by omega)) (fun h => ?_)
      have hrb0 := zz_rb (fun a ha => ha.1) hpot t2.1 (a := i) (b := j) ⟨hi, hit⟩ hj hlt (by rw [zd_x_v ⟨hi, hit⟩ hj hlt]; omega) (by omega) (by omega)
      have hrb : zd_bf J (A 1) u v _ (J 102) (zz_f P i j) (J 104) := ⟨hrb0, fun k k0 k1 => by
        by_cases e : k = i
        · rw [e, zf_s]; omega
        · rw [zf_n e]; exact t2.2 k k0 k1⟩
      have hmu := zd_mu_f (D := D) (n := J 78 3) (k := i) (v := J 102 j - zz_nr (A 1) (J 80 i) (J 81 j)) hi hit (by omega) (by omega)
      refine kj (1, zz_f D i (J 102 j - zz_nr (A 1) (J 80 i) (J 81 j)), zz_f P i j) ⟨by omega, ?_⟩
      rw [hST]
      refine ⟨Or.inr rfl, hrb, fun i' j' r0 r1 r2 r3 r4 r5 r6 => ?_, fun q => absurd (show (1 : Int) = 0 from q) (by decide), fun _ => ?_⟩
      · show zz_f D i (J 102 j - zz_nr (A 1) (J 80 i) (J 81 j)) i' ≤ _
        by_cases e : i' = i
        · rw [e, zf_s]
          by_cases e' : j' = j
          · rw [e']
            exact Int.le_refl _
          · rw [e] at r5
            have := t3 i j' hi hit r2 r3 (by have r4 : j' < j ∨ j' = j ∧ i' < i + 1 := r4; omega) r5 r6
            omega
        · rw [zf_n e]
          exact t3 i' j' r0 r1 r2 r3 (by have r4 : j' < j ∨ j' = j ∧ i' < i + 1 := r4; omega) r5 r6
      · show zd_mu (zz_f D i _) _ < _
        rcases t1 with t1 | t1
        · rw [(t4 t1).1] at hmu ⊢
          exact hmu
        · have := t5 t1
          omega
    · rintro ⟨f, D, P⟩ ⟨_, hq⟩
      rw [hST] at hq
      obtain ⟨t1, t2, t3, t4, t5⟩ := hq
      have hlow := zd_low hA hk hpot t2
      have hEj := hlow.2 j hj hlt
      refine zz_Es (fun n => e_23_15 _ _ _ _ _ _) ?_
      simp (maxSteps := 5000000) (disch := first | assumption | omega) only [zw_n, zg_78_0, zp_78_0, zg_78_1, zp_78_1, zr_78_2, zg_78_3, zp_78_3, zg_78_4, zp_78_4, zr_78_5, zr_78_6, zr_78_7, zr_78_8, zr_78_9, zr_78_10, zr_78_11, zr_78_12, zr_78_13, zi_78, za_79, zs_79, zl_79, za_80, zs_80, zl_80, za_81, zs_81, zl_81, za_82, zs_82, zl_82, za_83, zs_83, zl_83, zl_84, za_101, zs_101, zl_101, za_102, zs_102, zl_102, za_103, zs_103, zl_103, za_104, zs_104, zl_104, zg_L_0, zp_L_0, zg_L_1, zp_L_1, zg_L_2, zp_L_2, zg_L_3, zp_L_3, zg_L_4, zp_L_4, zg_L_5, zp_L_5, zg_L_6, zp_L_6, zg_L_7, zp_L_7, zi_L, zr_L_8, za_L_1, zs_L_1, zr_L_9, za_L_2, zs_L_2, zr_L_10, za_L_3, zs_L_3, zr_L_11, za_L_4, zs_L_4, zr_L_12, za_L_5, zs_L_5, zr_L_13, za_L_6, zs_L_6, zr_L_14, za_L_7, zs_L_7, zr_L_15, za_L_8, zs_L_8, zr_L_16, za_L_9, zs_L_9, zr_L_17, za_L_10, zs_L_10, zr_L_18, za_L_11, zs_L_11, zr_L_19, za_L_12, zs_L_12, zr_mv, za_mv, zs_mv, zl_mv, zz_0, zz_31, zz_add, zz_sub, zz_mul, zz_neg, zz_lt, zz_le, zz_eq, zz_div, zz_md, zz_dv, zz_abs, zz_max, zz_min, zz_nI, zz_be0, zz_be1, zz_zb, zz_z, zz_l0, zz_l, zz_lcmp, zo_rf, zo_nl, zo_nn, zo_rI, zo_rL, zo_rR, zo_rV, Int.add_zero, Int.zero_add, Int.mul_zero, Int.zero_mul, Int.one_mul, Int.mul_one, if_true, if_false, not_true_eq_false, not_false_eq_true]
      refine zz_Ei (fun h => absurd h (by omega)) (fun _ => ?_)
      refine zz_Ei (fun _ => ?_) (fun h => absurd (Int.le_refl _) h)
      refine kk (f, D, P) ⟨by omega, ?_⟩
      rw [hST]
      exact ⟨t1, t2, fun i' j' r0 r1 r2 r3 r4 r5 r6 => t3 i' j' r0 r1 r2 r3 (by have r4 : j' < j + 1 := r4; show j' < j ∨ j' = j ∧ i' < J 78 3; omega) r5 r6, t4, t5⟩
    · rw [hST] at hq ⊢
      obtain ⟨t1, t2, t3, t4, t5⟩ := hq
      exact ⟨t1, t2, fun i' j' r0 r1 r2 r3 r4 r5 r6 => t3 i' j' r0 r1 r2 r3 (by have r4 : j' < j ∨ j' = j ∧ i' < 0 := r4; show j' < j; omega) r5 r6, t4, t5⟩
  · rintro ⟨f, D, P⟩ ⟨_, hq⟩
    rw [hST] at hq
    obtain ⟨t1, t2, t3, t4, t5⟩ := hq
    have t1 : f = 0 ∨ f = 1 := t1
    refine zz_Es (fun n => e_23_4 _ _ _ _ _) ?_
    simp (maxSteps := 5000000) (disch := first | assumption | omega) only [zw_n, zg_78_0, zp_78_0, zg_78_1, zp_78_1, zr_78_2, zg_78_3, zp_78_3, zg_78_4, zp_78_4, zr_78_5, zr_78_6, zr_78_7, zr_78_8, zr_78_9, zr_78_10, zr_78_11, zr_78_12, zr_78_13, zi_78, za_79, zs_79, zl_79, za_80, zs_80, zl_80, za_81, zs_81, zl_81, za_82, zs_82, zl_82, za_83, zs_83, zl_83, zl_84, za_101, zs_101, zl_101, za_102, zs_102, zl_102, za_103, zs_103, zl_103, za_104, zs_104, zl_104, zg_L_0, zp_L_0, zg_L_1, zp_L_1, zg_L_2, zp_L_2, zg_L_3, zp_L_3, zg_L_4, zp_L_4, zg_L_5, zp_L_5, zg_L_6, zp_L_6, zg_L_7, zp_L_7, zi_L, zr_L_8, za_L_1, zs_L_1, zr_L_9, za_L_2, zs_L_2, zr_L_10, za_L_3, zs_L_3, zr_L_11, za_L_4, zs_L_4, zr_L_12, za_L_5, zs_L_5, zr_L_13, za_L_6, zs_L_6, zr_L_14, za_L_7, zs_L_7, zr_L_15, za_L_8, zs_L_8, zr_L_16, za_L_9, zs_L_9, zr_L_17, za_L_10, zs_L_10, zr_L_18, za_L_11, zs_L_11, zr_L_19, za_L_12, zs_L_12, zr_mv, za_mv, zs_mv, zl_mv, zz_0, zz_31, zz_add, zz_sub, zz_mul, zz_neg, zz_lt, zz_le, zz_eq, zz_div, zz_md, zz_dv, zz_abs, zz_max, zz_min, zz_nI, zz_be0, zz_be1, zz_zb, zz_z, zz_l0, zz_l, zz_lcmp, zo_rf, zo_nl, zo_nn, zo_rI, zo_rL, zo_rR, zo_rV, Int.add_zero, Int.zero_add, Int.mul_zero, Int.zero_mul, Int.one_mul, Int.mul_one, if_true, if_false, not_true_eq_false, not_false_eq_true]
    refine zz_Ei (fun _ => ?_) (fun h => absurd (Int.le_refl _) h)
    exact zz_Er ⟨f, D, P, rfl, t1, t2, fun i j r0 r1 r2 r3 r4 r5 => t3 i j r0 r1 r2 r3 r3 r4 r5, t4, t5⟩
  · rw [hST]
    exact ⟨Or.inl rfl, hb, fun i j r0 r1 r2 r3 r4 => by have r4 : j < 0 := r4; omega, fun _ => ⟨rfl, rfl⟩, fun q => absurd (show (0 : Int) = 1 from q) (by decide)⟩
theorem zd_mu_b {D : Int → Int} {n : Int} (hn : 0 ≤ n) (h : ∀ i, 0 ≤ i → i < n → -96 ≤ D i) : 0 ≤ zd_mu D n ∧ zd_mu D n ≤ 103 * n := by
  have := zz_sum_b (f := fun i => min (D i) 7 + 96) (a := 0) (b := 103) hn (fun i i0 i1 => by
    have := h i i0 i1
    show 0 ≤ min (D i) 7 + 96 ∧ min (D i) 7 + 96 ≤ 103
    omega)
  unfold zd_mu
  omega
end ZSP2
