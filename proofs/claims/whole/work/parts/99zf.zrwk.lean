/-! PURE LAYER, 111: the reference's works -/
section ZRWK
variable {T : List mv_T} {J : Nat → Int → Int} {R : Nat → Nat → Option Nat} {G : Nat → Nat → Int64} {d : Nat} {Y : Int} {k : Int}
/-- what stays while works go on -/
def zq_wf (J1 J2 : Nat → Int → Int) : Prop := (∀ x, x ≠ 131 → x ≠ 132 → J2 x = J1 x) ∧ ∀ y, y ≠ 16 → y ≠ 17 → J2 131 y = J1 131 y
theorem zq_wf_m {J1 J2 : Nat → Int → Int} {s m : Int} (h : zq_wf J1 J2) : zq_wf J1 (zz_fm J2 s m) := ⟨fun x x1 x2 => by rw [← h.1 x x1 x2]; funext y; exact zz_fm_a x1, fun y y1 y2 => by rw [← h.2 y y1 y2]; unfold zz_fm; rw [zu_k y1, zu_k y2]⟩
theorem zq_wf_w {J1 J2 : Nat → Int → Int} {O : Int → Int} (h : zq_wf J1 J2) : zq_wf J1 (zz_w J2 132 O) := ⟨fun x x1 x2 => by rw [zw_n x2]; exact h.1 x x1 x2, fun y y1 y2 => by rw [zw_n (by omega)]; exact h.2 y y1 y2⟩
theorem r_174 (hd : 5 ≤ d) (hL : ZL T R) (hA : zz_ok Y (J 132)) (hBc : zz_bc (J 142)) (hk : zk_kd J) (k0 : -2147483648 ≤ k) (k1 : k ≤ 2147483647) : ∃ v J', mv_cax d 174 [.inr (.inr (some 131)), .inl (mv_c k)] (zz_S T J R G) = some (some (.inl (mv_c v)), zz_S T J' R G) ∧ zz_pw J J' ∧ J' 132 = J 132 ∧ zv_works J (J 132) k v := by
  have hN := hA.n
  have h2 := hA.2.1
  have r151 := r_151 (T := T) (J := J) (R := R) (G := G) (d := d - 1) (k := k) (s := 0) (by omega) hL hk k0 k1 (by omega) (by omega)
  have hwb := zq_wrb J k 0
  by_cases hw : zv_wr J k 0 = 0
  · obtain ⟨hkk, hV⟩ := zq_wr0 hw
    obtain ⟨-, hs, hr⟩ := zq_kd2 hk hkk.1 hkk.2 hV
    rw [hw] at r151
    have r175 := r_175 (T := T) (J := J) (R := R) (G := G) (d := d - 1) (by omega) hL
    obtain ⟨J1, hJ1⟩ : ∃ J1, J1 = zz_w J 147 (zz_c130 (J 132) (J 147)) := ⟨_, rfl⟩
    rw [← hJ1] at r175
    have f1 : ∀ x, x ≠ 147 → J1 x = J x := fun x hx => by rw [hJ1, zw_n hx]
    have a1 : J1 147 = zz_c130 (J 132) (J 147) := by rw [hJ1, zw_s]
    obtain ⟨A, hAe⟩ : ∃ A, A = J 132 := ⟨_, rfl⟩
    rw [← hAe] at hA hN h2 a1 ⊢
    have e132 : J1 132 = A := by rw [f1 132 (by omega), hAe]
    generalize hW : zv_wk J k (zz_ls A) 51 A 0 (A 2) = W
    suffices h : ∃ r, mv_cax d 174 [.inr (.inr (some 131)), .inl (mv_c k)] (zz_S T J R G) = some r ∧ ∃ J', r = (some (.inl (mv_c W)), zz_S T J' R G) ∧ zz_pw J J' ∧ J' 132 = A by
      obtain ⟨r, g1, J', rfl, g2, g3⟩ := h
      exact ⟨W, J', g1, g2, g3, Or.inr ⟨hw, hW.symm⟩⟩
    obtain ⟨Q, hQ⟩ : ∃ Q : Option mv_V × mv_S → Prop, Q = fun r => ∃ J', r = (some (.inl (mv_c W)), zz_S T J' R G) ∧ zz_pw J J' ∧ J' 132 = A := ⟨_, rfl⟩
    refine zz_call (by omega) t_174 rfl (fun n => e_174 _ _ _) ?_
    rw [← hQ]
    have fin : ∀ (J2 : Nat → Int → Int) (B : Int → Int), zq_wf J1 J2 → J2 132 = B → (∀ y, (y < 8 ∨ 24 ≤ y) → B y = A y) → Q (some (.inl (mv_c W)), zz_S T (zz_w J2 132 (zz_c130 (J2 147) (J2 132))) R G) := by
      intro J2 B g1 g2 g3
      rw [hQ]
      refine ⟨_, rfl, ⟨fun x x1 x2 x3 => by rw [zw_n x2, g1.1 x x1 x2, f1 x (by omega)], by rw [zw_n (by omega), g1.2 9 (by omega) (by omega), f1 131 (by omega)]⟩, ?_⟩
      rw [zw_s, g1.1 147 (by omega) (by omega), a1, g2]
      exact zz_c130b (fun y hy => g3 y (by omega))
    have s137 : ∀ J2, zq_wf J1 J2 → J2 137 k = J 137 k := fun J2 g => by rw [g.1 137 (by omega) (by omega), f1 137 (by omega)]
    have s138 : ∀ J2, zq_wf J1 J2 → J2 138 = J 138 := fun J2 g => by rw [g.1 138 (by omega) (by omega), f1 138 (by omega)]
    have s142 : ∀ J2, zq_wf J1 J2 → zz_bc (J2 142) := fun J2 g => by rw [g.1 142 (by omega) (by omega), f1 142 (by omega)]; exact hBc
    have stop : ∀ (J2 : Nat → Int → Int) (B : Int → Int) (i : Int) (l m : Int32), zq_wf J1 J2 → J2 132 = B → (∀ y, (y < 8 ∨ 24 ≤ y) → B y = A y) → 0 ≤ i → i ≤ 200 → 0 ≤ W → W ≤ 200 → zz_E (fun n => mv_run (mv_cax (d - 1)) mm_174 n 37 [(0, .inr (.inr (some 131))), (1, .inl (mv_c k)), (3, .inl m), (4, .inl l), (5, .inl (mv_c W)), (6, .inl (mv_c i))] [] (zz_S T J2 R G)) Q := by
      intro J2 B i l m g1 g2 g3 i0 i1 w0 w1
      have r176 := r_176 (T := T) (J := J2) (R := R) (G := G) (d := d - 1) (by omega) hL
      have e7 := s137 J2 g1
      refine zz_Es (fun n => e_174_37 _ _ _ _ _ _ _) ?_
      refine zz_Em (Q' := fun r => r = (some (.inl (mv_c W)), zz_S T (zz_w J2 132 (zz_c130 (J2 147) (J2 132))) R G)) ?_ (fun r hr => by rw [hr]; exact fin J2 B g1 g2 g3)
      simp (maxSteps := 5000000) (disch := first | assumption | omega) only [zr_131_5, zo_rf, za_137, e7, zi_131, r176, zo_rV, zz_le]
      refine zz_Ei (fun _ => zz_Er rfl) (fun _ => ?_)
      refine zz_Ei (fun g => absurd (zt_eq (by omega) (by omega) (by omega) (by omega) g) (by omega)) (fun _ => zz_Er rfl)
    have key : ∀ (μ : Int), ((μ = 1 ∧ zz_ls A) ∨ (μ = 0 ∧ ¬ zz_ls A)) → ∀ (f : Nat) (B : Int → Int) (i left : Int) (J2 : Nat → Int → Int), 0 ≤ i → i + 2 * f = 102 → i ≤ J 137 k → 0 ≤ left → left ≤ 999 → zq_wf J1 J2 → J2 132 = B → zz_ok Y B → (∀ y, (y < 8 ∨ 24 ≤ y) → B y = A y) → zv_wk J k (zz_ls A) f B i left = W → zz_E (fun n => mv_run (mv_cax (d - 1)) mm_174 n 37 [(0, .inr (.inr (some 131))), (1, .inl (mv_c k)), (3, .inl (mv_c μ)), (4, .inl (mv_c left)), (5, .inl (mv_c (-4))), (6, .inl (mv_c i))] [] (zz_S T J2 R G)) Q := by
      intro μ hμ f
      induction f with
      | zero =>
        intro B i left J2 i0 hf hle l0 l1 g1 g2 g3 g4 g5
        omega
      | succ f ih =>
        intro B i left J2 i0 hf hle l0 l1 g1 g2 g3 g4 g5
        have e7 := s137 J2 g1
        have e8 := s138 J2 g1
        unfold zv_wk at g5
        by_cases hi : J 137 k ≤ i
        · rw [if_pos hi] at g5
          have r176 := r_176 (T := T) (J := J2) (R := R) (G := G) (d := d - 1) (by omega) hL
          refine zz_Es (fun n => e_174_37 _ _ _ _ _ _ _) ?_
          simp (maxSteps := 5000000) (disch := first | assumption | omega) only [zr_131_5, zo_rf, za_137, e7, zi_131, r176, zo_rV, zz_le]
          refine zz_Ei (fun _ => zz_Er ?_) (fun g => absurd hi g)
          rw [g5]
          exact fin J2 B g1 g2 g4
        · rw [if_neg hi] at g5
          by_cases hi1 : i + 1 = J 137 k
          · rw [if_pos hi1] at g5
            have st := stop J2 B (i + 2) (mv_c left) (mv_c μ) g1 g2 g4 (by omega) (by omega) (by omega) (by omega)
            rw [← g5] at st
            refine zz_Es (fun n => e_174_37 _ _ _ _ _ _ _) ?_
            simp (maxSteps := 5000000) (disch := first | assumption | omega) only [zr_131_5, zo_rf, za_137, e7, zz_le, zz_add, zz_eq, if_true]
            refine zz_Ei (fun g => absurd g hi) (fun _ => ?_)
            try (refine zz_Ei (fun _ => ?_) (fun h => absurd trivial h))
            refine zz_Ei (fun _ => ?_) (fun g => absurd hi1 g)
            exact st
          · rw [if_neg hi1] at g5
            have ra := hr i i0 (by omega)
            have rb := hr (i + 1) (by omega) (by omega)
            unfold zk_r32 at ra rb
            have eA : J2 138 (100 * k + i) = J 138 (100 * k + i) := by rw [e8]
            have eB : J2 138 (100 * k + i + 1) = J 138 (100 * k + (i + 1)) := by rw [e8, Int.add_assoc]
            generalize hEa : J 138 (100 * k + i) = a at *
            generalize hEb : J 138 (100 * k + (i + 1)) = b at *
            have n0 : B 0 = A 0 := g4 0 (by omega)
            have n1 : B 1 = A 1 := g4 1 (by omega)
            have hNB := g3.n
            have g3' : zz_ok Y (J2 132) := by rw [g2]; exact g3
            have r136a := r_136 (T := T) (J := J2) (R := R) (G := G) (d := d - 1) (Y := Y) (c := a) (by omega) hL g3' ra.1 ra.2
            have r136b := r_136 (T := T) (J := J2) (R := R) (G := G) (d := d - 1) (Y := Y) (c := b) (by omega) hL g3' rb.1 rb.2
            rw [g2] at r136a r136b
            have ist : ∀ (J3 : Nat → Int → Int) (B3 : Int → Int) (l : Int32), W = i → zq_wf J1 J3 → J3 132 = B3 → (∀ y, (y < 8 ∨ 24 ≤ y) → B3 y = A y) → zz_E (fun n => mv_run (mv_cax (d - 1)) mm_174 n 37 [(0, .inr (.inr (some 131))), (1, .inl (mv_c k)), (3, .inl (mv_c μ)), (4, .inl l), (5, .inl (mv_c i)), (6, .inl (mv_c (i + 2)))] [] (zz_S T J3 R G)) Q := by
              intro J3 B3 l hWi q1 q2 q3
              have st := stop J3 B3 (i + 2) l (mv_c μ) q1 q2 q3 (by omega) (by omega) (by omega) (by omega)
              rw [hWi] at st
              exact st
            have bad : ¬ zv_wc B a b left → W = i := fun q => by rw [if_neg q] at g5; exact g5.symm
            refine zz_Es (fun n => e_174_37 _ _ _ _ _ _ _) ?_
            refine zz_Ec (fun n => by rw [zr_131_5 hL, zo_rf, za_137 hL hkk.1 hkk.2, e7]) ?_
            refine zz_Ei (fun g => absurd g (by rw [zz_le (by omega) (by omega) (by omega) (by omega)]; exact hi)) (fun _ => ?_)
            refine zz_Ei (fun _ => ?_) (fun g => absurd rfl g)
            refine zz_Ec (fun n => by rw [zr_131_5 hL, zo_rf, za_137 hL hkk.1 hkk.2, e7, zz_add (a := i) (b := 1)]) ?_
            refine zz_Ei (fun g => absurd (zt_eq (by omega) (by omega) (by omega) (by omega) g) hi1) (fun _ => ?_)
            refine zz_Ec (fun n => by rw [zr_131_6 hL, zo_rf, zz_mul, zz_add (a := 100 * k) (b := i), za_138 hL (by omega) (by omega), eA, zr_131_6 hL, zo_rf, zz_add (a := 100 * k + i) (b := 1), za_138 hL (by omega) (by omega), eB, zi_131 hL, r136a, zo_rI]) ?_
            refine zz_Ei (fun g => zz_Ec (fun n => by rw [zz_add]) (ist J2 B _ (bad (fun q => ?_)) g1 g2 g4)) (fun ga => ?_)
            · rw [zz_0, zz_be0] at g
              exact g q.1.1
            rw [zz_0, zz_be0] at ga
            have ga := Classical.not_not.mp ga
            refine zz_Ec (fun n => by rw [zi_131 hL, r136b, zo_rI]) ?_
            refine zz_Ei (fun g => zz_Ec (fun n => by rw [zz_add]) (ist J2 B _ (bad (fun q => ?_)) g1 g2 g4)) (fun gb => ?_)
            · rw [zz_0, zz_be0] at g
              exact g q.1.2.1
            rw [zz_0, zz_be0] at gb
            have gb := Classical.not_not.mp gb
            have hhb := zz_hh_b g3 ga.1 ga.2 gb.1 gb.2
            have r164 := r_164 (T := T) (J := J2) (R := R) (G := G) (d := d - 1) (Y := Y) (a := a) (b := b) (by omega) hL g3' ga.1 (by rw [g2]; exact ga.2) gb.1 (by rw [g2]; exact gb.2)
            have r165 := r_165 (T := T) (J := J2) (R := R) (G := G) (d := d - 1) (Y := Y) (a := a) (b := b) (by omega) hL g3' ga.1 (by rw [g2]; exact ga.2) gb.1 (by rw [g2]; exact gb.2)
            rw [g2] at r164 r165
            refine zz_Ec (fun n => by rw [zi_131 hL, r164, zo_rI]) ?_
            refine zz_Ei (fun g => zz_Ec (fun n => by rw [zz_add]) (ist J2 B _ (bad (fun q => ?_)) g1 g2 g4)) (fun hm => ?_)
            · rw [zz_0, zz_be0] at g
              exact g q.1.2.2
            rw [zz_0, zz_be0] at hm
            have hm := Classical.not_not.mp hm
            have r166 := r_166 (T := T) (J := J2) (R := R) (G := G) (d := d - 1) (a := a) (b := b) (by omega) hL hm.1 ga.1 (by omega) gb.1 (by omega)
            rw [g2] at r166
            obtain ⟨M, hMd⟩ : ∃ M, M = zz_w J2 132 (zz_mv B a b) := ⟨_, rfl⟩
            rw [← hMd] at r166
            have m132 : M 132 = zz_mv B a b := by rw [hMd, zw_s]
            have mwf : zq_wf J1 M := by rw [hMd]; exact zq_wf_w g1
            have mok : zz_ok Y (zz_mv B a b) := zz_mh_ok g3 ga.1 ga.2 gb.1 gb.2 hm
            have mo : ∀ y, (y < 8 ∨ 24 ≤ y) → zz_mv B a b y = A y := fun y hy => by
              rw [zz_mv_o (by omega) (by omega)]
              exact g4 y hy
            refine zz_Ec (fun n => by rw [zi_131 hL, r165, zo_rI]) ?_
            refine zz_Ei (fun hl => ?_) (fun g => zz_Ec (fun n => by rw [zz_add]) (ist J2 B _ (bad (fun q => ?_)) g1 g2 g4))
            rotate_left
            · rw [zz_le (by omega) (by omega) (by omega) (by omega)] at g
              exact g q.2
            rw [zz_le (by omega) (by omega) (by omega) (by omega)] at hl
            rw [if_pos (show zv_wc B a b left from ⟨⟨ga, gb, hm⟩, hl⟩)] at g5
            refine zz_Ec (fun n => by rw [zi_131 hL, r165, zo_rI, zi_131 hL, r166, zo_rV]) ?_
            rcases hμ with ⟨rfl, hlA⟩ | ⟨rfl, hlA⟩
            · refine zz_Ei (fun g => absurd (zt_eq (by omega) (by omega) (by omega) (by omega) (g.trans zz_0)) (by omega)) (fun _ => ?_)
              have r154 := r_154 (T := T) (J := M) (R := R) (G := G) (d := d - 1) (Y := Y) hL (by rw [m132]; exact mok) (s142 M mwf) (by omega)
              rw [m132] at r154
              obtain ⟨P, hPd⟩ : ∃ P, P = zz_fm M (zz_stn (zz_mv B a b)) (zz_mk (zz_way (zz_mv B a b)) 0) := ⟨_, rfl⟩
              rw [← hPd] at r154
              have pwf : zq_wf J1 P := by rw [hPd]; exact zq_wf_m mwf
              have p132 : P 132 = zz_mv B a b := by rw [hPd, ← m132]; funext y; exact zz_fm_a (by omega)
              refine zz_Ec (fun n => by rw [zi_131 hL, r154, zo_rI]) ?_
              refine zz_Ei (fun g => zz_Ec (fun n => by rw [zz_add]) (ist P _ _ ?_ pwf p132 mo)) (fun g => zz_Ec (fun n => by rw [zz_add, zz_sub]) (ih (zz_mv B a b) (i + 2) (left - zz_hh B a b) P (by omega) (by omega) (by omega) (by omega) (by omega) pwf p132 mok mo ?_))
              · rw [zz_0, zz_be0] at g
                rw [if_pos ⟨hlA, g⟩] at g5
                exact g5.symm
              · rw [zz_0, zz_be0] at g
                rw [if_neg (fun q => g q.2)] at g5
                exact g5
            · refine zz_Ei (fun _ => zz_Ec (fun n => by rw [zz_add, zz_sub]) (ih (zz_mv B a b) (i + 2) (left - zz_hh B a b) M (by omega) (by omega) (by omega) (by omega) (by omega) mwf m132 mok mo ?_)) (fun g => absurd zz_0.symm g)
              rw [if_neg (fun q => hlA q.1)] at g5
              exact g5
    have r154 := r_154 (T := T) (J := J1) (R := R) (G := G) (d := d - 1) (Y := Y) hL (by rw [e132]; exact hA) (by rw [f1 142 (by omega)]; exact hBc) (by omega)
    rw [e132] at r154
    obtain ⟨P, hPd⟩ : ∃ P, P = zz_fm J1 (zz_stn A) (zz_mk (zz_way A) 0) := ⟨_, rfl⟩
    rw [← hPd] at r154
    have pwf : zq_wf J1 P := by rw [hPd]; exact zq_wf_m ⟨fun _ _ _ => rfl, fun _ _ _ => rfl⟩
    have p132 : P 132 = A := by rw [hPd, ← e132]; funext y; exact zz_fm_a (by omega)
    have p2 : P 132 2 = A 2 := by rw [p132]
    simp (maxSteps := 5000000) (disch := first | assumption | omega) only [zi_131, r151, r175, r154, zo_rI, zo_rV, zo_rf, zr_131_0, za_132, p2, zz_0, if_true]
    try (refine zz_Ei (fun _ => ?_) (fun h => absurd trivial h))
    by_cases hls : zz_ls A
    · rw [zz_b_t hls]
      exact key 1 (Or.inl ⟨rfl, hls⟩) 51 A 0 (A 2) P (by omega) (by omega) hs.1 (by omega) (by omega) pwf p132 hA (fun _ _ => rfl) hW
    · rw [zz_b_f hls]
      exact key 0 (Or.inr ⟨rfl, hls⟩) 51 A 0 (A 2) P (by omega) (by omega) hs.1 (by omega) (by omega) pwf p132 hA (fun _ _ => rfl) hW
  · refine ⟨zv_wr J k 0, J, ?_, ⟨fun _ _ _ _ => rfl, rfl⟩, rfl, Or.inl ⟨hw, rfl⟩⟩
    obtain ⟨w, hw'⟩ : ∃ w, w = zv_wr J k 0 := ⟨_, rfl⟩
    rw [← hw'] at r151 hwb hw ⊢
    refine zz_c (zz_call (by omega) t_174 rfl (fun n => e_174 _ _ _) ?_)
    simp (maxSteps := 5000000) (disch := first | assumption | omega) only [zi_131, r151, zo_rI, zz_0, zz_eq]
    refine zz_Ei (fun h => absurd h hw) (fun _ => zz_Er rfl)
end ZRWK
