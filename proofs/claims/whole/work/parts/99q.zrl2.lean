/-! PURE LAYER, 96: texts: the reference's land -/
def zt_rq (J J' : Nat → Int → Int) : Prop := (∀ x, x ≠ 131 → x ≠ 134 → x ≠ 141 → J' x = J x) ∧ ∀ y, y ≠ 11 → y ≠ 14 → J' 131 y = J 131 y
theorem zt_rq_t {J J1 J2 : Nat → Int → Int} (h : zt_rq J J1) (h' : zt_rq J1 J2) : zt_rq J J2 := ⟨fun x x1 x2 x3 => by rw [h'.1 x x1 x2 x3, h.1 x x1 x2 x3], fun y y1 y2 => by rw [h'.2 y y1 y2, h.2 y y1 y2]⟩
section ZRL2
variable {T : List mv_T} {J : Nat → Int → Int} {R : Nat → Nat → Option Nat} {G : Nat → Nat → Int64} {d : Nat} {Y : Int} {B : Int → Int} {N k : Int}
theorem zt_rx_q {J' : Nat → Int → Int} (h : zt_rx J k B N) (g : zt_rq J J') : zt_rx J' k B N := by
  unfold zt_rx at h ⊢
  rw [g.2 12 (by omega) (by omega), g.2 13 (by omega) (by omega), g.1 138 (by omega) (by omega) (by omega)]
  exact h
theorem r_152c {Q : Option mv_V × mv_S → Prop} {v : Int} (hL : ZL T R) (nx : zz_E (fun n' => mv_run (mv_cax d) mm_152 n' 104 [(0, .inr (.inr (some 131))), (3, .inl (mv_c v))] [] (zz_S T (zz_u (zz_w J 134 (zz_c130 (J 132) (J 134))) 131 11 0) R G)) Q) : zz_E (fun n' => mv_run (mv_cax d) mm_152 n' 71 [(0, .inr (.inr (some 131))), (3, .inl (mv_c v)), (4, .inl (mv_c 0))] [] (zz_S T J R G)) Q := by
  have e0 : J = zz_w J 134 (J 134) := zw_i.symm
  have l := zz_loop (run := fun k O n => mv_run (mv_cax d) mm_152 n 71 [(0, .inr (.inr (some 131))), (3, .inl (mv_c v)), (4, .inl (mv_c k))] [] (zz_S T (zz_w J 134 O) R G)) (Q := Q) 130 (fun k O => 0 ≤ k ∧ ∀ y, O y = if 0 ≤ y ∧ y < k then J 132 y else J 134 y) ?_ ?_ 130 0 (J 134) rfl ⟨by omega, fun y => by rw [if_neg (by omega)]⟩
  · rw [← e0] at l
    exact l
  · rintro k O ⟨hk, hO⟩ hlt kk
    refine zz_Es (fun n => e_152_71 _ _ _ _) ?_
    simp (maxSteps := 5000000) (disch := first | assumption | omega) only [zz_le, zr_131_2, zr_131_0, zo_rf, za_132, zs_134, zz_add, zz_wu, zw_n, zw_s]
    refine zz_Ei (fun h => absurd h (by omega)) (fun _ => ?_)
    exact kk (zz_f O k (J 132 k)) ⟨by omega, zz_c130s hk hO⟩
  · rintro O ⟨_, hO⟩
    refine zz_Es (fun n => e_152_71 _ _ _ _) ?_
    simp (maxSteps := 5000000) (disch := first | assumption | omega) only [zz_le, zp_131_11]
    refine zz_Ei (fun _ => ?_) (fun h => absurd (Int.le_refl _) h)
    have : O = zz_c130 (J 132) (J 134) := funext hO
    rw [this]
    exact nx
theorem r_152d {Q : Option mv_V × mv_S → Prop} {v : Int} (hL : ZL T R) (fin : Q (some (.inl (mv_c v)), zz_S T (zz_w J 132 (zz_c130 (J 134) (J 132))) R G)) : zz_E (fun n' => mv_run (mv_cax d) mm_152 n' 155 [(0, .inr (.inr (some 131))), (3, .inl (mv_c v)), (4, .inl (mv_c 0))] [] (zz_S T J R G)) Q := by
  have e0 : J = zz_w J 132 (J 132) := zw_i.symm
  have l := zz_loop (run := fun k O n => mv_run (mv_cax d) mm_152 n 155 [(0, .inr (.inr (some 131))), (3, .inl (mv_c v)), (4, .inl (mv_c k))] [] (zz_S T (zz_w J 132 O) R G)) (Q := Q) 130 (fun k O => 0 ≤ k ∧ ∀ y, O y = if 0 ≤ y ∧ y < k then J 134 y else J 132 y) ?_ ?_ 130 0 (J 132) rfl ⟨by omega, fun y => by rw [if_neg (by omega)]⟩
  · rw [← e0] at l
    exact l
  · rintro k O ⟨hk, hO⟩ hlt kk
    refine zz_Es (fun n => e_152_155 _ _ _ _) ?_
    simp (maxSteps := 5000000) (disch := first | assumption | omega) only [zz_le, zr_131_2, zr_131_0, zo_rf, za_134, zs_132, zz_add, zz_wu, zw_n, zw_s]
    refine zz_Ei (fun h => absurd h (by omega)) (fun _ => ?_)
    exact kk (zz_f O k (J 134 k)) ⟨by omega, zz_c130s hk hO⟩
  · rintro O ⟨_, hO⟩
    refine zz_Es (fun n => e_152_155 _ _ _ _) ?_
    simp (maxSteps := 5000000) (disch := first | assumption | omega) only [zz_le]
    refine zz_Ei (fun _ => ?_) (fun h => absurd (Int.le_refl _) h)
    have : O = zz_c130 (J 134) (J 132) := funext hO
    rw [this]
    exact zz_Er fin
theorem r_152b {Q : Option mv_V × mv_S → Prop} {v : Int} (hd : 5 ≤ d) (hL : ZL T R) : ∀ (m : Nat) (J : Nat → Int → Int) (i n : Int), zt_rx J k B N → J 131 11 = i → 0 ≤ i → i ≤ N → 0 ≤ n → zz_ok Y (J 134) → zt_hb (J 134) → (i < N → N - i < m ∧ 0 ≤ zt_p1 B N m i n) → (∀ J', zt_rq J J' → (zt_p2 B N m i (J 134) n).1 < 0 → Q (some (.inl (mv_c (zt_p2 B N m i (J 134) n).1)), zz_S T J' R G)) → (∀ J', zt_rq J J' → 0 ≤ (zt_p2 B N m i (J 134) n).1 → J' 134 = (zt_p2 B N m i (J 134) n).2 → zz_E (fun n' => mv_run (mv_cax d) mm_152 n' 155 [(0, .inr (.inr (some 131))), (3, .inl (mv_c v)), (4, .inl (mv_c 0))] [] (zz_S T J' R G)) Q) → zz_E (fun n' => mv_run (mv_cax d) mm_152 n' 104 [(0, .inr (.inr (some 131))), (3, .inl (mv_c v))] [] (zz_S T J R G)) Q
  | m, J, i, n, ht, hi, i0, i1, n0, hA, hb, hm, bad, good => by
    have hN := ht.2.2.2.1
    have h13 := ht.2.2.1
    by_cases c : i < N
    · obtain ⟨hm1, hm2⟩ := hm c
      cases m with
      | zero => omega
      | succ m =>
        obtain ⟨k1, k2, k3⟩ := zt_p1_s ⟨i0, i1⟩ hm2
        have hr := zt_sm_r k1
        have r144 := r_144 (T := T) (J := J) (R := R) (G := G) (d := d) (by omega) hL ht hi i0 i1
        rw [if_pos c] at r144
        obtain ⟨J2, r148, tm⟩ := r_148 (T := T) (J := J) (R := R) (G := G) (d := d) hd hL ht hi i0 i1
        have j134 : J2 134 = J 134 := tm.1 134 (by omega) (by omega)
        have rq1 : zt_rq J J2 := ⟨fun x x1 _ x3 => tm.1 x x1 x3, tm.2.1⟩
        have hA2 : zz_ok Y (J2 134) := by rw [j134]; exact hA
        refine zz_Es (fun n => e_152_104 _ _ _) ?_
        rcases r_150 (T := T) (J := J2) (R := R) (G := G) (d := d) (by omega) hL hA2 hr.2.1 hr.2.2.2.2 tm.2.2.2.2 with ⟨ha, O, r150⟩ | ⟨A', ha, r150⟩
        · rw [j134] at ha
          rw [zt_p2_0 c ha] at bad
          have done := bad (zz_w J2 134 O) (zt_rq_t rq1 ⟨fun x _ x2 _ => zw_n x2, fun y _ _ => by rw [zw_n (by omega)]⟩) (by show -2000 - i < 0; omega)
          simp (maxSteps := 5000000) (disch := first | assumption | omega) only [zg_131_11, zg_131_13, hi, h13, zz_le, zi_131, r144, r148, r150, zo_rI, zz_0, zz_sub, if_true]
          refine zz_Ei (fun h => absurd h (by omega)) (fun _ => ?_)
          try (refine zz_Ei (fun _ => ?_) (fun h => absurd trivial h))
          exact zz_Er done
        · rw [j134] at ha
          obtain ⟨a1, a2, a3⟩ := zt_act_ok hA hb hr.2.1 hr.2.2.2.2 ha
          rw [zt_p2_1 c ha] at bad good
          have rq2 : zt_rq J (zz_w J2 134 A') := zt_rq_t rq1 ⟨fun x _ x2 _ => zw_n x2, fun y _ _ => by rw [zw_n (by omega)]⟩
          simp (maxSteps := 5000000) (disch := first | assumption | omega) only [zg_131_11, zg_131_13, hi, h13, zz_le, zi_131, r144, r148, r150, zo_rI, zz_0, zz_eq]
          refine zz_Ei (fun h => absurd h (by omega)) (fun _ => ?_)
          try (refine zz_Ei (fun h => absurd (show (1 : Int) = 0 from h) (by omega)) (fun _ => ?_))
          have ea : zz_w J2 134 A' 134 = A' := zw_s
          refine r_152b hd hL m (zz_w J2 134 A') (zt_sm B N i).2.1 (n + 1) (zt_rx_q ht rq2) (by rw [zw_n (by omega)]; exact tm.2.2.1) (by omega) (by omega) (by omega) (by rw [ea]; exact a1) (by rw [ea]; exact a2) (fun g => ⟨by omega, by rw [k2 g] at hm2; exact hm2⟩) ?_ ?_
          · rw [ea]
            exact fun J' z1 z2 => bad J' (zt_rq_t rq2 z1) z2
          · rw [ea]
            exact fun J' z1 z2 z3 => good J' (zt_rq_t rq2 z1) z2 z3
    · rw [zt_p2_n c] at good
      have nx := good J ⟨fun _ _ _ _ => rfl, fun _ _ _ => rfl⟩ n0 rfl
      refine zz_Es (fun n => e_152_104 _ _ _) ?_
      simp (maxSteps := 5000000) (disch := first | assumption | omega) only [zg_131_11, zg_131_13, hi, h13, zz_le]
      refine zz_Ei (fun _ => ?_) (fun h => absurd (by omega) h)
      exact nx
  termination_by m => m
end ZRL2
