/-! PURE LAYER, 90: texts: the class's two passes -/
theorem zt_up {R : Nat → Nat → Option Nat} {a b x k : Nat} {o : Option Nat} (h : ¬ (x = a ∧ k = b)) : mv_up R a b o x k = R x k := by
  unfold mv_up
  by_cases q1 : x = a
  · rw [if_pos q1, if_neg (fun q2 => h ⟨q1, q2⟩)]
  · rw [if_neg q1]
theorem zt_us {R : Nat → Nat → Option Nat} {a b : Nat} {o : Option Nat} : mv_up R a b o a b = o := by
  unfold mv_up
  rw [if_pos rfl, if_pos rfl]
theorem ZL_70 {T : List mv_T} {R : Nat → Nat → Option Nat} {o : Option Nat} (h : ZL T R) : ZL T (mv_up R 70 0 o) := ZL_R h (fun x k _ _ _ _ x5 => zt_up (fun g => x5 ⟨g.2, Or.inl g.1⟩))
section ZPAC
variable {T : List mv_T} {J : Nat → Int → Int} {R : Nat → Nat → Option Nat} {G : Nat → Nat → Int64} {d p q : Nat} {Y : Int} {A : Int → Int} {B : Int → Int} {N : Int}
theorem c_76 {n : Int} (hd : 1 ≤ d) (hL : ZL T R) (hq : Shf q) (hn : 0 ≤ n ∧ n ≤ 100) : mv_cax d 76 [.inr (.inr (some 70)), .inr (.inr (some (q + 1))), .inl (mv_c n)] (zz_S T J R G) = some (none, zz_S T (zz_u J 70 1 n) (mv_up R 70 0 (some (q + 1))) G) := by
  have hL' := ZL_70 (o := some (q + 1)) hL
  refine zz_c (zz_call (by omega) t_76 rfl (fun n => e_76 _ _ _ _) ?_)
  simp (maxSteps := 5000000) (disch := first | assumption | omega) only [zq_70_0, zl_H, zz_min, zp_70_1]
  have e : min n 100 = n := by omega
  first
    | exact zz_Er rfl
    | (rw [e]; exact zz_Er rfl)
    | (rw [if_pos (by omega)]; exact zz_Er rfl)
theorem c_77l {Q : Option mv_V × mv_S → Prop} (hd : 4 ≤ d) (hL : ZL T R) : ∀ (m : Nat) (J : Nat → Int → Int) (i n : Int), zt_tx R J q B N → J 70 2 = i → 0 ≤ i → i ≤ N → 0 ≤ n → n ≤ i → (n = 0 ∨ i < N) → N - i < m → (∀ J', (∀ x, x ≠ 70 → x ≠ 72 → J' x = J x) → J' 70 1 = J 70 1 → Q (some (.inl (mv_c (if 0 ≤ zt_p1 B N m i n then 0 else zt_p1 B N m i n))), zz_S T J' R G)) → zz_E (fun n' => mv_run (mv_cax d) mm_77 n' 7 [(0, .inr (.inr (some 70))), (1, .inl (mv_c n))] [] (zz_S T J R G)) Q
  | 0, J, i, n, ht, hi, i0, i1, n0, n1, hz, hm, fin => by omega
  | m + 1, J, i, n, ht, hi, i0, i1, n0, n1, hz, hm, fin => by
    have hN := ht.2.2.2.1
    have hJ1 := ht.2.2.1
    obtain ⟨J2, c80, tm⟩ := c_80 (T := T) (G := G) (d := d) hd hL ht hi i0 i1
    have e : zt_p1 B N (m + 1) i n = if (zt_sm B N i).1 = true then (if (zt_sm B N i).2.1 < N then zt_p1 B N m (zt_sm B N i).2.1 (n + 1) else n + 1) else -1000 - (zt_sm B N i).2.1 := rfl
    rw [e] at fin
    have hs := zt_sm_i (B := B) i1
    have j2 : J2 70 2 = (zt_sm B N i).2.1 := tm.2.2.1
    have j1 : J2 70 1 = N := by rw [tm.2.1 1 (by omega) (by omega)]; exact hJ1
    by_cases c : (zt_sm B N i).1 = true
    · have hr := zt_sm_r c
      rw [if_pos c] at fin c80
      have ht2 : zt_tx R J2 q B N := zt_tx_f ht (tm.2.1 1 (by omega) (by omega)) (tm.1 (q + 1) (by have h0 := ht.1; unfold Shf at h0; omega) (by have h0 := ht.1; unfold Shf at h0; omega))
      have nxt : zz_E (fun n' => mv_run (mv_cax d) mm_77 n' 7 [(0, .inr (.inr (some 70))), (1, .inl (mv_c (n + 1)))] [] (zz_S T J2 R G)) Q := by
        by_cases c2 : (zt_sm B N i).2.1 < N
        · rw [if_pos c2] at fin
          exact c_77l hd hL m J2 (zt_sm B N i).2.1 (n + 1) ht2 j2 (by omega) (by omega) (by omega) (by omega) (Or.inr c2) (by omega) (fun J' k1 k2 => fin J' (fun x x1 x2 => by rw [k1 x x1 x2, tm.1 x x1 x2]) (by rw [k2, j1, hJ1]))
        · rw [if_neg c2, if_pos (by omega)] at fin
          have done := fin J2 tm.1 (by rw [j1, hJ1])
          refine zz_Es (fun n => e_77_7 _ _ _) ?_
          simp (maxSteps := 5000000) (disch := first | assumption | omega) only [zz_0, zz_eq, zg_70_1, zg_70_2, j1, j2, zz_le]
          refine zz_Ei (fun h => absurd h (by omega)) (fun _ => ?_)
          refine zz_Ei (fun _ => zz_Er done) (fun _ => ?_)
          refine zz_Ei (fun _ => zz_Er done) (fun h => absurd (by omega) h)
      refine zz_Es (fun n => e_77_7 _ _ _) ?_
      simp (maxSteps := 5000000) (disch := first | assumption | omega) only [zz_0, zz_eq, zg_70_1, zg_70_2, hJ1, hi, zz_le, zi_70, c80, zo_rI, zz_add]
      refine zz_Ei (fun h => ?_) (fun h => ?_)
      · try (refine zz_Ei (fun h => absurd (show (1 : Int) = 0 from h) (by omega)) (fun _ => ?_))
        exact nxt
      · refine zz_Ei (fun g => absurd g (by omega)) (fun _ => ?_)
        refine zz_Ei (fun g => absurd g (by omega)) (fun _ => ?_)
        try (refine zz_Ei (fun h => absurd (show (1 : Int) = 0 from h) (by omega)) (fun _ => ?_))
        exact nxt
    · rw [if_neg c] at fin c80
      rw [if_neg (by omega)] at fin
      have done := fin J2 tm.1 (by rw [j1, hJ1])
      refine zz_Es (fun n => e_77_7 _ _ _) ?_
      simp (maxSteps := 5000000) (disch := first | assumption | omega) only [zz_0, zz_eq, zg_70_1, zg_70_2, hJ1, hi, j2, zz_le, zi_70, c80, zo_rI, zz_add, zz_sub, if_true]
      refine zz_Ei (fun h => zz_Er done) (fun h => ?_)
      refine zz_Ei (fun g => absurd g (by omega)) (fun _ => ?_)
      refine zz_Ei (fun g => absurd g (by omega)) (fun _ => zz_Er done)
theorem c_77 (hd : 5 ≤ d) (hL : ZL T R) (ht : zt_tx R J q B N) : ∃ J', mv_cax d 77 [.inr (.inr (some 70))] (zz_S T J R G) = some (some (.inl (mv_c (if 0 ≤ zt_p1 B N 101 0 0 then 0 else zt_p1 B N 101 0 0))), zz_S T J' R G) ∧ (∀ x, x ≠ 70 → x ≠ 72 → J' x = J x) ∧ J' 70 1 = J 70 1 := by
  have hN := ht.2.2.2.1
  suffices h : ∃ r, mv_cax d 77 [.inr (.inr (some 70))] (zz_S T J R G) = some r ∧ ∃ J', r = (some (.inl (mv_c (if 0 ≤ zt_p1 B N 101 0 0 then 0 else zt_p1 B N 101 0 0))), zz_S T J' R G) ∧ (∀ x, x ≠ 70 → x ≠ 72 → J' x = J x) ∧ J' 70 1 = J 70 1 by
    obtain ⟨r, h1, J', rfl, h2⟩ := h
    exact ⟨J', h1, h2⟩
  have ht' : zt_tx R (zz_u J 70 2 0) q B N := zt_tx_f ht (zu_k (by omega)) (zu_A (by have h0 := ht.1; unfold Shf at h0; omega))
  refine zz_call (by omega) t_77 rfl (fun n => e_77 _ _) ?_
  simp (maxSteps := 5000000) (disch := first | assumption | omega) only [zp_70_2]
  exact c_77l (q := q) (B := B) (N := N) (by omega) hL 101 (zz_u J 70 2 0) 0 0 ht' zu_s (by omega) (by omega) (by omega) (by omega) (Or.inl rfl) (by omega) (fun J' k1 k2 => ⟨J', rfl, fun x x1 x2 => by rw [k1 x x1 x2, zu_A x1], by rw [k2, zu_k (by omega)]⟩)
theorem c_78l {Q : Option mv_V × mv_S → Prop} (hd : 4 ≤ d) (hp : Lnd p) : ∀ (m : Nat) (T : List mv_T) (R : Nat → Nat → Option Nat) (J : Nat → Int → Int) (A : Int → Int) (i n : Int), ZL T R → zt_tx R J q B N → J 70 2 = i → 0 ≤ i → i ≤ N → 0 ≤ n → n ≤ i → zz_ok Y A → zt_hb A → zc_rep T R J p A → zk_raw T R J p → (i < N → N - i < m ∧ 0 ≤ zt_p1 B N m i n) → (∀ T' R' J', zc_rep T' R' J' p (zt_p2 B N m i A n).2 → zk_raw T' R' J' p → ZL T' R' → zt_gx p T T' R R' J J' → (T'.length : Int) + A 7 = T.length + (zt_p2 B N m i A n).2 7 → Q (some (.inl (mv_c (zt_p2 B N m i A n).1)), zz_S T' J' R' G)) → zz_E (fun n' => mv_run (mv_cax d) mm_78 n' 7 [(0, .inr (.inr (some 70))), (1, .inr (.inr (some p))), (2, .inl (mv_c n))] [] (zz_S T J R G)) Q
  | m, T, R, J, A, i, n, hL, ht, hi, i0, i1, n0, n1, hA, hb, hR, hraw, hm, fin => by
    have hN := ht.2.2.2.1
    have hJ1 := ht.2.2.1
    obtain ⟨h156, _⟩ := ZL_n hL
    by_cases c : i < N
    · obtain ⟨hm1, hm2⟩ := hm c
      cases m with
      | zero => omega
      | succ m =>
        obtain ⟨k1, k2, k3⟩ := zt_p1_s ⟨i0, i1⟩ hm2
        have hr := zt_sm_r k1
        obtain ⟨J2, c80, tm⟩ := c_80 (T := T) (G := G) (d := d) hd hL ht hi i0 i1
        rw [if_pos k1] at c80
        have hpl : p + 12 < 70 := by rcases hp with rfl | rfl | rfl | rfl <;> omega
        have h0 := ht.1
        have hq : q + 1 ≤ 130 ∧ 115 ≤ q := by
          unfold Shf at h0
          omega
        have h70 := ht.2.1
        have hby := (ht.2.2.2.2 i i0 c).1
        have hby2 : J2 (q + 1) i = B i := by rw [tm.1 (q + 1) (by omega) (by omega)]; exact hby
        have hR2 : zc_rep T R J2 p A := zc_rep_f hR (fun x hx => tm.1 x (by omega) (by omega))
        have hraw2 : zk_raw T R J2 p := ⟨fun y y0 y1 => by rw [tm.1 (p + 6) (by omega) (by omega)]; exact hraw.1 y y0 y1, hraw.2⟩
        have ht2 : zt_tx R J2 q B N := zt_tx_f ht (tm.2.1 1 (by omega) (by omega)) (tm.1 (q + 1) (by omega) (by omega))
        have gx1 : zt_gx p T T R R J J2 := zt_gx_m tm
        refine zz_Es (fun n => e_78_7 _ _ _ _) ?_
        rcases c_84 (G := G) (d := d) hd hL hp hA hR2 hraw2 hr.2.1 hr.2.2.2.2 tm.2.2.2.2 with ⟨ha, c84⟩ | ⟨A', T3, R3, J3, ha, c84, q1, q2, q3, q4, q5⟩
        · rw [zt_p2_0 c ha] at fin
          have done := fin T R J2 hR2 hraw2 hL gx1 rfl
          simp (maxSteps := 5000000) (disch := first | assumption | omega) only [zg_70_1, zg_70_2, hJ1, hi, zz_le, zi_70, c80, zo_rI, zr_70_0, h70, zo_rf, za_H, hby2, c84, zz_0, zz_sub, if_true]
          refine zz_Ei (fun g => absurd g (by omega)) (fun _ => ?_)
          refine zz_Ei (fun g => absurd g (by omega)) (fun _ => ?_)
          try (refine zz_Ei (fun h => absurd (show (1 : Int) = 0 from h) (by omega)) (fun _ => ?_))
          first
            | exact zz_Er done
            | (refine zz_Ei (fun _ => zz_Er done) (fun h => absurd rfl h))
        · obtain ⟨a1, a2, a3⟩ := zt_act_ok hA hb hr.2.1 hr.2.2.2.2 ha
          rw [zt_p2_1 c ha] at fin
          have gx2 : zt_gx p T T3 R R3 J J3 := zt_gx_t gx1 (zt_gx_w hp h156 q4)
          have j3 : J3 70 2 = (zt_sm B N i).2.1 := by rw [q4.2.1 70 (by omega) (by omega)]; exact tm.2.2.1
          simp (maxSteps := 5000000) (disch := first | assumption | omega) only [zg_70_1, zg_70_2, hJ1, hi, zz_le, zi_70, c80, zo_rI, zr_70_0, h70, zo_rf, za_H, hby2, c84, zz_0, zz_add]
          refine zz_Ei (fun g => absurd g (by omega)) (fun _ => ?_)
          refine zz_Ei (fun g => absurd g (by omega)) (fun _ => ?_)
          try (refine zz_Ei (fun h => absurd (show (1 : Int) = 0 from h) (by omega)) (fun _ => ?_))
          try (refine zz_Ei (fun h => absurd (show (1 : Int) = 0 from h) (by omega)) (fun _ => ?_))
          exact c_78l hd hp m T3 R3 J3 A' (zt_sm B N i).2.1 (n + 1) q3 (zt_tx_x hp h156 ht gx2) j3 (by omega) (by omega) (by omega) (by omega) a1 a2 q1 q2 (fun g => ⟨by omega, by rw [k2 g] at hm2; exact hm2⟩) (fun T' R' J' z1 z2 z3 z4 z5 => fin T' R' J' z1 z2 z3 (zt_gx_t gx2 z4) (by omega))
    · rw [zt_p2_n c] at fin
      have done := fin T R J hR hraw hL zt_gx_r rfl
      refine zz_Es (fun n => e_78_7 _ _ _ _) ?_
      simp (maxSteps := 5000000) (disch := first | assumption | omega) only [zg_70_1, zg_70_2, hJ1, hi, zz_le]
      refine zz_Ei (fun _ => zz_Er done) (fun g => absurd (by omega) g)
  termination_by m => m
theorem c_78 (hd : 5 ≤ d) (hp : Lnd p) (hL : ZL T R) (ht : zt_tx R J q B N) (hA : zz_ok Y A) (hb : zt_hb A) (hR : zc_rep T R J p A) (hraw : zk_raw T R J p) (h0 : 0 < N) (h1 : 0 ≤ zt_p1 B N 101 0 0) : ∃ T' R' J', mv_cax d 78 [.inr (.inr (some 70)), .inr (.inr (some p))] (zz_S T J R G) = some (some (.inl (mv_c (zt_p2 B N 101 0 A 0).1)), zz_S T' J' R' G) ∧ zc_rep T' R' J' p (zt_p2 B N 101 0 A 0).2 ∧ zk_raw T' R' J' p ∧ ZL T' R' ∧ zt_gx p T T' R R' J J' ∧ (T'.length : Int) + A 7 = T.length + (zt_p2 B N 101 0 A 0).2 7 := by
  have hN := ht.2.2.2.1
  suffices h : ∃ r, mv_cax d 78 [.inr (.inr (some 70)), .inr (.inr (some p))] (zz_S T J R G) = some r ∧ ∃ T' R' J', r = (some (.inl (mv_c (zt_p2 B N 101 0 A 0).1)), zz_S T' J' R' G) ∧ zc_rep T' R' J' p (zt_p2 B N 101 0 A 0).2 ∧ zk_raw T' R' J' p ∧ ZL T' R' ∧ zt_gx p T T' R R' J J' ∧ (T'.length : Int) + A 7 = T.length + (zt_p2 B N 101 0 A 0).2 7 by
    obtain ⟨r, h1, T', R', J', rfl, h2⟩ := h
    exact ⟨T', R', J', h1, h2⟩
  have hpl : p + 12 < 70 := by rcases hp with rfl | rfl | rfl | rfl <;> omega
  have hf : ∀ x, x ≠ 70 → zz_u J 70 2 0 x = J x := fun x hx => zu_A hx
  have ht' : zt_tx R (zz_u J 70 2 0) q B N := zt_tx_f ht (zu_k (by omega)) (hf _ (by have h0 := ht.1; unfold Shf at h0; omega))
  have gx : zt_gx p T T R R J (zz_u J 70 2 0) := ⟨⟨0, (List.append_nil T).symm⟩, fun x _ _ x3 _ => hf x x3, fun _ _ _ _ => rfl, zu_k (by omega)⟩
  refine zz_call (by omega) t_78 rfl (fun n => e_78 _ _ _) ?_
  simp (maxSteps := 5000000) (disch := first | assumption | omega) only [zp_70_2]
  exact c_78l (q := q) (B := B) (N := N) (Y := Y) (by omega) hp 101 T R (zz_u J 70 2 0) A 0 0 hL ht' zu_s (by omega) (by omega) (by omega) (by omega) hA hb (zc_rep_f hR (fun x hx => hf x (by omega))) ⟨fun y y0 y1 => by rw [hf (p + 6) (by omega)]; exact hraw.1 y y0 y1, hraw.2⟩ (fun _ => ⟨by omega, h1⟩) (fun T' R' J' z1 z2 z3 z4 z5 => ⟨T', R', J', rfl, z1, z2, z3, zt_gx_t gx z4, z5⟩)
end ZPAC
