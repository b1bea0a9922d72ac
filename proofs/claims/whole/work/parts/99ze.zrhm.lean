/-! PURE LAYER, 110: the reference's harm, blot -/
theorem zq_lst_a {A B ex : Int → Int} {K : Int} (h0 : B 0 = A 0) (h1 : B 1 = A 1) (h6 : B 6 = A 6) (h : zz_lst B ex K) : zz_lst A ex K := by
  unfold zz_lst zz_bad at h ⊢
  rw [h0, h1, h6] at h
  exact h
section ZRHM
variable {T : List mv_T} {J : Nat → Int → Int} {R : Nat → Nat → Option Nat} {G : Nat → Nat → Int64} {d : Nat} {Y : Int}
theorem r_201 {a b : Int} (hd : 4 ≤ d) (hL : ZL T R) (hA : zz_ok Y (J 132)) (h1 : -2147483648 ≤ a) (h2 : a ≤ 2147483647) (h3 : -2147483648 ≤ b) (h4 : b ≤ 2147483647) : mv_cax d 201 [.inr (.inr (some 131)), .inl (mv_c a), .inl (mv_c b)] (zz_S T J R G) = some (some (.inl (mv_c (zv_harm (J 132) a b))), (zz_S T J R G)) := by
  have hN := hA.n
  have ra := r_136 (T := T) (J := J) (R := R) (G := G) (d := d - 1) (c := a) (by omega) hL hA h1 h2
  have rb := r_136 (T := T) (J := J) (R := R) (G := G) (d := d - 1) (c := b) (by omega) hL hA h3 h4
  rcases zv_rf_c (J 132) a b with ⟨e, h⟩ | ⟨e, h, hm⟩ | ⟨e, h, hm⟩
  · have ev : zv_harm (J 132) a b = -1000000001 := by
      rw [zv_harm, if_neg (by omega), e]
      rfl
    rw [ev]
    refine zz_c (zz_call (by omega) t_201 rfl (fun n => e_201 _ _ _ _) ?_)
    simp (maxSteps := 5000000) (disch := first | assumption | omega) only [zi_131, ra, rb, zo_rI, zz_0]
    refine zz_Ei (fun _ => zz_Er rfl) (fun g1 => ?_)
    have g1 : 0 ≤ a ∧ a < J 132 0 * J 132 1 := Decidable.not_not.mp (by first | exact g1 | (rw [zz_be0] at g1; exact g1))
    refine zz_Ei (fun _ => zz_Er rfl) (fun g2 => ?_)
    have g2 : 0 ≤ b ∧ b < J 132 0 * J 132 1 := Decidable.not_not.mp (by first | exact g2 | (rw [zz_be0] at g2; exact g2))
    refine zz_Ei (fun _ => zz_Er rfl) (fun g3 => ?_)
    exact absurd ⟨g1, g2, fun q => g3 (by rw [q])⟩ h
  · have ev : zv_harm (J 132) a b = -1000000003 := by
      rw [zv_harm, if_neg (by omega), e]
      rfl
    rw [ev]
    have r164 := r_164 (T := T) (J := J) (R := R) (G := G) (d := d - 1) (a := a) (b := b) (by omega) hL hA h.1.1 h.1.2 h.2.1.1 h.2.1.2
    rw [zz_b_f hm] at r164
    refine zz_c (zz_call (by omega) t_201 rfl (fun n => e_201 _ _ _ _) ?_)
    simp (maxSteps := 5000000) (disch := first | assumption | omega) only [zi_131, ra, rb, r164, zo_rI, zz_0, if_true]
    refine zz_Ei (fun g => absurd h.1 (by first | exact g | (rw [zz_be0] at g; exact g))) (fun _ => ?_)
    refine zz_Ei (fun g => absurd h.2.1 (by first | exact g | (rw [zz_be0] at g; exact g))) (fun _ => ?_)
    refine zz_Ei (fun g => absurd (zt_eq h1 h2 h3 h4 g) h.2.2) (fun _ => ?_)
    first
      | exact zz_Er rfl
      | exact zz_Ei (fun _ => zz_Er rfl) (fun h => absurd trivial h)
      | exact zz_Ei (fun _ => zz_Er rfl) (fun h => absurd rfl h)
  · have ev : zv_harm (J 132) a b = zz_wa (J 132) (zz_H (J 132)) - zz_wa (zz_mv (J 132) a b) (zz_H (zz_mv (J 132) a b)) := if_pos e
    rw [ev]
    have r164 := r_164 (T := T) (J := J) (R := R) (G := G) (d := d - 1) (a := a) (b := b) (by omega) hL hA h.1.1 h.1.2 h.2.1.1 h.2.1.2
    rw [zz_b_t hm] at r164
    have hok : zz_ok Y (zz_mv (J 132) a b) := zz_mh_ok hA h.1.1 h.1.2 h.2.1.1 h.2.1.2 hm
    have r182 := r_182 (T := T) (J := J) (R := R) (G := G) (d := d - 1) (Y := Y) (by omega) hL hA
    have r166 := r_166 (T := T) (J := J) (R := R) (G := G) (d := d - 1) (a := a) (b := b) (by omega) hL h.2.2 h.1.1 (by omega) h.2.1.1 (by omega)
    have r182' := r_182 (T := T) (J := zz_w J 132 (zz_mv (J 132) a b)) (R := R) (G := G) (d := d - 1) (Y := Y) (by omega) hL (by rw [zw_s]; exact hok)
    have r166' := r_166 (T := T) (J := zz_w J 132 (zz_mv (J 132) a b)) (R := R) (G := G) (d := d - 1) (a := b) (b := a) (by omega) hL (fun q => h.2.2 q.symm) h.2.1.1 (by omega) h.1.1 (by omega)
    rw [zw_s, zz_mvb h.2.2, zw_w, zw_i] at r166'
    rw [zw_s] at r182'
    have wa := zz_wa_b (g := fun c => J 132 (8 + c)) hA
    refine zz_c (zz_call (by omega) t_201 rfl (fun n => e_201 _ _ _ _) ?_)
    simp (maxSteps := 5000000) (disch := first | assumption | omega) only [zi_131, ra, rb, r164, r182, r166, r182', r166', zo_rI, zo_rV, zz_0, zz_sub]
    refine zz_Ei (fun g => absurd h.1 (by first | exact g | (rw [zz_be0] at g; exact g))) (fun _ => ?_)
    refine zz_Ei (fun g => absurd h.2.1 (by first | exact g | (rw [zz_be0] at g; exact g))) (fun _ => ?_)
    refine zz_Ei (fun g => absurd (zt_eq h1 h2 h3 h4 g) h.2.2) (fun _ => ?_)
    refine zz_Ei (fun g => absurd (zt_eq (by omega) (by omega) (by omega) (by omega) g) (by omega)) (fun _ => ?_)
    exact zz_Er rfl
theorem r_200 {a b : Int} (hd : 7 ≤ d) (hL : ZL T R) (hA : zz_ok Y (J 132)) (h1 : -2147483648 ≤ a) (h2 : a ≤ 2147483647) (h3 : -2147483648 ≤ b) (h4 : b ≤ 2147483647) : ∃ v J', mv_cax d 200 [.inr (.inr (some 131)), .inl (mv_c a), .inl (mv_c b)] (zz_S T J R G) = some (some (.inl (mv_c v)), zz_S T J' R G) ∧ zz_pw J J' ∧ J' 132 = J 132 ∧ zv_blot (J 132) a b v := by
  have hN := hA.n
  have pw0 : zz_pw J J := ⟨fun _ _ _ _ => rfl, rfl⟩
  have ra := r_136 (T := T) (J := J) (R := R) (G := G) (d := d - 1) (c := a) (by omega) hL hA h1 h2
  have rb := r_136 (T := T) (J := J) (R := R) (G := G) (d := d - 1) (c := b) (by omega) hL hA h3 h4
  by_cases h : (0 ≤ a ∧ a < J 132 0 * J 132 1) ∧ (0 ≤ b ∧ b < J 132 0 * J 132 1) ∧ a ≠ b
  · have ta := r_199 (T := T) (J := J) (R := R) (G := G) (d := d - 1) (a := a) (by omega) hL hA h.1.1 h.1.2
    have tb := r_199 (T := T) (J := J) (R := R) (G := G) (d := d - 1) (a := b) (by omega) hL hA h.2.1.1 h.2.1.2
    have ca := hA.2.2.2.2.2.2.2.1 a h.1.1 h.1.2
    have cb := hA.2.2.2.2.2.2.2.1 b h.2.1.1 h.2.1.2
    have hta : 0 ≤ zz_tw (J 132) a ∧ zz_tw (J 132) a ≤ 9 := by
      unfold zz_tw
      split <;> omega
    have htb : 0 ≤ zz_tw (J 132) b ∧ zz_tw (J 132) b ≤ 9 := by
      unfold zz_tw
      split <;> omega
    have ea : (if J 132 (24 + a) < 0 then J 132 (8 + a) else J 132 (24 + a)) = zz_tw (J 132) a := rfl
    have eb : (if J 132 (24 + b) < 0 then J 132 (8 + b) else J 132 (24 + b)) = zz_tw (J 132) b := rfl
    rw [ea] at ta
    rw [eb] at tb
    by_cases hl : zz_tw (J 132) a ≤ 8 ∧ 1 ≤ zz_tw (J 132) b
    · obtain ⟨K1, J1, r172, fx, k1, -⟩ := r_172 (T := T) (J := J) (R := R) (G := G) (d := d - 1) (Y := Y) hL hA (by omega)
      have j1 : J1 132 = J 132 := fx.1 132 (by omega) (by omega)
      have ta1 := r_199 (T := T) (J := J1) (R := R) (G := G) (d := d - 1) (a := a) (Y := Y) (by omega) hL (by rw [j1]; exact hA) h.1.1 (by rw [j1]; exact h.1.2)
      rw [j1, ea] at ta1
      obtain ⟨M, hM⟩ : ∃ M, M = zz_u J1 132 (24 + a) (zz_tw (J 132) a + 1) := ⟨_, rfl⟩
      have m132 : M 132 = zz_f (J 132) (24 + a) (zz_tw (J 132) a + 1) := by rw [hM, zz_uw, zw_s, j1]
      have mok : zz_ok Y (M 132) := by
        rw [m132]
        refine zz_ok_h hA (fun y hy => zf_n (by omega)) (fun c c0 c1 => ?_)
        have hc := hA.2.2.2.2.2.2.2.1 c c0 c1
        rw [zf_n (by omega)]
        refine ⟨hc.1, ?_⟩
        by_cases q : c = a
        · rw [q, zf_s]
          omega
        · rw [zf_n (by omega)]
          exact hc.2
      have mn : M 132 0 = J 132 0 ∧ M 132 1 = J 132 1 ∧ M 132 6 = J 132 6 := by
        rw [m132]
        exact ⟨zf_n (by omega), zf_n (by omega), zf_n (by omega)⟩
      have tb1 := r_199 (T := T) (J := M) (R := R) (G := G) (d := d - 1) (a := b) (Y := Y) (by omega) hL mok h.2.1.1 (by rw [mn.1, mn.2.1]; exact h.2.1.2)
      have mb : (if M 132 (24 + b) < 0 then M 132 (8 + b) else M 132 (24 + b)) = zz_tw (J 132) b := by
        rw [m132, zf_n (by omega), zf_n (by omega)]
        rfl
      rw [mb] at tb1
      obtain ⟨N, hNd⟩ : ∃ N, N = zz_u M 132 (24 + b) (zz_tw (J 132) b - 1) := ⟨_, rfl⟩
      have n132 : N 132 = zz_f (M 132) (24 + b) (zz_tw (J 132) b - 1) := by rw [hNd, zz_uw, zw_s]
      have nn : N 132 0 = J 132 0 ∧ N 132 1 = J 132 1 ∧ N 132 6 = J 132 6 := by
        rw [n132, zf_n (by omega), zf_n (by omega), zf_n (by omega)]
        exact mn
      have nok : zz_ok Y (N 132) := by
        rw [n132]
        refine zz_ok_h mok (fun y hy => zf_n (by omega)) (fun c c0 c1 => ?_)
        have c2 : c < J 132 0 * J 132 1 := by rw [← mn.1, ← mn.2.1]; exact c1
        have hc := mok.2.2.2.2.2.2.2.1 c c0 c1
        rw [zf_n (by omega)]
        refine ⟨hc.1, ?_⟩
        by_cases q : c = b
        · rw [q, zf_s]
          omega
        · rw [zf_n (by omega)]
          exact hc.2
      obtain ⟨K2, J2, r172', fx', k2, -⟩ := r_172 (T := T) (J := N) (R := R) (G := G) (d := d - 1) (Y := Y) hL nok (by omega)
      have j2 : J2 132 = N 132 := fx'.1 132 (by omega) (by omega)
      have bm : ∀ c, 0 ≤ c → c < J 132 0 * J 132 1 → zz_ex (N 132) (fun c => N 132 (24 + c)) c = zz_ex (J 132) (zv_bm (J 132) a b) c := by
        intro c c0 c1
        have e8 : N 132 (8 + c) = J 132 (8 + c) := by rw [n132, zf_n (by omega), m132, zf_n (by omega)]
        have e24 : N 132 (24 + c) = zv_bm (J 132) a b c := by
          unfold zv_bm
          by_cases q : c = a
          · rw [if_pos q, n132, zf_n (by omega), m132, q, zf_s]
          · rw [if_neg q]
            by_cases q' : c = b
            · rw [if_pos q', n132, q', zf_s]
            · rw [if_neg q', n132, zf_n (by omega), m132, zf_n (by omega)]
        show (if N 132 (24 + c) < 0 then 0 else N 132 (8 + c) - N 132 (24 + c)) = if zv_bm (J 132) a b c < 0 then 0 else J 132 (8 + c) - zv_bm (J 132) a b c
        rw [e8, e24]
      have k2' : zz_lst (J 132) (zz_ex (J 132) (zv_bm (J 132) a b)) K2 := zk_lst_c (by omega) bm (zq_lst_a nn.1 nn.2.1 nn.2.2 k2)
      have kb1 := zk_lst_b k1
      have kb2 := zk_lst_b k2
      obtain ⟨P, hP⟩ : ∃ P, P = zz_u (zz_u J2 132 (24 + a) (J 132 (24 + a))) 132 (24 + b) (J 132 (24 + b)) := ⟨_, rfl⟩
      have p132 : P 132 = J 132 := by
        funext y
        rw [hP]
        by_cases qb : y = 24 + b
        · rw [qb, zu_s]
        · rw [zu_k qb]
          by_cases qa : y = 24 + a
          · rw [qa, zu_s]
          · rw [zu_k qa, j2, n132, zf_n qb, m132, zf_n qa]
      have pf : ∀ x, x ≠ 132 → P x = J2 x := fun x hx => by rw [hP, zu_A hx, zu_A hx]
      have nf : ∀ x, x ≠ 132 → N x = J1 x := fun x hx => by rw [hNd, zu_A hx, hM, zu_A hx]
      have pw : zz_pw J P := ⟨fun x x1 x2 x3 => by rw [pf x x2, fx'.1 x x1 (by omega), nf x x2, fx.1 x x1 (by omega)], by rw [pf 131 (by omega), fx'.2 9 (by omega), nf 131 (by omega), fx.2 9 (by omega)]⟩
      have x13 : J1 132 (24 + a) = J 132 (24 + a) := by rw [j1]
      have x16 : J1 132 (24 + b) = J 132 (24 + b) := by rw [j1]
      refine ⟨if K2 < 0 ∨ K1 < 0 then -1000000004 else K2 - K1, P, ?_, pw, p132, Or.inr ⟨h, Or.inr ⟨hl, K2, K1, k2', k1, rfl⟩⟩⟩
      refine zz_c (zz_call (by omega) t_200 rfl (fun n => e_200 _ _ _ _) ?_)
      simp (maxSteps := 5000000) (disch := first | assumption | omega) only [zi_131, ra, rb, ta, tb, zo_rI, zz_0, zz_add, zz_lt, zz_le]
      refine zz_Ei (fun g => absurd h.1 (by first | exact g | (rw [zz_be0] at g; exact g))) (fun _ => ?_)
      refine zz_Ei (fun g => absurd h.2.1 (by first | exact g | (rw [zz_be0] at g; exact g))) (fun _ => ?_)
      refine zz_Ei (fun g => absurd (zt_eq h1 h2 h3 h4 g) h.2.2) (fun _ => ?_)
      refine zz_Ei (fun g => absurd g (by omega)) (fun _ => ?_)
      refine zz_Ei (fun _ => ?_) (fun g => absurd hl.2 g)
      simp (maxSteps := 5000000) (disch := first | assumption | omega) only [zi_131, r172, ta1, zo_rI, zo_rf, zr_131_0, za_132, x13, x16, zz_0, zz_add, zs_132]
      rw [← hM]
      simp (maxSteps := 5000000) (disch := first | assumption | omega) only [zi_131, tb1, zo_rI, zo_rf, zr_131_0, zz_sub, zz_add, zs_132]
      rw [← hNd]
      simp (maxSteps := 5000000) (disch := first | assumption | omega) only [zi_131, r172', zo_rI, zo_rf, zr_131_0, zz_sub, zz_add, zs_132, zz_lt, zz_le]
      rw [← hP]
      refine zz_Ei (fun g => zz_Er (by rw [if_pos (Or.inr g)])) (fun g1 => ?_)
      refine zz_Ei (fun g => zz_Er (by rw [if_neg (by omega)])) (fun g => zz_Er (by rw [if_pos (by omega)]))
    · refine ⟨-1000000003, J, ?_, pw0, rfl, Or.inr ⟨h, Or.inl ⟨hl, rfl⟩⟩⟩
      refine zz_c (zz_call (by omega) t_200 rfl (fun n => e_200 _ _ _ _) ?_)
      simp (maxSteps := 5000000) (disch := first | assumption | omega) only [zi_131, ra, rb, ta, tb, zo_rI, zz_0, zz_add, zz_lt, zz_le]
      refine zz_Ei (fun g => absurd h.1 (by first | exact g | (rw [zz_be0] at g; exact g))) (fun _ => ?_)
      refine zz_Ei (fun g => absurd h.2.1 (by first | exact g | (rw [zz_be0] at g; exact g))) (fun _ => ?_)
      refine zz_Ei (fun g => absurd (zt_eq h1 h2 h3 h4 g) h.2.2) (fun _ => ?_)
      refine zz_Ei (fun g => zz_Er rfl) (fun g1 => ?_)
      refine zz_Ei (fun g => absurd ⟨by omega, g⟩ hl) (fun _ => zz_Er rfl)
  · refine ⟨-1000000001, J, ?_, pw0, rfl, Or.inl ⟨h, rfl⟩⟩
    refine zz_c (zz_call (by omega) t_200 rfl (fun n => e_200 _ _ _ _) ?_)
    simp (maxSteps := 5000000) (disch := first | assumption | omega) only [zi_131, ra, rb, zo_rI, zz_0]
    refine zz_Ei (fun _ => zz_Er rfl) (fun g1 => ?_)
    have g1 : 0 ≤ a ∧ a < J 132 0 * J 132 1 := Decidable.not_not.mp (by first | exact g1 | (rw [zz_be0] at g1; exact g1))
    refine zz_Ei (fun _ => zz_Er rfl) (fun g2 => ?_)
    have g2 : 0 ≤ b ∧ b < J 132 0 * J 132 1 := Decidable.not_not.mp (by first | exact g2 | (rw [zz_be0] at g2; exact g2))
    refine zz_Ei (fun _ => zz_Er rfl) (fun g3 => ?_)
    exact absurd ⟨g1, g2, fun q => g3 (by rw [q])⟩ h
end ZRHM
