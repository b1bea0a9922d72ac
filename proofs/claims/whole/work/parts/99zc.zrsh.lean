/-! PURE LAYER, 108: the reference's shelves: keep, row, put, element, copy -/
section ZRSH
variable {T : List mv_T} {J : Nat → Int → Int} {R : Nat → Nat → Option Nat} {G : Nat → Nat → Int64} {d : Nat} {Y : Int} {k : Int}
theorem r_208 {e f : Int} {σ : mv_S} (hd : 1 ≤ d) (he : 0 ≤ e ∧ e ≤ 7) (hf : 0 ≤ f ∧ f ≤ 9) : mv_cax d 208 [.inl (mv_c e), .inl (mv_c f)] σ = some (some (.inl (mv_c (zk_sp e f))), σ) := by
  unfold zk_sp
  refine zz_c (zz_call (by omega) t_208 rfl (fun n => e_208 _ _ _) ?_)
  simp (maxSteps := 5000000) (disch := first | assumption | omega) only [zz_add, zz_mul, zz_dv, zz_div, zz_eq]
  refine zz_Ei (fun g => zz_Er (by rw [if_pos g])) (fun g1 => ?_)
  refine zz_Ei (fun g => zz_Er (by rw [if_neg g1, if_pos g])) (fun g2 => ?_)
  refine zz_Ei (fun g => zz_Er (by rw [if_neg g1, if_neg g2, if_pos g])) (fun g3 => ?_)
  refine zz_Ei (fun g => zz_Er (by rw [if_neg g1, if_neg g2, if_neg g3, if_pos g])) (fun g4 => ?_)
  refine zz_Ei (fun g => zz_Er (by rw [if_neg g1, if_neg g2, if_neg g3, if_neg g4, if_pos g])) (fun g5 => ?_)
  refine zz_Ei (fun g => zz_Er (by rw [if_neg g1, if_neg g2, if_neg g3, if_neg g4, if_neg g5, if_pos g])) (fun g6 => ?_)
  refine zz_Ei (fun g => zz_Er (by rw [if_neg g1, if_neg g2, if_neg g3, if_neg g4, if_neg g5, if_neg g6, if_pos g])) (fun g7 => ?_)
  exact zz_Er (by rw [if_neg g1, if_neg g2, if_neg g3, if_neg g4, if_neg g5, if_neg g6, if_neg g7])
theorem r_209a {w e : Int} (hd : 2 ≤ d) (hL : ZL T R) (hA : zz_ok Y (J 132)) (k0 : 0 ≤ k) (k1 : k < 8) (hw : 0 ≤ w ∧ w ≤ 1) (he : w = 1 → 0 ≤ e ∧ e < J 132 7) : zz_E (fun n => mv_run (mv_cax d) mm_209 n 32 [(0, .inr (.inr (some 131))), (1, .inl (mv_c k)), (2, .inl (mv_c w)), (3, .inl (mv_c e))] [] (zz_S T J R G)) (fun r => r = (some (.inl (mv_c 0)), zz_S T (zv_keepV J (J 132) k w e) R G)) := by
  have ev : zv_keepV J (J 132) k w e = if w = 0 then zz_w J 135 (zz_f (J 135) k 0) else zz_w (zz_w (zz_w J 135 (zz_f (J 135) k 1)) 139 (zz_f (J 139) k (zk_sp (J 132 (40 + 15 * e)) (J 132 (41 + 15 * e))))) 140 (zz_f (J 140) k (zk_st e (J 132 (40 + 15 * e)) (J 132 (41 + 15 * e)))) := by
    unfold zv_keepV
    rw [if_pos ⟨⟨k0, k1⟩, hw, he⟩]
  rw [ev]
  refine zz_Es (fun n => e_209_32 _ _ _ _ _) ?_
  by_cases h0 : w = 0
  · rw [if_pos h0]
    subst h0
    simp (maxSteps := 5000000) (disch := first | assumption | omega) only [zr_131_3, zo_rf, zs_135, zz_0, if_true]
    try (refine zz_Ei (fun _ => ?_) (fun h => absurd trivial h))
    try (refine zz_Ei (fun _ => ?_) (fun h => absurd rfl h))
    exact zz_Er (by rw [zz_uw])
  · rw [if_neg h0]
    have h1 : w = 1 := by omega
    subst h1
    obtain ⟨e0, e1⟩ := he rfl
    have h7 := hA.2.2.2.2.2.2.1
    have hD := hA.2.2.2.2.2.2.2.2 e e0 e1
    obtain ⟨M, hM⟩ : ∃ M, M = zz_u J 135 k 1 := ⟨_, rfl⟩
    have m132 : M 132 = J 132 := by rw [hM, zu_A (by omega)]
    have ra := r_140 (T := T) (J := M) (R := R) (G := G) (d := d) (c := e) (k := 0) (by omega) hL e0 (by omega) (by omega) (by omega)
    have rb := r_140 (T := T) (J := M) (R := R) (G := G) (d := d) (c := e) (k := 1) (by omega) hL e0 (by omega) (by omega) (by omega)
    rw [m132, show 40 + 15 * e + 0 = 40 + 15 * e by omega] at ra
    rw [m132, show 40 + 15 * e + 1 = 41 + 15 * e by omega] at rb
    generalize hk' : J 132 (40 + 15 * e) = kd at *
    generalize hf' : J 132 (41 + 15 * e) = fg at *
    have hkd : 0 ≤ kd ∧ kd ≤ 7 := by rw [← hk']; exact hD.1
    have hfg : 0 ≤ fg ∧ fg ≤ 9 := by rw [← hf']; exact hD.2.1
    have r208 := r_208 (σ := zz_S T M R G) (d := d) (by omega) hkd hfg
    have em : ∀ t, zz_u (zz_u M 139 k (zk_sp kd fg)) 140 k t = zz_w (zz_w (zz_w J 135 (zz_f (J 135) k 1)) 139 (zz_f (J 139) k (zk_sp kd fg))) 140 (zz_f (J 140) k t) := fun t => by
      rw [hM, zz_uw, zu_A (by omega), zu_A (by omega), zz_uw, zu_A (by omega), zz_uw]
    have e139 : zz_u M 139 k (zk_sp kd fg) 139 k = zk_sp kd fg := zu_s
    simp (maxSteps := 5000000) (disch := first | assumption | omega) only [zr_131_3, zo_rf, zs_135, zz_0, zz_eq]
    refine zz_Ei (fun g => absurd g (by omega)) (fun _ => ?_)
    rw [← hM]
    simp (maxSteps := 5000000) (disch := first | assumption | omega) only [zi_131, ra, rb, r208, zo_rI, zr_131_7, zr_131_8, zo_rf, zs_139, zs_140, za_139, e139, zz_0, zz_add, zz_eq]
    unfold zk_st
    refine zz_Ei (fun g5 => zz_Er (by rw [em, if_pos (Or.inl g5)])) (fun g5 => ?_)
    refine zz_Ei (fun g0 => zz_Er (by rw [em, if_pos (Or.inr g0)])) (fun g0 => ?_)
    have gn : ¬ (kd = 5 ∨ fg = 0) := by omega
    refine zz_Ei (fun g4 => zz_Er (by rw [em, if_neg gn, if_pos g4])) (fun g4 => ?_)
    refine zz_Ei (fun g6 => zz_Er (by rw [em, if_neg gn, if_neg g4, if_pos g6])) (fun g6 => ?_)
    exact zz_Er (by rw [em, if_neg gn, if_neg g4, if_neg g6])
theorem r_209 {w e : Int} (hd : 3 ≤ d) (hL : ZL T R) (hA : zz_ok Y (J 132)) (h1 : zk_r32 k) (h2 : zk_r32 w) (h3 : zk_r32 e) : mv_cax d 209 [.inr (.inr (some 131)), .inl (mv_c k), .inl (mv_c w), .inl (mv_c e)] (zz_S T J R G) = some (some (.inl (mv_c (zv_keep (J 132) k w e))), zz_S T (zv_keepV J (J 132) k w e) R G) := by
  obtain ⟨h1, h1'⟩ := h1
  obtain ⟨h2, h2'⟩ := h2
  obtain ⟨h3, h3'⟩ := h3
  have r138 := r_138 (c := k) (σ := zz_S T J R G) (d := d - 1) (by omega) h1 h1'
  have r137 := r_137 (T := T) (J := J) (R := R) (G := G) (d := d - 1) (c := e) (by omega) hL hA h3 h3'
  by_cases hc : (0 ≤ k ∧ k < 8) ∧ (0 ≤ w ∧ w ≤ 1) ∧ (w = 1 → 0 ≤ e ∧ e < J 132 7)
  · have ev : zv_keep (J 132) k w e = 0 := if_pos hc
    rw [ev]
    have tl := r_209a (T := T) (J := J) (R := R) (G := G) (d := d - 1) (Y := Y) (by omega) hL hA hc.1.1 hc.1.2 hc.2.1 hc.2.2
    refine zz_c (zz_call (by omega) t_209 rfl (fun n => e_209 _ _ _ _ _) ?_)
    simp (maxSteps := 5000000) (disch := first | assumption | omega) only [zi_131, r138, r137, r_134, zz_l, zz_l0, zz_l1, zo_rI, zz_0]
    refine zz_Ei (fun g => absurd hc.1 (by first | exact g | (rw [zz_be0] at g; exact g))) (fun _ => ?_)
    refine zz_Ei (fun g => absurd hc.2.1 (by first | exact g | (rw [zz_be0] at g; exact g))) (fun _ => ?_)
    refine zz_Ei (fun g => ?_) (fun _ => tl)
    have g1 : w = 1 := zt_eq h2 h2' (by omega) (by omega) g
    refine zz_Ei (fun g => absurd (hc.2.2 g1) (by first | exact g | (rw [zz_be0] at g; exact g))) (fun _ => tl)
  · have ev : zv_keep (J 132) k w e = -1 := if_neg hc
    have ev2 : zv_keepV J (J 132) k w e = J := if_neg hc
    rw [ev, ev2]
    refine zz_c (zz_call (by omega) t_209 rfl (fun n => e_209 _ _ _ _ _) ?_)
    simp (maxSteps := 5000000) (disch := first | assumption | omega) only [zi_131, r138, r137, r_134, zz_l, zz_l0, zz_l1, zo_rI, zz_0]
    refine zz_Ei (fun g => zz_Er rfl) (fun g1 => ?_)
    have g1 : 0 ≤ k ∧ k < 8 := Decidable.not_not.mp (by first | exact g1 | (rw [zz_be0] at g1; exact g1))
    refine zz_Ei (fun g => zz_Er rfl) (fun g2 => ?_)
    have g2 : 0 ≤ w ∧ w ≤ 1 := Decidable.not_not.mp (by first | exact g2 | (rw [zz_be0] at g2; exact g2))
    refine zz_Ei (fun g => ?_) (fun g => ?_)
    · have g3 : w = 1 := zt_eq h2 h2' (by omega) (by omega) g
      refine zz_Ei (fun g => zz_Er rfl) (fun g4 => ?_)
      have g4 : 0 ≤ e ∧ e < J 132 7 := Decidable.not_not.mp (by first | exact g4 | (rw [zz_be0] at g4; exact g4))
      exact absurd ⟨g1, g2, fun _ => g4⟩ hc
    · have g3 : w ≠ 1 := fun q => g (by rw [q])
      exact absurd ⟨g1, g2, fun q => absurd q g3⟩ hc
theorem r_210 {s m : Int} (hd : 3 ≤ d) (hL : ZL T R) (h1 : zk_r32 k) (h2 : zk_r32 s) (h3 : zk_r32 m) : mv_cax d 210 [.inr (.inr (some 131)), .inl (mv_c k), .inl (mv_c s), .inl (mv_c m)] (zz_S T J R G) = some (some (.inl (mv_c (zv_row k s m))), zz_S T (zv_rowV J k s m) R G) := by
  obtain ⟨h1, h1'⟩ := h1
  obtain ⟨h2, h2'⟩ := h2
  obtain ⟨h3, h3'⟩ := h3
  have r138 := r_138 (c := k) (σ := zz_S T J R G) (d := d - 1) (by omega) h1 h1'
  by_cases hc : (0 ≤ k ∧ k < 8) ∧ (0 ≤ s ∧ s ≤ 2) ∧ 0 ≤ m ∧ m ≤ 100
  · have ev : zv_row k s m = 0 := by
      unfold zv_row
      rw [if_pos ⟨hc.1, hc.2.1, hc.2.2.2⟩, if_neg (by omega)]
    obtain ⟨M, hM⟩ : ∃ M, M = zz_w (zz_w (zz_w J 135 (zz_f (J 135) k 2)) 136 (zz_f (J 136) k s)) 137 (zz_f (J 137) k m) := ⟨_, rfl⟩
    have m138 : M 138 = J 138 := by rw [hM, zw_n (by omega), zw_n (by omega), zw_n (by omega)]
    have ev2 : zv_rowV J k s m = zz_w M 138 (fun y => if 100 * k ≤ y ∧ y < 100 * k + 100 then 0 else M 138 y) := by
      rw [m138, hM]
      exact if_pos hc
    have em : zz_u (zz_u (zz_u J 135 k 2) 136 k s) 137 k m = M := by
      rw [hM, zz_uw, zu_A (by omega), zu_A (by omega), zz_uw, zu_A (by omega), zz_uw]
    rw [ev, ev2]
    refine zz_c (zz_call (by omega) t_210 rfl (fun n => e_210 _ _ _ _ _) ?_)
    simp (maxSteps := 5000000) (disch := first | assumption | omega) only [r138, r_134, zz_l, zz_l0, zz_l1, zo_rI, zo_rf, zz_0, zz_le, zr_131_3, zr_131_4, zr_131_5, zs_135, zs_136, zs_137, em]
    refine zz_Ei (fun g => absurd hc.1 (by first | exact g | (rw [zz_be0] at g; exact g))) (fun _ => ?_)
    refine zz_Ei (fun g => absurd hc.2.1 (by first | exact g | (rw [zz_be0] at g; exact g))) (fun _ => ?_)
    refine zz_Ei (fun _ => ?_) (fun g => absurd hc.2.2.2 g)
    refine zz_Ei (fun _ => ?_) (fun g => absurd hc.2.2.1 g)
    have l := zz_loop (α := Int → Int) (run := fun c O n => mv_run (mv_cax (d - 1)) mm_210 n 58 [(0, .inr (.inr (some 131))), (1, .inl (mv_c k)), (4, .inl (mv_c c))] [] (zz_S T (zz_w M 138 O) R G)) (Q := fun r' => r' = (some (.inl (mv_c 0)), zz_S T (zz_w M 138 (fun y => if 100 * k ≤ y ∧ y < 100 * k + 100 then 0 else M 138 y)) R G)) 100 (fun c O => 0 ≤ c ∧ ∀ y, O y = if 100 * k ≤ y ∧ y < 100 * k + c then 0 else M 138 y) ?_ ?_ 100 0 (M 138) (by omega) ⟨by omega, fun y => by rw [if_neg (by omega)]⟩
    · rw [zw_i] at l
      exact l
    · rintro c O ⟨c0, hO⟩ hlt kk
      refine zz_Es (fun n => e_210_58 _ _ _ _) ?_
      simp (maxSteps := 5000000) (disch := first | assumption | omega) only [zr_131_6, zo_rf, zs_138, zz_wu, zz_le, zz_add, zz_mul]
      refine zz_Ei (fun g => absurd g (by omega)) (fun _ => ?_)
      refine kk _ ⟨by omega, fun y => ?_⟩
      by_cases q : y = 100 * k + c
      · rw [q, zf_s, if_pos (by omega)]
      · rw [zf_n q, hO y]
        by_cases q' : 100 * k ≤ y ∧ y < 100 * k + c
        · rw [if_pos q', if_pos (by omega)]
        · rw [if_neg q', if_neg (by omega)]
    · rintro O ⟨_, hO⟩
      have eO : O = fun y => if 100 * k ≤ y ∧ y < 100 * k + 100 then 0 else M 138 y := funext hO
      subst eO
      refine zz_Es (fun n => e_210_58 _ _ _ _) ?_
      simp (maxSteps := 5000000) (disch := first | assumption | omega) only [zz_le]
      refine zz_Ei (fun _ => zz_Er rfl) (fun h => absurd (Int.le_refl _) h)
  · have ev2 : zv_rowV J k s m = J := if_neg hc
    rw [ev2]
    refine zz_c (zz_call (by omega) t_210 rfl (fun n => e_210 _ _ _ _ _) ?_)
    simp (maxSteps := 5000000) (disch := first | assumption | omega) only [r138, r_134, zz_l, zz_l0, zz_l1, zo_rI, zz_0, zz_le]
    refine zz_Ei (fun g => zz_Er ?_) (fun g1 => ?_)
    · have g : ¬ (0 ≤ k ∧ k < 8) := by first | exact g | (rw [zz_be0] at g; exact g)
      rw [zv_row, if_neg (fun q => g q.1)]
    have g1 : 0 ≤ k ∧ k < 8 := Decidable.not_not.mp (by first | exact g1 | (rw [zz_be0] at g1; exact g1))
    refine zz_Ei (fun g => zz_Er ?_) (fun g2 => ?_)
    · have g : ¬ (0 ≤ s ∧ s ≤ 2) := by first | exact g | (rw [zz_be0] at g; exact g)
      rw [zv_row, if_neg (fun q => g q.2.1)]
    have g2 : 0 ≤ s ∧ s ≤ 2 := Decidable.not_not.mp (by first | exact g2 | (rw [zz_be0] at g2; exact g2))
    refine zz_Ei (fun g3 => ?_) (fun g => zz_Er (by rw [zv_row, if_neg (fun q => g q.2.2)]))
    refine zz_Ei (fun g4 => absurd ⟨g1, g2, g4, g3⟩ hc) (fun g => zz_Er (by rw [zv_row, if_pos ⟨g1, g2, g3⟩, if_pos (by omega)]))
theorem r_211 {i v : Int} (hd : 4 ≤ d) (hL : ZL T R) (hk : zk_kd J) (h1 : zk_r32 k) (h2 : zk_r32 i) (h3 : zk_r32 v) : mv_cax d 211 [.inr (.inr (some 131)), .inl (mv_c k), .inl (mv_c i), .inl (mv_c v)] (zz_S T J R G) = some (some (.inl (mv_c (zv_put J k i))), zz_S T (zv_putV J k i v) R G) := by
  obtain ⟨h1, h1'⟩ := h1
  obtain ⟨h2, h2'⟩ := h2
  obtain ⟨h3, h3'⟩ := h3
  have r151 := r_151 (T := T) (J := J) (R := R) (G := G) (d := d - 1) (k := k) (s := -1) (by omega) hL hk h1 h1' (by omega) (by omega)
  have hwb := zq_wrb J k (-1)
  by_cases hw : zv_wr J k (-1) = 0
  · obtain ⟨hkk, hV⟩ := zq_wr0 hw
    obtain ⟨hso, hs, hr⟩ := zq_kd2 hk hkk.1 hkk.2 hV
    rw [hw] at r151
    by_cases hi : 0 ≤ i ∧ i < J 137 k
    · have ev : zv_put J k i = 0 := by rw [zv_put, if_pos hw, if_pos hi]
      have ev2 : zv_putV J k i v = zz_u J 138 (100 * k + i) (zv_cv (J 136 k) v) := by
        rw [zz_uw]
        exact if_pos ⟨hw, hi⟩
      rw [ev, ev2]
      refine zz_c (zz_call (by omega) t_211 rfl (fun n => e_211 _ _ _ _ _) ?_)
      simp (maxSteps := 5000000) (disch := first | assumption | omega) only [zi_131, r151, r_134, zz_l, zz_l0, zz_l1, zz_sub, zo_rI, zo_rf, zr_131_5, za_137, zz_0, if_true]
      try (refine zz_Ei (fun _ => ?_) (fun h => absurd trivial h))
      refine zz_Ei (fun g => absurd (show 0 ≤ i ∧ i ≤ J 137 k - 1 by omega) (by first | exact g | (rw [zz_be0] at g; exact g))) (fun _ => ?_)
      simp (maxSteps := 5000000) (disch := first | assumption | omega) only [zr_131_4, zr_131_6, zo_rf, za_136, zs_138, zz_0, zz_mul, zz_add, zk_cv0, zk_cv1, zz_eq]
      refine zz_Ei (fun g => zz_Er (by rw [g])) (fun g0 => ?_)
      refine zz_Ei (fun g => zz_Er (by rw [g])) (fun g1 => zz_Er ?_)
      have e2 : zv_cv (J 136 k) v = v := by rw [zv_cv, if_neg g0, if_neg g1]
      rw [e2]
    · have ev : zv_put J k i = -13 := by rw [zv_put, if_pos hw, if_neg hi]
      have ev2 : zv_putV J k i v = J := if_neg (fun q => hi q.2)
      rw [ev, ev2]
      refine zz_c (zz_call (by omega) t_211 rfl (fun n => e_211 _ _ _ _ _) ?_)
      simp (maxSteps := 5000000) (disch := first | assumption | omega) only [zi_131, r151, r_134, zz_l, zz_l0, zz_l1, zz_sub, zo_rI, zo_rf, zr_131_5, za_137, zz_0, if_true]
      try (refine zz_Ei (fun _ => ?_) (fun h => absurd trivial h))
      refine zz_Ei (fun g => zz_Er rfl) (fun g => ?_)
      have g : 0 ≤ i ∧ i ≤ J 137 k - 1 := Decidable.not_not.mp (by first | exact g | (rw [zz_be0] at g; exact g))
      exact absurd ⟨g.1, by omega⟩ hi
  · have ev : zv_put J k i = zv_wr J k (-1) := by rw [zv_put, if_neg hw]
    have ev2 : zv_putV J k i v = J := if_neg (fun q => hw q.1)
    rw [ev, ev2]
    obtain ⟨w, hw'⟩ : ∃ w, w = zv_wr J k (-1) := ⟨_, rfl⟩
    rw [← hw'] at r151 hwb hw ⊢
    refine zz_c (zz_call (by omega) t_211 rfl (fun n => e_211 _ _ _ _ _) ?_)
    simp (maxSteps := 5000000) (disch := first | assumption | omega) only [zi_131, r151, zo_rI, zz_0, zz_eq]
    refine zz_Ei (fun h => absurd h hw) (fun _ => zz_Er rfl)
theorem r_212 {i : Int} (hd : 3 ≤ d) (hL : ZL T R) (hk : zk_kd J) (h1 : zk_r32 k) (h2 : zk_r32 i) : mv_cax d 212 [.inr (.inr (some 131)), .inl (mv_c k), .inl (mv_c i)] (zz_S T J R G) = some (some (.inr (.inl (if zv_el J k i = 0 then mv_cl (J 138 (100 * k + i)) else mv_cl 0))), zz_S T (zz_u J 131 10 (zv_el J k i)) R G) := by
  obtain ⟨h1, h1'⟩ := h1
  obtain ⟨h2, h2'⟩ := h2
  have r138 := r_138 (c := k) (σ := zz_S T J R G) (d := d - 1) (by omega) h1 h1'
  have t10 : ∀ v, zz_u J 131 10 v 131 10 = v := fun v => zu_s
  have t138 : ∀ v y, zz_u J 131 10 v 138 y = J 138 y := fun v y => by rw [zu_A (by omega)]
  by_cases hq : 0 ≤ k ∧ k < 8
  · by_cases hV : J 135 k = 2
    · obtain ⟨hso, hs, hr⟩ := zq_kd2 hk hq.1 hq.2 hV
      by_cases hi : 0 ≤ i ∧ i < J 137 k
      · have ev : zv_el J k i = 0 := by rw [zv_el, if_pos hq, if_pos ⟨hV, hi⟩]
        have hrc := hr i hi.1 (by omega)
        unfold zk_r32 at hrc
        rw [ev, if_pos rfl]
        refine zz_c (zz_call (by omega) t_212 rfl (fun n => e_212 _ _ _ _) ?_)
        simp (maxSteps := 5000000) (disch := first | assumption | omega) only [r138, r_134, zz_l, zz_l0, zz_l1, zz_sub, zo_rI, zo_rf, zr_131_3, zr_131_5, za_135, za_137, zz_0, hV, zz_eq, if_true]
        refine zz_Ei (fun g => absurd hq (by first | exact g | (rw [zz_be0] at g; exact g))) (fun _ => ?_)
        try (refine zz_Ei (fun _ => ?_) (fun h => absurd trivial h))
        refine zz_Ei (fun g => absurd (show 0 ≤ i ∧ i ≤ J 137 k - 1 by omega) (by first | exact g | (rw [zz_be0] at g; exact g))) (fun _ => ?_)
        simp (maxSteps := 5000000) (disch := first | assumption | omega) only [zp_131_10, zg_131_10, t10, t138, zr_131_6, zo_rf, za_138, zz_0, zz_mul, zz_add, zz_l, if_true]
        try (refine zz_Ei (fun _ => ?_) (fun h => absurd trivial h))
        exact zz_Er rfl
      · have ev : zv_el J k i = 2 := by rw [zv_el, if_pos hq, if_neg (fun q => hi q.2)]
        rw [ev, if_neg (by omega)]
        refine zz_c (zz_call (by omega) t_212 rfl (fun n => e_212 _ _ _ _) ?_)
        simp (maxSteps := 5000000) (disch := first | assumption | omega) only [r138, r_134, zz_l, zz_l0, zz_l1, zz_sub, zo_rI, zo_rf, zr_131_3, zr_131_5, za_135, za_137, zz_0, hV, zz_eq, if_true]
        refine zz_Ei (fun g => absurd hq (by first | exact g | (rw [zz_be0] at g; exact g))) (fun _ => ?_)
        try (refine zz_Ei (fun _ => ?_) (fun h => absurd trivial h))
        refine zz_Ei (fun _ => ?_) (fun g => ?_)
        · simp (maxSteps := 5000000) (disch := first | assumption | omega) only [zp_131_10, zg_131_10, t10, zz_0, zz_eq]
          refine zz_Ei (fun h => absurd h (by omega)) (fun _ => zz_Er rfl)
        · have g : 0 ≤ i ∧ i ≤ J 137 k - 1 := Decidable.not_not.mp (by first | exact g | (rw [zz_be0] at g; exact g))
          exact absurd ⟨g.1, by omega⟩ hi
    · have h012 : 0 ≤ J 135 k ∧ J 135 k ≤ 2 := by
        rcases hk k hq.1 hq.2 with h | h | h <;> omega
      have ev : zv_el J k i = 2 := by rw [zv_el, if_pos hq, if_neg (fun q => hV q.1)]
      rw [ev, if_neg (by omega)]
      refine zz_c (zz_call (by omega) t_212 rfl (fun n => e_212 _ _ _ _) ?_)
      simp (maxSteps := 5000000) (disch := first | assumption | omega) only [r138, zo_rI, zo_rf, zr_131_3, za_135, zz_0, zz_eq]
      refine zz_Ei (fun g => absurd hq (by first | exact g | (rw [zz_be0] at g; exact g))) (fun _ => ?_)
      refine zz_Ei (fun g => absurd g hV) (fun _ => ?_)
      simp (maxSteps := 5000000) (disch := first | assumption | omega) only [zp_131_10, zg_131_10, t10, zz_0, zz_eq]
      refine zz_Ei (fun h => absurd h (by omega)) (fun _ => zz_Er rfl)
  · have ev : zv_el J k i = 1 := by rw [zv_el, if_neg hq]
    rw [ev, if_neg (by omega)]
    refine zz_c (zz_call (by omega) t_212 rfl (fun n => e_212 _ _ _ _) ?_)
    simp (maxSteps := 5000000) (disch := first | assumption | omega) only [r138, zo_rI, zz_0]
    refine zz_Ei (fun _ => ?_) (fun g => absurd (Decidable.not_not.mp (by first | exact g | (rw [zz_be0] at g; exact g))) hq)
    simp (maxSteps := 5000000) (disch := first | assumption | omega) only [zp_131_10, zg_131_10, t10, zz_0, zz_eq]
    refine zz_Ei (fun h => absurd h (by omega)) (fun _ => zz_Er rfl)
end ZRSH
