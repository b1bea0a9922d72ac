/-! PURE LAYER, 107: the reference's counts, judgements, image -/
section ZRCT
variable {T : List mv_T} {J : Nat → Int → Int} {R : Nat → Nat → Option Nat} {G : Nat → Nat → Int64} {d : Nat} {Y : Int} {k : Int}
theorem zq_hbs {A : Int → Int} (hA : zz_ok Y A) (hb : zt_hb A) : zz_sum (zz_bit (A 6)) 16 = zz_sum (fun c => zz_bit (A 6) c) (A 0 * A 1) := by
  have hN := hA.n
  have e := zk_sum_split (f := zz_bit (A 6)) (a := A 0 * A 1) (b := 16 - A 0 * A 1) (by omega) (by omega)
  rw [show A 0 * A 1 + (16 - A 0 * A 1) = 16 by omega] at e
  rw [e, zz_sum_z (f := fun i => zz_bit (A 6) (A 0 * A 1 + i)) (by omega) (fun i i0 i1 => hb _ (by omega) (by omega)), Int.add_zero]
theorem r_207 {w : Int} (hd : 3 ≤ d) (hL : ZL T R) (hA : zz_ok Y (J 132)) (hb : zt_hb (J 132)) (w0 : -2147483648 ≤ w) (w1 : w ≤ 2147483647) : mv_cax d 207 [.inr (.inr (some 131)), .inl (mv_c w)] (zz_S T J R G) = some (some (.inl (mv_c (zv_count (J 132) w))), (zz_S T J R G)) := by
  have hN := hA.n
  have h6 := hA.2.2.2.2.2.1
  have h7 := hA.2.2.2.2.2.2.1
  have r135 := r_135 (T := T) (J := J) (R := R) (G := G) (d := d - 1) (by omega) hL
  have r141 := r_141 (σ := zz_S T J R G) (d := d - 1) (by omega) h6.1 h6.2
  rw [zq_hbs hA hb] at r141
  have r162 := r_162 (T := T) (J := J) (R := R) (G := G) (d := d - 1) (Y := Y) (by omega) hL hA
  refine zz_c (zz_call (by omega) t_207 rfl (fun n => e_207 _ _ _) ?_)
  simp (maxSteps := 5000000) (disch := first | assumption | omega) only [zi_131, r135, r141, r162, zo_rI, zo_rf, zr_131_0, za_132, zz_eq]
  refine zz_Ei (fun e => zz_Er (by rw [zv_count, if_pos e])) (fun e0 => ?_)
  refine zz_Ei (fun e => zz_Er (by rw [zv_count, if_neg e0, if_pos e])) (fun e1 => ?_)
  refine zz_Ei (fun e => zz_Er (by rw [zv_count, if_neg e0, if_neg e1, if_pos e])) (fun e2 => ?_)
  refine zz_Ei (fun e => zz_Er (by rw [zv_count, if_neg e0, if_neg e1, if_neg e2, if_pos e])) (fun e3 => ?_)
  refine zz_Ei (fun e => ?_) (fun e4 => ?_)
  · have ev : zv_count (J 132) w = zz_sum (fun c => J 132 (8 + c)) (J 132 0 * J 132 1) := by rw [zv_count, if_neg e0, if_neg e1, if_neg e2, if_neg e3, if_pos e]
    rw [ev]
    refine zz_loop (α := Unit) (run := fun c _ n => mv_run (mv_cax (d - 1)) mm_207 n 71 [(0, .inr (.inr (some 131))), (2, .inl (mv_c (zz_sum (fun c => J 132 (8 + c)) c))), (3, .inl (mv_c c))] [] (zz_S T J R G)) (J 132 0 * J 132 1) (fun c _ => 0 ≤ c) ?_ ?_ (J 132 0 * J 132 1).toNat 0 () (by omega) (by omega)
    · rintro c _ c0 hlt kk
      have kk := kk () (by omega)
      rw [zz_sum1 c0] at kk
      refine zz_Es (fun n => e_207_71 _ _ _ _) ?_
      simp (maxSteps := 5000000) (disch := first | assumption | omega) only [zi_131, r135, zo_rI, zo_rf, zr_131_0, za_132, zz_add, zz_le]
      refine zz_Ei (fun g => absurd g (by omega)) (fun _ => kk)
    · rintro _ _
      refine zz_Es (fun n => e_207_71 _ _ _ _) ?_
      simp (maxSteps := 5000000) (disch := first | assumption | omega) only [zi_131, r135, zo_rI, zz_le]
      refine zz_Ei (fun _ => zz_Er rfl) (fun h => absurd (Int.le_refl _) h)
  · refine zz_Ei (fun e => ?_) (fun e5 => zz_Er (by rw [zv_count, if_neg e0, if_neg e1, if_neg e2, if_neg e3, if_neg e4, if_neg e5]))
    have ev : zv_count (J 132) w = zz_sum (fun c => J 132 (40 + 15 * c + 2)) (J 132 7) := by
      rw [zv_count, if_neg e0, if_neg e1, if_neg e2, if_neg e3, if_neg e4, if_pos e]
      exact zz_sum_c h7.1 (fun i _ _ => by
        show J 132 (42 + 15 * i) = J 132 (40 + 15 * i + 2)
        rw [show 40 + 15 * i + 2 = 42 + 15 * i by omega])
    rw [ev]
    refine zz_loop (α := Unit) (run := fun c _ n => mv_run (mv_cax (d - 1)) mm_207 n 101 [(0, .inr (.inr (some 131))), (2, .inl (mv_c (zz_sum (fun c => J 132 (40 + 15 * c + 2)) c))), (3, .inl (mv_c c))] [] (zz_S T J R G)) (J 132 7) (fun c _ => 0 ≤ c) ?_ ?_ (J 132 7).toNat 0 () (by omega) (by omega)
    · rintro c _ c0 hlt kk
      have kk := kk () (by omega)
      rw [zz_sum1 c0] at kk
      have r140 := r_140 (T := T) (J := J) (R := R) (G := G) (d := d - 1) (c := c) (k := 2) (by omega) hL c0 (by omega) (by omega) (by omega)
      refine zz_Es (fun n => e_207_101 _ _ _ _) ?_
      simp (maxSteps := 5000000) (disch := first | assumption | omega) only [zi_131, r140, zo_rI, zo_rf, zr_131_0, za_132, zz_add, zz_le]
      refine zz_Ei (fun g => absurd g (by omega)) (fun _ => kk)
    · rintro _ _
      refine zz_Es (fun n => e_207_101 _ _ _ _) ?_
      simp (maxSteps := 5000000) (disch := first | assumption | omega) only [zo_rf, zr_131_0, za_132, zz_le]
      refine zz_Ei (fun _ => zz_Er rfl) (fun h => absurd (Int.le_refl _) h)
theorem r_203 (hd : 1 ≤ d) (hL : ZL T R) (k0 : 0 ≤ k) (k1 : k < 8) (hs : 0 ≤ J 136 k ∧ J 136 k ≤ 2) : mv_cax d 203 [.inr (.inr (some 131)), .inl (mv_c k)] (zz_S T J R G) = some (some (.inl (mv_c (zv_ln (J 136 k)))), (zz_S T J R G)) := by
  unfold zv_ln
  refine zz_c (zz_call (by omega) t_203 rfl (fun n => e_203 _ _ _) ?_)
  simp (maxSteps := 5000000) (disch := first | assumption | omega) only [zr_131_4, zo_rf, za_136, zz_0, zz_eq]
  refine zz_Ei (fun e => zz_Er (by rw [if_pos e])) (fun e0 => ?_)
  refine zz_Ei (fun e => zz_Er (by rw [if_neg e0, if_pos e])) (fun e1 => zz_Er (by rw [if_neg e0, if_neg e1]))
theorem r_204 (hd : 4 ≤ d) (hL : ZL T R) (hA : zz_ok Y (J 132)) (hk : zk_kd J) (k0 : -2147483648 ≤ k) (k1 : k ≤ 2147483647) : ∃ v, mv_cax d 204 [.inr (.inr (some 131)), .inl (mv_c k)] (zz_S T J R G) = some (some (.inl (mv_c v)), (zz_S T J R G)) ∧ zv_judge J (J 132) k v := by
  have hN := hA.n
  have hc9 := hA.2.2.2.2.2.2.2.1
  have r151 := r_151 (T := T) (J := J) (R := R) (G := G) (d := d - 1) (k := k) (s := -1) (by omega) hL hk k0 k1 (by omega) (by omega)
  have hwb := zq_wrb J k (-1)
  by_cases hw : zv_wr J k (-1) = 0
  · obtain ⟨hkk, h2⟩ := zq_wr0 hw
    obtain ⟨hso, hs, hr⟩ := zq_kd2 hk hkk.1 hkk.2 h2
    rw [hw] at r151
    have r135 := r_135 (T := T) (J := J) (R := R) (G := G) (d := d - 1) (by omega) hL
    have r203 := r_203 (T := T) (J := J) (R := R) (G := G) (d := d - 1) (k := k) (by omega) hL hkk.1 hkk.2 hso
    have hln : -2147483648 ≤ zv_ln (J 136 k) ∧ zv_ln (J 136 k) ≤ 0 := by
      unfold zv_ln
      split
      · omega
      · split <;> omega
    suffices h : ∃ r, mv_cax d 204 [.inr (.inr (some 131)), .inl (mv_c k)] (zz_S T J R G) = some r ∧ ∃ v, r = (some (.inl (mv_c v)), (zz_S T J R G)) ∧ zv_jd J (J 132) k v by
      obtain ⟨r, g1, v, rfl, g2⟩ := h
      exact ⟨v, g1, Or.inr ⟨hw, g2⟩⟩
    refine zz_call (by omega) t_204 rfl (fun n => e_204 _ _ _) ?_
    simp (maxSteps := 5000000) (disch := first | assumption | omega) only [zi_131, r151, r135, zo_rI, zz_0, if_true]
    try (refine zz_Ei (fun _ => ?_) (fun h => absurd trivial h))
    refine zz_loop (α := Unit) (run := fun c _ n => mv_run (mv_cax (d - 1)) mm_204 n 21 [(0, .inr (.inr (some 131))), (1, .inl (mv_c k)), (3, .inl (mv_c (J 132 0 * J 132 1))), (4, .inl (mv_c c))] [] (zz_S T J R G)) (J 132 0 * J 132 1) (fun c _ => 0 ≤ c ∧ c ≤ J 137 k ∧ ∀ i, 0 ≤ i → i < c → ¬ zv_bad J (J 132) k i) ?_ ?_ (J 132 0 * J 132 1).toNat 0 () (by omega) ⟨by omega, hs.1, fun i _ _ => by omega⟩
    · rintro c _ ⟨c0, c1, hc⟩ hlt kk
      have hcc := hc9 c c0 hlt
      have hrc := hr c c0 (by omega)
      unfold zk_r32 at hrc
      refine zz_Es (fun n => e_204_21 _ _ _ _ _) ?_
      by_cases hq : c = J 137 k
      · simp (maxSteps := 5000000) (disch := first | assumption | omega) only [zr_131_5, zo_rf, za_137, zz_le, zz_eq]
        refine zz_Ei (fun g => absurd g (by omega)) (fun _ => ?_)
        refine zz_Ei (fun _ => zz_Er ⟨J 137 k, rfl, Or.inr ⟨fun i i0 i1 i2 => hc i i0 (by omega), ?_⟩⟩) (fun g => absurd hq g)
        rw [if_neg (by omega)]
        omega
      · have nx : ∀ e : ¬ zv_bad J (J 132) k c, zz_E (fun n => mv_run (mv_cax (d - 1)) mm_204 n 21 [(0, .inr (.inr (some 131))), (1, .inl (mv_c k)), (3, .inl (mv_c (J 132 0 * J 132 1))), (4, .inl (mv_c (c + 1)))] [] (zz_S T J R G)) _ := fun e => kk () ⟨by omega, by omega, fun i i0 i1 => by
          by_cases q : i = c
          · rw [q]; exact e
          · exact hc i i0 (by omega)⟩
        simp (maxSteps := 5000000) (disch := first | assumption | omega) only [zr_131_5, zr_131_6, zr_131_0, zi_131, r203, zo_rI, zo_rf, za_137, za_138, za_132, zz_mul, zz_add, zz_le, zz_eq]
        refine zz_Ei (fun g => absurd g (by omega)) (fun _ => ?_)
        refine zz_Ei (fun g => absurd g hq) (fun _ => ?_)
        refine zz_Ei (fun g => nx (fun b => b.1 g)) (fun g1 => ?_)
        refine zz_Ei (fun g => nx (fun b => b.2 g)) (fun g2 => ?_)
        exact zz_Er ⟨c, rfl, Or.inl ⟨⟨c0, hlt, by omega⟩, ⟨g1, g2⟩, hc⟩⟩
    · rintro _ ⟨_, c1, hc⟩
      refine zz_Es (fun n => e_204_21 _ _ _ _ _) ?_
      simp (maxSteps := 5000000) (disch := first | assumption | omega) only [zr_131_5, zo_rf, za_137, zz_le]
      refine zz_Ei (fun _ => ?_) (fun h => absurd (Int.le_refl _) h)
      refine zz_Ei (fun g => zz_Er ⟨-4, rfl, Or.inr ⟨fun i i0 i1 i2 => hc i i0 i1, ?_⟩⟩) (fun g => zz_Er ⟨J 132 0 * J 132 1, rfl, Or.inr ⟨fun i i0 i1 i2 => hc i i0 i1, ?_⟩⟩)
      · rw [if_pos (by omega)]
      · rw [if_neg (by omega)]
        omega
  · refine ⟨zv_wr J k (-1), ?_, Or.inl ⟨hw, rfl⟩⟩
    obtain ⟨w, hw'⟩ : ∃ w, w = zv_wr J k (-1) := ⟨_, rfl⟩
    rw [← hw'] at r151 hwb hw ⊢
    refine zz_c (zz_call (by omega) t_204 rfl (fun n => e_204 _ _ _) ?_)
    simp (maxSteps := 5000000) (disch := first | assumption | omega) only [zi_131, r151, zo_rI, zz_0, zz_eq]
    refine zz_Ei (fun h => absurd h hw) (fun _ => zz_Er rfl)
theorem r_205 (hd : 1 ≤ d) (hL : ZL T R) : mv_cax d 205 [.inr (.inr (some 131))] (zz_S T J R G) = some (some (.inl (mv_c (J 132 4))), zz_S T (zz_u (zz_w J 133 (zz_c130 (J 132) (J 133))) 131 9 1) R G) := by
  refine zz_c (zz_call (by omega) t_205 rfl (fun n => e_205 _ _) ?_)
  have l := zz_loop (α := Int → Int) (run := fun c O n => mv_run (mv_cax (d - 1)) mm_205 n 2 [(0, .inr (.inr (some 131))), (1, .inl (mv_c c))] [] (zz_S T (zz_w J 133 O) R G)) (Q := fun r' => r' = (some (.inl (mv_c (J 132 4))), zz_S T (zz_u (zz_w J 133 (zz_c130 (J 132) (J 133))) 131 9 1) R G)) 130 (fun c O => 0 ≤ c ∧ ∀ y, O y = if 0 ≤ y ∧ y < c then J 132 y else J 133 y) ?_ ?_ 130 0 (J 133) (by omega) ⟨by omega, fun y => by rw [if_neg (by omega)]⟩
  · rw [zw_i] at l
    exact l
  · rintro c O ⟨c0, hO⟩ hlt kk
    have e132 : zz_w J 133 O 132 c = J 132 c := by rw [zw_n (by omega)]
    refine zz_Es (fun n => e_205_2 _ _ _) ?_
    simp (maxSteps := 5000000) (disch := first | assumption | omega) only [zr_131_0, zr_131_1, zo_rf, za_132, zs_133, e132, zz_wu, zz_le, zz_add]
    refine zz_Ei (fun g => absurd g (by omega)) (fun _ => ?_)
    exact kk _ ⟨by omega, zz_c130s c0 hO⟩
  · rintro O ⟨_, hO⟩
    have eO : O = zz_c130 (J 132) (J 133) := by
      funext y
      rw [hO y]
      rfl
    subst eO
    have e4 : zz_u (zz_w J 133 (zz_c130 (J 132) (J 133))) 131 9 1 132 4 = J 132 4 := by rw [zu_A (by omega), zw_n (by omega)]
    refine zz_Es (fun n => e_205_2 _ _ _) ?_
    simp (maxSteps := 5000000) (disch := first | assumption | omega) only [zz_le]
    refine zz_Ei (fun _ => ?_) (fun h => absurd (Int.le_refl _) h)
    simp (maxSteps := 5000000) (disch := first | assumption | omega) only [zz_z, zp_131_9, zr_131_0, zo_rf, za_132, e4]
    exact zz_Er rfl
theorem r_206 (hd : 1 ≤ d) (hL : ZL T R) (h9 : J 131 9 = 0 ∨ J 131 9 = 1) : mv_cax d 206 [.inr (.inr (some 131))] (zz_S T J R G) = some (some (.inl (mv_c (if J 131 9 = 0 then -3 else J 133 4))), zz_S T (if J 131 9 = 0 then J else zz_w J 132 (zz_c130 (J 133) (J 132))) R G) := by
  by_cases h0 : J 131 9 = 0
  · rw [if_pos h0, if_pos h0]
    refine zz_c (zz_call (by omega) t_206 rfl (fun n => e_206 _ _) ?_)
    simp (maxSteps := 5000000) (disch := first | assumption | omega) only [zg_131_9, zz_0, zz_eq]
    refine zz_Ei (fun _ => zz_Er rfl) (fun g => absurd h0 g)
  · rw [if_neg h0, if_neg h0]
    refine zz_c (zz_call (by omega) t_206 rfl (fun n => e_206 _ _) ?_)
    simp (maxSteps := 5000000) (disch := first | assumption | omega) only [zg_131_9, zz_0, zz_eq]
    refine zz_Ei (fun g => absurd g h0) (fun _ => ?_)
    have l := zz_loop (α := Int → Int) (run := fun c O n => mv_run (mv_cax (d - 1)) mm_206 n 12 [(0, .inr (.inr (some 131))), (1, .inl (mv_c c))] [] (zz_S T (zz_w J 132 O) R G)) (Q := fun r' => r' = (some (.inl (mv_c (J 133 4))), zz_S T (zz_w J 132 (zz_c130 (J 133) (J 132))) R G)) 130 (fun c O => 0 ≤ c ∧ ∀ y, O y = if 0 ≤ y ∧ y < c then J 133 y else J 132 y) ?_ ?_ 130 0 (J 132) (by omega) ⟨by omega, fun y => by rw [if_neg (by omega)]⟩
    · rw [zw_i] at l
      exact l
    · rintro c O ⟨c0, hO⟩ hlt kk
      have e133 : zz_w J 132 O 133 c = J 133 c := by rw [zw_n (by omega)]
      refine zz_Es (fun n => e_206_12 _ _ _) ?_
      simp (maxSteps := 5000000) (disch := first | assumption | omega) only [zr_131_0, zr_131_1, zo_rf, za_133, zs_132, e133, zz_wu, zz_le, zz_add]
      refine zz_Ei (fun g => absurd g (by omega)) (fun _ => ?_)
      exact kk _ ⟨by omega, zz_c130s c0 hO⟩
    · rintro O ⟨_, hO⟩
      have eO : O = zz_c130 (J 133) (J 132) := by
        funext y
        rw [hO y]
        rfl
      subst eO
      have e4 : zz_w J 132 (zz_c130 (J 133) (J 132)) 132 4 = J 133 4 := by rw [zw_s]; exact z130 (by omega)
      refine zz_Es (fun n => e_206_12 _ _ _) ?_
      simp (maxSteps := 5000000) (disch := first | assumption | omega) only [zz_le, zr_131_0, zo_rf, za_132, e4]
      refine zz_Ei (fun _ => zz_Er rfl) (fun h => absurd (Int.le_refl _) h)
end ZRCT
