/-! PURE LAYER, 112: the reference's seam -/
section ZRSEA
variable {T : List mv_T} {J : Nat → Int → Int} {R : Nat → Nat → Option Nat} {G : Nat → Nat → Int64} {d : Nat} {Y : Int} {k : Int}
theorem zq_rc {P C r x : Int} (hP : 2 ≤ P ∧ P ≤ 4) (hC : 2 ≤ C ∧ C ≤ 4) (r0 : 0 ≤ r) (r1 : r < P) (x0 : 0 ≤ x) (x1 : x < C) : 0 ≤ r * C + x ∧ r * C + x < P * C := by
  rcases (show C = 2 ∨ C = 3 ∨ C = 4 by omega) with q | q | q <;> rw [q] at x1 ⊢ <;> omega
theorem zq_sd_st {V : Nat → Int → Int} {k e c c' : Int} (h : zk_mo (V 138 (100 * k + c))) (h' : zk_mo (V 138 (100 * e + c'))) : (-4 ≤ zq_sd V k c ∧ zq_sd V k c ≤ 9) ∧ (-4 ≤ zq_sd V e c' ∧ zq_sd V e c' ≤ 9) ∧ zv_st (V 138 (100 * k + c)) (V 138 (100 * e + c')) = if 0 ≤ zq_sd V k c ∧ 0 ≤ zq_sd V e c' ∧ 2 < ((zq_sd V k c - zq_sd V e c').natAbs : Int) then 1 else 0 := by
  unfold zk_mo at h h'
  unfold zq_sd zv_st
  generalize V 138 (100 * k + c) = x at *
  generalize V 138 (100 * e + c') = y at *
  by_cases q : x = 99
  · rw [if_pos q, if_neg (show ¬ (x ≠ 99 ∧ y ≠ 99 ∧ 2 < ((x - y).natAbs : Int)) from fun g => g.1 q)]
    refine ⟨by omega, ?_, ?_⟩
    · split <;> omega
    · rw [if_neg (fun g => by omega)]
  · rw [if_neg q]
    by_cases q' : y = 99
    · rw [if_pos q', if_neg (show ¬ (x ≠ 99 ∧ y ≠ 99 ∧ 2 < ((x - y).natAbs : Int)) from fun g => g.2.1 q')]
      exact ⟨by omega, by omega, by rw [if_neg (fun g => by omega)]⟩
    · rw [if_neg q']
      refine ⟨by omega, by omega, ?_⟩
      by_cases w : 2 < ((x - y).natAbs : Int)
      · rw [if_pos ⟨q, q', w⟩, if_pos ⟨by omega, by omega, w⟩]
      · rw [if_neg (fun g => w g.2.2), if_neg (fun g => w g.2.2)]
theorem r_198a {e col jn : Int} {A : Int → Int} (hd : 3 ≤ d) (hL : ZL T R) (hA : zz_ok Y A) (hAe : J 132 = A) (hk : zk_kd J) (hkk : 0 ≤ k ∧ k < 8) (hee : 0 ≤ e ∧ e < 8) (v1 : J 135 k = 2) (v2 : J 135 e = 2) (m1 : zk_mp J k (A 0 * A 1)) (m2 : zk_mp J e (A 0 * A 1)) (hc : 1 ≤ col ∧ col < A 1) (hj : jn = 0 ∨ jn = 1) : zz_E (fun n => mv_run (mv_cax d) mm_198 n 105 [(0, .inr (.inr (some 131))), (1, .inl (mv_c k)), (2, .inl (mv_c e)), (3, .inl (mv_c col)), (4, .inl (mv_c jn)), (7, .inl (mv_c 0)), (8, .inl (mv_c 0))] [] (zz_S T J R G)) (fun r => r = (some (.inl (mv_c (zz_sum (fun r => zv_st (J 138 (100 * k + (r * A 1 + col - 1))) (J 138 (100 * e + (r * A 1 + col)))) (A 0)))), zz_S T (zz_w J 132 (if jn = 0 then A else zv_smA J A k e col)) R G)) := by
  have hN := hA.n
  obtain ⟨hP1, hP2, hC1, hC2⟩ := hA.1
  obtain ⟨F, hF⟩ : ∃ F : Int → Int, F = fun r => zv_st (J 138 (100 * k + (r * A 1 + col - 1))) (J 138 (100 * e + (r * A 1 + col))) := ⟨_, rfl⟩
  rw [← hF]
  refine zz_loop (α := Unit) (run := fun c _ n => mv_run (mv_cax d) mm_198 n 105 [(0, .inr (.inr (some 131))), (1, .inl (mv_c k)), (2, .inl (mv_c e)), (3, .inl (mv_c col)), (4, .inl (mv_c jn)), (7, .inl (mv_c (zz_sum F c))), (8, .inl (mv_c c))] [] (zz_S T J R G)) (A 0) (fun c _ => 0 ≤ c) ?_ ?_ (A 0).toNat 0 () (by omega) (by omega)
  · rintro c _ c0 hlt kk
    have kk := kk () (by omega)
    rw [zz_sum1 c0] at kk
    have b1 := zq_rc (x := col - 1) ⟨hP1, hP2⟩ ⟨hC1, hC2⟩ c0 hlt (by omega) (by omega)
    have b2 := zq_rc (x := col) ⟨hP1, hP2⟩ ⟨hC1, hC2⟩ c0 hlt (by omega) (by omega)
    rw [show c * A 1 + (col - 1) = c * A 1 + col - 1 by omega] at b1
    have ra := r_161 (T := T) (J := J) (R := R) (G := G) (d := d) (k := k) (c := c * A 1 + col - 1) (by omega) hL hk hkk.1 hkk.2 v1 (by omega) (by omega)
    have rb := r_161 (T := T) (J := J) (R := R) (G := G) (d := d) (k := e) (c := c * A 1 + col) (by omega) hL hk hee.1 hee.2 v2 (by omega) (by omega)
    obtain ⟨sa, sb, st⟩ := zq_sd_st (V := J) (k := k) (e := e) (c := c * A 1 + col - 1) (c' := c * A 1 + col) (m1.2 _ b1.1 (by rw [m1.1]; omega)) (m2.2 _ b2.1 (by rw [m2.1]; omega))
    have eF : F c = if 0 ≤ zq_sd J k (c * A 1 + col - 1) ∧ 0 ≤ zq_sd J e (c * A 1 + col) ∧ 2 < ((zq_sd J k (c * A 1 + col - 1) - zq_sd J e (c * A 1 + col)).natAbs : Int) then 1 else 0 := by
      rw [hF]
      exact st
    generalize zq_sd J k (c * A 1 + col - 1) = x at *
    generalize zq_sd J e (c * A 1 + col) = y at *
    have r139 := r_139 (c := x - y) (σ := zz_S T J R G) (d := d) (by omega) (by omega) (by omega)
    have e0 : J 132 0 = A 0 := by rw [hAe]
    have e1 : J 132 1 = A 1 := by rw [hAe]
    refine zz_Es (fun n => e_198_105 _ _ _ _ _ _ _ _) ?_
    simp (maxSteps := 5000000) (disch := first | assumption | omega) only [zr_131_0, zo_rf, za_132, e0, e1, zi_131, zz_mul, zz_add, zz_sub, ra, rb, zo_rI, r139, zz_0, zz_le, zz_lt, Int.add_zero]
    refine zz_Ei (fun g => absurd g (by omega)) (fun _ => ?_)
    refine zz_Ei (fun g => ?_) (fun g1 => ?_)
    · rw [if_neg (fun q => by omega)] at eF
      rw [eF, Int.add_zero] at kk
      exact kk
    refine zz_Ei (fun g => ?_) (fun g2 => ?_)
    · rw [if_neg (fun q => by omega)] at eF
      rw [eF, Int.add_zero] at kk
      exact kk
    refine zz_Ei (fun g => ?_) (fun g3 => ?_)
    · rw [if_neg (fun q => by omega)] at eF
      rw [eF, Int.add_zero] at kk
      exact kk
    · rw [if_pos ⟨by omega, by omega, by omega⟩] at eF
      rw [eF] at kk
      exact kk
  · rintro _ _
    have e0 : J 132 0 = A 0 := by rw [hAe]
    refine zz_Es (fun n => e_198_105 _ _ _ _ _ _ _ _) ?_
    simp (maxSteps := 5000000) (disch := first | assumption | omega) only [zr_131_0, zo_rf, za_132, e0, zz_le]
    refine zz_Ei (fun _ => ?_) (fun h => absurd (Int.le_refl _) h)
    generalize zz_sum F (A 0) = W
    by_cases h0 : jn = 0
    · subst h0
      have r135 := r_135 (T := T) (J := J) (R := R) (G := G) (d := d) (by omega) hL
      rw [if_pos rfl, ← hAe, zw_i]
      refine zz_Es (fun n => e_198_195 _ _ _ _ _ _ _ _) ?_
      simp (maxSteps := 5000000) (disch := first | assumption | omega) only [zi_131, r135, zo_rI, zz_0, if_true]
      refine zz_Ei (fun _ => zz_Er rfl) (fun _ => ?_)
      first
        | exact zz_Er rfl
        | exact zz_Ei (fun _ => zz_Er rfl) (fun h => absurd trivial h)
        | exact zz_Ei (fun _ => zz_Er rfl) (fun h => absurd rfl h)
    · rw [if_neg h0]
      have h1 : jn = 1 := by omega
      subst h1
      have l := zz_loop (α := Int → Int) (run := fun c O n => mv_run (mv_cax d) mm_198 n 195 [(0, .inr (.inr (some 131))), (1, .inl (mv_c k)), (2, .inl (mv_c e)), (3, .inl (mv_c col)), (4, .inl (mv_c 1)), (7, .inl (mv_c W)), (8, .inl (mv_c c))] [] (zz_S T (zz_w J 132 O) R G)) (Q := fun r => r = (some (.inl (mv_c W)), zz_S T (zz_w J 132 (zv_smA J A k e col)) R G)) (A 0 * A 1) (fun c O => 0 ≤ c ∧ ∀ y, O y = if 24 ≤ y ∧ y < 24 + c then zq_sd J (if (y - 24) % A 1 < col then k else e) (y - 24) else A y) ?_ ?_ (A 0 * A 1).toNat 0 A (by omega) ⟨by omega, fun y => by rw [if_neg (by omega)]⟩
      · rw [← hAe, zw_i] at l
        rw [← hAe]
        exact l
      · rintro c O ⟨c0, hO⟩ hlt kk
        have o0 : O 0 = A 0 := by rw [hO, if_neg (by omega)]
        have o1 : O 1 = A 1 := by rw [hO, if_neg (by omega)]
        have r135 := r_135 (T := T) (J := zz_w J 132 O) (R := R) (G := G) (d := d) (by omega) hL
        rw [zw_s, o0, o1] at r135
        have e1 : zz_w J 132 O 132 1 = A 1 := by rw [zw_s, o1]
        have es : ∀ k, zq_sd (zz_w J 132 O) k c = zq_sd J k c := fun k => by
          unfold zq_sd
          rw [zw_n (by omega)]
        have ra := r_161 (T := T) (J := zz_w J 132 O) (R := R) (G := G) (d := d) (k := k) (c := c) (by omega) hL (zq_kdf hk (fun x x1 x2 => zw_n (by omega))) hkk.1 hkk.2 (by rw [zw_n (by omega)]; exact v1) c0 (by omega)
        have rb := r_161 (T := T) (J := zz_w J 132 O) (R := R) (G := G) (d := d) (k := e) (c := c) (by omega) hL (zq_kdf hk (fun x x1 x2 => zw_n (by omega))) hee.1 hee.2 (by rw [zw_n (by omega)]; exact v2) c0 (by omega)
        rw [es] at ra rb
        have hmd : 0 ≤ c % A 1 ∧ c % A 1 < A 1 := ⟨Int.emod_nonneg _ (by omega), Int.emod_lt_of_pos _ (by omega)⟩
        have nx : ∀ q, q = (if c % A 1 < col then k else e) → zz_E (fun n => mv_run (mv_cax d) mm_198 n 195 [(0, .inr (.inr (some 131))), (1, .inl (mv_c k)), (2, .inl (mv_c e)), (3, .inl (mv_c col)), (4, .inl (mv_c 1)), (7, .inl (mv_c W)), (8, .inl (mv_c (c + 1)))] [] (zz_S T (zz_w J 132 (zz_f O (24 + c) (zq_sd J q c))) R G)) (fun r => r = (some (.inl (mv_c W)), zz_S T (zz_w J 132 (zv_smA J A k e col)) R G)) := fun q hq => kk _ ⟨by omega, fun y => by
          by_cases qy : y = 24 + c
          · rw [qy, zf_s, if_pos (by omega), show 24 + c - 24 = c by omega, hq]
          · rw [zf_n qy, hO y]
            by_cases q' : 24 ≤ y ∧ y < 24 + c
            · rw [if_pos q', if_pos (show 24 ≤ y ∧ y < 24 + (c + 1) by omega)]
            · rw [if_neg q', if_neg (show ¬ (24 ≤ y ∧ y < 24 + (c + 1)) by omega)]⟩
        refine zz_Es (fun n => e_198_195 _ _ _ _ _ _ _ _) ?_
        simp (maxSteps := 5000000) (disch := first | assumption | omega) only [zi_131, r135, zo_rI, zo_rf, zr_131_0, za_132, e1, zz_0, zz_dv, zz_div, zz_mul, zz_sub, zz_md, zz_le, zz_add, zz_eq, ra, rb, zs_132, zz_wu]
        refine zz_Ei (fun g => absurd g (by omega)) (fun _ => ?_)
        try (refine zz_Ei (fun h => absurd (show (1 : Int) = 0 from h) (by omega)) (fun _ => ?_))
        refine zz_Ei (fun g => ?_) (fun g => ?_)
        · exact nx e (by rw [if_neg (by omega)])
        · exact nx k (by rw [if_pos (by omega)])
      · rintro O ⟨_, hO⟩
        have o0 : O 0 = A 0 := by rw [hO, if_neg (by omega)]
        have o1 : O 1 = A 1 := by rw [hO, if_neg (by omega)]
        have r135 := r_135 (T := T) (J := zz_w J 132 O) (R := R) (G := G) (d := d) (by omega) hL
        rw [zw_s, o0, o1] at r135
        have eO : O = zv_smA J A k e col := by
          funext y
          rw [hO y]
          rfl
        refine zz_Es (fun n => e_198_195 _ _ _ _ _ _ _ _) ?_
        simp (maxSteps := 5000000) (disch := first | assumption | omega) only [zi_131, r135, zo_rI, zz_le]
        refine zz_Ei (fun _ => zz_Er (by rw [eO])) (fun h => absurd (Int.le_refl _) h)
theorem r_198 {e col jn : Int} (hd : 5 ≤ d) (hL : ZL T R) (hA : zz_ok Y (J 132)) (hk : zk_kd J) (h1 : zk_r32 k) (h2 : zk_r32 e) (h3 : zk_r32 col) (h4 : jn = 0 ∨ jn = 1) : mv_cax d 198 [.inr (.inr (some 131)), .inl (mv_c k), .inl (mv_c e), .inl (mv_c col), .inl (mv_c jn)] (zz_S T J R G) = some (some (.inl (mv_c (zv_seam J (J 132) k e col jn).1)), zz_S T (zz_w J 132 (zv_seam J (J 132) k e col jn).2) R G) := by
  obtain ⟨h1, h1'⟩ := h1
  obtain ⟨h2, h2'⟩ := h2
  obtain ⟨h3, h3'⟩ := h3
  have hC := hA.1
  have ra := r_138 (c := k) (σ := zz_S T J R G) (d := d - 1) (by omega) h1 h1'
  have rb := r_138 (c := e) (σ := zz_S T J R G) (d := d - 1) (by omega) h2 h2'
  by_cases hr : (0 ≤ k ∧ k < 8) ∧ (0 ≤ e ∧ e < 8) ∧ 1 ≤ col ∧ col < J 132 1
  · obtain ⟨hkk, hee, hcc⟩ := hr
    have ka : 0 ≤ J 135 k ∧ J 135 k ≤ 2 := by rcases hk k hkk.1 hkk.2 with h | h | h <;> omega
    have kb : 0 ≤ J 135 e ∧ J 135 e ≤ 2 := by rcases hk e hee.1 hee.2 with h | h | h <;> omega
    by_cases hn : J 135 k = 0 ∨ J 135 e = 0
    · have ev : zv_seam J (J 132) k e col jn = (-11, J 132) := by
        unfold zv_seam
        rw [if_pos ⟨hkk, hee, hcc⟩, if_pos hn]
      rw [ev, zw_i]
      refine zz_c (zz_call (by omega) t_198 rfl (fun n => e_198 _ _ _ _ _ _) ?_)
      simp (maxSteps := 5000000) (disch := first | assumption | omega) only [ra, rb, r_134, zz_l, zz_l0, zz_l1, zz_sub, zo_rI, zo_rf, zr_131_0, za_132, zr_131_3, za_135, zz_0, zz_eq]
      refine zz_Ei (fun g => absurd hkk (by first | exact g | (rw [zz_be0] at g; exact g))) (fun _ => ?_)
      refine zz_Ei (fun g => absurd hee (by first | exact g | (rw [zz_be0] at g; exact g))) (fun _ => ?_)
      refine zz_Ei (fun g => absurd (show 1 ≤ col ∧ col ≤ J 132 1 - 1 by omega) (by first | exact g | (rw [zz_be0] at g; exact g))) (fun _ => ?_)
      refine zz_Ei (fun _ => zz_Er rfl) (fun g1 => ?_)
      refine zz_Ei (fun _ => zz_Er rfl) (fun g2 => absurd hn (by omega))
    · obtain ⟨wa, r160a, hwa⟩ := r_160 (T := T) (J := J) (R := R) (G := G) (d := d - 1) (Y := Y) (by omega) hL hA hk h1 h1'
      obtain ⟨wb, r160b, hwb⟩ := r_160 (T := T) (J := J) (R := R) (G := G) (d := d - 1) (Y := Y) (by omega) hL hA hk h2 h2'
      have ca : (wa = -12 ∧ ¬ (J 135 k = 2 ∧ J 136 k = 0)) ∨ (J 135 k = 2 ∧ J 136 k = 0) ∧ ((wa = -13 ∧ ¬ zk_mp J k (J 132 0 * J 132 1)) ∨ (wa = 0 ∧ zk_mp J k (J 132 0 * J 132 1))) := by
        rcases zv_wr_c J k 0 with ⟨q, q'⟩ | ⟨_, ⟨q, q'⟩ | ⟨q, q', q''⟩ | ⟨q, q', q''⟩⟩
        · exact absurd hkk q'
        · omega
        · rcases hwa with ⟨p1, p2⟩ | ⟨p1, p2, p3⟩ | ⟨p1, p2, p3⟩
          · exact Or.inl ⟨by omega, fun g => q'' ⟨g.1, Or.inr g.2⟩⟩
          · omega
          · omega
        · rcases hwa with ⟨p1, p2⟩ | ⟨p1, p2, p3⟩ | ⟨p1, p2, p3⟩
          · omega
          · exact Or.inr ⟨⟨q', by omega⟩, Or.inl ⟨p3, p2⟩⟩
          · exact Or.inr ⟨⟨q', by omega⟩, Or.inr ⟨p3, p2⟩⟩
      have cb : (wb = -12 ∧ ¬ (J 135 e = 2 ∧ J 136 e = 0)) ∨ (J 135 e = 2 ∧ J 136 e = 0) ∧ ((wb = -13 ∧ ¬ zk_mp J e (J 132 0 * J 132 1)) ∨ (wb = 0 ∧ zk_mp J e (J 132 0 * J 132 1))) := by
        rcases zv_wr_c J e 0 with ⟨q, q'⟩ | ⟨_, ⟨q, q'⟩ | ⟨q, q', q''⟩ | ⟨q, q', q''⟩⟩
        · exact absurd hee q'
        · omega
        · rcases hwb with ⟨p1, p2⟩ | ⟨p1, p2, p3⟩ | ⟨p1, p2, p3⟩
          · exact Or.inl ⟨by omega, fun g => q'' ⟨g.1, Or.inr g.2⟩⟩
          · omega
          · omega
        · rcases hwb with ⟨p1, p2⟩ | ⟨p1, p2, p3⟩ | ⟨p1, p2, p3⟩
          · omega
          · exact Or.inr ⟨⟨q', by omega⟩, Or.inl ⟨p3, p2⟩⟩
          · exact Or.inr ⟨⟨q', by omega⟩, Or.inr ⟨p3, p2⟩⟩
      have wab : -13 ≤ wa ∧ wa ≤ 0 := by rcases ca with q | ⟨_, q | q⟩ <;> omega
      have wbb : -13 ≤ wb ∧ wb ≤ 0 := by rcases cb with q | ⟨_, q | q⟩ <;> omega
      have hd1 : ∀ res : Int × (Int → Int), zv_seam J (J 132) k e col jn = res → (∀ a b : Int, a = wa → b = wb → (a = -12 ∨ b = -12) → res = (-12, J 132)) → (∀ a b : Int, a = wa → b = wb → ¬ (a = -12 ∨ b = -12) → ¬ (a = 0 ∧ b = 0) → res = (-13, J 132)) → (wa = 0 → wb = 0 → zz_E (fun n => mv_run (mv_cax (d - 1)) mm_198 n 105 [(0, .inr (.inr (some 131))), (1, .inl (mv_c k)), (2, .inl (mv_c e)), (3, .inl (mv_c col)), (4, .inl (mv_c jn)), (7, .inl (mv_c 0)), (8, .inl (mv_c 0))] [] (zz_S T J R G)) (fun r => r = (some (.inl (mv_c res.1)), zz_S T (zz_w J 132 res.2) R G))) → mv_cax d 198 [.inr (.inr (some 131)), .inl (mv_c k), .inl (mv_c e), .inl (mv_c col), .inl (mv_c jn)] (zz_S T J R G) = some (some (.inl (mv_c res.1)), zz_S T (zz_w J 132 res.2) R G) := by
        intro res hres q12 q13 q0
        refine zz_c (zz_call (by omega) t_198 rfl (fun n => e_198 _ _ _ _ _ _) ?_)
        simp (maxSteps := 5000000) (disch := first | assumption | omega) only [ra, rb, r_134, zz_l, zz_l0, zz_l1, zz_sub, zo_rI, zo_rf, zr_131_0, za_132, zr_131_3, za_135, zi_131, r160a, r160b, zz_0, zz_eq]
        refine zz_Ei (fun g => absurd hkk (by first | exact g | (rw [zz_be0] at g; exact g))) (fun _ => ?_)
        refine zz_Ei (fun g => absurd hee (by first | exact g | (rw [zz_be0] at g; exact g))) (fun _ => ?_)
        refine zz_Ei (fun g => absurd (show 1 ≤ col ∧ col ≤ J 132 1 - 1 by omega) (by first | exact g | (rw [zz_be0] at g; exact g))) (fun _ => ?_)
        refine zz_Ei (fun g => absurd (Or.inl g) hn) (fun _ => ?_)
        refine zz_Ei (fun g => absurd (Or.inr g) hn) (fun _ => ?_)
        refine zz_Ei (fun g => zz_Er (by rw [q12 wa wb rfl rfl (Or.inl g), zw_i])) (fun g1 => ?_)
        refine zz_Ei (fun g => zz_Er (by rw [q12 wa wb rfl rfl (Or.inr g), zw_i])) (fun g2 => ?_)
        refine zz_Ei (fun g3 => ?_) (fun g3 => zz_Er (by rw [q13 wa wb rfl rfl (by omega) (by omega), zw_i]))
        refine zz_Ei (fun g4 => q0 g3 g4) (fun g4 => zz_Er (by rw [q13 wa wb rfl rfl (by omega) (by omega), zw_i]))
      refine hd1 _ rfl (fun a b ea eb h => ?_) (fun a b ea eb h h' => ?_) (fun w0 w0' => ?_)
      · unfold zv_seam
        rw [if_pos ⟨hkk, hee, hcc⟩, if_neg hn, if_neg]
        intro q
        rcases ca with p | ⟨_, p | p⟩ <;> rcases cb with p' | ⟨_, p' | p'⟩ <;> first | omega | exact p.2 q.1 | exact p'.2 q.2
      · rcases ca with p | ⟨p0, p⟩
        · omega
        · rcases cb with p' | ⟨p0', p'⟩
          · omega
          · unfold zv_seam
            rw [if_pos ⟨hkk, hee, hcc⟩, if_neg hn, if_pos ⟨p0, p0'⟩, if_neg]
            intro q
            rcases p with p | p
            · exact p.2 q.1
            · rcases p' with p' | p'
              · exact p'.2 q.2
              · omega
      · have p : (J 135 k = 2 ∧ J 136 k = 0) ∧ zk_mp J k (J 132 0 * J 132 1) := by
          rcases ca with p | ⟨p0, p | p⟩
          · omega
          · omega
          · exact ⟨p0, p.2⟩
        have p' : (J 135 e = 2 ∧ J 136 e = 0) ∧ zk_mp J e (J 132 0 * J 132 1) := by
          rcases cb with p | ⟨p0, p | p⟩
          · omega
          · omega
          · exact ⟨p0, p.2⟩
        have tl := r_198a (T := T) (J := J) (R := R) (G := G) (d := d - 1) (Y := Y) (k := k) (e := e) (col := col) (jn := jn) (A := J 132) (by omega) hL hA rfl hk hkk hee p.1.1 p'.1.1 p.2 p'.2 hcc h4
        have ev : zv_seam J (J 132) k e col jn = (zz_sum (fun r => zv_st (J 138 (100 * k + (r * J 132 1 + col - 1))) (J 138 (100 * e + (r * J 132 1 + col)))) (J 132 0), if jn = 0 then J 132 else zv_smA J (J 132) k e col) := by
          unfold zv_seam
          rw [if_pos ⟨hkk, hee, hcc⟩, if_neg hn, if_pos ⟨p.1, p'.1⟩, if_pos ⟨p.2, p'.2⟩]
          by_cases q : jn = 0
          · rw [if_pos q, if_pos q]
          · rw [if_neg q, if_neg q]
        rw [ev]
        exact tl
  · have ev : zv_seam J (J 132) k e col jn = (-1, J 132) := by
      unfold zv_seam
      rw [if_neg hr]
    rw [ev, zw_i]
    refine zz_c (zz_call (by omega) t_198 rfl (fun n => e_198 _ _ _ _ _ _) ?_)
    simp (maxSteps := 5000000) (disch := first | assumption | omega) only [ra, rb, r_134, zz_l, zz_l0, zz_l1, zz_sub, zo_rI, zo_rf, zr_131_0, za_132, zz_0]
    refine zz_Ei (fun _ => zz_Er rfl) (fun g1 => ?_)
    have g1 : 0 ≤ k ∧ k < 8 := Decidable.not_not.mp (by first | exact g1 | (rw [zz_be0] at g1; exact g1))
    refine zz_Ei (fun _ => zz_Er rfl) (fun g2 => ?_)
    have g2 : 0 ≤ e ∧ e < 8 := Decidable.not_not.mp (by first | exact g2 | (rw [zz_be0] at g2; exact g2))
    refine zz_Ei (fun _ => zz_Er rfl) (fun g3 => ?_)
    have g3 : 1 ≤ col ∧ col ≤ J 132 1 - 1 := Decidable.not_not.mp (by first | exact g3 | (rw [zz_be0] at g3; exact g3))
    exact absurd ⟨g1, g2, g3.1, by omega⟩ hr
end ZRSEA
