/-! PURE LAYER, 78: the class: who is chosen -/
/-- the first greatest of f 0 .. f m -/
def zv_am (f : Int → Int) : Nat → Int
  | 0 => 0
  | m + 1 => if f (zv_am f m) < f ((m : Int) + 1) then (m : Int) + 1 else zv_am f m
theorem zv_am_r (f : Int → Int) : ∀ m : Nat, 0 ≤ zv_am f m ∧ zv_am f m ≤ m
  | 0 => ⟨Int.le_refl _, Int.le_refl _⟩
  | m + 1 => by
    have := zv_am_r f m
    unfold zv_am
    split <;> omega
theorem zv_am_c {f f' : Int → Int} : ∀ m : Nat, (∀ i : Int, 0 ≤ i → i ≤ m → f i = f' i) → zv_am f m = zv_am f' m
  | 0, _ => rfl
  | m + 1, h => by
    have ih := zv_am_c m (fun i i0 i1 => h i i0 (by omega))
    have r := zv_am_r f' m
    unfold zv_am
    rw [ih, h (zv_am f' m) r.1 (by omega), h ((m : Int) + 1) (by omega) (by omega)]
theorem zv_am1 {f : Int → Int} {c : Int} (h : 0 ≤ c) : zv_am f (c + 1).toNat = if f (zv_am f c.toNat) < f (c + 1) then c + 1 else zv_am f c.toNat := by
  obtain ⟨m, rfl⟩ := Int.eq_ofNat_of_zero_le h
  have e1 : ((m : Int) + 1).toNat = m + 1 := by omega
  have e2 : (m : Int).toNat = m := by omega
  rw [e1, e2]
  rfl
def zv_fav (W : Int → Int → Int) (n e : Int) : Int := zv_am (fun d => W e d) (n - 1).toNat
def zv_mine (W : Int → Int → Int) (n m d : Int) : Int := zz_sum (fun e => if zv_fav W n e = d then 1 else 0) m
def zv_chv (W : Int → Int → Int) (S : Int → Int) (n w : Int) : Int := if w = 0 then zv_am (zv_mine W n n) (n - 1).toNat else if w = 1 then zv_mine W n n (zv_am (zv_mine W n n) (n - 1).toNat) else zv_am S (n - 1).toNat
def zv_chosen (A : Int → Int) (w v : Int) : Prop := (¬ (0 ≤ w ∧ w ≤ 2) ∧ v = -1) ∨ ((0 ≤ w ∧ w ≤ 2) ∧ ((A 7 = 0 ∧ v = -3) ∨ (A 7 ≠ 0 ∧ ∃ g : Int → Int → Int, (∀ d, 0 ≤ d → d < A 7 → zz_dr A d (g d)) ∧ v = zv_chv (fun e d => zz_wo A (g d) e) (fun d => zz_wa A (g d)) (A 7) w)))
theorem zv_fav_c {W W' : Int → Int → Int} {n e : Int} (h : ∀ d, 0 ≤ d → d < n → W e d = W' e d) (hn : 1 ≤ n) : zv_fav W n e = zv_fav W' n e := zv_am_c _ (fun i i0 i1 => h i i0 (by omega))
theorem zv_chv_c {W W' : Int → Int → Int} {S S' : Int → Int} {n w : Int} (hn : 1 ≤ n) (h : ∀ e d, 0 ≤ e → e < n → 0 ≤ d → d < n → W e d = W' e d) (hS : ∀ d, 0 ≤ d → d < n → S d = S' d) : zv_chv W S n w = zv_chv W' S' n w := by
  have hm : ∀ d, zv_mine W n n d = zv_mine W' n n d := fun d => zz_sum_c (by omega) (fun e e0 e1 => by
    show (if zv_fav W n e = d then (1 : Int) else 0) = if zv_fav W' n e = d then 1 else 0
    rw [zv_fav_c (fun i i0 i1 => h e i e0 e1 i0 i1) hn])
  have hm' : zv_mine W n n = zv_mine W' n n := funext hm
  unfold zv_chv
  rw [hm', zv_am_c _ (fun i i0 i1 => hS i i0 (by omega))]
theorem zv_chosen_u {Y : Int} {A : Int → Int} {w v v' : Int} (hA : zz_ok Y A) (h : zv_chosen A w v) (h' : zv_chosen A w v') : v = v' := by
  have h7 := hA.2.2.2.2.2.2.1
  rcases h with ⟨p1, p2⟩ | ⟨p1, ⟨p2, p3⟩ | ⟨p2, g, p3, p4⟩⟩
  · rcases h' with ⟨q1, q2⟩ | ⟨q1, -⟩
    · omega
    · exact absurd q1 p1
  · rcases h' with ⟨q1, q2⟩ | ⟨q1, ⟨q2, q3⟩ | ⟨q2, -⟩⟩
    · exact absurd p1 q1
    · omega
    · exact absurd p2 q2
  · rcases h' with ⟨q1, q2⟩ | ⟨q1, ⟨q2, q3⟩ | ⟨q2, g', q3, q4⟩⟩
    · exact absurd p1 q1
    · exact absurd q2 p2
    · rw [p4, q4]
      have hg : ∀ d, 0 ≤ d → d < A 7 → ∀ c, 0 ≤ c → c < A 0 * A 1 → g d c = g' d c := fun d d0 d1 => zz_dr_u hA.n.2 (p3 d d0 d1) (q3 d d0 d1)
      exact zv_chv_c (by omega) (fun e d e0 e1 d0 d1 => zk_wo_c hA e0 e1 (hg d d0 d1)) (fun d d0 d1 => zk_wa_c hA (hg d d0 d1))
section ZCHO
variable {T : List mv_T} {J V : Nat → Int → Int} {R : Nat → Nat → Option Nat} {G : Nat → Nat → Int64} {d p q : Nat} {k Y : Int} {A : Int → Int}
/-- maps in the plans -/
def zk_pls (A : Int → Int) (g : Int → Int → Int) (n : Int) (J : Nat → Int → Int) : Prop := ∀ e, 0 ≤ e → e < n → ∀ c, 0 ≤ c → c < A 0 * A 1 → J (108 + e.toNat) c = g e c ∧ 0 ≤ g e c ∧ g e c ≤ 9
theorem c_131 {g : Int → Int → Int} (hd : 4 ≤ d) (hL : ZL T R) (hA : zz_ok Y A) (hR : zc_rep T R J 17 A) (h1 : 1 ≤ A 7) (hp : zk_pls A g (A 7) J) : mv_cax d 131 [.inr (.inr (some 16)), .inl (mv_c (A 7))] (zz_S T J R G) = some (some (.inl (mv_c (zv_am (fun d => zz_wa A (g d)) (A 7 - 1).toNat))), (zz_S T J R G)) := by
  have h7 := hA.2.2.2.2.2.2.1
  have c59 : ∀ e, 0 ≤ e → e < A 7 → mv_cax (d - 1) 59 [.inr (.inr (some 17)), .inr (.inr (some (108 + e.toNat)))] (zz_S T J R G) = some (some (.inl (mv_c (zz_wa A (g e)))), (zz_S T J R G)) := fun e e0 e1 => by
    have := c_59 (T := T) (J := J) (R := R) (G := G) (d := d - 1) (p := 17) (g := 108 + e.toNat) (by omega) hL (by omega) hA hR (zz_plt hL _ (by omega)) (fun c c0 c1 => by rw [(hp e e0 e1 c c0 c1).1]; exact (hp e e0 e1 c c0 c1).2)
    rw [zk_wa_c hA (fun c c0 c1 => (hp e e0 e1 c c0 c1).1)] at this
    exact this
  have wb : ∀ e, 0 ≤ zz_wa A (g e) ∧ zz_wa A (g e) ≤ 2376 := fun e => zz_wa_b hA
  have w0 := wb 0
  have c590 := c59 0 (by omega) (by omega)
  refine zz_c (zz_call (by omega) t_131 rfl (fun n => e_131 _ _ _) ?_)
  simp (maxSteps := 5000000) (disch := first | assumption | omega) only [zr_16_11, zr_pl, c590, zr_16_0, zr_16_1, zr_16_2, zr_16_3, zr_16_7, zr_16_8, zr_16_9, zi_16, zi_L, zi_H, zi_73, zi_78, zg_L_0, zg_L_1, zg_L_2, zg_L_3, zg_L_4, zg_L_5, zg_L_6, zg_L_7, zz_0, zz_31, zz_add, zz_sub, zz_mul, zz_neg, zz_lt, zz_le, zz_eq, zz_div, zz_md, zz_dv, zz_abs, zz_max, zz_min, zz_nI, zz_be0, zz_be1, zz_zb, zz_z, zz_l0, zz_l, zz_lcmp, zo_rf, zo_nl, zo_nn, zo_rI, zo_rL, zo_rR, zo_rV, Int.add_zero, Int.zero_add, Int.mul_zero, Int.zero_mul, Int.one_mul, Int.mul_one, if_true, if_false, not_true_eq_false, not_false_eq_true]
  refine zz_loop (α := Unit) (run := fun c _ n => mv_run (mv_cax (d - 1)) mm_131 n 19 [(0, .inr (.inr (some 16))), (1, .inl (mv_c (A 7))), (2, .inl (mv_c (zv_am (fun d => zz_wa A (g d)) (c - 1).toNat))), (3, .inl (mv_c (zz_wa A (g (zv_am (fun d => zz_wa A (g d)) (c - 1).toNat))))), (4, .inl (mv_c c))] [] (zz_S T J R G)) (A 7) (fun c _ => 1 ≤ c) ?_ ?_ (A 7 - 1).toNat 1 () (by omega) (by omega)
  · rintro c _ hc hlt kk
    have r := zv_am_r (fun d => zz_wa A (g d)) (c - 1).toNat
    have w1 := wb (zv_am (fun d => zz_wa A (g d)) (c - 1).toNat)
    have w2 := wb c
    have c59c := c59 c (by omega) hlt
    have s := zv_am1 (f := fun d => zz_wa A (g d)) (c := c - 1) (by omega)
    rw [show c - 1 + 1 = c by omega] at s
    have kk := kk () (by omega)
    rw [show c + 1 - 1 = c by omega] at kk
    refine zz_Es (fun n => e_131_19 _ _ _ _ _ _) ?_
    simp (maxSteps := 5000000) (disch := first | assumption | omega) only [zr_16_11, zr_pl, c59c, zr_16_0, zr_16_1, zr_16_2, zr_16_3, zr_16_7, zr_16_8, zr_16_9, zi_16, zi_L, zi_H, zi_73, zi_78, zg_L_0, zg_L_1, zg_L_2, zg_L_3, zg_L_4, zg_L_5, zg_L_6, zg_L_7, zz_0, zz_31, zz_add, zz_sub, zz_mul, zz_neg, zz_lt, zz_le, zz_eq, zz_div, zz_md, zz_dv, zz_abs, zz_max, zz_min, zz_nI, zz_be0, zz_be1, zz_zb, zz_z, zz_l0, zz_l, zz_lcmp, zo_rf, zo_nl, zo_nn, zo_rI, zo_rL, zo_rR, zo_rV, Int.add_zero, Int.zero_add, Int.mul_zero, Int.zero_mul, Int.one_mul, Int.mul_one, if_true, if_false, not_true_eq_false, not_false_eq_true]
    refine zz_Ei (fun h => absurd h (by omega)) (fun _ => ?_)
    refine zz_Ei (fun h => ?_) (fun h => ?_)
    · rw [if_neg (by show ¬ zz_wa A (g _) < zz_wa A (g c); omega)] at s
      rw [s] at kk
      exact kk
    · rw [if_pos (by show zz_wa A (g _) < zz_wa A (g c); omega)] at s
      rw [s] at kk
      exact kk
  · rintro _ hc
    have r := zv_am_r (fun d => zz_wa A (g d)) (A 7 - 1).toNat
    refine zz_Es (fun n => e_131_19 _ _ _ _ _ _) ?_
    simp (maxSteps := 5000000) (disch := first | assumption | omega) only [zz_le]
    refine zz_Ei (fun _ => ?_) (fun h => absurd (Int.le_refl _) h)
    exact zz_Er rfl
theorem c_130 {g : Int → Int → Int} (hd : 3 ≤ d) (hL : ZL T R) (hA : zz_ok Y A) (hR : zc_rep T R J 17 A) (h1 : 1 ≤ A 7) (hp : zk_pls A g (A 7) J) : ∃ O, mv_cax d 130 [.inr (.inr (some 16)), .inl (mv_c (A 7))] (zz_S T J R G) = some (none, zz_S T (zz_w J 114 O) R G) ∧ ∀ i, 0 ≤ i → i < A 7 → O i = zv_mine (fun e d => zz_wo A (g d) e) (A 7) (A 7) i := by
  have h7 := hA.2.2.2.2.2.2.1
  have h217 := c_217g (T := T) (J := J) (R := R) (G := G) (d := d - 1) (q := 114) (m := 6) (v := 0) (by omega) (hL.at 98 (by rfl)) (by omega) (by omega)
  have hR' : ∀ O, zc_rep T R (zz_w J 114 O) 17 A := fun O => zc_rep_f hR (fun x hx => zw_n (by omega))
  have c58 : ∀ (O : Int → Int) e b, 0 ≤ e → e < A 7 → 0 ≤ b → b < A 7 → mv_cax (d - 1) 58 [.inr (.inr (some 17)), .inl (mv_c e), .inr (.inr (some (108 + b.toNat)))] (zz_S T (zz_w J 114 O) R G) = some (some (.inl (mv_c (zz_wo A (g b) e))), zz_S T (zz_w J 114 O) R G) := fun O e b e0 e1 b0 b1 => by
    have := c_58 (T := T) (J := zz_w J 114 O) (R := R) (G := G) (d := d - 1) (p := 17) (e := e) (g := 108 + b.toNat) (by omega) hL (by omega) hA (hR' O) e0 e1 (zz_plt hL _ (by omega)) (fun c c0 c1 => by rw [zw_n (by omega), (hp b b0 b1 c c0 c1).1]; exact (hp b b0 b1 c c0 c1).2)
    rw [zw_n (by omega), zk_wo_c hA e0 e1 (fun c c0 c1 => (hp b b0 b1 c c0 c1).1)] at this
    exact this
  have wb : ∀ e b, 0 ≤ e → e < A 7 → 0 ≤ zz_wo A (g b) e ∧ zz_wo A (g b) e ≤ 396 := fun e b e0 e1 => zz_wo_b (hA.2.2.2.2.2.2.2.2 e e0 e1)
  suffices h : ∃ r, mv_cax d 130 [.inr (.inr (some 16)), .inl (mv_c (A 7))] (zz_S T J R G) = some r ∧ ∃ O, r = (none, zz_S T (zz_w J 114 O) R G) ∧ ∀ i, 0 ≤ i → i < A 7 → O i = zv_mine (fun e d => zz_wo A (g d) e) (A 7) (A 7) i by
    obtain ⟨r, q1, O, rfl, q2⟩ := h
    exact ⟨O, q1, q2⟩
  refine zz_call (by omega) t_130 rfl (fun n => e_130 _ _ _) ?_
  simp (maxSteps := 5000000) (disch := first | assumption | omega) only [zr_16_12, h217, zr_16_0, zr_16_1, zr_16_2, zr_16_3, zr_16_7, zr_16_8, zr_16_9, zi_16, zi_L, zi_H, zi_73, zi_78, zg_L_0, zg_L_1, zg_L_2, zg_L_3, zg_L_4, zg_L_5, zg_L_6, zg_L_7, zz_0, zz_31, zz_add, zz_sub, zz_mul, zz_neg, zz_lt, zz_le, zz_eq, zz_div, zz_md, zz_dv, zz_abs, zz_max, zz_min, zz_nI, zz_be0, zz_be1, zz_zb, zz_z, zz_l0, zz_l, zz_lcmp, zo_rf, zo_nl, zo_nn, zo_rI, zo_rL, zo_rR, zo_rV, Int.add_zero, Int.zero_add, Int.mul_zero, Int.zero_mul, Int.one_mul, Int.mul_one, if_true, if_false, not_true_eq_false, not_false_eq_true]
  refine zz_loop (α := Int → Int) (run := fun e O n => mv_run (mv_cax (d - 1)) mm_130 n 10 [(0, .inr (.inr (some 16))), (1, .inl (mv_c (A 7))), (2, .inl (mv_c e))] [] (zz_S T (zz_w J 114 O) R G)) (A 7) (fun e O => 0 ≤ e ∧ ∀ i, 0 ≤ i → i < A 7 → O i = zv_mine (fun e d => zz_wo A (g d) e) (A 7) e i) ?_ ?_ (A 7).toNat 0 _ (by omega) ⟨by omega, fun i i0 i1 => by rw [if_pos (by omega)]; rfl⟩
  · rintro e O ⟨he, hO⟩ hlt kk
    have w0 := wb e 0 he hlt
    have c580 := c58 O e 0 he hlt (by omega) (by omega)
    refine zz_Es (fun n => e_130_10 _ _ _ _) ?_
    simp (maxSteps := 5000000) (disch := first | assumption | omega) only [zr_16_11, zr_pl, c580, zr_16_0, zr_16_1, zr_16_2, zr_16_3, zr_16_7, zr_16_8, zr_16_9, zi_16, zi_L, zi_H, zi_73, zi_78, zg_L_0, zg_L_1, zg_L_2, zg_L_3, zg_L_4, zg_L_5, zg_L_6, zg_L_7, zz_0, zz_31, zz_add, zz_sub, zz_mul, zz_neg, zz_lt, zz_le, zz_eq, zz_div, zz_md, zz_dv, zz_abs, zz_max, zz_min, zz_nI, zz_be0, zz_be1, zz_zb, zz_z, zz_l0, zz_l, zz_lcmp, zo_rf, zo_nl, zo_nn, zo_rI, zo_rL, zo_rR, zo_rV, Int.add_zero, Int.zero_add, Int.mul_zero, Int.zero_mul, Int.one_mul, Int.mul_one, if_true, if_false, not_true_eq_false, not_false_eq_true]
    refine zz_Ei (fun h => absurd h (by omega)) (fun _ => ?_)
    refine zz_loop (α := Unit) (run := fun c _ n => mv_run (mv_cax (d - 1)) mm_130 n 36 [(0, .inr (.inr (some 16))), (1, .inl (mv_c (A 7))), (2, .inl (mv_c e)), (3, .inl (mv_c (zv_am (fun d => zz_wo A (g d) e) (c - 1).toNat))), (4, .inl (mv_c (zz_wo A (g (zv_am (fun d => zz_wo A (g d) e) (c - 1).toNat)) e))), (5, .inl (mv_c c))] [] (zz_S T (zz_w J 114 O) R G)) (A 7) (fun c _ => 1 ≤ c) ?_ ?_ (A 7 - 1).toNat 1 () (by omega) (by omega)
    · rintro c _ hc hlt' kk'
      have r := zv_am_r (fun d => zz_wo A (g d) e) (c - 1).toNat
      have w1 := wb e (zv_am (fun d => zz_wo A (g d) e) (c - 1).toNat) he hlt
      have w2 := wb e c he hlt
      have c58c := c58 O e c he hlt (by omega) hlt'
      have s := zv_am1 (f := fun d => zz_wo A (g d) e) (c := c - 1) (by omega)
      rw [show c - 1 + 1 = c by omega] at s
      have kk' := kk' () (by omega)
      rw [show c + 1 - 1 = c by omega] at kk'
      refine zz_Es (fun n => e_130_36 _ _ _ _ _ _ _) ?_
      simp (maxSteps := 5000000) (disch := first | assumption | omega) only [zr_16_11, zr_pl, c58c, zr_16_0, zr_16_1, zr_16_2, zr_16_3, zr_16_7, zr_16_8, zr_16_9, zi_16, zi_L, zi_H, zi_73, zi_78, zg_L_0, zg_L_1, zg_L_2, zg_L_3, zg_L_4, zg_L_5, zg_L_6, zg_L_7, zz_0, zz_31, zz_add, zz_sub, zz_mul, zz_neg, zz_lt, zz_le, zz_eq, zz_div, zz_md, zz_dv, zz_abs, zz_max, zz_min, zz_nI, zz_be0, zz_be1, zz_zb, zz_z, zz_l0, zz_l, zz_lcmp, zo_rf, zo_nl, zo_nn, zo_rI, zo_rL, zo_rR, zo_rV, Int.add_zero, Int.zero_add, Int.mul_zero, Int.zero_mul, Int.one_mul, Int.mul_one, if_true, if_false, not_true_eq_false, not_false_eq_true]
      refine zz_Ei (fun h => absurd h (by omega)) (fun _ => ?_)
      refine zz_Ei (fun h => ?_) (fun h => ?_)
      · rw [if_neg (by show ¬ zz_wo A (g _) e < zz_wo A (g c) e; omega)] at s
        rw [s] at kk'
        exact kk'
      · rw [if_pos (by show zz_wo A (g _) e < zz_wo A (g c) e; omega)] at s
        rw [s] at kk'
        exact kk'
    · rintro _ hc
      have r := zv_am_r (fun d => zz_wo A (g d) e) (A 7 - 1).toNat
      have ef : zv_am (fun d => zz_wo A (g d) e) (A 7 - 1).toNat = zv_fav (fun e d => zz_wo A (g d) e) (A 7) e := rfl
      have r1 : zv_am (fun d => zz_wo A (g d) e) (A 7 - 1).toNat < A 7 := by omega
      have hOv := hO _ r.1 r1
      refine zz_Es (fun n => e_130_36 _ _ _ _ _ _ _) ?_
      simp (maxSteps := 5000000) (disch := first | assumption | omega) only [zr_16_12, za_114, zs_114, zz_wu, zw_s, zz_0, zz_31, zz_add, zz_sub, zz_mul, zz_neg, zz_lt, zz_le, zz_eq, zz_div, zz_md, zz_dv, zz_abs, zz_max, zz_min, zz_nI, zz_be0, zz_be1, zz_zb, zz_z, zz_l0, zz_l, zz_lcmp, zo_rf, zo_nl, zo_nn, zo_rI, zo_rL, zo_rR, zo_rV, Int.add_zero, Int.zero_add, Int.mul_zero, Int.zero_mul, Int.one_mul, Int.mul_one, if_true, if_false, not_true_eq_false, not_false_eq_true]
      refine zz_Ei (fun _ => ?_) (fun h => absurd (Int.le_refl _) h)
      refine kk _ ⟨by omega, fun i i0 i1 => ?_⟩
      have hs : zv_mine (fun e d => zz_wo A (g d) e) (A 7) (e + 1) i = zv_mine (fun e d => zz_wo A (g d) e) (A 7) e i + (if zv_fav (fun e d => zz_wo A (g d) e) (A 7) e = i then 1 else 0) := zz_sum1 he
      rw [hs, ← ef]
      by_cases q : i = zv_am (fun d => zz_wo A (g d) e) (A 7 - 1).toNat
      · rw [q, zf_s, if_pos rfl, hOv]
      · rw [zf_n q, if_neg (fun h => q h.symm), Int.add_zero]
        exact hO i i0 i1
  · rintro O ⟨_, hO⟩
    refine zz_Es (fun n => e_130_10 _ _ _ _) ?_
    simp (maxSteps := 5000000) (disch := first | assumption | omega) only [zz_le]
    refine zz_Ei (fun _ => ?_) (fun h => absurd (Int.le_refl _) h)
    exact zz_Er ⟨O, rfl, hO⟩
theorem zv_mine_b {W : Int → Int → Int} {n m i : Int} (hm : 0 ≤ m) : 0 ≤ zv_mine W n m i ∧ zv_mine W n m i ≤ m := by
  have := zz_sum_b (f := fun e => if zv_fav W n e = i then 1 else 0) (a := 0) (b := 1) hm (fun e _ _ => by show 0 ≤ (if zv_fav W n e = i then (1 : Int) else 0) ∧ (if zv_fav W n e = i then (1 : Int) else 0) ≤ 1; split <;> omega)
  unfold zv_mine
  omega
theorem c_114 {w : Int} (hd : 9 ≤ d) (hL : ZL T R) (hA : zz_ok Y A) (hR : zc_rep T R J 17 A) (hraw : ∀ p, Lnd p → zk_raw T R J p) (h3 : -2147483648 ≤ w) (h4 : w ≤ 2147483647) : ∃ v J', mv_cax d 114 [.inr (.inr (some 16)), .inl (mv_c w)] (zz_S T J R G) = some (some (.inl (mv_c v)), zz_S T J' R G) ∧ zk_op T R R J J' A ∧ zv_chosen A w v := by
  have hn := hA.n
  have h7 := hA.2.2.2.2.2.2.1
  have e7 := hR.2.1.2.2.2.2
  have o0 : zk_op T R R J J A := zk_op_0 hraw hR (fun _ _ => rfl) ⟨rfl, rfl, rfl⟩
  by_cases hw : 0 ≤ w ∧ w ≤ 2
  · by_cases hz : A 7 = 0
    · refine ⟨-3, J, ?_, o0, Or.inr ⟨hw, Or.inl ⟨hz, rfl⟩⟩⟩
      rw [hz] at e7
      refine zz_c (zz_call (by omega) t_114 rfl (fun n => e_114 _ _ _) ?_)
      simp (maxSteps := 5000000) (disch := first | assumption | omega) only [e7, zr_16_0, zr_16_1, zr_16_2, zr_16_3, zr_16_7, zr_16_8, zr_16_9, zi_16, zi_L, zi_H, zi_73, zi_78, zg_L_0, zg_L_1, zg_L_2, zg_L_3, zg_L_4, zg_L_5, zg_L_6, zg_L_7, zz_0, zz_31, zz_add, zz_sub, zz_mul, zz_neg, zz_lt, zz_le, zz_eq, zz_div, zz_md, zz_dv, zz_abs, zz_max, zz_min, zz_nI, zz_be0, zz_be1, zz_zb, zz_z, zz_l0, zz_l, zz_lcmp, zo_rf, zo_nl, zo_nn, zo_rI, zo_rL, zo_rR, zo_rV, Int.add_zero, Int.zero_add, Int.mul_zero, Int.zero_mul, Int.one_mul, Int.mul_one, if_true, if_false, not_true_eq_false, not_false_eq_true]
      refine zz_Ei (fun h => absurd h (by omega)) (fun _ => ?_)
      refine zz_Ei (fun _ => ?_) (fun h => absurd (by omega) h)
      exact zz_Er rfl
    · suffices h : ∃ r, mv_cax d 114 [.inr (.inr (some 16)), .inl (mv_c w)] (zz_S T J R G) = some r ∧ ∃ v J', r = (some (.inl (mv_c v)), zz_S T J' R G) ∧ zk_op T R R J J' A ∧ ∃ g : Int → Int → Int, (∀ d, 0 ≤ d → d < A 7 → zz_dr A d (g d)) ∧ v = zv_chv (fun e d => zz_wo A (g d) e) (fun d => zz_wa A (g d)) (A 7) w by
        obtain ⟨r, q1, v, J', rfl, q2, q3⟩ := h
        exact ⟨v, J', q1, q2, Or.inr ⟨hw, Or.inr ⟨hz, q3⟩⟩⟩
      refine zz_call (by omega) t_114 rfl (fun n => e_114 _ _ _) ?_
      obtain ⟨Q, hQ⟩ : ∃ Q : Option mv_V × mv_S → Prop, Q = fun r => ∃ v J', r = (some (.inl (mv_c v)), zz_S T J' R G) ∧ zk_op T R R J J' A ∧ ∃ g : Int → Int → Int, (∀ d, 0 ≤ d → d < A 7 → zz_dr A d (g d)) ∧ v = zv_chv (fun e d => zz_wo A (g d) e) (fun d => zz_wa A (g d)) (A 7) w := ⟨_, rfl⟩
      rw [← hQ]
      simp (maxSteps := 5000000) (disch := first | assumption | omega) only [e7, zr_16_0, zr_16_1, zr_16_2, zr_16_3, zr_16_7, zr_16_8, zr_16_9, zi_16, zi_L, zi_H, zi_73, zi_78, zg_L_0, zg_L_1, zg_L_2, zg_L_3, zg_L_4, zg_L_5, zg_L_6, zg_L_7, zz_0, zz_31, zz_add, zz_sub, zz_mul, zz_neg, zz_lt, zz_le, zz_eq, zz_div, zz_md, zz_dv, zz_abs, zz_max, zz_min, zz_nI, zz_be0, zz_be1, zz_zb, zz_z, zz_l0, zz_l, zz_lcmp, zo_rf, zo_nl, zo_nn, zo_rI, zo_rL, zo_rR, zo_rV, Int.add_zero, Int.zero_add, Int.mul_zero, Int.zero_mul, Int.one_mul, Int.mul_one, if_true, if_false, not_true_eq_false, not_false_eq_true]
      refine zz_Ei (fun h => absurd h (by omega)) (fun _ => ?_)
      refine zz_Ei (fun _ => ?_) (fun h => absurd (by omega) h)
      refine zz_Ei (fun _ => ?_) (fun h => absurd (by omega) h)
      refine zz_loop (α := Nat → Int → Int) (run := fun e J1 n => mv_run (mv_cax (d - 1)) mm_114 n 29 [(0, .inr (.inr (some 16))), (1, .inl (mv_c w)), (2, .inl (mv_c (A 7))), (3, .inl (mv_c e))] [] (zz_S T J1 R G)) (A 7) (fun e J1 => 0 ≤ e ∧ zc_rep T R J1 17 A ∧ (∀ x, (x < 73 ∨ (77 < x ∧ x < 108) ∨ 113 < x) → x ≠ 21 → x ≠ 29 → J1 x = J x) ∧ ∀ i, 0 ≤ i → i < e → zz_dr A i (J1 (108 + i.toNat))) ?_ ?_ (A 7).toNat 0 J (by omega) ⟨by omega, hR, fun _ _ _ _ => rfl, fun i _ _ => by omega⟩
      · rintro e J1 ⟨he, g1, g2, g3⟩ hlt kk
        obtain ⟨J2, c1, r1, r2, r3⟩ := c_1 (T := T) (J := J1) (R := R) (G := G) (d := d - 1) (p := 17) (g := 108 + e.toNat) (e := e) (by omega) hL (by omega) hA g1 he hlt (zz_plt hL _ (by omega)) (by omega) (by omega)
        refine zz_Es (fun n => e_114_29 _ _ _ _ _) ?_
        simp (maxSteps := 5000000) (disch := first | assumption | omega) only [zr_16_11, zr_pl, c1, zr_16_0, zr_16_1, zr_16_2, zr_16_3, zr_16_7, zr_16_8, zr_16_9, zi_16, zi_L, zi_H, zi_73, zi_78, zg_L_0, zg_L_1, zg_L_2, zg_L_3, zg_L_4, zg_L_5, zg_L_6, zg_L_7, zz_0, zz_31, zz_add, zz_sub, zz_mul, zz_neg, zz_lt, zz_le, zz_eq, zz_div, zz_md, zz_dv, zz_abs, zz_max, zz_min, zz_nI, zz_be0, zz_be1, zz_zb, zz_z, zz_l0, zz_l, zz_lcmp, zo_rf, zo_nl, zo_nn, zo_rI, zo_rL, zo_rR, zo_rV, Int.add_zero, Int.zero_add, Int.mul_zero, Int.zero_mul, Int.one_mul, Int.mul_one, if_true, if_false, not_true_eq_false, not_false_eq_true]
        refine zz_Ei (fun h => absurd h (by omega)) (fun _ => ?_)
        refine kk J2 ⟨by omega, r1, fun x x1 x2 x3 => by rw [r2 x (by omega) (by omega) (by omega) (by omega)]; exact g2 x x1 x2 x3, fun i i0 i1 => ?_⟩
        by_cases q : i = e
        · rw [q]; exact r3
        · rw [r2 _ (by omega) (by omega) (by omega) (by omega)]
          exact g3 i i0 (by omega)
      · rintro J1 ⟨_, g1, g2, g3⟩
        obtain ⟨g, hg⟩ : ∃ g : Int → Int → Int, g = fun i => J1 (108 + i.toNat) := ⟨_, rfl⟩
        have hdr : ∀ i, 0 ≤ i → i < A 7 → zz_dr A i (g i) := fun i i0 i1 => by rw [hg]; exact g3 i i0 i1
        have hpl : zk_pls A g (A 7) J1 := fun i i0 i1 c c0 c1 => ⟨by rw [hg], zk_dr_b hA (hdr i i0 i1) c c0 c1⟩
        have op1 : ∀ J2 : Nat → Int → Int, (∀ x, x ≠ 114 → J2 x = J1 x) → zk_op T R R J J2 A := fun J2 h2 => zk_op_0 hraw (zc_rep_f g1 (fun x hx => h2 x (by omega))) (fun x hx => by rw [h2 x (by omega), g2 x (by omega) (by omega) (by omega)]) ⟨by rw [h2 23 (by omega), g2 23 (by omega) (by omega) (by omega)], by rw [h2 36 (by omega), g2 36 (by omega) (by omega) (by omega)], by rw [h2 49 (by omega), g2 49 (by omega) (by omega) (by omega)]⟩
        refine zz_Es (fun n => e_114_29 _ _ _ _ _) ?_
        by_cases hw2 : w = 2
        · have c131 := c_131 (T := T) (J := J1) (R := R) (G := G) (d := d - 1) (by omega) hL hA g1 (by omega) hpl
          have r := zv_am_r (fun d => zz_wa A (g d)) (A 7 - 1).toNat
          simp (maxSteps := 5000000) (disch := first | assumption | omega) only [c131, zr_16_0, zr_16_1, zr_16_2, zr_16_3, zr_16_7, zr_16_8, zr_16_9, zi_16, zi_L, zi_H, zi_73, zi_78, zg_L_0, zg_L_1, zg_L_2, zg_L_3, zg_L_4, zg_L_5, zg_L_6, zg_L_7, zz_0, zz_31, zz_add, zz_sub, zz_mul, zz_neg, zz_lt, zz_le, zz_eq, zz_div, zz_md, zz_dv, zz_abs, zz_max, zz_min, zz_nI, zz_be0, zz_be1, zz_zb, zz_z, zz_l0, zz_l, zz_lcmp, zo_rf, zo_nl, zo_nn, zo_rI, zo_rL, zo_rR, zo_rV, Int.add_zero, Int.zero_add, Int.mul_zero, Int.zero_mul, Int.one_mul, Int.mul_one, if_true, if_false, not_true_eq_false, not_false_eq_true]
          refine zz_Ei (fun _ => ?_) (fun h => absurd (Int.le_refl _) h)
          refine zz_Ei (fun _ => ?_) (fun h => absurd hw2 h)
          rw [hQ]
          exact zz_Er ⟨_, J1, rfl, op1 J1 (fun _ _ => rfl), g, hdr, by rw [zv_chv, if_neg (by omega), if_neg (by omega)]⟩
        · obtain ⟨O, c130, hO⟩ := c_130 (T := T) (J := J1) (R := R) (G := G) (d := d - 1) (by omega) hL hA g1 (by omega) hpl
          simp (maxSteps := 5000000) (disch := first | assumption | omega) only [c130, zr_16_0, zr_16_1, zr_16_2, zr_16_3, zr_16_7, zr_16_8, zr_16_9, zi_16, zi_L, zi_H, zi_73, zi_78, zg_L_0, zg_L_1, zg_L_2, zg_L_3, zg_L_4, zg_L_5, zg_L_6, zg_L_7, zz_0, zz_31, zz_add, zz_sub, zz_mul, zz_neg, zz_lt, zz_le, zz_eq, zz_div, zz_md, zz_dv, zz_abs, zz_max, zz_min, zz_nI, zz_be0, zz_be1, zz_zb, zz_z, zz_l0, zz_l, zz_lcmp, zo_rf, zo_nl, zo_nn, zo_rI, zo_rL, zo_rR, zo_rV, Int.add_zero, Int.zero_add, Int.mul_zero, Int.zero_mul, Int.one_mul, Int.mul_one, if_true, if_false, not_true_eq_false, not_false_eq_true]
          refine zz_Ei (fun _ => ?_) (fun h => absurd (Int.le_refl _) h)
          refine zz_Ei (fun h => absurd h hw2) (fun _ => ?_)
          refine zz_loop (α := Unit) (run := fun c _ n => mv_run (mv_cax (d - 1)) mm_114 n 79 [(0, .inr (.inr (some 16))), (1, .inl (mv_c w)), (2, .inl (mv_c (A 7))), (3, .inl (mv_c (zv_am (zv_mine (fun e d => zz_wo A (g d) e) (A 7) (A 7)) (c - 1).toNat))), (4, .inl (mv_c c))] [] (zz_S T (zz_w J1 114 O) R G)) (A 7) (fun c _ => 1 ≤ c) ?_ ?_ (A 7 - 1).toNat 1 () (by omega) (by omega)
          · rintro c _ hc hlt kk
            have r := zv_am_r (zv_mine (fun e d => zz_wo A (g d) e) (A 7) (A 7)) (c - 1).toNat
            have s := zv_am1 (f := zv_mine (fun e d => zz_wo A (g d) e) (A 7) (A 7)) (c := c - 1) (by omega)
            rw [show c - 1 + 1 = c by omega] at s
            have kk := kk () (by omega)
            rw [show c + 1 - 1 = c by omega] at kk
            have o1 := hO _ r.1 (by omega)
            have o2 := hO c (by omega) hlt
            have m1 := zv_mine_b (W := fun e d => zz_wo A (g d) e) (n := A 7) (m := A 7) (i := zv_am (zv_mine (fun e d => zz_wo A (g d) e) (A 7) (A 7)) (c - 1).toNat) (by omega)
            have m2 := zv_mine_b (W := fun e d => zz_wo A (g d) e) (n := A 7) (m := A 7) (i := c) (by omega)
            generalize zv_am (zv_mine (fun e d => zz_wo A (g d) e) (A 7) (A 7)) (c - 1).toNat = a at *
            refine zz_Es (fun n => e_114_79 _ _ _ _ _ _) ?_
            simp (maxSteps := 5000000) (disch := first | assumption | omega) only [zr_16_12, za_114, zw_s, o1, o2, zz_0, zz_31, zz_add, zz_sub, zz_mul, zz_neg, zz_lt, zz_le, zz_eq, zz_div, zz_md, zz_dv, zz_abs, zz_max, zz_min, zz_nI, zz_be0, zz_be1, zz_zb, zz_z, zz_l0, zz_l, zz_lcmp, zo_rf, zo_nl, zo_nn, zo_rI, zo_rL, zo_rR, zo_rV, Int.add_zero, Int.zero_add, Int.mul_zero, Int.zero_mul, Int.one_mul, Int.mul_one, if_true, if_false, not_true_eq_false, not_false_eq_true]
            refine zz_Ei (fun h => absurd h (by omega)) (fun _ => ?_)
            refine zz_Ei (fun h => ?_) (fun h => ?_)
            · rw [if_neg (by omega)] at s
              rw [s] at kk
              exact kk
            · rw [if_pos (by omega)] at s
              rw [s] at kk
              exact kk
          · rintro _ hc
            have r := zv_am_r (zv_mine (fun e d => zz_wo A (g d) e) (A 7) (A 7)) (A 7 - 1).toNat
            have o1 := hO _ r.1 (by omega)
            refine zz_Es (fun n => e_114_79 _ _ _ _ _ _) ?_
            simp (maxSteps := 5000000) (disch := first | assumption | omega) only [zr_16_12, za_114, zw_s, o1, zz_0, zz_31, zz_add, zz_sub, zz_mul, zz_neg, zz_lt, zz_le, zz_eq, zz_div, zz_md, zz_dv, zz_abs, zz_max, zz_min, zz_nI, zz_be0, zz_be1, zz_zb, zz_z, zz_l0, zz_l, zz_lcmp, zo_rf, zo_nl, zo_nn, zo_rI, zo_rL, zo_rR, zo_rV, Int.add_zero, Int.zero_add, Int.mul_zero, Int.zero_mul, Int.one_mul, Int.mul_one, if_true, if_false, not_true_eq_false, not_false_eq_true]
            refine zz_Ei (fun _ => ?_) (fun h => absurd (Int.le_refl _) h)
            rw [hQ]
            have op2 := op1 (zz_w J1 114 O) (fun x hx => zw_n hx)
            refine zz_Ei (fun h => ?_) (fun h => ?_)
            · exact zz_Er ⟨_, _, rfl, op2, g, hdr, by rw [zv_chv, if_pos h]⟩
            · exact zz_Er ⟨_, _, rfl, op2, g, hdr, by rw [zv_chv, if_neg h, if_pos (by omega)]⟩
  · refine ⟨-1, J, ?_, o0, Or.inl ⟨hw, rfl⟩⟩
    refine zz_c (zz_call (by omega) t_114 rfl (fun n => e_114 _ _ _) ?_)
    simp (maxSteps := 5000000) (disch := first | assumption | omega) only [zz_0, zz_31, zz_add, zz_sub, zz_mul, zz_neg, zz_lt, zz_le, zz_eq, zz_div, zz_md, zz_dv, zz_abs, zz_max, zz_min, zz_nI, zz_be0, zz_be1, zz_zb, zz_z, zz_l0, zz_l, zz_lcmp, zo_rf, zo_nl, zo_nn, zo_rI, zo_rL, zo_rR, zo_rV, Int.add_zero, Int.zero_add, Int.mul_zero, Int.zero_mul, Int.one_mul, Int.mul_one, if_true, if_false, not_true_eq_false, not_false_eq_true]
    refine zz_Ei (fun _ => zz_Er rfl) (fun g1 => ?_)
    refine zz_Ei (fun h => absurd (by omega) hw) (fun _ => zz_Er rfl)
end ZCHO
