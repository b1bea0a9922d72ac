/-! PURE LAYER, 113: the reference: who is chosen -/
section ZRCH
variable {T : List mv_T} {J : Nat → Int → Int} {R : Nat → Nat → Option Nat} {G : Nat → Nat → Int64} {d : Nat} {Y : Int}
/-- worths in their row -/
def zq_wt (J : Nat → Int → Int) (W : Int → Int → Int) (n : Int) : Prop := ∀ e b, 0 ≤ e → e < n → 0 ≤ b → b < n → J 154 (6 * e + b) = W e b ∧ 0 ≤ W e b ∧ W e b ≤ 396
theorem r_202k {W : Int → Int → Int} {n e b s m : Int} {a1 a3 a4 a5 a6 : Int32} {Q : Option mv_V × mv_S → Prop} (hL : ZL T R) (hn : 1 ≤ n ∧ n ≤ 6) (hW : zq_wt J W n) (he : 0 ≤ e ∧ e < n) (hb : 0 ≤ b ∧ b < n)
    (fin : zz_E (fun n' => mv_run (mv_cax d) mm_202 n' 152 [(0, .inr (.inr (some 131))), (1, .inl a1), (2, .inl (mv_c n)), (3, .inl a3), (4, .inl a4), (5, .inl a5), (6, .inl a6), (7, .inl (mv_c b)), (8, .inl (mv_c (s + W e b))), (9, .inl (mv_c (m + if zv_fav W n e = b then 1 else 0))), (10, .inl (mv_c (e + 1)))] [] (zz_S T J R G)) Q) :
    zz_E (fun n' => mv_run (mv_cax d) mm_202 n' 164 [(0, .inr (.inr (some 131))), (1, .inl a1), (2, .inl (mv_c n)), (3, .inl a3), (4, .inl a4), (5, .inl a5), (6, .inl a6), (7, .inl (mv_c b)), (8, .inl (mv_c s)), (9, .inl (mv_c m)), (10, .inl (mv_c e)), (11, .inl (mv_c 0)), (12, .inl (mv_c 1))] [] (zz_S T J R G)) Q := by
  refine zz_loop (α := Unit) (run := fun c _ n' => mv_run (mv_cax d) mm_202 n' 164 [(0, .inr (.inr (some 131))), (1, .inl a1), (2, .inl (mv_c n)), (3, .inl a3), (4, .inl a4), (5, .inl a5), (6, .inl a6), (7, .inl (mv_c b)), (8, .inl (mv_c s)), (9, .inl (mv_c m)), (10, .inl (mv_c e)), (11, .inl (mv_c (zv_am (fun d => W e d) (c - 1).toNat))), (12, .inl (mv_c c))] [] (zz_S T J R G)) n (fun c _ => 1 ≤ c) ?_ ?_ (n - 1).toNat 1 () (by omega) (by omega)
  · rintro c _ hc hlt kk
    have r := zv_am_r (fun d => W e d) (c - 1).toNat
    have w1 := hW e (zv_am (fun d => W e d) (c - 1).toNat) he.1 he.2 (by omega) (by omega)
    have w2 := hW e c he.1 he.2 (by omega) hlt
    have s := zv_am1 (f := fun d => W e d) (c := c - 1) (by omega)
    rw [show c - 1 + 1 = c by omega] at s
    have kk := kk () (by omega)
    rw [show c + 1 - 1 = c by omega] at kk
    generalize zv_am (fun d => W e d) (c - 1).toNat = f at *
    refine zz_Es (fun n' => e_202_164 _ _ _ _ _ _ _ _ _ _ _ _ _ _) ?_
    simp (maxSteps := 5000000) (disch := first | assumption | omega) only [zr_131_35, zo_rf, za_154, w1.1, w2.1, zz_mul, zz_add, zz_le]
    refine zz_Ei (fun h => absurd h (by omega)) (fun _ => ?_)
    refine zz_Ei (fun h => ?_) (fun h => ?_)
    · rw [if_neg (by show ¬ W e f < W e c; omega)] at s
      rw [s] at kk
      exact kk
    · rw [if_pos (by show W e f < W e c; omega)] at s
      rw [s] at kk
      exact kk
  · rintro _ hc
    have r := zv_am_r (fun d => W e d) (n - 1).toNat
    have w := hW e b he.1 he.2 hb.1 hb.2
    have ef : zv_am (fun d => W e d) (n - 1).toNat = zv_fav W n e := rfl
    rw [ef] at r
    refine zz_Es (fun n' => e_202_164 _ _ _ _ _ _ _ _ _ _ _ _ _ _) ?_
    rw [ef]
    simp (maxSteps := 5000000) (disch := first | assumption | omega) only [zr_131_35, zo_rf, za_154, w.1, zz_mul, zz_add, zz_le, zz_eq]
    refine zz_Ei (fun _ => ?_) (fun h => absurd (Int.le_refl _) h)
    refine zz_Ei (fun h => ?_) (fun h => ?_)
    · rw [if_pos h] at fin
      exact fin
    · rw [if_neg h] at fin
      exact fin
theorem r_202e {W : Int → Int → Int} {n b : Int} {a1 a3 a4 a5 a6 : Int32} {Q : Option mv_V × mv_S → Prop} (hL : ZL T R) (hn : 1 ≤ n ∧ n ≤ 6) (hW : zq_wt J W n) (hb : 0 ≤ b ∧ b < n)
    (fin : zz_E (fun n' => mv_run (mv_cax d) mm_202 n' 152 [(0, .inr (.inr (some 131))), (1, .inl a1), (2, .inl (mv_c n)), (3, .inl a3), (4, .inl a4), (5, .inl a5), (6, .inl a6), (7, .inl (mv_c b)), (8, .inl (mv_c (zz_sum (fun e => W e b) n))), (9, .inl (mv_c (zv_mine W n n b))), (10, .inl (mv_c n))] [] (zz_S T J R G)) Q) :
    zz_E (fun n' => mv_run (mv_cax d) mm_202 n' 152 [(0, .inr (.inr (some 131))), (1, .inl a1), (2, .inl (mv_c n)), (3, .inl a3), (4, .inl a4), (5, .inl a5), (6, .inl a6), (7, .inl (mv_c b)), (8, .inl (mv_c 0)), (9, .inl (mv_c 0)), (10, .inl (mv_c 0))] [] (zz_S T J R G)) Q := by
  refine zz_loop (α := Unit) (run := fun c _ n' => mv_run (mv_cax d) mm_202 n' 152 [(0, .inr (.inr (some 131))), (1, .inl a1), (2, .inl (mv_c n)), (3, .inl a3), (4, .inl a4), (5, .inl a5), (6, .inl a6), (7, .inl (mv_c b)), (8, .inl (mv_c (zz_sum (fun e => W e b) c))), (9, .inl (mv_c (zv_mine W n c b))), (10, .inl (mv_c c))] [] (zz_S T J R G)) n (fun c _ => 0 ≤ c) ?_ (fun _ _ => fin) n.toNat 0 () (by omega) (by omega)
  rintro c _ hc hlt kk
  have kk := kk () (by omega)
  unfold zv_mine at kk
  rw [zz_sum1 hc, zz_sum1 hc] at kk
  refine zz_Es (fun n' => e_202_152 _ _ _ _ _ _ _ _ _ _ _ _) ?_
  have hle : ¬ (mv_c n ≤ mv_c c) := by
    rw [zz_le (by omega) (by omega) (by omega) (by omega)]
    omega
  refine zz_Ei (fun h => absurd h hle) (fun _ => ?_)
  unfold zv_mine
  exact r_202k hL hn hW ⟨hc, hlt⟩ hb kk
theorem r_202d {W : Int → Int → Int} {S : Int → Int} {n w : Int} {Q : Option mv_V × mv_S → Prop} (hL : ZL T R) (hn : 1 ≤ n ∧ n ≤ 6) (hW : zq_wt J W n) (hS : ∀ b, 0 ≤ b → b < n → zz_sum (fun e => W e b) n = S b) (hw : 0 ≤ w ∧ w ≤ 2) (fin : Q (some (.inl (mv_c (zv_chv W S n w))), (zz_S T J R G))) :
    zz_E (fun n' => mv_run (mv_cax d) mm_202 n' 137 [(0, .inr (.inr (some 131))), (1, .inl (mv_c w)), (2, .inl (mv_c n)), (3, .inl (mv_c 0)), (4, .inl (mv_c 0)), (5, .inl (mv_c 0)), (6, .inl (mv_c 0)), (7, .inl (mv_c 0))] [] (zz_S T J R G)) Q := by
  obtain ⟨M, hM⟩ : ∃ M, M = zv_mine W n n := ⟨_, rfl⟩
  have mb : ∀ b, 0 ≤ M b ∧ M b ≤ 6 := fun b => by
    rw [hM]
    have := zz_sum_b (f := fun e => if zv_fav W n e = b then (1 : Int) else 0) (a := 0) (b := 1) (c := n) (by omega) (fun i _ _ => by
      show 0 ≤ (if zv_fav W n i = b then (1 : Int) else 0) ∧ (if zv_fav W n i = b then (1 : Int) else 0) ≤ 1
      split <;> omega)
    unfold zv_mine
    omega
  have sb : ∀ b, 0 ≤ b → b < n → 0 ≤ S b ∧ S b ≤ 3000 := fun b b0 b1 => by
    rw [← hS b b0 b1]
    have := zz_sum_b (f := fun e => W e b) (a := 0) (b := 396) (c := n) (by omega) (fun i i0 i1 => (hW i b i0 i1 b0 b1).2)
    omega
  refine zz_loop (α := Unit) (run := fun c _ n' => mv_run (mv_cax d) mm_202 n' 137 [(0, .inr (.inr (some 131))), (1, .inl (mv_c w)), (2, .inl (mv_c n)), (3, .inl (mv_c (zv_am S (c - 1).toNat))), (4, .inl (mv_c (if c = 0 then 0 else S (zv_am S (c - 1).toNat)))), (5, .inl (mv_c (zv_am M (c - 1).toNat))), (6, .inl (mv_c (if c = 0 then 0 else M (zv_am M (c - 1).toNat)))), (7, .inl (mv_c c))] [] (zz_S T J R G)) n (fun c _ => 0 ≤ c) ?_ ?_ n.toNat 0 () (by omega) (by omega)
  · rintro c _ c0 hlt kk
    have kk := kk () (by omega)
    rw [if_neg (show ¬ (c + 1 = 0) by omega), if_neg (show ¬ (c + 1 = 0) by omega), show c + 1 - 1 = c by omega] at kk
    have hsc := sb c c0 hlt
    have hmc := mb c
    refine zz_Es (fun n' => e_202_137 _ _ _ _ _ _ _ _ _) ?_
    have hle : ¬ (mv_c n ≤ mv_c c) := by
      rw [zz_le (by omega) (by omega) (by omega) (by omega)]
      omega
    refine zz_Ei (fun h => absurd h hle) (fun _ => ?_)
    refine r_202e hL hn hW ⟨c0, hlt⟩ ?_
    rw [hS c c0 hlt, ← hM]
    refine zz_Es (fun n' => e_202_152 _ _ _ _ _ _ _ _ _ _ _ _) ?_
    by_cases hc : c = 0
    · subst hc
      rw [if_pos rfl, if_pos rfl]
      have z0 : ∀ f : Int → Int, zv_am f ((0 : Int) - 1).toNat = 0 := fun f => rfl
      have z1 : ∀ f : Int → Int, zv_am f (0 : Int).toNat = 0 := fun f => rfl
      rw [z1, z1] at kk
      rw [z0, z0]
      simp (maxSteps := 5000000) (disch := first | assumption | omega) only [zz_0, zz_le, zz_add, if_true, Int.zero_add]
      refine zz_Ei (fun _ => ?_) (fun h => absurd (Int.le_refl _) h)
      try (refine zz_Ei (fun _ => ?_) (fun h => absurd trivial h))
      refine zz_Ei (fun g => ?_) (fun g => ?_)
      · rw [show M 0 = 0 by omega] at kk
        exact kk
      · exact kk
    · rw [if_neg hc, if_neg hc]
      have rs := zv_am_r S (c - 1).toNat
      have rm := zv_am_r M (c - 1).toNat
      have s1 := zv_am1 (f := S) (c := c - 1) (by omega)
      have s2 := zv_am1 (f := M) (c := c - 1) (by omega)
      rw [show c - 1 + 1 = c by omega] at s1 s2
      have bs := sb (zv_am S (c - 1).toNat) (by omega) (by omega)
      have bm := mb (zv_am M (c - 1).toNat)
      rw [s1, s2] at kk
      generalize zv_am S (c - 1).toNat = f at *
      generalize zv_am M (c - 1).toNat = g at *
      simp (maxSteps := 5000000) (disch := first | assumption | omega) only [zz_0, zz_le, zz_add, zz_eq]
      refine zz_Ei (fun _ => ?_) (fun h => absurd (Int.le_refl _) h)
      refine zz_Ei (fun h => absurd h hc) (fun _ => ?_)
      refine zz_Ei (fun h1 => ?_) (fun h1 => ?_)
      · rw [if_neg (by omega)] at kk
        refine zz_Ei (fun h2 => ?_) (fun h2 => ?_)
        · rw [if_neg (by omega)] at kk
          exact kk
        · rw [if_pos (by omega)] at kk
          exact kk
      · rw [if_pos (by omega)] at kk
        refine zz_Ei (fun h2 => ?_) (fun h2 => ?_)
        · rw [if_neg (by omega)] at kk
          exact kk
        · rw [if_pos (by omega)] at kk
          exact kk
  · rintro _ _
    rw [if_neg (by omega), if_neg (by omega)]
    unfold zv_chv at fin
    rw [← hM] at fin
    refine zz_Es (fun n' => e_202_137 _ _ _ _ _ _ _ _ _) ?_
    simp (maxSteps := 5000000) (disch := first | assumption | omega) only [zz_0, zz_le, zz_eq]
    refine zz_Ei (fun _ => ?_) (fun h => absurd (Int.le_refl _) h)
    refine zz_Ei (fun h => zz_Er ?_) (fun h0 => ?_)
    · rw [if_pos h] at fin
      exact fin
    refine zz_Ei (fun h => zz_Er ?_) (fun h1 => zz_Er ?_)
    · rw [if_neg h0, if_pos h] at fin
      exact fin
    · rw [if_neg h0, if_neg h1] at fin
      exact fin
/-- the tables of worths, drawer by drawer -/
def zq_ct (J J2 : Nat → Int → Int) (A : Int → Int) (g : Int → Int → Int) (c : Int) : Prop := zz_pw J J2 ∧ J2 132 = A ∧ ∀ b, 0 ≤ b → b < c → zz_dr A b (g b) ∧ ∀ e, 0 ≤ e → e < A 7 → J2 154 (6 * e + b) = zz_wo A (g b) e
theorem r_202s {A : Int → Int} {g : Int → Int → Int} {c w : Int} {J2 : Nat → Int → Int} {Q : Option mv_V × mv_S → Prop} (hd : 12 ≤ d) (hL : ZL T R) (hA : zz_ok Y A) (hBc : zz_bc (J 142)) (hc : 0 ≤ c ∧ c < A 7) (h : zq_ct J J2 A g c) (kk : ∀ J3 g', zq_ct J J3 A g' (c + 1) → zz_E (fun n' => mv_run (mv_cax d) mm_202 n' 31 [(0, .inr (.inr (some 131))), (1, .inl (mv_c w)), (2, .inl (mv_c (A 7))), (3, .inl (mv_c (c + 1)))] [] (zz_S T J3 R G)) Q) :
    zz_E (fun n' => mv_run (mv_cax d) mm_202 n' 31 [(0, .inr (.inr (some 131))), (1, .inl (mv_c w)), (2, .inl (mv_c (A 7))), (3, .inl (mv_c c))] [] (zz_S T J2 R G)) Q := by
  have hN := hA.n
  have h7 := hA.2.2.2.2.2.2.1
  obtain ⟨pw, e132, hg⟩ := h
  obtain ⟨J3, r187, fg, k132, kdr, kb⟩ := r_187 (T := T) (J := J2) (R := R) (G := G) (d := d) (Y := Y) (e := c) hL (by rw [e132]; exact hA) (by rw [pw.1 142 (by omega) (by omega) (by omega)]; exact hBc) (by omega) hc.1 (by rw [e132]; exact hc.2)
  rw [e132] at k132 kdr kb
  have r193 := r_193 (T := T) (J := J3) (R := R) (G := G) (d := d) (by omega) hL
  obtain ⟨J4, hJ4⟩ : ∃ J4, J4 = zz_w J3 153 (zz_c130 (J3 132) (J3 153)) := ⟨_, rfl⟩
  rw [← hJ4] at r193
  have f4 : ∀ x, x ≠ 153 → J4 x = J3 x := fun x hx => by rw [hJ4, zw_n hx]
  have a4 : J4 153 = zz_c130 A (J3 153) := by rw [hJ4, zw_s, k132]
  have d150 : J4 150 = J3 150 := f4 150 (by omega)
  refine zz_Es (fun n' => e_202_31 _ _ _ _ _) ?_
  simp (maxSteps := 5000000) (disch := first | assumption | omega) only [zi_131, r187, r193, zo_rV, zz_le]
  refine zz_Ei (fun q => absurd q (by omega)) (fun _ => ?_)
  have l := zz_loop (α := Int → Int) (run := fun y O n' => mv_run (mv_cax d) mm_202 n' 48 [(0, .inr (.inr (some 131))), (1, .inl (mv_c w)), (2, .inl (mv_c (A 7))), (3, .inl (mv_c c)), (4, .inl (mv_c y))] [] (zz_S T (zz_w J4 132 O) R G)) (Q := Q) (A 0 * A 1) (fun y O => 0 ≤ y ∧ ∀ x, O x = if 8 ≤ x ∧ x < 8 + y then J3 150 (x - 8) else A x) ?_ ?_ (A 0 * A 1).toNat 0 A (by omega) ⟨by omega, fun x => by rw [if_neg (by omega)]⟩
  · have e0 : zz_w J4 132 A = J4 := by
      have : J4 132 = A := by rw [f4 132 (by omega), k132]
      rw [← this, zw_i]
    rw [e0] at l
    exact l
  · rintro y O ⟨y0, hO⟩ hlt kk'
    have o0 : O 0 = A 0 := by rw [hO, if_neg (by omega)]
    have o1 : O 1 = A 1 := by rw [hO, if_neg (by omega)]
    have r135 := r_135 (T := T) (J := zz_w J4 132 O) (R := R) (G := G) (d := d) (by omega) hL
    rw [zw_s, o0, o1] at r135
    have e150 : zz_w J4 132 O 150 y = J3 150 y := by rw [zw_n (by omega), d150]
    refine zz_Es (fun n' => e_202_48 _ _ _ _ _ _) ?_
    simp (maxSteps := 5000000) (disch := first | assumption | omega) only [zi_131, r135, zo_rI, zo_rf, zr_131_0, zr_131_31, za_150, e150, zs_132, zz_wu, zz_le, zz_add]
    refine zz_Ei (fun q => absurd q (by omega)) (fun _ => ?_)
    refine kk' _ ⟨by omega, fun x => ?_⟩
    by_cases q : x = 8 + y
    · rw [q, zf_s, if_pos (by omega), show 8 + y - 8 = y by omega]
    · rw [zf_n q, hO x]
      by_cases q' : 8 ≤ x ∧ x < 8 + y
      · rw [if_pos q', if_pos (by omega)]
      · rw [if_neg q', if_neg (by omega)]
  · rintro O ⟨_, hO⟩
    have o0 : O 0 = A 0 := by rw [hO, if_neg (by omega)]
    have o1 : O 1 = A 1 := by rw [hO, if_neg (by omega)]
    have o7 : O 7 = A 7 := by rw [hO, if_neg (by omega)]
    have o40 : ∀ y, 40 ≤ y → O y = A y := fun y hy => by rw [hO, if_neg (by omega)]
    have o8 : ∀ x, 0 ≤ x → x < A 0 * A 1 → O (8 + x) = J3 150 x := fun x x0 x1 => by rw [hO, if_pos (by omega), show 8 + x - 8 = x by omega]
    have ook : zz_ok Y O := by
      refine zz_ok_h hA (fun y hy => by rw [hO, if_neg (by omega)]) (fun x x0 x1 => ?_)
      rw [o8 x x0 x1, hO (24 + x), if_neg (by omega)]
      exact ⟨kb x x0 x1, (hA.2.2.2.2.2.2.2.1 x x0 x1).2⟩
    have r135 := r_135 (T := T) (J := zz_w J4 132 O) (R := R) (G := G) (d := d) (by omega) hL
    rw [zw_s, o0, o1] at r135
    refine zz_Es (fun n' => e_202_48 _ _ _ _ _ _) ?_
    simp (maxSteps := 5000000) (disch := first | assumption | omega) only [zi_131, r135, zo_rI, zz_le]
    refine zz_Ei (fun _ => ?_) (fun q => absurd (Int.le_refl _) q)
    obtain ⟨J5, hJ5⟩ : ∃ J5, J5 = zz_w J4 132 O := ⟨_, rfl⟩
    rw [← hJ5]
    have f5 : ∀ x, x ≠ 132 → J5 x = J4 x := fun x hx => by rw [hJ5, zw_n hx]
    have a5 : J5 132 = O := by rw [hJ5, zw_s]
    have d154 : J5 154 = J2 154 := by rw [f5 154 (by omega), f4 154 (by omega), fg.1 154 (by omega) (by omega) (by omega)]
    have l2 := zz_loop (α := Int → Int) (run := fun e U n' => mv_run (mv_cax d) mm_202 n' 83 [(0, .inr (.inr (some 131))), (1, .inl (mv_c w)), (2, .inl (mv_c (A 7))), (3, .inl (mv_c c)), (4, .inl (mv_c e))] [] (zz_S T (zz_w J5 154 U) R G)) (Q := Q) (A 7) (fun e U => 0 ≤ e ∧ (∀ i, 0 ≤ i → i < e → U (6 * i + c) = zz_wo A (J3 150) i) ∧ ∀ i b, 0 ≤ b → b < c → U (6 * i + b) = J2 154 (6 * i + b)) ?_ ?_ (A 7).toNat 0 (J5 154) (by omega) ⟨by omega, fun i _ _ => by omega, fun i b _ _ => by rw [d154]⟩
    · rw [zw_i] at l2
      exact l2
    · rintro e U ⟨e0, hU, hU'⟩ hlt kk'
      have r181 := r_181 (T := T) (J := zz_w J5 154 U) (R := R) (G := G) (d := d) (Y := Y) (e := e) (by omega) hL (by rw [zw_n (by omega), a5]; exact ook) e0 (by rw [zw_n (by omega), a5, o7]; exact hlt)
      rw [zw_n (by omega), a5] at r181
      have ew : zz_wo O (fun c => O (8 + c)) e = zz_wo A (J3 150) e := by
        rw [zz_wo_h e0 o40]
        exact zk_wo_c hA e0 hlt (fun x x0 x1 => o8 x x0 x1)
      rw [ew] at r181
      refine zz_Es (fun n' => e_202_83 _ _ _ _ _ _) ?_
      simp (maxSteps := 5000000) (disch := first | assumption | omega) only [zi_131, r181, zo_rI, zo_rf, zr_131_35, zs_154, zz_wu, zz_le, zz_add, zz_mul]
      refine zz_Ei (fun q => absurd q (by omega)) (fun _ => ?_)
      refine kk' _ ⟨by omega, fun i i0 i1 => ?_, fun i b b0 b1 => ?_⟩
      · by_cases q : i = e
        · rw [q, zf_s]
        · rw [zf_n (by omega)]
          exact hU i i0 (by omega)
      · rw [zf_n (by omega)]
        exact hU' i b b0 b1
    · rintro U ⟨_, hU, hU'⟩
      have r194 := r_194 (T := T) (J := zz_w J5 154 U) (R := R) (G := G) (d := d) (by omega) hL
      obtain ⟨J6, hJ6⟩ : ∃ J6, J6 = zz_w (zz_w J5 154 U) 132 (zz_c130 (zz_w J5 154 U 153) (zz_w J5 154 U 132)) := ⟨_, rfl⟩
      rw [← hJ6] at r194
      have e6 : J6 132 = A := by
        rw [hJ6, zw_s, zw_n (by omega), zw_n (by omega), f5 153 (by omega), a4, a5]
        exact zz_c130b (fun y hy => by rw [hO, if_neg (by omega)])
      have f6 : ∀ x, x ≠ 132 → x ≠ 154 → J6 x = J5 x := fun x x1 x2 => by rw [hJ6, zw_n x1, zw_n x2]
      have u6 : J6 154 = U := by rw [hJ6, zw_n (by omega), zw_s]
      refine zz_Es (fun n' => e_202_83 _ _ _ _ _ _) ?_
      simp (maxSteps := 5000000) (disch := first | assumption | omega) only [zi_131, r194, zo_rV, zz_le, zz_add]
      refine zz_Ei (fun _ => ?_) (fun q => absurd (Int.le_refl _) q)
      refine kk J6 (fun b => if b = c then J3 150 else g b) ⟨⟨fun x x1 x2 x3 => by rw [f6 x x2 (by omega), f5 x x2, f4 x (by omega), fg.1 x x1 x2 (by omega), pw.1 x x1 x2 x3], by rw [f6 131 (by omega) (by omega), f5 131 (by omega), f4 131 (by omega), fg.2 9 (by omega), pw.2]⟩, e6, fun b b0 b1 => ?_⟩
      show zz_dr A b (if b = c then J3 150 else g b) ∧ ∀ e, 0 ≤ e → e < A 7 → J6 154 (6 * e + b) = zz_wo A (if b = c then J3 150 else g b) e
      by_cases q : b = c
      · rw [if_pos q, q, u6]
        exact ⟨kdr, hU⟩
      · rw [if_neg q, u6]
        exact ⟨(hg b b0 (by omega)).1, fun e e0 e1 => by rw [hU' e b b0 (by omega)]; exact (hg b b0 (by omega)).2 e e0 e1⟩
theorem r_202 {w : Int} (hd : 13 ≤ d) (hL : ZL T R) (hA : zz_ok Y (J 132)) (hBc : zz_bc (J 142)) (w0 : -2147483648 ≤ w) (w1 : w ≤ 2147483647) : ∃ v J', mv_cax d 202 [.inr (.inr (some 131)), .inl (mv_c w)] (zz_S T J R G) = some (some (.inl (mv_c v)), zz_S T J' R G) ∧ zz_pw J J' ∧ J' 132 = J 132 ∧ zv_chosen (J 132) w v := by
  have h7 := hA.2.2.2.2.2.2.1
  have pw0 : zz_pw J J := ⟨fun _ _ _ _ => rfl, rfl⟩
  by_cases hw : 0 ≤ w ∧ w ≤ 2
  · by_cases hn : J 132 7 = 0
    · refine ⟨-3, J, ?_, pw0, rfl, Or.inr ⟨hw, Or.inl ⟨hn, rfl⟩⟩⟩
      refine zz_c (zz_call (by omega) t_202 rfl (fun n => e_202 _ _ _) ?_)
      simp (maxSteps := 5000000) (disch := first | assumption | omega) only [zz_l, zz_l0, zz_l1, r_134, zo_rI, zo_rf, zr_131_0, za_132, zz_0, zz_eq]
      refine zz_Ei (fun g => absurd hw (by first | exact g | (rw [zz_be0] at g; exact g))) (fun _ => ?_)
      refine zz_Ei (fun _ => zz_Er rfl) (fun g => absurd hn g)
    · obtain ⟨A, hAe⟩ : ∃ A, A = J 132 := ⟨_, rfl⟩
      rw [← hAe] at hA h7 hn ⊢
      suffices h : ∃ r, mv_cax d 202 [.inr (.inr (some 131)), .inl (mv_c w)] (zz_S T J R G) = some r ∧ ∃ v J', r = (some (.inl (mv_c v)), zz_S T J' R G) ∧ zz_pw J J' ∧ J' 132 = A ∧ zv_chosen A w v by
        obtain ⟨r, g1, v, J', rfl, g2⟩ := h
        exact ⟨v, J', g1, g2⟩
      refine zz_call (by omega) t_202 rfl (fun n => e_202 _ _ _) ?_
      have e7 : J 132 7 = A 7 := by rw [hAe]
      simp (maxSteps := 5000000) (disch := first | assumption | omega) only [zz_l, zz_l0, zz_l1, r_134, zo_rI, zo_rf, zr_131_0, za_132, e7, zz_0, zz_eq]
      refine zz_Ei (fun g => absurd hw (by first | exact g | (rw [zz_be0] at g; exact g))) (fun _ => ?_)
      refine zz_Ei (fun g => absurd g hn) (fun _ => ?_)
      refine zz_loop (α := (Nat → Int → Int) × (Int → Int → Int)) (run := fun c x n' => mv_run (mv_cax (d - 1)) mm_202 n' 31 [(0, .inr (.inr (some 131))), (1, .inl (mv_c w)), (2, .inl (mv_c (A 7))), (3, .inl (mv_c c))] [] (zz_S T x.1 R G)) (A 7) (fun c x => 0 ≤ c ∧ zq_ct J x.1 A x.2 c) ?_ ?_ (A 7).toNat 0 (J, fun _ _ => 0) (by omega) ⟨by omega, pw0, hAe.symm, fun b _ _ => by omega⟩
      · rintro c ⟨J2, g⟩ ⟨c0, hct⟩ hlt kk
        exact r_202s (by omega) hL hA hBc ⟨c0, hlt⟩ hct (fun J3 g' h => kk (J3, g') ⟨by omega, h⟩)
      · rintro ⟨J2, g⟩ ⟨_, pw, e132, hg⟩
        have e132 : J2 132 = A := e132
        have hg : ∀ b, 0 ≤ b → b < A 7 → zz_dr A b (g b) ∧ ∀ e, 0 ≤ e → e < A 7 → J2 154 (6 * e + b) = zz_wo A (g b) e := hg
        have hW : zq_wt J2 (fun e d => zz_wo A (g d) e) (A 7) := fun e b e0 e1 b0 b1 => ⟨(hg b b0 b1).2 e e0 e1, zz_wo_b (hA.2.2.2.2.2.2.2.2 e e0 e1)⟩
        refine zz_Es (fun n' => e_202_31 _ _ _ _ _) ?_
        simp (maxSteps := 5000000) (disch := first | assumption | omega) only [zz_le]
        refine zz_Ei (fun _ => ?_) (fun q => absurd (Int.le_refl _) q)
        exact r_202d (W := fun e d => zz_wo A (g d) e) (S := fun d => zz_wa A (g d)) hL (by omega) hW (fun b _ _ => rfl) hw ⟨_, J2, rfl, pw, e132, Or.inr ⟨hw, Or.inr ⟨hn, g, fun b b0 b1 => (hg b b0 b1).1, rfl⟩⟩⟩
  · refine ⟨-1, J, ?_, pw0, rfl, Or.inl ⟨hw, rfl⟩⟩
    refine zz_c (zz_call (by omega) t_202 rfl (fun n => e_202 _ _ _) ?_)
    simp (maxSteps := 5000000) (disch := first | assumption | omega) only [zz_l, zz_l0, zz_l1, r_134, zo_rI, zz_0]
    refine zz_Ei (fun g => zz_Er rfl) (fun g => absurd (Decidable.not_not.mp (by first | exact g | (rw [zz_be0] at g; exact g))) hw)
end ZRCH
