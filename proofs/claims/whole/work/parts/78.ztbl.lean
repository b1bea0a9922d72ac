/-! PURE LAYER, 58: the class's tables of worths -/
def zk_t (A : Int → Int) (e w k : Int) : Int := zz_sum (fun i => if A (43 + 15 * e + 3 * i) = k / 10 then zz_wi A e i (k % 10) else 0) w
def zk_T (A : Int → Int) (e k : Int) : Int := zk_t A e (A (42 + 15 * e)) k
def zk_A (A : Int → Int) (m k : Int) : Int := zz_sum (fun e => zk_T A e k) m
/-- the numbers V by cell and height come to the worth W of a land's heights -/
def zk_is (n : Int) (V : Int → Int) (W : (Int → Int) → Int) : Prop := ∀ g, (∀ c, 0 ≤ c → c < n → 0 ≤ g c ∧ g c ≤ 9) → zz_sum (fun c => V (c * 10 + g c)) n = W g
theorem zk_wi_b {A : Int → Int} {e i h : Int} (hD : zz_dok A e) (i0 : 0 ≤ i) (i1 : i < A (42 + 15 * e)) : 0 ≤ zz_wi A e i h ∧ zz_wi A e i h ≤ 99 := by
  have := (hD.2.2.2 i i0 i1).2.2
  unfold zz_wi
  omega
theorem zk_t_b {A : Int → Int} {e w k : Int} (hD : zz_dok A e) (w0 : 0 ≤ w) (w1 : w ≤ A (42 + 15 * e)) : 0 ≤ zk_t A e w k ∧ zk_t A e w k ≤ 99 * w := by
  have := zz_sum_b (f := fun i => if A (43 + 15 * e + 3 * i) = k / 10 then zz_wi A e i (k % 10) else 0) (a := 0) (b := 99) w0 (by
    intro i i0 i1
    have := zk_wi_b (h := k % 10) hD i0 (by omega)
    show 0 ≤ (if A (43 + 15 * e + 3 * i) = k / 10 then zz_wi A e i (k % 10) else 0) ∧ (if A (43 + 15 * e + 3 * i) = k / 10 then zz_wi A e i (k % 10) else 0) ≤ 99
    split <;> omega)
  unfold zk_t
  omega
theorem zk_T_b {A : Int → Int} {e k : Int} (hD : zz_dok A e) : 0 ≤ zk_T A e k ∧ zk_T A e k ≤ 396 := by
  have h2 := hD.2.2.1
  have := zk_t_b (k := k) hD h2.1 (Int.le_refl _)
  unfold zk_T
  omega
theorem zk_A_b {Y : Int} {A : Int → Int} {m k : Int} (hA : zz_ok Y A) (m0 : 0 ≤ m) (m1 : m ≤ A 7) : 0 ≤ zk_A A m k ∧ zk_A A m k ≤ 396 * m := by
  have := zz_sum_b (f := fun e => zk_T A e k) (a := 0) (b := 396) m0 (fun e e0 e1 => zk_T_b (hA.2.2.2.2.2.2.2.2 e e0 (by omega)))
  unfold zk_A
  omega
theorem zk_t1 {A : Int → Int} {e w k : Int} (w0 : 0 ≤ w) : zk_t A e (w + 1) k = zk_t A e w k + (if A (43 + 15 * e + 3 * w) = k / 10 then zz_wi A e w (k % 10) else 0) := zz_sum1 w0
theorem zk_one {n k : Int} {f : Int → Int} (k0 : 0 ≤ k) (k1 : k < n) : zz_sum (fun c => if k = c then f c else 0) n = f k := by
  have h := zz_sum_f (f := fun _ => 0) (c := n) (k := k) (v := f k) k0 k1
  rw [zz_sum_z (f := fun _ => 0) (by omega) (fun _ _ _ => rfl)] at h
  rw [zz_sum_c (g := zz_f (fun _ => 0) k (f k)) (by omega) (fun c c0 c1 => ?_), h]
  · omega
  · by_cases q : k = c
    · rw [if_pos q, ← q, zf_s]
    · rw [if_neg q, zf_n (fun h => q h.symm)]
theorem zk_T_is {Y : Int} {A : Int → Int} {e : Int} (hA : zz_ok Y A) (e0 : 0 ≤ e) (e1 : e < A 7) : zk_is (A 0 * A 1) (zk_T A e) (fun g => zz_wo A g e) := by
  intro g hg
  have hn := hA.n
  have hD := hA.2.2.2.2.2.2.2.2 e e0 e1
  have h2 := hD.2.2.1
  show zz_sum (fun c => zz_sum (fun i => if A (43 + 15 * e + 3 * i) = (c * 10 + g c) / 10 then zz_wi A e i ((c * 10 + g c) % 10) else 0) (A (42 + 15 * e))) (A 0 * A 1) = zz_sum (fun w => zz_wi A e w (g (A (43 + 15 * e + 3 * w)))) (A (42 + 15 * e))
  rw [zz_sum_swap (by omega) h2.1]
  refine zz_sum_c h2.1 (fun i i0 i1 => ?_)
  have hW := (hD.2.2.2 i i0 i1).1
  show zz_sum (fun c => if A (43 + 15 * e + 3 * i) = (c * 10 + g c) / 10 then zz_wi A e i ((c * 10 + g c) % 10) else 0) (A 0 * A 1) = zz_wi A e i (g (A (43 + 15 * e + 3 * i)))
  rw [zz_sum_c (g := fun c => if A (43 + 15 * e + 3 * i) = c then zz_wi A e i (g c) else 0) (by omega) (fun c c0 c1 => ?_)]
  · exact zk_one (f := fun c => zz_wi A e i (g c)) hW.1 hW.2
  · have := hg c c0 c1
    show (if A (43 + 15 * e + 3 * i) = (c * 10 + g c) / 10 then zz_wi A e i ((c * 10 + g c) % 10) else 0) = (if A (43 + 15 * e + 3 * i) = c then zz_wi A e i (g c) else 0)
    rw [show (c * 10 + g c) / 10 = c by omega, show (c * 10 + g c) % 10 = g c by omega]
theorem zk_A_is {Y : Int} {A : Int → Int} (hA : zz_ok Y A) : zk_is (A 0 * A 1) (zk_A A (A 7)) (zz_wa A) := by
  intro g hg
  have hn := hA.n
  have h7 := hA.2.2.2.2.2.2.1
  show zz_sum (fun c => zz_sum (fun e => zk_T A e (c * 10 + g c)) (A 7)) (A 0 * A 1) = zz_sum (fun d => zz_wo A g d) (A 7)
  rw [zz_sum_swap (by omega) h7.1]
  exact zz_sum_c h7.1 (fun e e0 e1 => zk_T_is hA e0 e1 g hg)
/-- what a haul brings, by the numbers -/
theorem zk_dl {n a b : Int} {V : Int → Int} {W : (Int → Int) → Int} {g : Int → Int} (h : zk_is n V W) (hg : ∀ c, 0 ≤ c → c < n → 0 ≤ g c ∧ g c ≤ 9) (hn : 0 ≤ n) (a0 : 0 ≤ a) (a1 : a < n) (b0 : 0 ≤ b) (b1 : b < n) (hab : a ≠ b) (ga : 1 ≤ g a) (gb : g b ≤ 8) : W (zz_f (zz_f g a (g a - 1)) b (g b + 1)) = W g + ((V (a * 10 + g a - 1) - V (a * 10 + g a)) + (V (b * 10 + g b + 1) - V (b * 10 + g b))) := by
  have ra := hg a a0 a1
  have rb := hg b b0 b1
  rw [← h g hg, ← h (zz_f (zz_f g a (g a - 1)) b (g b + 1)) (fun c c0 c1 => ?_)]
  · rw [zz_sum_c (g := zz_f (zz_f (fun c => V (c * 10 + g c)) a (V (a * 10 + g a - 1))) b (V (b * 10 + g b + 1))) hn (fun c c0 c1 => ?_)]
    · rw [zz_sum_f b0 b1, zz_sum_f a0 a1, zf_n (fun q => hab q.symm)]
      omega
    · show V (c * 10 + zz_f (zz_f g a (g a - 1)) b (g b + 1) c) = _
      by_cases q : c = b
      · subst q
        rw [zf_s, zf_s, Int.add_assoc]
      · rw [zf_n q, zf_n q]
        by_cases q' : c = a
        · subst q'
          rw [zf_s, zf_s, show c * 10 + (g c - 1) = c * 10 + g c - 1 by omega]
        · rw [zf_n q', zf_n q']
  · by_cases q : c = b
    · subst q
      rw [zf_s]
      omega
    · rw [zf_n q]
      by_cases q' : c = a
      · subst q'
        rw [zf_s]
        omega
      · rw [zf_n q']
        exact hg c c0 c1
section ZTBL
variable {T : List mv_T} {J : Nat → Int → Int} {R : Nat → Nat → Option Nat} {G : Nat → Nat → Int64} {d p q : Nat} {Y : Int} {A : Int → Int}
/-- an array of ints filled -/
theorem c_217g {m : Nat} {v : Int} (hd : 1 ≤ d) (hq : T[q]? = some (.inr (0, m))) (h16 : 16 ≤ q) (hm : m ≤ 1000) : mv_cax d 217 [.inr (.inr (some q)), .inl (mv_c v)] (zz_S T J R G) = some (none, zz_S T (zz_w J q (fun k : Int => if 0 ≤ k ∧ k < (m : Int) then v else J q k)) R G) := by
  refine zz_c (zz_call (by omega) t_217 rfl (fun n => e_217 _ _ _) ?_)
  simp (maxSteps := 5000000) (disch := first | assumption | omega) only [zz_al hq, zz_0, zz_31, zz_add, zz_sub, zz_mul, zz_neg, zz_lt, zz_le, zz_eq, zz_div, zz_md, zz_dv, zz_abs, zz_max, zz_min, zz_nI, zz_be0, zz_be1, zz_zb, zz_z, zz_l0, zz_l, zz_lcmp, zo_rf, zo_nl, zo_nn, zo_rI, zo_rL, zo_rR, zo_rV, Int.add_zero, Int.zero_add, Int.mul_zero, Int.zero_mul, Int.one_mul, Int.mul_one, if_true, if_false, not_true_eq_false, not_false_eq_true]
  have l := zz_loop (α := Int → Int) (run := fun c X n => mv_run (mv_cax (d - 1)) mm_217 n 5 [(0, .inr (.inr (some q))), (1, .inl (mv_c v)), (2, .inl (mv_c c)), (3, .inl (mv_c (m : Int)))] [] (zz_S T (zz_w J q X) R G)) (Q := fun r => r = (none, zz_S T (zz_w J q (fun k : Int => if 0 ≤ k ∧ k < (m : Int) then v else J q k)) R G)) (m : Int) (fun c X => 0 ≤ c ∧ ∀ y, X y = if 0 ≤ y ∧ y < c then v else J q y) ?_ ?_ m 0 (J q) (by omega) ⟨by omega, fun y => by rw [if_neg (by omega)]⟩
  · rw [zw_i] at l
    exact l
  · rintro c X ⟨hc, hX⟩ hlt kk
    refine zz_Es (fun n => e_217_5 _ _ _ _ _) ?_
    simp (maxSteps := 5000000) (disch := first | assumption | omega) only [zz_sI h16 hq, zz_wu, zz_0, zz_31, zz_add, zz_sub, zz_mul, zz_neg, zz_lt, zz_le, zz_eq, zz_div, zz_md, zz_dv, zz_abs, zz_max, zz_min, zz_nI, zz_be0, zz_be1, zz_zb, zz_z, zz_l0, zz_l, zz_lcmp, zo_rf, zo_nl, zo_nn, zo_rI, zo_rL, zo_rR, zo_rV, Int.add_zero, Int.zero_add, Int.mul_zero, Int.zero_mul, Int.one_mul, Int.mul_one, if_true, if_false, not_true_eq_false, not_false_eq_true]
    refine zz_Ei (fun h => absurd h (by omega)) (fun _ => ?_)
    refine kk _ ⟨by omega, fun y => ?_⟩
    by_cases e : y = c
    · subst e; rw [zf_s, if_pos (by omega)]
    · rw [zf_n e, hX y]
      by_cases q' : 0 ≤ y ∧ y < c
      · rw [if_pos q', if_pos (by omega)]
      · rw [if_neg q', if_neg (by omega)]
  · rintro X ⟨_, hX⟩
    refine zz_Es (fun n => e_217_5 _ _ _ _ _) ?_
    simp (maxSteps := 5000000) (disch := first | assumption | omega) only [zz_0, zz_31, zz_add, zz_sub, zz_mul, zz_neg, zz_lt, zz_le, zz_eq, zz_div, zz_md, zz_dv, zz_abs, zz_max, zz_min, zz_nI, zz_be0, zz_be1, zz_zb, zz_z, zz_l0, zz_l, zz_lcmp, zo_rf, zo_nl, zo_nn, zo_rI, zo_rL, zo_rR, zo_rV, Int.add_zero, Int.zero_add, Int.mul_zero, Int.zero_mul, Int.one_mul, Int.mul_one, if_true, if_false, not_true_eq_false, not_false_eq_true]
    refine zz_Ei (fun _ => ?_) (fun h => absurd (Int.le_refl _) h)
    have : X = (fun k : Int => if 0 ≤ k ∧ k < (m : Int) then v else J q k) := funext hX
    exact zz_Er (by rw [this])
theorem c_7 {e : Int} (hd : 2 ≤ d) (hL : ZL T R) (hp : Lnd p) (hA : zz_ok Y A) (hR : zc_rep T R J p A) (e0 : 0 ≤ e) (e1 : e < A 7) (hq : T[q]? = some (.inr (0, 160))) (hq1 : 73 ≤ q) (hq2 : q < 78) (hb : ∀ k, 0 ≤ k → k < 160 → 0 ≤ J q k ∧ J q k ≤ 3000) :
    ∃ O, mv_cax d 7 [.inr (.inr (some p)), .inl (mv_c e), .inr (.inr (some q))] (zz_S T J R G) = some (none, zz_S T (zz_w J q O) R G) ∧ ∀ k, 0 ≤ k → k < 160 → O k = J q k + zk_T A e k := by
  have hn := hA.n
  have hpl : p + 12 < 73 := by rcases hp with rfl | rfl | rfl | rfl <;> omega
  have h7 := hA.2.2.2.2.2.2.1
  have hD := hA.2.2.2.2.2.2.2.2 e e0 e1
  have h3 := hD.2.2.1
  have hR' : ∀ O, zc_rep T R (zz_w J q O) p A := fun O => zc_rep_f hR (fun x hx => zw_n (by omega))
  suffices h : ∃ r, mv_cax d 7 [.inr (.inr (some p)), .inl (mv_c e), .inr (.inr (some q))] (zz_S T J R G) = some r ∧ ∃ O, r = (none, zz_S T (zz_w J q O) R G) ∧ ∀ k, 0 ≤ k → k < 160 → O k = J q k + zk_T A e k by
    obtain ⟨r, h1, O, rfl, h2⟩ := h
    exact ⟨O, h1, h2⟩
  refine zz_call (by omega) t_7 rfl (fun n => e_7 _ _ _ _) ?_
  have l := zz_loop (α := Int → Int) (run := fun w O n => mv_run (mv_cax (d - 1)) mm_7 n 2 [(0, .inr (.inr (some p))), (1, .inl (mv_c e)), (2, .inr (.inr (some q))), (3, .inl (mv_c w))] [] (zz_S T (zz_w J q O) R G)) (Q := fun r => ∃ O, r = (none, zz_S T (zz_w J q O) R G) ∧ ∀ k, 0 ≤ k → k < 160 → O k = J q k + zk_T A e k) (A (42 + 15 * e)) (fun w O => 0 ≤ w ∧ ∀ k, 0 ≤ k → k < 160 → O k = J q k + zk_t A e w k) ?_ ?_ (A (42 + 15 * e)).toNat 0 (J q) (by omega) ⟨by omega, fun k _ _ => by unfold zk_t; rw [zz_sum0, Int.add_zero]⟩
  · rw [zw_i] at l
    exact l
  · rintro w O ⟨hw, hO⟩ hlt kk
    have hc := ((hR' O).2.2.2 e e0 e1).2.1
    have hW := hD.2.2.2 w hw hlt
    have q1 := (((hR' O).2.2.2 e e0 e1).2.2 w hw hlt).1
    refine zz_Es (fun n => e_7_2 _ _ _ _ _) ?_
    simp (maxSteps := 5000000) (disch := first | assumption | omega) only [hc, q1, zg_L_0, zp_L_0, zg_L_1, zp_L_1, zg_L_2, zp_L_2, zg_L_3, zp_L_3, zg_L_4, zp_L_4, zg_L_5, zp_L_5, zg_L_6, zp_L_6, zg_L_7, zp_L_7, zi_L, zr_L_8, za_L_1, zs_L_1, zr_L_9, za_L_2, zs_L_2, zr_L_10, za_L_3, zs_L_3, zr_L_11, za_L_4, zs_L_4, zr_L_12, za_L_5, zs_L_5, zr_L_13, za_L_6, zs_L_6, zr_L_14, za_L_7, zs_L_7, zr_L_15, za_L_8, zs_L_8, zr_L_16, za_L_9, zs_L_9, zr_L_17, za_L_10, zs_L_10, zr_L_18, za_L_11, zs_L_11, zr_L_19, za_L_12, zs_L_12, zz_0, zz_31, zz_add, zz_sub, zz_mul, zz_neg, zz_lt, zz_le, zz_eq, zz_div, zz_md, zz_dv, zz_abs, zz_max, zz_min, zz_nI, zz_be0, zz_be1, zz_zb, zz_z, zz_l0, zz_l, zz_lcmp, zo_rf, zo_nl, zo_nn, zo_rI, zo_rL, zo_rR, zo_rV, Int.add_zero, Int.zero_add, Int.mul_zero, Int.zero_mul, Int.one_mul, Int.mul_one, if_true, if_false, not_true_eq_false, not_false_eq_true]
    refine zz_Ei (fun h => absurd h (by omega)) (fun _ => ?_)
    refine zz_loop (α := Int → Int) (run := fun h O n => mv_run (mv_cax (d - 1)) mm_7 n 34 [(0, .inr (.inr (some p))), (1, .inl (mv_c e)), (2, .inr (.inr (some q))), (3, .inl (mv_c w)), (4, .inl (mv_c (e * 4 + w))), (5, .inl (mv_c (A (43 + 15 * e + 3 * w) * 10))), (6, .inl (mv_c h))] [] (zz_S T (zz_w J q O) R G)) 10 (fun h O => 0 ≤ h ∧ ∀ k, 0 ≤ k → k < 160 → O k = J q k + zk_t A e w k + (if A (43 + 15 * e + 3 * w) = k / 10 ∧ k % 10 < h then zz_wi A e w (k % 10) else 0)) ?_ ?_ 10 0 O (by omega) ⟨by omega, fun k k0 k1 => by rw [hO k k0 k1, if_neg (by omega), Int.add_zero]⟩
    · clear hc q1 hO O
      rintro h O ⟨hh, hO⟩ hlt' kk'
      have hk := hO (A (43 + 15 * e + 3 * w) * 10 + h) (by omega) (by omega)
      rw [if_neg (by omega), Int.add_zero] at hk
      have hJ := hb (A (43 + 15 * e + 3 * w) * 10 + h) (by omega) (by omega)
      have ht := zk_t_b (k := A (43 + 15 * e + 3 * w) * 10 + h) hD hw (by omega)
      have hwi := zk_wi_b (h := h) hD hw hlt
      have c57 := c_57 (T := T) (J := zz_w J q O) (R := R) (G := G) (d := d - 1) (p := p) (Y := Y) (A := A) (e := e) (w := w) (h := h) (by omega) hL hp hA (hR' O) e0 e1 hw hlt hh (by omega)
      refine zz_Es (fun n => e_7_34 _ _ _ _ _ _ _ _) ?_
      simp (maxSteps := 5000000) (disch := first | assumption | omega) only [zz_aI hq, zz_sI (by omega : 16 ≤ q) hq, zi_L, c57, zw_s, zz_wu, zz_0, zz_31, zz_add, zz_sub, zz_mul, zz_neg, zz_lt, zz_le, zz_eq, zz_div, zz_md, zz_dv, zz_abs, zz_max, zz_min, zz_nI, zz_be0, zz_be1, zz_zb, zz_z, zz_l0, zz_l, zz_lcmp, zo_rf, zo_nl, zo_nn, zo_rI, zo_rL, zo_rR, zo_rV, Int.add_zero, Int.zero_add, Int.mul_zero, Int.zero_mul, Int.one_mul, Int.mul_one, if_true, if_false, not_true_eq_false, not_false_eq_true]
      refine zz_Ei (fun h => absurd h (by omega)) (fun _ => ?_)
      refine kk' _ ⟨by omega, fun k k0 k1 => ?_⟩
      by_cases q' : k = A (43 + 15 * e + 3 * w) * 10 + h
      · rw [q', zf_s, hk, if_pos (by omega), show (A (43 + 15 * e + 3 * w) * 10 + h) % 10 = h by omega]
      · rw [zf_n q', hO k k0 k1]
        by_cases q'' : A (43 + 15 * e + 3 * w) = k / 10 ∧ k % 10 < h
        · rw [if_pos q'', if_pos (by omega)]
        · rw [if_neg q'', if_neg (by omega)]
    · clear hc q1 hO O
      rintro O ⟨_, hO⟩
      refine zz_Es (fun n => e_7_34 _ _ _ _ _ _ _ _) ?_
      simp (maxSteps := 5000000) (disch := first | assumption | omega) only [zz_0, zz_31, zz_add, zz_sub, zz_mul, zz_neg, zz_lt, zz_le, zz_eq, zz_div, zz_md, zz_dv, zz_abs, zz_max, zz_min, zz_nI, zz_be0, zz_be1, zz_zb, zz_z, zz_l0, zz_l, zz_lcmp, zo_rf, zo_nl, zo_nn, zo_rI, zo_rL, zo_rR, zo_rV, Int.add_zero, Int.zero_add, Int.mul_zero, Int.zero_mul, Int.one_mul, Int.mul_one, if_true, if_false, not_true_eq_false, not_false_eq_true]
      refine zz_Ei (fun _ => ?_) (fun h => absurd (Int.le_refl _) h)
      refine kk O ⟨by omega, fun k k0 k1 => ?_⟩
      rw [hO k k0 k1, zk_t1 hw, Int.add_assoc]
      congr 2
      by_cases q' : A (43 + 15 * e + 3 * w) = k / 10
      · rw [if_pos q', if_pos ⟨q', by omega⟩]
      · rw [if_neg q', if_neg (fun h => q' h.1)]
  · rintro O ⟨_, hO⟩
    have hc := ((hR' O).2.2.2 e e0 e1).2.1
    refine zz_Es (fun n => e_7_2 _ _ _ _ _) ?_
    simp (maxSteps := 5000000) (disch := first | assumption | omega) only [zo_rf, zr_L_15, za_L_8, hc, zz_le]
    refine zz_Ei (fun _ => ?_) (fun h => absurd (Int.le_refl _) h)
    exact zz_Er ⟨O, rfl, hO⟩
theorem c_5 {e : Int} (hd : 3 ≤ d) (hL : ZL T R) (hp : Lnd p) (hA : zz_ok Y A) (hR : zc_rep T R J p A) (e0 : 0 ≤ e) (e1 : e < A 7) (hq : T[q]? = some (.inr (0, 160))) (hq1 : 73 ≤ q) (hq2 : q < 78) :
    ∃ O, mv_cax d 5 [.inr (.inr (some p)), .inl (mv_c e), .inr (.inr (some q))] (zz_S T J R G) = some (none, zz_S T (zz_w J q O) R G) ∧ ∀ k, 0 ≤ k → k < 160 → O k = zk_T A e k := by
  have hpl : p + 12 < 73 := by rcases hp with rfl | rfl | rfl | rfl <;> omega
  have r217 := c_217g (T := T) (J := J) (R := R) (G := G) (d := d - 1) (v := 0) (by omega) hq (by omega) (by omega)
  obtain ⟨O, h7, hO⟩ := c_7 (T := T) (J := zz_w J q (fun k => if 0 ≤ k ∧ k < ((160 : Nat) : Int) then 0 else J q k)) (R := R) (G := G) (d := d - 1) (p := p) (q := q) (Y := Y) (A := A) (e := e) (by omega) hL hp hA (zc_rep_f hR (fun x hx => zw_n (by omega))) e0 e1 hq hq1 hq2 (fun k k0 k1 => by rw [zw_s, if_pos ⟨k0, k1⟩]; omega)
  rw [zw_w] at h7
  refine ⟨O, ?_, fun k k0 k1 => by rw [hO k k0 k1, zw_s, if_pos ⟨k0, k1⟩, Int.zero_add]⟩
  refine zz_c (zz_call (by omega) t_5 rfl (fun n => e_5 _ _ _ _) ?_)
  simp (maxSteps := 5000000) (disch := first | assumption | omega) only [r217, h7, zz_0, zz_31, zz_add, zz_sub, zz_mul, zz_neg, zz_lt, zz_le, zz_eq, zz_div, zz_md, zz_dv, zz_abs, zz_max, zz_min, zz_nI, zz_be0, zz_be1, zz_zb, zz_z, zz_l0, zz_l, zz_lcmp, zo_rf, zo_nl, zo_nn, zo_rI, zo_rL, zo_rR, zo_rV, Int.add_zero, Int.zero_add, Int.mul_zero, Int.zero_mul, Int.one_mul, Int.mul_one, if_true, if_false, not_true_eq_false, not_false_eq_true]
  exact zz_Er rfl
theorem c_6 (hd : 3 ≤ d) (hL : ZL T R) (hp : Lnd p) (hA : zz_ok Y A) (hR : zc_rep T R J p A) :
    ∃ O, mv_cax d 6 [.inr (.inr (some 73)), .inr (.inr (some p))] (zz_S T J R G) = some (none, zz_S T (zz_w J 74 O) R G) ∧ ∀ k, 0 ≤ k → k < 160 → O k = zk_A A (A 7) k := by
  have hpl : p + 12 < 73 := by rcases hp with rfl | rfl | rfl | rfl <;> omega
  have h7 := hA.2.2.2.2.2.2.1
  have hq : T[74]? = some (.inr (0, 160)) := hL.at 58 (by rfl)
  have r217 := c_217g (T := T) (J := J) (R := R) (G := G) (d := d - 1) (v := 0) (by omega) hq (by omega) (by omega)
  suffices h : ∃ r, mv_cax d 6 [.inr (.inr (some 73)), .inr (.inr (some p))] (zz_S T J R G) = some r ∧ ∃ O, r = (none, zz_S T (zz_w J 74 O) R G) ∧ ∀ k, 0 ≤ k → k < 160 → O k = zk_A A (A 7) k by
    obtain ⟨r, h1, O, rfl, h2⟩ := h
    exact ⟨O, h1, h2⟩
  refine zz_call (by omega) t_6 rfl (fun n => e_6 _ _ _) ?_
  simp (maxSteps := 5000000) (disch := first | assumption | omega) only [r217, zr_73_0, zr_73_1, zr_73_2, zr_73_3, zg_73_4, zp_73_4, zg_73_5, zp_73_5, zi_73, za_74, zs_74, zl_74, za_75, zs_75, zl_75, za_76, zs_76, zl_76, za_77, zs_77, zl_77, zg_L_0, zp_L_0, zg_L_1, zp_L_1, zg_L_2, zp_L_2, zg_L_3, zp_L_3, zg_L_4, zp_L_4, zg_L_5, zp_L_5, zg_L_6, zp_L_6, zg_L_7, zp_L_7, zi_L, zr_L_8, za_L_1, zs_L_1, zr_L_9, za_L_2, zs_L_2, zr_L_10, za_L_3, zs_L_3, zr_L_11, za_L_4, zs_L_4, zr_L_12, za_L_5, zs_L_5, zr_L_13, za_L_6, zs_L_6, zr_L_14, za_L_7, zs_L_7, zr_L_15, za_L_8, zs_L_8, zr_L_16, za_L_9, zs_L_9, zr_L_17, za_L_10, zs_L_10, zr_L_18, za_L_11, zs_L_11, zr_L_19, za_L_12, zs_L_12, zz_0, zz_31, zz_add, zz_sub, zz_mul, zz_neg, zz_lt, zz_le, zz_eq, zz_div, zz_md, zz_dv, zz_abs, zz_max, zz_min, zz_nI, zz_be0, zz_be1, zz_zb, zz_z, zz_l0, zz_l, zz_lcmp, zo_rf, zo_nl, zo_nn, zo_rI, zo_rL, zo_rR, zo_rV, Int.add_zero, Int.zero_add, Int.mul_zero, Int.zero_mul, Int.one_mul, Int.mul_one, if_true, if_false, not_true_eq_false, not_false_eq_true]
  refine zz_loop (α := Int → Int) (run := fun m O n => mv_run (mv_cax (d - 1)) mm_6 n 10 [(0, .inr (.inr (some 73))), (1, .inr (.inr (some p))), (2, .inl (mv_c m))] [] (zz_S T (zz_w J 74 O) R G)) (A 7) (fun m O => 0 ≤ m ∧ ∀ k, 0 ≤ k → k < 160 → O k = zk_A A m k) ?_ ?_ (A 7).toNat 0 _ (by omega) ⟨by omega, fun k k0 k1 => by rw [if_pos ⟨k0, k1⟩]; rfl⟩
  · rintro m O ⟨hm, hO⟩ hlt kk
    have hR' : zc_rep T R (zz_w J 74 O) p A := zc_rep_f hR (fun x hx => zw_n (by omega))
    have e7 := hR'.2.1.2.2.2.2
    obtain ⟨O', h1, h2⟩ := c_7 (T := T) (J := zz_w J 74 O) (R := R) (G := G) (d := d - 1) (p := p) (q := 74) (Y := Y) (A := A) (e := m) (by omega) hL hp hA hR' hm hlt hq (by omega) (by omega) (fun k k0 k1 => by
      rw [zw_s, hO k k0 k1]
      have := zk_A_b (k := k) hA hm (by omega)
      omega)
    rw [zw_w] at h1
    refine zz_Es (fun n => e_6_10 _ _ _ _) ?_
    simp (maxSteps := 5000000) (disch := first | assumption | omega) only [e7, h1, zr_73_0, zr_73_1, zr_73_2, zr_73_3, zg_73_4, zp_73_4, zg_73_5, zp_73_5, zi_73, za_74, zs_74, zl_74, za_75, zs_75, zl_75, za_76, zs_76, zl_76, za_77, zs_77, zl_77, zg_L_0, zp_L_0, zg_L_1, zp_L_1, zg_L_2, zp_L_2, zg_L_3, zp_L_3, zg_L_4, zp_L_4, zg_L_5, zp_L_5, zg_L_6, zp_L_6, zg_L_7, zp_L_7, zi_L, zr_L_8, za_L_1, zs_L_1, zr_L_9, za_L_2, zs_L_2, zr_L_10, za_L_3, zs_L_3, zr_L_11, za_L_4, zs_L_4, zr_L_12, za_L_5, zs_L_5, zr_L_13, za_L_6, zs_L_6, zr_L_14, za_L_7, zs_L_7, zr_L_15, za_L_8, zs_L_8, zr_L_16, za_L_9, zs_L_9, zr_L_17, za_L_10, zs_L_10, zr_L_18, za_L_11, zs_L_11, zr_L_19, za_L_12, zs_L_12, zz_0, zz_31, zz_add, zz_sub, zz_mul, zz_neg, zz_lt, zz_le, zz_eq, zz_div, zz_md, zz_dv, zz_abs, zz_max, zz_min, zz_nI, zz_be0, zz_be1, zz_zb, zz_z, zz_l0, zz_l, zz_lcmp, zo_rf, zo_nl, zo_nn, zo_rI, zo_rL, zo_rR, zo_rV, Int.add_zero, Int.zero_add, Int.mul_zero, Int.zero_mul, Int.one_mul, Int.mul_one, if_true, if_false, not_true_eq_false, not_false_eq_true]
    refine zz_Ei (fun h => absurd h (by omega)) (fun _ => ?_)
    refine kk O' ⟨by omega, fun k k0 k1 => ?_⟩
    rw [h2 k k0 k1, zw_s, hO k k0 k1]
    exact (zz_sum1 (f := fun e => zk_T A e k) hm).symm
  · rintro O ⟨_, hO⟩
    have hR' : zc_rep T R (zz_w J 74 O) p A := zc_rep_f hR (fun x hx => zw_n (by omega))
    have e7 := hR'.2.1.2.2.2.2
    refine zz_Es (fun n => e_6_10 _ _ _ _) ?_
    simp (maxSteps := 5000000) (disch := first | assumption | omega) only [zo_rf, zg_L_7, e7, zz_le]
    refine zz_Ei (fun _ => ?_) (fun h => absurd (Int.le_refl _) h)
    exact zz_Er ⟨O, rfl, hO⟩
theorem c_12 {V : Int → Int} {W : (Int → Int) → Int} (hd : 1 ≤ d) (hL : ZL T R) (hp : Lnd p) (hA : zz_ok Y A) (hR : zc_rep T R J p A) (hV : ∀ k, 0 ≤ k → k < 160 → J 74 k = V k) (hVb : ∀ k, 0 ≤ k → k < 160 → 0 ≤ V k ∧ V k ≤ 2376) (hW : zk_is (A 0 * A 1) V W) : mv_cax d 12 [.inr (.inr (some 73)), .inr (.inr (some p))] (zz_S T J R G) = some (some (.inl (mv_c (W (zz_H A)))), (zz_S T J R G)) := by
  have hn := hA.n
  have e2 := hR.1.1.2.2
  have hWg : zz_sum (fun c => V (c * 10 + A (8 + c))) (A 0 * A 1) = W (zz_H A) := hW (zz_H A) (fun c c0 c1 => (hA.2.2.2.2.2.2.2.1 c c0 c1).1)
  refine zz_c (zz_call (by omega) t_12 rfl (fun n => e_12 _ _ _) ?_)
  refine zz_loop (run := fun c s n => mv_run (mv_cax (d - 1)) mm_12 n 4 [(0, .inr (.inr (some 73))), (1, .inr (.inr (some p))), (2, .inl (mv_c s)), (3, .inl (mv_c c))] [] (zz_S T J R G)) (A 0 * A 1) (fun c s => 0 ≤ c ∧ s = zz_sum (fun c => V (c * 10 + A (8 + c))) c) ?_ ?_ (A 0 * A 1).toNat 0 0 (by omega) ⟨by omega, rfl⟩
  · rintro c s ⟨hc, rfl⟩ hlt kk
    have hh := (hA.2.2.2.2.2.2.2.1 c hc hlt).1
    have qh := (hR.2.2.1 c hc hlt).1
    have hv := hV (c * 10 + A (8 + c)) (by omega) (by omega)
    refine zz_Es (fun n => e_12_4 _ _ _ _ _) ?_
    simp (maxSteps := 5000000) (disch := first | assumption | omega) only [e2, qh, hv, zr_73_0, zr_73_1, zr_73_2, zr_73_3, zg_73_4, zp_73_4, zg_73_5, zp_73_5, zi_73, za_74, zs_74, zl_74, za_75, zs_75, zl_75, za_76, zs_76, zl_76, za_77, zs_77, zl_77, zg_L_0, zp_L_0, zg_L_1, zp_L_1, zg_L_2, zp_L_2, zg_L_3, zp_L_3, zg_L_4, zp_L_4, zg_L_5, zp_L_5, zg_L_6, zp_L_6, zg_L_7, zp_L_7, zi_L, zr_L_8, za_L_1, zs_L_1, zr_L_9, za_L_2, zs_L_2, zr_L_10, za_L_3, zs_L_3, zr_L_11, za_L_4, zs_L_4, zr_L_12, za_L_5, zs_L_5, zr_L_13, za_L_6, zs_L_6, zr_L_14, za_L_7, zs_L_7, zr_L_15, za_L_8, zs_L_8, zr_L_16, za_L_9, zs_L_9, zr_L_17, za_L_10, zs_L_10, zr_L_18, za_L_11, zs_L_11, zr_L_19, za_L_12, zs_L_12, zz_0, zz_31, zz_add, zz_sub, zz_mul, zz_neg, zz_lt, zz_le, zz_eq, zz_div, zz_md, zz_dv, zz_abs, zz_max, zz_min, zz_nI, zz_be0, zz_be1, zz_zb, zz_z, zz_l0, zz_l, zz_lcmp, zo_rf, zo_nl, zo_nn, zo_rI, zo_rL, zo_rR, zo_rV, Int.add_zero, Int.zero_add, Int.mul_zero, Int.zero_mul, Int.one_mul, Int.mul_one, if_true, if_false, not_true_eq_false, not_false_eq_true]
    refine zz_Ei (fun h => absurd h (by omega)) (fun _ => ?_)
    exact kk _ ⟨by omega, (zz_sum1 (f := fun c => V (c * 10 + A (8 + c))) hc).symm⟩
  · rintro s ⟨_, rfl⟩
    refine zz_Es (fun n => e_12_4 _ _ _ _ _) ?_
    simp (maxSteps := 5000000) (disch := first | assumption | omega) only [e2, zr_73_0, zr_73_1, zr_73_2, zr_73_3, zg_73_4, zp_73_4, zg_73_5, zp_73_5, zi_73, za_74, zs_74, zl_74, za_75, zs_75, zl_75, za_76, zs_76, zl_76, za_77, zs_77, zl_77, zg_L_0, zp_L_0, zg_L_1, zp_L_1, zg_L_2, zp_L_2, zg_L_3, zp_L_3, zg_L_4, zp_L_4, zg_L_5, zp_L_5, zg_L_6, zp_L_6, zg_L_7, zp_L_7, zi_L, zr_L_8, za_L_1, zs_L_1, zr_L_9, za_L_2, zs_L_2, zr_L_10, za_L_3, zs_L_3, zr_L_11, za_L_4, zs_L_4, zr_L_12, za_L_5, zs_L_5, zr_L_13, za_L_6, zs_L_6, zr_L_14, za_L_7, zs_L_7, zr_L_15, za_L_8, zs_L_8, zr_L_16, za_L_9, zs_L_9, zr_L_17, za_L_10, zs_L_10, zr_L_18, za_L_11, zs_L_11, zr_L_19, za_L_12, zs_L_12, zz_0, zz_31, zz_add, zz_sub, zz_mul, zz_neg, zz_lt, zz_le, zz_eq, zz_div, zz_md, zz_dv, zz_abs, zz_max, zz_min, zz_nI, zz_be0, zz_be1, zz_zb, zz_z, zz_l0, zz_l, zz_lcmp, zo_rf, zo_nl, zo_nn, zo_rI, zo_rL, zo_rR, zo_rV, Int.add_zero, Int.zero_add, Int.mul_zero, Int.zero_mul, Int.one_mul, Int.mul_one, if_true, if_false, not_true_eq_false, not_false_eq_true]
    refine zz_Ei (fun _ => ?_) (fun h => absurd (Int.le_refl _) h)
    rw [hWg]
    exact zz_Er rfl
end ZTBL
