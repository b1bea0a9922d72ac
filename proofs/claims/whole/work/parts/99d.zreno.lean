/-! PURE LAYER, 83: the class's land renewed; rows that differ in fields -/
section ZRE3
variable {T : List mv_T} {J J' : Nat → Int → Int} {R : Nat → Nat → Option Nat} {G : Nat → Nat → Int64} {d p q : Nat} {Y : Int} {A A' : Int → Int}
def zt_ge (J : Nat → Int → Int) (p : Nat) (A : Int → Int) (n C e : Int) : Prop := J (p + 1) e = e % C ∧ (∀ i, 0 ≤ i → i < 4 → J (p + 3) (e * 4 + i) = zz_cd A e i) ∧ ∀ b, 0 ≤ b → b < n → J (p + 2) (e * 16 + b) = zz_nr C e b
theorem c_30 {P C : Int} {A : Int → Int} (hd : 2 ≤ d) (hL : ZL T R) (hp : Lnd p) (hP : 2 ≤ P ∧ P ≤ 4) (hC : 2 ≤ C ∧ C ≤ 4) (a0 : A 0 = P) (a1 : A 1 = C) :
    ∃ J', mv_cax d 30 [.inr (.inr (some p)), .inl (mv_c P), .inl (mv_c C)] (zz_S T J R G) = some (none, zz_S T J' R G) ∧ (∀ x, (x < p ∨ p + 6 < x) → J' x = J x) ∧ (∀ y, 4 ≤ y → J' p y = J p y) ∧ (J' p 0 = P ∧ J' p 1 = C ∧ J' p 2 = P * C ∧ J' p 3 = 0) ∧ (∀ e, 0 ≤ e → e < P * C → zt_ge J' p A (P * C) C e) ∧ ∀ k, 0 ≤ k → k < 16 → J' (p + 4) k = 2 ∧ J' (p + 5) k = -1 ∧ J' (p + 6) k = 0 := by
  have hpl : p + 12 < 73 ∧ 17 ≤ p := by rcases hp with rfl | rfl | rfl | rfl <;> omega
  have hn := zz_prod hP.1 hP.2 hC.1 hC.2
  suffices h : ∃ s, mv_cax d 30 [.inr (.inr (some p)), .inl (mv_c P), .inl (mv_c C)] (zz_S T J R G) = some s ∧ ∃ J', s = (none, zz_S T J' R G) ∧ (∀ x, (x < p ∨ p + 6 < x) → J' x = J x) ∧ (∀ y, 4 ≤ y → J' p y = J p y) ∧ (J' p 0 = P ∧ J' p 1 = C ∧ J' p 2 = P * C ∧ J' p 3 = 0) ∧ (∀ e, 0 ≤ e → e < P * C → zt_ge J' p A (P * C) C e) ∧ ∀ k, 0 ≤ k → k < 16 → J' (p + 4) k = 2 ∧ J' (p + 5) k = -1 ∧ J' (p + 6) k = 0 by
    obtain ⟨s, g1, J', rfl, g2⟩ := h
    exact ⟨J', g1, g2⟩
  refine zz_call (by omega) t_30 rfl (fun n => e_30 _ _ _ _) ?_
  obtain ⟨Q, hQ⟩ : ∃ Q : Option mv_V × mv_S → Prop, Q = fun s => ∃ J', s = (none, zz_S T J' R G) ∧ (∀ x, (x < p ∨ p + 6 < x) → J' x = J x) ∧ (∀ y, 4 ≤ y → J' p y = J p y) ∧ (J' p 0 = P ∧ J' p 1 = C ∧ J' p 2 = P * C ∧ J' p 3 = 0) ∧ (∀ e, 0 ≤ e → e < P * C → zt_ge J' p A (P * C) C e) ∧ ∀ k, 0 ≤ k → k < 16 → J' (p + 4) k = 2 ∧ J' (p + 5) k = -1 ∧ J' (p + 6) k = 0 := ⟨_, rfl⟩
  rw [← hQ]
  obtain ⟨J1, hJ1⟩ : ∃ J1, J1 = zz_u (zz_u (zz_u (zz_u J p 0 P) p 1 C) p 2 (P * C)) p 3 0 := ⟨_, rfl⟩
  have f1 : ∀ x, x ≠ p → J1 x = J x := fun x hx => by rw [hJ1, zu_A hx, zu_A hx, zu_A hx, zu_A hx]
  have y1 : ∀ y, 4 ≤ y → J1 p y = J p y := fun y hy => by rw [hJ1, zu_k (by omega), zu_k (by omega), zu_k (by omega), zu_k (by omega)]
  have v1 : J1 p 0 = P ∧ J1 p 1 = C ∧ J1 p 2 = P * C ∧ J1 p 3 = 0 := by
    rw [hJ1]
    exact ⟨by rw [zu_k (by omega), zu_k (by omega), zu_k (by omega), zu_s], by rw [zu_k (by omega), zu_k (by omega), zu_s], by rw [zu_k (by omega), zu_s], zu_s⟩
  have h217 := c_217g (T := T) (J := J1) (R := R) (G := G) (d := d - 1) (q := p + 4) (m := 16) (v := 2) (by omega) (zz_Lt4 hL hp) (by omega) (by omega)
  obtain ⟨J2, hJ2⟩ : ∃ J2, zz_w J1 (p + 4) (fun k : Int => if 0 ≤ k ∧ k < ((16 : Nat) : Int) then 2 else J1 (p + 4) k) = J2 := ⟨_, rfl⟩
  rw [hJ2] at h217
  have h217' := c_217g (T := T) (J := J2) (R := R) (G := G) (d := d - 1) (q := p + 5) (m := 16) (v := -1) (by omega) (zz_Lt5 hL hp) (by omega) (by omega)
  obtain ⟨J3, hJ3⟩ : ∃ J3, zz_w J2 (p + 5) (fun k : Int => if 0 ≤ k ∧ k < ((16 : Nat) : Int) then -1 else J2 (p + 5) k) = J3 := ⟨_, rfl⟩
  rw [hJ3] at h217'
  have f3 : ∀ x, x ≠ p + 4 → x ≠ p + 5 → J3 x = J1 x := fun x x1 x2 => by rw [← hJ3, zw_n x2, ← hJ2, zw_n x1]
  have v4 : ∀ k, 0 ≤ k → k < 16 → J3 (p + 4) k = 2 := fun k k0 k1 => by rw [← hJ3, zw_n (by omega), ← hJ2, zw_s, if_pos ⟨k0, k1⟩]
  have v5 : ∀ k, 0 ≤ k → k < 16 → J3 (p + 5) k = -1 := fun k k0 k1 => by rw [← hJ3, zw_s, if_pos ⟨k0, k1⟩]
  simp (maxSteps := 5000000) (disch := first | assumption | omega) only [zp_L_0, zp_L_1, zp_L_2, zp_L_3, zz_mul]
  rw [← hJ1]
  simp (maxSteps := 5000000) (disch := first | assumption | omega) only [zr_L_11, zr_L_12, h217, h217', zo_rV]
  clear hJ1 hJ2 hJ3 h217 h217'
  have l := zz_loop (α := Int → Int) (run := fun c O n => mv_run (mv_cax (d - 1)) mm_30 n 40 [(0, .inr (.inr (some p))), (3, .inl (mv_c c))] [] (zz_S T (zz_w J3 (p + 6) O) R G)) (Q := Q) 16 (fun c O => 0 ≤ c ∧ ∀ i, 0 ≤ i → i < c → O i = 0) ?_ ?_ 16 0 (J3 (p + 6)) (by omega) ⟨by omega, fun i _ _ => by omega⟩
  · rw [zw_i] at l
    exact l
  · rintro c O ⟨hc, hO⟩ hlt kk
    refine zz_Es (fun n => e_30_40 _ _ _) ?_
    simp (maxSteps := 5000000) (disch := first | assumption | omega) only [zo_rf, zr_L_13, zs_L_6, zz_wu, zz_le, zz_add]
    refine zz_Ei (fun h => absurd h (by omega)) (fun _ => ?_)
    refine kk _ ⟨by omega, fun i i0 i1 => ?_⟩
    by_cases q : i = c
    · rw [q, zf_s]
    · rw [zf_n q]
      exact hO i i0 (by omega)
  · rintro O ⟨_, hO⟩
    obtain ⟨J4, hJ4⟩ : ∃ J4, J4 = zz_w J3 (p + 6) O := ⟨_, rfl⟩
    have f4 : ∀ x, x ≠ p + 6 → J4 x = J3 x := fun x hx => by rw [hJ4, zw_n hx]
    have v6 : ∀ k, 0 ≤ k → k < 16 → J4 (p + 6) k = 0 := by rw [hJ4, zw_s]; exact hO
    refine zz_Es (fun n => e_30_40 _ _ _) ?_
    simp (maxSteps := 5000000) (disch := first | assumption | omega) only [zz_le]
    refine zz_Ei (fun _ => ?_) (fun h => absurd (Int.le_refl _) h)
    rw [← hJ4]
    have g0 : J4 p 0 = P := by rw [f4 p (by omega), f3 p (by omega) (by omega)]; exact v1.1
    have g1 : J4 p 1 = C := by rw [f4 p (by omega), f3 p (by omega) (by omega)]; exact v1.2.1
    have l2 := zz_loop (α := Nat → Int → Int) (run := fun r J5 n => mv_run (mv_cax (d - 1)) mm_30 n 64 [(0, .inr (.inr (some p))), (3, .inl (mv_c (r * C))), (4, .inl (mv_c r))] [] (zz_S T J5 R G)) (Q := Q) P (fun r J5 => 0 ≤ r ∧ (∀ x, x ≠ p + 1 → x ≠ p + 2 → x ≠ p + 3 → J5 x = J4 x) ∧ ∀ e, 0 ≤ e → e < r * C → zt_ge J5 p A (P * C) C e) ?_ ?_ P.toNat 0 J4 (by omega) ⟨by omega, fun _ _ _ _ => rfl, fun e e0 e1 => by omega⟩
    · rw [Int.zero_mul] at l2
      exact l2
    · rintro r J5 ⟨hr, k1, k2⟩ hlt kk
      have q0 : J5 p 0 = P := by rw [k1 p (by omega) (by omega) (by omega)]; exact g0
      refine zz_Es (fun n => e_30_64 _ _ _ _) ?_
      simp (maxSteps := 5000000) (disch := first | assumption | omega) only [zg_L_0, q0, zz_le]
      refine zz_Ei (fun h => absurd h (by omega)) (fun _ => ?_)
      have l3 := zz_loop (α := Nat → Int → Int) (run := fun c J5 n => mv_run (mv_cax (d - 1)) mm_30 n 76 [(0, .inr (.inr (some p))), (3, .inl (mv_c (r * C + c))), (4, .inl (mv_c r)), (5, .inl (mv_c c))] [] (zz_S T J5 R G)) (Q := Q) C (fun c J5 => 0 ≤ c ∧ (∀ x, x ≠ p + 1 → x ≠ p + 2 → x ≠ p + 3 → J5 x = J4 x) ∧ ∀ e, 0 ≤ e → e < r * C + c → zt_ge J5 p A (P * C) C e) ?_ ?_ C.toNat 0 J5 (by omega) ⟨by omega, k1, fun e e0 e1 => k2 e e0 (by omega)⟩
      · rw [Int.add_zero] at l3
        exact l3
      · rintro c J5 ⟨hc, k1, k2⟩ hlt' kk'
        have q0 : J5 p 0 = P := by rw [k1 p (by omega) (by omega) (by omega)]; exact g0
        have q1 : J5 p 1 = C := by rw [k1 p (by omega) (by omega) (by omega)]; exact g1
        have hdx := zt_dc (y := r) hC hc hlt'
        have heb : 0 ≤ r * C + c ∧ r * C + c < 16 := by
          rcases (show C = 2 ∨ C = 3 ∨ C = 4 by omega) with q | q | q <;> rw [q] at hlt' ⊢ <;> omega
        obtain ⟨J6, c31, w1, w2, w3, w4⟩ := c_31 (T := T) (J := J5) (R := R) (G := G) (d := d - 1) (e := r * C + c) (r := r) (c := c) (P := P) (C := C) (A := A) (by omega) hL hp hP hC q0 q1 a0 a1 ⟨hr, hlt⟩ ⟨hc, hlt'⟩ rfl
        refine zz_Es (fun n => e_30_76 _ _ _ _ _) ?_
        simp (maxSteps := 5000000) (disch := first | assumption | omega) only [zg_L_1, q1, zz_le, zi_L, c31, zo_rV, zz_add]
        refine zz_Ei (fun h => absurd h (by omega)) (fun _ => ?_)
        refine zz_Ei (fun h => absurd h (by omega)) (fun _ => ?_)
        rw [Int.add_assoc]
        refine kk' J6 ⟨by omega, fun x x1 x2 x3 => by rw [w1 x x1 x2 x3]; exact k1 x x1 x2 x3, fun e e0 e1 => ?_⟩
        by_cases q : e = r * C + c
        · refine ⟨by rw [w2, if_pos q, q, hdx.2], fun i i0 i1 => by rw [w4, q, if_pos (by omega), show (r * C + c) * 4 + i - (r * C + c) * 4 = i by omega], fun b b0 b1 => by rw [w3, q, if_pos (by omega), show (r * C + c) * 16 + b - (r * C + c) * 16 = b by omega]⟩
        · obtain ⟨u1, u2, u3⟩ := k2 e e0 (by omega)
          exact ⟨by rw [w2, if_neg q]; exact u1, fun i i0 i1 => by rw [w4, if_neg (by omega)]; exact u2 i i0 i1, fun b b0 b1 => by rw [w3, if_neg (by omega)]; exact u3 b b0 b1⟩
      · rintro J5 ⟨_, k1, k2⟩
        have q1 : J5 p 1 = C := by rw [k1 p (by omega) (by omega) (by omega)]; exact g1
        refine zz_Es (fun n => e_30_76 _ _ _ _ _) ?_
        simp (maxSteps := 5000000) (disch := first | assumption | omega) only [zg_L_1, q1, zz_le, zz_add]
        refine zz_Ei (fun _ => ?_) (fun h => absurd (Int.le_refl _) h)
        have e1 : r * C + C = (r + 1) * C := by rw [Int.add_mul, Int.one_mul]
        rw [e1] at k2 ⊢
        exact kk J5 ⟨by omega, k1, k2⟩
    · rintro J5 ⟨_, k1, k2⟩
      have q0 : J5 p 0 = P := by rw [k1 p (by omega) (by omega) (by omega)]; exact g0
      refine zz_Es (fun n => e_30_64 _ _ _ _) ?_
      simp (maxSteps := 5000000) (disch := first | assumption | omega) only [zg_L_0, q0, zz_le]
      refine zz_Ei (fun _ => ?_) (fun h => absurd (Int.le_refl _) h)
      rw [hQ]
      have kp : J5 p = J1 p := by rw [k1 p (by omega) (by omega) (by omega), f4 p (by omega), f3 p (by omega) (by omega)]
      refine zz_Er ⟨J5, rfl, fun x hx => by rw [k1 x (by omega) (by omega) (by omega), f4 x (by omega), f3 x (by omega) (by omega), f1 x (by omega)], fun y hy => by rw [kp]; exact y1 y hy, by rw [kp]; exact v1, k2, fun k h0 h1 => ⟨?_, ?_, ?_⟩⟩
      · rw [k1 _ (by omega) (by omega) (by omega), f4 _ (by omega)]; exact v4 k h0 h1
      · rw [k1 _ (by omega) (by omega) (by omega), f4 _ (by omega)]; exact v5 k h0 h1
      · rw [k1 _ (by omega) (by omega) (by omega)]; exact v6 k h0 h1
/-- fields, heights, the map, houses differ; not the drawers -/
theorem zc_rep_z (hR : zc_rep T R J p A) (m01 : A' 0 = A 0 ∧ A' 1 = A 1 ∧ A' 7 = A 7) (m40 : ∀ y, 40 ≤ y → A' y = A y) (hf : ∀ x, ((p < x ∧ x ≤ p + 3) ∨ (p + 8 ≤ x ∧ x ≤ p + 11) ∨ 156 ≤ x) → J' x = J x) (hp0 : J' p 0 = J p 0 ∧ J' p 1 = J p 1 ∧ J' p 2 = J p 2 ∧ J' p 7 = J p 7) (h5 : J' p 3 = A' 5 ∧ J' p 4 = A' 2 ∧ J' p 5 = A' 3 ∧ J' p 6 = A' 4) (hc : ∀ c, 0 ≤ c → c < A 0 * A 1 → J' (p + 4) c = A' (8 + c) ∧ J' (p + 5) c = zc_sd (A' (24 + c)) ∧ J' (p + 6) c = zz_bit (A' 6) c) : zc_rep T R J' p A' := by
  obtain ⟨r1, r2, r3, r4⟩ := hR
  have hcd : ∀ c i, zz_cd A' c i = zz_cd A c i := fun c i => by
    unfold zz_cd
    rw [m01.1, m01.2.1]
  refine ⟨?_, ?_, ?_, ?_⟩
  · unfold zc_geo at r1 ⊢
    rw [m01.1, m01.2.1, hp0.1, hp0.2.1, hp0.2.2.1, hf (p + 1) (by omega), hf (p + 2) (by omega), hf (p + 3) (by omega)]
    exact ⟨r1.1, fun c c0 c1 => ⟨(r1.2.1 c c0 c1).1, fun i i0 i1 => by rw [hcd]; exact (r1.2.1 c c0 c1).2 i i0 i1⟩, r1.2.2⟩
  · rw [hp0.2.2.2, m01.2.2]
    exact ⟨h5.1, h5.2.1, h5.2.2.1, h5.2.2.2, r2.2.2.2.2⟩
  · rw [m01.1, m01.2.1]
    exact hc
  · rw [m01.2.2]
    intro e e0 e1
    obtain ⟨⟨x, q1, q2, q3, q4⟩, q5, q6⟩ := r4 e e0 e1
    unfold zc_dr
    rw [m40 (40 + 15 * e) (by omega), m40 (41 + 15 * e) (by omega), m40 (42 + 15 * e) (by omega), hf (p + 8) (by omega), hf (p + 9) (by omega), hf (p + 10) (by omega), hf (p + 11) (by omega)]
    refine ⟨⟨x, q1, q2, q3, ?_⟩, q5, fun w w0 w1 => ?_⟩
    · rw [hf x (by omega)]
      exact q4
    · rw [m40 (43 + 15 * e + 3 * w) (by omega), m40 (44 + 15 * e + 3 * w) (by omega), m40 (45 + 15 * e + 3 * w) (by omega)]
      exact q6 w w0 w1
end ZRE3
