/-! PURE LAYER, 85: the class's wishes, houses, heights, spring, rule -/
section ZAC2
variable {T : List mv_T} {J : Nat → Int → Int} {R : Nat → Nat → Option Nat} {G : Nat → Nat → Int64} {d p q : Nat} {Y : Int} {A : Int → Int}
theorem zc_aw {e c h w : Int} (hp : Lnd p) (hA : zz_ok Y A) (hR : zc_rep T R J p A) (he : 0 ≤ e ∧ e < A 7) (hn4 : 0 ≤ A (42 + 15 * e) ∧ A (42 + 15 * e) < 4) : zc_rep T R (zz_u (zz_u (zz_u (zz_u J (p + 9) (e * 4 + A (42 + 15 * e)) c) (p + 10) (e * 4 + A (42 + 15 * e)) h) (p + 11) (e * 4 + A (42 + 15 * e)) w) (p + 8) e (A (42 + 15 * e) + 1)) p (zt_aw A e c h w) := by
  have hpl : p + 12 < 73 := by rcases hp with rfl | rfl | rfl | rfl <;> omega
  obtain ⟨n, hn⟩ : ∃ n, n = A (42 + 15 * e) := ⟨_, rfl⟩
  have ylo : ∀ y, (y < 42 + 15 * e ∨ 54 + 15 * e < y ∨ (42 + 15 * e < y ∧ y < 43 + 15 * e + 3 * n)) → zt_aw A e c h w y = A y := fun y hy => by
    unfold zt_aw
    rw [← hn, zf_n (by omega), zf_n (by omega), zf_n (by omega), zf_n (by omega)]
  have y0 : zt_aw A e c h w (42 + 15 * e) = n + 1 := by
    unfold zt_aw
    rw [zf_s, hn]
  have y1 : zt_aw A e c h w (43 + 15 * e + 3 * n) = c := by
    unfold zt_aw
    rw [← hn, zf_n (by omega), zf_n (by omega), zf_n (by omega), zf_s]
  have y2 : zt_aw A e c h w (44 + 15 * e + 3 * n) = h := by
    unfold zt_aw
    rw [← hn, zf_n (by omega), zf_n (by omega), zf_s]
  have y3 : zt_aw A e c h w (45 + 15 * e + 3 * n) = w := by
    unfold zt_aw
    rw [← hn, zf_n (by omega), zf_s]
  rw [← hn] at hn4 ⊢
  obtain ⟨J', hJ'⟩ : ∃ J', J' = zz_u (zz_u (zz_u (zz_u J (p + 9) (e * 4 + n) c) (p + 10) (e * 4 + n) h) (p + 11) (e * 4 + n) w) (p + 8) e (n + 1) := ⟨_, rfl⟩
  rw [← hJ']
  have fj : ∀ x, (x < p + 8 ∨ p + 11 < x) → J' x = J x := fun x x1 => by rw [hJ', zu_A (by omega), zu_A (by omega), zu_A (by omega), zu_A (by omega)]
  have f8 : ∀ y, J' (p + 8) y = if y = e then n + 1 else J (p + 8) y := fun y => by
    rw [hJ']
    by_cases q : y = e
    · rw [q, zu_s, if_pos rfl]
    · rw [zu_k q, zu_A (by omega), zu_A (by omega), zu_A (by omega), if_neg q]
  have f9 : ∀ y, J' (p + 9) y = if y = e * 4 + n then c else J (p + 9) y := fun y => by
    rw [hJ', zu_A (by omega), zu_A (by omega), zu_A (by omega)]
    by_cases q : y = e * 4 + n
    · rw [q, zu_s, if_pos rfl]
    · rw [zu_k q, if_neg q]
  have f10 : ∀ y, J' (p + 10) y = if y = e * 4 + n then h else J (p + 10) y := fun y => by
    rw [hJ', zu_A (by omega), zu_A (by omega)]
    by_cases q : y = e * 4 + n
    · rw [q, zu_s, if_pos rfl]
    · rw [zu_k q, zu_A (by omega), if_neg q]
  have f11 : ∀ y, J' (p + 11) y = if y = e * 4 + n then w else J (p + 11) y := fun y => by
    rw [hJ', zu_A (by omega)]
    by_cases q : y = e * 4 + n
    · rw [q, zu_s, if_pos rfl]
    · rw [zu_k q, zu_A (by omega), zu_A (by omega), if_neg q]
  clear hJ'
  have hcd : ∀ c' i, zz_cd (zt_aw A e c h w) c' i = zz_cd A c' i := fun c' i => by
    unfold zz_cd
    rw [ylo 0 (by omega), ylo 1 (by omega)]
  have hN := hA.n
  obtain ⟨q1, q2, q3, q4⟩ := hR
  refine ⟨?_, ?_, ?_, fun e' e0 e1 => ?_⟩
  · unfold zc_geo at q1 ⊢
    rw [ylo 0 (by omega), ylo 1 (by omega), fj p (by omega), fj (p + 1) (by omega), fj (p + 2) (by omega), fj (p + 3) (by omega)]
    exact ⟨q1.1, fun c' c0 c1 => ⟨(q1.2.1 c' c0 c1).1, fun i i0 i1 => by rw [hcd]; exact (q1.2.1 c' c0 c1).2 i i0 i1⟩, q1.2.2⟩
  · rw [fj p (by omega), ylo 5 (by omega), ylo 2 (by omega), ylo 3 (by omega), ylo 4 (by omega), ylo 7 (by omega)]
    exact q2
  · rw [ylo 0 (by omega), ylo 1 (by omega), ylo 6 (by omega), fj (p + 4) (by omega), fj (p + 5) (by omega), fj (p + 6) (by omega)]
    intro c' c0 c1
    rw [ylo (8 + c') (by omega), ylo (24 + c') (by omega)]
    exact q3 c' c0 c1
  · rw [ylo 7 (by omega)] at e1
    obtain ⟨⟨a, b1, b2, b3, b4⟩, b5, b6⟩ := q4 e' e0 e1
    have hm := (hA.2.2.2.2.2.2.2.2 e' e0 e1).2.2.1
    have ha : J' a = J a := fj a (by omega)
    unfold zc_dr
    by_cases ee : e' = e
    · subst ee
      rw [ylo (40 + 15 * e') (by omega), ylo (41 + 15 * e') (by omega), y0]
      refine ⟨⟨a, b1, b2, b3, by rw [ha]; exact b4⟩, by rw [f8, if_pos rfl], fun w' w0 w1 => ?_⟩
      rw [f9, f10, f11]
      by_cases ww : w' = n
      · subst ww
        rw [if_pos rfl, if_pos rfl, if_pos rfl, y1, y2, y3]
        exact ⟨rfl, rfl, rfl⟩
      · rw [if_neg (by omega), if_neg (by omega), if_neg (by omega), ylo (43 + 15 * e' + 3 * w') (by omega), ylo (44 + 15 * e' + 3 * w') (by omega), ylo (45 + 15 * e' + 3 * w') (by omega)]
        exact b6 w' w0 (by omega)
    · rw [ylo (40 + 15 * e') (by omega), ylo (41 + 15 * e') (by omega), ylo (42 + 15 * e') (by omega)]
      refine ⟨⟨a, b1, b2, b3, by rw [ha]; exact b4⟩, by rw [f8, if_neg ee]; exact b5, fun w' w0 w1 => ?_⟩
      rw [f9, f10, f11, if_neg (by omega), if_neg (by omega), if_neg (by omega), ylo (43 + 15 * e' + 3 * w') (by omega), ylo (44 + 15 * e' + 3 * w') (by omega), ylo (45 + 15 * e' + 3 * w') (by omega)]
      exact b6 w' w0 w1
theorem c_36 {e c h w : Int} (hd : 2 ≤ d) (hL : ZL T R) (hp : Lnd p) (hA : zz_ok Y A) (hR : zc_rep T R J p A) (hraw : zk_raw T R J p) (he : 0 ≤ e ∧ e ≤ 999) (hc : 0 ≤ c ∧ c ≤ 999) (hh : 0 ≤ h ∧ h ≤ 999) (hw : 0 ≤ w ∧ w ≤ 999) :
    (¬ ((e < A 7 ∧ c < A 0 * A 1) ∧ (1 ≤ w ∧ w ≤ 99) ∧ A (42 + 15 * e) < 4) ∧ mv_cax d 36 [.inr (.inr (some p)), .inl (mv_c e), .inl (mv_c c), .inl (mv_c h), .inl (mv_c w)] (zz_S T J R G) = some (some (.inl (mv_c 0)), (zz_S T J R G))) ∨ (((e < A 7 ∧ c < A 0 * A 1) ∧ (1 ≤ w ∧ w ≤ 99) ∧ A (42 + 15 * e) < 4) ∧ ∃ J', mv_cax d 36 [.inr (.inr (some p)), .inl (mv_c e), .inl (mv_c c), .inl (mv_c h), .inl (mv_c w)] (zz_S T J R G) = some (some (.inl (mv_c 1)), zz_S T J' R G) ∧ zc_rep T R J' p (zt_aw A e c h w) ∧ zk_raw T R J' p ∧ ∀ x, (x < p ∨ p + 11 < x) → J' x = J x) := by
  have hpl : p + 12 < 73 := by rcases hp with rfl | rfl | rfl | rfl <;> omega
  have h7 := hA.2.2.2.2.2.2.1
  have hN := hA.n
  have e7 := hR.2.1.2.2.2.2
  have c34 := c_34 (G := G) (d := d - 1) (e := e) (by omega) hL hp hA hR (by omega) (by omega)
  have c33 := c_33 (G := G) (d := d - 1) (c := c) (by omega) hL hp hA hR (by omega) (by omega)
  by_cases he7 : e < A 7
  · obtain ⟨⟨a, b1, b2, b3, b4⟩, b5, b6⟩ := hR.2.2.2 e he.1 he7
    have hm := (hA.2.2.2.2.2.2.2.2 e he.1 he7).2.2.1
    rw [if_pos ⟨he.1, he7⟩, b1] at c34
    by_cases hcc : ((e < A 7 ∧ c < A 0 * A 1) ∧ (1 ≤ w ∧ w ≤ 99) ∧ A (42 + 15 * e) < 4)
    · refine Or.inr ⟨hcc, _, ?_, zc_aw (c := c) (h := h) (w := w) hp hA hR ⟨he.1, he7⟩ ⟨hm.1, hcc.2.2⟩, ⟨fun c' c0 c1 => ?_, hraw.2⟩, fun x hx => ?_⟩
      · obtain ⟨n, hn⟩ : ∃ n, n = A (42 + 15 * e) := ⟨_, rfl⟩
        rw [← hn] at b5 hm hcc ⊢
        clear hn b6 hA hR e7 b1 b2 b3 b4
        refine zz_c (zz_call (by omega) t_36 rfl (fun n => e_36 _ _ _ _ _ _) ?_)
        simp (maxSteps := 5000000) (disch := first | assumption | omega) only [zi_L, c34, c33, zo_rR, zo_rI, zo_nn, zz_0, zz_be0, zz_lt, zz_le, zr_L_15, zr_L_16, zr_L_17, zr_L_18, zo_rf, za_L_8, zs_L_9, zs_L_10, zs_L_11, zs_L_8, b5, zz_mul, zz_add, zu_A, zz_z]
        refine zz_Ei (fun g => by
          try rw [zz_be0] at g
          exact absurd ⟨hc.1, hcc.1.2⟩ g) (fun _ => ?_)
        refine zz_Ei (fun g => absurd g (by omega)) (fun _ => ?_)
        refine zz_Ei (fun _ => ?_) (fun g => absurd (by omega) g)
        refine zz_Ei (fun _ => ?_) (fun g => absurd (by omega) g)
        exact zz_Er rfl
      · rw [zu_A (by omega), zu_A (by omega), zu_A (by omega), zu_A (by omega)]
        exact hraw.1 c' c0 c1
      · rw [zu_A (by omega), zu_A (by omega), zu_A (by omega), zu_A (by omega)]
    · refine Or.inl ⟨hcc, ?_⟩
      clear hA hR e7 b1 b2 b3 b4 b6
      refine zz_c (zz_call (by omega) t_36 rfl (fun n => e_36 _ _ _ _ _ _) ?_)
      simp (maxSteps := 5000000) (disch := first | assumption | omega) only [zi_L, c34, c33, zo_rR, zo_rI, zo_nn, zz_0, zz_be0, zz_lt, zz_le, zr_L_15, zo_rf, za_L_8, b5, zz_z]
      refine zz_Ei (fun g => zz_Er rfl) (fun g0 => ?_)
      try rw [zz_be0] at g0
      refine zz_Ei (fun g => zz_Er rfl) (fun g1 => ?_)
      refine zz_Ei (fun g2 => ?_) (fun g => zz_Er rfl)
      refine zz_Ei (fun g => absurd (by omega) hcc) (fun g => zz_Er rfl)
  · refine Or.inl ⟨by omega, ?_⟩
    rw [if_neg (by omega)] at c34
    refine zz_c (zz_call (by omega) t_36 rfl (fun n => e_36 _ _ _ _ _ _) ?_)
    simp (maxSteps := 5000000) (disch := first | assumption | omega) only [zi_L, c34, zo_rR, zo_nl, zz_z]
    exact zz_Er rfl
end ZAC2
