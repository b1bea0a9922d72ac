/-! PURE LAYER, 49: from places in lists to cells -/
section ZSCT
variable {J : Nat → Int → Int} {E S D s t : Int → Int} {x : Int → Int → Int} {n nh nl C K : Int}
noncomputable def zs_cx (E : Int → Int) (ih il : Int → Int) (x : Int → Int → Int) : Int → Int → Int := fun a b => if 0 < E a ∧ E b < 0 then x (ih a) (il b) else 0
theorem zs_cert (hl : zs_ls E n J) (hn : 0 ≤ n) (hx : zz_tr (zd_hi (J 78 3)) (J 78 4) (J 78 3) 6 (zd_w C (J 80) (J 81)) (fun i => E (J 80 i)) (fun j => -E (J 81 j)) x s t K) (hs : ∀ i, zd_hi (J 78 3) i → s i = 0) (ht : ∀ j, 0 ≤ j → j < J 78 4 → t j = 0) : zz_cert n (zz_w2 C) E (2 * K) := by
  obtain ⟨⟨h0, h1, ih, h2, h3, h4⟩, ⟨g0, g1, il, g2, g3, g4⟩, -, -, -⟩ := hl
  generalize J 78 3 = nh at *
  generalize J 78 4 = nl at *
  generalize J 80 = H at *
  generalize J 81 = L at *
  obtain ⟨⟨u, v, hp⟩, q1, q2, q3, q4⟩ := hx
  have q1 : ∀ i, zd_hi nh i → zz_sum (x i) nl + s i = E (H i) ∧ 0 ≤ s i := q1
  have q2 : ∀ j, 0 ≤ j → j < nl → zz_sum (fun i => x i j) nh + t j = -E (L j) ∧ 0 ≤ t j := q2
  have h3 : ∀ c, 0 ≤ c → c < n → 0 < E c → 0 ≤ ih c ∧ ih c < nh ∧ H (ih c) = c := h3
  have g3 : ∀ c, 0 ≤ c → c < n → E c < 0 → 0 ≤ il c ∧ il c < nl ∧ L (il c) = c := g3
  have hH : ∀ i, 0 ≤ i → i < nh → 0 ≤ H i ∧ H i < n ∧ 0 < E (H i) := h1
  have hLo : ∀ i, 0 ≤ i → i < nl → 0 ≤ L i ∧ L i < n ∧ E (L i) < 0 := g1
  have cx0 : ∀ a b, ¬ (0 < E a ∧ E b < 0) → zs_cx E ih il x a b = 0 := fun a b h => if_neg h
  have cx1 : ∀ a b, 0 < E a → E b < 0 → zs_cx E ih il x a b = x (ih a) (il b) := fun a b h h' => if_pos ⟨h, h'⟩
  have cx2 : ∀ i j, 0 ≤ i → i < nh → 0 ≤ j → j < nl → zs_cx E ih il x (H i) (L j) = x i j := fun i j i0 i1 j0 j1 => by
    rw [cx1 _ _ (hH i i0 i1).2.2 (hLo j j0 j1).2.2, h2 i i0 i1, g2 j j0 j1]
  refine ⟨zs_cx E ih il x, fun a => 2 * u (ih a), fun b => 2 * v (il b), fun a b a0 a1 b0 b1 => ?_, fun a a0 a1 => ?_, fun b b0 b1 => ?_, ?_⟩
  · by_cases hh : 0 < E a ∧ E b < 0
    · rw [cx1 a b hh.1 hh.2]
      have ha := h3 a a0 a1 hh.1
      have hb := g3 b b0 b1 hh.2
      have hpp := hp (ih a) (il b) ⟨ha.1, ha.2.1⟩ hb.1 hb.2.1
      have ew : zd_w C H L (ih a) (il b) = zz_nr C a b := by
        show zz_nr C (H (ih a)) (L (il b)) = _
        rw [ha.2.2, hb.2.2]
      rw [ew] at hpp
      have ew2 : zz_w2 C a b = 2 * zz_nr C a b := rfl
      refine ⟨hpp.2.1, fun q => ⟨hh.1, hh.2, ?_⟩, fun _ _ => ?_⟩
      · have := hpp.2.2.2 q
        show 2 * v (il b) - 2 * u (ih a) = _
        omega
      · have := hpp.2.2.1
        show 2 * v (il b) - 2 * u (ih a) ≤ _
        omega
    · rw [cx0 a b hh]
      exact ⟨Int.le_refl _, fun q => absurd q (by omega), fun q q' => absurd ⟨q, q'⟩ hh⟩
  · by_cases ha : 0 < E a
    · have hi := h3 a a0 a1 ha
      have e1 := (q1 (ih a) ⟨hi.1, hi.2.1⟩).1
      rw [hs _ ⟨hi.1, hi.2.1⟩, hi.2.2] at e1
      rw [g4 (fun b => zs_cx E ih il x a b) (fun c _ _ hc => cx0 a c (fun q => hc q.2))]
      have e2 : zz_sum (fun j => zs_cx E ih il x a (L j)) nl = zz_sum (x (ih a)) nl := zz_sum_c (by omega) (fun j j0 j1 => by
        have := cx2 (ih a) j hi.1 hi.2.1 j0 j1
        rw [hi.2.2] at this
        exact this)
      have e3 : zz_sum (fun i => (fun b => zs_cx E ih il x a b) (L i)) nl = zz_sum (fun j => zs_cx E ih il x a (L j)) nl := rfl
      rw [e3, e2]
      omega
    · rw [zz_sum_z hn (fun b _ _ => cx0 a b (fun q => ha q.1))]
      omega
  · by_cases hb : E b < 0
    · have hi := g3 b b0 b1 hb
      have e1 := (q2 (il b) hi.1 hi.2.1).1
      rw [ht _ hi.1 hi.2.1, hi.2.2] at e1
      rw [h4 (fun a => zs_cx E ih il x a b) (fun c _ _ hc => cx0 c b (fun q => hc q.1))]
      have e2 : zz_sum (fun i => zs_cx E ih il x (H i) b) nh = zz_sum (fun i => x i (il b)) nh := zz_sum_c (by omega) (fun i i0 i1 => by
        have := cx2 i (il b) i0 i1 hi.1 hi.2.1
        rw [hi.2.2] at this
        exact this)
      have e3 : zz_sum (fun i => (fun a => zs_cx E ih il x a b) (H i)) nh = zz_sum (fun i => zs_cx E ih il x (H i) b) nh := rfl
      rw [e3, e2]
      omega
    · rw [zz_sum_z hn (fun a _ _ => cx0 a b (fun q => hb q.2))]
      omega
  · unfold zz_cst
    rw [h4 (fun a => zz_sum (fun b => zz_w2 C a b * zs_cx E ih il x a b) n) (fun c _ _ hc => zz_sum_z hn (fun b _ _ => by
      show zz_w2 C c b * zs_cx E ih il x c b = 0
      rw [cx0 c b (fun q => hc q.1), Int.mul_zero]))]
    have e1 : zz_sum (fun i => (fun a => zz_sum (fun b => zz_w2 C a b * zs_cx E ih il x a b) n) (H i)) nh = zz_sum (fun i => 2 * zz_sum (fun j => zd_w C H L i j * x i j) nl) nh := zz_sum_c (by omega) (fun i i0 i1 => by
      show zz_sum (fun b => zz_w2 C (H i) b * zs_cx E ih il x (H i) b) n = _
      rw [g4 (fun b => zz_w2 C (H i) b * zs_cx E ih il x (H i) b) (fun c _ _ hc => by
        show zz_w2 C (H i) c * zs_cx E ih il x (H i) c = 0
        rw [cx0 _ c (fun q => hc q.2), Int.mul_zero]), ← zz_sum_mul (by omega)]
      refine zz_sum_c (by omega) (fun j j0 j1 => ?_)
      show zz_w2 C (H i) (L j) * zs_cx E ih il x (H i) (L j) = 2 * (zd_w C H L i j * x i j)
      rw [cx2 i j i0 i1 j0 j1]
      show 2 * zz_nr C (H i) (L j) * x i j = 2 * (zz_nr C (H i) (L j) * x i j)
      rw [Int.mul_assoc])
    rw [e1, zz_sum_mul (by omega)]
    have q4 : zz_sum (fun i => zz_sum (fun j => zd_w C H L i j * x i j) nl) nh = K := q4
    rw [q4]
/-- what a plan costs is bounded -/
theorem zs_kb {w : Int → Int → Int} (h0 : 0 ≤ nh) (h1 : nh ≤ 16) (h2 : 0 ≤ nl) (hS : ∀ i, zd_hi nh i → S i ≤ 9) (hx : zz_tr (zd_hi nh) nl nh 6 w S D x s t K) : 0 ≤ K ∧ K ≤ 864 := by
  obtain ⟨⟨u, v, hp⟩, q1, q2, q3, q4⟩ := hx
  have h : ∀ i, 0 ≤ i → i < nh → 0 ≤ zz_sum (fun b => w i b * x i b) nl ∧ zz_sum (fun b => w i b * x i b) nl ≤ 54 := by
    intro i i0 i1
    have e1 := q1 i ⟨i0, i1⟩
    have e2 := hS i ⟨i0, i1⟩
    have e3 := zz_sum_le (f := fun b => w i b * x i b) (g := fun b => 6 * x i b) h2 (fun b b0 b1 => by
      have := hp i b ⟨i0, i1⟩ b0 b1
      exact Int.mul_le_mul_of_nonneg_right (by omega) this.2.1)
    have e4 := zz_sum_le (f := fun _ => 0) (g := fun b => w i b * x i b) h2 (fun b b0 b1 => by
      have := hp i b ⟨i0, i1⟩ b0 b1
      exact Int.mul_nonneg this.1.1 this.2.1)
    rw [zz_sum_z (f := fun _ => 0) h2 (fun _ _ _ => rfl)] at e4
    rw [zz_sum_mul h2] at e3
    have e5 : zz_sum (fun b => x i b) nl = zz_sum (x i) nl := rfl
    omega
  have := zz_sum_b h0 h
  unfold zz_cst at q4
  omega
end ZSCT
