/-! PURE LAYER, 87: a statement's deed -/
theorem zt_vD {r : List Nat} {l : List Int} (h : zt_vals (68 :: r) l) : ∃ v l', l = v :: l' ∧ (0 ≤ v ∧ v ≤ 9) ∧ zt_vals r l' := by
  unfold zt_vals at h
  rw [if_pos rfl] at h
  exact h
theorem zt_vN {r : List Nat} {l : List Int} (h : zt_vals (78 :: r) l) : ∃ v l', l = v :: l' ∧ (0 ≤ v ∧ v ≤ 999) ∧ zt_vals r l' := by
  unfold zt_vals at h
  rw [if_neg (by decide), if_pos rfl] at h
  exact h
theorem zt_vO {c : Nat} {r : List Nat} {l : List Int} (h1 : c ≠ 68) (h2 : c ≠ 78) (h : zt_vals (c :: r) l) : zt_vals r l := by
  unfold zt_vals at h
  rw [if_neg h1, if_neg h2] at h
  exact h
theorem zt_v1 {l : List Int} (h : zt_vals (mv_str 1) l) : ∃ a b, l = [a, b] ∧ (0 ≤ a ∧ a ≤ 9) ∧ 0 ≤ b ∧ b ≤ 9 := by
  obtain ⟨a, l1, rfl, ha, h1⟩ := zt_vD h
  obtain ⟨b, l2, rfl, hb, h2⟩ := zt_vD h1
  have h3 : l2 = [] := zt_vO (by decide) (by decide) h2
  subst h3
  exact ⟨a, b, rfl, ha, hb⟩
theorem zt_v2 {l : List Int} (h : zt_vals (mv_str 2) l) : ∃ a b, l = [a, b] ∧ (0 ≤ a ∧ a ≤ 999) ∧ 0 ≤ b ∧ b ≤ 9 := by
  obtain ⟨a, l1, rfl, ha, h1⟩ := zt_vN h
  obtain ⟨b, l2, rfl, hb, h2⟩ := zt_vD (zt_vO (by decide) (by decide) h1)
  have h3 : l2 = [] := zt_vO (by decide) (by decide) h2
  subst h3
  exact ⟨a, b, rfl, ha, hb⟩
theorem zt_v3 {l : List Int} (h : zt_vals (mv_str 3) l) : ∃ a, l = [a] ∧ 0 ≤ a ∧ a ≤ 999 := by
  obtain ⟨a, l1, rfl, ha, h1⟩ := zt_vN h
  have h3 : l1 = [] := zt_vO (by decide) (by decide) h1
  subst h3
  exact ⟨a, rfl, ha⟩
theorem zt_v4 {l : List Int} (h : zt_vals (mv_str 4) l) : ∃ a, l = [a] ∧ 0 ≤ a ∧ a ≤ 9 := by
  obtain ⟨a, l1, rfl, ha, h1⟩ := zt_vD h
  have h3 : l1 = [] := zt_vO (by decide) (by decide) h1
  subst h3
  exact ⟨a, rfl, ha⟩
theorem zt_v5 {l : List Int} (h : zt_vals (mv_str 5) l) : ∃ a b c e, l = [a, b, c, e] ∧ (0 ≤ a ∧ a ≤ 9) ∧ (0 ≤ b ∧ b ≤ 999) ∧ (0 ≤ c ∧ c ≤ 9) ∧ 0 ≤ e ∧ e ≤ 999 := by
  obtain ⟨a, l1, rfl, ha, h1⟩ := zt_vD h
  obtain ⟨b, l2, rfl, hb, h2⟩ := zt_vN h1
  obtain ⟨c, l3, rfl, hc, h3⟩ := zt_vD (zt_vO (by decide) (by decide) h2)
  obtain ⟨e, l4, rfl, he, h4⟩ := zt_vN h3
  have h5 : l4 = [] := zt_vO (by decide) (by decide) h4
  subst h5
  exact ⟨a, b, c, e, rfl, ha, hb, hc, he⟩
theorem zt_ltr {c : Int} (h : zt_fn c ≠ 6) : c = 98 ∨ c = 100 ∨ c = 103 ∨ c = 108 ∨ c = 113 ∨ c = 115 ∨ c = 116 ∨ c = 119 := Decidable.byContradiction fun g => h (by
  unfold zt_fn
  rw [if_neg (by omega), if_neg (by omega), if_neg (by omega), if_neg (by omega), if_neg (by omega)])
section ZAC4
variable {T : List mv_T} {J : Nat → Int → Int} {R : Nat → Nat → Option Nat} {G : Nat → Nat → Int64} {d p q : Nat} {Y : Int} {A : Int → Int}
theorem zc_f2 {v : Int} (hp : Lnd p) (hA : zz_ok Y A) (hR : zc_rep T R J p A) : zc_rep T R (zz_u J p 4 v) p (zz_f A 2 v) := by
  have hpl : p + 12 < 73 := by rcases hp with rfl | rfl | rfl | rfl <;> omega
  have h5 := hR.2.1
  refine zc_rep_z hR ⟨zf_n (by omega), zf_n (by omega), zf_n (by omega)⟩ (fun y hy => zf_n (by omega)) (fun x hx => zu_A (by omega)) ⟨zu_k (by omega), zu_k (by omega), zu_k (by omega), zu_k (by omega)⟩ ⟨?_, ?_, ?_, ?_⟩ (fun c c0 c1 => ?_)
  · rw [zu_k (by omega), zf_n (by omega)]; exact h5.1
  · rw [zu_s, zf_s]
  · rw [zu_k (by omega), zf_n (by omega)]; exact h5.2.2.1
  · rw [zu_k (by omega), zf_n (by omega)]; exact h5.2.2.2.1
  · rw [zu_A (by omega), zu_A (by omega), zu_A (by omega), zf_n (by omega), zf_n (by omega), zf_n (by omega)]
    exact hR.2.2.1 c c0 c1
theorem zc_f3 {v : Int} (hp : Lnd p) (hA : zz_ok Y A) (hR : zc_rep T R J p A) : zc_rep T R (zz_u J p 5 v) p (zz_f A 3 v) := by
  have hpl : p + 12 < 73 := by rcases hp with rfl | rfl | rfl | rfl <;> omega
  have h5 := hR.2.1
  refine zc_rep_z hR ⟨zf_n (by omega), zf_n (by omega), zf_n (by omega)⟩ (fun y hy => zf_n (by omega)) (fun x hx => zu_A (by omega)) ⟨zu_k (by omega), zu_k (by omega), zu_k (by omega), zu_k (by omega)⟩ ⟨?_, ?_, ?_, ?_⟩ (fun c c0 c1 => ?_)
  · rw [zu_k (by omega), zf_n (by omega)]; exact h5.1
  · rw [zu_k (by omega), zf_n (by omega)]; exact h5.2.1
  · rw [zu_s, zf_s]
  · rw [zu_k (by omega), zf_n (by omega)]; exact h5.2.2.2.1
  · rw [zu_A (by omega), zu_A (by omega), zu_A (by omega), zf_n (by omega), zf_n (by omega), zf_n (by omega)]
    exact hR.2.2.1 c c0 c1
theorem zc_f5 {v : Int} (hp : Lnd p) (hA : zz_ok Y A) (hR : zc_rep T R J p A) : zc_rep T R (zz_u J p 3 v) p (zz_f A 5 v) := by
  have hpl : p + 12 < 73 := by rcases hp with rfl | rfl | rfl | rfl <;> omega
  have h5 := hR.2.1
  refine zc_rep_z hR ⟨zf_n (by omega), zf_n (by omega), zf_n (by omega)⟩ (fun y hy => zf_n (by omega)) (fun x hx => zu_A (by omega)) ⟨zu_k (by omega), zu_k (by omega), zu_k (by omega), zu_k (by omega)⟩ ⟨?_, ?_, ?_, ?_⟩ (fun c c0 c1 => ?_)
  · rw [zu_s, zf_s]
  · rw [zu_k (by omega), zf_n (by omega)]; exact h5.2.1
  · rw [zu_k (by omega), zf_n (by omega)]; exact h5.2.2.1
  · rw [zu_k (by omega), zf_n (by omega)]; exact h5.2.2.2.1
  · rw [zu_A (by omega), zu_A (by omega), zu_A (by omega), zf_n (by omega), zf_n (by omega), zf_n (by omega)]
    exact hR.2.2.1 c c0 c1
theorem zc_f8 {a v : Int} (hp : Lnd p) (hA : zz_ok Y A) (hR : zc_rep T R J p A) (ha : 0 ≤ a ∧ a < A 0 * A 1) : zc_rep T R (zz_u J (p + 4) a v) p (zz_f A (8 + a) v) := by
  have hpl : p + 12 < 73 := by rcases hp with rfl | rfl | rfl | rfl <;> omega
  have hN := hA.n
  have h5 := hR.2.1
  refine zc_rep_z hR ⟨zf_n (by omega), zf_n (by omega), zf_n (by omega)⟩ (fun y hy => zf_n (by omega)) (fun x hx => zu_A (by omega)) ⟨by rw [zu_A (by omega)], by rw [zu_A (by omega)], by rw [zu_A (by omega)], by rw [zu_A (by omega)]⟩ ⟨?_, ?_, ?_, ?_⟩ (fun c c0 c1 => ?_)
  · rw [zu_A (by omega), zf_n (by omega)]; exact h5.1
  · rw [zu_A (by omega), zf_n (by omega)]; exact h5.2.1
  · rw [zu_A (by omega), zf_n (by omega)]; exact h5.2.2.1
  · rw [zu_A (by omega), zf_n (by omega)]; exact h5.2.2.2.1
  · have := hR.2.2.1 c c0 c1
    refine ⟨?_, by rw [zu_A (by omega), zf_n (by omega)]; exact this.2.1, by rw [zu_A (by omega), zf_n (by omega)]; exact this.2.2⟩
    by_cases q : c = a
    · rw [q, zu_s, zf_s]
    · rw [zu_k q, zf_n (by omega)]
      exact this.1
theorem zc_f6 {a : Int} (hp : Lnd p) (hA : zz_ok Y A) (hR : zc_rep T R J p A) (ha : 0 ≤ a ∧ a < A 0 * A 1) : zc_rep T R (zz_u J (p + 6) a 1) p (zz_f A 6 (zz_lor (A 6) a)) := by
  have hpl : p + 12 < 73 := by rcases hp with rfl | rfl | rfl | rfl <;> omega
  have hN := hA.n
  have h5 := hR.2.1
  refine zc_rep_z hR ⟨zf_n (by omega), zf_n (by omega), zf_n (by omega)⟩ (fun y hy => zf_n (by omega)) (fun x hx => zu_A (by omega)) ⟨by rw [zu_A (by omega)], by rw [zu_A (by omega)], by rw [zu_A (by omega)], by rw [zu_A (by omega)]⟩ ⟨?_, ?_, ?_, ?_⟩ (fun c c0 c1 => ?_)
  · rw [zu_A (by omega), zf_n (by omega)]; exact h5.1
  · rw [zu_A (by omega), zf_n (by omega)]; exact h5.2.1
  · rw [zu_A (by omega), zf_n (by omega)]; exact h5.2.2.1
  · rw [zu_A (by omega), zf_n (by omega)]; exact h5.2.2.2.1
  · have := hR.2.2.1 c c0 c1
    refine ⟨by rw [zu_A (by omega), zf_n (by omega)]; exact this.1, by rw [zu_A (by omega), zf_n (by omega)]; exact this.2.1, ?_⟩
    rw [zf_s, zz_bit_lor ha.1 c0]
    by_cases q : c = a
    · rw [q, zu_s, if_pos rfl]
    · rw [zu_k q, if_neg q]
      exact this.2.2
theorem zt_aft_j {J' : Nat → Int → Int} {A' : Int → Int} (hL : ZL T R) (hraw : zk_raw T R J p) (h : zc_rep T R J' p A') (h7 : A' 7 = A 7) (hf : ∀ x, (x < p ∨ p + 11 < x) → J' x = J x) (h6 : ∀ k, J' (p + 6) k = J (p + 6) k ∨ J' (p + 6) k = 1) : zt_aft T T R R J J' p A A' := ⟨h, ⟨fun c c0 c1 => by
  rcases h6 c with g | g
  · rw [g]; exact hraw.1 c c0 c1
  · exact Or.inr g, hraw.2⟩, hL, zt_gw_j hf, by rw [h7]⟩
theorem c_84 {c : Int} {l : List Int} (hd : 4 ≤ d) (hL : ZL T R) (hp : Lnd p) (hA : zz_ok Y A) (hR : zc_rep T R J p A) (hraw : zk_raw T R J p) (hc : zt_fn c ≠ 6) (hl : zt_vals (mv_str (zt_fn c)) l) (h72 : ∀ k : Nat, k < l.length → J 72 k = l.getD k 0) :
    (zt_act A c l = none ∧ mv_cax d 84 [.inr (.inr (some 70)), .inr (.inr (some p)), .inl (mv_c c)] (zz_S T J R G) = some (some (.inl (mv_c 0)), (zz_S T J R G))) ∨ ∃ A' T' R' J', zt_act A c l = some A' ∧ mv_cax d 84 [.inr (.inr (some 70)), .inr (.inr (some p)), .inl (mv_c c)] (zz_S T J R G) = some (some (.inl (mv_c 1)), zz_S T' J' R' G) ∧ zt_aft T T' R R' J J' p A A' := by
  have hpl : p + 12 < 73 := by rcases hp with rfl | rfl | rfl | rfl <;> omega
  rcases zt_ltr hc with rfl | rfl | rfl | rfl | rfl | rfl | rfl | rfl
  · -- b
    obtain ⟨a, rfl, ha⟩ := zt_v3 hl
    have v0 : J 72 0 = a := h72 0 (by show 0 < 1; omega)
    have ea : zt_act A 98 [a] = if a < A 0 * A 1 ∧ zz_bit (A 6) a = 0 then some (zz_f A 6 (zz_lor (A 6) a)) else none := by
      unfold zt_act
      rw [if_neg (by omega), if_neg (by omega), if_pos rfl]
      rfl
    have k := c_88 (G := G) (d := d - 1) (c := a) (by omega) hL hp hA hR ha
    rw [ea]
    by_cases hcc : a < A 0 * A 1 ∧ zz_bit (A 6) a = 0
    · rw [if_pos hcc] at k ⊢
      rw [if_pos hcc] at k
      refine Or.inr ⟨_, T, R, _, rfl, ?_, zt_aft_j hL hraw (zc_f6 hp hA hR ⟨ha.1, hcc.1⟩) (zf_n (by omega)) (fun x hx => zu_A (by omega)) (fun y => ?_)⟩
      · refine zz_c (zz_call (by omega) t_84 rfl (fun n => e_84 _ _ _ _) ?_)
        refine zz_Ei (fun _ => ?_) (fun h => absurd rfl h)
        simp (maxSteps := 5000000) (disch := first | assumption | omega) only [zr_70_4, zo_rf, za_72, v0, k, zo_rI, zz_z]
        exact zz_Er rfl
      · by_cases q : y = a
        · exact Or.inr (by rw [q, zu_s])
        · exact Or.inl (zu_k q)
    · rw [if_neg hcc] at k ⊢
      rw [if_neg hcc] at k
      refine Or.inl ⟨rfl, ?_⟩
      refine zz_c (zz_call (by omega) t_84 rfl (fun n => e_84 _ _ _ _) ?_)
      refine zz_Ei (fun _ => ?_) (fun h => absurd rfl h)
      simp (maxSteps := 5000000) (disch := first | assumption | omega) only [zr_70_4, zo_rf, za_72, v0, k, zo_rI, zz_z]
      exact zz_Er rfl
  · -- d
    obtain ⟨a, b, rfl, ha, hb⟩ := zt_v1 hl
    have v0 : J 72 0 = a := h72 0 (by show 0 < 2; omega)
    have v1 : J 72 1 = b := h72 1 (by show 1 < 2; omega)
    have ea : zt_act A 100 [a, b] = if a ≤ 7 ∧ A 7 < 6 then some (zt_ad A a b) else none := by
      unfold zt_act
      rw [if_neg (by omega), if_neg (by omega), if_neg (by omega), if_neg (by omega), if_neg (by omega), if_neg (by omega), if_pos rfl]
      rfl
    rw [ea]
    rcases c_35 (G := G) (d := d - 1) (k := a) (f := b) (by omega) hL hp hA hR hraw ha hb with ⟨hcc, k⟩ | ⟨hcc, T', R', J', k, k1, k2, k3, k4, k5⟩
    · rw [if_neg hcc]
      refine Or.inl ⟨rfl, ?_⟩
      refine zz_c (zz_call (by omega) t_84 rfl (fun n => e_84 _ _ _ _) ?_)
      iterate 2 (refine zz_Ei (fun h => absurd h (by decide)) (fun _ => ?_))
      refine zz_Ei (fun _ => ?_) (fun h => absurd rfl h)
      simp (maxSteps := 5000000) (disch := first | assumption | omega) only [zr_70_4, zo_rf, za_72, v0, v1, k, zo_rI, zz_z, zi_L]
      exact zz_Er rfl
    · rw [if_pos hcc]
      refine Or.inr ⟨_, T', R', J', rfl, ?_, k1, k2, k3, k4, ?_⟩
      · refine zz_c (zz_call (by omega) t_84 rfl (fun n => e_84 _ _ _ _) ?_)
        iterate 2 (refine zz_Ei (fun h => absurd h (by decide)) (fun _ => ?_))
        refine zz_Ei (fun _ => ?_) (fun h => absurd rfl h)
        simp (maxSteps := 5000000) (disch := first | assumption | omega) only [zr_70_4, zo_rf, za_72, v0, v1, k, zo_rI, zz_z, zi_L]
        exact zz_Er rfl
      · rw [k5, show zt_ad A a b 7 = A 7 + 1 from zf_s]
        omega
  · -- g
    obtain ⟨a, b, rfl, ha, hb⟩ := zt_v2 hl
    have v0 : J 72 0 = a := h72 0 (by show 0 < 2; omega)
    have v1 : J 72 1 = b := h72 1 (by show 1 < 2; omega)
    have ea : zt_act A 103 [a, b] = if a < A 0 * A 1 then some (zz_f A (8 + a) b) else none := by
      unfold zt_act
      rw [if_neg (by omega), if_pos rfl]
      rfl
    have k := c_87 (G := G) (d := d - 1) (c := a) (v := b) (by omega) hL hp hA hR ha
    rw [ea]
    by_cases hcc : a < A 0 * A 1
    · rw [if_pos hcc] at k ⊢
      rw [if_pos hcc] at k
      have hN := hA.n
      refine Or.inr ⟨_, T, R, _, rfl, ?_, zt_aft_j hL hraw (zc_f8 hp hA hR ⟨ha.1, hcc⟩) (zf_n (by omega)) (fun x hx => zu_A (by omega)) (fun y => Or.inl (by rw [zu_A (by omega)]))⟩
      refine zz_c (zz_call (by omega) t_84 rfl (fun n => e_84 _ _ _ _) ?_)
      iterate 5 (refine zz_Ei (fun h => absurd h (by decide)) (fun _ => ?_))
      refine zz_Ei (fun _ => ?_) (fun h => absurd rfl h)
      simp (maxSteps := 5000000) (disch := first | assumption | omega) only [zr_70_4, zo_rf, za_72, v0, v1, k, zo_rI, zz_z]
      exact zz_Er rfl
    · rw [if_neg hcc] at k ⊢
      rw [if_neg hcc] at k
      refine Or.inl ⟨rfl, ?_⟩
      refine zz_c (zz_call (by omega) t_84 rfl (fun n => e_84 _ _ _ _) ?_)
      iterate 5 (refine zz_Ei (fun h => absurd h (by decide)) (fun _ => ?_))
      refine zz_Ei (fun _ => ?_) (fun h => absurd rfl h)
      simp (maxSteps := 5000000) (disch := first | assumption | omega) only [zr_70_4, zo_rf, za_72, v0, v1, k, zo_rI, zz_z]
      exact zz_Er rfl
  · -- l
    obtain ⟨a, rfl, ha⟩ := zt_v4 hl
    have v0 : J 72 0 = a := h72 0 (by show 0 < 1; omega)
    have ea : zt_act A 108 [a] = if a ≤ 2 then some (zz_f A 3 a) else none := by
      unfold zt_act
      rw [if_neg (by omega), if_neg (by omega), if_neg (by omega), if_neg (by omega), if_neg (by omega), if_pos rfl]
      rfl
    have k := c_90 (T := T) (J := J) (R := R) (G := G) (d := d - 1) (p := p) (c := a) (by omega) hL hp ⟨ha.1, by omega⟩
    rw [ea]
    by_cases hcc : a ≤ 2
    · rw [if_pos hcc] at k ⊢
      rw [if_pos hcc] at k
      refine Or.inr ⟨_, T, R, _, rfl, ?_, zt_aft_j hL hraw (zc_f3 hp hA hR) (zf_n (by omega)) (fun x hx => zu_A (by omega)) (fun y => Or.inl (by rw [zu_A (by omega)]))⟩
      refine zz_c (zz_call (by omega) t_84 rfl (fun n => e_84 _ _ _ _) ?_)
      iterate 10 (refine zz_Ei (fun h => absurd h (by decide)) (fun _ => ?_))
      refine zz_Ei (fun _ => ?_) (fun h => absurd rfl h)
      simp (maxSteps := 5000000) (disch := first | assumption | omega) only [zr_70_4, zo_rf, za_72, v0, k, zo_rI, zz_z]
      exact zz_Er rfl
    · rw [if_neg hcc] at k ⊢
      rw [if_neg hcc] at k
      refine Or.inl ⟨rfl, ?_⟩
      refine zz_c (zz_call (by omega) t_84 rfl (fun n => e_84 _ _ _ _) ?_)
      iterate 10 (refine zz_Ei (fun h => absurd h (by decide)) (fun _ => ?_))
      refine zz_Ei (fun _ => ?_) (fun h => absurd rfl h)
      simp (maxSteps := 5000000) (disch := first | assumption | omega) only [zr_70_4, zo_rf, za_72, v0, k, zo_rI, zz_z]
      exact zz_Er rfl
  · -- q
    obtain ⟨a, rfl, ha⟩ := zt_v3 hl
    have v0 : J 72 0 = a := h72 0 (by show 0 < 1; omega)
    have ea : zt_act A 113 [a] = if a < A 0 * A 1 then some (zz_f A 5 a) else none := by
      unfold zt_act
      rw [if_neg (by omega), if_neg (by omega), if_neg (by omega), if_pos rfl]
      rfl
    have k := c_89 (G := G) (d := d - 1) (c := a) (by omega) hL hp hA hR ha
    rw [ea]
    by_cases hcc : a < A 0 * A 1
    · rw [if_pos hcc] at k ⊢
      rw [if_pos hcc] at k
      refine Or.inr ⟨_, T, R, _, rfl, ?_, zt_aft_j hL hraw (zc_f5 hp hA hR) (zf_n (by omega)) (fun x hx => zu_A (by omega)) (fun y => Or.inl (by rw [zu_A (by omega)]))⟩
      refine zz_c (zz_call (by omega) t_84 rfl (fun n => e_84 _ _ _ _) ?_)
      iterate 15 (refine zz_Ei (fun h => absurd h (by decide)) (fun _ => ?_))
      refine zz_Ei (fun _ => ?_) (fun h => absurd rfl h)
      simp (maxSteps := 5000000) (disch := first | assumption | omega) only [zr_70_4, zo_rf, za_72, v0, k, zo_rI, zz_z]
      exact zz_Er rfl
    · rw [if_neg hcc] at k ⊢
      rw [if_neg hcc] at k
      refine Or.inl ⟨rfl, ?_⟩
      refine zz_c (zz_call (by omega) t_84 rfl (fun n => e_84 _ _ _ _) ?_)
      iterate 15 (refine zz_Ei (fun h => absurd h (by decide)) (fun _ => ?_))
      refine zz_Ei (fun _ => ?_) (fun h => absurd rfl h)
      simp (maxSteps := 5000000) (disch := first | assumption | omega) only [zr_70_4, zo_rf, za_72, v0, k, zo_rI, zz_z]
      exact zz_Er rfl
  · -- s
    obtain ⟨a, b, rfl, ha, hb⟩ := zt_v1 hl
    have v0 : J 72 0 = a := h72 0 (by show 0 < 2; omega)
    have v1 : J 72 1 = b := h72 1 (by show 1 < 2; omega)
    have ea : zt_act A 115 [a, b] = if ((2 ≤ a ∧ a ≤ 4) ∧ 2 ≤ b ∧ b ≤ 4) ∧ A 7 ≤ 0 then some (zt_new A a b) else none := by
      unfold zt_act
      rw [if_pos rfl]
      rfl
    obtain ⟨J', k, k1, k2⟩ := c_85 (G := G) (d := d - 1) (r := a) (c := b) (by omega) hL hp hA hR hraw ⟨ha.1, by omega⟩ ⟨hb.1, by omega⟩
    rw [ea]
    by_cases hcc : ((2 ≤ a ∧ a ≤ 4) ∧ 2 ≤ b ∧ b ≤ 4) ∧ A 7 ≤ 0
    · rw [if_pos hcc] at k ⊢
      refine Or.inr ⟨_, T, R, J', rfl, ?_, k2 hcc⟩
      refine zz_c (zz_call (by omega) t_84 rfl (fun n => e_84 _ _ _ _) ?_)
      iterate 17 (refine zz_Ei (fun h => absurd h (by decide)) (fun _ => ?_))
      refine zz_Ei (fun _ => ?_) (fun h => absurd rfl h)
      simp (maxSteps := 5000000) (disch := first | assumption | omega) only [zr_70_4, zo_rf, za_72, v0, v1, k, zo_rI, zz_z]
      exact zz_Er rfl
    · rw [if_neg hcc] at k ⊢
      rw [k1 hcc] at k
      refine Or.inl ⟨rfl, ?_⟩
      refine zz_c (zz_call (by omega) t_84 rfl (fun n => e_84 _ _ _ _) ?_)
      iterate 17 (refine zz_Ei (fun h => absurd h (by decide)) (fun _ => ?_))
      refine zz_Ei (fun _ => ?_) (fun h => absurd rfl h)
      simp (maxSteps := 5000000) (disch := first | assumption | omega) only [zr_70_4, zo_rf, za_72, v0, v1, k, zo_rI, zz_z]
      exact zz_Er rfl
  · -- t
    obtain ⟨a, rfl, ha⟩ := zt_v3 hl
    have v0 : J 72 0 = a := h72 0 (by show 0 < 1; omega)
    have ea : zt_act A 116 [a] = some (zz_f A 2 a) := by
      unfold zt_act
      rw [if_neg (by omega), if_neg (by omega), if_neg (by omega), if_neg (by omega), if_pos rfl]
      rfl
    rw [ea]
    refine Or.inr ⟨_, T, R, _, rfl, ?_, zt_aft_j hL hraw (zc_f2 hp hA hR) (zf_n (by omega)) (fun x hx => zu_A (by omega)) (fun y => Or.inl (by rw [zu_A (by omega)]))⟩
    refine zz_c (zz_call (by omega) t_84 rfl (fun n => e_84 _ _ _ _) ?_)
    iterate 18 (refine zz_Ei (fun h => absurd h (by decide)) (fun _ => ?_))
    refine zz_Ei (fun _ => ?_) (fun h => absurd rfl h)
    simp (maxSteps := 5000000) (disch := first | assumption | omega) only [zr_70_4, zo_rf, za_72, v0, zp_L_4, zz_z]
    exact zz_Er rfl
  · -- w
    obtain ⟨a, b, c, e, rfl, ha, hb, hc', he⟩ := zt_v5 hl
    have v0 : J 72 0 = a := h72 0 (by show 0 < 4; omega)
    have v1 : J 72 1 = b := h72 1 (by show 1 < 4; omega)
    have v2 : J 72 2 = c := h72 2 (by show 2 < 4; omega)
    have v3 : J 72 3 = e := h72 3 (by show 3 < 4; omega)
    have ea : zt_act A 119 [a, b, c, e] = if (a < A 7 ∧ b < A 0 * A 1) ∧ (1 ≤ e ∧ e ≤ 99) ∧ A (42 + 15 * a) < 4 then some (zt_aw A a b c e) else none := by
      unfold zt_act
      rw [if_neg (by omega), if_neg (by omega), if_neg (by omega), if_neg (by omega), if_neg (by omega), if_neg (by omega), if_neg (by omega), if_pos rfl]
      rfl
    rw [ea]
    rcases c_36 (G := G) (d := d - 1) (e := a) (c := b) (h := c) (w := e) (by omega) hL hp hA hR hraw ⟨ha.1, by omega⟩ hb ⟨hc'.1, by omega⟩ he with ⟨hcc, k⟩ | ⟨hcc, J', k, k1, k2, k3⟩
    · rw [if_neg hcc]
      refine Or.inl ⟨rfl, ?_⟩
      refine zz_c (zz_call (by omega) t_84 rfl (fun n => e_84 _ _ _ _) ?_)
      iterate 21 (refine zz_Ei (fun h => absurd h (by decide)) (fun _ => ?_))
      refine zz_Ei (fun _ => ?_) (fun h => absurd rfl h)
      simp (maxSteps := 5000000) (disch := first | assumption | omega) only [zr_70_4, zo_rf, za_72, v0, v1, v2, v3, k, zo_rI, zz_z, zi_L]
      exact zz_Er rfl
    · rw [if_pos hcc]
      refine Or.inr ⟨_, T, R, J', rfl, ?_, k1, k2, hL, zt_gw_j k3, ?_⟩
      · refine zz_c (zz_call (by omega) t_84 rfl (fun n => e_84 _ _ _ _) ?_)
        iterate 21 (refine zz_Ei (fun h => absurd h (by decide)) (fun _ => ?_))
        refine zz_Ei (fun _ => ?_) (fun h => absurd rfl h)
        simp (maxSteps := 5000000) (disch := first | assumption | omega) only [zr_70_4, zo_rf, za_72, v0, v1, v2, v3, k, zo_rI, zz_z, zi_L]
        exact zz_Er rfl
      · have hm := (hA.2.2.2.2.2.2.2.2 a ha.1 hcc.1.1).2.2.1
        unfold zt_aw
        rw [zf_n (by omega), zf_n (by omega), zf_n (by omega), zf_n (by omega)]
end ZAC4
