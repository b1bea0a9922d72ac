/-! PURE LAYER, 51: the class's least hours, whole -/
section ZCL2
variable {T : List mv_T} {J : Nat → Int → Int} {R : Nat → Nat → Option Nat} {G : Nat → Nat → Int64} {d p : Nat} {Y : Int} {A : Int → Int}
theorem zs_cert_c {n K : Int} {w : Int → Int → Int} {ex ex' : Int → Int} (he : ∀ c, 0 ≤ c → c < n → ex c = ex' c) (h : zz_cert n w ex K) : zz_cert n w ex' K := by
  obtain ⟨x, u, v, h1, h2, h3, h4⟩ := h
  refine ⟨x, u, v, fun a b a0 a1 b0 b1 => ?_, fun a a0 a1 => ?_, fun b b0 b1 => ?_, h4⟩
  · rw [← he a a0 a1, ← he b b0 b1]; exact h1 a b a0 a1 b0 b1
  · rw [← he a a0 a1]; exact h2 a a0 a1
  · rw [← he b b0 b1]; exact h3 b b0 b1
theorem zs_bad_c {ex ex' : Int → Int} (hn : 0 ≤ A 0 * A 1) (he : ∀ c, 0 ≤ c → c < A 0 * A 1 → ex c = ex' c) : zz_bad A ex ↔ zz_bad A ex' := by
  unfold zz_bad
  rw [zz_sum_c hn he]
  constructor
  · rintro (⟨c, c0, c1, c2, c3⟩ | h)
    · exact Or.inl ⟨c, c0, c1, by rw [← he c c0 c1]; exact c2, c3⟩
    · exact Or.inr h
  · rintro (⟨c, c0, c1, c2, c3⟩ | h)
    · exact Or.inl ⟨c, c0, c1, by rw [he c c0 c1]; exact c2, c3⟩
    · exact Or.inr h
theorem zs_li0 {J1 : Nat → Int → Int} (hA : zz_ok Y A) (hl : zs_ls (J1 79) (A 0 * A 1) J1) (hz : ∀ i c, 0 ≤ i → i < J1 78 3 → 0 ≤ c → c < 16 → J1 (85 + i.toNat) c = 0) : zs_li A J1 J1 0 := by
  have hn := hA.n
  have n3 := hl.1.1
  have n4 := hl.2.1.1
  have n5 := hl.2.2.1
  have hh : ∀ i, 0 ≤ i → i < J1 78 3 → 0 ≤ J1 80 i ∧ J1 80 i < A 0 * A 1 ∧ 0 < J1 79 (J1 80 i) := hl.1.2.1
  have hw : ∀ i, 0 ≤ i → i < J1 78 4 → 0 ≤ J1 81 i ∧ J1 81 i < A 0 * A 1 ∧ J1 79 (J1 81 i) < 0 := hl.2.1.2.1
  have x0 : ∀ i j, zd_x (J1 78 3) (J1 78 4) J1 i j = 0 := fun i j => by
    by_cases q : zd_hi (J1 78 3) i ∧ 0 ≤ j ∧ j < J1 78 4
    · rw [zd_x_v q.1 q.2.1 q.2.2]
      exact hz i j q.1.1 q.1.2 q.2.1 (by omega)
    · exact if_neg q
  refine ⟨fun x _ _ _ => rfl, ⟨fun _ => 0, fun _ => 0, fun i j hi j0 j1 => ?_⟩, fun i hi => ⟨?_, ?_⟩, fun j j0 j1 => ⟨?_, ?_⟩, fun i hi => zd_x_n hi, ?_⟩
  · have h1 := hh i hi.1 hi.2
    have h2 := hw j j0 j1
    have hb := zz_nr_b hA.1.1 hA.1.2.1 hA.1.2.2.1 hA.1.2.2.2 h1.1 h1.2.1 h2.1 h2.2.1
    have e : zd_w (A 1) (J1 80) (J1 81) i j = zz_nr (A 1) (J1 80 i) (J1 81 j) := rfl
    rw [x0 i j]
    refine ⟨by omega, Int.le_refl _, by show (0 : Int) - 0 ≤ _; omega, fun q => absurd q (by omega)⟩
  · rw [zz_sum_z (by omega) (fun j _ _ => x0 i j), hl.2.2.2.1 i hi.1 hi.2, Int.zero_add]
  · rw [hl.2.2.2.1 i hi.1 hi.2]
    have := hh i hi.1 hi.2
    omega
  · rw [zz_sum_z (by omega) (fun i _ _ => x0 i j), hl.2.2.2.2 j j0 j1, Int.zero_add]
  · rw [hl.2.2.2.2 j j0 j1]
    have := hw j j0 j1
    omega
  · unfold zz_cst
    exact zz_sum_z (by omega) (fun i _ _ => zz_sum_z (by omega) (fun j _ _ => by
      show zd_w _ _ _ i j * zd_x _ _ J1 i j = 0
      rw [x0 i j, Int.mul_zero]))
/-- what digging leaves alone -/
def zs_f2 (J J' : Nat → Int → Int) : Prop := (∀ x, x ≠ 78 → (x < 79 ∨ x = 84 ∨ 104 < x) → J' x = J x) ∧ ∀ y, y ≠ 3 → y ≠ 4 → J' 78 y = J 78 y
theorem c_19 {q : Nat} (hd : 5 ≤ d) (hL : ZL T R) (hp : Lnd p) (hA : zz_ok Y A) (hR : zc_rep T R J p A) (hq : q ≠ 79) (hqa : ∀ (J' : Nat → Int → Int) (c : Int) (k : Int32 → mv_O), 0 ≤ c → c < A 0 * A 1 → mo_aI (zz_S T J' R G) q (mv_c c) k = k (mv_c (J' q c))) (hg : ∀ c, 0 ≤ c → c < A 0 * A 1 → -1 ≤ J q c ∧ J q c ≤ 9) :
    ∃ K J', mv_cax d 19 [.inr (.inr (some 78)), .inr (.inr (some p)), .inr (.inr (some q))] (zz_S T J R G) = some (some (.inl (mv_c K)), zz_S T J' R G) ∧ zz_lst A (zz_ex A (J q)) K ∧ (∀ c, 0 ≤ c → c < A 0 * A 1 → J' 79 c = zz_ex A (J q) c) ∧ zs_f2 J J' := by
  have hn := hA.n
  have hpl : p + 12 < 78 := by rcases hp with rfl | rfl | rfl | rfl <;> omega
  suffices h : ∃ r, mv_cax d 19 [.inr (.inr (some 78)), .inr (.inr (some p)), .inr (.inr (some q))] (zz_S T J R G) = some r ∧ ∃ K J', r = (some (.inl (mv_c K)), zz_S T J' R G) ∧ zz_lst A (zz_ex A (J q)) K ∧ (∀ c, 0 ≤ c → c < A 0 * A 1 → J' 79 c = zz_ex A (J q) c) ∧ zs_f2 J J' by
    obtain ⟨r, h1, K, J', rfl, h2⟩ := h
    exact ⟨K, J', h1, h2⟩
  refine zz_call (by omega) t_19 rfl (fun n => e_19 _ _ _ _) ?_
  obtain ⟨Q, hQ⟩ : ∃ Q : Option mv_V × mv_S → Prop, Q = fun r => ∃ K J', r = (some (.inl (mv_c K)), zz_S T J' R G) ∧ zz_lst A (zz_ex A (J q)) K ∧ (∀ c, 0 ≤ c → c < A 0 * A 1 → J' 79 c = zz_ex A (J q) c) ∧ zs_f2 J J' := ⟨_, rfl⟩
  rw [← hQ]
  obtain ⟨E, h18, hE⟩ := c_18 (T := T) (J := J) (R := R) (G := G) (d := d - 1) (p := p) (Y := Y) (A := A) (q := q) (by omega) hL hp hA hR hq hqa hg
  have hEb : ∀ c, 0 ≤ c → c < A 0 * A 1 → -9 ≤ E c ∧ E c ≤ 9 := fun c c0 c1 => by
    have h1 := hA.2.2.2.2.2.2.2.1 c c0 c1
    have h2 := hg c c0 c1
    rw [hE c c0 c1]
    unfold zz_ex
    split <;> omega
  obtain ⟨f, J1, h20, ⟨fr1, fr2⟩, hf⟩ := c_20 (T := T) (J := zz_w J 79 E) (R := R) (G := G) (d := d - 1) (p := p) (Y := Y) (A := A) (by omega) hL hp hA (zc_rep_f hR (fun x hx => zw_n (by omega))) (by rw [zw_s]; exact hEb)
  rw [zw_s] at hf
  have f79 : J1 79 = E := by rw [fr1 79 (by omega) (by omega), zw_s]
  have hbad := zs_bad_c (A := A) (ex := E) (ex' := zz_ex A (J q)) (by omega) hE
  have f2 : ∀ J', (∀ x, x ≠ 82 → x ≠ 83 → (x < 85 ∨ 104 < x) → J' x = J1 x) → zs_f2 J J' := fun J' h => ⟨fun x x1 x2 => by
    rw [h x (by omega) (by omega) (by omega), fr1 x x1 (by omega), zw_n (by omega)], fun y y1 y2 => by
    rw [h 78 (by omega) (by omega) (by omega), fr2 y y1 y2, zw_n (by omega)]⟩
  simp (maxSteps := 5000000) (disch := first | assumption | omega) only [zz_0, zi_78, h18, h20, zo_rV, zo_rI]
  rcases hf with ⟨rfl, hb⟩ | ⟨rfl, hb, hl, hz⟩
  · refine zz_Ei (fun _ => ?_) (fun h => absurd rfl h)
    refine zz_Er ?_
    rw [hQ]
    exact ⟨-4, J1, rfl, Or.inl ⟨hbad.mp hb, rfl⟩, fun c c0 c1 => by rw [f79]; exact hE c c0 c1, f2 J1 (fun x _ _ _ => rfl)⟩
  · refine zz_Ei (fun h => absurd h (by decide)) (fun _ => ?_)
    have hs0 : zz_sum E (A 0 * A 1) = 0 := Classical.byContradiction fun h => hb (Or.inr h)
    rw [← f79] at hl hs0
    have s82 : zz_sum (J1 82) (J1 78 3) ≤ 9 * J1 78 3 := (zz_sum_b (a := 0) (b := 9) hl.1.1.1 (fun i i0 i1 => by
      have h1 : 0 ≤ J1 80 i ∧ J1 80 i < A 0 * A 1 ∧ 0 < J1 79 (J1 80 i) := hl.1.2.1 i i0 i1
      have h2 := hEb _ h1.1 h1.2.1
      rw [hl.2.2.2.1 i i0 i1]
      rw [f79] at h1 ⊢
      omega)).2
    have n3 := hl.1.1
    have n5 := hl.2.2.1
    have n4 := hl.2.1.1
    have l := c_19m (T := T) (R := R) (G := G) (d := d - 1) (p := p) (Y := Y) (A := A) (J1 := J1) (Q := Q) (by omega) hL hp hA (zc_rep_f hR (fun x hx => by rw [fr1 x (by omega) (by omega), zw_n (by omega)])) (by rw [f79]; exact hEb) hl hs0 (fun J' K h1 h2 h3 h4 => by
      rw [hQ]
      refine ⟨K, J', rfl, Or.inr ⟨fun h => hb (hbad.mpr h), h2, h3, ?_⟩, fun c c0 c1 => ?_, f2 J' h1⟩
      · rw [f79] at h4
        exact zs_cert_c hE h4
      · rw [h1 79 (by omega) (by omega) (by omega), f79]
        exact hE c c0 c1) (0, 0, J1) ⟨zs_li0 hA hl hz, Int.le_refl _, by show 0 + zz_sum (J1 82) (J1 78 3) ≤ 150; omega⟩
    dsimp only at l
    rw [Int.mul_zero] at l
    exact l
end ZCL2
