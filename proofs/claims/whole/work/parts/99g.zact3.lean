/-! PURE LAYER, 86: a statement's deed in the class -/
def zt_aft (T T' : List mv_T) (R R' : Nat → Nat → Option Nat) (J J' : Nat → Int → Int) (p : Nat) (A A' : Int → Int) : Prop := zc_rep T' R' J' p A' ∧ zk_raw T' R' J' p ∧ ZL T' R' ∧ zt_gw p T T' R R' J J' ∧ (T'.length : Int) + A 7 = T.length + A' 7
section ZAC3
variable {T : List mv_T} {J : Nat → Int → Int} {R : Nat → Nat → Option Nat} {G : Nat → Nat → Int64} {d p q : Nat} {Y : Int} {A : Int → Int}
theorem zt_gw_j {J' : Nat → Int → Int} (h : ∀ x, (x < p ∨ p + 11 < x) → J' x = J x) : zt_gw p T T R R J J' := ⟨⟨0, (List.append_nil T).symm⟩, fun x _ hx => h x hx, fun _ _ _ _ => rfl⟩
theorem c_86 {c : Int} {σ : mv_S} (hd : 1 ≤ d) (h : 0 ≤ c ∧ c ≤ 999) : mv_cax d 86 [.inl (mv_c c)] σ = some (some (.inl (mv_c (zz_b (2 ≤ c ∧ c ≤ 4)))), σ) := by
  refine zz_c (zz_call (by omega) t_86 rfl (fun n => e_86 _ _) ?_)
  simp (maxSteps := 5000000) (disch := first | assumption | omega) only [zz_lt, zz_z]
  refine zz_Ei (fun g => zz_Er (by rw [zz_b_f (by omega)])) (fun g => ?_)
  refine zz_Ei (fun g' => zz_Er (by rw [zz_b_f (by omega)])) (fun g' => zz_Er (by rw [zz_b_t (by omega)]))
theorem c_88 {c : Int} (hd : 2 ≤ d) (hL : ZL T R) (hp : Lnd p) (hA : zz_ok Y A) (hR : zc_rep T R J p A) (h : 0 ≤ c ∧ c ≤ 999) :
    mv_cax d 88 [.inr (.inr (some p)), .inl (mv_c c)] (zz_S T J R G) = some (some (.inl (mv_c (if c < A 0 * A 1 ∧ zz_bit (A 6) c = 0 then 1 else 0))), zz_S T (if c < A 0 * A 1 ∧ zz_bit (A 6) c = 0 then zz_u J (p + 6) c 1 else J) R G) := by
  have hN := hA.n
  have c33 := c_33 (G := G) (d := d - 1) (c := c) (by omega) hL hp hA hR (by omega) (by omega)
  have b := zz_bit01 (A 6) c
  refine zz_c (zz_call (by omega) t_88 rfl (fun n => e_88 _ _ _) ?_)
  simp (maxSteps := 5000000) (disch := first | assumption | omega) only [zi_L, c33, zo_rI, zz_0, zz_be0]
  refine zz_Ei (fun g => ?_) (fun g => ?_)
  · try rw [zz_be0] at g
    rw [if_neg (by omega), if_neg (by omega)]
    exact zz_Er rfl
  · try rw [zz_be0] at g
    have e := (hR.2.2.1 c (by omega) (by omega)).2.2
    simp (maxSteps := 5000000) (disch := first | assumption | omega) only [zr_L_13, zo_rf, za_L_6, e, zz_eq, zs_L_6, zz_z]
    refine zz_Ei (fun g' => ?_) (fun g' => ?_)
    · rw [if_pos (by omega), if_pos (by omega)]
      exact zz_Er rfl
    · rw [if_neg (by omega), if_neg (by omega)]
      exact zz_Er rfl
theorem c_87 {c v : Int} (hd : 2 ≤ d) (hL : ZL T R) (hp : Lnd p) (hA : zz_ok Y A) (hR : zc_rep T R J p A) (h : 0 ≤ c ∧ c ≤ 999) :
    mv_cax d 87 [.inr (.inr (some p)), .inl (mv_c c), .inl (mv_c v)] (zz_S T J R G) = some (some (.inl (mv_c (if c < A 0 * A 1 then 1 else 0))), zz_S T (if c < A 0 * A 1 then zz_u J (p + 4) c v else J) R G) := by
  have hN := hA.n
  have c33 := c_33 (G := G) (d := d - 1) (c := c) (by omega) hL hp hA hR (by omega) (by omega)
  refine zz_c (zz_call (by omega) t_87 rfl (fun n => e_87 _ _ _ _) ?_)
  simp (maxSteps := 5000000) (disch := first | assumption | omega) only [zi_L, c33, zo_rI, zz_0, zz_be0]
  refine zz_Ei (fun g => ?_) (fun g => ?_)
  · try rw [zz_be0] at g
    rw [if_neg (by omega), if_neg (by omega)]
    exact zz_Er rfl
  · try rw [zz_be0] at g
    simp (maxSteps := 5000000) (disch := first | assumption | omega) only [zr_L_11, zo_rf, zs_L_4, zz_z]
    rw [if_pos (by omega), if_pos (by omega)]
    exact zz_Er rfl
theorem c_89 {c : Int} (hd : 2 ≤ d) (hL : ZL T R) (hp : Lnd p) (hA : zz_ok Y A) (hR : zc_rep T R J p A) (h : 0 ≤ c ∧ c ≤ 999) :
    mv_cax d 89 [.inr (.inr (some p)), .inl (mv_c c)] (zz_S T J R G) = some (some (.inl (mv_c (if c < A 0 * A 1 then 1 else 0))), zz_S T (if c < A 0 * A 1 then zz_u J p 3 c else J) R G) := by
  have c33 := c_33 (G := G) (d := d - 1) (c := c) (by omega) hL hp hA hR (by omega) (by omega)
  refine zz_c (zz_call (by omega) t_89 rfl (fun n => e_89 _ _ _) ?_)
  simp (maxSteps := 5000000) (disch := first | assumption | omega) only [zi_L, c33, zo_rI, zz_0, zz_be0, zp_L_3, zz_z]
  refine zz_Ei (fun g => ?_) (fun g => ?_)
  · try rw [zz_be0] at g
    rw [if_neg (by omega), if_neg (by omega)]
    exact zz_Er rfl
  · try rw [zz_be0] at g
    rw [if_pos (by omega), if_pos (by omega)]
    exact zz_Er rfl
theorem c_90 {c : Int} (hd : 2 ≤ d) (hL : ZL T R) (hp : Lnd p) (h : 0 ≤ c ∧ c ≤ 999) :
    mv_cax d 90 [.inr (.inr (some p)), .inl (mv_c c)] (zz_S T J R G) = some (some (.inl (mv_c (if c ≤ 2 then 1 else 0))), zz_S T (if c ≤ 2 then zz_u J p 5 c else J) R G) := by
  refine zz_c (zz_call (by omega) t_90 rfl (fun n => e_90 _ _ _) ?_)
  simp (maxSteps := 5000000) (disch := first | assumption | omega) only [zp_L_5, zz_le, zz_z]
  refine zz_Ei (fun g => ?_) (fun g => ?_)
  · rw [if_pos (by omega), if_pos (by omega)]
    exact zz_Er rfl
  · rw [if_neg (by omega), if_neg (by omega)]
    exact zz_Er rfl
theorem c_85 {r c : Int} (hd : 3 ≤ d) (hL : ZL T R) (hp : Lnd p) (hA : zz_ok Y A) (hR : zc_rep T R J p A) (hraw : zk_raw T R J p) (hr : 0 ≤ r ∧ r ≤ 999) (hc : 0 ≤ c ∧ c ≤ 999) :
    ∃ J', mv_cax d 85 [.inr (.inr (some p)), .inl (mv_c r), .inl (mv_c c)] (zz_S T J R G) = some (some (.inl (mv_c (if ((2 ≤ r ∧ r ≤ 4) ∧ 2 ≤ c ∧ c ≤ 4) ∧ A 7 ≤ 0 then 1 else 0))), zz_S T J' R G) ∧ (¬ (((2 ≤ r ∧ r ≤ 4) ∧ 2 ≤ c ∧ c ≤ 4) ∧ A 7 ≤ 0) → J' = J) ∧ (((2 ≤ r ∧ r ≤ 4) ∧ 2 ≤ c ∧ c ≤ 4) ∧ A 7 ≤ 0 → zt_aft T T R R J J' p A (zt_new A r c)) := by
  have hpl : p + 12 < 73 := by rcases hp with rfl | rfl | rfl | rfl <;> omega
  have h7 := hA.2.2.2.2.2.2.1
  have e7 := hR.2.1.2.2.2.2
  have r86 := c_86 (c := r) (σ := zz_S T J R G) (d := d - 1) (by omega) hr
  have c86 := c_86 (c := c) (σ := zz_S T J R G) (d := d - 1) (by omega) hc
  by_cases hcc : ((2 ≤ r ∧ r ≤ 4) ∧ 2 ≤ c ∧ c ≤ 4) ∧ A 7 ≤ 0
  · rw [if_pos hcc]
    obtain ⟨J', c30, y1, y2, y3, y4, y5⟩ := c_30 (T := T) (J := J) (R := R) (G := G) (d := d - 1) (p := p) (P := r) (C := c) (A := zt_new A r c) (by omega) hL hp hcc.1.1 hcc.1.2 rfl rfl
    refine ⟨J', ?_, fun g => absurd hcc g, fun _ => ⟨⟨?_, ?_, ?_, ?_⟩, ⟨fun k k0 k1 => Or.inl (y5 k k0 k1).2.2, hraw.2⟩, hL, zt_gw_j (fun x hx => y1 x (by omega)), rfl⟩⟩
    · refine zz_c (zz_call (by omega) t_85 rfl (fun n => e_85 _ _ _ _) ?_)
      simp (maxSteps := 5000000) (disch := first | assumption | omega) only [zg_L_7, e7, zz_lt, r86, c86, c30, zo_rI, zo_rV, zz_0, zz_be0, zi_L, zz_z]
      refine zz_Ei (fun g => absurd g (by omega)) (fun _ => ?_)
      refine zz_Ei (fun g => absurd hcc.1.1 (by first | exact g | (rw [zz_be0] at g; exact g))) (fun _ => ?_)
      refine zz_Ei (fun g => absurd hcc.1.2 (by first | exact g | (rw [zz_be0] at g; exact g))) (fun _ => ?_)
      exact zz_Er rfl
    · exact ⟨⟨y3.1, y3.2.1, y3.2.2.1⟩, fun k k0 k1 => ⟨(y4 k k0 k1).1, (y4 k k0 k1).2.1⟩, fun a b a0 a1 b0 b1 => (y4 a a0 a1).2.2 b b0 b1⟩
    · rw [y2 4 (by omega), y2 5 (by omega), y2 6 (by omega), y2 7 (by omega)]
      exact ⟨y3.2.2.2, hR.2.1.2⟩
    · intro k k0 k1
      have hP := zz_prod hcc.1.1.1 hcc.1.1.2 hcc.1.2.1 hcc.1.2.2
      have k1' : k < r * c := k1
      obtain ⟨z1, z2, z3⟩ := y5 k k0 (by omega)
      have w1 : zt_new A r c (8 + k) = 2 := by
        unfold zt_new
        rw [if_neg (by omega), if_neg (by omega), if_neg (by omega), if_pos (by omega)]
      have w2 : zt_new A r c (24 + k) = -4 := by
        unfold zt_new
        rw [if_neg (by omega), if_neg (by omega), if_neg (by omega), if_neg (by omega), if_pos (by omega)]
      rw [w1, w2, z1, z2, z3]
      exact ⟨rfl, rfl, (zz_bit0 k).symm⟩
    · intro e e0 e1
      exfalso
      have e1' : e < A 7 := e1
      omega
  · rw [if_neg hcc]
    refine ⟨J, ?_, fun _ => rfl, fun g => absurd g hcc⟩
    refine zz_c (zz_call (by omega) t_85 rfl (fun n => e_85 _ _ _ _) ?_)
    simp (maxSteps := 5000000) (disch := first | assumption | omega) only [zg_L_7, e7, zz_lt, r86, c86, zo_rI, zz_0, zz_be0, zz_z]
    refine zz_Ei (fun g => zz_Er rfl) (fun g => ?_)
    refine zz_Ei (fun g => zz_Er rfl) (fun g1 => ?_)
    refine zz_Ei (fun g => zz_Er rfl) (fun g2 => ?_)
    try rw [zz_be0] at g1
    try rw [zz_be0] at g2
    exact absurd ⟨⟨Decidable.not_not.mp g1, Decidable.not_not.mp g2⟩, by omega⟩ hcc
end ZAC3
