/-! PURE LAYER, 94: texts: the reference's first pass -/
/-- what the reference keeps of the shelves' kinds -/
def zk_kd (V : Nat → Int → Int) : Prop := ∀ k, 0 ≤ k → k < 8 → V 135 k = 0 ∨ V 135 k = 1 ∨ (V 135 k = 2 ∧ 0 ≤ V 136 k ∧ V 136 k ≤ 2 ∧ 0 ≤ V 137 k ∧ V 137 k ≤ 100 ∧ ∀ i, 0 ≤ i → i < 100 → zk_r32 (V 138 (100 * k + i)))
theorem zk_kd_s {T : List mv_T} {R : Nat → Nat → Option Nat} {J V : Nat → Int → Int} (h : zk_sh T R J V) : zk_kd V := fun k k0 k1 => by
  rcases h k k0 k1 with g | g | g
  · exact Or.inl g.1
  · exact Or.inr (Or.inl g.1)
  · obtain ⟨_, _, ⟨_, g3, g4⟩, ⟨_, g5, g6⟩, g7⟩ := g.2
    exact Or.inr (Or.inr ⟨g.1, g3, g4, g5, g6, fun i i0 i1 => (g7 i i0 i1).2⟩)
section ZRLD
variable {T : List mv_T} {J : Nat → Int → Int} {R : Nat → Nat → Option Nat} {G : Nat → Nat → Int64} {d : Nat} {Y : Int} {B : Int → Int} {N k : Int}
theorem r_151 {s : Int} (hd : 3 ≤ d) (hL : ZL T R) (hk : zk_kd J) (k0 : -2147483648 ≤ k) (k1 : k ≤ 2147483647) (s0 : -2147483648 ≤ s) (s1 : s ≤ 2147483647) : mv_cax d 151 [.inr (.inr (some 131)), .inl (mv_c k), .inl (mv_c s)] (zz_S T J R G) = some (some (.inl (mv_c (zv_wr J k s))), (zz_S T J R G)) := by
  have r138 := r_138 (c := k) (σ := zz_S T J R G) (d := d - 1) (by omega) k0 k1
  unfold zv_wr
  by_cases hq : 0 ≤ k ∧ k < 8
  · rw [if_pos hq]
    have h := hk k hq.1 hq.2
    refine zz_c (zz_call (by omega) t_151 rfl (fun n => e_151 _ _ _ _) ?_)
    simp (maxSteps := 5000000) (disch := first | assumption | omega) only [r138, zo_rI, zz_0, zz_be0, zr_131_3, zr_131_4, zo_rf, za_135, za_136, zz_lt]
    refine zz_Ei (fun g => absurd hq (by first | exact g | (rw [zz_be0] at g; exact g))) (fun _ => ?_)
    rcases h with h | h | ⟨h, h2, h3, _⟩
    · simp (maxSteps := 5000000) (disch := first | assumption | omega) only [h, zz_eq, if_true]
      try (refine zz_Ei (fun _ => ?_) (fun h => absurd trivial h))
      exact zz_Er rfl
    · simp (maxSteps := 5000000) (disch := first | assumption | omega) only [h, zz_eq]
      try (refine zz_Ei (fun h => absurd (show (1 : Int) = 0 from h) (by omega)) (fun _ => ?_))
      refine zz_Ei (fun g => absurd g (by omega)) (fun _ => ?_)
      exact zz_Er (by rw [if_neg (by omega), if_neg (by omega)])
    · simp (maxSteps := 5000000) (disch := first | assumption | omega) only [h, zz_eq, if_true]
      refine zz_Ei (fun g => absurd g (by omega)) (fun _ => ?_)
      try (refine zz_Ei (fun _ => ?_) (fun h => absurd trivial h))
      refine zz_Ei (fun g => ?_) (fun g => ?_)
      · exact zz_Er (by rw [if_neg (by omega), if_pos (by first | exact ⟨trivial, Or.inl (by omega)⟩ | exact ⟨trivial, Or.inr (by omega)⟩ | omega)])
      · refine zz_Ei (fun g' => ?_) (fun g' => ?_)
        · exact zz_Er (by rw [if_neg (by omega), if_pos (by first | exact ⟨trivial, Or.inl (by omega)⟩ | exact ⟨trivial, Or.inr (by omega)⟩ | omega)])
        · exact zz_Er (by rw [if_neg (by omega), if_neg (by omega)])
  · rw [if_neg hq]
    refine zz_c (zz_call (by omega) t_151 rfl (fun n => e_151 _ _ _ _) ?_)
    simp (maxSteps := 5000000) (disch := first | assumption | omega) only [r138, zo_rI, zz_0, zz_be0]
    refine zz_Ei (fun g => zz_Er rfl) (fun g => absurd (Decidable.not_not.mp (by first | exact g | (rw [zz_be0] at g; exact g))) hq)
/-- reading changes the numbers and the place -/
def zt_rr (J J' : Nat → Int → Int) : Prop := (∀ x, x ≠ 131 → x ≠ 141 → J' x = J x) ∧ ∀ y, y ≠ 11 → y ≠ 14 → J' 131 y = J 131 y
theorem zt_rr_t {J J1 J2 : Nat → Int → Int} (h : zt_rr J J1) (h' : zt_rr J1 J2) : zt_rr J J2 := ⟨fun x x1 x2 => by rw [h'.1 x x1 x2, h.1 x x1 x2], fun y y1 y2 => by rw [h'.2 y y1 y2, h.2 y y1 y2]⟩
theorem zt_rr_m {J1 : Nat → Int → Int} {i : Int} {l : List Int} (h : zt_rm J J1 i l) : zt_rr J J1 := ⟨h.1, h.2.1⟩
theorem r_152a {Q : Option mv_V × mv_S → Prop} (hd : 5 ≤ d) (hL : ZL T R) : ∀ (m : Nat) (J : Nat → Int → Int) (i n : Int), zt_rx J k B N → J 131 11 = i → 0 ≤ i → i ≤ N → 0 ≤ n → n ≤ i → N - i < m → (∀ J', zt_rr J J' → zt_p1 B N m i n < 0 → Q (some (.inl (mv_c (zt_p1 B N m i n))), zz_S T J' R G)) → (∀ J', zt_rr J J' → 0 ≤ zt_p1 B N m i n → zz_E (fun n' => mv_run (mv_cax d) mm_152 n' 71 [(0, .inr (.inr (some 131))), (3, .inl (mv_c (zt_p1 B N m i n))), (4, .inl (mv_c 0))] [] (zz_S T J' R G)) Q) → zz_E (fun n' => mv_run (mv_cax d) mm_152 n' 38 [(0, .inr (.inr (some 131))), (3, .inl (mv_c n))] [] (zz_S T J R G)) Q
  | 0, J, i, n, ht, hi, i0, i1, n0, n1, hm, bad, good => by omega
  | m + 1, J, i, n, ht, hi, i0, i1, n0, n1, hm, bad, good => by
    have hN := ht.2.2.2.1
    have h13 := ht.2.2.1
    obtain ⟨J2, r148, tm⟩ := r_148 (T := T) (J := J) (R := R) (G := G) (d := d) hd hL ht hi i0 i1
    have e : zt_p1 B N (m + 1) i n = if (zt_sm B N i).1 = true then (if (zt_sm B N i).2.1 < N then zt_p1 B N m (zt_sm B N i).2.1 (n + 1) else n + 1) else -1000 - (zt_sm B N i).2.1 := rfl
    rw [e] at bad good
    have hs := zt_sm_i (B := B) i1
    have j2 : J2 131 11 = (zt_sm B N i).2.1 := tm.2.2.1
    have j13 : J2 131 13 = N := by rw [tm.2.1 13 (by omega) (by omega)]; exact h13
    have rr := zt_rr_m tm
    by_cases c : (zt_sm B N i).1 = true
    · have hr := zt_sm_r c
      rw [if_pos c] at bad good r148
      refine zz_Es (fun n => e_152_38 _ _ _) ?_
      by_cases c2 : (zt_sm B N i).2.1 < N
      · rw [if_pos c2] at bad good
        simp (maxSteps := 5000000) (disch := first | assumption | omega) only [zi_131, r148, zo_rI, zz_0, zg_131_11, zg_131_13, j2, j13, zz_lt, zz_add, zz_eq]
        try (refine zz_Ei (fun h => absurd (show (1 : Int) = 0 from h) (by omega)) (fun _ => ?_))
        refine zz_Ei (fun _ => ?_) (fun g => absurd c2 g)
        exact r_152a hd hL m J2 (zt_sm B N i).2.1 (n + 1) (zt_rx_m ht tm) j2 (by omega) (by omega) (by omega) (by omega) (by omega) (fun J' k1 k2 => bad J' (zt_rr_t rr k1) k2) (fun J' k1 k2 => good J' (zt_rr_t rr k1) k2)
      · rw [if_neg c2] at bad good
        simp (maxSteps := 5000000) (disch := first | assumption | omega) only [zi_131, r148, zo_rI, zz_0, zg_131_11, zg_131_13, j2, j13, zz_lt, zz_add, zz_eq]
        try (refine zz_Ei (fun h => absurd (show (1 : Int) = 0 from h) (by omega)) (fun _ => ?_))
        refine zz_Ei (fun g => absurd g c2) (fun _ => ?_)
        exact good J2 rr (by omega)
    · rw [if_neg c] at bad good r148
      have done := bad J2 rr (by omega)
      refine zz_Es (fun n => e_152_38 _ _ _) ?_
      simp (maxSteps := 5000000) (disch := first | assumption | omega) only [zi_131, r148, zo_rI, zz_0, zg_131_11, j2, zz_sub, zz_eq, if_true]
      try (refine zz_Ei (fun _ => ?_) (fun h => absurd trivial h))
      exact zz_Er done
end ZRLD
