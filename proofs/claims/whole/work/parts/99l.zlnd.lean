/-! PURE LAYER, 91: the class's land -/
/-- a text's land: the answer and the object -/
def zv_land (V : Nat → Int → Int) (A : Int → Int) (k : Int) : Int × (Int → Int) :=
  if zv_wr V k 0 = 0 then
    (if 0 ≤ zt_p1 (fun y => V 138 (100 * k + y)) (V 137 k) 101 0 0 then
      (if 0 < (zt_p2 (fun y => V 138 (100 * k + y)) (V 137 k) 101 0 A 0).1 then zt_p2 (fun y => V 138 (100 * k + y)) (V 137 k) 101 0 A 0 else ((zt_p2 (fun y => V 138 (100 * k + y)) (V 137 k) 101 0 A 0).1, A))
    else (zt_p1 (fun y => V 138 (100 * k + y)) (V 137 k) 101 0 0, A))
  else (zv_wr V k 0, A)
/-- cells that a land's call changes -/
def zt_gz (T T' : List mv_T) (R R' : Nat → Nat → Option Nat) (J J' : Nat → Int → Int) : Prop := (∃ n : Nat, T' = T ++ List.replicate n (.inl 2)) ∧ (∀ x, x < T.length → (x < 17 ∨ 28 < x) → (x < 43 ∨ 54 < x) → x ≠ 70 → x ≠ 72 → J' x = J x) ∧ ∀ x i, x < T.length → x ≠ 24 → x ≠ 50 → x ≠ 70 → R' x i = R x i
theorem zt_gz_r {T : List mv_T} {R : Nat → Nat → Option Nat} {J : Nat → Int → Int} : zt_gz T T R R J J := ⟨⟨0, (List.append_nil T).symm⟩, fun _ _ _ _ _ _ => rfl, fun _ _ _ _ _ _ => rfl⟩
theorem zt_gz_t {T T1 T2 : List mv_T} {R R1 R2 : Nat → Nat → Option Nat} {J J1 J2 : Nat → Int → Int} (h : zt_gz T T1 R R1 J J1) (h' : zt_gz T1 T2 R1 R2 J1 J2) : zt_gz T T2 R R2 J J2 := by
  obtain ⟨⟨n, rfl⟩, h2, h3⟩ := h
  obtain ⟨⟨m, rfl⟩, k2, k3⟩ := h'
  rw [List.length_append] at k2 k3
  exact ⟨⟨n + m, by rw [List.append_assoc, List.replicate_append_replicate]⟩, fun x hx x1 x2 x3 x4 => by rw [k2 x (by omega) x1 x2 x3 x4, h2 x hx x1 x2 x3 x4], fun x k hx x1 x2 x3 => by rw [k3 x k (by omega) x1 x2 x3, h3 x k hx x1 x2 x3]⟩
theorem zt_gz_x {T T' : List mv_T} {R R' : Nat → Nat → Option Nat} {J J' : Nat → Int → Int} (h : zt_gx 43 T T' R R' J J') : zt_gz T T' R R' J J' := ⟨h.1, fun x hx _ x2 x3 x4 => h.2.1 x hx x2 x3 x4, fun x i hx _ x2 _ => h.2.2.1 x i hx x2⟩
theorem zt_gz_j {T : List mv_T} {R R' : Nat → Nat → Option Nat} {J J' : Nat → Int → Int} (hJ : ∀ x, (x < 17 ∨ 28 < x) → (x < 43 ∨ 54 < x) → x ≠ 70 → x ≠ 72 → J' x = J x) (hR : ∀ x i, x ≠ 24 → x ≠ 50 → x ≠ 70 → R' x i = R x i) : zt_gz T T R R' J J' := ⟨⟨0, (List.append_nil T).symm⟩, fun x _ x1 x2 x3 x4 => hJ x x1 x2 x3 x4, fun x i _ x1 x2 x3 => hR x i x1 x2 x3⟩
theorem zt_gz_T {T T' : List mv_T} {R R' : Nat → Nat → Option Nat} {J J' : Nat → Int → Int} (h : zt_gz T T' R R' J J') {a : Nat} {t : mv_T} (ha : T[a]? = some t) : T'[a]? = some t := by
  obtain ⟨⟨n, rfl⟩, _⟩ := h
  exact zk_app ha
theorem zt_gz_s {T T' : List mv_T} {R R' : Nat → Nat → Option Nat} {J J' V : Nat → Int → Int} (h : zt_gz T T' R R' J J') (hl : 156 ≤ T.length) (hs : zk_sh T R J V) : zk_sh T' R' J' V := zk_sh_f hs (fun a ha => zt_gz_T h ha) (fun x x0 x1 => h.2.1 x (by omega) (by omega) (by omega) (by omega) (by omega)) (fun a a0 ha => h.2.1 a (zt_lt ha) (by omega) (by omega) (by omega) (by omega)) (fun x x0 x1 => h.2.2 x 0 (by omega) (by omega) (by omega) (by omega)) (fun k _ _ => zk_vs_r)
/-- copied: q is raw as p was -/
theorem zk_cpd_raw {T : List mv_T} {p q : Nat} {J J' : Nat → Int → Int} {R R' : Nat → Nat → Option Nat} (h : zk_cpd p q J J' R R') (hp : zk_raw T R J p) : zk_raw T R' J' q := by
  obtain ⟨k0, k1, k2, k3, k4, k5, k6, k7, k8, k9, k10, k11⟩ := h
  exact ⟨fun c c0 c1 => by rw [k6 c c0 c1]; exact hp.1 c c0 c1, fun k a hk ha => hp.2 k a hk (by rw [← k7 k hk]; exact ha)⟩
theorem zk_raw_o {T T' : List mv_T} {p : Nat} {J J' : Nat → Int → Int} {R R' : Nat → Nat → Option Nat} (h : zk_raw T R J p) (hJ : J' (p + 6) = J (p + 6)) (hR : ∀ k, R' (p + 7) k = R (p + 7) k) (hT : ∀ a : Nat, T[a]? = some (.inl 2) → T'[a]? = some (.inl 2)) : zk_raw T' R' J' p := ⟨fun c c0 c1 => by rw [hJ]; exact h.1 c c0 c1, fun k a hk ha => hT a (h.2 k a hk (by rw [← hR]; exact ha))⟩
section ZLND
variable {T : List mv_T} {J : Nat → Int → Int} {R : Nat → Nat → Option Nat} {G : Nat → Nat → Int64} {d p q : Nat} {Y : Int} {A : Int → Int} {V : Nat → Int → Int}
theorem c_92 {k : Int} (hd : 6 ≤ d) (hL : ZL T R) (hA : zz_ok Y A) (hb : zt_hb A) (hR : zc_rep T R J 17 A) (r17 : zk_raw T R J 17) (r43 : zk_raw T R J 43) (hsh : zk_sh T R J V) (h1 : -2147483648 ≤ k) (h2 : k ≤ 2147483647) :
    ∃ T' R' J', mv_cax d 92 [.inr (.inr (some 16)), .inl (mv_c k)] (zz_S T J R G) = some (some (.inl (mv_c (zv_land V A k).1)), zz_S T' J' R' G) ∧ zc_rep T' R' J' 17 (zv_land V A k).2 ∧ zk_raw T' R' J' 17 ∧ zk_raw T' R' J' 43 ∧ ZL T' R' ∧ zt_gz T T' R R' J J' ∧ (T'.length : Int) ≤ T.length + 6 := by
  have c126 := c_126 (T := T) (J := J) (R := R) (G := G) (d := d - 1) (k := k) (by omega) hL h1 h2
  obtain ⟨h156, _⟩ := ZL_n hL
  by_cases hk : 0 ≤ k ∧ k < 8
  · rw [if_pos hk] at c126
    have hq := zk_q hk.1 hk.2
    obtain ⟨q, hqe⟩ : ∃ q, q = 115 + 2 * k.toNat := ⟨_, rfl⟩
    have hs := hsh k hk.1 hk.2
    rw [← hqe] at c126 hq hs
    have hq16 := zk_q16 hq
    have c67 := c_67 (T := T) (J := J) (R := R) (G := G) (d := d - 1) (by omega) hL hq hs hk.1 hk.2
    by_cases hw : zv_wr V k 0 = 0
    · have hV : V 135 k = 2 ∧ V 136 k = 0 := by
        unfold zv_wr at hw
        rw [if_pos hk] at hw
        by_cases w1 : V 135 k = 0
        · rw [if_pos w1] at hw
          omega
        · rw [if_neg w1] at hw
          by_cases w2 : V 135 k = 2 ∧ ((0 : Int) < 0 ∨ V 136 k = 0)
          · exact ⟨w2.1, by omega⟩
          · rw [if_neg w2] at hw
            omega
      have hro : zk_ro R J V q k := by
        unfold zk_sq at hs
        rcases hs with g | g | g
        · omega
        · omega
        · exact g.2
      rw [hw] at c67
      obtain ⟨_, _, _, ⟨s1, s2, s3⟩, s4⟩ := hro
      obtain ⟨B, hB⟩ : ∃ B : Int → Int, B = fun y => V 138 (100 * k + y) := ⟨_, rfl⟩
      obtain ⟨N, hN⟩ : ∃ N, N = V 137 k := ⟨_, rfl⟩
      have hvl : zv_land V A k = if 0 ≤ zt_p1 B N 101 0 0 then (if 0 < (zt_p2 B N 101 0 A 0).1 then zt_p2 B N 101 0 A 0 else ((zt_p2 B N 101 0 A 0).1, A)) else (zt_p1 B N 101 0 0, A) := by
        unfold zv_land
        rw [if_pos hw, ← hB, ← hN]
      rw [hvl]
      rw [← hN] at s1 s2 s3
      have c76 := c_76 (T := T) (J := J) (R := R) (G := G) (d := d - 1) (q := q) (n := N) (by omega) hL hq ⟨s2, s3⟩
      have hL1 := ZL_70 (o := some (q + 1)) hL
      have ht1 : zt_tx (mv_up R 70 0 (some (q + 1))) (zz_u J 70 1 N) q B N := by
        refine ⟨hq, ?_, zu_s, ⟨s2, s3⟩, fun y y0 y1 => ?_⟩
        · exact zt_us
        · rw [zu_A (by omega), hB]
          exact s4 y y0 (by omega)
      obtain ⟨R1, hR1⟩ : ∃ R1, R1 = mv_up R 70 0 (some (q + 1)) := ⟨_, rfl⟩
      obtain ⟨J1, hJ1⟩ : ∃ J1, J1 = zz_u J 70 1 N := ⟨_, rfl⟩
      rw [← hR1] at c76 hL1 ht1
      rw [← hJ1] at c76 ht1
      have j1 : ∀ x, x ≠ 70 → J1 x = J x := fun x hx => by rw [hJ1, zu_A hx]
      have r1 : ∀ x i, x ≠ 70 → R1 x i = R x i := fun x i hx => by
        rw [hR1]
        exact zt_up (fun g => hx g.1)
      clear hR1 hJ1
      obtain ⟨J2, c77, k1, k2⟩ := c_77 (T := T) (J := J1) (R := R1) (G := G) (d := d - 1) (by omega) hL1 ht1
      have j2 : ∀ x, x ≠ 70 → x ≠ 72 → J2 x = J x := fun x hx hx' => by rw [k1 x hx hx', j1 x hx]
      have gz2 : zt_gz T T R R1 J J2 := zt_gz_j (fun x _ _ x3 x4 => j2 x x3 x4) (fun x i _ _ x3 => r1 x i x3)
      have rep2 : zc_rep T R1 J2 17 A := zc_rep_g (p := 17) hR (fun _ h => h) (fun x hx => j2 x (by omega) (by omega)) (fun i => r1 _ i (by omega))
      have a2 : zk_raw T R1 J2 17 := zk_raw_o r17 (j2 _ (by omega) (by omega)) (fun i => r1 _ i (by omega)) (fun _ h => h)
      have b2 : zk_raw T R1 J2 43 := zk_raw_o r43 (j2 _ (by omega) (by omega)) (fun i => r1 _ i (by omega)) (fun _ h => h)
      by_cases hp1 : 0 ≤ zt_p1 B N 101 0 0
      · rw [if_pos hp1] at c77 ⊢
        have h0N : 0 < N := by
          have := (zt_sm_r (zt_p1_s (m := 100) ⟨Int.le_refl 0, s2⟩ hp1).1).1
          omega
        have ht2 : zt_tx R1 J2 q B N := zt_tx_f ht1 k2 (k1 (q + 1) (by omega) (by omega))
        obtain ⟨J3, R3, c32, d1, d2, d3⟩ := c_32 (T := T) (J := J2) (R := R1) (G := G) (d := d - 1) (p := 17) (q := 43) (by omega) hL1 (by decide) (by decide) (by decide) a2
        have hL3 : ZL T R3 := ZL_R hL1 (fun x i _ _ x3 _ _ => d3 x i x3)
        have rep3 : zc_rep T R3 J3 43 A := zk_cpd_rep hA d1 rep2 (fun x hx => d2 x (by omega))
        have b3 : zk_raw T R3 J3 43 := zk_cpd_raw d1 a2
        have rep3' : zc_rep T R3 J3 17 A := zc_rep_g (p := 17) rep2 (fun _ h => h) (fun x hx => d2 x (by omega)) (fun i => d3 _ i (by omega))
        have a3 : zk_raw T R3 J3 17 := zk_raw_o a2 (d2 _ (by omega)) (fun i => d3 _ i (by omega)) (fun _ h => h)
        have ht3 : zt_tx R3 J3 q B N := by
          obtain ⟨z0, z1, z2, z3, z4⟩ := ht2
          exact ⟨z0, by rw [d3 70 0 (by omega)]; exact z1, by rw [d2 70 (by omega)]; exact z2, z3, fun y y0 y1 => by rw [d2 (q + 1) (by omega)]; exact z4 y y0 y1⟩
        have gz3 : zt_gz T T R R3 J J3 := zt_gz_t gz2 (zt_gz_j (fun x _ x2 _ _ => d2 x x2) (fun x i _ x2 _ => d3 x i x2))
        obtain ⟨T4, R4, J4, c78, e1, e2, e3, e4, e5⟩ := c_78 (T := T) (J := J3) (R := R3) (G := G) (d := d - 1) (p := 43) (by omega) (by decide) hL3 ht3 hA hb rep3 b3 h0N hp1
        obtain ⟨pc1, pc2, pc3, pc4⟩ := zt_p2_c (B := B) (N := N) (Y := Y) 101 0 0 A (by omega) h0N (by omega) (by omega) hA hb hp1
        have pb := (zt_p1_b (B := B) (N := N) 101 0 0 (by omega) (by omega) (by omega) (by omega)).1 hp1
        have p7 := pc2.2.2.2.2.2.2.1
        have p7' := hA.2.2.2.2.2.2.1
        have gz4 : zt_gz T T4 R R4 J J4 := zt_gz_t gz3 (zt_gz_x e4)
        obtain ⟨v, hv⟩ : ∃ v, v = (zt_p2 B N 101 0 A 0).1 := ⟨_, rfl⟩
        rw [← hv] at c78 pc1 ⊢
        by_cases hv0 : 0 < v
        · rw [if_pos hv0]
          obtain ⟨J5, R5, c32', f1, f2, f3⟩ := c_32 (T := T4) (J := J4) (R := R4) (G := G) (d := d - 1) (p := 43) (q := 17) (by omega) e3 (by decide) (by decide) (by decide) e2
          refine ⟨T4, R5, J5, ?_, zk_cpd_rep pc2 f1 e1 (fun x hx => f2 x (by omega)), zk_cpd_raw f1 e2, zk_raw_o e2 (f2 _ (by omega)) (fun i => f3 _ i (by omega)) (fun _ h => h), ZL_R e3 (fun x i x1 _ _ _ _ => f3 x i x1), zt_gz_t gz4 (zt_gz_j (fun x x1 _ _ _ => f2 x x1) (fun x i x1 _ _ => f3 x i x1)), by omega⟩
          rw [← hv]
          refine zz_c (zz_call (by omega) t_92 rfl (fun n => e_92 _ _ _) ?_)
          simp (maxSteps := 5000000) (disch := first | assumption | omega) only [zi_16, zi_70, zi_H, zi_L, c126, zo_rR, zo_nn, zo_rf, c67, zo_rI, zo_rV, zz_0, zr_16_6, zr_H_4, zg_H_3, s1, c76, c77, zr_16_2, zr_16_0, c32, c78, zz_le, c32', if_true]
          try (refine zz_Ei (fun _ => ?_) (fun h => absurd rfl h))
          try (refine zz_Ei (fun _ => ?_) (fun h => absurd rfl h))
          refine zz_Ei (fun h => absurd h (by omega)) (fun _ => ?_)
          exact zz_Er rfl
        · rw [if_neg hv0]
          refine ⟨T4, R4, J4, ?_, zc_rep_g (p := 17) rep3' (fun a ha => by obtain ⟨⟨n, rfl⟩, _⟩ := e4; exact zk_app ha) (fun x hx => ?_) (fun i => e4.2.2.1 _ i (by omega) (by omega)), zk_raw_o a3 (e4.2.1 _ (by omega) (by omega) (by omega) (by omega)) (fun i => e4.2.2.1 _ i (by omega) (by omega)) (fun a ha => by obtain ⟨⟨n, rfl⟩, _⟩ := e4; exact zk_app ha), e2, e3, gz4, by omega⟩
          · refine zz_c (zz_call (by omega) t_92 rfl (fun n => e_92 _ _ _) ?_)
            simp (maxSteps := 5000000) (disch := first | assumption | omega) only [zi_16, zi_70, zi_H, zi_L, c126, zo_rR, zo_nn, zo_rf, c67, zo_rI, zo_rV, zz_0, zr_16_6, zr_H_4, zg_H_3, s1, c76, c77, zr_16_2, zr_16_0, c32, c78, zz_le, if_true]
            try (refine zz_Ei (fun _ => ?_) (fun h => absurd rfl h))
            try (refine zz_Ei (fun _ => ?_) (fun h => absurd rfl h))
            refine zz_Ei (fun _ => ?_) (fun h => absurd (by omega) h)
            exact zz_Er rfl
          · rcases hx with hx | ⟨hx, hx'⟩
            · exact e4.2.1 x (by omega) (by omega) (by omega) (by omega)
            · exact e4.2.1 x (zt_lt hx') (by omega) (by omega) (by omega)
      · rw [if_neg hp1] at c77 ⊢
        have pb := (zt_p1_b (B := B) (N := N) 101 0 0 (by omega) (by omega) (by omega) (by omega)).2 (by omega)
        obtain ⟨w, hw'⟩ : ∃ w, w = zt_p1 B N 101 0 0 := ⟨_, rfl⟩
        rw [← hw'] at c77 pb ⊢
        refine ⟨T, R1, J2, ?_, rep2, a2, b2, hL1, gz2, by omega⟩
        refine zz_c (zz_call (by omega) t_92 rfl (fun n => e_92 _ _ _) ?_)
        simp (maxSteps := 5000000) (disch := first | assumption | omega) only [zi_16, zi_70, zi_H, c126, zo_rR, zo_nn, zo_rf, c67, zo_rI, zo_rV, zz_0, zr_16_6, zr_H_4, zg_H_3, s1, c76, c77, zz_eq, if_true]
        try (refine zz_Ei (fun _ => ?_) (fun h => absurd rfl h))
        refine zz_Ei (fun h => absurd h (by omega)) (fun _ => ?_)
        exact zz_Er rfl
    · have hvl : zv_land V A k = (zv_wr V k 0, A) := if_neg hw
      rw [hvl]
      have hwr : -12 ≤ zv_wr V k 0 ∧ zv_wr V k 0 ≤ 0 := by
        unfold zv_wr
        split
        · split
          · omega
          · split <;> omega
        · omega
      obtain ⟨w, hw'⟩ : ∃ w, w = zv_wr V k 0 := ⟨_, rfl⟩
      rw [← hw'] at c67 hwr hw ⊢
      refine ⟨T, R, J, ?_, hR, r17, r43, hL, zt_gz_r, by omega⟩
      refine zz_c (zz_call (by omega) t_92 rfl (fun n => e_92 _ _ _) ?_)
      simp (maxSteps := 5000000) (disch := first | assumption | omega) only [zi_16, zi_H, c126, zo_rR, zo_nn, zo_rf, c67, zo_rI, zz_0, zz_eq]
      refine zz_Ei (fun h => absurd h hw) (fun _ => ?_)
      exact zz_Er rfl
  · rw [if_neg hk] at c126
    have hwr : zv_wr V k 0 = -1 := if_neg hk
    have hvl : zv_land V A k = (zv_wr V k 0, A) := if_neg (by omega)
    rw [hvl, hwr]
    refine ⟨T, R, J, ?_, hR, r17, r43, hL, zt_gz_r, by omega⟩
    refine zz_c (zz_call (by omega) t_92 rfl (fun n => e_92 _ _ _) ?_)
    simp (maxSteps := 5000000) (disch := first | assumption | omega) only [zi_16, c126, zo_rR, zo_nl, zo_rf, zz_0]
    exact zz_Er rfl
end ZLND
