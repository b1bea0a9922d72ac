/-! PURE LAYER, 11: the reference digs -/
def zz_fd (J J' : Nat → Int → Int) : Prop := (∀ x, x ≠ 131 → x ≠ 132 → (x < 143 ∨ 148 < x ∨ x = 147) → J' x = J x) ∧ ∀ y, (y < 16 ∨ 26 < y) → J' 131 y = J 131 y
theorem zz_can_mv {A B : Int → Int} {a0 b0 a b : Int} (h1 : zz_ov A a0) (h2 : zz_un A b0) (hn : a0 ≠ b0) (ha0 : 0 ≤ a0) (ha1 : a0 < 16) (hb0 : 0 ≤ b0) (hb1 : b0 < 16) (ha : 0 ≤ a) (ha' : a < 16) (hb : 0 ≤ b) (hb' : b < 16) (h : zz_can (zz_mv A a0 b0) B a b) : zz_can A B a b := by
  obtain ⟨⟨o1, o2, o3⟩, ⟨u1, u2, u3⟩, c⟩ := h
  obtain ⟨p1, p2, p3⟩ := h1
  obtain ⟨q1, q2, q3⟩ := h2
  have e24 : ∀ c, 0 ≤ c → zz_mv A a0 b0 (24 + c) = A (24 + c) := fun c _ => zz_mv_o (by omega) (by omega)
  have e6 : zz_mv A a0 b0 6 = A 6 := zz_mv_o (by omega) (by omega)
  rw [e24 a ha] at o1 o2
  rw [e24 b hb] at u1 u2
  rw [e6] at o3 u3
  refine ⟨⟨o1, ?_, o3⟩, ⟨u1, ?_, u3⟩, c⟩
  · by_cases e : a = a0
    · rw [e, zz_mv_a hn] at o2; rw [e]; omega
    · by_cases e' : a = b0
      · rw [e', zz_mv_b] at o2; rw [e']; omega
      · rw [zz_mv_o (by omega) (by omega)] at o2; exact o2
  · by_cases e : b = a0
    · rw [e, zz_mv_a hn] at u2; rw [e]; omega
    · by_cases e' : b = b0
      · rw [e', zz_mv_b] at u2; rw [e']; omega
      · rw [zz_mv_o (by omega) (by omega)] at u2; exact u2
def zz_exm (A : Int → Int) (c : Int) : Int := max 0 (zz_ex A (fun c => A (24 + c)) c)
theorem zz_exm_mv {A : Int → Int} {a0 b0 n : Int} (h1 : zz_ov A a0) (h2 : zz_un A b0) (ha0 : 0 ≤ a0) (ha1 : a0 < n) (hb0 : 0 ≤ b0) (hb1 : b0 < n) (hn : n ≤ 16) (hne : a0 ≠ b0) : zz_sum (zz_exm (zz_mv A a0 b0)) n < zz_sum (zz_exm A) n := by
  obtain ⟨p1, p2, p3⟩ := h1
  obtain ⟨q1, q2, q3⟩ := h2
  have e24 : ∀ c, 0 ≤ c → zz_mv A a0 b0 (24 + c) = A (24 + c) := fun c _ => zz_mv_o (by omega) (by omega)
  have v : ∀ (A : Int → Int) c, zz_exm A c = max 0 (if A (24 + c) < 0 then 0 else A (8 + c) - A (24 + c)) := fun A c => rfl
  refine zz_sum_lt (k := a0) (fun i i0 i1 => ?_) ha0 ha1 ?_
  · rw [v, v, e24 i i0]
    by_cases e : i = a0
    · rw [e, zz_mv_a hne]; split <;> omega
    · by_cases e' : i = b0
      · rw [e', zz_mv_b]; split <;> omega
      · rw [zz_mv_o (by omega) (by omega)]
        exact Int.le_refl _
  · rw [v, v, e24 a0 ha0, zz_mv_a hne, if_neg (by omega), if_neg (by omega)]
    omega
section ZDI2
variable {T : List mv_T} {J : Nat → Int → Int} {R : Nat → Nat → Option Nat} {G : Nat → Nat → Int64} {d : Nat} {Y : Int}
theorem r_179w (hL : ZL T R) (hA : zz_ok Y (J 132)) (hBc : zz_bc (J 142)) (hd : 5 ≤ d) {must : Prop} :
    ∀ q : Int × (Nat → Int → Int), zz_fd J q.2 ∧ (∀ y, (y < 8 ∨ 24 ≤ y) → q.2 132 y = J 132 y) ∧ zz_ok Y (q.2 132) ∧ (0 ≤ q.2 131 26 ∧ q.2 131 26 ≤ 999) ∧ (∀ p, 0 ≤ p → p < 256 → q.2 148 p = 0 ∨ q.2 148 p = 1) ∧ (256 ≤ q.1 ∧ q.1 ≤ 1792) ∧ (∀ a b, 0 ≤ a → a < J 132 0 * J 132 1 → 0 ≤ b → b < J 132 0 * J 132 1 → (q.2 148 (16 * a + b) = 1 → 256 * zz_nr (J 132 1) a b + (16 * a + b) < q.1) ∧ (256 * zz_nr (J 132 1) a b + (16 * a + b) < q.1 → ¬ zz_can (q.2 132) (q.2 148) a b)) →
    zz_E (fun n => mv_run (mv_cax d) mm_179 n 152 [(0, .inr (.inr (some 131))), (1, .inl (mv_c (zz_b must)))] [] (zz_S T q.2 R G)) (fun r => ∃ J', r = (none, zz_S T J' R G) ∧ zz_fd J J' ∧ (∀ y, (y < 8 ∨ 24 ≤ y) → J' 132 y = J 132 y) ∧ zz_ok Y (J' 132) ∧ (0 ≤ J' 131 26 ∧ J' 131 26 ≤ 999) ∧ zz_dg must q.1 (q.2 132, q.2 131 26, q.2 131 25) (J' 132, J' 131 26, J' 131 25)) := by
  have key : ∀ (n : Nat) (q : Int × (Nat → Int → Int)), (1792 - q.1).toNat + (zz_sum (zz_exm (q.2 132)) (J 132 0 * J 132 1)).toNat < n → zz_fd J q.2 ∧ (∀ y, (y < 8 ∨ 24 ≤ y) → q.2 132 y = J 132 y) ∧ zz_ok Y (q.2 132) ∧ (0 ≤ q.2 131 26 ∧ q.2 131 26 ≤ 999) ∧ (∀ p, 0 ≤ p → p < 256 → q.2 148 p = 0 ∨ q.2 148 p = 1) ∧ (256 ≤ q.1 ∧ q.1 ≤ 1792) ∧ (∀ a b, 0 ≤ a → a < J 132 0 * J 132 1 → 0 ≤ b → b < J 132 0 * J 132 1 → (q.2 148 (16 * a + b) = 1 → 256 * zz_nr (J 132 1) a b + (16 * a + b) < q.1) ∧ (256 * zz_nr (J 132 1) a b + (16 * a + b) < q.1 → ¬ zz_can (q.2 132) (q.2 148) a b)) →
    zz_E (fun n => mv_run (mv_cax d) mm_179 n 152 [(0, .inr (.inr (some 131))), (1, .inl (mv_c (zz_b must)))] [] (zz_S T q.2 R G)) (fun r => ∃ J', r = (none, zz_S T J' R G) ∧ zz_fd J J' ∧ (∀ y, (y < 8 ∨ 24 ≤ y) → J' 132 y = J 132 y) ∧ zz_ok Y (J' 132) ∧ (0 ≤ J' 131 26 ∧ J' 131 26 ≤ 999) ∧ zz_dg must q.1 (q.2 132, q.2 131 26, q.2 131 25) (J' 132, J' 131 26, J' 131 25)) := by
    intro m
    induction m with
    | zero => intro q h; omega
    | succ m ih =>
      rintro ⟨κ, J'⟩ hmu ⟨hf, hy, hA', hl, hb01, hκ, hbar⟩
      have hmu : (1792 - κ).toNat + (zz_sum (zz_exm (J' 132)) (J 132 0 * J 132 1)).toNat < m + 1 := hmu
      have hf : zz_fd J J' := hf
      have hy : ∀ y, (y < 8 ∨ 24 ≤ y) → J' 132 y = J 132 y := hy
      have hA' : zz_ok Y (J' 132) := hA'
      have hl : 0 ≤ J' 131 26 ∧ J' 131 26 ≤ 999 := hl
      have hb01 : ∀ p, 0 ≤ p → p < 256 → J' 148 p = 0 ∨ J' 148 p = 1 := hb01
      have hκ : 256 ≤ κ ∧ κ ≤ 1792 := hκ
      have hbar : ∀ a b, 0 ≤ a → a < J 132 0 * J 132 1 → 0 ≤ b → b < J 132 0 * J 132 1 → (J' 148 (16 * a + b) = 1 → 256 * zz_nr (J 132 1) a b + (16 * a + b) < κ) ∧ (256 * zz_nr (J 132 1) a b + (16 * a + b) < κ → ¬ zz_can (J' 132) (J' 148) a b) := hbar
      have hn := hA.n
      have hn' := hA'.n
      have h0 := hA.1
      have e0 : J' 132 0 = J 132 0 := hy 0 (by omega)
      have e1 : J' 132 1 = J 132 1 := hy 1 (by omega)
      have hB' : zz_bc (J' 142) := by rw [hf.1 142 (by omega) (by omega) (by omega)]; exact hBc
      show zz_E (fun n => mv_run (mv_cax d) mm_179 n 152 [(0, .inr (.inr (some 131))), (1, .inl (mv_c (zz_b must)))] [] (zz_S T J' R G)) (fun r => ∃ J'', r = (none, zz_S T J'' R G) ∧ zz_fd J J'' ∧ (∀ y, (y < 8 ∨ 24 ≤ y) → J'' 132 y = J 132 y) ∧ zz_ok Y (J'' 132) ∧ (0 ≤ J'' 131 26 ∧ J'' 131 26 ≤ 999) ∧ zz_dg must κ (J' 132, J' 131 26, J' 131 25) (J'' 132, J'' 131 26, J'' 131 25))
      -- what stands at a key
      have elc : ∀ j, zz_el (J' 132) j → 256 ≤ j → j < 1792 → ∃ a b, 0 ≤ a ∧ a < J 132 0 * J 132 1 ∧ 0 ≤ b ∧ b < J 132 0 * J 132 1 ∧ j = 256 * zz_nr (J 132 1) a b + (16 * a + b) ∧ zz_ov (J' 132) a ∧ zz_un (J' 132) b := by
        intro j hj j0 j1
        obtain ⟨p1, p2, p3, p4, p5⟩ := hj
        rw [e0, e1] at p1 p2
        rw [e1] at p3
        exact ⟨j / 16 % 16, j % 16, by omega, p1, by omega, p2, by omega, p4, p5⟩
      refine zz_Es (fun n => e_179_152 _ _ _) ?_
      refine r_179s (Y := Y) hL hA' hb01 (by omega) (fun q hq => ?_)
      obtain ⟨best, least⟩ := q
      refine zz_Es (fun n => e_179_160 _ _ _ _ _ _) ?_
      rcases hq with ⟨hq1, hq2⟩ | ⟨a0, b0, p0, p1, p2, p3, -, p5, p6, p7, p8⟩
      · have hq1 : best = -4 := hq1
        subst hq1
        simp (maxSteps := 5000000) (disch := first | assumption | omega) only [r_135, zr_131_0, zr_131_1, zr_131_2, zr_131_3, zr_131_4, zr_131_5, zr_131_6, zr_131_7, zr_131_8, zg_131_9, zp_131_9, zg_131_10, zp_131_10, zg_131_11, zp_131_11, zg_131_12, zp_131_12, zg_131_13, zp_131_13, zg_131_14, zp_131_14, zr_131_15, zg_131_16, zp_131_16, zg_131_17, zp_131_17, zr_131_18, zr_131_19, zr_131_20, zr_131_21, zr_131_22, zg_131_23, zp_131_23, zr_131_24, zg_131_25, zp_131_25, zg_131_26, zp_131_26, zr_131_27, zr_131_28, zg_131_29, zp_131_29, zg_131_30, zp_131_30, zr_131_31, zr_131_32, zr_131_33, zr_131_34, zr_131_35, zi_131, za_132, zs_132, zl_132, za_133, zs_133, zl_133, za_134, zs_134, zl_134, za_135, zs_135, zl_135, za_136, zs_136, zl_136, za_137, zs_137, zl_137, za_138, zs_138, zl_138, za_139, zs_139, zl_139, za_140, zs_140, zl_140, za_141, zs_141, zl_141, za_142, zs_142, zl_142, za_143, zs_143, zl_143, za_144, zs_144, zl_144, za_145, zs_145, zl_145, za_146, zs_146, zl_146, za_147, zs_147, zl_147, za_148, zs_148, zl_148, za_149, zs_149, zl_149, za_150, zs_150, zl_150, za_151, zs_151, zl_151, za_152, zs_152, zl_152, za_153, zs_153, zl_153, za_154, zs_154, zl_154, zz_0, zz_31, zz_add, zz_sub, zz_mul, zz_neg, zz_lt, zz_le, zz_eq, zz_div, zz_md, zz_dv, zz_abs, zz_max, zz_min, zz_nI, zz_be0, zz_be1, zz_zb, zz_z, zz_l0, zz_l, zz_lcmp, zo_rf, zo_nl, zo_nn, zo_rI, zo_rL, zo_rR, zo_rV, Int.add_zero, Int.zero_add, Int.mul_zero, Int.zero_mul, Int.one_mul, Int.mul_one, if_true, if_false, not_true_eq_false, not_false_eq_true]
        refine zz_Ei (fun _ => ?_) (fun h => absurd (by omega) h)
        refine zz_Ei (fun _ => ?_) (fun h => absurd (by omega) h)
        refine zz_Er ⟨J', rfl, hf, hy, hA', hl, ?_⟩
        refine zz_dg_skips (Int.le_refl _) hκ.2 (fun j j0 j1 hj => ?_) (zz_dg_end (Int.le_refl _))
        obtain ⟨a, b, r0, r1, r2, r3, r4, r5, r6⟩ := elc j hj (by omega) j1
        have := hq2 a b r0 (by rw [e0, e1]; exact r1) r2 (by rw [e0, e1]; exact r3) trivial
        rcases hb01 (16 * a + b) (by omega) (by omega) with q | q
        · exact this ⟨r5, r6, q⟩
        · have := (hbar a b r0 r1 r2 r3).1 q
          omega
      · have p5 : best = 16 * a0 + b0 := p5
        have p6 : least = zz_nr (J' 132 1) a0 b0 := p6
        rw [e0, e1] at p1 p3 p8
        rw [e1] at p6
        subst p5 p6
        have hnr := zz_nr_b h0.1 h0.2.1 h0.2.2.1 h0.2.2.2 p0 p1 p2 p3
        obtain ⟨c1, c2, c3⟩ := id p7
        have hne : a0 ≠ b0 := by
          intro q
          have := c1.2.1
          have := c2.2.1
          rw [q] at *
          omega
        have hnr1 : 1 ≤ zz_nr (J 132 1) a0 b0 := by
          have := hnr.2.2
          omega
        have hk0 : ¬ 256 * zz_nr (J 132 1) a0 b0 + (16 * a0 + b0) < κ := fun q => (hbar a0 b0 p0 p1 p2 p3).2 q p7
        generalize hk : 256 * zz_nr (J 132 1) a0 b0 + (16 * a0 + b0) = k0 at *
        have ka : k0 / 16 % 16 = a0 := by omega
        have kb : k0 % 16 = b0 := by omega
        have kn : k0 / 256 = zz_nr (J 132 1) a0 b0 := by omega
        have hel : zz_el (J' 132) k0 := by
          unfold zz_el
          rw [ka, kb, kn, e0, e1]
          exact ⟨p1, p3, rfl, c1, c2⟩
        have hsk : ∀ r, zz_dg must k0 (J' 132, J' 131 26, J' 131 25) r → zz_dg must κ (J' 132, J' 131 26, J' 131 25) r := by
          intro r hr
          refine zz_dg_skips (by omega) (by omega) (fun j j0 j1 hj => ?_) hr
          obtain ⟨a, b, r0, r1, r2, r3, r4, r5, r6⟩ := elc j hj (by omega) (by omega)
          rcases hb01 (16 * a + b) (by omega) (by omega) with q | q
          · have := p8 a b r0 r1 r2 r3 trivial ⟨r5, r6, q⟩
            omega
          · have := (hbar a b r0 r1 r2 r3).1 q
            omega
        have ha8 := hA'.2.2.2.2.2.2.2.1 a0 p0 (by rw [e0, e1]; exact p1)
        have hb8 := hA'.2.2.2.2.2.2.2.1 b0 p2 (by rw [e0, e1]; exact p3)
        have hmv : zz_ok Y (zz_mv (J' 132) a0 b0) := zz_ok_mv hA' p0 (by rw [e0, e1]; exact p1) p2 (by rw [e0, e1]; exact p3) hne (by have := c1; unfold zz_ov at this; omega) (by have := c2; unfold zz_un at this; omega)
        have hymv : ∀ y, (y < 8 ∨ 24 ≤ y) → zz_mv (J' 132) a0 b0 y = J 132 y := fun y h => by rw [zz_mv_o (by omega) (by omega)]; exact hy y h
        have q1 : (16 * a0 + b0) / 16 = a0 := by omega
        have q2 : (16 * a0 + b0) % 16 = b0 := by omega
        have q3 : 16 * a0 + b0 - a0 * 16 = b0 := by omega
        have cm : ∀ a b, 0 ≤ a → a < J 132 0 * J 132 1 → 0 ≤ b → b < J 132 0 * J 132 1 → 256 * zz_nr (J 132 1) a b + (16 * a + b) < k0 → ¬ zz_can (J' 132) (J' 148) a b := by
          intro a b r0 r1 r2 r3 r4 r5
          have := p8 a b r0 r1 r2 r3 trivial r5
          omega
        -- a step that stays
        have go : ∀ J1 : Nat → Int → Int, zz_fd J J1 → J1 132 = zz_mv (J' 132) a0 b0 → J1 148 = J' 148 → J1 131 26 = J' 131 26 - 2 * zz_nr (J 132 1) a0 b0 → J1 131 25 = J' 131 25 + 1 → ¬ J' 131 26 < 2 * zz_nr (J 132 1) a0 b0 → ¬ (must ∧ ¬ zz_ls (zz_mv (J' 132) a0 b0)) → zz_E (fun n => mv_run (mv_cax d) mm_179 n 152 [(0, .inr (.inr (some 131))), (1, .inl (mv_c (zz_b must)))] [] (zz_S T J1 R G)) (fun r => ∃ J'', r = (none, zz_S T J'' R G) ∧ zz_fd J J'' ∧ (∀ y, (y < 8 ∨ 24 ≤ y) → J'' 132 y = J 132 y) ∧ zz_ok Y (J'' 132) ∧ (0 ≤ J'' 131 26 ∧ J'' 131 26 ≤ 999) ∧ zz_dg must κ (J' 132, J' 131 26, J' 131 25) (J'' 132, J'' 131 26, J'' 131 25)) := by
          intro J1 g1 g2 g3 g4 g5 g6 g7
          have hsum := zz_exm_mv c1 c2 p0 p1 p2 p3 (by omega) hne
          have hs0 := zz_sum_le (f := fun _ => 0) (g := zz_exm (zz_mv (J' 132) a0 b0)) (c := J 132 0 * J 132 1) (by omega) (fun i _ _ => by show 0 ≤ max 0 _; omega)
          rw [zz_sum_z (f := fun _ => 0) (by omega) (fun _ _ _ => rfl)] at hs0
          refine zz_Em (ih (k0, J1) ?_ ⟨g1, ?_, ?_, ?_, ?_, ?_, ?_⟩) ?_
          · show (1792 - k0).toNat + (zz_sum (zz_exm (J1 132)) _).toNat < m
            rw [g2]
            omega
          · show ∀ y, (y < 8 ∨ 24 ≤ y) → J1 132 y = J 132 y
            rw [g2]
            exact hymv
          · show zz_ok Y (J1 132)
            rw [g2]
            exact hmv
          · show 0 ≤ J1 131 26 ∧ J1 131 26 ≤ 999
            omega
          · show ∀ p, 0 ≤ p → p < 256 → J1 148 p = 0 ∨ J1 148 p = 1
            rw [g3]
            exact hb01
          · show 256 ≤ k0 ∧ k0 ≤ 1792
            omega
          · show ∀ a b, 0 ≤ a → a < J 132 0 * J 132 1 → 0 ≤ b → b < J 132 0 * J 132 1 → (J1 148 (16 * a + b) = 1 → 256 * zz_nr (J 132 1) a b + (16 * a + b) < k0) ∧ (256 * zz_nr (J 132 1) a b + (16 * a + b) < k0 → ¬ zz_can (J1 132) (J1 148) a b)
            rw [g2, g3]
            intro a b r0 r1 r2 r3
            refine ⟨fun q => by have := (hbar a b r0 r1 r2 r3).1 q; omega, fun q q' => cm a b r0 r1 r2 r3 q (zz_can_mv c1 c2 hne p0 (by omega) p2 (by omega) r0 (by omega) r2 (by omega) q')⟩
          · rintro r ⟨J'', hr, w1, w2, w3, w4, w5⟩
            refine ⟨J'', hr, w1, w2, w3, w4, hsk _ (zz_dg_go (by omega) hel (by rw [kn]; exact g6) (by rw [ka, kb]; exact g7) ?_)⟩
            have w5 : zz_dg must k0 (J1 132, J1 131 26, J1 131 25) (J'' 132, J'' 131 26, J'' 131 25) := w5
            rw [g2, g4, g5] at w5
            rw [ka, kb, kn]
            exact w5
        -- a step that is undone
        have undo : ∀ J1 : Nat → Int → Int, zz_fd J J1 → J1 132 = J' 132 → J1 148 = zz_f (J' 148) (16 * a0 + b0) 1 → J1 131 26 = J' 131 26 → J1 131 25 = J' 131 25 → ¬ J' 131 26 < 2 * zz_nr (J 132 1) a0 b0 → (must ∧ ¬ zz_ls (zz_mv (J' 132) a0 b0)) → zz_E (fun n => mv_run (mv_cax d) mm_179 n 152 [(0, .inr (.inr (some 131))), (1, .inl (mv_c (zz_b must)))] [] (zz_S T J1 R G)) (fun r => ∃ J'', r = (none, zz_S T J'' R G) ∧ zz_fd J J'' ∧ (∀ y, (y < 8 ∨ 24 ≤ y) → J'' 132 y = J 132 y) ∧ zz_ok Y (J'' 132) ∧ (0 ≤ J'' 131 26 ∧ J'' 131 26 ≤ 999) ∧ zz_dg must κ (J' 132, J' 131 26, J' 131 25) (J'' 132, J'' 131 26, J'' 131 25)) := by
          intro J1 g1 g2 g3 g4 g5 g6 g7
          refine zz_Em (ih (k0 + 1, J1) ?_ ⟨g1, ?_, ?_, ?_, ?_, ?_, ?_⟩) ?_
          · show (1792 - (k0 + 1)).toNat + (zz_sum (zz_exm (J1 132)) _).toNat < m
            rw [g2]
            omega
          · show ∀ y, (y < 8 ∨ 24 ≤ y) → J1 132 y = J 132 y
            rw [g2]
            exact hy
          · show zz_ok Y (J1 132)
            rw [g2]
            exact hA'
          · show 0 ≤ J1 131 26 ∧ J1 131 26 ≤ 999
            omega
          · show ∀ p, 0 ≤ p → p < 256 → J1 148 p = 0 ∨ J1 148 p = 1
            rw [g3]
            intro p r0 r1
            by_cases e : p = 16 * a0 + b0
            · rw [e, zf_s]
              exact Or.inr rfl
            · rw [zf_n e]
              exact hb01 p r0 r1
          · show 256 ≤ k0 + 1 ∧ k0 + 1 ≤ 1792
            omega
          · show ∀ a b, 0 ≤ a → a < J 132 0 * J 132 1 → 0 ≤ b → b < J 132 0 * J 132 1 → (J1 148 (16 * a + b) = 1 → 256 * zz_nr (J 132 1) a b + (16 * a + b) < k0 + 1) ∧ (256 * zz_nr (J 132 1) a b + (16 * a + b) < k0 + 1 → ¬ zz_can (J1 132) (J1 148) a b)
            rw [g2, g3]
            intro a b r0 r1 r2 r3
            by_cases e : a = a0 ∧ b = b0
            · obtain ⟨rfl, rfl⟩ := e
              refine ⟨fun _ => by omega, fun _ q' => ?_⟩
              have := q'.2.2
              rw [zf_s] at this
              omega
            · rw [zf_n (by omega)]
              refine ⟨fun q => by have := (hbar a b r0 r1 r2 r3).1 q; omega, fun q q' => ?_⟩
              have hc : zz_can (J' 132) (J' 148) a b := ⟨q'.1, q'.2.1, by have := q'.2.2; rw [zf_n (by omega)] at this; exact this⟩
              exact cm a b r0 r1 r2 r3 (by omega) hc
          · rintro r ⟨J'', hr, w1, w2, w3, w4, w5⟩
            refine ⟨J'', hr, w1, w2, w3, w4, hsk _ (zz_dg_undo (by omega) hel (by rw [kn]; exact g6) (by rw [ka, kb]; exact g7) ?_)⟩
            have w5 : zz_dg must (k0 + 1) (J1 132, J1 131 26, J1 131 25) (J'' 132, J'' 131 26, J'' 131 25) := w5
            rw [g2, g4, g5] at w5
            exact w5
        have r166 := r_166 (T := T) (J := J') (R := R) (G := G) (d := d) (a := a0) (b := b0) (by omega) hL hne p0 (by omega) p2 (by omega)
        simp (maxSteps := 5000000) (disch := first | assumption | omega) only [r_135, q1, q2, q3, e0, e1, r166, zr_131_0, zr_131_1, zr_131_2, zr_131_3, zr_131_4, zr_131_5, zr_131_6, zr_131_7, zr_131_8, zg_131_9, zp_131_9, zg_131_10, zp_131_10, zg_131_11, zp_131_11, zg_131_12, zp_131_12, zg_131_13, zp_131_13, zg_131_14, zp_131_14, zr_131_15, zg_131_16, zp_131_16, zg_131_17, zp_131_17, zr_131_18, zr_131_19, zr_131_20, zr_131_21, zr_131_22, zg_131_23, zp_131_23, zr_131_24, zg_131_25, zp_131_25, zg_131_26, zp_131_26, zr_131_27, zr_131_28, zg_131_29, zp_131_29, zg_131_30, zp_131_30, zr_131_31, zr_131_32, zr_131_33, zr_131_34, zr_131_35, zi_131, za_132, zs_132, zl_132, za_133, zs_133, zl_133, za_134, zs_134, zl_134, za_135, zs_135, zl_135, za_136, zs_136, zl_136, za_137, zs_137, zl_137, za_138, zs_138, zl_138, za_139, zs_139, zl_139, za_140, zs_140, zl_140, za_141, zs_141, zl_141, za_142, zs_142, zl_142, za_143, zs_143, zl_143, za_144, zs_144, zl_144, za_145, zs_145, zl_145, za_146, zs_146, zl_146, za_147, zs_147, zl_147, za_148, zs_148, zl_148, za_149, zs_149, zl_149, za_150, zs_150, zl_150, za_151, zs_151, zl_151, za_152, zs_152, zl_152, za_153, zs_153, zl_153, za_154, zs_154, zl_154, zz_0, zz_31, zz_add, zz_sub, zz_mul, zz_neg, zz_lt, zz_le, zz_eq, zz_div, zz_md, zz_dv, zz_abs, zz_max, zz_min, zz_nI, zz_be0, zz_be1, zz_zb, zz_z, zz_l0, zz_l, zz_lcmp, zo_rf, zo_nl, zo_nn, zo_rI, zo_rL, zo_rR, zo_rV, Int.add_zero, Int.zero_add, Int.mul_zero, Int.zero_mul, Int.one_mul, Int.mul_one, if_true, if_false, not_true_eq_false, not_false_eq_true]
        refine zz_Ei (fun _ => ?_) (fun h => absurd (by omega) h)
        refine zz_Ei (fun h => absurd h (by omega)) (fun _ => ?_)
        refine zz_Ei (fun h6 => ?_) (fun h6 => ?_)
        · rcases zz_b_c must with ⟨hm, hm'⟩ | ⟨hm, hm'⟩
          · simp (maxSteps := 5000000) (disch := first | assumption | omega) only [hm, zw_n, zu_s, zu_k, zr_131_0, zr_131_1, zr_131_2, zr_131_3, zr_131_4, zr_131_5, zr_131_6, zr_131_7, zr_131_8, zg_131_9, zp_131_9, zg_131_10, zp_131_10, zg_131_11, zp_131_11, zg_131_12, zp_131_12, zg_131_13, zp_131_13, zg_131_14, zp_131_14, zr_131_15, zg_131_16, zp_131_16, zg_131_17, zp_131_17, zr_131_18, zr_131_19, zr_131_20, zr_131_21, zr_131_22, zg_131_23, zp_131_23, zr_131_24, zg_131_25, zp_131_25, zg_131_26, zp_131_26, zr_131_27, zr_131_28, zg_131_29, zp_131_29, zg_131_30, zp_131_30, zr_131_31, zr_131_32, zr_131_33, zr_131_34, zr_131_35, zi_131, za_132, zs_132, zl_132, za_133, zs_133, zl_133, za_134, zs_134, zl_134, za_135, zs_135, zl_135, za_136, zs_136, zl_136, za_137, zs_137, zl_137, za_138, zs_138, zl_138, za_139, zs_139, zl_139, za_140, zs_140, zl_140, za_141, zs_141, zl_141, za_142, zs_142, zl_142, za_143, zs_143, zl_143, za_144, zs_144, zl_144, za_145, zs_145, zl_145, za_146, zs_146, zl_146, za_147, zs_147, zl_147, za_148, zs_148, zl_148, za_149, zs_149, zl_149, za_150, zs_150, zl_150, za_151, zs_151, zl_151, za_152, zs_152, zl_152, za_153, zs_153, zl_153, za_154, zs_154, zl_154, zz_0, zz_31, zz_add, zz_sub, zz_mul, zz_neg, zz_lt, zz_le, zz_eq, zz_div, zz_md, zz_dv, zz_abs, zz_max, zz_min, zz_nI, zz_be0, zz_be1, zz_zb, zz_z, zz_l0, zz_l, zz_lcmp, zo_rf, zo_nl, zo_nn, zo_rI, zo_rL, zo_rR, zo_rV, Int.add_zero, Int.zero_add, Int.mul_zero, Int.zero_mul, Int.one_mul, Int.mul_one, if_true, if_false, not_true_eq_false, not_false_eq_true]
            rw [hm] at go
            refine go _ ⟨fun x x1 x2 x3 => ?_, fun y hy' => ?_⟩ ?_ ?_ ?_ ?_ (by omega) (fun q => hm' q.1)
            · rw [zu_A x1, zu_A x1, zw_n x2]
              exact hf.1 x x1 x2 x3
            · rw [zu_k (by omega), zu_k (by omega), zw_n (by omega)]
              exact hf.2 y hy'
            · rw [zu_A (by omega), zu_A (by omega), zw_s]
            · rw [zu_A (by omega), zu_A (by omega), zw_n (by omega)]
            · rw [zu_k (by omega), zu_s]
            · rw [zu_s]
          · have r154 := r_154 (T := T) (J := zz_w J' 132 (zz_mv (J' 132) a0 b0)) (R := R) (G := G) (d := d) (Y := Y) hL (by rw [zw_s]; exact hmv) (by rw [zw_n (by omega)]; exact hB') (by omega)
            rw [zw_s] at r154
            have r166' := r_166 (T := T) (J := zz_fm (zz_w J' 132 (zz_mv (J' 132) a0 b0)) (zz_stn (zz_mv (J' 132) a0 b0)) (zz_mk (zz_way (zz_mv (J' 132) a0 b0)) 0)) (R := R) (G := G) (d := d) (a := b0) (b := a0) (by omega) hL (fun q => hne q.symm) p2 (by omega) p0 (by omega)
            have e132 : zz_fm (zz_w J' 132 (zz_mv (J' 132) a0 b0)) (zz_stn (zz_mv (J' 132) a0 b0)) (zz_mk (zz_way (zz_mv (J' 132) a0 b0)) 0) 132 = zz_mv (J' 132) a0 b0 := by
              funext y
              rw [zz_fm_a (by omega), zw_s]
            rw [e132, zz_mvb hne] at r166'
            have fmf : ∀ x, x ≠ 131 → zz_fm (zz_w J' 132 (zz_mv (J' 132) a0 b0)) (zz_stn (zz_mv (J' 132) a0 b0)) (zz_mk (zz_way (zz_mv (J' 132) a0 b0)) 0) x = zz_w J' 132 (zz_mv (J' 132) a0 b0) x := by
              intro x hx
              funext y
              rw [zz_fm_a hx]
            have fmy : ∀ y, y ≠ 16 → y ≠ 17 → zz_fm (zz_w J' 132 (zz_mv (J' 132) a0 b0)) (zz_stn (zz_mv (J' 132) a0 b0)) (zz_mk (zz_way (zz_mv (J' 132) a0 b0)) 0) 131 y = J' 131 y := by
              intro y y1 y2
              unfold zz_fm
              rw [zu_k y1, zu_k y2, zw_n (by omega)]
            simp (maxSteps := 5000000) (disch := first | assumption | omega) only [hm, r154, q1, q2, q3, e0, e1, r166', zr_131_0, zr_131_1, zr_131_2, zr_131_3, zr_131_4, zr_131_5, zr_131_6, zr_131_7, zr_131_8, zg_131_9, zp_131_9, zg_131_10, zp_131_10, zg_131_11, zp_131_11, zg_131_12, zp_131_12, zg_131_13, zp_131_13, zg_131_14, zp_131_14, zr_131_15, zg_131_16, zp_131_16, zg_131_17, zp_131_17, zr_131_18, zr_131_19, zr_131_20, zr_131_21, zr_131_22, zg_131_23, zp_131_23, zr_131_24, zg_131_25, zp_131_25, zg_131_26, zp_131_26, zr_131_27, zr_131_28, zg_131_29, zp_131_29, zg_131_30, zp_131_30, zr_131_31, zr_131_32, zr_131_33, zr_131_34, zr_131_35, zi_131, za_132, zs_132, zl_132, za_133, zs_133, zl_133, za_134, zs_134, zl_134, za_135, zs_135, zl_135, za_136, zs_136, zl_136, za_137, zs_137, zl_137, za_138, zs_138, zl_138, za_139, zs_139, zl_139, za_140, zs_140, zl_140, za_141, zs_141, zl_141, za_142, zs_142, zl_142, za_143, zs_143, zl_143, za_144, zs_144, zl_144, za_145, zs_145, zl_145, za_146, zs_146, zl_146, za_147, zs_147, zl_147, za_148, zs_148, zl_148, za_149, zs_149, zl_149, za_150, zs_150, zl_150, za_151, zs_151, zl_151, za_152, zs_152, zl_152, za_153, zs_153, zl_153, za_154, zs_154, zl_154, zz_0, zz_31, zz_add, zz_sub, zz_mul, zz_neg, zz_lt, zz_le, zz_eq, zz_div, zz_md, zz_dv, zz_abs, zz_max, zz_min, zz_nI, zz_be0, zz_be1, zz_zb, zz_z, zz_l0, zz_l, zz_lcmp, zo_rf, zo_nl, zo_nn, zo_rI, zo_rL, zo_rR, zo_rV, Int.add_zero, Int.zero_add, Int.mul_zero, Int.zero_mul, Int.one_mul, Int.mul_one, if_true, if_false, not_true_eq_false, not_false_eq_true]
            refine zz_Ei (fun h => absurd h (by omega)) (fun _ => ?_)
            refine zz_Ei (fun h7 => ?_) (fun h7 => ?_)
            · rw [zz_be0] at h7
              rw [hm] at undo
              refine undo _ ⟨fun x x1 x2 x3 => ?_, fun y hy' => ?_⟩ ?_ ?_ ?_ ?_ (by omega) ⟨hm', h7⟩
              · rw [zu_A (by omega), zw_n x2, fmf x x1, zw_n x2]
                exact hf.1 x x1 x2 x3
              · rw [zu_A (by omega), zw_n (by omega), fmy y (by omega) (by omega)]
                exact hf.2 y hy'
              · rw [zu_A (by omega), zw_s]
              · rw [zz_uw, zw_s, zw_n (by omega), fmf _ (by omega), zw_n (by omega)]
              · rw [zu_A (by omega), zw_n (by omega), fmy _ (by omega) (by omega)]
              · rw [zu_A (by omega), zw_n (by omega), fmy _ (by omega) (by omega)]
            · rw [zz_be0] at h7
              rw [hm] at go
              simp (maxSteps := 5000000) (disch := first | assumption | omega) only [fmy, zu_s, zu_k, zr_131_0, zr_131_1, zr_131_2, zr_131_3, zr_131_4, zr_131_5, zr_131_6, zr_131_7, zr_131_8, zg_131_9, zp_131_9, zg_131_10, zp_131_10, zg_131_11, zp_131_11, zg_131_12, zp_131_12, zg_131_13, zp_131_13, zg_131_14, zp_131_14, zr_131_15, zg_131_16, zp_131_16, zg_131_17, zp_131_17, zr_131_18, zr_131_19, zr_131_20, zr_131_21, zr_131_22, zg_131_23, zp_131_23, zr_131_24, zg_131_25, zp_131_25, zg_131_26, zp_131_26, zr_131_27, zr_131_28, zg_131_29, zp_131_29, zg_131_30, zp_131_30, zr_131_31, zr_131_32, zr_131_33, zr_131_34, zr_131_35, zi_131, za_132, zs_132, zl_132, za_133, zs_133, zl_133, za_134, zs_134, zl_134, za_135, zs_135, zl_135, za_136, zs_136, zl_136, za_137, zs_137, zl_137, za_138, zs_138, zl_138, za_139, zs_139, zl_139, za_140, zs_140, zl_140, za_141, zs_141, zl_141, za_142, zs_142, zl_142, za_143, zs_143, zl_143, za_144, zs_144, zl_144, za_145, zs_145, zl_145, za_146, zs_146, zl_146, za_147, zs_147, zl_147, za_148, zs_148, zl_148, za_149, zs_149, zl_149, za_150, zs_150, zl_150, za_151, zs_151, zl_151, za_152, zs_152, zl_152, za_153, zs_153, zl_153, za_154, zs_154, zl_154, zz_0, zz_31, zz_add, zz_sub, zz_mul, zz_neg, zz_lt, zz_le, zz_eq, zz_div, zz_md, zz_dv, zz_abs, zz_max, zz_min, zz_nI, zz_be0, zz_be1, zz_zb, zz_z, zz_l0, zz_l, zz_lcmp, zo_rf, zo_nl, zo_nn, zo_rI, zo_rL, zo_rR, zo_rV, Int.add_zero, Int.zero_add, Int.mul_zero, Int.zero_mul, Int.one_mul, Int.mul_one, if_true, if_false, not_true_eq_false, not_false_eq_true]
              refine go _ ⟨fun x x1 x2 x3 => ?_, fun y hy' => ?_⟩ ?_ ?_ ?_ ?_ (by omega) (fun q => q.2 (Classical.not_not.mp h7))
              · rw [zu_A x1, zu_A x1, fmf x x1, zw_n x2]
                exact hf.1 x x1 x2 x3
              · rw [zu_k (by omega), zu_k (by omega), fmy y (by omega) (by omega)]
                exact hf.2 y hy'
              · rw [zu_A (by omega), zu_A (by omega), fmf _ (by omega), zw_s]
              · rw [zu_A (by omega), zu_A (by omega), fmf _ (by omega), zw_n (by omega)]
              · rw [zu_k (by omega), zu_s]
              · rw [zu_s]
        · refine zz_Er ⟨J', rfl, hf, hy, hA', hl, hsk _ (zz_dg_stop (by omega) hel ?_)⟩
          rw [kn]
          show J' 131 26 < _
          omega
  exact fun q hq => key _ q (Nat.lt_succ_self _) hq
end ZDI2
