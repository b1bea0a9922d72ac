/-! PURE LAYER, 10: digging -/
def zz_ov (A : Int → Int) (a : Int) : Prop := 0 ≤ A (24 + a) ∧ A (24 + a) < A (8 + a) ∧ zz_bit (A 6) a = 0
def zz_un (A : Int → Int) (a : Int) : Prop := 0 ≤ A (24 + a) ∧ A (8 + a) < A (24 + a) ∧ zz_bit (A 6) a = 0
/-- at the key k = 256 near + 16 a + b stands a pair that can be dug -/
def zz_el (A : Int → Int) (k : Int) : Prop := k / 16 % 16 < A 0 * A 1 ∧ k % 16 < A 0 * A 1 ∧ zz_nr (A 1) (k / 16 % 16) (k % 16) = k / 256 ∧ zz_ov A (k / 16 % 16) ∧ zz_un A (k % 16)
noncomputable def zz_dgf (must : Prop) : Nat → Int → (Int → Int) × Int × Int → Option ((Int → Int) × Int × Int)
  | 0, _, _ => none
  | f + 1, k, s => if 1792 ≤ k then some s else @ite _ (zz_el s.1 k) (Classical.propDecidable _) (if s.2.1 < 2 * (k / 256) then some s else @ite _ (must ∧ ¬ zz_ls (zz_mv s.1 (k / 16 % 16) (k % 16))) (Classical.propDecidable _) (zz_dgf must f (k + 1) s) (zz_dgf must f k (zz_mv s.1 (k / 16 % 16) (k % 16), s.2.1 - 2 * (k / 256), s.2.2 + 1))) (zz_dgf must f (k + 1) s)
def zz_dg (must : Prop) (k : Int) (s r : (Int → Int) × Int × Int) : Prop := ∃ f, zz_dgf must f k s = some r
section ZDG
variable {must : Prop} {k k' : Int} {s r r' : (Int → Int) × Int × Int}
theorem zz_dg_end (h : 1792 ≤ k) : zz_dg must k s s := ⟨1, if_pos h⟩
theorem zz_dg_skip (h : k < 1792) (h1 : ¬ zz_el s.1 k) (h2 : zz_dg must (k + 1) s r) : zz_dg must k s r := by
  obtain ⟨f, hf⟩ := h2
  refine ⟨f + 1, ?_⟩
  unfold zz_dgf
  rw [if_neg (by omega), if_neg h1]
  exact hf
theorem zz_dg_stop (h : k < 1792) (h1 : zz_el s.1 k) (h2 : s.2.1 < 2 * (k / 256)) : zz_dg must k s s := by
  refine ⟨1, ?_⟩
  unfold zz_dgf
  rw [if_neg (by omega), if_pos h1, if_pos h2]
theorem zz_dg_undo (h : k < 1792) (h1 : zz_el s.1 k) (h2 : ¬ s.2.1 < 2 * (k / 256)) (h3 : must ∧ ¬ zz_ls (zz_mv s.1 (k / 16 % 16) (k % 16))) (h4 : zz_dg must (k + 1) s r) : zz_dg must k s r := by
  obtain ⟨f, hf⟩ := h4
  refine ⟨f + 1, ?_⟩
  unfold zz_dgf
  rw [if_neg (by omega), if_pos h1, if_neg h2, if_pos h3]
  exact hf
theorem zz_dg_go (h : k < 1792) (h1 : zz_el s.1 k) (h2 : ¬ s.2.1 < 2 * (k / 256)) (h3 : ¬ (must ∧ ¬ zz_ls (zz_mv s.1 (k / 16 % 16) (k % 16)))) (h4 : zz_dg must k (zz_mv s.1 (k / 16 % 16) (k % 16), s.2.1 - 2 * (k / 256), s.2.2 + 1) r) : zz_dg must k s r := by
  obtain ⟨f, hf⟩ := h4
  refine ⟨f + 1, ?_⟩
  unfold zz_dgf
  rw [if_neg (by omega), if_pos h1, if_neg h2, if_neg h3]
  exact hf
theorem zz_dgf_u : ∀ (f f' : Nat) (k : Int) (s : (Int → Int) × Int × Int), zz_dgf must f k s = some r → zz_dgf must f' k s = some r' → r = r'
  | 0, _, _, _, h, _ => by cases h
  | _ + 1, 0, _, _, _, h => by cases h
  | f + 1, f' + 1, k, s, h, h' => by
    unfold zz_dgf at h h'
    split at h
    · rename_i q
      rw [if_pos q] at h'
      cases h
      cases h'
      rfl
    · rename_i q
      rw [if_neg q] at h'
      split at h
      · rename_i q1
        rw [if_pos q1] at h'
        split at h
        · rename_i q2
          rw [if_pos q2] at h'
          cases h
          cases h'
          rfl
        · rename_i q2
          rw [if_neg q2] at h'
          split at h
          · rename_i q3
            rw [if_pos q3] at h'
            exact zz_dgf_u f f' _ _ h h'
          · rename_i q3
            rw [if_neg q3] at h'
            exact zz_dgf_u f f' _ _ h h'
      · rename_i q1
        rw [if_neg q1] at h'
        exact zz_dgf_u f f' _ _ h h'
theorem zz_dg_u (h : zz_dg must k s r) (h' : zz_dg must k s r') : r = r' := by
  obtain ⟨f, hf⟩ := h
  obtain ⟨f', hf'⟩ := h'
  exact zz_dgf_u f f' k s hf hf'
theorem zz_dg_skips (h1 : k' ≤ 1792) (h2 : k ≤ k') (h3 : ∀ j, k ≤ j → j < k' → ¬ zz_el s.1 j) (h4 : zz_dg must k' s r) : zz_dg must k s r := by
  have key : ∀ (n : Nat) k, k + n = k' → (∀ j, k ≤ j → j < k' → ¬ zz_el s.1 j) → zz_dg must k s r := by
    intro n
    induction n with
    | zero => intro k e _; rw [show k = k' by omega]; exact h4
    | succ n ih => intro k e hj; exact zz_dg_skip (by omega) (hj k (by omega) (by omega)) (ih (k + 1) (by omega) (fun j j1 j2 => hj j (by omega) j2))
  exact key (k' - k).toNat k (by omega) h3
end ZDG
/-- heights and the map changed, the rest as it was -/
theorem zz_ok_h {Y : Int} {A A' : Int → Int} (h : zz_ok Y A) (h1 : ∀ y, y < 8 ∨ 40 ≤ y → A' y = A y) (h2 : ∀ c, 0 ≤ c → c < A 0 * A 1 → (0 ≤ A' (8 + c) ∧ A' (8 + c) ≤ 9) ∧ (A' (24 + c) = -4 ∨ 0 ≤ A' (24 + c) ∧ A' (24 + c) ≤ 9)) : zz_ok Y A' := by
  obtain ⟨q0, q1, q2, q3, q4, q5, q6, q7, q8⟩ := h
  have e : ∀ y, y < 8 ∨ 40 ≤ y → A' y = A y := h1
  refine ⟨?_, ?_, ?_, ?_, ?_, ?_, ?_, ?_, ?_⟩
  · rw [e 0 (by omega), e 1 (by omega)]; exact q0
  · rw [e 2 (by omega)]; exact q1
  · rw [e 3 (by omega)]; exact q2
  · rw [e 4 (by omega)]; exact q3
  · rw [e 0 (by omega), e 1 (by omega), e 5 (by omega)]; exact q4
  · rw [e 6 (by omega)]; exact q5
  · rw [e 7 (by omega)]; exact q6
  · rw [e 0 (by omega), e 1 (by omega)]; exact h2
  · rw [e 7 (by omega)]
    intro d d0 d1
    obtain ⟨p0, p1, p2, p3⟩ := q8 d d0 d1
    unfold zz_dok
    rw [e (40 + 15 * d) (by omega), e (41 + 15 * d) (by omega), e (42 + 15 * d) (by omega), e 0 (by omega), e 1 (by omega)]
    refine ⟨p0, p1, p2, fun w w0 w1 => ?_⟩
    rw [e (43 + 15 * d + 3 * w) (by omega), e (44 + 15 * d + 3 * w) (by omega), e (45 + 15 * d + 3 * w) (by omega)]
    exact p3 w w0 w1
theorem zz_mv_o {A : Int → Int} {a b y : Int} (h : y ≠ 8 + a) (h' : y ≠ 8 + b) : zz_mv A a b y = A y := by
  unfold zz_mv
  rw [if_neg h', if_neg h]
theorem zz_mv_a {A : Int → Int} {a b : Int} (h : a ≠ b) : zz_mv A a b (8 + a) = A (8 + a) - 1 := by
  unfold zz_mv
  rw [if_neg (by omega), if_pos rfl]
theorem zz_mv_b {A : Int → Int} {a b : Int} : zz_mv A a b (8 + b) = A (8 + b) + 1 := if_pos rfl
theorem zz_ok_mv {Y a b : Int} {A : Int → Int} (h : zz_ok Y A) (h0 : 0 ≤ a) (h1 : a < A 0 * A 1) (h2 : 0 ≤ b) (h3 : b < A 0 * A 1) (hn : a ≠ b) (h4 : 1 ≤ A (8 + a)) (h5 : A (8 + b) ≤ 8) : zz_ok Y (zz_mv A a b) := by
  have hn2 := h.n
  refine zz_ok_h h (fun y hy => zz_mv_o (by omega) (by omega)) (fun c c0 c1 => ?_)
  have hc := h.2.2.2.2.2.2.2.1 c c0 c1
  have hb := h.2.2.2.2.2.2.2.1 b h2 h3
  have ha := h.2.2.2.2.2.2.2.1 a h0 h1
  rw [zz_mv_o (y := 24 + c) (by omega) (by omega)]
  refine ⟨?_, hc.2⟩
  by_cases e1 : c = b
  · rw [e1, zz_mv_b]; omega
  · by_cases e2 : c = a
    · rw [e2, zz_mv_a hn]; omega
    · rw [zz_mv_o (by omega) (by omega)]; exact hc.1
section ZDIG
variable {T : List mv_T} {J : Nat → Int → Int} {R : Nat → Nat → Option Nat} {G : Nat → Nat → Int64} {d : Nat} {Y : Int}
def zz_can (A B : Int → Int) (a b : Int) : Prop := zz_ov A a ∧ zz_un A b ∧ B (16 * a + b) = 0
/-- the best of those that were looked at -/
def zz_bst (A B : Int → Int) (S : Int → Int → Prop) (q : Int × Int) : Prop := (q.1 = -4 ∧ ∀ a b, 0 ≤ a → a < A 0 * A 1 → 0 ≤ b → b < A 0 * A 1 → S a b → ¬ zz_can A B a b) ∨
  ∃ a0 b0, 0 ≤ a0 ∧ a0 < A 0 * A 1 ∧ 0 ≤ b0 ∧ b0 < A 0 * A 1 ∧ S a0 b0 ∧ q.1 = 16 * a0 + b0 ∧ q.2 = zz_nr (A 1) a0 b0 ∧ zz_can A B a0 b0 ∧ ∀ a b, 0 ≤ a → a < A 0 * A 1 → 0 ≤ b → b < A 0 * A 1 → S a b → zz_can A B a b → 256 * zz_nr (A 1) a0 b0 + (16 * a0 + b0) ≤ 256 * zz_nr (A 1) a b + (16 * a + b)
theorem r_179s (hL : ZL T R) (hA : zz_ok Y (J 132)) (hB : ∀ p, 0 ≤ p → p < 256 → J 148 p = 0 ∨ J 148 p = 1) (hd : 3 ≤ d) {mu : Int} {Q : Option mv_V × mv_S → Prop}
    (k : ∀ q : Int × Int, zz_bst (J 132) (J 148) (fun _ _ => True) q → zz_E (fun n => mv_run (mv_cax d) mm_179 n 160 [(0, .inr (.inr (some 131))), (1, .inl (mv_c mu)), (2, .inl (mv_c q.1)), (3, .inl (mv_c q.2)), (4, .inl (mv_c (J 132 0 * J 132 1)))] [] (zz_S T J R G)) Q) :
    zz_E (fun n => mv_run (mv_cax d) mm_179 n 160 [(0, .inr (.inr (some 131))), (1, .inl (mv_c mu)), (2, .inl (mv_c (-4))), (3, .inl (mv_c 0)), (4, .inl (mv_c 0))] [] (zz_S T J R G)) Q := by
  have hn := hA.n
  have h0 := hA.1
  have fr : ∀ (S : Int → Int → Prop) (q : Int × Int), zz_bst (J 132) (J 148) S q → (-4 ≤ q.1 ∧ q.1 < 256) ∧ (0 ≤ q.1 → 0 ≤ q.2 ∧ q.2 ≤ 6) := by
    intro S q h
    rcases h with ⟨e, _⟩ | ⟨a0, b0, p0, p1, p2, p3, p4, p5, p6, p7, p8⟩
    · omega
    · have := zz_nr_b h0.1 h0.2.1 h0.2.2.1 h0.2.2.2 p0 p1 p2 p3
      omega
  refine zz_loop (run := fun a q n => mv_run (mv_cax d) mm_179 n 160 [(0, .inr (.inr (some 131))), (1, .inl (mv_c mu)), (2, .inl (mv_c q.1)), (3, .inl (mv_c q.2)), (4, .inl (mv_c a))] [] (zz_S T J R G)) (J 132 0 * J 132 1) (fun a q => 0 ≤ a ∧ zz_bst (J 132) (J 148) (fun a' _ => a' < a) q) ?_ ?_ (J 132 0 * J 132 1).toNat 0 (-4, 0) (by omega) ⟨by omega, Or.inl ⟨rfl, fun a b a0 _ _ _ h => by omega⟩⟩
  · rintro a q ⟨ha, hq⟩ hlt kk
    refine zz_Es (fun n => e_179_160 _ _ _ _ _ _) ?_
    simp (maxSteps := 5000000) (disch := first | assumption | omega) only [r_135, zr_131_0, zr_131_1, zr_131_2, zr_131_3, zr_131_4, zr_131_5, zr_131_6, zr_131_7, zr_131_8, zg_131_9, zp_131_9, zg_131_10, zp_131_10, zg_131_11, zp_131_11, zg_131_12, zp_131_12, zg_131_13, zp_131_13, zg_131_14, zp_131_14, zr_131_15, zg_131_16, zp_131_16, zg_131_17, zp_131_17, zr_131_18, zr_131_19, zr_131_20, zr_131_21, zr_131_22, zg_131_23, zp_131_23, zr_131_24, zg_131_25, zp_131_25, zg_131_26, zp_131_26, zr_131_27, zr_131_28, zg_131_29, zp_131_29, zg_131_30, zp_131_30, zr_131_31, zr_131_32, zr_131_33, zr_131_34, zr_131_35, zi_131, za_132, zs_132, zl_132, za_133, zs_133, zl_133, za_134, zs_134, zl_134, za_135, zs_135, zl_135, za_136, zs_136, zl_136, za_137, zs_137, zl_137, za_138, zs_138, zl_138, za_139, zs_139, zl_139, za_140, zs_140, zl_140, za_141, zs_141, zl_141, za_142, zs_142, zl_142, za_143, zs_143, zl_143, za_144, zs_144, zl_144, za_145, zs_145, zl_145, za_146, zs_146, zl_146, za_147, zs_147, zl_147, za_148, zs_148, zl_148, za_149, zs_149, zl_149, za_150, zs_150, zl_150, za_151, zs_151, zl_151, za_152, zs_152, zl_152, za_153, zs_153, zl_153, za_154, zs_154, zl_154, zz_0, zz_31, zz_add, zz_sub, zz_mul, zz_neg, zz_lt, zz_le, zz_eq, zz_div, zz_md, zz_dv, zz_abs, zz_max, zz_min, zz_nI, zz_be0, zz_be1, zz_zb, zz_z, zz_l0, zz_l, zz_lcmp, zo_rf, zo_nl, zo_nn, zo_rI, zo_rL, zo_rR, zo_rV, Int.add_zero, Int.zero_add, Int.mul_zero, Int.zero_mul, Int.one_mul, Int.mul_one, if_true, if_false, not_true_eq_false, not_false_eq_true]
    refine zz_Ei (fun h => absurd h (by omega)) (fun _ => ?_)
    refine zz_loop (run := fun b q n => mv_run (mv_cax d) mm_179 n 172 [(0, .inr (.inr (some 131))), (1, .inl (mv_c mu)), (2, .inl (mv_c q.1)), (3, .inl (mv_c q.2)), (4, .inl (mv_c a)), (5, .inl (mv_c b))] [] (zz_S T J R G)) (J 132 0 * J 132 1) (fun b q => 0 ≤ b ∧ zz_bst (J 132) (J 148) (fun a' b' => a' < a ∨ a' = a ∧ b' < b) q) ?_ ?_ (J 132 0 * J 132 1).toNat 0 q (by omega) ⟨by omega, ?_⟩
    · clear hq q
      rintro b ⟨best, least⟩ ⟨hb, hq⟩ hbt kb
      have hfr := fr _ _ hq
      have hfr : (-4 ≤ best ∧ best < 256) ∧ (0 ≤ best → 0 ≤ least ∧ least ≤ 6) := hfr
      have hnr := zz_nr_b h0.1 h0.2.1 h0.2.2.1 h0.2.2.2 ha hlt hb hbt
      have hBp := hB (16 * a + b) (by omega) (by omega)
      refine zz_Es (fun n => e_179_172 _ _ _ _ _ _ _) ?_
      have stay : (¬ zz_can (J 132) (J 148) a b ∨ (0 ≤ best ∧ least ≤ zz_nr (J 132 1) a b)) → zz_E (fun n => mv_run (mv_cax d) mm_179 n 172 [(0, .inr (.inr (some 131))), (1, .inl (mv_c mu)), (2, .inl (mv_c best)), (3, .inl (mv_c least)), (4, .inl (mv_c a)), (5, .inl (mv_c (b + 1)))] [] (zz_S T J R G)) Q := by
        intro hs
        refine kb (best, least) ⟨by omega, ?_⟩
        rcases hq with ⟨e, hq⟩ | ⟨a0, b0, p0, p1, p2, p3, p4, p5, p6, p7, p8⟩
        · have e : best = -4 := e
          refine Or.inl ⟨e, fun a' b' r0 r1 r2 r3 r4 => ?_⟩
          by_cases q : a' = a ∧ b' = b
          · obtain ⟨rfl, rfl⟩ := q
            rcases hs with hs | hs
            · exact hs
            · omega
          · exact hq a' b' r0 r1 r2 r3 (by omega)
        · have p5 : best = 16 * a0 + b0 := p5
          have p6 : least = zz_nr (J 132 1) a0 b0 := p6
          refine Or.inr ⟨a0, b0, p0, p1, p2, p3, by omega, p5, p6, p7, fun a' b' r0 r1 r2 r3 r4 r5 => ?_⟩
          by_cases q : a' = a ∧ b' = b
          · obtain ⟨rfl, rfl⟩ := q
            rcases hs with hs | hs
            · exact absurd r5 hs
            · omega
          · exact p8 a' b' r0 r1 r2 r3 (by omega) r5
      have upd : zz_can (J 132) (J 148) a b → (best < 0 ∨ zz_nr (J 132 1) a b < least) → zz_E (fun n => mv_run (mv_cax d) mm_179 n 172 [(0, .inr (.inr (some 131))), (1, .inl (mv_c mu)), (2, .inl (mv_c (16 * a + b))), (3, .inl (mv_c (zz_nr (J 132 1) a b))), (4, .inl (mv_c a)), (5, .inl (mv_c (b + 1)))] [] (zz_S T J R G)) Q := by
        intro hc hs
        refine kb (16 * a + b, zz_nr (J 132 1) a b) ⟨by omega, Or.inr ⟨a, b, ha, hlt, hb, hbt, by omega, rfl, rfl, hc, fun a' b' r0 r1 r2 r3 r4 r5 => ?_⟩⟩
        by_cases q : a' = a ∧ b' = b
        · obtain ⟨rfl, rfl⟩ := q
          exact Int.le_refl _
        · rcases hq with ⟨e, hq⟩ | ⟨a0, b0, p0, p1, p2, p3, p4, p5, p6, p7, p8⟩
          · exact absurd r5 (hq a' b' r0 r1 r2 r3 (by omega))
          · have p5 : best = 16 * a0 + b0 := p5
            have p6 : least = zz_nr (J 132 1) a0 b0 := p6
            have := p8 a' b' r0 r1 r2 r3 (by omega) r5
            omega
      have can : zz_can (J 132) (J 148) a b ↔ ((0 ≤ J 132 (24 + a) ∧ J 132 (24 + a) < J 132 (8 + a) ∧ zz_bit (J 132 6) a = 0) ∧ (0 ≤ J 132 (24 + b) ∧ J 132 (8 + b) < J 132 (24 + b) ∧ zz_bit (J 132 6) b = 0) ∧ J 148 (16 * a + b) = 0) := Iff.rfl
      simp (maxSteps := 5000000) (disch := first | assumption | omega) only [r_135, r_177 (Y := Y), r_178 (Y := Y), r_143 (Y := Y), zr_131_0, zr_131_1, zr_131_2, zr_131_3, zr_131_4, zr_131_5, zr_131_6, zr_131_7, zr_131_8, zg_131_9, zp_131_9, zg_131_10, zp_131_10, zg_131_11, zp_131_11, zg_131_12, zp_131_12, zg_131_13, zp_131_13, zg_131_14, zp_131_14, zr_131_15, zg_131_16, zp_131_16, zg_131_17, zp_131_17, zr_131_18, zr_131_19, zr_131_20, zr_131_21, zr_131_22, zg_131_23, zp_131_23, zr_131_24, zg_131_25, zp_131_25, zg_131_26, zp_131_26, zr_131_27, zr_131_28, zg_131_29, zp_131_29, zg_131_30, zp_131_30, zr_131_31, zr_131_32, zr_131_33, zr_131_34, zr_131_35, zi_131, za_132, zs_132, zl_132, za_133, zs_133, zl_133, za_134, zs_134, zl_134, za_135, zs_135, zl_135, za_136, zs_136, zl_136, za_137, zs_137, zl_137, za_138, zs_138, zl_138, za_139, zs_139, zl_139, za_140, zs_140, zl_140, za_141, zs_141, zl_141, za_142, zs_142, zl_142, za_143, zs_143, zl_143, za_144, zs_144, zl_144, za_145, zs_145, zl_145, za_146, zs_146, zl_146, za_147, zs_147, zl_147, za_148, zs_148, zl_148, za_149, zs_149, zl_149, za_150, zs_150, zl_150, za_151, zs_151, zl_151, za_152, zs_152, zl_152, za_153, zs_153, zl_153, za_154, zs_154, zl_154, zz_0, zz_31, zz_add, zz_sub, zz_mul, zz_neg, zz_lt, zz_le, zz_eq, zz_div, zz_md, zz_dv, zz_abs, zz_max, zz_min, zz_nI, zz_be0, zz_be1, zz_zb, zz_z, zz_l0, zz_l, zz_lcmp, zo_rf, zo_nl, zo_nn, zo_rI, zo_rL, zo_rR, zo_rV, Int.add_zero, Int.zero_add, Int.mul_zero, Int.zero_mul, Int.one_mul, Int.mul_one, if_true, if_false, not_true_eq_false, not_false_eq_true]
      refine zz_Ei (fun h => absurd h (by omega)) (fun _ => ?_)
      refine zz_Ei (fun h => stay (Or.inl (fun q => h (can.mp q).1))) (fun h1 => ?_)
      refine zz_Ei (fun h => stay (Or.inl (fun q => h (can.mp q).2.1))) (fun h2 => ?_)
      refine zz_Ei (fun h3 => ?_) (fun h => stay (Or.inl (fun q => h (can.mp q).2.2)))
      have hc : zz_can (J 132) (J 148) a b := can.mpr ⟨Classical.not_not.mp h1, Classical.not_not.mp h2, h3⟩
      refine zz_Ei (fun h => ?_) (fun h4 => ?_)
      · exact upd hc (Or.inl h)
      · have hl := hfr.2 (by omega)
        refine zz_Ei (fun h => upd hc (Or.inr h)) (fun h => stay (Or.inr ⟨by omega, by omega⟩))
    · clear hq q
      rintro q ⟨_, hq⟩
      refine zz_Es (fun n => e_179_172 _ _ _ _ _ _ _) ?_
      simp (maxSteps := 5000000) (disch := first | assumption | omega) only [r_135, zr_131_0, zr_131_1, zr_131_2, zr_131_3, zr_131_4, zr_131_5, zr_131_6, zr_131_7, zr_131_8, zg_131_9, zp_131_9, zg_131_10, zp_131_10, zg_131_11, zp_131_11, zg_131_12, zp_131_12, zg_131_13, zp_131_13, zg_131_14, zp_131_14, zr_131_15, zg_131_16, zp_131_16, zg_131_17, zp_131_17, zr_131_18, zr_131_19, zr_131_20, zr_131_21, zr_131_22, zg_131_23, zp_131_23, zr_131_24, zg_131_25, zp_131_25, zg_131_26, zp_131_26, zr_131_27, zr_131_28, zg_131_29, zp_131_29, zg_131_30, zp_131_30, zr_131_31, zr_131_32, zr_131_33, zr_131_34, zr_131_35, zi_131, za_132, zs_132, zl_132, za_133, zs_133, zl_133, za_134, zs_134, zl_134, za_135, zs_135, zl_135, za_136, zs_136, zl_136, za_137, zs_137, zl_137, za_138, zs_138, zl_138, za_139, zs_139, zl_139, za_140, zs_140, zl_140, za_141, zs_141, zl_141, za_142, zs_142, zl_142, za_143, zs_143, zl_143, za_144, zs_144, zl_144, za_145, zs_145, zl_145, za_146, zs_146, zl_146, za_147, zs_147, zl_147, za_148, zs_148, zl_148, za_149, zs_149, zl_149, za_150, zs_150, zl_150, za_151, zs_151, zl_151, za_152, zs_152, zl_152, za_153, zs_153, zl_153, za_154, zs_154, zl_154, zz_0, zz_31, zz_add, zz_sub, zz_mul, zz_neg, zz_lt, zz_le, zz_eq, zz_div, zz_md, zz_dv, zz_abs, zz_max, zz_min, zz_nI, zz_be0, zz_be1, zz_zb, zz_z, zz_l0, zz_l, zz_lcmp, zo_rf, zo_nl, zo_nn, zo_rI, zo_rL, zo_rR, zo_rV, Int.add_zero, Int.zero_add, Int.mul_zero, Int.zero_mul, Int.one_mul, Int.mul_one, if_true, if_false, not_true_eq_false, not_false_eq_true]
      refine zz_Ei (fun _ => ?_) (fun h => absurd (Int.le_refl _) h)
      refine kk q ⟨by omega, ?_⟩
      rcases hq with ⟨e, hq⟩ | ⟨a0, b0, p0, p1, p2, p3, p4, p5, p6, p7, p8⟩
      · exact Or.inl ⟨e, fun a' b' r0 r1 r2 r3 r4 => hq a' b' r0 r1 r2 r3 (by omega)⟩
      · exact Or.inr ⟨a0, b0, p0, p1, p2, p3, by omega, p5, p6, p7, fun a' b' r0 r1 r2 r3 r4 => p8 a' b' r0 r1 r2 r3 (by omega)⟩
    · rcases hq with ⟨e, hq⟩ | ⟨a0, b0, p0, p1, p2, p3, p4, p5, p6, p7, p8⟩
      · exact Or.inl ⟨e, fun a' b' r0 r1 r2 r3 r4 => hq a' b' r0 r1 r2 r3 (by omega)⟩
      · exact Or.inr ⟨a0, b0, p0, p1, p2, p3, by omega, p5, p6, p7, fun a' b' r0 r1 r2 r3 r4 => p8 a' b' r0 r1 r2 r3 (by omega)⟩
  · rintro q ⟨_, hq⟩
    refine k q ?_
    rcases hq with ⟨e, hq⟩ | ⟨a0, b0, p0, p1, p2, p3, p4, p5, p6, p7, p8⟩
    · exact Or.inl ⟨e, fun a' b' r0 r1 r2 r3 r4 => hq a' b' r0 r1 r2 r3 r1⟩
    · exact Or.inr ⟨a0, b0, p0, p1, p2, p3, trivial, p5, p6, p7, fun a' b' r0 r1 r2 r3 r4 => p8 a' b' r0 r1 r2 r3 r1⟩
end ZDIG
