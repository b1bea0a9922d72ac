/-! PURE LAYER, 7: the reference finds a way -/
def zz_hi (ex : Int → Int) (n a : Int) : Prop := 0 ≤ a ∧ a < n ∧ 0 < ex a
noncomputable def zz_xr (ex : Int → Int) (n : Int) (B : Int → Int) : Int → Int → Int := fun a b => @ite _ (zz_hi ex n a ∧ 0 ≤ b ∧ b < n) (Classical.propDecidable _) (B (16 * a + b)) 0
def zl_u (B : Int → Int) : Int → Int := fun a => if a < 16 then B a else 0
def zl_v (B : Int → Int) : Int → Int := fun b => if 0 ≤ b then B (16 + b) else 0
def zz_pu (B : Int → Int) : Int → Int := fun a => if a < 16 then B a - 16 else 0
def zz_pv (B : Int → Int) : Int → Int := fun b => if 0 ≤ b then B (16 + b) else 0
def zz_dp (J : Nat → Int → Int) (D P : Int → Int) : Nat → Int → Int := zz_w (zz_w J 145 D) 146 P
def zz_w2 (C : Int) : Int → Int → Int := fun a b => 2 * zz_nr C a b
section ZWAYD
variable {J : Nat → Int → Int} {D P B ex : Int → Int} {a b k v n : Int} {x : Nat}
theorem zz_dp5 : zz_dp J D P 145 = D := by
  unfold zz_dp
  rw [zw_n (by omega), zw_s]
theorem zz_dp6 : zz_dp J D P 146 = P := zw_s
theorem zz_dpn (h : x ≠ 145) (h' : x ≠ 146) : zz_dp J D P x = J x := by
  unfold zz_dp
  rw [zw_n h', zw_n h]
theorem zz_dpu5 : zz_u (zz_dp J D P) 145 k v = zz_dp J (zz_f D k v) P := by
  rw [zz_uw, zz_dp5]
  unfold zz_dp
  funext x
  unfold zz_w
  by_cases h : x = 145
  · rw [if_pos h, h]; rfl
  · rw [if_neg h]
    by_cases h2 : x = 146
    · rw [if_pos h2, if_pos h2]
    · rw [if_neg h2, if_neg h2, if_neg h, if_neg h]
theorem zz_dpu6 : zz_u (zz_dp J D P) 146 k v = zz_dp J D (zz_f P k v) := by
  rw [zz_uw, zz_dp6]
  unfold zz_dp
  rw [zw_w]
theorem zl_v_f (h : 0 ≤ b) : zl_v (zz_f B (16 + b) v) = zz_f (zl_v B) b v := by
  funext y
  by_cases e : y = b
  · subst e
    rw [zf_s]
    show (if 0 ≤ y then zz_f B (16 + y) v (16 + y) else 0) = v
    rw [if_pos h, zf_s]
  · rw [zf_n e]
    show (if 0 ≤ y then zz_f B (16 + b) v (16 + y) else 0) = if 0 ≤ y then B (16 + y) else 0
    rw [zf_n (by omega)]
theorem zl_u_n (h : 0 ≤ b) : zl_u (zz_f B (16 + b) v) = zl_u B := by
  funext y
  unfold zl_u zz_f
  split
  · rw [if_neg (by omega)]
  · rfl
theorem zl_u_f (h : a < 16) : zl_u (zz_f B a v) = zz_f (zl_u B) a v := by
  funext y
  unfold zl_u zz_f
  by_cases e : y = a
  · rw [if_pos e, if_pos (by omega), if_pos e]
  · rw [if_neg e, if_neg e]
theorem zl_v_n (h : a < 16) : zl_v (zz_f B a v) = zl_v B := by
  funext y
  unfold zl_v zz_f
  split
  · rw [if_neg (by omega)]
  · rfl
theorem zz_pv_f (h : 0 ≤ b) : zz_pv (zz_f B (16 + b) v) = zz_f (zz_pv B) b v := zl_v_f h
theorem zz_pv_n (h : a < 16) : zz_pv (zz_f B a v) = zz_pv B := zl_v_n h
theorem zz_pu_n (h : 0 ≤ b) : zz_pu (zz_f B (16 + b) v) = zz_pu B := by
  funext y
  unfold zz_pu zz_f
  split
  · rw [if_neg (by omega)]
  · rfl
theorem zz_pu_f (h : a < 16) : zz_pu (zz_f B a (16 + b)) = zz_f (zz_pu B) a b := by
  funext y
  unfold zz_pu zz_f
  by_cases e : y = a
  · rw [if_pos e, if_pos (by omega), if_pos e]
    omega
  · rw [if_neg e, if_neg e]
theorem zz_xr_v (h : zz_hi ex n a) (h0 : 0 ≤ b) (h1 : b < n) : zz_xr ex n B a b = B (16 * a + b) := if_pos ⟨h, h0, h1⟩
theorem zz_xr_n (h : ¬ zz_hi ex n a) : zz_xr ex n B a = fun _ => 0 := by
  funext b
  exact if_neg (fun q => h q.1)
theorem zz_xr_u (h : zz_hi ex n a) (h0 : 0 ≤ b) (h1 : b < n) (hn : n ≤ 16) : zz_xr ex n (zz_f B (16 * a + b) v) = zz_u2 (zz_xr ex n B) a b v := by
  funext y z
  unfold zz_u2
  by_cases e : y = a ∧ z = b
  · obtain ⟨rfl, rfl⟩ := e
    rw [if_pos ⟨rfl, rfl⟩, zz_xr_v h h0 h1, zf_s]
  · rw [if_neg e]
    unfold zz_xr
    by_cases q : zz_hi ex n y ∧ 0 ≤ z ∧ z < n
    · rw [if_pos q, if_pos q, zf_n]
      intro r
      have := q.1.1
      have := h.1
      exact e (by omega)
    · rw [if_neg q, if_neg q]
end ZWAYD
section ZWAY
variable {T : List mv_T} {J : Nat → Int → Int} {R : Nat → Nat → Option Nat} {G : Nat → Nat → Int64} {d : Nat} {Y : Int} {ex u v : Int → Int}
/-- what the row of what is over and that of what is sent say -/
def zz_os (n : Int) (ex O B : Int → Int) : Prop := (∀ k, 0 ≤ k → k < n → (-200 ≤ O k ∧ O k ≤ 200) ∧ (zz_hi ex n k → 0 ≤ O k) ∧ (¬ zz_hi ex n k → O k ≤ 0)) ∧ ∀ a b, 0 ≤ a → a < n → 0 ≤ b → b < n → (0 ≤ B (16 * a + b) ∧ B (16 * a + b) ≤ 200) ∧ (¬ zz_hi ex n a → B (16 * a + b) = 0)
def zz_bfr (n C : Int) (ex O B u v D P : Int → Int) : Prop := zz_bf (zz_hi ex n) n (zz_w2 C) (zz_xr ex n B) (fun a => 0 < O a) u v (zl_u D) (zl_v D) (zz_pu P) (zz_pv P) ∧ (∀ a, 0 ≤ a → a < n → ¬ zz_hi ex n a → D a = 1000000) ∧ ∀ k, 0 ≤ k → k < 32 → (-4 ≤ P k ∧ P k ≤ 31) ∧ (k < 16 → P k < 0 ∨ 16 ≤ P k)
def zz_mu (n : Int) (D : Int → Int) : Int := zz_sum (fun k => D k + 400) n + zz_sum (fun k => D (16 + k) + 400) n
def zz_arc (n C : Int) (ex B D : Int → Int) (a b : Int) : Prop := zz_hi ex n a → (D a < 1000000 → D (16 + b) ≤ D a + zz_w2 C a b) ∧ (0 < B (16 * a + b) → D (16 + b) < 1000000 → D a ≤ D (16 + b) - zz_w2 C a b)
theorem zz_bfr_b {n C : Int} {O B D P : Int → Int} (h : zz_bfr n C ex O B u v D P) (hn : 0 ≤ n) (hn2 : n ≤ 16) (hp : zz_pot (zz_hi ex n) n 12 (zz_w2 C) (zz_xr ex n B) u v) : ∀ k, 0 ≤ k → k < n → (-192 ≤ D k ∧ D k ≤ 1000000) ∧ (-192 ≤ D (16 + k) ∧ D (16 + k) ≤ 1000000) := by
  intro k k0 k1
  have := zz_low (nl := n) (fun a ha => ⟨ha.1, ha.2.1⟩) (by omega) hp h.1
  have e1 := this.2 k k0 k1 hn
  have e2 : zl_v D k = D (16 + k) := if_pos k0
  rw [e2] at e1
  refine ⟨?_, by omega⟩
  by_cases q : zz_hi ex n k
  · have e3 := this.1 k q
    have e4 : zl_u D k = D k := if_pos (by omega)
    rw [e4] at e3
    omega
  · rw [h.2.1 k k0 k1 q]
    omega
theorem zz_mu_0 {n C : Int} {O B D P : Int → Int} (h : zz_bfr n C ex O B u v D P) (hn : 0 ≤ n) (hn2 : n ≤ 16) (hp : zz_pot (zz_hi ex n) n 12 (zz_w2 C) (zz_xr ex n B) u v) : 0 ≤ zz_mu n D := by
  have hb := zz_bfr_b h hn hn2 hp
  have e1 := zz_sum_b (f := fun k => D k + 400) (a := 0) (b := 1000400) hn (fun i i0 i1 => by have := hb i i0 i1; omega)
  have e2 := zz_sum_b (f := fun k => D (16 + k) + 400) (a := 0) (b := 1000400) hn (fun i i0 i1 => by have := hb i i0 i1; omega)
  unfold zz_mu
  omega
theorem zz_mu_v {n b v : Int} {D : Int → Int} (hn2 : n ≤ 16) (h0 : 0 ≤ b) (h1 : b < n) (h : v < D (16 + b)) : zz_mu n (zz_f D (16 + b) v) < zz_mu n D := by
  unfold zz_mu
  have e1 : zz_sum (fun k => zz_f D (16 + b) v k + 400) n = zz_sum (fun k => D k + 400) n := zz_sum_c (by omega) (fun i i0 i1 => by rw [zf_n (by omega)])
  have e2 := zz_sum_lt (f := fun k => zz_f D (16 + b) v (16 + k) + 400) (g := fun k => D (16 + k) + 400) (c := n) (k := b) (fun i i0 i1 => by
    show zz_f D (16 + b) v (16 + i) + 400 ≤ D (16 + i) + 400
    by_cases e : i = b
    · subst e; rw [zf_s]; omega
    · rw [zf_n (by omega)]; omega) h0 h1 (by show zz_f D (16 + b) v (16 + b) + 400 < _; rw [zf_s]; omega)
  omega
theorem zz_mu_u {n a v : Int} {D : Int → Int} (hn2 : n ≤ 16) (h0 : 0 ≤ a) (h1 : a < n) (h : v < D a) : zz_mu n (zz_f D a v) < zz_mu n D := by
  unfold zz_mu
  have e1 : zz_sum (fun k => zz_f D a v (16 + k) + 400) n = zz_sum (fun k => D (16 + k) + 400) n := zz_sum_c (by omega) (fun i i0 i1 => by rw [zf_n (by omega)])
  have e2 := zz_sum_lt (f := fun k => zz_f D a v k + 400) (g := fun k => D k + 400) (c := n) (k := a) (fun i i0 i1 => by
    show zz_f D a v i + 400 ≤ D i + 400
    by_cases e : i = a
    · subst e; rw [zf_s]; omega
    · rw [zf_n (by omega)]; omega) h0 h1 (by show zz_f D a v a + 400 < _; rw [zf_s]; omega)
  omega
/-- the pass, at the cells a, b: nothing changed and the arcs ahead are so, or the labels fell -/
def zz_pi (n C : Int) (ex O B u v D0 P0 : Int → Int) (arcs : Int → Int → Prop) (q : Int × (Int → Int) × (Int → Int)) : Prop := zz_bfr n C ex O B u v q.2.1 q.2.2 ∧ ((q.1 = 0 ∧ q.2.1 = D0 ∧ q.2.2 = P0 ∧ ∀ a b, 0 ≤ a → a < n → 0 ≤ b → b < n → arcs a b → zz_arc n C ex B D0 a b) ∨ (q.1 = 1 ∧ zz_mu n q.2.1 < zz_mu n D0))
theorem r_171p (hL : ZL T R) (hA : zz_ok Y (J 132)) (hO : zz_os (J 132 0 * J 132 1) ex (J 143) (J 144)) (hp : zz_pot (zz_hi ex (J 132 0 * J 132 1)) (J 132 0 * J 132 1) 12 (zz_w2 (J 132 1)) (zz_xr ex (J 132 0 * J 132 1) (J 144)) u v) (hd : 3 ≤ d) {Q : Option mv_V × mv_S → Prop} {D0 P0 : Int → Int} (h0 : zz_bfr (J 132 0 * J 132 1) (J 132 1) ex (J 143) (J 144) u v D0 P0)
    (k1 : ∀ D P, zz_bfr (J 132 0 * J 132 1) (J 132 1) ex (J 143) (J 144) u v D P → zz_mu (J 132 0 * J 132 1) D < zz_mu (J 132 0 * J 132 1) D0 → zz_E (fun n => mv_run (mv_cax d) mm_171 n 55 [(0, .inr (.inr (some 131))), (1, .inl (mv_c (J 132 0 * J 132 1))), (2, .inl (mv_c 1))] [] (zz_S T (zz_dp J D P) R G)) Q)
    (k2 : (∀ a b, 0 ≤ a → a < J 132 0 * J 132 1 → 0 ≤ b → b < J 132 0 * J 132 1 → zz_arc (J 132 0 * J 132 1) (J 132 1) ex (J 144) D0 a b) → zz_E (fun n => mv_run (mv_cax d) mm_171 n 55 [(0, .inr (.inr (some 131))), (1, .inl (mv_c (J 132 0 * J 132 1))), (2, .inl (mv_c 0))] [] (zz_S T (zz_dp J D0 P0) R G)) Q) :
    zz_E (fun n => mv_run (mv_cax d) mm_171 n 63 [(0, .inr (.inr (some 131))), (1, .inl (mv_c (J 132 0 * J 132 1))), (2, .inl (mv_c 0)), (3, .inl (mv_c 0))] [] (zz_S T (zz_dp J D0 P0) R G)) Q := by
  have hn := hA.n
  have hA1 := hA.1
  generalize hN : J 132 0 * J 132 1 = N at *
  generalize hC : J 132 1 = C at *
  refine zz_loop (run := fun a q n => mv_run (mv_cax d) mm_171 n 63 [(0, .inr (.inr (some 131))), (1, .inl (mv_c N)), (2, .inl (mv_c q.1)), (3, .inl (mv_c a))] [] (zz_S T (zz_dp J q.2.1 q.2.2) R G)) N (fun a q => 0 ≤ a ∧ zz_pi N C ex (J 143) (J 144) u v D0 P0 (fun a' b' => a' < a) q) ?_ ?_ N.toNat 0 (0, D0, P0) (by omega) ⟨by omega, h0, Or.inl ⟨rfl, rfl, rfl, fun a b _ _ _ _ q => by omega⟩⟩
  · rintro a q ⟨ha0, hq⟩ hlt kk
    refine zz_Es (fun n => e_171_63 _ _ _ _ _) ?_
    simp (maxSteps := 5000000) (disch := first | assumption | omega) only [zz_0, zz_31, zz_add, zz_sub, zz_mul, zz_neg, zz_lt, zz_le, zz_eq, zz_div, zz_md, zz_dv, zz_abs, zz_max, zz_min, zz_nI, zz_be0, zz_be1, zz_zb, zz_z, zz_l0, zz_l, zz_lcmp, zo_rf, zo_nl, zo_nn, zo_rI, zo_rL, zo_rR, zo_rV, Int.add_zero, Int.zero_add, Int.mul_zero, Int.zero_mul, Int.one_mul, Int.mul_one, if_true, if_false, not_true_eq_false, not_false_eq_true]
    refine zz_Ei (fun h => absurd h (by omega)) (fun _ => ?_)
    refine zz_loop (run := fun b q n => mv_run (mv_cax d) mm_171 n 71 [(0, .inr (.inr (some 131))), (1, .inl (mv_c N)), (2, .inl (mv_c q.1)), (3, .inl (mv_c a)), (4, .inl (mv_c b))] [] (zz_S T (zz_dp J q.2.1 q.2.2) R G)) N (fun b q => 0 ≤ b ∧ zz_pi N C ex (J 143) (J 144) u v D0 P0 (fun a' b' => a' < a ∨ a' = a ∧ b' < b) q) ?_ ?_ N.toNat 0 q (by omega) ⟨by omega, hq.1, ?_⟩
    · clear hq q
      rintro b ⟨more, D, P⟩ ⟨hb0, hbf, hq⟩ hbt kb
      have hbf : zz_bfr N C ex (J 143) (J 144) u v D P := hbf
      have hbb := zz_bfr_b hbf (by omega) (by omega) hp
      have ea := hbb a ha0 hlt
      have eb := hbb b hb0 hbt
      have hw := zz_nr_b hA1.1 hA1.2.1 hA1.2.2.1 hA1.2.2.2 ha0 (by omega) hb0 (by omega)
      have hs := hO.2 a b ha0 hlt hb0 hbt
      have hww : zz_w2 C a b = 2 * zz_nr C a b := rfl
      -- the second half
      have half : ∀ more D P, zz_bfr N C ex (J 143) (J 144) u v D P → ((more = 0 ∧ D = D0 ∧ P = P0 ∧ (∀ a' b', 0 ≤ a' → a' < N → 0 ≤ b' → b' < N → (a' < a ∨ a' = a ∧ b' < b) → zz_arc N C ex (J 144) D0 a' b') ∧ (zz_hi ex N a → D0 a < 1000000 → D0 (16 + b) ≤ D0 a + zz_w2 C a b)) ∨ (more = 1 ∧ zz_mu N D < zz_mu N D0)) → zz_E (fun n => mv_run (mv_cax d) mm_171 n 153 [(0, .inr (.inr (some 131))), (1, .inl (mv_c N)), (2, .inl (mv_c more)), (3, .inl (mv_c a)), (4, .inl (mv_c b)), (5, .inl (mv_c (2 * zz_nr C a b)))] [] (zz_S T (zz_dp J D P) R G)) Q := by
        clear hq hbf hbb ea eb
        intro more D P hbf hq
        have hbb := zz_bfr_b hbf (by omega) (by omega) hp
        have ea := hbb a ha0 hlt
        have eb := hbb b hb0 hbt
        refine zz_Es (fun n => e_171_153 _ _ _ _ _ _ _) ?_
        simp (maxSteps := 5000000) (disch := first | assumption | omega) only [zz_dp5, zz_dp6, zz_dpn, zz_dpu5, zz_dpu6, zr_131_0, zr_131_1, zr_131_2, zr_131_3, zr_131_4, zr_131_5, zr_131_6, zr_131_7, zr_131_8, zg_131_9, zp_131_9, zg_131_10, zp_131_10, zg_131_11, zp_131_11, zg_131_12, zp_131_12, zg_131_13, zp_131_13, zg_131_14, zp_131_14, zr_131_15, zg_131_16, zp_131_16, zg_131_17, zp_131_17, zr_131_18, zr_131_19, zr_131_20, zr_131_21, zr_131_22, zg_131_23, zp_131_23, zr_131_24, zg_131_25, zp_131_25, zg_131_26, zp_131_26, zr_131_27, zr_131_28, zg_131_29, zp_131_29, zg_131_30, zp_131_30, zr_131_31, zr_131_32, zr_131_33, zr_131_34, zr_131_35, zi_131, za_132, zs_132, zl_132, za_133, zs_133, zl_133, za_134, zs_134, zl_134, za_135, zs_135, zl_135, za_136, zs_136, zl_136, za_137, zs_137, zl_137, za_138, zs_138, zl_138, za_139, zs_139, zl_139, za_140, zs_140, zl_140, za_141, zs_141, zl_141, za_142, zs_142, zl_142, za_143, zs_143, zl_143, za_144, zs_144, zl_144, za_145, zs_145, zl_145, za_146, zs_146, zl_146, za_147, zs_147, zl_147, za_148, zs_148, zl_148, za_149, zs_149, zl_149, za_150, zs_150, zl_150, za_151, zs_151, zl_151, za_152, zs_152, zl_152, za_153, zs_153, zl_153, za_154, zs_154, zl_154, zz_0, zz_31, zz_add, zz_sub, zz_mul, zz_neg, zz_lt, zz_le, zz_eq, zz_div, zz_md, zz_dv, zz_abs, zz_max, zz_min, zz_nI, zz_be0, zz_be1, zz_zb, zz_z, zz_l0, zz_l, zz_lcmp, zo_rf, zo_nl, zo_nn, zo_rI, zo_rL, zo_rR, zo_rV, Int.add_zero, Int.zero_add, Int.mul_zero, Int.zero_mul, Int.one_mul, Int.mul_one, if_true, if_false, not_true_eq_false, not_false_eq_true]
        have go : (zz_hi ex N a → 0 < J 144 (16 * a + b) → D (16 + b) < 1000000 → D a ≤ D (16 + b) - zz_w2 C a b) → zz_E (fun n => mv_run (mv_cax d) mm_171 n 71 [(0, .inr (.inr (some 131))), (1, .inl (mv_c N)), (2, .inl (mv_c more)), (3, .inl (mv_c a)), (4, .inl (mv_c (b + 1)))] [] (zz_S T (zz_dp J D P) R G)) Q := by
          intro h2
          refine kb (more, D, P) ⟨by omega, hbf, ?_⟩
          rcases hq with ⟨q1, q2, q3, q4, q5⟩ | q
          · refine Or.inl ⟨q1, q2, q3, fun a' b' r0 r1 r2 r3 r4 => ?_⟩
            by_cases e : a' = a ∧ b' = b
            · obtain ⟨rfl, rfl⟩ := e
              subst q2
              exact fun hh => ⟨q5 hh, h2 hh⟩
            · exact q4 a' b' r0 r1 r2 r3 (by omega)
          · exact Or.inr q
        refine zz_Ei (fun h => go (fun _ _ _ => by omega)) (fun h1 => ?_)
        refine zz_Ei (fun h => go (fun _ _ _ => by omega)) (fun h2 => ?_)
        refine zz_Ei (fun h => go (fun _ _ _ => by omega)) (fun h3 => ?_)
        have hhi : zz_hi ex N a := Classical.byContradiction fun q => by have := hs.2 q; omega
        refine kb (1, zz_f D a (D (16 + b) - 2 * zz_nr C a b), zz_f P a (16 + b)) ⟨by omega, ⟨?_, ?_, ?_⟩, Or.inr ⟨rfl, ?_⟩⟩
        · have := zz_rb (fun a ha => ha.1) hp hbf.1 hhi hb0 hbt (by rw [zz_xr_v hhi hb0 hbt]; omega) (by show zl_v D b < _; unfold zl_v; rw [if_pos hb0]; omega) (by show zl_v D b - _ < zl_u D a; unfold zl_v zl_u; rw [if_pos hb0, if_pos (by omega)]; omega)
          rw [show zl_v D b = D (16 + b) from if_pos hb0] at this
          show zz_bf _ _ _ _ _ _ _ (zl_u (zz_f D a (D (16 + b) - 2 * zz_nr C a b))) (zl_v (zz_f D a (D (16 + b) - 2 * zz_nr C a b))) (zz_pu (zz_f P a (16 + b))) (zz_pv (zz_f P a (16 + b)))
          rw [zl_u_f (by omega), zl_v_n (by omega), zz_pu_f (by omega), zz_pv_n (by omega)]
          exact this
        · intro a' r0 r1 r2
          show zz_f D a _ a' = _
          rw [zf_n (fun e => r2 (by rw [e]; exact hhi))]
          exact hbf.2.1 a' r0 r1 r2
        · intro k r0 r1
          show (-4 ≤ zz_f P a (16 + b) k ∧ zz_f P a (16 + b) k ≤ 31) ∧ (k < 16 → zz_f P a (16 + b) k < 0 ∨ 16 ≤ zz_f P a (16 + b) k)
          by_cases e : k = a
          · rw [e, zf_s]; omega
          · rw [zf_n e]; exact hbf.2.2 k r0 r1
        · have := zz_mu_u (v := D (16 + b) - 2 * zz_nr C a b) (D := D) (n := N) (by omega) ha0 hlt (by omega)
          show zz_mu N (zz_f D a (D (16 + b) - 2 * zz_nr C a b)) < _
          rcases hq with ⟨q1, q2, q3, q4, q5⟩ | q
          · rw [← q2]; exact this
          · omega
      refine zz_Es (fun n => e_171_71 _ _ _ _ _ _) ?_
      have r143 := r_143 (T := T) (J := zz_dp J D P) (R := R) (G := G) (d := d) (Y := Y) (a := a) (b := b) (by omega) hL (by rw [zz_dpn (by omega) (by omega)]; exact hA) ha0 (by rw [zz_dpn (by omega) (by omega), hC, hN]; exact hlt) hb0 (by rw [zz_dpn (by omega) (by omega), hC, hN]; exact hbt)
      rw [zz_dpn (by omega) (by omega), hC] at r143
      simp (maxSteps := 5000000) (disch := first | assumption | omega) only [r143, zz_dp5, zz_dp6, zz_dpn, zz_dpu5, zz_dpu6, zr_131_0, zr_131_1, zr_131_2, zr_131_3, zr_131_4, zr_131_5, zr_131_6, zr_131_7, zr_131_8, zg_131_9, zp_131_9, zg_131_10, zp_131_10, zg_131_11, zp_131_11, zg_131_12, zp_131_12, zg_131_13, zp_131_13, zg_131_14, zp_131_14, zr_131_15, zg_131_16, zp_131_16, zg_131_17, zp_131_17, zr_131_18, zr_131_19, zr_131_20, zr_131_21, zr_131_22, zg_131_23, zp_131_23, zr_131_24, zg_131_25, zp_131_25, zg_131_26, zp_131_26, zr_131_27, zr_131_28, zg_131_29, zp_131_29, zg_131_30, zp_131_30, zr_131_31, zr_131_32, zr_131_33, zr_131_34, zr_131_35, zi_131, za_132, zs_132, zl_132, za_133, zs_133, zl_133, za_134, zs_134, zl_134, za_135, zs_135, zl_135, za_136, zs_136, zl_136, za_137, zs_137, zl_137, za_138, zs_138, zl_138, za_139, zs_139, zl_139, za_140, zs_140, zl_140, za_141, zs_141, zl_141, za_142, zs_142, zl_142, za_143, zs_143, zl_143, za_144, zs_144, zl_144, za_145, zs_145, zl_145, za_146, zs_146, zl_146, za_147, zs_147, zl_147, za_148, zs_148, zl_148, za_149, zs_149, zl_149, za_150, zs_150, zl_150, za_151, zs_151, zl_151, za_152, zs_152, zl_152, za_153, zs_153, zl_153, za_154, zs_154, zl_154, zz_0, zz_31, zz_add, zz_sub, zz_mul, zz_neg, zz_lt, zz_le, zz_eq, zz_div, zz_md, zz_dv, zz_abs, zz_max, zz_min, zz_nI, zz_be0, zz_be1, zz_zb, zz_z, zz_l0, zz_l, zz_lcmp, zo_rf, zo_nl, zo_nn, zo_rI, zo_rL, zo_rR, zo_rV, Int.add_zero, Int.zero_add, Int.mul_zero, Int.zero_mul, Int.one_mul, Int.mul_one, if_true, if_false, not_true_eq_false, not_false_eq_true]
      refine zz_Ei (fun h => absurd h (by omega)) (fun _ => ?_)
      refine zz_Ei (fun h => ?_) (fun h1 => ?_)
      · refine half more D P hbf ?_
        rcases hq with ⟨q1, q2, q3, q4⟩ | q
        · refine Or.inl ⟨q1, q2, q3, q4, fun _ r => ?_⟩
          have q2' : D = D0 := q2
          rw [q2'] at h ea eb
          omega
        · exact Or.inr q
      · refine zz_Ei (fun h => ?_) (fun h2 => ?_)
        · refine half more D P hbf ?_
          rcases hq with ⟨q1, q2, q3, q4⟩ | q
          · refine Or.inl ⟨q1, q2, q3, q4, fun _ r => ?_⟩
            have q2' : D = D0 := q2
            rw [q2'] at h ea eb
            omega
          · exact Or.inr q
        · have hhi : zz_hi ex N a := Classical.byContradiction fun q => by have := hbf.2.1 a ha0 hlt q; omega
          refine half 1 (zz_f D (16 + b) (D a + 2 * zz_nr C a b)) (zz_f P (16 + b) a) ⟨?_, ?_, ?_⟩ (Or.inr ⟨rfl, ?_⟩)
          · have := zz_rf (fun a ha => ha.1) hp hbf.1 hhi hb0 hbt (by show zl_u D a + _ < zl_v D b; unfold zl_v zl_u; rw [if_pos hb0, if_pos (by omega)]; omega)
            rw [show zl_u D a = D a from if_pos (by omega)] at this
            rw [zl_u_n hb0, zl_v_f hb0, zz_pu_n hb0, zz_pv_f hb0]
            exact this
          · intro a' r0 r1 r2
            rw [zf_n (by omega)]
            exact hbf.2.1 a' r0 r1 r2
          · intro k r0 r1
            by_cases e : k = 16 + b
            · rw [e, zf_s]; omega
            · rw [zf_n e]; exact hbf.2.2 k r0 r1
          · have := zz_mu_v (v := D a + 2 * zz_nr C a b) (D := D) (n := N) (by omega) hb0 hbt (by omega)
            rcases hq with ⟨q1, q2, q3, q4⟩ | q
            · have q2' : D = D0 := q2
              rw [← q2']; exact this
            · have q' : zz_mu N D < zz_mu N D0 := q.2
              omega
    · clear hq q
      rintro q ⟨_, hbf, hq⟩
      refine zz_Es (fun n => e_171_71 _ _ _ _ _ _) ?_
      simp (maxSteps := 5000000) (disch := first | assumption | omega) only [zz_0, zz_31, zz_add, zz_sub, zz_mul, zz_neg, zz_lt, zz_le, zz_eq, zz_div, zz_md, zz_dv, zz_abs, zz_max, zz_min, zz_nI, zz_be0, zz_be1, zz_zb, zz_z, zz_l0, zz_l, zz_lcmp, zo_rf, zo_nl, zo_nn, zo_rI, zo_rL, zo_rR, zo_rV, Int.add_zero, Int.zero_add, Int.mul_zero, Int.zero_mul, Int.one_mul, Int.mul_one, if_true, if_false, not_true_eq_false, not_false_eq_true]
      refine zz_Ei (fun _ => ?_) (fun h => absurd (Int.le_refl _) h)
      refine kk q ⟨by omega, hbf, ?_⟩
      rcases hq with ⟨q1, q2, q3, q4⟩ | q
      · exact Or.inl ⟨q1, q2, q3, fun a' b' r0 r1 r2 r3 r4 => q4 a' b' r0 r1 r2 r3 (by omega)⟩
      · exact Or.inr q
    · rcases hq.2 with ⟨q1, q2, q3, q4⟩ | q
      · exact Or.inl ⟨q1, q2, q3, fun a' b' r0 r1 r2 r3 r4 => q4 a' b' r0 r1 r2 r3 (by omega)⟩
      · exact Or.inr q
  · rintro ⟨more, D, P⟩ ⟨_, hbf, hq⟩
    refine zz_Es (fun n => e_171_63 _ _ _ _ _) ?_
    simp (maxSteps := 5000000) (disch := first | assumption | omega) only [zz_0, zz_31, zz_add, zz_sub, zz_mul, zz_neg, zz_lt, zz_le, zz_eq, zz_div, zz_md, zz_dv, zz_abs, zz_max, zz_min, zz_nI, zz_be0, zz_be1, zz_zb, zz_z, zz_l0, zz_l, zz_lcmp, zo_rf, zo_nl, zo_nn, zo_rI, zo_rL, zo_rR, zo_rV, Int.add_zero, Int.zero_add, Int.mul_zero, Int.zero_mul, Int.one_mul, Int.mul_one, if_true, if_false, not_true_eq_false, not_false_eq_true]
    refine zz_Ei (fun _ => ?_) (fun h => absurd (Int.le_refl _) h)
    rcases hq with ⟨q1, q2, q3, q4⟩ | ⟨q1, q2⟩
    · have q1' : more = 0 := q1
      have q2' : D = D0 := q2
      have q3' : P = P0 := q3
      subst q1' q2' q3'
      exact k2 (fun a b r0 r1 r2 r3 => q4 a b r0 r1 r2 r3 r1)
    · have q1' : more = 1 := q1
      subst q1'
      exact k1 D P hbf q2
theorem r_171 (hL : ZL T R) (hA : zz_ok Y (J 132)) (hO : zz_os (J 132 0 * J 132 1) ex (J 143) (J 144)) (hp : zz_pot (zz_hi ex (J 132 0 * J 132 1)) (J 132 0 * J 132 1) 12 (zz_w2 (J 132 1)) (zz_xr ex (J 132 0 * J 132 1) (J 144)) u v) (hd : 4 ≤ d) :
    ∃ best D P, mv_cax d 171 [.inr (.inr (some 131))] (zz_S T J R G) = some (some (.inl (mv_c best)), zz_S T (zz_dp J D P) R G) ∧ zz_bfr (J 132 0 * J 132 1) (J 132 1) ex (J 143) (J 144) u v D P ∧ (∀ a b, 0 ≤ a → a < J 132 0 * J 132 1 → 0 ≤ b → b < J 132 0 * J 132 1 → zz_arc (J 132 0 * J 132 1) (J 132 1) ex (J 144) D a b) ∧ ((best = -4 ∧ ∀ b, 0 ≤ b → b < J 132 0 * J 132 1 → 0 ≤ J 143 b ∨ 1000000 ≤ D (16 + b)) ∨ (0 ≤ best ∧ best < J 132 0 * J 132 1 ∧ J 143 best < 0 ∧ D (16 + best) < 1000000)) := by
  have hn := hA.n
  suffices h : ∃ r, mv_cax d 171 [.inr (.inr (some 131))] (zz_S T J R G) = some r ∧ ∃ best D P, r = (some (.inl (mv_c best)), zz_S T (zz_dp J D P) R G) ∧ zz_bfr (J 132 0 * J 132 1) (J 132 1) ex (J 143) (J 144) u v D P ∧ (∀ a b, 0 ≤ a → a < J 132 0 * J 132 1 → 0 ≤ b → b < J 132 0 * J 132 1 → zz_arc (J 132 0 * J 132 1) (J 132 1) ex (J 144) D a b) ∧ ((best = -4 ∧ ∀ b, 0 ≤ b → b < J 132 0 * J 132 1 → 0 ≤ J 143 b ∨ 1000000 ≤ D (16 + b)) ∨ (0 ≤ best ∧ best < J 132 0 * J 132 1 ∧ J 143 best < 0 ∧ D (16 + best) < 1000000)) by
    obtain ⟨r, h1, best, D, P, rfl, h2⟩ := h
    exact ⟨best, D, P, h1, h2⟩
  refine zz_call (by omega) t_171 rfl (fun n => e_171 _ _) ?_
  simp (maxSteps := 5000000) (disch := first | assumption | omega) only [r_135, zr_131_0, zr_131_1, zr_131_2, zr_131_3, zr_131_4, zr_131_5, zr_131_6, zr_131_7, zr_131_8, zg_131_9, zp_131_9, zg_131_10, zp_131_10, zg_131_11, zp_131_11, zg_131_12, zp_131_12, zg_131_13, zp_131_13, zg_131_14, zp_131_14, zr_131_15, zg_131_16, zp_131_16, zg_131_17, zp_131_17, zr_131_18, zr_131_19, zr_131_20, zr_131_21, zr_131_22, zg_131_23, zp_131_23, zr_131_24, zg_131_25, zp_131_25, zg_131_26, zp_131_26, zr_131_27, zr_131_28, zg_131_29, zp_131_29, zg_131_30, zp_131_30, zr_131_31, zr_131_32, zr_131_33, zr_131_34, zr_131_35, zi_131, za_132, zs_132, zl_132, za_133, zs_133, zl_133, za_134, zs_134, zl_134, za_135, zs_135, zl_135, za_136, zs_136, zl_136, za_137, zs_137, zl_137, za_138, zs_138, zl_138, za_139, zs_139, zl_139, za_140, zs_140, zl_140, za_141, zs_141, zl_141, za_142, zs_142, zl_142, za_143, zs_143, zl_143, za_144, zs_144, zl_144, za_145, zs_145, zl_145, za_146, zs_146, zl_146, za_147, zs_147, zl_147, za_148, zs_148, zl_148, za_149, zs_149, zl_149, za_150, zs_150, zl_150, za_151, zs_151, zl_151, za_152, zs_152, zl_152, za_153, zs_153, zl_153, za_154, zs_154, zl_154, zz_0, zz_31, zz_add, zz_sub, zz_mul, zz_neg, zz_lt, zz_le, zz_eq, zz_div, zz_md, zz_dv, zz_abs, zz_max, zz_min, zz_nI, zz_be0, zz_be1, zz_zb, zz_z, zz_l0, zz_l, zz_lcmp, zo_rf, zo_nl, zo_nn, zo_rI, zo_rL, zo_rR, zo_rV, Int.add_zero, Int.zero_add, Int.mul_zero, Int.zero_mul, Int.one_mul, Int.mul_one, if_true, if_false, not_true_eq_false, not_false_eq_true]
  have e0 : J = zz_dp J (J 145) (J 146) := by
    unfold zz_dp
    rw [zw_i, zw_i]
  have start : ∀ (Q : Option mv_V × mv_S → Prop), (∀ D P, zz_bfr (J 132 0 * J 132 1) (J 132 1) ex (J 143) (J 144) u v D P → zz_E (fun n => mv_run (mv_cax (d - 1)) mm_171 n 55 [(0, .inr (.inr (some 131))), (1, .inl (mv_c (J 132 0 * J 132 1))), (2, .inl (mv_c 1))] [] (zz_S T (zz_dp J D P) R G)) Q) → zz_E (fun n => mv_run (mv_cax (d - 1)) mm_171 n 7 [(0, .inr (.inr (some 131))), (1, .inl (mv_c (J 132 0 * J 132 1))), (2, .inl (mv_c 0))] [] (zz_S T J R G)) Q := by
    intro Q kq
    have := zz_loop (Q := Q) (run := fun k q n => mv_run (mv_cax (d - 1)) mm_171 n 7 [(0, .inr (.inr (some 131))), (1, .inl (mv_c (J 132 0 * J 132 1))), (2, .inl (mv_c k))] [] (zz_S T (zz_dp J q.1 q.2) R G)) 32 (fun k q => 0 ≤ k ∧ ∀ i, 0 ≤ i → i < k → q.2 i = -4 ∧ ((i < J 132 0 * J 132 1 ∧ 0 < J 143 i) → q.1 i = 0) ∧ (¬(i < J 132 0 * J 132 1 ∧ 0 < J 143 i) → q.1 i = 1000000)) ?_ ?_ 32 0 (J 145, J 146) (by omega) ⟨by omega, fun i h1 h2 => by omega⟩
    · rw [← e0] at this
      exact this
    · rintro k ⟨D, P⟩ ⟨hk, hq⟩ hlt kk
      have hq : ∀ i, 0 ≤ i → i < k → P i = -4 ∧ ((i < J 132 0 * J 132 1 ∧ 0 < J 143 i) → D i = 0) ∧ (¬(i < J 132 0 * J 132 1 ∧ 0 < J 143 i) → D i = 1000000) := hq
      refine zz_Es (fun n => e_171_7 _ _ _ _) ?_
      have fin : ∀ v, ((k < J 132 0 * J 132 1 ∧ 0 < J 143 k) → v = 0) → (¬(k < J 132 0 * J 132 1 ∧ 0 < J 143 k) → v = 1000000) → zz_E (fun n => mv_run (mv_cax (d - 1)) mm_171 n 7 [(0, .inr (.inr (some 131))), (1, .inl (mv_c (J 132 0 * J 132 1))), (2, .inl (mv_c (k + 1)))] [] (zz_S T (zz_dp J (zz_f D k v) (zz_f P k (-4))) R G)) Q := by
        intro v v1 v2
        refine kk (zz_f D k v, zz_f P k (-4)) ⟨by omega, fun i i0 i1 => ?_⟩
        show zz_f P k (-4) i = -4 ∧ (_ → zz_f D k v i = 0) ∧ (_ → zz_f D k v i = 1000000)
        by_cases e : i = k
        · subst e
          rw [zf_s, zf_s]
          exact ⟨rfl, v1, v2⟩
        · rw [zf_n e, zf_n e]
          exact hq i i0 (by omega)
      by_cases hkn : k < J 132 0 * J 132 1
      · have ho := hO.1 k hk hkn
        simp (maxSteps := 5000000) (disch := first | assumption | omega) only [zz_dp5, zz_dp6, zz_dpn, zz_dpu5, zz_dpu6, zr_131_0, zr_131_1, zr_131_2, zr_131_3, zr_131_4, zr_131_5, zr_131_6, zr_131_7, zr_131_8, zg_131_9, zp_131_9, zg_131_10, zp_131_10, zg_131_11, zp_131_11, zg_131_12, zp_131_12, zg_131_13, zp_131_13, zg_131_14, zp_131_14, zr_131_15, zg_131_16, zp_131_16, zg_131_17, zp_131_17, zr_131_18, zr_131_19, zr_131_20, zr_131_21, zr_131_22, zg_131_23, zp_131_23, zr_131_24, zg_131_25, zp_131_25, zg_131_26, zp_131_26, zr_131_27, zr_131_28, zg_131_29, zp_131_29, zg_131_30, zp_131_30, zr_131_31, zr_131_32, zr_131_33, zr_131_34, zr_131_35, zi_131, za_132, zs_132, zl_132, za_133, zs_133, zl_133, za_134, zs_134, zl_134, za_135, zs_135, zl_135, za_136, zs_136, zl_136, za_137, zs_137, zl_137, za_138, zs_138, zl_138, za_139, zs_139, zl_139, za_140, zs_140, zl_140, za_141, zs_141, zl_141, za_142, zs_142, zl_142, za_143, zs_143, zl_143, za_144, zs_144, zl_144, za_145, zs_145, zl_145, za_146, zs_146, zl_146, za_147, zs_147, zl_147, za_148, zs_148, zl_148, za_149, zs_149, zl_149, za_150, zs_150, zl_150, za_151, zs_151, zl_151, za_152, zs_152, zl_152, za_153, zs_153, zl_153, za_154, zs_154, zl_154, zz_0, zz_31, zz_add, zz_sub, zz_mul, zz_neg, zz_lt, zz_le, zz_eq, zz_div, zz_md, zz_dv, zz_abs, zz_max, zz_min, zz_nI, zz_be0, zz_be1, zz_zb, zz_z, zz_l0, zz_l, zz_lcmp, zo_rf, zo_nl, zo_nn, zo_rI, zo_rL, zo_rR, zo_rV, Int.add_zero, Int.zero_add, Int.mul_zero, Int.zero_mul, Int.one_mul, Int.mul_one, if_true, if_false, not_true_eq_false, not_false_eq_true]
        refine zz_Ei (fun h => absurd h (by omega)) (fun _ => ?_)
        refine zz_Ei (fun h => absurd h (by omega)) (fun _ => ?_)
        refine zz_Ei (fun h => fin _ (fun _ => by omega) (fun _ => rfl)) (fun h => fin _ (fun _ => rfl) (fun _ => by omega))
      · simp (maxSteps := 5000000) (disch := first | assumption | omega) only [zz_dp5, zz_dp6, zz_dpn, zz_dpu5, zz_dpu6, zr_131_0, zr_131_1, zr_131_2, zr_131_3, zr_131_4, zr_131_5, zr_131_6, zr_131_7, zr_131_8, zg_131_9, zp_131_9, zg_131_10, zp_131_10, zg_131_11, zp_131_11, zg_131_12, zp_131_12, zg_131_13, zp_131_13, zg_131_14, zp_131_14, zr_131_15, zg_131_16, zp_131_16, zg_131_17, zp_131_17, zr_131_18, zr_131_19, zr_131_20, zr_131_21, zr_131_22, zg_131_23, zp_131_23, zr_131_24, zg_131_25, zp_131_25, zg_131_26, zp_131_26, zr_131_27, zr_131_28, zg_131_29, zp_131_29, zg_131_30, zp_131_30, zr_131_31, zr_131_32, zr_131_33, zr_131_34, zr_131_35, zi_131, za_132, zs_132, zl_132, za_133, zs_133, zl_133, za_134, zs_134, zl_134, za_135, zs_135, zl_135, za_136, zs_136, zl_136, za_137, zs_137, zl_137, za_138, zs_138, zl_138, za_139, zs_139, zl_139, za_140, zs_140, zl_140, za_141, zs_141, zl_141, za_142, zs_142, zl_142, za_143, zs_143, zl_143, za_144, zs_144, zl_144, za_145, zs_145, zl_145, za_146, zs_146, zl_146, za_147, zs_147, zl_147, za_148, zs_148, zl_148, za_149, zs_149, zl_149, za_150, zs_150, zl_150, za_151, zs_151, zl_151, za_152, zs_152, zl_152, za_153, zs_153, zl_153, za_154, zs_154, zl_154, zz_0, zz_31, zz_add, zz_sub, zz_mul, zz_neg, zz_lt, zz_le, zz_eq, zz_div, zz_md, zz_dv, zz_abs, zz_max, zz_min, zz_nI, zz_be0, zz_be1, zz_zb, zz_z, zz_l0, zz_l, zz_lcmp, zo_rf, zo_nl, zo_nn, zo_rI, zo_rL, zo_rR, zo_rV, Int.add_zero, Int.zero_add, Int.mul_zero, Int.zero_mul, Int.one_mul, Int.mul_one, if_true, if_false, not_true_eq_false, not_false_eq_true]
        refine zz_Ei (fun h => absurd h (by omega)) (fun _ => ?_)
        refine zz_Ei (fun h => fin _ (fun _ => by omega) (fun _ => rfl)) (fun h => absurd (by omega) h)
    · rintro ⟨D, P⟩ ⟨_, hq⟩
      have hq : ∀ i, 0 ≤ i → i < 32 → P i = -4 ∧ ((i < J 132 0 * J 132 1 ∧ 0 < J 143 i) → D i = 0) ∧ (¬(i < J 132 0 * J 132 1 ∧ 0 < J 143 i) → D i = 1000000) := hq
      refine zz_Es (fun n => e_171_7 _ _ _ _) ?_
      simp (maxSteps := 5000000) (disch := first | assumption | omega) only [zz_dp5, zz_dp6, zz_dpn, zz_dpu5, zz_dpu6, zr_131_0, zr_131_1, zr_131_2, zr_131_3, zr_131_4, zr_131_5, zr_131_6, zr_131_7, zr_131_8, zg_131_9, zp_131_9, zg_131_10, zp_131_10, zg_131_11, zp_131_11, zg_131_12, zp_131_12, zg_131_13, zp_131_13, zg_131_14, zp_131_14, zr_131_15, zg_131_16, zp_131_16, zg_131_17, zp_131_17, zr_131_18, zr_131_19, zr_131_20, zr_131_21, zr_131_22, zg_131_23, zp_131_23, zr_131_24, zg_131_25, zp_131_25, zg_131_26, zp_131_26, zr_131_27, zr_131_28, zg_131_29, zp_131_29, zg_131_30, zp_131_30, zr_131_31, zr_131_32, zr_131_33, zr_131_34, zr_131_35, zi_131, za_132, zs_132, zl_132, za_133, zs_133, zl_133, za_134, zs_134, zl_134, za_135, zs_135, zl_135, za_136, zs_136, zl_136, za_137, zs_137, zl_137, za_138, zs_138, zl_138, za_139, zs_139, zl_139, za_140, zs_140, zl_140, za_141, zs_141, zl_141, za_142, zs_142, zl_142, za_143, zs_143, zl_143, za_144, zs_144, zl_144, za_145, zs_145, zl_145, za_146, zs_146, zl_146, za_147, zs_147, zl_147, za_148, zs_148, zl_148, za_149, zs_149, zl_149, za_150, zs_150, zl_150, za_151, zs_151, zl_151, za_152, zs_152, zl_152, za_153, zs_153, zl_153, za_154, zs_154, zl_154, zz_0, zz_31, zz_add, zz_sub, zz_mul, zz_neg, zz_lt, zz_le, zz_eq, zz_div, zz_md, zz_dv, zz_abs, zz_max, zz_min, zz_nI, zz_be0, zz_be1, zz_zb, zz_z, zz_l0, zz_l, zz_lcmp, zo_rf, zo_nl, zo_nn, zo_rI, zo_rL, zo_rR, zo_rV, Int.add_zero, Int.zero_add, Int.mul_zero, Int.zero_mul, Int.one_mul, Int.mul_one, if_true, if_false, not_true_eq_false, not_false_eq_true]
      refine zz_Ei (fun _ => ?_) (fun h => absurd (Int.le_refl _) h)
      refine kq D P ⟨zz_bf0 (fun a ha => ?_) (fun b b0 b1 => ?_), fun a a0 a1 a2 => ?_, fun k k0 k1 => ?_⟩
      · have := hq a ha.1 (by have := ha.2.1; omega)
        have h16 : a < 16 := by have := ha.2.1; omega
        show (_ → (if a < 16 then D a else 0) = 0) ∧ (_ → (if a < 16 then D a else 0) = 1000000) ∧ (if a < 16 then P a - 16 else 0) < 0
        rw [if_pos h16, if_pos h16]
        exact ⟨fun q => this.2.1 ⟨ha.2.1, q⟩, fun q => this.2.2 (fun q' => q q'.2), by omega⟩
      · have := hq (16 + b) (by omega) (by omega)
        show (if 0 ≤ b then D (16 + b) else 0) = 1000000 ∧ (if 0 ≤ b then P (16 + b) else 0) < 0
        rw [if_pos b0, if_pos b0]
        exact ⟨this.2.2 (by omega), by omega⟩
      · have := hq a a0 (by omega)
        have h3 := (hO.1 a a0 a1).2.2 a2
        exact this.2.2 (by omega)
      · have := hq k k0 k1
        omega
  refine start _ (fun D P hbf => ?_)
  refine zz_whil (run := fun q n => mv_run (mv_cax (d - 1)) mm_171 n 55 [(0, .inr (.inr (some 131))), (1, .inl (mv_c (J 132 0 * J 132 1))), (2, .inl (mv_c 1))] [] (zz_S T (zz_dp J q.1 q.2) R G)) (fun q => (zz_mu (J 132 0 * J 132 1) q.1).toNat) (fun q => zz_bfr (J 132 0 * J 132 1) (J 132 1) ex (J 143) (J 144) u v q.1 q.2) ?_ (D, P) hbf
  clear hbf D P
  rintro ⟨D, P⟩ hbf kw
  have hbf : zz_bfr (J 132 0 * J 132 1) (J 132 1) ex (J 143) (J 144) u v D P := hbf
  refine zz_Es (fun n => e_171_55 _ _ _ _) ?_
  simp (maxSteps := 5000000) (disch := first | assumption | omega) only [zz_0, zz_31, zz_add, zz_sub, zz_mul, zz_neg, zz_lt, zz_le, zz_eq, zz_div, zz_md, zz_dv, zz_abs, zz_max, zz_min, zz_nI, zz_be0, zz_be1, zz_zb, zz_z, zz_l0, zz_l, zz_lcmp, zo_rf, zo_nl, zo_nn, zo_rI, zo_rL, zo_rR, zo_rV, Int.add_zero, Int.zero_add, Int.mul_zero, Int.zero_mul, Int.one_mul, Int.mul_one, if_true, if_false, not_true_eq_false, not_false_eq_true]
  refine zz_Ei (fun h => absurd h (by omega)) (fun _ => ?_)
  refine r_171p hL hA hO hp (by omega) hbf (fun D' P' h1 h2 => ?_) (fun harc => ?_)
  · refine kw (D', P') h1 ?_
    have := zz_mu_0 h1 (by omega) (by omega) hp
    show (zz_mu _ D').toNat < (zz_mu _ D).toNat
    omega
  · refine zz_Es (fun n => e_171_55 _ _ _ _) ?_
    simp (maxSteps := 5000000) (disch := first | assumption | omega) only [zz_0, zz_31, zz_add, zz_sub, zz_mul, zz_neg, zz_lt, zz_le, zz_eq, zz_div, zz_md, zz_dv, zz_abs, zz_max, zz_min, zz_nI, zz_be0, zz_be1, zz_zb, zz_z, zz_l0, zz_l, zz_lcmp, zo_rf, zo_nl, zo_nn, zo_rI, zo_rL, zo_rR, zo_rV, Int.add_zero, Int.zero_add, Int.mul_zero, Int.zero_mul, Int.one_mul, Int.mul_one, if_true, if_false, not_true_eq_false, not_false_eq_true]
    have hbb := zz_bfr_b hbf (by omega) (by omega) hp
    refine zz_loop (run := fun b best n => mv_run (mv_cax (d - 1)) mm_171 n 258 [(0, .inr (.inr (some 131))), (1, .inl (mv_c (J 132 0 * J 132 1))), (3, .inl (mv_c best)), (4, .inl (mv_c b))] [] (zz_S T (zz_dp J D P) R G)) (J 132 0 * J 132 1) (fun b best => 0 ≤ b ∧ ((best = -4 ∧ ∀ i, 0 ≤ i → i < b → 0 ≤ J 143 i ∨ 1000000 ≤ D (16 + i)) ∨ (0 ≤ best ∧ best < b ∧ J 143 best < 0 ∧ D (16 + best) < 1000000))) ?_ ?_ (J 132 0 * J 132 1).toNat 0 (-4) (by omega) ⟨by omega, Or.inl ⟨rfl, fun i _ _ => by omega⟩⟩
    · rintro b best ⟨hb0, hbest⟩ hlt kk
      have ho := hO.1 b hb0 hlt
      have eb := hbb b hb0 hlt
      refine zz_Es (fun n => e_171_258 _ _ _ _ _) ?_
      have hbr : -4 ≤ best ∧ best < 16 := by omega
      have stay : (0 ≤ J 143 b ∨ 1000000 ≤ D (16 + b)) ∨ 0 ≤ best → zz_E (fun n => mv_run (mv_cax (d - 1)) mm_171 n 258 [(0, .inr (.inr (some 131))), (1, .inl (mv_c (J 132 0 * J 132 1))), (3, .inl (mv_c best)), (4, .inl (mv_c (b + 1)))] [] (zz_S T (zz_dp J D P) R G)) _ := fun hh => kk best ⟨by omega, by
        rcases hbest with ⟨q1, q2⟩ | q
        · refine Or.inl ⟨q1, fun i i0 i1 => ?_⟩
          by_cases e : i = b
          · subst e
            rcases hh with hh | hh
            · exact hh
            · omega
          · exact q2 i i0 (by omega)
        · exact Or.inr ⟨q.1, by omega, q.2.2.1, q.2.2.2⟩⟩
      simp (maxSteps := 5000000) (disch := first | assumption | omega) only [zz_dp5, zz_dp6, zz_dpn, zr_131_0, zr_131_1, zr_131_2, zr_131_3, zr_131_4, zr_131_5, zr_131_6, zr_131_7, zr_131_8, zg_131_9, zp_131_9, zg_131_10, zp_131_10, zg_131_11, zp_131_11, zg_131_12, zp_131_12, zg_131_13, zp_131_13, zg_131_14, zp_131_14, zr_131_15, zg_131_16, zp_131_16, zg_131_17, zp_131_17, zr_131_18, zr_131_19, zr_131_20, zr_131_21, zr_131_22, zg_131_23, zp_131_23, zr_131_24, zg_131_25, zp_131_25, zg_131_26, zp_131_26, zr_131_27, zr_131_28, zg_131_29, zp_131_29, zg_131_30, zp_131_30, zr_131_31, zr_131_32, zr_131_33, zr_131_34, zr_131_35, zi_131, za_132, zs_132, zl_132, za_133, zs_133, zl_133, za_134, zs_134, zl_134, za_135, zs_135, zl_135, za_136, zs_136, zl_136, za_137, zs_137, zl_137, za_138, zs_138, zl_138, za_139, zs_139, zl_139, za_140, zs_140, zl_140, za_141, zs_141, zl_141, za_142, zs_142, zl_142, za_143, zs_143, zl_143, za_144, zs_144, zl_144, za_145, zs_145, zl_145, za_146, zs_146, zl_146, za_147, zs_147, zl_147, za_148, zs_148, zl_148, za_149, zs_149, zl_149, za_150, zs_150, zl_150, za_151, zs_151, zl_151, za_152, zs_152, zl_152, za_153, zs_153, zl_153, za_154, zs_154, zl_154, zz_0, zz_31, zz_add, zz_sub, zz_mul, zz_neg, zz_lt, zz_le, zz_eq, zz_div, zz_md, zz_dv, zz_abs, zz_max, zz_min, zz_nI, zz_be0, zz_be1, zz_zb, zz_z, zz_l0, zz_l, zz_lcmp, zo_rf, zo_nl, zo_nn, zo_rI, zo_rL, zo_rR, zo_rV, Int.add_zero, Int.zero_add, Int.mul_zero, Int.zero_mul, Int.one_mul, Int.mul_one, if_true, if_false, not_true_eq_false, not_false_eq_true]
      refine zz_Ei (fun h => absurd h (by omega)) (fun _ => ?_)
      refine zz_Ei (fun h => stay (Or.inl (Or.inl h))) (fun h1 => ?_)
      refine zz_Ei (fun h => stay (Or.inl (Or.inr h))) (fun h2 => ?_)
      refine zz_Ei (fun h => ?_) (fun h3 => ?_)
      · exact kk b ⟨by omega, Or.inr ⟨hb0, by omega, by omega, by omega⟩⟩
      · have ec := hbb best (by omega) (by omega)
        simp (maxSteps := 5000000) (disch := first | assumption | omega) only [zz_dp5, zz_dp6, zz_dpn, zr_131_0, zr_131_1, zr_131_2, zr_131_3, zr_131_4, zr_131_5, zr_131_6, zr_131_7, zr_131_8, zg_131_9, zp_131_9, zg_131_10, zp_131_10, zg_131_11, zp_131_11, zg_131_12, zp_131_12, zg_131_13, zp_131_13, zg_131_14, zp_131_14, zr_131_15, zg_131_16, zp_131_16, zg_131_17, zp_131_17, zr_131_18, zr_131_19, zr_131_20, zr_131_21, zr_131_22, zg_131_23, zp_131_23, zr_131_24, zg_131_25, zp_131_25, zg_131_26, zp_131_26, zr_131_27, zr_131_28, zg_131_29, zp_131_29, zg_131_30, zp_131_30, zr_131_31, zr_131_32, zr_131_33, zr_131_34, zr_131_35, zi_131, za_132, zs_132, zl_132, za_133, zs_133, zl_133, za_134, zs_134, zl_134, za_135, zs_135, zl_135, za_136, zs_136, zl_136, za_137, zs_137, zl_137, za_138, zs_138, zl_138, za_139, zs_139, zl_139, za_140, zs_140, zl_140, za_141, zs_141, zl_141, za_142, zs_142, zl_142, za_143, zs_143, zl_143, za_144, zs_144, zl_144, za_145, zs_145, zl_145, za_146, zs_146, zl_146, za_147, zs_147, zl_147, za_148, zs_148, zl_148, za_149, zs_149, zl_149, za_150, zs_150, zl_150, za_151, zs_151, zl_151, za_152, zs_152, zl_152, za_153, zs_153, zl_153, za_154, zs_154, zl_154, zz_0, zz_31, zz_add, zz_sub, zz_mul, zz_neg, zz_lt, zz_le, zz_eq, zz_div, zz_md, zz_dv, zz_abs, zz_max, zz_min, zz_nI, zz_be0, zz_be1, zz_zb, zz_z, zz_l0, zz_l, zz_lcmp, zo_rf, zo_nl, zo_nn, zo_rI, zo_rL, zo_rR, zo_rV, Int.add_zero, Int.zero_add, Int.mul_zero, Int.zero_mul, Int.one_mul, Int.mul_one, if_true, if_false, not_true_eq_false, not_false_eq_true]
        refine zz_Ei (fun h => stay (Or.inr (by omega))) (fun h4 => ?_)
        exact kk b ⟨by omega, Or.inr ⟨hb0, by omega, by omega, by omega⟩⟩
    · rintro best ⟨_, hbest⟩
      refine zz_Es (fun n => e_171_258 _ _ _ _ _) ?_
      simp (maxSteps := 5000000) (disch := first | assumption | omega) only [zz_dp5, zz_dp6, zz_dpn, zr_131_0, zr_131_1, zr_131_2, zr_131_3, zr_131_4, zr_131_5, zr_131_6, zr_131_7, zr_131_8, zg_131_9, zp_131_9, zg_131_10, zp_131_10, zg_131_11, zp_131_11, zg_131_12, zp_131_12, zg_131_13, zp_131_13, zg_131_14, zp_131_14, zr_131_15, zg_131_16, zp_131_16, zg_131_17, zp_131_17, zr_131_18, zr_131_19, zr_131_20, zr_131_21, zr_131_22, zg_131_23, zp_131_23, zr_131_24, zg_131_25, zp_131_25, zg_131_26, zp_131_26, zr_131_27, zr_131_28, zg_131_29, zp_131_29, zg_131_30, zp_131_30, zr_131_31, zr_131_32, zr_131_33, zr_131_34, zr_131_35, zi_131, za_132, zs_132, zl_132, za_133, zs_133, zl_133, za_134, zs_134, zl_134, za_135, zs_135, zl_135, za_136, zs_136, zl_136, za_137, zs_137, zl_137, za_138, zs_138, zl_138, za_139, zs_139, zl_139, za_140, zs_140, zl_140, za_141, zs_141, zl_141, za_142, zs_142, zl_142, za_143, zs_143, zl_143, za_144, zs_144, zl_144, za_145, zs_145, zl_145, za_146, zs_146, zl_146, za_147, zs_147, zl_147, za_148, zs_148, zl_148, za_149, zs_149, zl_149, za_150, zs_150, zl_150, za_151, zs_151, zl_151, za_152, zs_152, zl_152, za_153, zs_153, zl_153, za_154, zs_154, zl_154, zz_0, zz_31, zz_add, zz_sub, zz_mul, zz_neg, zz_lt, zz_le, zz_eq, zz_div, zz_md, zz_dv, zz_abs, zz_max, zz_min, zz_nI, zz_be0, zz_be1, zz_zb, zz_z, zz_l0, zz_l, zz_lcmp, zo_rf, zo_nl, zo_nn, zo_rI, zo_rL, zo_rR, zo_rV, Int.add_zero, Int.zero_add, Int.mul_zero, Int.zero_mul, Int.one_mul, Int.mul_one, if_true, if_false, not_true_eq_false, not_false_eq_true]
      refine zz_Ei (fun _ => ?_) (fun h => absurd (Int.le_refl _) h)
      exact zz_Er ⟨best, D, P, rfl, hbf, harc, hbest⟩
end ZWAY
