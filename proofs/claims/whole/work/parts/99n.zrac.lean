/-! PURE LAYER, 93: texts: the reference does a statement (by program) -/
theorem zt_uw {J : Nat → Int → Int} {a : Nat} {k v : Int} : zz_u J a k v = zz_w J a (zz_f (J a) k v) := by
  funext x y
  unfold zz_u zz_w zz_f
  by_cases h : x = a
  · subst h
    rw [if_pos rfl]
    by_cases g : y = k
    · rw [if_pos ⟨rfl, g⟩, if_pos g]
    · rw [if_neg (fun q => g q.2), if_neg g]
  · rw [if_neg (fun q => h q.1), if_neg h]
section ZRAC
variable {T : List mv_T} {J : Nat → Int → Int} {R : Nat → Nat → Option Nat} {G : Nat → Nat → Int64} {d : Nat} {Y : Int}
theorem r_150_98 {a : Int} (hd : 3 ≤ d) (hL : ZL T R) (hA : zz_ok Y (J 134)) (v0 : J 141 0 = a) (ha : 0 ≤ a ∧ a ≤ 999) : (zt_act (J 134) 98 [a] = none ∧ ∃ O, mv_cax d 150 [.inr (.inr (some 131)), .inl (mv_c 98)] (zz_S T J R G) = some (some (.inl (mv_c 0)), zz_S T (zz_w J 134 O) R G)) ∨ ∃ A', zt_act (J 134) 98 [a] = some A' ∧ mv_cax d 150 [.inr (.inr (some 131)), .inl (mv_c 98)] (zz_S T J R G) = some (some (.inl (mv_c 1)), zz_S T (zz_w J 134 A') R G) := by
  have hN := hA.n
  have h7 := hA.2.2.2.2.2.2.1
  have h6 := hA.2.2.2.2.2.1
  rw [zt_a98]
  by_cases hcc : a < J 134 0 * J 134 1 ∧ zz_bit (J 134 6) a = 0
  · rw [if_pos hcc]
    right
    refine ⟨_, rfl, ?_⟩
    refine zz_c (zz_call (by omega) t_150 rfl (fun n => e_150 _ _ _) ?_)
    refine zz_Ec (fun n => by rw [zr_131_15 hL, zo_rf, za_141 hL (by omega) (by omega), zr_131_2 hL, zo_rf, za_134 hL (by omega) (by omega), zr_131_2 hL, zo_rf, za_134 hL (by omega) (by omega) , v0, zz_mul]) ?_
    refine zz_Ei (fun hge => ?_) (fun hlt => ?_)
    · rw [zz_le (by omega) (by omega) (by omega) (by omega)] at hge
      refine zz_Ei (fun _ => ?_) (fun h => absurd rfl h)
      refine zz_Es (fun n => e_150_153 _ _ _ _) ?_
      simp (maxSteps := 5000000) (disch := first | assumption | omega) only [zr_131_2, zr_131_15, zo_rf, za_134, zs_134, za_141, zz_add, zz_mul, zz_0, zz_31, zz_lt, zz_le, zz_z, zz_l, zz_l1, zo_rI, zi_131, r_134]
      exact absurd hcc.1 (by omega)
    · rw [zz_le (by omega) (by omega) (by omega) (by omega)] at hlt
      refine zz_Ei (fun _ => ?_) (fun h => absurd rfl h)
      refine zz_Es (fun n => e_150_153 _ _ _ _) ?_
      simp (maxSteps := 5000000) (disch := first | assumption | omega) only [zr_131_2, zr_131_15, zo_rf, za_134, zs_134, za_141, zz_add, zz_mul, zz_0, zz_31, zz_lt, zz_le, zz_z, zz_l, zz_l1, zo_rI, zi_131, r_134]
      try (refine zz_Ei (fun h => absurd (show (1 : Int) = 0 from h) (by omega)) (fun _ => ?_))
      simp (maxSteps := 5000000) (disch := first | assumption | omega) only [zz_sbit, zz_sor, hcc.2, zz_eq, zs_134, zz_z, zr_131_2, zo_rf, za_134]
      refine zz_Ei (fun h => absurd h (by omega)) (fun _ => ?_)
      exact zz_Er (by rw [zt_uw])
  · rw [if_neg hcc]
    left
    refine ⟨rfl, J 134, ?_⟩
    rw [zw_i]
    refine zz_c (zz_call (by omega) t_150 rfl (fun n => e_150 _ _ _) ?_)
    refine zz_Ec (fun n => by rw [zr_131_15 hL, zo_rf, za_141 hL (by omega) (by omega), zr_131_2 hL, zo_rf, za_134 hL (by omega) (by omega), zr_131_2 hL, zo_rf, za_134 hL (by omega) (by omega) , v0, zz_mul]) ?_
    refine zz_Ei (fun hge => ?_) (fun hlt => ?_)
    · rw [zz_le (by omega) (by omega) (by omega) (by omega)] at hge
      refine zz_Ei (fun _ => ?_) (fun h => absurd rfl h)
      refine zz_Es (fun n => e_150_153 _ _ _ _) ?_
      simp (maxSteps := 5000000) (disch := first | assumption | omega) only [zr_131_2, zr_131_15, zo_rf, za_134, zs_134, za_141, zz_add, zz_mul, zz_0, zz_31, zz_lt, zz_le, zz_z, zz_l, zz_l1, zo_rI, zi_131, r_134]
      try (refine zz_Ei (fun _ => ?_) (fun h => absurd rfl h))
      exact zz_Er rfl
    · rw [zz_le (by omega) (by omega) (by omega) (by omega)] at hlt
      refine zz_Ei (fun _ => ?_) (fun h => absurd rfl h)
      refine zz_Es (fun n => e_150_153 _ _ _ _) ?_
      simp (maxSteps := 5000000) (disch := first | assumption | omega) only [zr_131_2, zr_131_15, zo_rf, za_134, zs_134, za_141, zz_add, zz_mul, zz_0, zz_31, zz_lt, zz_le, zz_z, zz_l, zz_l1, zo_rI, zi_131, r_134]
      refine zz_Ei (fun h => absurd h (by decide)) (fun _ => ?_)
      rcases zz_bit01 (J 134 6) a with hb | hb
      · exact absurd ⟨by omega, hb⟩ hcc
      · simp (maxSteps := 5000000) (disch := first | assumption | omega) only [zz_sbit, hb]
        refine zz_Ei (fun _ => zz_Er rfl) (fun h => absurd trivial h)
theorem r_150_100 {a b : Int} (hd : 3 ≤ d) (hL : ZL T R) (hA : zz_ok Y (J 134)) (v0 : J 141 0 = a) (ha : 0 ≤ a ∧ a ≤ 9) (v1 : J 141 1 = b) (hb : 0 ≤ b ∧ b ≤ 9) : (zt_act (J 134) 100 [a, b] = none ∧ ∃ O, mv_cax d 150 [.inr (.inr (some 131)), .inl (mv_c 100)] (zz_S T J R G) = some (some (.inl (mv_c 0)), zz_S T (zz_w J 134 O) R G)) ∨ ∃ A', zt_act (J 134) 100 [a, b] = some A' ∧ mv_cax d 150 [.inr (.inr (some 131)), .inl (mv_c 100)] (zz_S T J R G) = some (some (.inl (mv_c 1)), zz_S T (zz_w J 134 A') R G) := by
  have hN := hA.n
  have h7 := hA.2.2.2.2.2.2.1
  have e : zz_u (zz_u (zz_u (zz_u J 134 (40 + 15 * J 134 7) a) 134 (40 + 15 * J 134 7 + 1) b) 134 (40 + 15 * J 134 7 + 2) 0) 134 7 (J 134 7 + 1) = zz_w J 134 (zt_ad (J 134) a b) := by
    unfold zt_ad
    rw [zt_uw (k := 40 + 15 * J 134 7), zz_wu, zz_wu, zz_wu, show 40 + 15 * J 134 7 + 1 = 41 + 15 * J 134 7 by omega, show 40 + 15 * J 134 7 + 2 = 42 + 15 * J 134 7 by omega]
  rw [zt_a100]
  by_cases hcc : a ≤ 7 ∧ J 134 7 < 6
  · rw [if_pos hcc]
    right
    refine ⟨_, rfl, ?_⟩
    refine zz_c (zz_call (by omega) t_150 rfl (fun n => e_150 _ _ _) ?_)
    refine zz_Ec (fun n => by rw [zr_131_15 hL, zo_rf, za_141 hL (by omega) (by omega), zr_131_2 hL, zo_rf, za_134 hL (by omega) (by omega), zr_131_2 hL, zo_rf, za_134 hL (by omega) (by omega) , v0, zz_mul]) ?_
    refine zz_Ei (fun hge => ?_) (fun hlt => ?_)
    · rw [zz_le (by omega) (by omega) (by omega) (by omega)] at hge
      iterate 2 (refine zz_Ei (fun h => absurd h (by decide)) (fun _ => ?_))
      refine zz_Ei (fun _ => ?_) (fun h => absurd rfl h)
      refine zz_Es (fun n => e_150_229 _ _ _) ?_
      simp (maxSteps := 5000000) (disch := first | assumption | omega) only [zr_131_2, zr_131_15, zo_rf, za_134, zs_134, za_141, zz_add, zz_mul, zz_0, zz_31, zz_lt, zz_le, zz_z, zz_l, zz_l1, zo_rI, zi_131, r_134]
      refine zz_Ei (fun h => absurd h (by omega)) (fun _ => ?_)
      simp (maxSteps := 5000000) (disch := first | assumption | omega) only [v1, zu_A, zu_k, zz_eq]
      refine zz_Ei (fun h => absurd h (by omega)) (fun _ => ?_)
      exact zz_Er (by rw [e])
    · rw [zz_le (by omega) (by omega) (by omega) (by omega)] at hlt
      iterate 2 (refine zz_Ei (fun h => absurd h (by decide)) (fun _ => ?_))
      refine zz_Ei (fun _ => ?_) (fun h => absurd rfl h)
      refine zz_Es (fun n => e_150_229 _ _ _) ?_
      simp (maxSteps := 5000000) (disch := first | assumption | omega) only [zr_131_2, zr_131_15, zo_rf, za_134, zs_134, za_141, zz_add, zz_mul, zz_0, zz_31, zz_lt, zz_le, zz_z, zz_l, zz_l1, zo_rI, zi_131, r_134]
      refine zz_Ei (fun h => absurd h (by omega)) (fun _ => ?_)
      simp (maxSteps := 5000000) (disch := first | assumption | omega) only [v1, zu_A, zu_k, zz_eq]
      refine zz_Ei (fun h => absurd h (by omega)) (fun _ => ?_)
      exact zz_Er (by rw [e])
  · rw [if_neg hcc]
    left
    refine ⟨rfl, J 134, ?_⟩
    rw [zw_i]
    refine zz_c (zz_call (by omega) t_150 rfl (fun n => e_150 _ _ _) ?_)
    refine zz_Ec (fun n => by rw [zr_131_15 hL, zo_rf, za_141 hL (by omega) (by omega), zr_131_2 hL, zo_rf, za_134 hL (by omega) (by omega), zr_131_2 hL, zo_rf, za_134 hL (by omega) (by omega) , v0, zz_mul]) ?_
    refine zz_Ei (fun hge => ?_) (fun hlt => ?_)
    · rw [zz_le (by omega) (by omega) (by omega) (by omega)] at hge
      iterate 2 (refine zz_Ei (fun h => absurd h (by decide)) (fun _ => ?_))
      refine zz_Ei (fun _ => ?_) (fun h => absurd rfl h)
      refine zz_Es (fun n => e_150_229 _ _ _) ?_
      simp (maxSteps := 5000000) (disch := first | assumption | omega) only [zr_131_2, zr_131_15, zo_rf, za_134, zs_134, za_141, zz_add, zz_mul, zz_0, zz_31, zz_lt, zz_le, zz_z, zz_l, zz_l1, zo_rI, zi_131, r_134]
      refine zz_Ei (fun _ => zz_Er rfl) (fun g => ?_)
      simp (maxSteps := 5000000) (disch := first | assumption | omega) only [zz_eq]
      refine zz_Ei (fun _ => zz_Er rfl) (fun h => absurd (by omega) hcc)
    · rw [zz_le (by omega) (by omega) (by omega) (by omega)] at hlt
      iterate 2 (refine zz_Ei (fun h => absurd h (by decide)) (fun _ => ?_))
      refine zz_Ei (fun _ => ?_) (fun h => absurd rfl h)
      refine zz_Es (fun n => e_150_229 _ _ _) ?_
      simp (maxSteps := 5000000) (disch := first | assumption | omega) only [zr_131_2, zr_131_15, zo_rf, za_134, zs_134, za_141, zz_add, zz_mul, zz_0, zz_31, zz_lt, zz_le, zz_z, zz_l, zz_l1, zo_rI, zi_131, r_134]
      refine zz_Ei (fun _ => zz_Er rfl) (fun g => ?_)
      simp (maxSteps := 5000000) (disch := first | assumption | omega) only [zz_eq]
      refine zz_Ei (fun _ => zz_Er rfl) (fun h => absurd (by omega) hcc)
theorem r_150_103 {a b : Int} (hd : 3 ≤ d) (hL : ZL T R) (hA : zz_ok Y (J 134)) (v0 : J 141 0 = a) (ha : 0 ≤ a ∧ a ≤ 999) (v1 : J 141 1 = b) (hb : 0 ≤ b ∧ b ≤ 9) : (zt_act (J 134) 103 [a, b] = none ∧ ∃ O, mv_cax d 150 [.inr (.inr (some 131)), .inl (mv_c 103)] (zz_S T J R G) = some (some (.inl (mv_c 0)), zz_S T (zz_w J 134 O) R G)) ∨ ∃ A', zt_act (J 134) 103 [a, b] = some A' ∧ mv_cax d 150 [.inr (.inr (some 131)), .inl (mv_c 103)] (zz_S T J R G) = some (some (.inl (mv_c 1)), zz_S T (zz_w J 134 A') R G) := by
  have hN := hA.n
  have h7 := hA.2.2.2.2.2.2.1
  rw [zt_a103]
  by_cases hcc : a < J 134 0 * J 134 1
  · rw [if_pos hcc]
    right
    refine ⟨_, rfl, ?_⟩
    refine zz_c (zz_call (by omega) t_150 rfl (fun n => e_150 _ _ _) ?_)
    refine zz_Ec (fun n => by rw [zr_131_15 hL, zo_rf, za_141 hL (by omega) (by omega), zr_131_2 hL, zo_rf, za_134 hL (by omega) (by omega), zr_131_2 hL, zo_rf, za_134 hL (by omega) (by omega) , v0, zz_mul]) ?_
    refine zz_Ei (fun hge => ?_) (fun hlt => ?_)
    · rw [zz_le (by omega) (by omega) (by omega) (by omega)] at hge
      iterate 5 (refine zz_Ei (fun h => absurd h (by decide)) (fun _ => ?_))
      refine zz_Ei (fun _ => ?_) (fun h => absurd rfl h)
      refine zz_Es (fun n => e_150_132 _ _ _ _) ?_
      simp (maxSteps := 5000000) (disch := first | assumption | omega) only [zr_131_2, zr_131_15, zo_rf, za_134, zs_134, za_141, zz_add, zz_mul, zz_0, zz_31, zz_lt, zz_le, zz_z, zz_l, zz_l1, zo_rI, zi_131, r_134]
      exact absurd hcc (by omega)
    · rw [zz_le (by omega) (by omega) (by omega) (by omega)] at hlt
      iterate 5 (refine zz_Ei (fun h => absurd h (by decide)) (fun _ => ?_))
      refine zz_Ei (fun _ => ?_) (fun h => absurd rfl h)
      refine zz_Es (fun n => e_150_132 _ _ _ _) ?_
      simp (maxSteps := 5000000) (disch := first | assumption | omega) only [zr_131_2, zr_131_15, zo_rf, za_134, zs_134, za_141, zz_add, zz_mul, zz_0, zz_31, zz_lt, zz_le, zz_z, zz_l, zz_l1, zo_rI, zi_131, r_134]
      try (refine zz_Ei (fun h => absurd (show (1 : Int) = 0 from h) (by omega)) (fun _ => ?_))
      simp (maxSteps := 5000000) (disch := first | assumption | omega) only [v1]
      exact zz_Er (by rw [zt_uw])
  · rw [if_neg hcc]
    left
    refine ⟨rfl, J 134, ?_⟩
    rw [zw_i]
    refine zz_c (zz_call (by omega) t_150 rfl (fun n => e_150 _ _ _) ?_)
    refine zz_Ec (fun n => by rw [zr_131_15 hL, zo_rf, za_141 hL (by omega) (by omega), zr_131_2 hL, zo_rf, za_134 hL (by omega) (by omega), zr_131_2 hL, zo_rf, za_134 hL (by omega) (by omega) , v0, zz_mul]) ?_
    refine zz_Ei (fun hge => ?_) (fun hlt => ?_)
    · rw [zz_le (by omega) (by omega) (by omega) (by omega)] at hge
      iterate 5 (refine zz_Ei (fun h => absurd h (by decide)) (fun _ => ?_))
      refine zz_Ei (fun _ => ?_) (fun h => absurd rfl h)
      refine zz_Es (fun n => e_150_132 _ _ _ _) ?_
      simp (maxSteps := 5000000) (disch := first | assumption | omega) only [zr_131_2, zr_131_15, zo_rf, za_134, zs_134, za_141, zz_add, zz_mul, zz_0, zz_31, zz_lt, zz_le, zz_z, zz_l, zz_l1, zo_rI, zi_131, r_134]
      try (refine zz_Ei (fun _ => ?_) (fun h => absurd rfl h))
      exact zz_Er rfl
    · rw [zz_le (by omega) (by omega) (by omega) (by omega)] at hlt
      iterate 5 (refine zz_Ei (fun h => absurd h (by decide)) (fun _ => ?_))
      refine zz_Ei (fun _ => ?_) (fun h => absurd rfl h)
      refine zz_Es (fun n => e_150_132 _ _ _ _) ?_
      simp (maxSteps := 5000000) (disch := first | assumption | omega) only [zr_131_2, zr_131_15, zo_rf, za_134, zs_134, za_141, zz_add, zz_mul, zz_0, zz_31, zz_lt, zz_le, zz_z, zz_l, zz_l1, zo_rI, zi_131, r_134]
      exact absurd (by omega) hcc
theorem r_150_108 {a : Int} (hd : 3 ≤ d) (hL : ZL T R) (hA : zz_ok Y (J 134)) (v0 : J 141 0 = a) (ha : 0 ≤ a ∧ a ≤ 9) : (zt_act (J 134) 108 [a] = none ∧ ∃ O, mv_cax d 150 [.inr (.inr (some 131)), .inl (mv_c 108)] (zz_S T J R G) = some (some (.inl (mv_c 0)), zz_S T (zz_w J 134 O) R G)) ∨ ∃ A', zt_act (J 134) 108 [a] = some A' ∧ mv_cax d 150 [.inr (.inr (some 131)), .inl (mv_c 108)] (zz_S T J R G) = some (some (.inl (mv_c 1)), zz_S T (zz_w J 134 A') R G) := by
  have hN := hA.n
  have h7 := hA.2.2.2.2.2.2.1
  rw [zt_a108]
  by_cases hcc : a ≤ 2
  · rw [if_pos hcc]
    right
    refine ⟨_, rfl, ?_⟩
    refine zz_c (zz_call (by omega) t_150 rfl (fun n => e_150 _ _ _) ?_)
    refine zz_Ec (fun n => by rw [zr_131_15 hL, zo_rf, za_141 hL (by omega) (by omega), zr_131_2 hL, zo_rf, za_134 hL (by omega) (by omega), zr_131_2 hL, zo_rf, za_134 hL (by omega) (by omega) , v0, zz_mul]) ?_
    refine zz_Ei (fun hge => ?_) (fun hlt => ?_)
    · rw [zz_le (by omega) (by omega) (by omega) (by omega)] at hge
      iterate 10 (refine zz_Ei (fun h => absurd h (by decide)) (fun _ => ?_))
      refine zz_Ei (fun _ => ?_) (fun h => absurd rfl h)
      refine zz_Es (fun n => e_150_211 _ _ _) ?_
      simp (maxSteps := 5000000) (disch := first | assumption | omega) only [zr_131_2, zr_131_15, zo_rf, za_134, zs_134, za_141, zz_add, zz_mul, zz_0, zz_31, zz_lt, zz_le, zz_z, zz_l, zz_l1, zo_rI, zi_131, r_134]
      refine zz_Ei (fun h => absurd h (by omega)) (fun _ => ?_)
      exact zz_Er (by rw [zt_uw])
    · rw [zz_le (by omega) (by omega) (by omega) (by omega)] at hlt
      iterate 10 (refine zz_Ei (fun h => absurd h (by decide)) (fun _ => ?_))
      refine zz_Ei (fun _ => ?_) (fun h => absurd rfl h)
      refine zz_Es (fun n => e_150_211 _ _ _) ?_
      simp (maxSteps := 5000000) (disch := first | assumption | omega) only [zr_131_2, zr_131_15, zo_rf, za_134, zs_134, za_141, zz_add, zz_mul, zz_0, zz_31, zz_lt, zz_le, zz_z, zz_l, zz_l1, zo_rI, zi_131, r_134]
      refine zz_Ei (fun h => absurd h (by omega)) (fun _ => ?_)
      exact zz_Er (by rw [zt_uw])
  · rw [if_neg hcc]
    left
    refine ⟨rfl, zz_f (J 134) 3 a, ?_⟩
    refine zz_c (zz_call (by omega) t_150 rfl (fun n => e_150 _ _ _) ?_)
    refine zz_Ec (fun n => by rw [zr_131_15 hL, zo_rf, za_141 hL (by omega) (by omega), zr_131_2 hL, zo_rf, za_134 hL (by omega) (by omega), zr_131_2 hL, zo_rf, za_134 hL (by omega) (by omega) , v0, zz_mul]) ?_
    refine zz_Ei (fun hge => ?_) (fun hlt => ?_)
    · rw [zz_le (by omega) (by omega) (by omega) (by omega)] at hge
      iterate 10 (refine zz_Ei (fun h => absurd h (by decide)) (fun _ => ?_))
      refine zz_Ei (fun _ => ?_) (fun h => absurd rfl h)
      refine zz_Es (fun n => e_150_211 _ _ _) ?_
      simp (maxSteps := 5000000) (disch := first | assumption | omega) only [zr_131_2, zr_131_15, zo_rf, za_134, zs_134, za_141, zz_add, zz_mul, zz_0, zz_31, zz_lt, zz_le, zz_z, zz_l, zz_l1, zo_rI, zi_131, r_134]
      refine zz_Ei (fun _ => ?_) (fun h => absurd (by omega) h)
      exact zz_Er (by rw [zt_uw])
    · rw [zz_le (by omega) (by omega) (by omega) (by omega)] at hlt
      iterate 10 (refine zz_Ei (fun h => absurd h (by decide)) (fun _ => ?_))
      refine zz_Ei (fun _ => ?_) (fun h => absurd rfl h)
      refine zz_Es (fun n => e_150_211 _ _ _) ?_
      simp (maxSteps := 5000000) (disch := first | assumption | omega) only [zr_131_2, zr_131_15, zo_rf, za_134, zs_134, za_141, zz_add, zz_mul, zz_0, zz_31, zz_lt, zz_le, zz_z, zz_l, zz_l1, zo_rI, zi_131, r_134]
      refine zz_Ei (fun _ => ?_) (fun h => absurd (by omega) h)
      exact zz_Er (by rw [zt_uw])
theorem r_150_113 {a : Int} (hd : 3 ≤ d) (hL : ZL T R) (hA : zz_ok Y (J 134)) (v0 : J 141 0 = a) (ha : 0 ≤ a ∧ a ≤ 999) : (zt_act (J 134) 113 [a] = none ∧ ∃ O, mv_cax d 150 [.inr (.inr (some 131)), .inl (mv_c 113)] (zz_S T J R G) = some (some (.inl (mv_c 0)), zz_S T (zz_w J 134 O) R G)) ∨ ∃ A', zt_act (J 134) 113 [a] = some A' ∧ mv_cax d 150 [.inr (.inr (some 131)), .inl (mv_c 113)] (zz_S T J R G) = some (some (.inl (mv_c 1)), zz_S T (zz_w J 134 A') R G) := by
  have hN := hA.n
  have h7 := hA.2.2.2.2.2.2.1
  rw [zt_a113]
  by_cases hcc : a < J 134 0 * J 134 1
  · rw [if_pos hcc]
    right
    refine ⟨_, rfl, ?_⟩
    refine zz_c (zz_call (by omega) t_150 rfl (fun n => e_150 _ _ _) ?_)
    refine zz_Ec (fun n => by rw [zr_131_15 hL, zo_rf, za_141 hL (by omega) (by omega), zr_131_2 hL, zo_rf, za_134 hL (by omega) (by omega), zr_131_2 hL, zo_rf, za_134 hL (by omega) (by omega) , v0, zz_mul]) ?_
    refine zz_Ei (fun hge => ?_) (fun hlt => ?_)
    · rw [zz_le (by omega) (by omega) (by omega) (by omega)] at hge
      iterate 15 (refine zz_Ei (fun h => absurd h (by decide)) (fun _ => ?_))
      refine zz_Ei (fun _ => ?_) (fun h => absurd rfl h)
      refine zz_Es (fun n => e_150_189 _ _ _ _) ?_
      simp (maxSteps := 5000000) (disch := first | assumption | omega) only [zr_131_2, zr_131_15, zo_rf, za_134, zs_134, za_141, zz_add, zz_mul, zz_0, zz_31, zz_lt, zz_le, zz_z, zz_l, zz_l1, zo_rI, zi_131, r_134]
      exact absurd hcc (by omega)
    · rw [zz_le (by omega) (by omega) (by omega) (by omega)] at hlt
      iterate 15 (refine zz_Ei (fun h => absurd h (by decide)) (fun _ => ?_))
      refine zz_Ei (fun _ => ?_) (fun h => absurd rfl h)
      refine zz_Es (fun n => e_150_189 _ _ _ _) ?_
      simp (maxSteps := 5000000) (disch := first | assumption | omega) only [zr_131_2, zr_131_15, zo_rf, za_134, zs_134, za_141, zz_add, zz_mul, zz_0, zz_31, zz_lt, zz_le, zz_z, zz_l, zz_l1, zo_rI, zi_131, r_134]
      try (refine zz_Ei (fun h => absurd (show (1 : Int) = 0 from h) (by omega)) (fun _ => ?_))
      exact zz_Er (by rw [zt_uw])
  · rw [if_neg hcc]
    left
    refine ⟨rfl, J 134, ?_⟩
    rw [zw_i]
    refine zz_c (zz_call (by omega) t_150 rfl (fun n => e_150 _ _ _) ?_)
    refine zz_Ec (fun n => by rw [zr_131_15 hL, zo_rf, za_141 hL (by omega) (by omega), zr_131_2 hL, zo_rf, za_134 hL (by omega) (by omega), zr_131_2 hL, zo_rf, za_134 hL (by omega) (by omega) , v0, zz_mul]) ?_
    refine zz_Ei (fun hge => ?_) (fun hlt => ?_)
    · rw [zz_le (by omega) (by omega) (by omega) (by omega)] at hge
      iterate 15 (refine zz_Ei (fun h => absurd h (by decide)) (fun _ => ?_))
      refine zz_Ei (fun _ => ?_) (fun h => absurd rfl h)
      refine zz_Es (fun n => e_150_189 _ _ _ _) ?_
      simp (maxSteps := 5000000) (disch := first | assumption | omega) only [zr_131_2, zr_131_15, zo_rf, za_134, zs_134, za_141, zz_add, zz_mul, zz_0, zz_31, zz_lt, zz_le, zz_z, zz_l, zz_l1, zo_rI, zi_131, r_134]
      try (refine zz_Ei (fun _ => ?_) (fun h => absurd rfl h))
      exact zz_Er rfl
    · rw [zz_le (by omega) (by omega) (by omega) (by omega)] at hlt
      iterate 15 (refine zz_Ei (fun h => absurd h (by decide)) (fun _ => ?_))
      refine zz_Ei (fun _ => ?_) (fun h => absurd rfl h)
      refine zz_Es (fun n => e_150_189 _ _ _ _) ?_
      simp (maxSteps := 5000000) (disch := first | assumption | omega) only [zr_131_2, zr_131_15, zo_rf, za_134, zs_134, za_141, zz_add, zz_mul, zz_0, zz_31, zz_lt, zz_le, zz_z, zz_l, zz_l1, zo_rI, zi_131, r_134]
      exact absurd (by omega) hcc
theorem r_150_115 {a b : Int} (hd : 3 ≤ d) (hL : ZL T R) (hA : zz_ok Y (J 134)) (v0 : J 141 0 = a) (ha : 0 ≤ a ∧ a ≤ 9) (v1 : J 141 1 = b) (hb : 0 ≤ b ∧ b ≤ 9) : (zt_act (J 134) 115 [a, b] = none ∧ ∃ O, mv_cax d 150 [.inr (.inr (some 131)), .inl (mv_c 115)] (zz_S T J R G) = some (some (.inl (mv_c 0)), zz_S T (zz_w J 134 O) R G)) ∨ ∃ A', zt_act (J 134) 115 [a, b] = some A' ∧ mv_cax d 150 [.inr (.inr (some 131)), .inl (mv_c 115)] (zz_S T J R G) = some (some (.inl (mv_c 1)), zz_S T (zz_w J 134 A') R G) := by
  have hN := hA.n
  have h7 := hA.2.2.2.2.2.2.1
  have k0 := r_149 (T := T) (G := G) (d := d - 1) (r := a) (c := b) (by omega) hL hA ⟨ha.1, by omega⟩ ⟨hb.1, by omega⟩
  rw [zt_a115]
  by_cases hcc : ((2 ≤ a ∧ a ≤ 4) ∧ 2 ≤ b ∧ b ≤ 4) ∧ J 134 7 ≤ 0
  · rw [if_pos hcc]
    have k := k0
    rw [if_pos hcc, if_pos hcc] at k
    right
    refine ⟨_, rfl, ?_⟩
    refine zz_c (zz_call (by omega) t_150 rfl (fun n => e_150 _ _ _) ?_)
    refine zz_Ec (fun n => by rw [zr_131_15 hL, zo_rf, za_141 hL (by omega) (by omega), zr_131_2 hL, zo_rf, za_134 hL (by omega) (by omega), zr_131_2 hL, zo_rf, za_134 hL (by omega) (by omega) , v0, zz_mul]) ?_
    refine zz_Ei (fun hge => ?_) (fun hlt => ?_)
    · rw [zz_le (by omega) (by omega) (by omega) (by omega)] at hge
      iterate 17 (refine zz_Ei (fun h => absurd h (by decide)) (fun _ => ?_))
      refine zz_Ei (fun _ => ?_) (fun h => absurd rfl h)
      refine zz_Es (fun n => e_150_120 _ _ _) ?_
      simp (maxSteps := 5000000) (disch := first | assumption | omega) only [v1, k, zr_131_2, zr_131_15, zo_rf, za_134, zs_134, za_141, zz_add, zz_mul, zz_0, zz_31, zz_lt, zz_le, zz_z, zz_l, zz_l1, zo_rI, zi_131, r_134]
      exact zz_Er rfl
    · rw [zz_le (by omega) (by omega) (by omega) (by omega)] at hlt
      iterate 17 (refine zz_Ei (fun h => absurd h (by decide)) (fun _ => ?_))
      refine zz_Ei (fun _ => ?_) (fun h => absurd rfl h)
      refine zz_Es (fun n => e_150_120 _ _ _) ?_
      simp (maxSteps := 5000000) (disch := first | assumption | omega) only [v1, k, zr_131_2, zr_131_15, zo_rf, za_134, zs_134, za_141, zz_add, zz_mul, zz_0, zz_31, zz_lt, zz_le, zz_z, zz_l, zz_l1, zo_rI, zi_131, r_134]
      exact zz_Er rfl
  · rw [if_neg hcc]
    have k := k0
    rw [if_neg hcc, if_neg hcc] at k
    left
    refine ⟨rfl, J 134, ?_⟩
    rw [zw_i]
    refine zz_c (zz_call (by omega) t_150 rfl (fun n => e_150 _ _ _) ?_)
    refine zz_Ec (fun n => by rw [zr_131_15 hL, zo_rf, za_141 hL (by omega) (by omega), zr_131_2 hL, zo_rf, za_134 hL (by omega) (by omega), zr_131_2 hL, zo_rf, za_134 hL (by omega) (by omega) , v0, zz_mul]) ?_
    refine zz_Ei (fun hge => ?_) (fun hlt => ?_)
    · rw [zz_le (by omega) (by omega) (by omega) (by omega)] at hge
      iterate 17 (refine zz_Ei (fun h => absurd h (by decide)) (fun _ => ?_))
      refine zz_Ei (fun _ => ?_) (fun h => absurd rfl h)
      refine zz_Es (fun n => e_150_120 _ _ _) ?_
      simp (maxSteps := 5000000) (disch := first | assumption | omega) only [v1, k, zr_131_2, zr_131_15, zo_rf, za_134, zs_134, za_141, zz_add, zz_mul, zz_0, zz_31, zz_lt, zz_le, zz_z, zz_l, zz_l1, zo_rI, zi_131, r_134]
      exact zz_Er rfl
    · rw [zz_le (by omega) (by omega) (by omega) (by omega)] at hlt
      iterate 17 (refine zz_Ei (fun h => absurd h (by decide)) (fun _ => ?_))
      refine zz_Ei (fun _ => ?_) (fun h => absurd rfl h)
      refine zz_Es (fun n => e_150_120 _ _ _) ?_
      simp (maxSteps := 5000000) (disch := first | assumption | omega) only [v1, k, zr_131_2, zr_131_15, zo_rf, za_134, zs_134, za_141, zz_add, zz_mul, zz_0, zz_31, zz_lt, zz_le, zz_z, zz_l, zz_l1, zo_rI, zi_131, r_134]
      exact zz_Er rfl
theorem r_150_116 {a : Int} (hd : 3 ≤ d) (hL : ZL T R) (hA : zz_ok Y (J 134)) (v0 : J 141 0 = a) (ha : 0 ≤ a ∧ a ≤ 999) : (zt_act (J 134) 116 [a] = none ∧ ∃ O, mv_cax d 150 [.inr (.inr (some 131)), .inl (mv_c 116)] (zz_S T J R G) = some (some (.inl (mv_c 0)), zz_S T (zz_w J 134 O) R G)) ∨ ∃ A', zt_act (J 134) 116 [a] = some A' ∧ mv_cax d 150 [.inr (.inr (some 131)), .inl (mv_c 116)] (zz_S T J R G) = some (some (.inl (mv_c 1)), zz_S T (zz_w J 134 A') R G) := by
  have hN := hA.n
  have h7 := hA.2.2.2.2.2.2.1
  rw [zt_a116]
  right
  refine ⟨_, rfl, ?_⟩
  refine zz_c (zz_call (by omega) t_150 rfl (fun n => e_150 _ _ _) ?_)
  refine zz_Ec (fun n => by rw [zr_131_15 hL, zo_rf, za_141 hL (by omega) (by omega), zr_131_2 hL, zo_rf, za_134 hL (by omega) (by omega), zr_131_2 hL, zo_rf, za_134 hL (by omega) (by omega) , v0, zz_mul]) ?_
  refine zz_Ei (fun hge => ?_) (fun hlt => ?_)
  · rw [zz_le (by omega) (by omega) (by omega) (by omega)] at hge
    iterate 18 (refine zz_Ei (fun h => absurd h (by decide)) (fun _ => ?_))
    refine zz_Ei (fun _ => ?_) (fun h => absurd rfl h)
    refine zz_Es (fun n => e_150_202 _ _ _) ?_
    simp (maxSteps := 5000000) (disch := first | assumption | omega) only [zr_131_2, zr_131_15, zo_rf, za_134, zs_134, za_141, zz_add, zz_mul, zz_0, zz_31, zz_lt, zz_le, zz_z, zz_l, zz_l1, zo_rI, zi_131, r_134]
    exact zz_Er (by rw [zt_uw])
  · rw [zz_le (by omega) (by omega) (by omega) (by omega)] at hlt
    iterate 18 (refine zz_Ei (fun h => absurd h (by decide)) (fun _ => ?_))
    refine zz_Ei (fun _ => ?_) (fun h => absurd rfl h)
    refine zz_Es (fun n => e_150_202 _ _ _) ?_
    simp (maxSteps := 5000000) (disch := first | assumption | omega) only [zr_131_2, zr_131_15, zo_rf, za_134, zs_134, za_141, zz_add, zz_mul, zz_0, zz_31, zz_lt, zz_le, zz_z, zz_l, zz_l1, zo_rI, zi_131, r_134]
    exact zz_Er (by rw [zt_uw])
theorem r_150_119 {a b c e : Int} (hd : 3 ≤ d) (hL : ZL T R) (hA : zz_ok Y (J 134)) (v0 : J 141 0 = a) (ha : 0 ≤ a ∧ a ≤ 9) (v1 : J 141 1 = b) (hb : 0 ≤ b ∧ b ≤ 999) (v2 : J 141 2 = c) (hc : 0 ≤ c ∧ c ≤ 9) (v3 : J 141 3 = e) (he : 0 ≤ e ∧ e ≤ 999) : (zt_act (J 134) 119 [a, b, c, e] = none ∧ ∃ O, mv_cax d 150 [.inr (.inr (some 131)), .inl (mv_c 119)] (zz_S T J R G) = some (some (.inl (mv_c 0)), zz_S T (zz_w J 134 O) R G)) ∨ ∃ A', zt_act (J 134) 119 [a, b, c, e] = some A' ∧ mv_cax d 150 [.inr (.inr (some 131)), .inl (mv_c 119)] (zz_S T J R G) = some (some (.inl (mv_c 1)), zz_S T (zz_w J 134 A') R G) := by
  have hN := hA.n
  have h7 := hA.2.2.2.2.2.2.1
  rw [zt_a119]
  by_cases hcc : (a < J 134 7 ∧ b < J 134 0 * J 134 1) ∧ (1 ≤ e ∧ e ≤ 99) ∧ J 134 (42 + 15 * a) < 4
  · rw [if_pos hcc]
    have hm := (hA.2.2.2.2.2.2.2.2 a ha.1 hcc.1.1).2.2.1
    have i42 : 40 + 15 * a + 2 = 42 + 15 * a := by omega
    obtain ⟨n', hn⟩ : ∃ n, J 134 (42 + 15 * a) = n := ⟨_, rfl⟩
    have ee : zz_w J 134 (zt_aw (J 134) a b c e) = zz_u (zz_u (zz_u (zz_u J 134 (40 + 15 * a + 3 + 3 * n' + 0) (J 141 (1 + 0))) 134 (40 + 15 * a + 3 + 3 * n' + (0 + 1)) (J 141 (1 + (0 + 1)))) 134 (40 + 15 * a + 3 + 3 * n' + (0 + 1 + 1)) (J 141 (1 + (0 + 1 + 1)))) 134 (42 + 15 * a) (n' + 1) := by
      unfold zt_aw
      rw [hn, show J 141 (1 + 0) = b from v1, show J 141 (1 + (0 + 1)) = c from v2, show J 141 (1 + (0 + 1 + 1)) = e from v3, zt_uw (k := 40 + 15 * a + 3 + 3 * n' + 0), zz_wu, zz_wu, zz_wu, show 40 + 15 * a + 3 + 3 * n' + (0 + 1) = 44 + 15 * a + 3 * n' by omega, show 40 + 15 * a + 3 + 3 * n' + (0 + 1 + 1) = 45 + 15 * a + 3 * n' by omega, show 40 + 15 * a + 3 + 3 * n' + 0 = 43 + 15 * a + 3 * n' by omega]
    rw [hn] at hm hcc
    right
    refine ⟨_, rfl, ?_⟩
    refine zz_c (zz_call (by omega) t_150 rfl (fun n => e_150 _ _ _) ?_)
    refine zz_Ec (fun n => by rw [zr_131_15 hL, zo_rf, za_141 hL (by omega) (by omega), zr_131_2 hL, zo_rf, za_134 hL (by omega) (by omega), zr_131_2 hL, zo_rf, za_134 hL (by omega) (by omega) , v0, zz_mul]) ?_
    refine zz_Ei (fun hge => ?_) (fun hlt => ?_)
    · rw [zz_le (by omega) (by omega) (by omega) (by omega)] at hge
      iterate 19 (refine zz_Ei (fun h => absurd h (by decide)) (fun _ => ?_))
      refine zz_Es (fun n => e_150_310 _ _ _) ?_
      simp (maxSteps := 5000000) (disch := first | assumption | omega) only [zr_131_2, zr_131_15, zo_rf, za_134, zs_134, za_141, zz_add, zz_mul, zz_0, zz_31, zz_lt, zz_le, zz_z, zz_l, zz_l1, zo_rI, zi_131, r_134]
      refine zz_Ei (fun h => absurd h (by omega)) (fun _ => ?_)
      simp (maxSteps := 5000000) (disch := first | assumption | omega) only [v1, v3, zz_le, zz_l, zz_l1, r_134, zo_rI, zz_0, zz_be0, zz_eq, i42, hn]
      refine zz_Ei (fun h => absurd h (by omega)) (fun _ => ?_)
      refine zz_Ei (fun g => absurd hcc.2.1 (by first | exact g | (rw [zz_be0] at g; exact g))) (fun _ => ?_)
      refine zz_Ei (fun h => absurd h (by omega)) (fun _ => ?_)
      refine zz_Es (fun n => e_150_405 _ _ _ _ _) ?_
      simp (maxSteps := 5000000) (disch := first | assumption | omega) only [zr_131_2, zr_131_15, zo_rf, za_141, zs_134, zz_add, zz_le, zu_A, v1, v2, v3]
      refine zz_Ei (fun h => absurd h (by omega)) (fun _ => ?_)
      refine zz_Es (fun n => e_150_405 _ _ _ _ _) ?_
      simp (maxSteps := 5000000) (disch := first | assumption | omega) only [zr_131_2, zr_131_15, zo_rf, za_141, zs_134, zz_add, zz_le, zu_A, v1, v2, v3]
      refine zz_Ei (fun h => absurd h (by omega)) (fun _ => ?_)
      refine zz_Es (fun n => e_150_405 _ _ _ _ _) ?_
      simp (maxSteps := 5000000) (disch := first | assumption | omega) only [zr_131_2, zr_131_15, zo_rf, za_141, zs_134, zz_add, zz_le, zu_A, v1, v2, v3]
      refine zz_Ei (fun h => absurd h (by omega)) (fun _ => ?_)
      refine zz_Es (fun n => e_150_405 _ _ _ _ _) ?_
      simp (maxSteps := 5000000) (disch := first | assumption | omega) only [zr_131_2, zo_rf, za_134, zs_134, zz_add, zz_le, zu_k, i42, hn, zz_z]
      refine zz_Ei (fun _ => ?_) (fun h => absurd (by omega) h)
      exact zz_Er (by rw [← ee])
    · rw [zz_le (by omega) (by omega) (by omega) (by omega)] at hlt
      iterate 19 (refine zz_Ei (fun h => absurd h (by decide)) (fun _ => ?_))
      refine zz_Es (fun n => e_150_310 _ _ _) ?_
      simp (maxSteps := 5000000) (disch := first | assumption | omega) only [zr_131_2, zr_131_15, zo_rf, za_134, zs_134, za_141, zz_add, zz_mul, zz_0, zz_31, zz_lt, zz_le, zz_z, zz_l, zz_l1, zo_rI, zi_131, r_134]
      refine zz_Ei (fun h => absurd h (by omega)) (fun _ => ?_)
      simp (maxSteps := 5000000) (disch := first | assumption | omega) only [v1, v3, zz_le, zz_l, zz_l1, r_134, zo_rI, zz_0, zz_be0, zz_eq, i42, hn]
      refine zz_Ei (fun h => absurd h (by omega)) (fun _ => ?_)
      refine zz_Ei (fun g => absurd hcc.2.1 (by first | exact g | (rw [zz_be0] at g; exact g))) (fun _ => ?_)
      refine zz_Ei (fun h => absurd h (by omega)) (fun _ => ?_)
      refine zz_Es (fun n => e_150_405 _ _ _ _ _) ?_
      simp (maxSteps := 5000000) (disch := first | assumption | omega) only [zr_131_2, zr_131_15, zo_rf, za_141, zs_134, zz_add, zz_le, zu_A, v1, v2, v3]
      refine zz_Ei (fun h => absurd h (by omega)) (fun _ => ?_)
      refine zz_Es (fun n => e_150_405 _ _ _ _ _) ?_
      simp (maxSteps := 5000000) (disch := first | assumption | omega) only [zr_131_2, zr_131_15, zo_rf, za_141, zs_134, zz_add, zz_le, zu_A, v1, v2, v3]
      refine zz_Ei (fun h => absurd h (by omega)) (fun _ => ?_)
      refine zz_Es (fun n => e_150_405 _ _ _ _ _) ?_
      simp (maxSteps := 5000000) (disch := first | assumption | omega) only [zr_131_2, zr_131_15, zo_rf, za_141, zs_134, zz_add, zz_le, zu_A, v1, v2, v3]
      refine zz_Ei (fun h => absurd h (by omega)) (fun _ => ?_)
      refine zz_Es (fun n => e_150_405 _ _ _ _ _) ?_
      simp (maxSteps := 5000000) (disch := first | assumption | omega) only [zr_131_2, zo_rf, za_134, zs_134, zz_add, zz_le, zu_k, i42, hn, zz_z]
      refine zz_Ei (fun _ => ?_) (fun h => absurd (by omega) h)
      exact zz_Er (by rw [← ee])
  · rw [if_neg hcc]
    left
    refine ⟨rfl, J 134, ?_⟩
    rw [zw_i]
    refine zz_c (zz_call (by omega) t_150 rfl (fun n => e_150 _ _ _) ?_)
    refine zz_Ec (fun n => by rw [zr_131_15 hL, zo_rf, za_141 hL (by omega) (by omega), zr_131_2 hL, zo_rf, za_134 hL (by omega) (by omega), zr_131_2 hL, zo_rf, za_134 hL (by omega) (by omega) , v0, zz_mul]) ?_
    refine zz_Ei (fun hge => ?_) (fun hlt => ?_)
    · rw [zz_le (by omega) (by omega) (by omega) (by omega)] at hge
      iterate 19 (refine zz_Ei (fun h => absurd h (by decide)) (fun _ => ?_))
      refine zz_Es (fun n => e_150_310 _ _ _) ?_
      simp (maxSteps := 5000000) (disch := first | assumption | omega) only [zr_131_2, zr_131_15, zo_rf, za_134, zs_134, za_141, zz_add, zz_mul, zz_0, zz_31, zz_lt, zz_le, zz_z, zz_l, zz_l1, zo_rI, zi_131, r_134]
      refine zz_Ei (fun _ => zz_Er rfl) (fun g0 => ?_)
      have i42 : 40 + 15 * a + 2 = 42 + 15 * a := by omega
      simp (maxSteps := 5000000) (disch := first | assumption | omega) only [v1, v3, zz_le, zz_l, zz_l1, r_134, zo_rI, zz_0, zz_be0, zz_eq, i42]
      refine zz_Ei (fun _ => zz_Er rfl) (fun g1 => ?_)
      refine zz_Ei (fun _ => zz_Er rfl) (fun g2 => ?_)
      have hm := (hA.2.2.2.2.2.2.2.2 a ha.1 (by omega)).2.2.1
      simp (maxSteps := 5000000) (disch := first | assumption | omega) only [zz_eq]
      refine zz_Ei (fun _ => zz_Er rfl) (fun g3 => ?_)
      try rw [zz_be0] at g2
      exact absurd ⟨⟨by omega, by omega⟩, Decidable.not_not.mp g2, by omega⟩ hcc
    · rw [zz_le (by omega) (by omega) (by omega) (by omega)] at hlt
      iterate 19 (refine zz_Ei (fun h => absurd h (by decide)) (fun _ => ?_))
      refine zz_Es (fun n => e_150_310 _ _ _) ?_
      simp (maxSteps := 5000000) (disch := first | assumption | omega) only [zr_131_2, zr_131_15, zo_rf, za_134, zs_134, za_141, zz_add, zz_mul, zz_0, zz_31, zz_lt, zz_le, zz_z, zz_l, zz_l1, zo_rI, zi_131, r_134]
      refine zz_Ei (fun _ => zz_Er rfl) (fun g0 => ?_)
      have i42 : 40 + 15 * a + 2 = 42 + 15 * a := by omega
      simp (maxSteps := 5000000) (disch := first | assumption | omega) only [v1, v3, zz_le, zz_l, zz_l1, r_134, zo_rI, zz_0, zz_be0, zz_eq, i42]
      refine zz_Ei (fun _ => zz_Er rfl) (fun g1 => ?_)
      refine zz_Ei (fun _ => zz_Er rfl) (fun g2 => ?_)
      have hm := (hA.2.2.2.2.2.2.2.2 a ha.1 (by omega)).2.2.1
      simp (maxSteps := 5000000) (disch := first | assumption | omega) only [zz_eq]
      refine zz_Ei (fun _ => zz_Er rfl) (fun g3 => ?_)
      try rw [zz_be0] at g2
      exact absurd ⟨⟨by omega, by omega⟩, Decidable.not_not.mp g2, by omega⟩ hcc
theorem r_150 {c : Int} {l : List Int} (hd : 3 ≤ d) (hL : ZL T R) (hA : zz_ok Y (J 134)) (hc : zt_fn c ≠ 6) (hl : zt_vals (mv_str (zt_fn c)) l) (h141 : ∀ k : Nat, k < l.length → J 141 k = l.getD k 0) : (zt_act (J 134) c l = none ∧ ∃ O, mv_cax d 150 [.inr (.inr (some 131)), .inl (mv_c c)] (zz_S T J R G) = some (some (.inl (mv_c 0)), zz_S T (zz_w J 134 O) R G)) ∨ ∃ A', zt_act (J 134) c l = some A' ∧ mv_cax d 150 [.inr (.inr (some 131)), .inl (mv_c c)] (zz_S T J R G) = some (some (.inl (mv_c 1)), zz_S T (zz_w J 134 A') R G) := by
  rcases zt_ltr hc with rfl | rfl | rfl | rfl | rfl | rfl | rfl | rfl
  · obtain ⟨a, rfl, ha⟩ := zt_v3 hl
    exact r_150_98 hd hL hA (h141 0 (by show 0 < 1; omega)) ha
  · obtain ⟨a, b, rfl, ha, hb⟩ := zt_v1 hl
    exact r_150_100 hd hL hA (h141 0 (by show 0 < 2; omega)) ha (h141 1 (by show 1 < 2; omega)) hb
  · obtain ⟨a, b, rfl, ha, hb⟩ := zt_v2 hl
    exact r_150_103 hd hL hA (h141 0 (by show 0 < 2; omega)) ha (h141 1 (by show 1 < 2; omega)) hb
  · obtain ⟨a, rfl, ha⟩ := zt_v4 hl
    exact r_150_108 hd hL hA (h141 0 (by show 0 < 1; omega)) ha
  · obtain ⟨a, rfl, ha⟩ := zt_v3 hl
    exact r_150_113 hd hL hA (h141 0 (by show 0 < 1; omega)) ha
  · obtain ⟨a, b, rfl, ha, hb⟩ := zt_v1 hl
    exact r_150_115 hd hL hA (h141 0 (by show 0 < 2; omega)) ha (h141 1 (by show 1 < 2; omega)) hb
  · obtain ⟨a, rfl, ha⟩ := zt_v3 hl
    exact r_150_116 hd hL hA (h141 0 (by show 0 < 1; omega)) ha
  · obtain ⟨a, b, c, e, rfl, ha, hb, hc', he⟩ := zt_v5 hl
    exact r_150_119 hd hL hA (h141 0 (by show 0 < 4; omega)) ha (h141 1 (by show 1 < 4; omega)) hb (h141 2 (by show 2 < 4; omega)) hc' (h141 3 (by show 3 < 4; omega)) he
end ZRAC
