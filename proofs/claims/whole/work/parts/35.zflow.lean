/-! PURE LAYER, 4: the reference: water -/
def zz_dy (i : Int) : Int := if i = 0 then -1 else if i = 2 then 1 else 0
def zz_dx (i : Int) : Int := if i = 1 then 1 else if i = 3 then -1 else 0
/-- the cell beside c on the side i, or below 0 -/
def zz_cd (A : Int → Int) (c i : Int) : Int := if (0 ≤ c / A 1 + zz_dy i ∧ c / A 1 + zz_dy i ≤ A 0 - 1) ∧ (0 ≤ c % A 1 + zz_dx i ∧ c % A 1 + zz_dx i ≤ A 1 - 1) then (c / A 1 + zz_dy i) * A 1 + (c % A 1 + zz_dx i) else -1
def zz_lw (A : Int → Int) (low x : Int) : Int := if 0 ≤ x ∧ A (8 + x) < A (8 + low) then x else low
def zz_ln (A : Int → Int) (c : Int) : Nat → Int
  | 0 => c
  | n + 1 => zz_lw A (zz_ln A c n) (zz_cd A c n)
def zz_nx (A : Int → Int) (c : Int) : Int := zz_ln A c 4
theorem zz_cd_r {A : Int → Int} {c i : Int} (h : 2 ≤ A 0 ∧ A 0 ≤ 4 ∧ 2 ≤ A 1 ∧ A 1 ≤ 4) : zz_cd A c i = -1 ∨ 0 ≤ zz_cd A c i ∧ zz_cd A c i < A 0 * A 1 := by
  unfold zz_cd
  split
  · rename_i q
    right
    obtain ⟨⟨q1, q2⟩, q3, q4⟩ := q
    generalize c / A 1 + zz_dy i = r at q1 q2 ⊢
    generalize c % A 1 + zz_dx i = s at q3 q4 ⊢
    obtain ⟨h1, h2, h3, h4⟩ := h
    generalize A 1 = C at *
    generalize A 0 = B at *
    have : C = 2 ∨ C = 3 ∨ C = 4 := by omega
    rcases this with rfl | rfl | rfl <;> omega
  · exact Or.inl rfl
theorem zz_ln_r {A : Int → Int} {c : Int} (h : 2 ≤ A 0 ∧ A 0 ≤ 4 ∧ 2 ≤ A 1 ∧ A 1 ≤ 4) (h1 : 0 ≤ c) (h2 : c < A 0 * A 1) : ∀ n, (0 ≤ zz_ln A c n ∧ zz_ln A c n < A 0 * A 1) ∧ (zz_ln A c n = c ∨ A (8 + zz_ln A c n) < A (8 + c))
  | 0 => ⟨⟨h1, h2⟩, Or.inl rfl⟩
  | n + 1 => by
    have ih := zz_ln_r h h1 h2 n
    have := zz_cd_r (c := c) (i := n) h
    have e0 : zz_ln A c (n + 1) = zz_lw A (zz_ln A c n) (zz_cd A c n) := rfl
    rw [e0]
    unfold zz_lw
    split
    · rename_i q
      refine ⟨by omega, Or.inr ?_⟩
      rcases ih.2 with e | e
      · rw [e] at q; exact q.2
      · omega
    · exact ih
theorem zz_nx_r {A : Int → Int} {c : Int} (h : 2 ≤ A 0 ∧ A 0 ≤ 4 ∧ 2 ≤ A 1 ∧ A 1 ≤ 4) (h1 : 0 ≤ c) (h2 : c < A 0 * A 1) : (0 ≤ zz_nx A c ∧ zz_nx A c < A 0 * A 1) ∧ (zz_nx A c = c ∨ A (8 + zz_nx A c) < A (8 + c)) := zz_ln_r h h1 h2 4
/-- the way of the water from c -/
def zz_wy (A : Int → Int) : Nat → Int → List Int
  | 0, c => [c]
  | k + 1, c => if zz_nx A c = c then [c] else c :: zz_wy A k (zz_nx A c)
def zz_la (c : Int) : List Int → Int
  | [] => c
  | x :: l => zz_la x l
def zz_mk : List Int → Int → Int
  | [], m => m
  | c :: l, m => zz_mk l (zz_lor m c)
def zz_way (A : Int → Int) : List Int := zz_wy A 9 (A 5)
def zz_stn (A : Int → Int) : Int := zz_la 0 (zz_way A)
def zz_ls (A : Int → Int) : Prop := zz_stn A / A 1 = 0 ∨ zz_stn A % A 1 = 0 ∨ zz_stn A / A 1 = A 0 - 1 ∨ zz_stn A % A 1 = A 1 - 1
theorem zz_wy_m {A : Int → Int} (h : 2 ≤ A 0 ∧ A 0 ≤ 4 ∧ 2 ≤ A 1 ∧ A 1 ≤ 4) : ∀ (k : Nat) (c : Int), 0 ≤ c → c < A 0 * A 1 → ∀ x ∈ zz_wy A k c, (0 ≤ x ∧ x < A 0 * A 1) ∧ (x = c ∨ A (8 + x) < A (8 + c))
  | 0, c, h1, h2, x, hx => by
    cases List.mem_singleton.mp hx
    exact ⟨⟨h1, h2⟩, Or.inl rfl⟩
  | k + 1, c, h1, h2, x, hx => by
    unfold zz_wy at hx
    have hN := zz_nx_r h h1 h2
    split at hx
    · cases List.mem_singleton.mp hx
      exact ⟨⟨h1, h2⟩, Or.inl rfl⟩
    · rename_i hne
      rcases List.mem_cons.mp hx with rfl | hx
      · exact ⟨⟨h1, h2⟩, Or.inl rfl⟩
      · have ih := zz_wy_m h k _ hN.1.1 hN.1.2 x hx
        refine ⟨ih.1, Or.inr ?_⟩
        rcases hN.2 with e | e
        · exact absurd e hne
        · rcases ih.2 with e2 | e2
          · rw [e2]; exact e
          · omega
theorem zz_wy_c {A : Int → Int} (k : Nat) (c : Int) : ∃ l, zz_wy A k c = c :: l := by
  cases k with
  | zero => exact ⟨[], rfl⟩
  | succ k =>
    unfold zz_wy
    split
    · exact ⟨[], rfl⟩
    · exact ⟨_, rfl⟩
theorem zz_wy_n {A : Int → Int} (h : 2 ≤ A 0 ∧ A 0 ≤ 4 ∧ 2 ≤ A 1 ∧ A 1 ≤ 4) : ∀ (k : Nat) (c : Int), 0 ≤ c → c < A 0 * A 1 → (zz_wy A k c).Nodup
  | 0, c, h1, h2 => by simp [zz_wy]
  | k + 1, c, h1, h2 => by
    have hN := zz_nx_r h h1 h2
    unfold zz_wy
    split
    · simp
    · rename_i hne
      refine List.nodup_cons.mpr ⟨fun hm => ?_, zz_wy_n h k _ hN.1.1 hN.1.2⟩
      have := (zz_wy_m h k _ hN.1.1 hN.1.2 c hm).2
      rcases hN.2 with e | e
      · exact hne e
      · rcases this with e2 | e2
        · exact hne e2.symm
        · omega
theorem zz_la_m : ∀ (l : List Int) (c : Int), zz_la c l = c ∨ zz_la c l ∈ l
  | [], c => Or.inl rfl
  | x :: l, c => by
    rcases zz_la_m l x with e | e
    · exact Or.inr (by show zz_la x l ∈ _; rw [e]; exact List.mem_cons_self)
    · exact Or.inr (List.mem_cons_of_mem _ e)
theorem zz_stn_r {Y : Int} {A : Int → Int} (hA : zz_ok Y A) : 0 ≤ zz_stn A ∧ zz_stn A < A 0 * A 1 := by
  have h5 := hA.2.2.2.2.1
  have h0 := hA.n
  unfold zz_stn
  rcases zz_la_m (zz_way A) 0 with e | e
  · rw [e]; omega
  · exact (zz_wy_m hA.1 9 (A 5) h5.1 h5.2 _ e).1
theorem zz_mk_b {A : Int → Int} : ∀ (l : List Int) (m : Int), (∀ x ∈ l, 0 ≤ x ∧ x < 16) → 0 ≤ m → m < 65536 → (0 ≤ zz_mk l m ∧ zz_mk l m < 65536)
  | [], m, _, h1, h2 => ⟨h1, h2⟩
  | c :: l, m, hl, h1, h2 => by
    have hc := hl c List.mem_cons_self
    have := zz_lor_lt h1 h2 hc.1 hc.2
    exact zz_mk_b (A := A) l _ (fun x hx => hl x (List.mem_cons_of_mem _ hx)) this.1 this.2
theorem zz_mk_bit {e : Int} (he : 0 ≤ e) : ∀ (l : List Int) (m : Int), (∀ x ∈ l, 0 ≤ x) → zz_bit (zz_mk l m) e = if e ∈ l then 1 else zz_bit m e
  | [], m, _ => by simp [zz_mk]
  | c :: l, m, hl => by
    show zz_bit (zz_mk l (zz_lor m c)) e = _
    rw [zz_mk_bit he l _ (fun x hx => hl x (List.mem_cons_of_mem _ hx)), zz_bit_lor (hl c List.mem_cons_self) he]
    by_cases h1 : e ∈ l
    · rw [if_pos h1, if_pos (List.mem_cons_of_mem _ h1)]
    · rw [if_neg h1]
      by_cases h2 : e = c
      · rw [if_pos h2, if_pos (by rw [h2]; exact List.mem_cons_self)]
      · rw [if_neg h2, if_neg (by simp [h1, h2])]
section ZFLO
variable {T : List mv_T} {J : Nat → Int → Int} {R : Nat → Nat → Option Nat} {G : Nat → Nat → Int64} {d : Nat} {Y : Int}
def zz_bc (B : Int → Int) : Prop := ∀ i, 0 ≤ i → i < 4 → B (2 * i) = zz_dy i ∧ B (2 * i + 1) = zz_dx i
theorem zz_uu {a : Nat} {p q v w v' w' : Int} (h : p ≠ q) : zz_u (zz_u (zz_u (zz_u J a p v) a q w) a p v') a q w' = zz_u (zz_u J a p v') a q w' := by
  funext x y
  unfold zz_u
  by_cases hx : x = a
  · by_cases h1 : y = q
    · simp [hx, h1]
    · by_cases h2 : y = p
      · simp [hx, h2, h]
      · simp [hx, h1, h2]
  · simp [hx]
theorem zz_dyx (i : Int) : (zz_dy i = -1 ∨ zz_dy i = 0 ∨ zz_dy i = 1) ∧ (zz_dx i = -1 ∨ zz_dx i = 0 ∨ zz_dx i = 1) := by
  unfold zz_dy zz_dx
  constructor
  · split
    · omega
    · split <;> omega
  · split
    · omega
    · split <;> omega
theorem zz_ln1 {A : Int → Int} {c i : Int} (h : 0 ≤ i) : zz_ln A c (i + 1).toNat = zz_lw A (zz_ln A c i.toNat) (zz_cd A c i) := by
  obtain ⟨n, rfl⟩ := Int.eq_ofNat_of_zero_le h
  rfl
def zz_fm (J : Nat → Int → Int) (c m : Int) : Nat → Int → Int := zz_u (zz_u J 131 17 c) 131 16 m
theorem zz_fm_a {J : Nat → Int → Int} {c m y : Int} {x : Nat} (h : x ≠ 131) : zz_fm J c m x y = J x y := by
  unfold zz_fm
  rw [zu_a h, zu_a h]
theorem zz_fm_17 {J : Nat → Int → Int} {c m : Int} : zz_fm J c m 131 17 = c := by
  unfold zz_fm
  rw [zu_k (by omega), zu_s]
theorem zz_fm_16 {J : Nat → Int → Int} {c m : Int} : zz_fm J c m 131 16 = m := by
  unfold zz_fm
  rw [zu_s]
theorem r_153l (hL : ZL T R) (hA : zz_ok Y (J 132)) (hB : zz_bc (J 142)) (hd : 1 ≤ d) : ∀ (k : Nat) (c m m0 : Int) (em : m0 = zz_lor m c), 0 ≤ c → c < J 132 0 * J 132 1 → J 132 (8 + c) ≤ k → 0 ≤ m → m < 65536 → zz_E (fun n => mv_run (mv_cax d) mm_153 n 20 [(0, .inr (.inr (some 131)))] [] (zz_S T (zz_fm J c m0) R G)) (fun r => r = (none, zz_S T (zz_fm J (zz_la c (zz_wy (J 132) k c)) (zz_mk (zz_wy (J 132) k c) m)) R G)) := by
  have hn := hA.n
  have h0 := hA.1
  have key : ∀ (c m0 : Int) (Q : Option mv_V × mv_S → Prop), 0 ≤ c → c < J 132 0 * J 132 1 → 0 ≤ m0 → m0 < 65536 → (zz_nx (J 132) c = c → Q (none, zz_S T (zz_fm J c m0) R G)) → (zz_nx (J 132) c ≠ c → zz_E (fun n => mv_run (mv_cax d) mm_153 n 20 [(0, .inr (.inr (some 131)))] [] (zz_S T (zz_fm J (zz_nx (J 132) c) (zz_lor m0 (zz_nx (J 132) c))) R G)) Q) → zz_E (fun n => mv_run (mv_cax d) mm_153 n 20 [(0, .inr (.inr (some 131)))] [] (zz_S T (zz_fm J c m0) R G)) Q := by
    intro c m0 Q hc0 hc1 hm0 hm1 q1 q2
    have hq := zz_dm h0.1 h0.2.1 h0.2.2.1 h0.2.2.2 hc0 hc1
    refine zz_Es (fun n => e_153_20 _ _) ?_
    refine zz_loop (run := fun i best n => mv_run (mv_cax d) mm_153 n 25 [(0, .inr (.inr (some 131))), (1, .inl (mv_c best)), (2, .inl (mv_c i))] [] (zz_S T (zz_fm J c m0) R G)) 4 (fun i best => 0 ≤ i ∧ ((best = -4 ∧ zz_ln (J 132) c i.toNat = c) ∨ (0 ≤ best ∧ best < J 132 0 * J 132 1 ∧ zz_ln (J 132) c i.toNat = best ∧ J 132 (8 + best) < J 132 (8 + c)))) ?_ ?_ 4 0 (-4) (by omega) ⟨by omega, Or.inl ⟨rfl, rfl⟩⟩
    · rintro i best ⟨hi, hbest⟩ hlt kk
      have hb := hB i hi hlt
      have hyx := zz_dyx i
      have hw := zz_ln1 (A := J 132) (c := c) hi
      have hcA := hA.2.2.2.2.2.2.2.1 c hc0 hc1
      refine zz_Es (fun n => e_153_25 _ _ _ _) ?_
      simp (maxSteps := 5000000) (disch := first | assumption | omega) only [zz_fm_a, zz_fm_17, hb.1, hb.2, r_134, zr_131_0, zr_131_1, zr_131_2, zr_131_3, zr_131_4, zr_131_5, zr_131_6, zr_131_7, zr_131_8, zg_131_9, zp_131_9, zg_131_10, zp_131_10, zg_131_11, zp_131_11, zg_131_12, zp_131_12, zg_131_13, zp_131_13, zg_131_14, zp_131_14, zr_131_15, zg_131_16, zp_131_16, zg_131_17, zp_131_17, zr_131_18, zr_131_19, zr_131_20, zr_131_21, zr_131_22, zg_131_23, zp_131_23, zr_131_24, zg_131_25, zp_131_25, zg_131_26, zp_131_26, zr_131_27, zr_131_28, zg_131_29, zp_131_29, zg_131_30, zp_131_30, zr_131_31, zr_131_32, zr_131_33, zr_131_34, zr_131_35, zi_131, za_132, zs_132, zl_132, za_133, zs_133, zl_133, za_134, zs_134, zl_134, za_135, zs_135, zl_135, za_136, zs_136, zl_136, za_137, zs_137, zl_137, za_138, zs_138, zl_138, za_139, zs_139, zl_139, za_140, zs_140, zl_140, za_141, zs_141, zl_141, za_142, zs_142, zl_142, za_143, zs_143, zl_143, za_144, zs_144, zl_144, za_145, zs_145, zl_145, za_146, zs_146, zl_146, za_147, zs_147, zl_147, za_148, zs_148, zl_148, za_149, zs_149, zl_149, za_150, zs_150, zl_150, za_151, zs_151, zl_151, za_152, zs_152, zl_152, za_153, zs_153, zl_153, za_154, zs_154, zl_154, zz_0, zz_31, zz_add, zz_sub, zz_mul, zz_neg, zz_lt, zz_le, zz_eq, zz_div, zz_md, zz_dv, zz_abs, zz_max, zz_min, zz_nI, zz_be0, zz_be1, zz_zb, zz_z, zz_l0, zz_l, zz_lcmp, zo_rf, zo_nl, zo_nn, zo_rI, zo_rL, zo_rR, zo_rV, Int.add_zero, Int.zero_add, Int.mul_zero, Int.zero_mul, Int.one_mul, Int.mul_one, if_true, if_false, not_true_eq_false, not_false_eq_true]
      refine zz_Ei (fun h => absurd h (by omega)) (fun _ => ?_)
      refine zz_Ei (fun h => ?_) (fun h => ?_)
      · have hc : zz_cd (J 132) c i = -1 := if_neg (by omega)
        refine kk best ⟨by omega, ?_⟩
        rw [hw, hc]
        unfold zz_lw
        rw [if_neg (by omega)]
        exact hbest
      · refine zz_Ei (fun h2 => ?_) (fun h2 => ?_)
        · have hc : zz_cd (J 132) c i = -1 := if_neg (by omega)
          refine kk best ⟨by omega, ?_⟩
          rw [hw, hc]
          unfold zz_lw
          rw [if_neg (by omega)]
          exact hbest
        · have hc : zz_cd (J 132) c i = (c / J 132 1 + zz_dy i) * J 132 1 + (c % J 132 1 + zz_dx i) := if_pos ⟨by omega, by omega⟩
          have hr := zz_cd_r (c := c) (i := i) hA.1
          have hr2 : 0 ≤ zz_cd (J 132) c i := by
            rw [hc]
            have : 0 ≤ (c / J 132 1 + zz_dy i) * J 132 1 := Int.mul_nonneg (by omega) (by omega)
            omega
          rw [← hc]
          generalize zz_cd (J 132) c i = to at *
          have hto := hA.2.2.2.2.2.2.2.1 to (by omega) (by omega)
          simp (maxSteps := 5000000) (disch := first | assumption | omega) only [zz_fm_a, zz_fm_17, zr_131_0, zr_131_1, zr_131_2, zr_131_3, zr_131_4, zr_131_5, zr_131_6, zr_131_7, zr_131_8, zg_131_9, zp_131_9, zg_131_10, zp_131_10, zg_131_11, zp_131_11, zg_131_12, zp_131_12, zg_131_13, zp_131_13, zg_131_14, zp_131_14, zr_131_15, zg_131_16, zp_131_16, zg_131_17, zp_131_17, zr_131_18, zr_131_19, zr_131_20, zr_131_21, zr_131_22, zg_131_23, zp_131_23, zr_131_24, zg_131_25, zp_131_25, zg_131_26, zp_131_26, zr_131_27, zr_131_28, zg_131_29, zp_131_29, zg_131_30, zp_131_30, zr_131_31, zr_131_32, zr_131_33, zr_131_34, zr_131_35, zi_131, za_132, zs_132, zl_132, za_133, zs_133, zl_133, za_134, zs_134, zl_134, za_135, zs_135, zl_135, za_136, zs_136, zl_136, za_137, zs_137, zl_137, za_138, zs_138, zl_138, za_139, zs_139, zl_139, za_140, zs_140, zl_140, za_141, zs_141, zl_141, za_142, zs_142, zl_142, za_143, zs_143, zl_143, za_144, zs_144, zl_144, za_145, zs_145, zl_145, za_146, zs_146, zl_146, za_147, zs_147, zl_147, za_148, zs_148, zl_148, za_149, zs_149, zl_149, za_150, zs_150, zl_150, za_151, zs_151, zl_151, za_152, zs_152, zl_152, za_153, zs_153, zl_153, za_154, zs_154, zl_154, zz_0, zz_31, zz_add, zz_sub, zz_mul, zz_neg, zz_lt, zz_le, zz_eq, zz_div, zz_md, zz_dv, zz_abs, zz_max, zz_min, zz_nI, zz_be0, zz_be1, zz_zb, zz_z, zz_l0, zz_l, zz_lcmp, zo_rf, zo_nl, zo_nn, zo_rI, zo_rL, zo_rR, zo_rV, Int.add_zero, Int.zero_add, Int.mul_zero, Int.zero_mul, Int.one_mul, Int.mul_one, if_true, if_false, not_true_eq_false, not_false_eq_true]
          refine zz_Ei (fun h3 => ?_) (fun h3 => ?_)
          · refine kk best ⟨by omega, ?_⟩
            rw [hw]
            unfold zz_lw
            rw [if_neg]
            · exact hbest
            · rcases hbest with ⟨-, e⟩ | ⟨-, -, e, e2⟩
              · rw [e]; omega
              · rw [e]; omega
          · rcases hbest with ⟨e0, e⟩ | ⟨e0, e1, e, e2⟩
            · refine zz_Ei (fun h4 => ?_) (fun h4 => absurd (show best < 0 by omega) h4)
              refine kk to ⟨by omega, Or.inr ⟨by omega, by omega, ?_, by omega⟩⟩
              rw [hw, e]
              unfold zz_lw
              rw [if_pos ⟨by omega, by omega⟩]
            · have hbA := hA.2.2.2.2.2.2.2.1 best e0 e1
              simp (maxSteps := 5000000) (disch := first | assumption | omega) only [zz_fm_a, zz_fm_17, zr_131_0, zr_131_1, zr_131_2, zr_131_3, zr_131_4, zr_131_5, zr_131_6, zr_131_7, zr_131_8, zg_131_9, zp_131_9, zg_131_10, zp_131_10, zg_131_11, zp_131_11, zg_131_12, zp_131_12, zg_131_13, zp_131_13, zg_131_14, zp_131_14, zr_131_15, zg_131_16, zp_131_16, zg_131_17, zp_131_17, zr_131_18, zr_131_19, zr_131_20, zr_131_21, zr_131_22, zg_131_23, zp_131_23, zr_131_24, zg_131_25, zp_131_25, zg_131_26, zp_131_26, zr_131_27, zr_131_28, zg_131_29, zp_131_29, zg_131_30, zp_131_30, zr_131_31, zr_131_32, zr_131_33, zr_131_34, zr_131_35, zi_131, za_132, zs_132, zl_132, za_133, zs_133, zl_133, za_134, zs_134, zl_134, za_135, zs_135, zl_135, za_136, zs_136, zl_136, za_137, zs_137, zl_137, za_138, zs_138, zl_138, za_139, zs_139, zl_139, za_140, zs_140, zl_140, za_141, zs_141, zl_141, za_142, zs_142, zl_142, za_143, zs_143, zl_143, za_144, zs_144, zl_144, za_145, zs_145, zl_145, za_146, zs_146, zl_146, za_147, zs_147, zl_147, za_148, zs_148, zl_148, za_149, zs_149, zl_149, za_150, zs_150, zl_150, za_151, zs_151, zl_151, za_152, zs_152, zl_152, za_153, zs_153, zl_153, za_154, zs_154, zl_154, zz_0, zz_31, zz_add, zz_sub, zz_mul, zz_neg, zz_lt, zz_le, zz_eq, zz_div, zz_md, zz_dv, zz_abs, zz_max, zz_min, zz_nI, zz_be0, zz_be1, zz_zb, zz_z, zz_l0, zz_l, zz_lcmp, zo_rf, zo_nl, zo_nn, zo_rI, zo_rL, zo_rR, zo_rV, Int.add_zero, Int.zero_add, Int.mul_zero, Int.zero_mul, Int.one_mul, Int.mul_one, if_true, if_false, not_true_eq_false, not_false_eq_true]
              refine zz_Ei (fun h4 => absurd h4 (by omega)) (fun _ => ?_)
              refine zz_Ei (fun h4 => ?_) (fun h4 => ?_)
              · refine kk best ⟨by omega, Or.inr ⟨e0, e1, ?_, e2⟩⟩
                rw [hw, e]
                unfold zz_lw
                rw [if_neg (by omega)]
              · refine kk to ⟨by omega, Or.inr ⟨by omega, by omega, ?_, by omega⟩⟩
                rw [hw, e]
                unfold zz_lw
                rw [if_pos ⟨by omega, by omega⟩]
    · rintro best ⟨-, hbest⟩
      have e4 : zz_nx (J 132) c = zz_ln (J 132) c (4 : Int).toNat := rfl
      refine zz_Es (fun n => e_153_25 _ _ _ _) ?_
      rcases hbest with ⟨e0, e⟩ | ⟨e0, e1, e, e2⟩
      · simp (maxSteps := 5000000) (disch := first | assumption | omega) only [e0, zr_131_0, zr_131_1, zr_131_2, zr_131_3, zr_131_4, zr_131_5, zr_131_6, zr_131_7, zr_131_8, zg_131_9, zp_131_9, zg_131_10, zp_131_10, zg_131_11, zp_131_11, zg_131_12, zp_131_12, zg_131_13, zp_131_13, zg_131_14, zp_131_14, zr_131_15, zg_131_16, zp_131_16, zg_131_17, zp_131_17, zr_131_18, zr_131_19, zr_131_20, zr_131_21, zr_131_22, zg_131_23, zp_131_23, zr_131_24, zg_131_25, zp_131_25, zg_131_26, zp_131_26, zr_131_27, zr_131_28, zg_131_29, zp_131_29, zg_131_30, zp_131_30, zr_131_31, zr_131_32, zr_131_33, zr_131_34, zr_131_35, zi_131, za_132, zs_132, zl_132, za_133, zs_133, zl_133, za_134, zs_134, zl_134, za_135, zs_135, zl_135, za_136, zs_136, zl_136, za_137, zs_137, zl_137, za_138, zs_138, zl_138, za_139, zs_139, zl_139, za_140, zs_140, zl_140, za_141, zs_141, zl_141, za_142, zs_142, zl_142, za_143, zs_143, zl_143, za_144, zs_144, zl_144, za_145, zs_145, zl_145, za_146, zs_146, zl_146, za_147, zs_147, zl_147, za_148, zs_148, zl_148, za_149, zs_149, zl_149, za_150, zs_150, zl_150, za_151, zs_151, zl_151, za_152, zs_152, zl_152, za_153, zs_153, zl_153, za_154, zs_154, zl_154, zz_0, zz_31, zz_add, zz_sub, zz_mul, zz_neg, zz_lt, zz_le, zz_eq, zz_div, zz_md, zz_dv, zz_abs, zz_max, zz_min, zz_nI, zz_be0, zz_be1, zz_zb, zz_z, zz_l0, zz_l, zz_lcmp, zo_rf, zo_nl, zo_nn, zo_rI, zo_rL, zo_rR, zo_rV, Int.add_zero, Int.zero_add, Int.mul_zero, Int.zero_mul, Int.one_mul, Int.mul_one, if_true, if_false, not_true_eq_false, not_false_eq_true]
        refine zz_Ei (fun _ => ?_) (fun h => absurd (Int.le_refl _) h)
        refine zz_Ei (fun h => absurd h (by omega)) (fun _ => ?_)
        exact zz_Er (q1 (by rw [e4, e]))
      · have e5 : zz_nx (J 132) c = best := by rw [e4, e]
        have hne : best ≠ c := by
          intro h
          rw [h] at e2
          omega
        rw [e5] at q2
        have q3 := q2 hne
        simp (maxSteps := 5000000) (disch := first | assumption | omega) only [zz_fm_16, zz_sor, zr_131_0, zr_131_1, zr_131_2, zr_131_3, zr_131_4, zr_131_5, zr_131_6, zr_131_7, zr_131_8, zg_131_9, zp_131_9, zg_131_10, zp_131_10, zg_131_11, zp_131_11, zg_131_12, zp_131_12, zg_131_13, zp_131_13, zg_131_14, zp_131_14, zr_131_15, zg_131_16, zp_131_16, zg_131_17, zp_131_17, zr_131_18, zr_131_19, zr_131_20, zr_131_21, zr_131_22, zg_131_23, zp_131_23, zr_131_24, zg_131_25, zp_131_25, zg_131_26, zp_131_26, zr_131_27, zr_131_28, zg_131_29, zp_131_29, zg_131_30, zp_131_30, zr_131_31, zr_131_32, zr_131_33, zr_131_34, zr_131_35, zi_131, za_132, zs_132, zl_132, za_133, zs_133, zl_133, za_134, zs_134, zl_134, za_135, zs_135, zl_135, za_136, zs_136, zl_136, za_137, zs_137, zl_137, za_138, zs_138, zl_138, za_139, zs_139, zl_139, za_140, zs_140, zl_140, za_141, zs_141, zl_141, za_142, zs_142, zl_142, za_143, zs_143, zl_143, za_144, zs_144, zl_144, za_145, zs_145, zl_145, za_146, zs_146, zl_146, za_147, zs_147, zl_147, za_148, zs_148, zl_148, za_149, zs_149, zl_149, za_150, zs_150, zl_150, za_151, zs_151, zl_151, za_152, zs_152, zl_152, za_153, zs_153, zl_153, za_154, zs_154, zl_154, zz_0, zz_31, zz_add, zz_sub, zz_mul, zz_neg, zz_lt, zz_le, zz_eq, zz_div, zz_md, zz_dv, zz_abs, zz_max, zz_min, zz_nI, zz_be0, zz_be1, zz_zb, zz_z, zz_l0, zz_l, zz_lcmp, zo_rf, zo_nl, zo_nn, zo_rI, zo_rL, zo_rR, zo_rV, Int.add_zero, Int.zero_add, Int.mul_zero, Int.zero_mul, Int.one_mul, Int.mul_one, if_true, if_false, not_true_eq_false, not_false_eq_true]
        refine zz_Ei (fun _ => ?_) (fun h => absurd (Int.le_refl _) h)
        refine zz_Ei (fun _ => ?_) (fun h => absurd e0 h)
        have e6 : zz_u (zz_u (zz_fm J c m0) 131 17 best) 131 16 (zz_lor m0 best) = zz_fm J best (zz_lor m0 best) := zz_uu (by omega)
        rw [show zz_u (zz_fm J c m0) 131 17 best 131 16 = m0 from by rw [zu_k (by omega), zz_fm_16], zu_s]
        simp (maxSteps := 5000000) (disch := first | assumption | omega) only [zz_sor, zr_131_0, zr_131_1, zr_131_2, zr_131_3, zr_131_4, zr_131_5, zr_131_6, zr_131_7, zr_131_8, zg_131_9, zp_131_9, zg_131_10, zp_131_10, zg_131_11, zp_131_11, zg_131_12, zp_131_12, zg_131_13, zp_131_13, zg_131_14, zp_131_14, zr_131_15, zg_131_16, zp_131_16, zg_131_17, zp_131_17, zr_131_18, zr_131_19, zr_131_20, zr_131_21, zr_131_22, zg_131_23, zp_131_23, zr_131_24, zg_131_25, zp_131_25, zg_131_26, zp_131_26, zr_131_27, zr_131_28, zg_131_29, zp_131_29, zg_131_30, zp_131_30, zr_131_31, zr_131_32, zr_131_33, zr_131_34, zr_131_35, zi_131, za_132, zs_132, zl_132, za_133, zs_133, zl_133, za_134, zs_134, zl_134, za_135, zs_135, zl_135, za_136, zs_136, zl_136, za_137, zs_137, zl_137, za_138, zs_138, zl_138, za_139, zs_139, zl_139, za_140, zs_140, zl_140, za_141, zs_141, zl_141, za_142, zs_142, zl_142, za_143, zs_143, zl_143, za_144, zs_144, zl_144, za_145, zs_145, zl_145, za_146, zs_146, zl_146, za_147, zs_147, zl_147, za_148, zs_148, zl_148, za_149, zs_149, zl_149, za_150, zs_150, zl_150, za_151, zs_151, zl_151, za_152, zs_152, zl_152, za_153, zs_153, zl_153, za_154, zs_154, zl_154, zz_0, zz_31, zz_add, zz_sub, zz_mul, zz_neg, zz_lt, zz_le, zz_eq, zz_div, zz_md, zz_dv, zz_abs, zz_max, zz_min, zz_nI, zz_be0, zz_be1, zz_zb, zz_z, zz_l0, zz_l, zz_lcmp, zo_rf, zo_nl, zo_nn, zo_rI, zo_rL, zo_rR, zo_rV, Int.add_zero, Int.zero_add, Int.mul_zero, Int.zero_mul, Int.one_mul, Int.mul_one, if_true, if_false, not_true_eq_false, not_false_eq_true]
        rw [e6]
        exact q3
  intro k
  induction k with
  | zero =>
    intro c m m0 em h1 h2 h3 h4 h5
    subst em
    have hl := zz_lor_lt h4 h5 h1 (by omega : c < 16)
    refine key c _ _ h1 h2 hl.1 hl.2 (fun _ => rfl) (fun h => ?_)
    have := zz_nx_r hA.1 h1 h2
    have := hA.2.2.2.2.2.2.2.1 _ this.1.1 this.1.2
    omega
  | succ k ih =>
    intro c m m0 em h1 h2 h3 h4 h5
    subst em
    have hl := zz_lor_lt h4 h5 h1 (by omega : c < 16)
    have hN := zz_nx_r hA.1 h1 h2
    unfold zz_wy
    refine key c _ _ h1 h2 hl.1 hl.2 (fun h => ?_) (fun h => ?_)
    · rw [if_pos h]; rfl
    · rw [if_neg h]
      rcases hN.2 with e | e
      · exact absurd e h
      · have := ih (zz_nx (J 132) c) (zz_lor m c) _ rfl hN.1.1 hN.1.2 (by omega) hl.1 hl.2
        obtain ⟨l, el⟩ := zz_wy_c (A := J 132) k (zz_nx (J 132) c)
        have e9 : zz_la c (c :: zz_wy (J 132) k (zz_nx (J 132) c)) = zz_la (zz_nx (J 132) c) (zz_wy (J 132) k (zz_nx (J 132) c)) := by
          rw [el]
          rfl
        rw [e9]
        exact this
theorem r_153 (hL : ZL T R) (hA : zz_ok Y (J 132)) (hB : zz_bc (J 142)) (hd : 2 ≤ d) : mv_cax d 153 [.inr (.inr (some 131))] (zz_S T J R G) = some (none, zz_S T (zz_fm J (zz_stn (J 132)) (zz_mk (zz_way (J 132)) 0)) R G) := by
  have h5 := hA.2.2.2.2.1
  have hn := hA.n
  have h8 := (hA.2.2.2.2.2.2.2.1 _ h5.1 h5.2).1
  refine zz_c (zz_call (by omega) t_153 rfl (fun n => e_153 _ _) ?_)
  simp (maxSteps := 5000000) (disch := first | assumption | omega) only [zu_s, zz_sl1, zr_131_0, zr_131_1, zr_131_2, zr_131_3, zr_131_4, zr_131_5, zr_131_6, zr_131_7, zr_131_8, zg_131_9, zp_131_9, zg_131_10, zp_131_10, zg_131_11, zp_131_11, zg_131_12, zp_131_12, zg_131_13, zp_131_13, zg_131_14, zp_131_14, zr_131_15, zg_131_16, zp_131_16, zg_131_17, zp_131_17, zr_131_18, zr_131_19, zr_131_20, zr_131_21, zr_131_22, zg_131_23, zp_131_23, zr_131_24, zg_131_25, zp_131_25, zg_131_26, zp_131_26, zr_131_27, zr_131_28, zg_131_29, zp_131_29, zg_131_30, zp_131_30, zr_131_31, zr_131_32, zr_131_33, zr_131_34, zr_131_35, zi_131, za_132, zs_132, zl_132, za_133, zs_133, zl_133, za_134, zs_134, zl_134, za_135, zs_135, zl_135, za_136, zs_136, zl_136, za_137, zs_137, zl_137, za_138, zs_138, zl_138, za_139, zs_139, zl_139, za_140, zs_140, zl_140, za_141, zs_141, zl_141, za_142, zs_142, zl_142, za_143, zs_143, zl_143, za_144, zs_144, zl_144, za_145, zs_145, zl_145, za_146, zs_146, zl_146, za_147, zs_147, zl_147, za_148, zs_148, zl_148, za_149, zs_149, zl_149, za_150, zs_150, zl_150, za_151, zs_151, zl_151, za_152, zs_152, zl_152, za_153, zs_153, zl_153, za_154, zs_154, zl_154, zz_0, zz_31, zz_add, zz_sub, zz_mul, zz_neg, zz_lt, zz_le, zz_eq, zz_div, zz_md, zz_dv, zz_abs, zz_max, zz_min, zz_nI, zz_be0, zz_be1, zz_zb, zz_z, zz_l0, zz_l, zz_lcmp, zo_rf, zo_nl, zo_nn, zo_rI, zo_rL, zo_rR, zo_rV, Int.add_zero, Int.zero_add, Int.mul_zero, Int.zero_mul, Int.one_mul, Int.mul_one, if_true, if_false, not_true_eq_false, not_false_eq_true]
  have := r_153l (G := G) (d := d - 1) hL hA hB (by omega) 9 (J 132 5) 0 _ rfl h5.1 h5.2 (by omega) (by omega) (by omega)
  unfold zz_fm at this
  obtain ⟨l, e⟩ := zz_wy_c (A := J 132) 9 (J 132 5)
  have e2 : zz_stn (J 132) = zz_la (J 132 5) (zz_wy (J 132) 9 (J 132 5)) := by
    unfold zz_stn zz_way
    rw [e]
    rfl
  rw [e2]
  exact this
theorem r_154 (hL : ZL T R) (hA : zz_ok Y (J 132)) (hB : zz_bc (J 142)) (hd : 3 ≤ d) : mv_cax d 154 [.inr (.inr (some 131))] (zz_S T J R G) = some (some (.inl (mv_c (zz_b (zz_ls (J 132))))), zz_S T (zz_fm J (zz_stn (J 132)) (zz_mk (zz_way (J 132)) 0)) R G) := by
  have h0 := hA.1
  have hn := hA.n
  have hs := zz_stn_r hA
  have hq := zz_dm h0.1 h0.2.1 h0.2.2.1 h0.2.2.2 hs.1 hs.2
  unfold zz_ls
  refine zz_c (zz_call (by omega) t_154 rfl (fun n => e_154 _ _) ?_)
  simp (maxSteps := 5000000) (disch := first | assumption | omega) only [r_153 (Y := Y), zz_fm_a, zz_fm_17, zr_131_0, zr_131_1, zr_131_2, zr_131_3, zr_131_4, zr_131_5, zr_131_6, zr_131_7, zr_131_8, zg_131_9, zp_131_9, zg_131_10, zp_131_10, zg_131_11, zp_131_11, zg_131_12, zp_131_12, zg_131_13, zp_131_13, zg_131_14, zp_131_14, zr_131_15, zg_131_16, zp_131_16, zg_131_17, zp_131_17, zr_131_18, zr_131_19, zr_131_20, zr_131_21, zr_131_22, zg_131_23, zp_131_23, zr_131_24, zg_131_25, zp_131_25, zg_131_26, zp_131_26, zr_131_27, zr_131_28, zg_131_29, zp_131_29, zg_131_30, zp_131_30, zr_131_31, zr_131_32, zr_131_33, zr_131_34, zr_131_35, zi_131, za_132, zs_132, zl_132, za_133, zs_133, zl_133, za_134, zs_134, zl_134, za_135, zs_135, zl_135, za_136, zs_136, zl_136, za_137, zs_137, zl_137, za_138, zs_138, zl_138, za_139, zs_139, zl_139, za_140, zs_140, zl_140, za_141, zs_141, zl_141, za_142, zs_142, zl_142, za_143, zs_143, zl_143, za_144, zs_144, zl_144, za_145, zs_145, zl_145, za_146, zs_146, zl_146, za_147, zs_147, zl_147, za_148, zs_148, zl_148, za_149, zs_149, zl_149, za_150, zs_150, zl_150, za_151, zs_151, zl_151, za_152, zs_152, zl_152, za_153, zs_153, zl_153, za_154, zs_154, zl_154, zz_0, zz_31, zz_add, zz_sub, zz_mul, zz_neg, zz_lt, zz_le, zz_eq, zz_div, zz_md, zz_dv, zz_abs, zz_max, zz_min, zz_nI, zz_be0, zz_be1, zz_zb, zz_z, zz_l0, zz_l, zz_lcmp, zo_rf, zo_nl, zo_nn, zo_rI, zo_rL, zo_rR, zo_rV, Int.add_zero, Int.zero_add, Int.mul_zero, Int.zero_mul, Int.one_mul, Int.mul_one, if_true, if_false, not_true_eq_false, not_false_eq_true]
  repeat' (first | (refine zz_Ei (fun _ => ?_) (fun _ => ?_)) | (exact zz_Er (by first | rfl | (rw [zz_b_t (by omega)]) | (rw [zz_b_f (by omega)]))))
end ZFLO
