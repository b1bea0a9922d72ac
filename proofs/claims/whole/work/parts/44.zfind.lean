/-! PURE LAYER, 13: the reference: which haul is drawn -/
def zz_pick (n : Int) (ok : Int → Int → Prop) (V : Int → Int → Int) (V0 f t : Int) : Prop := (f < 0 ∧ ∀ a b, 0 ≤ a → a < n → 0 ≤ b → b < n → ok a b → V a b ≤ V0) ∨ ((0 ≤ f ∧ f < n ∧ 0 ≤ t ∧ t < n) ∧ ok f t ∧ V0 < V f t ∧ ∀ a b, 0 ≤ a → a < n → 0 ≤ b → b < n → ok a b → V a b ≤ V f t ∧ (16 * a + b < 16 * f + t → V a b < V f t))
theorem zz_pick_u {n : Int} {ok : Int → Int → Prop} {V : Int → Int → Int} {V0 f t f' t' : Int} (hn : n ≤ 16) (h : zz_pick n ok V V0 f t) (h' : zz_pick n ok V V0 f' t') : (f < 0 ∧ f' < 0) ∨ (0 ≤ f ∧ f = f' ∧ t = t') := by
  rcases h with ⟨p1, p2⟩ | ⟨⟨p1, p2, p3, p4⟩, p5, p6, p7⟩
  · rcases h' with ⟨q1, q2⟩ | ⟨⟨q1, q2, q3, q4⟩, q5, q6, q7⟩
    · exact Or.inl ⟨p1, q1⟩
    · have := p2 f' t' q1 q2 q3 q4 q5
      omega
  · rcases h' with ⟨q1, q2⟩ | ⟨⟨q1, q2, q3, q4⟩, q5, q6, q7⟩
    · have := q2 f t p1 p2 p3 p4 p5
      omega
    · have e1 := p7 f' t' q1 q2 q3 q4 q5
      have e2 := q7 f t p1 p2 p3 p4 p5
      right
      by_cases e : 16 * f + t < 16 * f' + t'
      · have := e2.2 e
        omega
      · by_cases e' : 16 * f' + t' < 16 * f + t
        · have := e1.2 e'
          omega
        · omega
def zz_H (A : Int → Int) : Int → Int := fun c => A (8 + c)
def zz_own (A : Int → Int) (d f t : Int) : Prop := zz_pick (A 0 * A 1) (zz_mh A) (fun a b => zz_wo A (zz_H (zz_mv A a b)) d) (zz_wo A (zz_H A) d) f t
/-- the row whose map is the land with a haul done -/
def zz_plan (A : Int → Int) (f t : Int) : Int → Int := fun y => if 24 ≤ y ∧ y < 24 + A 0 * A 1 then (if 0 ≤ f then (if y = 24 + f then A (y - 16) - 1 else if y = 24 + t then A (y - 16) + 1 else A (y - 16)) else A (y - 16)) else A y
def zz_ah (A : Int → Int) (d v : Int) : Prop := ∃ f t A' l u, zz_own A ((d + 1) % A 7) f t ∧ zz_dgd (zz_plan A f t) A' l u ∧ v = zz_wo A (zz_H A') d
noncomputable def zz_ahv (A : Int → Int) (d : Int) : Int := @dite _ (∃ v, zz_ah A d v) (Classical.propDecidable _) (fun h => Classical.choose h) (fun _ => 0)
theorem zz_plan_n {A : Int → Int} {f f' t t' : Int} (h : f < 0) (h' : f' < 0) : zz_plan A f t = zz_plan A f' t' := by
  funext y
  unfold zz_plan
  rw [if_neg (by omega : ¬ 0 ≤ f), if_neg (by omega : ¬ 0 ≤ f')]
theorem zz_plan01 {A : Int → Int} {f t : Int} : zz_plan A f t 0 = A 0 ∧ zz_plan A f t 1 = A 1 := ⟨if_neg (by omega), if_neg (by omega)⟩
theorem zz_ah_u {A : Int → Int} {d v v' : Int} (hn : 0 ≤ A 0 * A 1) (hn2 : A 0 * A 1 ≤ 16) (h : zz_ah A d v) (h' : zz_ah A d v') : v = v' := by
  obtain ⟨f, t, A1, l, u, p1, p2, rfl⟩ := h
  obtain ⟨f', t', A2, l', u', q1, q2, rfl⟩ := h'
  have e : zz_plan A f t = zz_plan A f' t' := by
    rcases zz_pick_u hn2 p1 q1 with ⟨r1, r2⟩ | ⟨r1, r2, r3⟩
    · exact zz_plan_n r1 r2
    · rw [r2, r3]
  rw [e] at p2
  have := zz_dgd_u (by rw [zz_plan01.1, zz_plan01.2]; exact hn) p2 q2
  rw [this.1]
theorem zz_ahv_v {A : Int → Int} {d v : Int} (hn : 0 ≤ A 0 * A 1) (hn2 : A 0 * A 1 ≤ 16) (h : zz_ah A d v) : zz_ahv A d = v := by
  have hx : ∃ v, zz_ah A d v := ⟨v, h⟩
  unfold zz_ahv
  rw [dif_pos hx]
  exact zz_ah_u hn hn2 (Classical.choose_spec hx) h
theorem zz_ahv_b {A : Int → Int} {d : Int} (h : zz_dok A d) : 0 ≤ zz_ahv A d ∧ zz_ahv A d ≤ 396 := by
  unfold zz_ahv
  by_cases hx : ∃ v, zz_ah A d v
  · rw [dif_pos hx]
    obtain ⟨f, t, A1, l, u, p1, p2, p3⟩ := Classical.choose_spec hx
    rw [p3]
    exact zz_wo_b h
  · rw [dif_neg hx]
    omega
noncomputable def zz_val (A : Int → Int) (d kind hours : Int) : Int := if kind = 2 then zz_wa A (zz_H A) else if kind = 3 ∨ kind = 7 then zz_wo A (zz_H A) d - hours else if kind = 4 then zz_ahv A d else zz_wo A (zz_H A) d
theorem zz_val_b {Y : Int} {A : Int → Int} {d kind hours : Int} (hA : zz_ok Y A) (hd : 0 ≤ d) (hd1 : d < A 7) (h0 : 0 ≤ hours) (h1 : hours ≤ 100) : -100 ≤ zz_val A d kind hours ∧ zz_val A d kind hours ≤ 2376 := by
  have e1 := zz_wo_b (g := zz_H A) (hA.2.2.2.2.2.2.2.2 d hd hd1)
  have e2 := zz_wa_b (g := zz_H A) hA
  have e3 := zz_ahv_b (hA.2.2.2.2.2.2.2.2 d hd hd1)
  unfold zz_val
  split
  · omega
  · split
    · omega
    · split <;> omega
/-- the haul that a drawer draws -/
def zz_fdn (A : Int → Int) (d kind f t : Int) : Prop := zz_pick (A 0 * A 1) (fun a b => zz_mh A a b ∧ (kind = 7 → zz_nr (A 1) a b ≤ A (41 + 15 * d))) (fun a b => zz_val (zz_mv A a b) d kind (zz_hh A a b)) (zz_val A d kind 0) f t
theorem zz_wo_h {A A' g : Int → Int} {d : Int} (hd : 0 ≤ d) (h : ∀ y, 40 ≤ y → A' y = A y) : zz_wo A' g d = zz_wo A g d := by
  unfold zz_wo
  rw [h (42 + 15 * d) (by omega)]
  by_cases q : 0 ≤ A (42 + 15 * d)
  · refine zz_sum_c q (fun w w0 w1 => ?_)
    show zz_wi A' d w (g (A' (43 + 15 * d + 3 * w))) = zz_wi A d w (g (A (43 + 15 * d + 3 * w)))
    unfold zz_wi
    rw [h (43 + 15 * d + 3 * w) (by omega), h (44 + 15 * d + 3 * w) (by omega), h (45 + 15 * d + 3 * w) (by omega)]
  · have e : (A (42 + 15 * d)).toNat = 0 := by omega
    unfold zz_sum
    rw [e]
    rfl
section ZFIN
variable {T : List mv_T} {J : Nat → Int → Int} {R : Nat → Nat → Option Nat} {G : Nat → Nat → Int64} {d : Nat} {Y : Int}
def zz_fg (w : Nat) (J J' : Nat → Int → Int) : Prop := (∀ x, x ≠ 131 → x ≠ 132 → (x < 143 ∨ x = 147 ∨ w < x) → J' x = J x) ∧ ∀ y, (y < 16 ∨ 30 < y) → J' 131 y = J 131 y
theorem zz_fg_t {w : Nat} {J1 J2 J3 : Nat → Int → Int} (h : zz_fg w J1 J2) (h' : zz_fg w J2 J3) : zz_fg w J1 J3 := ⟨fun x x1 x2 x3 => by rw [h'.1 x x1 x2 x3, h.1 x x1 x2 x3], fun y hy => by rw [h'.2 y hy, h.2 y hy]⟩
theorem zz_fg_r {w : Nat} : zz_fg w J J := ⟨fun _ _ _ _ => rfl, fun _ _ => rfl⟩
theorem zz_fg_w {w : Nat} {A : Int → Int} : zz_fg w J (zz_w J 132 A) := ⟨fun x _ x2 _ => zw_n x2, fun y _ => by rw [zw_n (by omega)]⟩
theorem zz_hh_b {A : Int → Int} {a b : Int} (hA : zz_ok Y A) (h0 : 0 ≤ a) (h1 : a < A 0 * A 1) (h2 : 0 ≤ b) (h3 : b < A 0 * A 1) : 0 ≤ zz_hh A a b ∧ zz_hh A a b ≤ 21 := by
  have hnr := zz_nr_b hA.1.1 hA.1.2.1 hA.1.2.2.1 hA.1.2.2.2 h0 h1 h2 h3
  have ha := hA.2.2.2.2.2.2.2.1 a h0 h1
  have hb := hA.2.2.2.2.2.2.2.1 b h2 h3
  unfold zz_hh
  omega
theorem zz_mh_ok {A : Int → Int} {a b : Int} (hA : zz_ok Y A) (h0 : 0 ≤ a) (h1 : a < A 0 * A 1) (h2 : 0 ≤ b) (h3 : b < A 0 * A 1) (h : zz_mh A a b) : zz_ok Y (zz_mv A a b) := zz_ok_mv hA h0 h1 h2 h3 h.1 h.2.1 h.2.2.1
theorem r_186 (hL : ZL T R) (hA : zz_ok Y (J 132)) (hd : 4 ≤ d) {w : Nat} {e kind : Int} (he0 : 0 ≤ e) (he1 : e < J 132 7) (hk : 0 ≤ kind ∧ kind ≤ 7)
    (hG : ∀ J1 h, zz_fg w J J1 → zz_ok Y (J1 132) → (∀ y, (y < 8 ∨ 24 ≤ y) → J1 132 y = J 132 y) → 0 ≤ h → h ≤ 100 → ∃ J2, mv_cax (d - 1) 185 [.inr (.inr (some 131)), .inl (mv_c e), .inl (mv_c kind), .inl (mv_c h)] (zz_S T J1 R G) = some (some (.inl (mv_c (zz_val (J1 132) e kind h))), zz_S T J2 R G) ∧ zz_fg w J1 J2 ∧ J2 132 = J1 132) :
    ∃ J' f t, mv_cax d 186 [.inr (.inr (some 131)), .inl (mv_c e), .inl (mv_c kind)] (zz_S T J R G) = some (none, zz_S T J' R G) ∧ zz_fg w J J' ∧ J' 132 = J 132 ∧ J' 131 29 = f ∧ J' 131 30 = t ∧ (-4 ≤ f ∧ -4 ≤ t ∧ t < 16 ∧ f < 16) ∧ zz_fdn (J 132) e kind f t := by
  have hn := hA.n
  have h7 := hA.2.2.2.2.2.2.1
  have hdk := hA.2.2.2.2.2.2.2.2 e he0 he1
  have hd41 := hdk.2.1
  suffices h : ∃ r, mv_cax d 186 [.inr (.inr (some 131)), .inl (mv_c e), .inl (mv_c kind)] (zz_S T J R G) = some r ∧ ∃ J' f t, r = (none, zz_S T J' R G) ∧ zz_fg w J J' ∧ J' 132 = J 132 ∧ J' 131 29 = f ∧ J' 131 30 = t ∧ (-4 ≤ f ∧ -4 ≤ t ∧ t < 16 ∧ f < 16) ∧ zz_fdn (J 132) e kind f t by
    obtain ⟨r, h1, J', f, t, rfl, h2⟩ := h
    exact ⟨J', f, t, h1, h2⟩
  refine zz_call (by omega) t_186 rfl (fun n => e_186 _ _ _ _) ?_
  obtain ⟨Q, hQ⟩ : ∃ Q : Option mv_V × mv_S → Prop, Q = fun r => ∃ J' f t, r = (none, zz_S T J' R G) ∧ zz_fg w J J' ∧ J' 132 = J 132 ∧ J' 131 29 = f ∧ J' 131 30 = t ∧ (-4 ≤ f ∧ -4 ≤ t ∧ t < 16 ∧ f < 16) ∧ zz_fdn (J 132) e kind f t := ⟨_, rfl⟩
  rw [← hQ]
  obtain ⟨J2, g1, g2, g3⟩ := hG J 0 zz_fg_r hA (fun _ _ => rfl) (by omega) (by omega)
  simp (maxSteps := 5000000) (disch := first | assumption | omega) only [g1, zr_131_0, zr_131_1, zr_131_2, zr_131_3, zr_131_4, zr_131_5, zr_131_6, zr_131_7, zr_131_8, zg_131_9, zp_131_9, zg_131_10, zp_131_10, zg_131_11, zp_131_11, zg_131_12, zp_131_12, zg_131_13, zp_131_13, zg_131_14, zp_131_14, zr_131_15, zg_131_16, zp_131_16, zg_131_17, zp_131_17, zr_131_18, zr_131_19, zr_131_20, zr_131_21, zr_131_22, zg_131_23, zp_131_23, zr_131_24, zg_131_25, zp_131_25, zg_131_26, zp_131_26, zr_131_27, zr_131_28, zg_131_29, zp_131_29, zg_131_30, zp_131_30, zr_131_31, zr_131_32, zr_131_33, zr_131_34, zr_131_35, zi_131, za_132, zs_132, zl_132, za_133, zs_133, zl_133, za_134, zs_134, zl_134, za_135, zs_135, zl_135, za_136, zs_136, zl_136, za_137, zs_137, zl_137, za_138, zs_138, zl_138, za_139, zs_139, zl_139, za_140, zs_140, zl_140, za_141, zs_141, zl_141, za_142, zs_142, zl_142, za_143, zs_143, zl_143, za_144, zs_144, zl_144, za_145, zs_145, zl_145, za_146, zs_146, zl_146, za_147, zs_147, zl_147, za_148, zs_148, zl_148, za_149, zs_149, zl_149, za_150, zs_150, zl_150, za_151, zs_151, zl_151, za_152, zs_152, zl_152, za_153, zs_153, zl_153, za_154, zs_154, zl_154, zz_0, zz_31, zz_add, zz_sub, zz_mul, zz_neg, zz_lt, zz_le, zz_eq, zz_div, zz_md, zz_dv, zz_abs, zz_max, zz_min, zz_nI, zz_be0, zz_be1, zz_zb, zz_z, zz_l0, zz_l, zz_lcmp, zo_rf, zo_nl, zo_nn, zo_rI, zo_rL, zo_rR, zo_rV, Int.add_zero, Int.zero_add, Int.mul_zero, Int.zero_mul, Int.one_mul, Int.mul_one, if_true, if_false, not_true_eq_false, not_false_eq_true]
  -- what is known of the hauls that were looked at
  have hpk : ∀ (S : Int → Int → Prop) (f t most : Int), Prop := fun S f t most => True
  clear hpk
  let PK : (Int → Int → Prop) → Int × Int × Int → Prop := fun S q => (q.1 = -4 ∧ q.2.1 = -4 ∧ q.2.2 = zz_val (J 132) e kind 0 ∧ ∀ a b, 0 ≤ a → a < J 132 0 * J 132 1 → 0 ≤ b → b < J 132 0 * J 132 1 → S a b → (zz_mh (J 132) a b ∧ (kind = 7 → zz_nr (J 132 1) a b ≤ J 132 (41 + 15 * e))) → zz_val (zz_mv (J 132) a b) e kind (zz_hh (J 132) a b) ≤ zz_val (J 132) e kind 0) ∨ ((0 ≤ q.1 ∧ q.1 < J 132 0 * J 132 1 ∧ 0 ≤ q.2.1 ∧ q.2.1 < J 132 0 * J 132 1) ∧ S q.1 q.2.1 ∧ (zz_mh (J 132) q.1 q.2.1 ∧ (kind = 7 → zz_nr (J 132 1) q.1 q.2.1 ≤ J 132 (41 + 15 * e))) ∧ q.2.2 = zz_val (zz_mv (J 132) q.1 q.2.1) e kind (zz_hh (J 132) q.1 q.2.1) ∧ zz_val (J 132) e kind 0 < q.2.2 ∧ ∀ a b, 0 ≤ a → a < J 132 0 * J 132 1 → 0 ≤ b → b < J 132 0 * J 132 1 → S a b → (zz_mh (J 132) a b ∧ (kind = 7 → zz_nr (J 132 1) a b ≤ J 132 (41 + 15 * e))) → zz_val (zz_mv (J 132) a b) e kind (zz_hh (J 132) a b) ≤ q.2.2 ∧ (16 * a + b < 16 * q.1 + q.2.1 → zz_val (zz_mv (J 132) a b) e kind (zz_hh (J 132) a b) < q.2.2))
  have hPK : ∀ S q, PK S q = ((q.1 = -4 ∧ q.2.1 = -4 ∧ q.2.2 = zz_val (J 132) e kind 0 ∧ ∀ a b, 0 ≤ a → a < J 132 0 * J 132 1 → 0 ≤ b → b < J 132 0 * J 132 1 → S a b → (zz_mh (J 132) a b ∧ (kind = 7 → zz_nr (J 132 1) a b ≤ J 132 (41 + 15 * e))) → zz_val (zz_mv (J 132) a b) e kind (zz_hh (J 132) a b) ≤ zz_val (J 132) e kind 0) ∨ ((0 ≤ q.1 ∧ q.1 < J 132 0 * J 132 1 ∧ 0 ≤ q.2.1 ∧ q.2.1 < J 132 0 * J 132 1) ∧ S q.1 q.2.1 ∧ (zz_mh (J 132) q.1 q.2.1 ∧ (kind = 7 → zz_nr (J 132 1) q.1 q.2.1 ≤ J 132 (41 + 15 * e))) ∧ q.2.2 = zz_val (zz_mv (J 132) q.1 q.2.1) e kind (zz_hh (J 132) q.1 q.2.1) ∧ zz_val (J 132) e kind 0 < q.2.2 ∧ ∀ a b, 0 ≤ a → a < J 132 0 * J 132 1 → 0 ≤ b → b < J 132 0 * J 132 1 → S a b → (zz_mh (J 132) a b ∧ (kind = 7 → zz_nr (J 132 1) a b ≤ J 132 (41 + 15 * e))) → zz_val (zz_mv (J 132) a b) e kind (zz_hh (J 132) a b) ≤ q.2.2 ∧ (16 * a + b < 16 * q.1 + q.2.1 → zz_val (zz_mv (J 132) a b) e kind (zz_hh (J 132) a b) < q.2.2))) := fun _ _ => rfl
  have mono : ∀ (S S' : Int → Int → Prop) q, (∀ a b, 0 ≤ a → a < J 132 0 * J 132 1 → 0 ≤ b → b < J 132 0 * J 132 1 → (S a b ↔ S' a b)) → PK S q → PK S' q := by
    intro S S' q hs h
    rw [hPK] at h ⊢
    rcases h with ⟨p1, p2, p3, p4⟩ | ⟨p0, p1, p2, p3, p4, p5⟩
    · exact Or.inl ⟨p1, p2, p3, fun a b r0 r1 r2 r3 r4 => p4 a b r0 r1 r2 r3 ((hs a b r0 r1 r2 r3).mpr r4)⟩
    · exact Or.inr ⟨p0, (hs _ _ p0.1 p0.2.1 p0.2.2.1 p0.2.2.2).mp p1, p2, p3, p4, fun a b r0 r1 r2 r3 r4 => p5 a b r0 r1 r2 r3 ((hs a b r0 r1 r2 r3).mpr r4)⟩
  have rng : ∀ S q, PK S q → (-4 ≤ q.1 ∧ q.1 < 16 ∧ -4 ≤ q.2.1 ∧ q.2.1 < 16) ∧ -100 ≤ q.2.2 ∧ q.2.2 ≤ 2376 := by
    intro S q h
    rw [hPK] at h
    rcases h with ⟨p1, p2, p3, p4⟩ | ⟨p0, p1, p2, p3, p4, p5⟩
    · have := zz_val_b (kind := kind) hA he0 he1 (Int.le_refl 0) (by omega)
      omega
    · have hh := zz_hh_b hA p0.1 p0.2.1 p0.2.2.1 p0.2.2.2
      have := zz_val_b (kind := kind) (hours := zz_hh (J 132) q.1 q.2.1) (zz_mh_ok hA p0.1 p0.2.1 p0.2.2.1 p0.2.2.2 p2.1) he0 (by rw [zz_mv_o (by omega) (by omega)]; exact he1) hh.1 (by omega)
      omega
  clear_value PK
  refine zz_loop (α := (Int × Int × Int) × (Nat → Int → Int)) (run := fun a q n => mv_run (mv_cax (d - 1)) mm_186 n 19 [(0, .inr (.inr (some 131))), (1, .inl (mv_c e)), (2, .inl (mv_c kind)), (3, .inl (mv_c q.1.1)), (4, .inl (mv_c q.1.2.1)), (5, .inl (mv_c q.1.2.2)), (6, .inl (mv_c a))] [] (zz_S T q.2 R G)) (J 132 0 * J 132 1) (fun a q => 0 ≤ a ∧ zz_fg w J q.2 ∧ q.2 132 = J 132 ∧ PK (fun a' _ => a' < a) q.1) ?_ ?_ (J 132 0 * J 132 1).toNat 0 ((-4, -4, zz_val (J 132) e kind 0), J2) (by omega) ⟨by omega, g2, g3, ?_⟩
  · rintro a ⟨q, J1⟩ ⟨ha, hf, h132, hq⟩ hlt kk
    have hf : zz_fg w J J1 := hf
    have h132 : J1 132 = J 132 := h132
    have hq : PK (fun a' _ => a' < a) q := hq
    refine zz_Es (fun n => e_186_19 _ _ _ _ _ _ _ _) ?_
    simp (maxSteps := 5000000) (disch := first | assumption | omega) only [r_135, h132, zr_131_0, zr_131_1, zr_131_2, zr_131_3, zr_131_4, zr_131_5, zr_131_6, zr_131_7, zr_131_8, zg_131_9, zp_131_9, zg_131_10, zp_131_10, zg_131_11, zp_131_11, zg_131_12, zp_131_12, zg_131_13, zp_131_13, zg_131_14, zp_131_14, zr_131_15, zg_131_16, zp_131_16, zg_131_17, zp_131_17, zr_131_18, zr_131_19, zr_131_20, zr_131_21, zr_131_22, zg_131_23, zp_131_23, zr_131_24, zg_131_25, zp_131_25, zg_131_26, zp_131_26, zr_131_27, zr_131_28, zg_131_29, zp_131_29, zg_131_30, zp_131_30, zr_131_31, zr_131_32, zr_131_33, zr_131_34, zr_131_35, zi_131, za_132, zs_132, zl_132, za_133, zs_133, zl_133, za_134, zs_134, zl_134, za_135, zs_135, zl_135, za_136, zs_136, zl_136, za_137, zs_137, zl_137, za_138, zs_138, zl_138, za_139, zs_139, zl_139, za_140, zs_140, zl_140, za_141, zs_141, zl_141, za_142, zs_142, zl_142, za_143, zs_143, zl_143, za_144, zs_144, zl_144, za_145, zs_145, zl_145, za_146, zs_146, zl_146, za_147, zs_147, zl_147, za_148, zs_148, zl_148, za_149, zs_149, zl_149, za_150, zs_150, zl_150, za_151, zs_151, zl_151, za_152, zs_152, zl_152, za_153, zs_153, zl_153, za_154, zs_154, zl_154, zz_0, zz_31, zz_add, zz_sub, zz_mul, zz_neg, zz_lt, zz_le, zz_eq, zz_div, zz_md, zz_dv, zz_abs, zz_max, zz_min, zz_nI, zz_be0, zz_be1, zz_zb, zz_z, zz_l0, zz_l, zz_lcmp, zo_rf, zo_nl, zo_nn, zo_rI, zo_rL, zo_rR, zo_rV, Int.add_zero, Int.zero_add, Int.mul_zero, Int.zero_mul, Int.one_mul, Int.mul_one, if_true, if_false, not_true_eq_false, not_false_eq_true]
    refine zz_Ei (fun h => absurd h (by omega)) (fun _ => ?_)
    refine zz_loop (α := (Int × Int × Int) × (Nat → Int → Int)) (run := fun b q n => mv_run (mv_cax (d - 1)) mm_186 n 31 [(0, .inr (.inr (some 131))), (1, .inl (mv_c e)), (2, .inl (mv_c kind)), (3, .inl (mv_c q.1.1)), (4, .inl (mv_c q.1.2.1)), (5, .inl (mv_c q.1.2.2)), (6, .inl (mv_c a)), (7, .inl (mv_c b))] [] (zz_S T q.2 R G)) (J 132 0 * J 132 1) (fun b q => 0 ≤ b ∧ zz_fg w J q.2 ∧ q.2 132 = J 132 ∧ PK (fun a' b' => a' < a ∨ a' = a ∧ b' < b) q.1) ?_ ?_ (J 132 0 * J 132 1).toNat 0 (q, J1) (by omega) ⟨by omega, hf, h132, mono _ _ _ (fun a' b' _ _ _ _ => by omega) hq⟩
    · rintro b ⟨⟨f, t, most⟩, J1⟩ ⟨hb, hf, h132, hq⟩ hbt kb
      have hf : zz_fg w J J1 := hf
      have h132 : J1 132 = J 132 := h132
      have hq : PK (fun a' b' => a' < a ∨ a' = a ∧ b' < b) (f, t, most) := hq
      have hr := rng _ _ hq
      have hr : (-4 ≤ f ∧ f < 16 ∧ -4 ≤ t ∧ t < 16) ∧ -100 ≤ most ∧ most ≤ 2376 := hr
      have hnr := zz_nr_b hA.1.1 hA.1.2.1 hA.1.2.2.1 hA.1.2.2.2 ha hlt hb hbt
      have hhb := zz_hh_b hA ha hlt hb hbt
      have hA1 : zz_ok Y (J1 132) := by rw [h132]; exact hA
      refine zz_Es (fun n => e_186_31 _ _ _ _ _ _ _ _ _) ?_
      have stay : ∀ J3, zz_fg w J J3 → J3 132 = J 132 → (¬ (zz_mh (J 132) a b ∧ (kind = 7 → zz_nr (J 132 1) a b ≤ J 132 (41 + 15 * e))) ∨ zz_val (zz_mv (J 132) a b) e kind (zz_hh (J 132) a b) ≤ most) → zz_E (fun n => mv_run (mv_cax (d - 1)) mm_186 n 31 [(0, .inr (.inr (some 131))), (1, .inl (mv_c e)), (2, .inl (mv_c kind)), (3, .inl (mv_c f)), (4, .inl (mv_c t)), (5, .inl (mv_c most)), (6, .inl (mv_c a)), (7, .inl (mv_c (b + 1)))] [] (zz_S T J3 R G)) Q := by
        intro J3 w1 w2 w3
        refine kb ((f, t, most), J3) ⟨by omega, w1, w2, ?_⟩
        show PK _ (f, t, most)
        rw [hPK] at hq ⊢
        rcases hq with ⟨p1, p2, p3, p4⟩ | ⟨p0, p1, p2, p3, p4, p5⟩
        · have p3 : most = zz_val (J 132) e kind 0 := p3
          refine Or.inl ⟨p1, p2, p3, fun a' b' r0 r1 r2 r3 r4 r5 => ?_⟩
          by_cases q : a' = a ∧ b' = b
          · obtain ⟨rfl, rfl⟩ := q
            rcases w3 with w3 | w3
            · exact absurd r5 w3
            · omega
          · exact p4 a' b' r0 r1 r2 r3 (by omega) r5
        · have p1 : f < a ∨ f = a ∧ t < b := p1
          refine Or.inr ⟨p0, by show f < a ∨ f = a ∧ t < b + 1; omega, p2, p3, p4, fun a' b' r0 r1 r2 r3 r4 r5 => ?_⟩
          by_cases q : a' = a ∧ b' = b
          · obtain ⟨rfl, rfl⟩ := q
            rcases w3 with w3 | w3
            · exact absurd r5 w3
            · have p0' : 0 ≤ t ∧ t < J 132 0 * J 132 1 := ⟨p0.2.2.1, p0.2.2.2⟩
              exact ⟨w3, fun q => by have q : 16 * a' + b' < 16 * f + t := q; omega⟩
          · exact p5 a' b' r0 r1 r2 r3 (by omega) r5
      have upd : ∀ J3, zz_fg w J J3 → J3 132 = J 132 → zz_mh (J 132) a b → (kind = 7 → zz_nr (J 132 1) a b ≤ J 132 (41 + 15 * e)) → most < zz_val (zz_mv (J 132) a b) e kind (zz_hh (J 132) a b) → zz_E (fun n => mv_run (mv_cax (d - 1)) mm_186 n 31 [(0, .inr (.inr (some 131))), (1, .inl (mv_c e)), (2, .inl (mv_c kind)), (3, .inl (mv_c a)), (4, .inl (mv_c b)), (5, .inl (mv_c (zz_val (zz_mv (J 132) a b) e kind (zz_hh (J 132) a b)))), (6, .inl (mv_c a)), (7, .inl (mv_c (b + 1)))] [] (zz_S T J3 R G)) Q := by
        intro J3 w1 w2 w3 w4 w5
        refine kb ((a, b, zz_val (zz_mv (J 132) a b) e kind (zz_hh (J 132) a b)), J3) ⟨by omega, w1, w2, ?_⟩
        show PK _ (a, b, _)
        rw [hPK] at hq ⊢
        right
        have hV0 : zz_val (J 132) e kind 0 ≤ most := by
          rcases hq with ⟨p1, p2, p3, p4⟩ | ⟨p0, p1, p2, p3, p4, p5⟩
          · have p3 : most = zz_val (J 132) e kind 0 := p3
            omega
          · have p4 : zz_val (J 132) e kind 0 < most := p4
            omega
        refine ⟨⟨ha, hlt, hb, hbt⟩, by show a < a ∨ a = a ∧ b < b + 1; omega, ⟨w3, w4⟩, rfl, by show zz_val (J 132) e kind 0 < zz_val (zz_mv (J 132) a b) e kind _; omega, fun a' b' r0 r1 r2 r3 r4 r5 => ?_⟩
        show _ ≤ zz_val (zz_mv (J 132) a b) e kind (zz_hh (J 132) a b) ∧ (_ → _ < zz_val (zz_mv (J 132) a b) e kind (zz_hh (J 132) a b))
        by_cases q : a' = a ∧ b' = b
        · obtain ⟨rfl, rfl⟩ := q
          exact ⟨Int.le_refl _, fun q => by have q : 16 * a' + b' < 16 * a' + b' := q; omega⟩
        · have : zz_val (zz_mv (J 132) a' b') e kind (zz_hh (J 132) a' b') ≤ most := by
            rcases hq with ⟨p1, p2, p3, p4⟩ | ⟨p0, p1, p2, p3, p4, p5⟩
            · have p3 : most = zz_val (J 132) e kind 0 := p3
              have := p4 a' b' r0 r1 r2 r3 (by omega) r5
              omega
            · exact (p5 a' b' r0 r1 r2 r3 (by omega) r5).1
          exact ⟨by omega, fun _ => by omega⟩
      have r164 := r_164 (T := T) (J := J1) (R := R) (G := G) (d := d - 1) (Y := Y) (a := a) (b := b) (by omega) hL hA1 ha (by rw [h132]; exact hlt) hb (by rw [h132]; exact hbt)
      have r165 := r_165 (T := T) (J := J1) (R := R) (G := G) (d := d - 1) (Y := Y) (a := a) (b := b) (by omega) hL hA1 ha (by rw [h132]; exact hlt) hb (by rw [h132]; exact hbt)
      have r143 := r_143 (T := T) (J := J1) (R := R) (G := G) (d := d - 1) (Y := Y) (a := a) (b := b) (by omega) hL hA1 ha (by rw [h132]; exact hlt) hb (by rw [h132]; exact hbt)
      rw [h132] at r164 r165 r143
      simp (maxSteps := 5000000) (disch := first | assumption | omega) only [r_135, h132, r164, zr_131_0, zr_131_1, zr_131_2, zr_131_3, zr_131_4, zr_131_5, zr_131_6, zr_131_7, zr_131_8, zg_131_9, zp_131_9, zg_131_10, zp_131_10, zg_131_11, zp_131_11, zg_131_12, zp_131_12, zg_131_13, zp_131_13, zg_131_14, zp_131_14, zr_131_15, zg_131_16, zp_131_16, zg_131_17, zp_131_17, zr_131_18, zr_131_19, zr_131_20, zr_131_21, zr_131_22, zg_131_23, zp_131_23, zr_131_24, zg_131_25, zp_131_25, zg_131_26, zp_131_26, zr_131_27, zr_131_28, zg_131_29, zp_131_29, zg_131_30, zp_131_30, zr_131_31, zr_131_32, zr_131_33, zr_131_34, zr_131_35, zi_131, za_132, zs_132, zl_132, za_133, zs_133, zl_133, za_134, zs_134, zl_134, za_135, zs_135, zl_135, za_136, zs_136, zl_136, za_137, zs_137, zl_137, za_138, zs_138, zl_138, za_139, zs_139, zl_139, za_140, zs_140, zl_140, za_141, zs_141, zl_141, za_142, zs_142, zl_142, za_143, zs_143, zl_143, za_144, zs_144, zl_144, za_145, zs_145, zl_145, za_146, zs_146, zl_146, za_147, zs_147, zl_147, za_148, zs_148, zl_148, za_149, zs_149, zl_149, za_150, zs_150, zl_150, za_151, zs_151, zl_151, za_152, zs_152, zl_152, za_153, zs_153, zl_153, za_154, zs_154, zl_154, zz_0, zz_31, zz_add, zz_sub, zz_mul, zz_neg, zz_lt, zz_le, zz_eq, zz_div, zz_md, zz_dv, zz_abs, zz_max, zz_min, zz_nI, zz_be0, zz_be1, zz_zb, zz_z, zz_l0, zz_l, zz_lcmp, zo_rf, zo_nl, zo_nn, zo_rI, zo_rL, zo_rR, zo_rV, Int.add_zero, Int.zero_add, Int.mul_zero, Int.zero_mul, Int.one_mul, Int.mul_one, if_true, if_false, not_true_eq_false, not_false_eq_true]
      refine zz_Ei (fun h => absurd h (by omega)) (fun _ => ?_)
      refine zz_Ei (fun h => by rw [zz_be0] at h; exact stay J1 hf h132 (Or.inl (fun q => h q.1))) (fun h1 => ?_)
      rw [zz_be0] at h1
      have hmh : zz_mh (J 132) a b := Classical.not_not.mp h1
      have r166 := r_166 (T := T) (J := J1) (R := R) (G := G) (d := d - 1) (a := a) (b := b) (by omega) hL hmh.1 ha (by omega) hb (by omega)
      rw [h132] at r166
      obtain ⟨J3, s1, s2, s3⟩ := hG (zz_w J1 132 (zz_mv (J 132) a b)) (zz_hh (J 132) a b) (zz_fg_t hf zz_fg_w) (by rw [zw_s]; exact zz_mh_ok hA ha hlt hb hbt hmh) (fun y hy => by rw [zw_s]; exact zz_mv_o (by omega) (by omega)) hhb.1 (by omega)
      rw [zw_s] at s1 s3
      have r166' := r_166 (T := T) (J := J3) (R := R) (G := G) (d := d - 1) (a := b) (b := a) (by omega) hL (fun q => hmh.1 q.symm) hb (by omega) ha (by omega)
      rw [s3, zz_mvb hmh.1] at r166'
      have hf3 : zz_fg w J (zz_w J3 132 (J 132)) := zz_fg_t (zz_fg_t (zz_fg_t hf zz_fg_w) s2) zz_fg_w
      have hvb := zz_val_b (kind := kind) (hours := zz_hh (J 132) a b) (zz_mh_ok hA ha hlt hb hbt hmh) he0 (by rw [zz_mv_o (by omega) (by omega)]; exact he1) hhb.1 (by omega)
      refine zz_Ei (fun h7' => ?_) (fun h7' => ?_)
      · simp (maxSteps := 5000000) (disch := first | assumption | omega) only [r143, r_140_1, h132, zr_131_0, zr_131_1, zr_131_2, zr_131_3, zr_131_4, zr_131_5, zr_131_6, zr_131_7, zr_131_8, zg_131_9, zp_131_9, zg_131_10, zp_131_10, zg_131_11, zp_131_11, zg_131_12, zp_131_12, zg_131_13, zp_131_13, zg_131_14, zp_131_14, zr_131_15, zg_131_16, zp_131_16, zg_131_17, zp_131_17, zr_131_18, zr_131_19, zr_131_20, zr_131_21, zr_131_22, zg_131_23, zp_131_23, zr_131_24, zg_131_25, zp_131_25, zg_131_26, zp_131_26, zr_131_27, zr_131_28, zg_131_29, zp_131_29, zg_131_30, zp_131_30, zr_131_31, zr_131_32, zr_131_33, zr_131_34, zr_131_35, zi_131, za_132, zs_132, zl_132, za_133, zs_133, zl_133, za_134, zs_134, zl_134, za_135, zs_135, zl_135, za_136, zs_136, zl_136, za_137, zs_137, zl_137, za_138, zs_138, zl_138, za_139, zs_139, zl_139, za_140, zs_140, zl_140, za_141, zs_141, zl_141, za_142, zs_142, zl_142, za_143, zs_143, zl_143, za_144, zs_144, zl_144, za_145, zs_145, zl_145, za_146, zs_146, zl_146, za_147, zs_147, zl_147, za_148, zs_148, zl_148, za_149, zs_149, zl_149, za_150, zs_150, zl_150, za_151, zs_151, zl_151, za_152, zs_152, zl_152, za_153, zs_153, zl_153, za_154, zs_154, zl_154, zz_0, zz_31, zz_add, zz_sub, zz_mul, zz_neg, zz_lt, zz_le, zz_eq, zz_div, zz_md, zz_dv, zz_abs, zz_max, zz_min, zz_nI, zz_be0, zz_be1, zz_zb, zz_z, zz_l0, zz_l, zz_lcmp, zo_rf, zo_nl, zo_nn, zo_rI, zo_rL, zo_rR, zo_rV, Int.add_zero, Int.zero_add, Int.mul_zero, Int.zero_mul, Int.one_mul, Int.mul_one, if_true, if_false, not_true_eq_false, not_false_eq_true]
        refine zz_Ei (fun h8 => ?_) (fun h8 => stay J1 hf h132 (Or.inl (fun q => h8 (q.2 h7'))))
        simp (maxSteps := 5000000) (disch := first | assumption | omega) only [r165, r166, s1, r166', zr_131_0, zr_131_1, zr_131_2, zr_131_3, zr_131_4, zr_131_5, zr_131_6, zr_131_7, zr_131_8, zg_131_9, zp_131_9, zg_131_10, zp_131_10, zg_131_11, zp_131_11, zg_131_12, zp_131_12, zg_131_13, zp_131_13, zg_131_14, zp_131_14, zr_131_15, zg_131_16, zp_131_16, zg_131_17, zp_131_17, zr_131_18, zr_131_19, zr_131_20, zr_131_21, zr_131_22, zg_131_23, zp_131_23, zr_131_24, zg_131_25, zp_131_25, zg_131_26, zp_131_26, zr_131_27, zr_131_28, zg_131_29, zp_131_29, zg_131_30, zp_131_30, zr_131_31, zr_131_32, zr_131_33, zr_131_34, zr_131_35, zi_131, za_132, zs_132, zl_132, za_133, zs_133, zl_133, za_134, zs_134, zl_134, za_135, zs_135, zl_135, za_136, zs_136, zl_136, za_137, zs_137, zl_137, za_138, zs_138, zl_138, za_139, zs_139, zl_139, za_140, zs_140, zl_140, za_141, zs_141, zl_141, za_142, zs_142, zl_142, za_143, zs_143, zl_143, za_144, zs_144, zl_144, za_145, zs_145, zl_145, za_146, zs_146, zl_146, za_147, zs_147, zl_147, za_148, zs_148, zl_148, za_149, zs_149, zl_149, za_150, zs_150, zl_150, za_151, zs_151, zl_151, za_152, zs_152, zl_152, za_153, zs_153, zl_153, za_154, zs_154, zl_154, zz_0, zz_31, zz_add, zz_sub, zz_mul, zz_neg, zz_lt, zz_le, zz_eq, zz_div, zz_md, zz_dv, zz_abs, zz_max, zz_min, zz_nI, zz_be0, zz_be1, zz_zb, zz_z, zz_l0, zz_l, zz_lcmp, zo_rf, zo_nl, zo_nn, zo_rI, zo_rL, zo_rR, zo_rV, Int.add_zero, Int.zero_add, Int.mul_zero, Int.zero_mul, Int.one_mul, Int.mul_one, if_true, if_false, not_true_eq_false, not_false_eq_true]
        refine zz_Ei (fun h9 => upd _ hf3 zw_s hmh (fun _ => h8) h9) (fun h9 => stay _ hf3 zw_s (Or.inr (by omega)))
      · simp (maxSteps := 5000000) (disch := first | assumption | omega) only [r165, r166, s1, r166', zr_131_0, zr_131_1, zr_131_2, zr_131_3, zr_131_4, zr_131_5, zr_131_6, zr_131_7, zr_131_8, zg_131_9, zp_131_9, zg_131_10, zp_131_10, zg_131_11, zp_131_11, zg_131_12, zp_131_12, zg_131_13, zp_131_13, zg_131_14, zp_131_14, zr_131_15, zg_131_16, zp_131_16, zg_131_17, zp_131_17, zr_131_18, zr_131_19, zr_131_20, zr_131_21, zr_131_22, zg_131_23, zp_131_23, zr_131_24, zg_131_25, zp_131_25, zg_131_26, zp_131_26, zr_131_27, zr_131_28, zg_131_29, zp_131_29, zg_131_30, zp_131_30, zr_131_31, zr_131_32, zr_131_33, zr_131_34, zr_131_35, zi_131, za_132, zs_132, zl_132, za_133, zs_133, zl_133, za_134, zs_134, zl_134, za_135, zs_135, zl_135, za_136, zs_136, zl_136, za_137, zs_137, zl_137, za_138, zs_138, zl_138, za_139, zs_139, zl_139, za_140, zs_140, zl_140, za_141, zs_141, zl_141, za_142, zs_142, zl_142, za_143, zs_143, zl_143, za_144, zs_144, zl_144, za_145, zs_145, zl_145, za_146, zs_146, zl_146, za_147, zs_147, zl_147, za_148, zs_148, zl_148, za_149, zs_149, zl_149, za_150, zs_150, zl_150, za_151, zs_151, zl_151, za_152, zs_152, zl_152, za_153, zs_153, zl_153, za_154, zs_154, zl_154, zz_0, zz_31, zz_add, zz_sub, zz_mul, zz_neg, zz_lt, zz_le, zz_eq, zz_div, zz_md, zz_dv, zz_abs, zz_max, zz_min, zz_nI, zz_be0, zz_be1, zz_zb, zz_z, zz_l0, zz_l, zz_lcmp, zo_rf, zo_nl, zo_nn, zo_rI, zo_rL, zo_rR, zo_rV, Int.add_zero, Int.zero_add, Int.mul_zero, Int.zero_mul, Int.one_mul, Int.mul_one, if_true, if_false, not_true_eq_false, not_false_eq_true]
        refine zz_Ei (fun h9 => upd _ hf3 zw_s hmh (fun q => absurd q h7') h9) (fun h9 => stay _ hf3 zw_s (Or.inr (by omega)))
    · rintro ⟨q, J1⟩ ⟨_, hf, h132, hq⟩
      have h132 : J1 132 = J 132 := h132
      refine zz_Es (fun n => e_186_31 _ _ _ _ _ _ _ _ _) ?_
      simp (maxSteps := 5000000) (disch := first | assumption | omega) only [r_135, h132, zr_131_0, zr_131_1, zr_131_2, zr_131_3, zr_131_4, zr_131_5, zr_131_6, zr_131_7, zr_131_8, zg_131_9, zp_131_9, zg_131_10, zp_131_10, zg_131_11, zp_131_11, zg_131_12, zp_131_12, zg_131_13, zp_131_13, zg_131_14, zp_131_14, zr_131_15, zg_131_16, zp_131_16, zg_131_17, zp_131_17, zr_131_18, zr_131_19, zr_131_20, zr_131_21, zr_131_22, zg_131_23, zp_131_23, zr_131_24, zg_131_25, zp_131_25, zg_131_26, zp_131_26, zr_131_27, zr_131_28, zg_131_29, zp_131_29, zg_131_30, zp_131_30, zr_131_31, zr_131_32, zr_131_33, zr_131_34, zr_131_35, zi_131, za_132, zs_132, zl_132, za_133, zs_133, zl_133, za_134, zs_134, zl_134, za_135, zs_135, zl_135, za_136, zs_136, zl_136, za_137, zs_137, zl_137, za_138, zs_138, zl_138, za_139, zs_139, zl_139, za_140, zs_140, zl_140, za_141, zs_141, zl_141, za_142, zs_142, zl_142, za_143, zs_143, zl_143, za_144, zs_144, zl_144, za_145, zs_145, zl_145, za_146, zs_146, zl_146, za_147, zs_147, zl_147, za_148, zs_148, zl_148, za_149, zs_149, zl_149, za_150, zs_150, zl_150, za_151, zs_151, zl_151, za_152, zs_152, zl_152, za_153, zs_153, zl_153, za_154, zs_154, zl_154, zz_0, zz_31, zz_add, zz_sub, zz_mul, zz_neg, zz_lt, zz_le, zz_eq, zz_div, zz_md, zz_dv, zz_abs, zz_max, zz_min, zz_nI, zz_be0, zz_be1, zz_zb, zz_z, zz_l0, zz_l, zz_lcmp, zo_rf, zo_nl, zo_nn, zo_rI, zo_rL, zo_rR, zo_rV, Int.add_zero, Int.zero_add, Int.mul_zero, Int.zero_mul, Int.one_mul, Int.mul_one, if_true, if_false, not_true_eq_false, not_false_eq_true]
      refine zz_Ei (fun _ => ?_) (fun h => absurd (Int.le_refl _) h)
      exact kk (q, J1) ⟨by omega, hf, h132, mono _ _ _ (fun a' b' _ _ _ _ => by omega) hq⟩
  · rintro ⟨⟨f, t, most⟩, J1⟩ ⟨_, hf, h132, hq⟩
    have hf : zz_fg w J J1 := hf
    have h132 : J1 132 = J 132 := h132
    have hq : PK (fun a' _ => a' < J 132 0 * J 132 1) (f, t, most) := hq
    have hr := rng _ _ hq
    have hr : (-4 ≤ f ∧ f < 16 ∧ -4 ≤ t ∧ t < 16) ∧ -100 ≤ most ∧ most ≤ 2376 := hr
    refine zz_Es (fun n => e_186_19 _ _ _ _ _ _ _ _) ?_
    simp (maxSteps := 5000000) (disch := first | assumption | omega) only [r_135, h132, zr_131_0, zr_131_1, zr_131_2, zr_131_3, zr_131_4, zr_131_5, zr_131_6, zr_131_7, zr_131_8, zg_131_9, zp_131_9, zg_131_10, zp_131_10, zg_131_11, zp_131_11, zg_131_12, zp_131_12, zg_131_13, zp_131_13, zg_131_14, zp_131_14, zr_131_15, zg_131_16, zp_131_16, zg_131_17, zp_131_17, zr_131_18, zr_131_19, zr_131_20, zr_131_21, zr_131_22, zg_131_23, zp_131_23, zr_131_24, zg_131_25, zp_131_25, zg_131_26, zp_131_26, zr_131_27, zr_131_28, zg_131_29, zp_131_29, zg_131_30, zp_131_30, zr_131_31, zr_131_32, zr_131_33, zr_131_34, zr_131_35, zi_131, za_132, zs_132, zl_132, za_133, zs_133, zl_133, za_134, zs_134, zl_134, za_135, zs_135, zl_135, za_136, zs_136, zl_136, za_137, zs_137, zl_137, za_138, zs_138, zl_138, za_139, zs_139, zl_139, za_140, zs_140, zl_140, za_141, zs_141, zl_141, za_142, zs_142, zl_142, za_143, zs_143, zl_143, za_144, zs_144, zl_144, za_145, zs_145, zl_145, za_146, zs_146, zl_146, za_147, zs_147, zl_147, za_148, zs_148, zl_148, za_149, zs_149, zl_149, za_150, zs_150, zl_150, za_151, zs_151, zl_151, za_152, zs_152, zl_152, za_153, zs_153, zl_153, za_154, zs_154, zl_154, zz_0, zz_31, zz_add, zz_sub, zz_mul, zz_neg, zz_lt, zz_le, zz_eq, zz_div, zz_md, zz_dv, zz_abs, zz_max, zz_min, zz_nI, zz_be0, zz_be1, zz_zb, zz_z, zz_l0, zz_l, zz_lcmp, zo_rf, zo_nl, zo_nn, zo_rI, zo_rL, zo_rR, zo_rV, Int.add_zero, Int.zero_add, Int.mul_zero, Int.zero_mul, Int.one_mul, Int.mul_one, if_true, if_false, not_true_eq_false, not_false_eq_true]
    refine zz_Ei (fun _ => ?_) (fun h => absurd (Int.le_refl _) h)
    rw [hQ]
    refine zz_Er ⟨_, f, t, rfl, ⟨fun x x1 x2 x3 => ?_, fun y hy => ?_⟩, ?_, ?_, ?_, by omega, ?_⟩
    · rw [zu_A x1, zu_A x1]
      exact hf.1 x x1 x2 x3
    · rw [zu_k (by omega), zu_k (by omega)]
      exact hf.2 y hy
    · rw [zu_A (by omega), zu_A (by omega), h132]
    · rw [zu_k (by omega), zu_s]
    · rw [zu_s]
    · rw [hPK] at hq
      rcases hq with ⟨p1, p2, p3, p4⟩ | ⟨p0, p1, p2, p3, p4, p5⟩
      · have p1 : f = -4 := p1
        exact Or.inl ⟨by omega, fun a b r0 r1 r2 r3 r4 => p4 a b r0 r1 r2 r3 r1 r4⟩
      · have p3 : most = zz_val (zz_mv (J 132) f t) e kind (zz_hh (J 132) f t) := p3
        subst p3
        exact Or.inr ⟨p0, p2, p4, fun a b r0 r1 r2 r3 r4 => p5 a b r0 r1 r2 r3 r1 r4⟩
  · rw [hPK]
    exact Or.inl ⟨rfl, rfl, rfl, fun a b r0 r1 r2 r3 r4 => by omega⟩
end ZFIN
