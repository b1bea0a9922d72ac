/-! PURE LAYER, 59: the class picks a haul -/
/-- what is known when the hauls with 16 a + b below k were looked at -/
def zk_pk (n : Int) (ok : Int → Int → Prop) (V : Int → Int → Int) (V0 k f t m : Int) : Prop := (f = -1 ∧ t = -1 ∧ m = V0 ∧ ∀ a b, 0 ≤ a → a < n → 0 ≤ b → b < n → 16 * a + b < k → ok a b → V a b ≤ V0) ∨ ((0 ≤ f ∧ f < n ∧ 0 ≤ t ∧ t < n) ∧ 16 * f + t < k ∧ ok f t ∧ m = V f t ∧ V0 < m ∧ ∀ a b, 0 ≤ a → a < n → 0 ≤ b → b < n → 16 * a + b < k → ok a b → V a b ≤ m ∧ (16 * a + b < 16 * f + t → V a b < m))
section ZPK
variable {n : Int} {ok : Int → Int → Prop} {V : Int → Int → Int} {V0 k k' f t m a b : Int}
theorem zk_pk0 : zk_pk n ok V V0 0 (-1) (-1) V0 := Or.inl ⟨rfl, rfl, rfl, fun a b r0 r1 r2 r3 r4 => by omega⟩
theorem zk_pkm (h : zk_pk n ok V V0 k f t m) : V0 ≤ m := by
  rcases h with ⟨p1, p2, p3, p4⟩ | ⟨p0, p1, p2, p3, p4, p5⟩ <;> omega
theorem zk_pkf (h : zk_pk n ok V V0 k f t m) : (f = -1 ∧ t = -1) ∨ (0 ≤ f ∧ f < n ∧ 0 ≤ t ∧ t < n) := by
  rcases h with ⟨p1, p2, p3, p4⟩ | ⟨p0, p1, p2, p3, p4, p5⟩
  · exact Or.inl ⟨p1, p2⟩
  · exact Or.inr p0
/-- pairs that bring no more -/
theorem zk_pks (h : zk_pk n ok V V0 k f t m) (hk : k ≤ k') (hs : ∀ a b, 0 ≤ a → a < n → 0 ≤ b → b < n → k ≤ 16 * a + b → 16 * a + b < k' → ok a b → V a b ≤ m) : zk_pk n ok V V0 k' f t m := by
  rcases h with ⟨p1, p2, p3, p4⟩ | ⟨p0, p1, p2, p3, p4, p5⟩
  · refine Or.inl ⟨p1, p2, p3, fun a b r0 r1 r2 r3 r4 r5 => ?_⟩
    by_cases q : 16 * a + b < k
    · exact p4 a b r0 r1 r2 r3 q r5
    · have := hs a b r0 r1 r2 r3 (by omega) r4 r5
      omega
  · refine Or.inr ⟨p0, by omega, p2, p3, p4, fun a b r0 r1 r2 r3 r4 r5 => ?_⟩
    by_cases q : 16 * a + b < k
    · exact p5 a b r0 r1 r2 r3 q r5
    · exact ⟨hs a b r0 r1 r2 r3 (by omega) r4 r5, fun _ => by omega⟩
theorem zk_pku (h : zk_pk n ok V V0 (16 * a + b) f t m) (hn : n ≤ 16) (a0 : 0 ≤ a) (a1 : a < n) (b0 : 0 ≤ b) (b1 : b < n) (ho : ok a b) (hv : m < V a b) : zk_pk n ok V V0 (16 * a + (b + 1)) a b (V a b) := by
  have hm := zk_pkm h
  refine Or.inr ⟨⟨a0, a1, b0, b1⟩, by omega, ho, rfl, by omega, fun a' b' r0 r1 r2 r3 r4 r5 => ?_⟩
  by_cases q : 16 * a' + b' < 16 * a + b
  · have : V a' b' ≤ m := by
      rcases h with ⟨p1, p2, p3, p4⟩ | ⟨p0, p1, p2, p3, p4, p5⟩
      · have := p4 a' b' r0 r1 r2 r3 q r5
        omega
      · exact (p5 a' b' r0 r1 r2 r3 q r5).1
    exact ⟨by omega, fun _ => by omega⟩
  · have e1 : a' = a := by omega
    have e2 : b' = b := by omega
    subst e1
    subst e2
    exact ⟨Int.le_refl _, fun q' => absurd q' q⟩
theorem zk_pke (h : zk_pk n ok V V0 (16 * n) f t m) (hn : n ≤ 16) : zz_pick n ok V V0 f t := by
  rcases h with ⟨p1, p2, p3, p4⟩ | ⟨p0, p1, p2, p3, p4, p5⟩
  · exact Or.inl ⟨by omega, fun a b r0 r1 r2 r3 r4 => p4 a b r0 r1 r2 r3 (by omega) r4⟩
  · subst p3
    exact Or.inr ⟨p0, p2, p4, fun a b r0 r1 r2 r3 r4 => p5 a b r0 r1 r2 r3 (by omega) r4⟩
end ZPK
/-- the same choice by other numbers -/
theorem zk_pick_c {n : Int} {ok ok' : Int → Int → Prop} {V V' : Int → Int → Int} {V0 V0' f t : Int} (h : zz_pick n ok V V0 f t) (ho : ∀ a b, 0 ≤ a → a < n → 0 ≤ b → b < n → (ok' a b ↔ ok a b)) (hv : ∀ a b, 0 ≤ a → a < n → 0 ≤ b → b < n → ok a b → V' a b - V0' = V a b - V0) : zz_pick n ok' V' V0' f t := by
  rcases h with ⟨p1, p2⟩ | ⟨p0, p1, p2, p3⟩
  · refine Or.inl ⟨p1, fun a b r0 r1 r2 r3 r4 => ?_⟩
    have r5 := (ho a b r0 r1 r2 r3).mp r4
    have := p2 a b r0 r1 r2 r3 r5
    have := hv a b r0 r1 r2 r3 r5
    omega
  · have e := hv f t p0.1 p0.2.1 p0.2.2.1 p0.2.2.2 p1
    refine Or.inr ⟨p0, (ho f t p0.1 p0.2.1 p0.2.2.1 p0.2.2.2).mpr p1, by omega, fun a b r0 r1 r2 r3 r4 => ?_⟩
    have r5 := (ho a b r0 r1 r2 r3).mp r4
    have h3 := p3 a b r0 r1 r2 r3 r5
    have := hv a b r0 r1 r2 r3 r5
    exact ⟨by omega, fun q => by have := h3.2 q; omega⟩
/-- what lowering a cell brings, what raising one; -1000000 where it can't be -/
def zk_lo (A V : Int → Int) (c : Int) : Int := if zz_bit (A 6) c = 0 ∧ 1 ≤ A (8 + c) then V (c * 10 + A (8 + c) - 1) - V (c * 10 + A (8 + c)) else -1000000
def zk_ra (A V : Int → Int) (c : Int) : Int := if zz_bit (A 6) c = 0 ∧ A (8 + c) ≤ 8 then V (c * 10 + A (8 + c) + 1) - V (c * 10 + A (8 + c)) else -1000000
/-- the desk with from and to -/
def zk_m (J : Nat → Int → Int) (f t : Int) : Nat → Int → Int := zz_w J 73 (zz_f (zz_f (J 73) 4 f) 5 t)
section ZPIC
variable {T : List mv_T} {J : Nat → Int → Int} {R : Nat → Nat → Option Nat} {G : Nat → Nat → Int64} {d p q : Nat} {Y : Int} {A V : Int → Int}
theorem zk_m4 {f t : Int} : zk_m J f t 73 4 = f := by
  unfold zk_m
  rw [zw_s, zf_n (by omega), zf_s]
theorem zk_m5 {f t : Int} : zk_m J f t 73 5 = t := by
  unfold zk_m
  rw [zw_s, zf_s]
theorem zk_mn {f t : Int} {x : Nat} (h : x ≠ 73) : zk_m J f t x = J x := zw_n h
theorem zk_mm {f t a b : Int} : zz_u (zz_u (zk_m J f t) 73 4 a) 73 5 b = zk_m J a b := by
  unfold zk_m
  rw [zz_wu, zz_wu]
  congr 1
  funext y
  unfold zz_f
  split
  · rfl
  · split
    · rfl
    · rfl
theorem zk_m0 {a b : Int} : zz_u (zz_u J 73 4 a) 73 5 b = zk_m J a b := by
  unfold zk_m
  rw [zz_uw (k := 5), zz_uw (k := 4), zw_s, zw_w]
theorem zk_lo_b (hA : zz_ok Y A) (hVb : ∀ k, 0 ≤ k → k < 160 → 0 ≤ V k ∧ V k ≤ 2376) {c : Int} (c0 : 0 ≤ c) (c1 : c < A 0 * A 1) : (zk_lo A V c = -1000000 ∧ ¬ (zz_bit (A 6) c = 0 ∧ 1 ≤ A (8 + c))) ∨ ((zz_bit (A 6) c = 0 ∧ 1 ≤ A (8 + c)) ∧ zk_lo A V c = V (c * 10 + A (8 + c) - 1) - V (c * 10 + A (8 + c)) ∧ -2376 ≤ zk_lo A V c ∧ zk_lo A V c ≤ 2376) := by
  have hn := hA.n
  have hc := (hA.2.2.2.2.2.2.2.1 c c0 c1).1
  unfold zk_lo
  by_cases h : zz_bit (A 6) c = 0 ∧ 1 ≤ A (8 + c)
  · rw [if_pos h]
    have h1 := hVb (c * 10 + A (8 + c) - 1) (by omega) (by omega)
    have h2 := hVb (c * 10 + A (8 + c)) (by omega) (by omega)
    exact Or.inr ⟨h, rfl, by omega, by omega⟩
  · rw [if_neg h]
    exact Or.inl ⟨rfl, h⟩
theorem zk_ra_b (hA : zz_ok Y A) (hVb : ∀ k, 0 ≤ k → k < 160 → 0 ≤ V k ∧ V k ≤ 2376) {c : Int} (c0 : 0 ≤ c) (c1 : c < A 0 * A 1) : (zk_ra A V c = -1000000 ∧ ¬ (zz_bit (A 6) c = 0 ∧ A (8 + c) ≤ 8)) ∨ ((zz_bit (A 6) c = 0 ∧ A (8 + c) ≤ 8) ∧ zk_ra A V c = V (c * 10 + A (8 + c) + 1) - V (c * 10 + A (8 + c)) ∧ -2376 ≤ zk_ra A V c ∧ zk_ra A V c ≤ 2376) := by
  have hn := hA.n
  have hc := (hA.2.2.2.2.2.2.2.1 c c0 c1).1
  unfold zk_ra
  by_cases h : zz_bit (A 6) c = 0 ∧ A (8 + c) ≤ 8
  · rw [if_pos h]
    have h1 := hVb (c * 10 + A (8 + c) + 1) (by omega) (by omega)
    have h2 := hVb (c * 10 + A (8 + c)) (by omega) (by omega)
    exact Or.inr ⟨h, rfl, by omega, by omega⟩
  · rw [if_neg h]
    exact Or.inl ⟨rfl, h⟩
theorem c_9 (hd : 2 ≤ d) (hL : ZL T R) (hp : Lnd p) (hA : zz_ok Y A) (hR : zc_rep T R J p A) (hq : T[q]? = some (.inr (0, 160))) (hq1 : q = 74 ∨ q = 75) (hV : ∀ k, 0 ≤ k → k < 160 → J q k = V k) (hVb : ∀ k, 0 ≤ k → k < 160 → 0 ≤ V k ∧ V k ≤ 2376) :
    ∃ m X Z, mv_cax d 9 [.inr (.inr (some 73)), .inr (.inr (some p)), .inr (.inr (some q))] (zz_S T J R G) = some (some (.inl (mv_c m)), zz_S T (zz_w (zz_w J 76 X) 77 Z) R G) ∧ (-1000000 ≤ m ∧ m ≤ 2376) ∧ ∀ c, 0 ≤ c → c < A 0 * A 1 → X c = zk_lo A V c ∧ Z c = zk_ra A V c ∧ zk_ra A V c ≤ m := by
  have hn := hA.n
  have hpl : p + 12 < 73 := by rcases hp with rfl | rfl | rfl | rfl <;> omega
  suffices h : ∃ r, mv_cax d 9 [.inr (.inr (some 73)), .inr (.inr (some p)), .inr (.inr (some q))] (zz_S T J R G) = some r ∧ ∃ m X Z, r = (some (.inl (mv_c m)), zz_S T (zz_w (zz_w J 76 X) 77 Z) R G) ∧ (-1000000 ≤ m ∧ m ≤ 2376) ∧ ∀ c, 0 ≤ c → c < A 0 * A 1 → X c = zk_lo A V c ∧ Z c = zk_ra A V c ∧ zk_ra A V c ≤ m by
    obtain ⟨r, h1, m, X, Z, rfl, h2⟩ := h
    exact ⟨m, X, Z, h1, h2⟩
  refine zz_call (by omega) t_9 rfl (fun n => e_9 _ _ _ _) ?_
  have l := zz_loop (α := Int × (Int → Int) × (Int → Int)) (run := fun c s n => mv_run (mv_cax (d - 1)) mm_9 n 6 [(0, .inr (.inr (some 73))), (1, .inr (.inr (some p))), (2, .inr (.inr (some q))), (3, .inl (mv_c s.1)), (4, .inl (mv_c c))] [] (zz_S T (zz_w (zz_w J 76 s.2.1) 77 s.2.2) R G)) (Q := fun r => ∃ m X Z, r = (some (.inl (mv_c m)), zz_S T (zz_w (zz_w J 76 X) 77 Z) R G) ∧ (-1000000 ≤ m ∧ m ≤ 2376) ∧ ∀ c, 0 ≤ c → c < A 0 * A 1 → X c = zk_lo A V c ∧ Z c = zk_ra A V c ∧ zk_ra A V c ≤ m) (A 0 * A 1) (fun c s => 0 ≤ c ∧ (-1000000 ≤ s.1 ∧ s.1 ≤ 2376) ∧ ∀ i, 0 ≤ i → i < c → s.2.1 i = zk_lo A V i ∧ s.2.2 i = zk_ra A V i ∧ zk_ra A V i ≤ s.1) ?_ ?_ (A 0 * A 1).toNat 0 (-1000000, J 76, J 77) (by omega) ⟨by omega, by omega, fun i _ _ => by omega⟩
  · have e0 : J = zz_w (zz_w J 76 (J 76)) 77 (J 77) := by rw [zw_i, zw_i]
    rw [← e0] at l
    exact l
  · rintro c ⟨m, X, Z⟩ ⟨hc, hm, hi⟩ hlt kk
    have hm : -1000000 ≤ m ∧ m ≤ 2376 := hm
    have hi : ∀ i, 0 ≤ i → i < c → X i = zk_lo A V i ∧ Z i = zk_ra A V i ∧ zk_ra A V i ≤ m := hi
    have hR' : ∀ X Z, zc_rep T R (zz_w (zz_w J 76 X) 77 Z) p A := fun X Z => zc_rep_f hR (fun x hx => by rw [zw_n (by omega), zw_n (by omega)])
    have hh := (hA.2.2.2.2.2.2.2.1 c hc hlt).1
    have e2 := (hR' X Z).1.1.2.2
    have qh := ((hR' X Z).2.2.1 c hc hlt).1
    have eq : ∀ X Z, zz_w (zz_w J 76 X) 77 Z q = J q := fun X Z => by rw [zw_n (by omega), zw_n (by omega)]
    have hlb := zk_lo_b hA hVb hc hlt
    have hrb := zk_ra_b hA hVb hc hlt
    have nx : ∀ m', (m' = m ∧ zk_ra A V c ≤ m) ∨ (m' = zk_ra A V c ∧ m < zk_ra A V c) → zz_E (fun n => mv_run (mv_cax (d - 1)) mm_9 n 6 [(0, .inr (.inr (some 73))), (1, .inr (.inr (some p))), (2, .inr (.inr (some q))), (3, .inl (mv_c m')), (4, .inl (mv_c (c + 1)))] [] (zz_S T (zz_w (zz_w J 76 (zz_f X c (zk_lo A V c))) 77 (zz_f Z c (zk_ra A V c))) R G)) (fun r => ∃ m X Z, r = (some (.inl (mv_c m)), zz_S T (zz_w (zz_w J 76 X) 77 Z) R G) ∧ (-1000000 ≤ m ∧ m ≤ 2376) ∧ ∀ c, 0 ≤ c → c < A 0 * A 1 → X c = zk_lo A V c ∧ Z c = zk_ra A V c ∧ zk_ra A V c ≤ m) := by
      intro m' hm'
      refine kk (m', zz_f X c (zk_lo A V c), zz_f Z c (zk_ra A V c)) ⟨by omega, by show -1000000 ≤ m' ∧ m' ≤ 2376; omega, fun i i0 i1 => ?_⟩
      show zz_f X c (zk_lo A V c) i = zk_lo A V i ∧ zz_f Z c (zk_ra A V c) i = zk_ra A V i ∧ zk_ra A V i ≤ m'
      by_cases e : i = c
      · subst e
        rw [zf_s, zf_s]
        exact ⟨rfl, rfl, by omega⟩
      · rw [zf_n e, zf_n e]
        have := hi i i0 (by omega)
        exact ⟨this.1, this.2.1, by omega⟩
    have w76 : ∀ v, zz_u (zz_w (zz_w J 76 X) 77 Z) 76 c v = zz_w (zz_w J 76 (zz_f X c v)) 77 Z := by
      intro v
      rw [zz_uw, zw_n (by omega), zw_s]
      funext x
      by_cases q1 : x = 76
      · rw [q1, zw_s, zw_n (by omega), zw_s]
      · rw [zw_n q1]
        by_cases q2 : x = 77
        · rw [q2, zw_s, zw_s]
        · rw [zw_n q2, zw_n q2, zw_n q1, zw_n q1]
    -- behind the number for lowering
    have tail : zz_E (fun n => mv_run (mv_cax (d - 1)) mm_9 n 61 [(0, .inr (.inr (some 73))), (1, .inr (.inr (some p))), (2, .inr (.inr (some q))), (3, .inl (mv_c m)), (4, .inl (mv_c c)), (5, .inl (mv_c (c * 10 + A (8 + c))))] [.inl (mv_c (zk_lo A V c)), .inl (mv_c c), .inr (.inr (some 76))] (zz_S T (zz_w (zz_w J 76 X) 77 Z) R G)) (fun r => ∃ m X Z, r = (some (.inl (mv_c m)), zz_S T (zz_w (zz_w J 76 X) 77 Z) R G) ∧ (-1000000 ≤ m ∧ m ≤ 2376) ∧ ∀ c, 0 ≤ c → c < A 0 * A 1 → X c = zk_lo A V c ∧ Z c = zk_ra A V c ∧ zk_ra A V c ≤ m) := by
      have c53 := c_53 (T := T) (J := zz_w (zz_w J 76 (zz_f X c (zk_lo A V c))) 77 Z) (R := R) (G := G) (d := d - 1) (by omega) hL hp hA (hR' _ _) hc hlt
      refine zz_Es (fun n => e_9_61 _ _ _ _ _ _ _ _ _ _) ?_
      simp (maxSteps := 5000000) (disch := first | assumption | omega) only [w76, c53, zr_73_0, zr_73_1, zr_73_2, zr_73_3, zg_73_4, zp_73_4, zg_73_5, zp_73_5, zi_73, za_74, zs_74, zl_74, za_75, zs_75, zl_75, za_76, zs_76, zl_76, za_77, zs_77, zl_77, zg_L_0, zp_L_0, zg_L_1, zp_L_1, zg_L_2, zp_L_2, zg_L_3, zp_L_3, zg_L_4, zp_L_4, zg_L_5, zp_L_5, zg_L_6, zp_L_6, zg_L_7, zp_L_7, zi_L, zr_L_8, za_L_1, zs_L_1, zr_L_9, za_L_2, zs_L_2, zr_L_10, za_L_3, zs_L_3, zr_L_11, za_L_4, zs_L_4, zr_L_12, za_L_5, zs_L_5, zr_L_13, za_L_6, zs_L_6, zr_L_14, za_L_7, zs_L_7, zr_L_15, za_L_8, zs_L_8, zr_L_16, za_L_9, zs_L_9, zr_L_17, za_L_10, zs_L_10, zr_L_18, za_L_11, zs_L_11, zr_L_19, za_L_12, zs_L_12, zz_0, zz_31, zz_add, zz_sub, zz_mul, zz_neg, zz_lt, zz_le, zz_eq, zz_div, zz_md, zz_dv, zz_abs, zz_max, zz_min, zz_nI, zz_be0, zz_be1, zz_zb, zz_z, zz_l0, zz_l, zz_lcmp, zo_rf, zo_nl, zo_nn, zo_rI, zo_rL, zo_rR, zo_rV, Int.add_zero, Int.zero_add, Int.mul_zero, Int.zero_mul, Int.one_mul, Int.mul_one, if_true, if_false, not_true_eq_false, not_false_eq_true]
      refine zz_Ei (fun h => ?_) (fun h => ?_)
      · try rw [zz_be0] at h
        have hv : zk_ra A V c = -1000000 := by
          rcases hrb with r | r
          · exact r.1
          · exact absurd r.1 h
        rw [hv] at nx
        simp (maxSteps := 5000000) (disch := first | assumption | omega) only [zz_wu, zw_s, zf_s, zr_73_0, zr_73_1, zr_73_2, zr_73_3, zg_73_4, zp_73_4, zg_73_5, zp_73_5, zi_73, za_74, zs_74, zl_74, za_75, zs_75, zl_75, za_76, zs_76, zl_76, za_77, zs_77, zl_77, zg_L_0, zp_L_0, zg_L_1, zp_L_1, zg_L_2, zp_L_2, zg_L_3, zp_L_3, zg_L_4, zp_L_4, zg_L_5, zp_L_5, zg_L_6, zp_L_6, zg_L_7, zp_L_7, zi_L, zr_L_8, za_L_1, zs_L_1, zr_L_9, za_L_2, zs_L_2, zr_L_10, za_L_3, zs_L_3, zr_L_11, za_L_4, zs_L_4, zr_L_12, za_L_5, zs_L_5, zr_L_13, za_L_6, zs_L_6, zr_L_14, za_L_7, zs_L_7, zr_L_15, za_L_8, zs_L_8, zr_L_16, za_L_9, zs_L_9, zr_L_17, za_L_10, zs_L_10, zr_L_18, za_L_11, zs_L_11, zr_L_19, za_L_12, zs_L_12, zz_0, zz_31, zz_add, zz_sub, zz_mul, zz_neg, zz_lt, zz_le, zz_eq, zz_div, zz_md, zz_dv, zz_abs, zz_max, zz_min, zz_nI, zz_be0, zz_be1, zz_zb, zz_z, zz_l0, zz_l, zz_lcmp, zo_rf, zo_nl, zo_nn, zo_rI, zo_rL, zo_rR, zo_rV, Int.add_zero, Int.zero_add, Int.mul_zero, Int.zero_mul, Int.one_mul, Int.mul_one, if_true, if_false, not_true_eq_false, not_false_eq_true]
        exact zz_Ei (fun h => nx m (by omega)) (fun h => nx (-1000000) (by omega))
      · try rw [zz_be0] at h
        have h' := Classical.not_not.mp h
        have hv : zk_ra A V c = V (c * 10 + A (8 + c) + 1) - V (c * 10 + A (8 + c)) := by
          rcases hrb with r | r
          · exact absurd h' r.2
          · exact r.2.1
        have hrb' : -2376 ≤ zk_ra A V c ∧ zk_ra A V c ≤ 2376 := by
          rcases hrb with r | r
          · exact absurd h' r.2
          · exact r.2.2
        have v1 := hV (c * 10 + A (8 + c) + 1) (by omega) (by omega)
        have v2 := hV (c * 10 + A (8 + c)) (by omega) (by omega)
        simp (maxSteps := 5000000) (disch := first | assumption | omega) only [zz_aI hq, eq, v1, v2, zz_wu, zw_s, zf_s, zr_73_0, zr_73_1, zr_73_2, zr_73_3, zg_73_4, zp_73_4, zg_73_5, zp_73_5, zi_73, za_74, zs_74, zl_74, za_75, zs_75, zl_75, za_76, zs_76, zl_76, za_77, zs_77, zl_77, zg_L_0, zp_L_0, zg_L_1, zp_L_1, zg_L_2, zp_L_2, zg_L_3, zp_L_3, zg_L_4, zp_L_4, zg_L_5, zp_L_5, zg_L_6, zp_L_6, zg_L_7, zp_L_7, zi_L, zr_L_8, za_L_1, zs_L_1, zr_L_9, za_L_2, zs_L_2, zr_L_10, za_L_3, zs_L_3, zr_L_11, za_L_4, zs_L_4, zr_L_12, za_L_5, zs_L_5, zr_L_13, za_L_6, zs_L_6, zr_L_14, za_L_7, zs_L_7, zr_L_15, za_L_8, zs_L_8, zr_L_16, za_L_9, zs_L_9, zr_L_17, za_L_10, zs_L_10, zr_L_18, za_L_11, zs_L_11, zr_L_19, za_L_12, zs_L_12, zz_0, zz_31, zz_add, zz_sub, zz_mul, zz_neg, zz_lt, zz_le, zz_eq, zz_div, zz_md, zz_dv, zz_abs, zz_max, zz_min, zz_nI, zz_be0, zz_be1, zz_zb, zz_z, zz_l0, zz_l, zz_lcmp, zo_rf, zo_nl, zo_nn, zo_rI, zo_rL, zo_rR, zo_rV, Int.add_zero, Int.zero_add, Int.mul_zero, Int.zero_mul, Int.one_mul, Int.mul_one, if_true, if_false, not_true_eq_false, not_false_eq_true]
        rw [← hv]
        exact zz_Ei (fun h => nx m (by omega)) (fun h => nx (zk_ra A V c) (by omega))
    have c52 := c_52 (T := T) (J := zz_w (zz_w J 76 X) 77 Z) (R := R) (G := G) (d := d - 1) (by omega) hL hp hA (hR' _ _) hc hlt
    refine zz_Es (fun n => e_9_6 _ _ _ _ _ _) ?_
    simp (maxSteps := 5000000) (disch := first | assumption | omega) only [e2, qh, c52, zr_73_0, zr_73_1, zr_73_2, zr_73_3, zg_73_4, zp_73_4, zg_73_5, zp_73_5, zi_73, za_74, zs_74, zl_74, za_75, zs_75, zl_75, za_76, zs_76, zl_76, za_77, zs_77, zl_77, zg_L_0, zp_L_0, zg_L_1, zp_L_1, zg_L_2, zp_L_2, zg_L_3, zp_L_3, zg_L_4, zp_L_4, zg_L_5, zp_L_5, zg_L_6, zp_L_6, zg_L_7, zp_L_7, zi_L, zr_L_8, za_L_1, zs_L_1, zr_L_9, za_L_2, zs_L_2, zr_L_10, za_L_3, zs_L_3, zr_L_11, za_L_4, zs_L_4, zr_L_12, za_L_5, zs_L_5, zr_L_13, za_L_6, zs_L_6, zr_L_14, za_L_7, zs_L_7, zr_L_15, za_L_8, zs_L_8, zr_L_16, za_L_9, zs_L_9, zr_L_17, za_L_10, zs_L_10, zr_L_18, za_L_11, zs_L_11, zr_L_19, za_L_12, zs_L_12, zz_0, zz_31, zz_add, zz_sub, zz_mul, zz_neg, zz_lt, zz_le, zz_eq, zz_div, zz_md, zz_dv, zz_abs, zz_max, zz_min, zz_nI, zz_be0, zz_be1, zz_zb, zz_z, zz_l0, zz_l, zz_lcmp, zo_rf, zo_nl, zo_nn, zo_rI, zo_rL, zo_rR, zo_rV, Int.add_zero, Int.zero_add, Int.mul_zero, Int.zero_mul, Int.one_mul, Int.mul_one, if_true, if_false, not_true_eq_false, not_false_eq_true]
    refine zz_Ei (fun h => absurd h (by omega)) (fun _ => ?_)
    refine zz_Ei (fun h => ?_) (fun h => ?_)
    · try rw [zz_be0] at h
      have hv : zk_lo A V c = -1000000 := by
        rcases hlb with r | r
        · exact r.1
        · exact absurd r.1 h
      rw [hv] at tail
      exact tail
    · try rw [zz_be0] at h
      have h' := Classical.not_not.mp h
      have hv : zk_lo A V c = V (c * 10 + A (8 + c) - 1) - V (c * 10 + A (8 + c)) := by
        rcases hlb with r | r
        · exact absurd h' r.2
        · exact r.2.1
      have v1 := hV (c * 10 + A (8 + c) - 1) (by omega) (by omega)
      have v2 := hV (c * 10 + A (8 + c)) (by omega) (by omega)
      simp (maxSteps := 5000000) (disch := first | assumption | omega) only [zz_aI hq, eq, v1, v2, zr_73_0, zr_73_1, zr_73_2, zr_73_3, zg_73_4, zp_73_4, zg_73_5, zp_73_5, zi_73, za_74, zs_74, zl_74, za_75, zs_75, zl_75, za_76, zs_76, zl_76, za_77, zs_77, zl_77, zg_L_0, zp_L_0, zg_L_1, zp_L_1, zg_L_2, zp_L_2, zg_L_3, zp_L_3, zg_L_4, zp_L_4, zg_L_5, zp_L_5, zg_L_6, zp_L_6, zg_L_7, zp_L_7, zi_L, zr_L_8, za_L_1, zs_L_1, zr_L_9, za_L_2, zs_L_2, zr_L_10, za_L_3, zs_L_3, zr_L_11, za_L_4, zs_L_4, zr_L_12, za_L_5, zs_L_5, zr_L_13, za_L_6, zs_L_6, zr_L_14, za_L_7, zs_L_7, zr_L_15, za_L_8, zs_L_8, zr_L_16, za_L_9, zs_L_9, zr_L_17, za_L_10, zs_L_10, zr_L_18, za_L_11, zs_L_11, zr_L_19, za_L_12, zs_L_12, zz_0, zz_31, zz_add, zz_sub, zz_mul, zz_neg, zz_lt, zz_le, zz_eq, zz_div, zz_md, zz_dv, zz_abs, zz_max, zz_min, zz_nI, zz_be0, zz_be1, zz_zb, zz_z, zz_l0, zz_l, zz_lcmp, zo_rf, zo_nl, zo_nn, zo_rI, zo_rL, zo_rR, zo_rV, Int.add_zero, Int.zero_add, Int.mul_zero, Int.zero_mul, Int.one_mul, Int.mul_one, if_true, if_false, not_true_eq_false, not_false_eq_true]
      rw [← hv]
      exact tail
  · rintro ⟨m, X, Z⟩ ⟨_, hm, hi⟩
    have hR' : zc_rep T R (zz_w (zz_w J 76 X) 77 Z) p A := zc_rep_f hR (fun x hx => by rw [zw_n (by omega), zw_n (by omega)])
    have e2 := hR'.1.1.2.2
    refine zz_Es (fun n => e_9_6 _ _ _ _ _ _) ?_
    simp (maxSteps := 5000000) (disch := first | assumption | omega) only [zo_rf, zg_L_2, e2, zz_le]
    refine zz_Ei (fun _ => ?_) (fun h => absurd (Int.le_refl _) h)
    exact zz_Er ⟨m, X, Z, rfl, hm, hi⟩
end ZPIC
