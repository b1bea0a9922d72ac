/-! PURE LAYER, 114: one land alone, laid anew (as 82, 83, for the constructors) -/
def zq_L (T : List mv_T) (R : Nat → Nat → Option Nat) (p : Nat) : Prop := T[p]? = some (.inl 3) ∧ (T[p + 1]? = some (.inr (0, 16)) ∧ R p 8 = some (p + 1)) ∧ (T[p + 2]? = some (.inr (0, 256)) ∧ R p 9 = some (p + 2)) ∧ (T[p + 3]? = some (.inr (0, 64)) ∧ R p 10 = some (p + 3)) ∧ (T[p + 4]? = some (.inr (0, 16)) ∧ R p 11 = some (p + 4)) ∧ (T[p + 5]? = some (.inr (0, 16)) ∧ R p 12 = some (p + 5)) ∧ T[p + 6]? = some (.inr (1, 16)) ∧ R p 13 = some (p + 6)
section ZLOC
variable {T : List mv_T} {J J' : Nat → Int → Int} {R : Nat → Nat → Option Nat} {G : Nat → Nat → Int64} {d p q : Nat} {i v Y : Int} {A A' : Int → Int}
theorem zqg_L_0 {k : Int32 → mv_O} (hL : zq_L T R p) (hp : Lnd p) : mo_gI (zz_S T J R G) p 3 0 k = k (mv_c (J p 0)) := zz_gI (f := 0) (hL.1)
theorem zqp_L_0 {k : mv_S → mv_O} (hL : zq_L T R p) (hp : Lnd p) : mo_pI (zz_S T J R G) p 3 0 (mv_c v) k = k (zz_S T (zz_u J p 0 v) R G) := zz_pI (f := 0) (hL.1)
theorem zqg_L_1 {k : Int32 → mv_O} (hL : zq_L T R p) (hp : Lnd p) : mo_gI (zz_S T J R G) p 3 1 k = k (mv_c (J p 1)) := zz_gI (f := 1) (hL.1)
theorem zqp_L_1 {k : mv_S → mv_O} (hL : zq_L T R p) (hp : Lnd p) : mo_pI (zz_S T J R G) p 3 1 (mv_c v) k = k (zz_S T (zz_u J p 1 v) R G) := zz_pI (f := 1) (hL.1)
theorem zqp_L_2 {k : mv_S → mv_O} (hL : zq_L T R p) (hp : Lnd p) : mo_pI (zz_S T J R G) p 3 2 (mv_c v) k = k (zz_S T (zz_u J p 2 v) R G) := zz_pI (f := 2) (hL.1)
theorem zqp_L_3 {k : mv_S → mv_O} (hL : zq_L T R p) (hp : Lnd p) : mo_pI (zz_S T J R G) p 3 3 (mv_c v) k = k (zz_S T (zz_u J p 3 v) R G) := zz_pI (f := 3) (hL.1)
theorem zqi_L {k : mv_O} (hL : zq_L T R p) (hp : Lnd p) : mo_is (zz_S T J R G) p 3 k = k := zz_is (hL.1)
theorem zqr_L_8 {k : Option Nat → mv_O} (hL : zq_L T R p) (hp : Lnd p) : mo_gR (zz_S T J R G) p 3 8 k = k (some (p + 1)) := zz_gR (f := 8) (hL.1) (hL.2.1.2)
theorem zqs_L_1 {k : mv_S → mv_O} (hL : zq_L T R p) (hp : Lnd p) (h0 : 0 ≤ i) (h1 : i < 16) : mo_sI (zz_S T J R G) (p + 1) (mv_c i) (mv_c v) k = k (zz_S T (zz_u J (p + 1) i v) R G) := zz_sI (zz_Lo hp 1) (hL.2.1.1) h0 h1 (by decide)
theorem zqr_L_9 {k : Option Nat → mv_O} (hL : zq_L T R p) (hp : Lnd p) : mo_gR (zz_S T J R G) p 3 9 k = k (some (p + 2)) := zz_gR (f := 9) (hL.1) (hL.2.2.1.2)
theorem zqs_L_2 {k : mv_S → mv_O} (hL : zq_L T R p) (hp : Lnd p) (h0 : 0 ≤ i) (h1 : i < 256) : mo_sI (zz_S T J R G) (p + 2) (mv_c i) (mv_c v) k = k (zz_S T (zz_u J (p + 2) i v) R G) := zz_sI (zz_Lo hp 2) (hL.2.2.1.1) h0 h1 (by decide)
theorem zqr_L_10 {k : Option Nat → mv_O} (hL : zq_L T R p) (hp : Lnd p) : mo_gR (zz_S T J R G) p 3 10 k = k (some (p + 3)) := zz_gR (f := 10) (hL.1) (hL.2.2.2.1.2)
theorem zqs_L_3 {k : mv_S → mv_O} (hL : zq_L T R p) (hp : Lnd p) (h0 : 0 ≤ i) (h1 : i < 64) : mo_sI (zz_S T J R G) (p + 3) (mv_c i) (mv_c v) k = k (zz_S T (zz_u J (p + 3) i v) R G) := zz_sI (zz_Lo hp 3) (hL.2.2.2.1.1) h0 h1 (by decide)
theorem zqr_L_11 {k : Option Nat → mv_O} (hL : zq_L T R p) (hp : Lnd p) : mo_gR (zz_S T J R G) p 3 11 k = k (some (p + 4)) := zz_gR (f := 11) (hL.1) (hL.2.2.2.2.1.2)
theorem zqr_L_12 {k : Option Nat → mv_O} (hL : zq_L T R p) (hp : Lnd p) : mo_gR (zz_S T J R G) p 3 12 k = k (some (p + 5)) := zz_gR (f := 12) (hL.1) (hL.2.2.2.2.2.1.2)
theorem zqr_L_13 {k : Option Nat → mv_O} (hL : zq_L T R p) (hp : Lnd p) : mo_gR (zz_S T J R G) p 3 13 k = k (some (p + 6)) := zz_gR (f := 13) (hL.1) (hL.2.2.2.2.2.2.2)
theorem zqs_L_6 {k : mv_S → mv_O} (hL : zq_L T R p) (hp : Lnd p) (h0 : 0 ≤ i) (h1 : i < 16) (hv : v = 0 ∨ v = 1) : mo_sZ (zz_S T J R G) (p + 6) (mv_c i) (mv_c v) k = k (zz_S T (zz_u J (p + 6) i v) R G) := zz_sZ (zz_Lo hp 6) (hL.2.2.2.2.2.2.1) h0 h1 (by decide) hv
theorem k_31l {M : Nat → Int → Int} {e r c P C : Int} {Q : Option mv_V × mv_S → Prop} (hL : zq_L T R p) (hp : Lnd p) (hP : 2 ≤ P ∧ P ≤ 4) (hC : 2 ≤ C ∧ C ≤ 4) (h0 : M p 0 = P) (h1 : M p 1 = C) (e0 : 0 ≤ e) (e1 : e < 16) (hr : 0 ≤ r ∧ r < 4) (hc : 0 ≤ c ∧ c < C) (he : e = r * C + c)
    (fin : ∀ O : Int → Int, (∀ k, O k = if e * 16 ≤ k ∧ k < e * 16 + P * C then zz_nr C e (k - e * 16) else M (p + 2) k) → Q (none, zz_S T (zz_w M (p + 2) O) R G)) :
    zz_E (fun n => mv_run (mv_cax d) mm_31 n 114 [(0, .inr (.inr (some p))), (1, .inl (mv_c e)), (2, .inl (mv_c r)), (3, .inl (mv_c c)), (5, .inl (mv_c 0)), (6, .inl (mv_c 0))] [] (zz_S T M R G)) Q := by
  have hpl : p + 12 < 73 := by rcases hp with rfl | rfl | rfl | rfl <;> omega
  have hn := zz_prod hP.1 hP.2 hC.1 hC.2
  have hdr := zt_dc (y := r) hC hc.1 hc.2
  rw [← he] at hdr
  have l := zz_loop (α := Int → Int) (run := fun y O n => mv_run (mv_cax d) mm_31 n 114 [(0, .inr (.inr (some p))), (1, .inl (mv_c e)), (2, .inl (mv_c r)), (3, .inl (mv_c c)), (5, .inl (mv_c (y * C))), (6, .inl (mv_c y))] [] (zz_S T (zz_w M (p + 2) O) R G)) (Q := Q) P (fun y O => 0 ≤ y ∧ ∀ k, O k = if e * 16 ≤ k ∧ k < e * 16 + y * C then zz_nr C e (k - e * 16) else M (p + 2) k) ?_ ?_ P.toNat 0 (M (p + 2)) (by omega) ⟨by omega, fun k => by rw [Int.zero_mul, if_neg (by omega)]⟩
  · rw [zw_i, Int.zero_mul] at l
    exact l
  · rintro y O ⟨hy, hO⟩ hlt kk
    have g0 : ∀ O, zz_w M (p + 2) O p 0 = P := fun O => by rw [zw_n (by omega)]; exact h0
    have g1 : ∀ O, zz_w M (p + 2) O p 1 = C := fun O => by rw [zw_n (by omega)]; exact h1
    have hyC : 0 ≤ y * C ∧ y * C + C ≤ P * C := by
      rcases (show C = 2 ∨ C = 3 ∨ C = 4 by omega) with q | q | q <;> rw [q] <;> omega
    refine zz_Es (fun n => e_31_114 _ _ _ _ _ _ _) ?_
    simp (maxSteps := 5000000) (disch := first | assumption | omega) only [zqg_L_0, g0, zz_le]
    refine zz_Ei (fun h => absurd h (by omega)) (fun _ => ?_)
    refine zz_loop (α := Int → Int) (run := fun x O n => mv_run (mv_cax d) mm_31 n 126 [(0, .inr (.inr (some p))), (1, .inl (mv_c e)), (2, .inl (mv_c r)), (3, .inl (mv_c c)), (5, .inl (mv_c (y * C + x))), (6, .inl (mv_c y)), (7, .inl (mv_c x))] [] (zz_S T (zz_w M (p + 2) O) R G)) C (fun x O => 0 ≤ x ∧ ∀ k, O k = if e * 16 ≤ k ∧ k < e * 16 + (y * C + x) then zz_nr C e (k - e * 16) else M (p + 2) k) ?_ ?_ C.toNat 0 O (by omega) ⟨by omega, fun k => by rw [Int.add_zero]; exact hO k⟩ |> (fun h => by rw [Int.add_zero] at h; exact h)
    · rintro x O ⟨hx, hO⟩ hlt' kk'
      have hdx := zt_dc (y := y) hC hx hlt'
      have hnr : zz_nr C e (y * C + x) = ((r - y).natAbs : Int) + ((c - x).natAbs : Int) := by
        unfold zz_nr
        rw [hdr.1, hdr.2, hdx.1, hdx.2]
      refine zz_Es (fun n => e_31_126 _ _ _ _ _ _ _ _) ?_
      simp (maxSteps := 5000000) (disch := first | assumption | omega) only [zo_rf, zqg_L_1, g1, zz_le, zz_add, zz_sub, zz_mul, zz_abs, zqr_L_9, zqs_L_2, zz_wu]
      refine zz_Ei (fun h => absurd h (by omega)) (fun _ => ?_)
      refine zz_Ei (fun h => absurd h (by omega)) (fun _ => ?_)
      rw [Int.add_assoc]
      refine kk' _ ⟨by omega, fun k => ?_⟩
      by_cases q : k = e * 16 + (y * C + x)
      · rw [q, zf_s, if_pos (by omega), show e * 16 + (y * C + x) - e * 16 = y * C + x by omega, hnr]
      · rw [zf_n q, hO k]
        by_cases q' : e * 16 ≤ k ∧ k < e * 16 + (y * C + x)
        · rw [if_pos q', if_pos (by omega)]
        · rw [if_neg q', if_neg (by omega)]
    · rintro O ⟨_, hO⟩
      refine zz_Es (fun n => e_31_126 _ _ _ _ _ _ _ _) ?_
      simp (maxSteps := 5000000) (disch := first | assumption | omega) only [zqg_L_1, g1, zz_le, zz_add]
      refine zz_Ei (fun _ => ?_) (fun h => absurd (Int.le_refl _) h)
      have e1 : y * C + C = (y + 1) * C := by rw [Int.add_mul, Int.one_mul]
      rw [e1] at hO ⊢
      exact kk O ⟨by omega, hO⟩
  · rintro O ⟨_, hO⟩
    have g0 : zz_w M (p + 2) O p 0 = P := by rw [zw_n (by omega)]; exact h0
    refine zz_Es (fun n => e_31_114 _ _ _ _ _ _ _) ?_
    simp (maxSteps := 5000000) (disch := first | assumption | omega) only [zqg_L_0, g0, zz_le]
    refine zz_Ei (fun _ => ?_) (fun h => absurd (Int.le_refl _) h)
    exact zz_Er (fin O hO)
theorem k_31 {e r c P C : Int} {A : Int → Int} (hd : 1 ≤ d) (hL : zq_L T R p) (hp : Lnd p) (hP : 2 ≤ P ∧ P ≤ 4) (hC : 2 ≤ C ∧ C ≤ 4) (h0 : J p 0 = P) (h1 : J p 1 = C) (a0 : A 0 = P) (a1 : A 1 = C) (hr : 0 ≤ r ∧ r < P) (hc : 0 ≤ c ∧ c < C) (he : e = r * C + c) :
    ∃ J', mv_cax d 31 [.inr (.inr (some p)), .inl (mv_c e), .inl (mv_c r), .inl (mv_c c)] (zz_S T J R G) = some (none, zz_S T J' R G) ∧ (∀ x, x ≠ p + 1 → x ≠ p + 2 → x ≠ p + 3 → J' x = J x) ∧ (∀ k, J' (p + 1) k = if k = e then c else J (p + 1) k) ∧ (∀ k, J' (p + 2) k = if e * 16 ≤ k ∧ k < e * 16 + P * C then zz_nr C e (k - e * 16) else J (p + 2) k) ∧ ∀ k, J' (p + 3) k = if e * 4 ≤ k ∧ k < e * 4 + 4 then zz_cd A e (k - e * 4) else J (p + 3) k := by
  have hpl : p + 12 < 73 := by rcases hp with rfl | rfl | rfl | rfl <;> omega
  have hn := zz_prod hP.1 hP.2 hC.1 hC.2
  have hdr := zt_dc (y := r) hC hc.1 hc.2
  rw [← he] at hdr
  have heb : 0 ≤ e ∧ e < 16 := by
    rw [he]
    rcases (show C = 2 ∨ C = 3 ∨ C = 4 by omega) with q | q | q <;> rw [q] at hc ⊢ <;> omega
  have cd : ∀ i y x, zz_dy i = y → zz_dx i = x → zz_cd A e i = if (0 ≤ r + y ∧ r + y ≤ P - 1) ∧ (0 ≤ c + x ∧ c + x ≤ C - 1) then (r + y) * C + (c + x) else -1 := by
    intro i y x hy hx
    unfold zz_cd
    rw [hy, hx, a0, a1, hdr.1, hdr.2]
  have cd0 : zz_cd A e 0 = if 0 < r then e - C else -1 := by
    rw [cd 0 (-1) 0 rfl rfl]
    by_cases q : 0 < r
    · rw [if_pos (by omega), if_pos q, he, Int.add_mul]
      omega
    · rw [if_neg (by omega), if_neg q]
  have cd1 : zz_cd A e 1 = if c < C - 1 then e + 1 else -1 := by
    rw [cd 1 0 1 rfl rfl]
    by_cases q : c < C - 1
    · rw [if_pos (by omega), if_pos q, he, Int.add_zero]
      omega
    · rw [if_neg (by omega), if_neg q]
  have cd2 : zz_cd A e 2 = if r < P - 1 then e + C else -1 := by
    rw [cd 2 1 0 rfl rfl]
    by_cases q : r < P - 1
    · rw [if_pos (by omega), if_pos q, he, Int.add_mul]
      omega
    · rw [if_neg (by omega), if_neg q]
  have cd3 : zz_cd A e 3 = if 0 < c then e - 1 else -1 := by
    rw [cd 3 0 (-1) rfl rfl]
    by_cases q : 0 < c
    · rw [if_pos (by omega), if_pos q, he, Int.add_zero]
      omega
    · rw [if_neg (by omega), if_neg q]
  suffices h : ∃ s, mv_cax d 31 [.inr (.inr (some p)), .inl (mv_c e), .inl (mv_c r), .inl (mv_c c)] (zz_S T J R G) = some s ∧ ∃ J', s = (none, zz_S T J' R G) ∧ (∀ x, x ≠ p + 1 → x ≠ p + 2 → x ≠ p + 3 → J' x = J x) ∧ (∀ k, J' (p + 1) k = if k = e then c else J (p + 1) k) ∧ (∀ k, J' (p + 2) k = if e * 16 ≤ k ∧ k < e * 16 + P * C then zz_nr C e (k - e * 16) else J (p + 2) k) ∧ ∀ k, J' (p + 3) k = if e * 4 ≤ k ∧ k < e * 4 + 4 then zz_cd A e (k - e * 4) else J (p + 3) k by
    obtain ⟨s, g1, J', rfl, g2⟩ := h
    exact ⟨J', g1, g2⟩
  refine zz_call (by omega) t_31 rfl (fun n => e_31 _ _ _ _ _) ?_
  obtain ⟨Q, hQ⟩ : ∃ Q : Option mv_V × mv_S → Prop, Q = fun s => ∃ J', s = (none, zz_S T J' R G) ∧ (∀ x, x ≠ p + 1 → x ≠ p + 2 → x ≠ p + 3 → J' x = J x) ∧ (∀ k, J' (p + 1) k = if k = e then c else J (p + 1) k) ∧ (∀ k, J' (p + 2) k = if e * 16 ≤ k ∧ k < e * 16 + P * C then zz_nr C e (k - e * 16) else J (p + 2) k) ∧ ∀ k, J' (p + 3) k = if e * 4 ≤ k ∧ k < e * 4 + 4 then zz_cd A e (k - e * 4) else J (p + 3) k := ⟨_, rfl⟩
  rw [← hQ]
  -- behind the four sides
  have tail : ∀ v0 v1 v2 v3, v0 = zz_cd A e 0 → v1 = zz_cd A e 1 → v2 = zz_cd A e 2 → v3 = zz_cd A e 3 → zz_E (fun n => mv_run (mv_cax (d - 1)) mm_31 n 114 [(0, .inr (.inr (some p))), (1, .inl (mv_c e)), (2, .inl (mv_c r)), (3, .inl (mv_c c)), (5, .inl (mv_c 0)), (6, .inl (mv_c 0))] [] (zz_S T (zz_u (zz_u (zz_u (zz_u (zz_u J (p + 1) e c) (p + 3) (e * 4) v0) (p + 3) (e * 4 + 1) v1) (p + 3) (e * 4 + 2) v2) (p + 3) (e * 4 + 3) v3) R G)) Q := by
    intro v0 v1 v2 v3 w0 w1 w2 w3
    refine k_31l (P := P) (C := C) hL hp hP hC ?_ ?_ heb.1 heb.2 (by omega) hc he ?_
    · rw [zu_A (by omega), zu_A (by omega), zu_A (by omega), zu_A (by omega), zu_A (by omega)]; exact h0
    · rw [zu_A (by omega), zu_A (by omega), zu_A (by omega), zu_A (by omega), zu_A (by omega)]; exact h1
    · intro O hO
      rw [hQ]
      refine ⟨_, rfl, fun x x1 x2 x3 => by rw [zw_n x2, zu_A x3, zu_A x3, zu_A x3, zu_A x3, zu_A x1], fun k => ?_, fun k => ?_, fun k => ?_⟩
      · rw [zw_n (by omega), zu_A (by omega), zu_A (by omega), zu_A (by omega), zu_A (by omega)]
        by_cases q : k = e
        · rw [q, zu_s, if_pos rfl]
        · rw [zu_k q, if_neg q]
      · rw [zw_s, hO k]
        rw [zu_A (by omega), zu_A (by omega), zu_A (by omega), zu_A (by omega), zu_A (by omega)]
      · rw [zw_n (by omega)]
        by_cases q3 : k = e * 4 + 3
        · rw [q3, zu_s, if_pos (by omega), w3, show e * 4 + 3 - e * 4 = 3 by omega]
        · rw [zu_k q3]
          by_cases q2 : k = e * 4 + 2
          · rw [q2, zu_s, if_pos (by omega), w2, show e * 4 + 2 - e * 4 = 2 by omega]
          · rw [zu_k q2]
            by_cases q1 : k = e * 4 + 1
            · rw [q1, zu_s, if_pos (by omega), w1, show e * 4 + 1 - e * 4 = 1 by omega]
            · rw [zu_k q1]
              by_cases q0 : k = e * 4
              · rw [q0, zu_s, if_pos (by omega), w0, show e * 4 - e * 4 = 0 by omega]
              · rw [zu_k q0, zu_A (by omega), if_neg (by omega)]
  -- the lower two
  have low : ∀ v0 v1, v0 = zz_cd A e 0 → v1 = zz_cd A e 1 → zz_E (fun n => mv_run (mv_cax (d - 1)) mm_31 n 58 [(0, .inr (.inr (some p))), (1, .inl (mv_c e)), (2, .inl (mv_c r)), (3, .inl (mv_c c)), (4, .inl (mv_c (e * 4)))] [.inl (mv_c v1), .inl (mv_c (e * 4 + 1)), .inr (.inr (some (p + 3)))] (zz_S T (zz_u (zz_u J (p + 1) e c) (p + 3) (e * 4) v0) R G)) Q := by
    intro v0 v1 w0 w1
    refine zz_Es (fun n => e_31_58 _ _ _ _ _ _ _ _ _) ?_
    simp (maxSteps := 5000000) (disch := first | assumption | omega) only [zz_0, zo_rf, zqs_L_3, zqr_L_10, zqg_L_0, zqg_L_1, zu_A, h0, h1, zz_sub, zz_add, zz_le]
    refine zz_Ei (fun g2 => ?_) (fun g2 => ?_)
    · refine zz_Ei (fun g3 => ?_) (fun g3 => ?_)
      · exact tail _ _ _ _ w0 w1 (by rw [cd2, if_neg (by omega)]) (by rw [cd3, if_neg (by omega)])
      · exact tail _ _ _ _ w0 w1 (by rw [cd2, if_neg (by omega)]) (by rw [cd3, if_pos (by omega)])
    · refine zz_Ei (fun g3 => ?_) (fun g3 => ?_)
      · exact tail _ _ _ _ w0 w1 (by rw [cd2, if_pos (by omega)]) (by rw [cd3, if_neg (by omega)])
      · exact tail _ _ _ _ w0 w1 (by rw [cd2, if_pos (by omega)]) (by rw [cd3, if_pos (by omega)])
  simp (maxSteps := 5000000) (disch := first | assumption | omega) only [zz_0, zo_rf, zqs_L_1, zqs_L_3, zqr_L_8, zqr_L_10, zqg_L_0, zqg_L_1, zu_A, h0, h1, zz_sub, zz_add, zz_mul, zz_le]
  refine zz_Ei (fun g0 => ?_) (fun g0 => ?_)
  · refine zz_Ei (fun g1 => ?_) (fun g1 => ?_)
    · exact low _ _ (by rw [cd0, if_neg (by omega)]) (by rw [cd1, if_neg (by omega)])
    · exact low _ _ (by rw [cd0, if_neg (by omega)]) (by rw [cd1, if_pos (by omega)])
  · refine zz_Ei (fun g1 => ?_) (fun g1 => ?_)
    · exact low _ _ (by rw [cd0, if_pos (by omega)]) (by rw [cd1, if_neg (by omega)])
    · exact low _ _ (by rw [cd0, if_pos (by omega)]) (by rw [cd1, if_pos (by omega)])
theorem k_30 {P C : Int} {A : Int → Int} (hd : 2 ≤ d) (hL : zq_L T R p) (hp : Lnd p) (hP : 2 ≤ P ∧ P ≤ 4) (hC : 2 ≤ C ∧ C ≤ 4) (a0 : A 0 = P) (a1 : A 1 = C) :
    ∃ J', mv_cax d 30 [.inr (.inr (some p)), .inl (mv_c P), .inl (mv_c C)] (zz_S T J R G) = some (none, zz_S T J' R G) ∧ (∀ x, (x < p ∨ p + 6 < x) → J' x = J x) ∧ (∀ y, 4 ≤ y → J' p y = J p y) ∧ (J' p 0 = P ∧ J' p 1 = C ∧ J' p 2 = P * C ∧ J' p 3 = 0) ∧ (∀ e, 0 ≤ e → e < P * C → zt_ge J' p A (P * C) C e) ∧ ∀ k, 0 ≤ k → k < 16 → J' (p + 4) k = 2 ∧ J' (p + 5) k = -1 ∧ J' (p + 6) k = 0 := by
  have hpl : p + 12 < 73 ∧ 17 ≤ p := by rcases hp with rfl | rfl | rfl | rfl <;> omega
  have hn := zz_prod hP.1 hP.2 hC.1 hC.2
  suffices h : ∃ s, mv_cax d 30 [.inr (.inr (some p)), .inl (mv_c P), .inl (mv_c C)] (zz_S T J R G) = some s ∧ ∃ J', s = (none, zz_S T J' R G) ∧ (∀ x, (x < p ∨ p + 6 < x) → J' x = J x) ∧ (∀ y, 4 ≤ y → J' p y = J p y) ∧ (J' p 0 = P ∧ J' p 1 = C ∧ J' p 2 = P * C ∧ J' p 3 = 0) ∧ (∀ e, 0 ≤ e → e < P * C → zt_ge J' p A (P * C) C e) ∧ ∀ k, 0 ≤ k → k < 16 → J' (p + 4) k = 2 ∧ J' (p + 5) k = -1 ∧ J' (p + 6) k = 0 by
    obtain ⟨s, g1, J', rfl, g2⟩ := h
    exact ⟨J', g1, g2⟩
  refine zz_call (by omega) t_30 rfl (fun n => e_30 _ _ _ _) ?_
  obtain ⟨Q, hQ⟩ : ∃ Q : Option mv_V × mv_S → Prop, Q = fun s => ∃ J', s = (none, zz_S T J' R G) ∧ (∀ x, (x < p ∨ p + 6 < x) → J' x = J x) ∧ (∀ y, 4 ≤ y → J' p y = J p y) ∧ (J' p 0 = P ∧ J' p 1 = C ∧ J' p 2 = P * C ∧ J' p 3 = 0) ∧ (∀ e, 0 ≤ e → e < P * C → zt_ge J' p A (P * C) C e) ∧ ∀ k, 0 ≤ k → k < 16 → J' (p + 4) k = 2 ∧ J' (p + 5) k = -1 ∧ J' (p + 6) k = 0 := ⟨_, rfl⟩
  rw [← hQ]
  obtain ⟨J1, hJ1⟩ : ∃ J1, J1 = zz_u (zz_u (zz_u (zz_u J p 0 P) p 1 C) p 2 (P * C)) p 3 0 := ⟨_, rfl⟩
  have f1 : ∀ x, x ≠ p → J1 x = J x := fun x hx => by rw [hJ1, zu_A hx, zu_A hx, zu_A hx, zu_A hx]
  have y1 : ∀ y, 4 ≤ y → J1 p y = J p y := fun y hy => by rw [hJ1, zu_k (by omega), zu_k (by omega), zu_k (by omega), zu_k (by omega)]
  have v1 : J1 p 0 = P ∧ J1 p 1 = C ∧ J1 p 2 = P * C ∧ J1 p 3 = 0 := by
    rw [hJ1]
    exact ⟨by rw [zu_k (by omega), zu_k (by omega), zu_k (by omega), zu_s], by rw [zu_k (by omega), zu_k (by omega), zu_s], by rw [zu_k (by omega), zu_s], zu_s⟩
  have h217 := c_217g (T := T) (J := J1) (R := R) (G := G) (d := d - 1) (q := p + 4) (m := 16) (v := 2) (by omega) hL.2.2.2.2.1.1 (by omega) (by omega)
  obtain ⟨J2, hJ2⟩ : ∃ J2, zz_w J1 (p + 4) (fun k : Int => if 0 ≤ k ∧ k < ((16 : Nat) : Int) then 2 else J1 (p + 4) k) = J2 := ⟨_, rfl⟩
  rw [hJ2] at h217
  have h217' := c_217g (T := T) (J := J2) (R := R) (G := G) (d := d - 1) (q := p + 5) (m := 16) (v := -1) (by omega) hL.2.2.2.2.2.1.1 (by omega) (by omega)
  obtain ⟨J3, hJ3⟩ : ∃ J3, zz_w J2 (p + 5) (fun k : Int => if 0 ≤ k ∧ k < ((16 : Nat) : Int) then -1 else J2 (p + 5) k) = J3 := ⟨_, rfl⟩
  rw [hJ3] at h217'
  have f3 : ∀ x, x ≠ p + 4 → x ≠ p + 5 → J3 x = J1 x := fun x x1 x2 => by rw [← hJ3, zw_n x2, ← hJ2, zw_n x1]
  have v4 : ∀ k, 0 ≤ k → k < 16 → J3 (p + 4) k = 2 := fun k k0 k1 => by rw [← hJ3, zw_n (by omega), ← hJ2, zw_s, if_pos ⟨k0, k1⟩]
  have v5 : ∀ k, 0 ≤ k → k < 16 → J3 (p + 5) k = -1 := fun k k0 k1 => by rw [← hJ3, zw_s, if_pos ⟨k0, k1⟩]
  simp (maxSteps := 5000000) (disch := first | assumption | omega) only [zqp_L_0, zqp_L_1, zqp_L_2, zqp_L_3, zz_mul]
  rw [← hJ1]
  simp (maxSteps := 5000000) (disch := first | assumption | omega) only [zqr_L_11, zqr_L_12, h217, h217', zo_rV]
  clear hJ1 hJ2 hJ3 h217 h217'
  have l := zz_loop (α := Int → Int) (run := fun c O n => mv_run (mv_cax (d - 1)) mm_30 n 40 [(0, .inr (.inr (some p))), (3, .inl (mv_c c))] [] (zz_S T (zz_w J3 (p + 6) O) R G)) (Q := Q) 16 (fun c O => 0 ≤ c ∧ ∀ i, 0 ≤ i → i < c → O i = 0) ?_ ?_ 16 0 (J3 (p + 6)) (by omega) ⟨by omega, fun i _ _ => by omega⟩
  · rw [zw_i] at l
    exact l
  · rintro c O ⟨hc, hO⟩ hlt kk
    refine zz_Es (fun n => e_30_40 _ _ _) ?_
    simp (maxSteps := 5000000) (disch := first | assumption | omega) only [zo_rf, zqr_L_13, zqs_L_6, zz_wu, zz_le, zz_add]
    refine zz_Ei (fun h => absurd h (by omega)) (fun _ => ?_)
    refine kk _ ⟨by omega, fun i i0 i1 => ?_⟩
    by_cases q : i = c
    · rw [q, zf_s]
    · rw [zf_n q]
      exact hO i i0 (by omega)
  · rintro O ⟨_, hO⟩
    obtain ⟨J4, hJ4⟩ : ∃ J4, J4 = zz_w J3 (p + 6) O := ⟨_, rfl⟩
    have f4 : ∀ x, x ≠ p + 6 → J4 x = J3 x := fun x hx => by rw [hJ4, zw_n hx]
    have v6 : ∀ k, 0 ≤ k → k < 16 → J4 (p + 6) k = 0 := by rw [hJ4, zw_s]; exact hO
    refine zz_Es (fun n => e_30_40 _ _ _) ?_
    simp (maxSteps := 5000000) (disch := first | assumption | omega) only [zz_le]
    refine zz_Ei (fun _ => ?_) (fun h => absurd (Int.le_refl _) h)
    rw [← hJ4]
    have g0 : J4 p 0 = P := by rw [f4 p (by omega), f3 p (by omega) (by omega)]; exact v1.1
    have g1 : J4 p 1 = C := by rw [f4 p (by omega), f3 p (by omega) (by omega)]; exact v1.2.1
    have l2 := zz_loop (α := Nat → Int → Int) (run := fun r J5 n => mv_run (mv_cax (d - 1)) mm_30 n 64 [(0, .inr (.inr (some p))), (3, .inl (mv_c (r * C))), (4, .inl (mv_c r))] [] (zz_S T J5 R G)) (Q := Q) P (fun r J5 => 0 ≤ r ∧ (∀ x, x ≠ p + 1 → x ≠ p + 2 → x ≠ p + 3 → J5 x = J4 x) ∧ ∀ e, 0 ≤ e → e < r * C → zt_ge J5 p A (P * C) C e) ?_ ?_ P.toNat 0 J4 (by omega) ⟨by omega, fun _ _ _ _ => rfl, fun e e0 e1 => by omega⟩
    · rw [Int.zero_mul] at l2
      exact l2
    · rintro r J5 ⟨hr, k1, k2⟩ hlt kk
      have q0 : J5 p 0 = P := by rw [k1 p (by omega) (by omega) (by omega)]; exact g0
      refine zz_Es (fun n => e_30_64 _ _ _ _) ?_
      simp (maxSteps := 5000000) (disch := first | assumption | omega) only [zqg_L_0, q0, zz_le]
      refine zz_Ei (fun h => absurd h (by omega)) (fun _ => ?_)
      have l3 := zz_loop (α := Nat → Int → Int) (run := fun c J5 n => mv_run (mv_cax (d - 1)) mm_30 n 76 [(0, .inr (.inr (some p))), (3, .inl (mv_c (r * C + c))), (4, .inl (mv_c r)), (5, .inl (mv_c c))] [] (zz_S T J5 R G)) (Q := Q) C (fun c J5 => 0 ≤ c ∧ (∀ x, x ≠ p + 1 → x ≠ p + 2 → x ≠ p + 3 → J5 x = J4 x) ∧ ∀ e, 0 ≤ e → e < r * C + c → zt_ge J5 p A (P * C) C e) ?_ ?_ C.toNat 0 J5 (by omega) ⟨by omega, k1, fun e e0 e1 => k2 e e0 (by omega)⟩
      · rw [Int.add_zero] at l3
        exact l3
      · rintro c J5 ⟨hc, k1, k2⟩ hlt' kk'
        have q0 : J5 p 0 = P := by rw [k1 p (by omega) (by omega) (by omega)]; exact g0
        have q1 : J5 p 1 = C := by rw [k1 p (by omega) (by omega) (by omega)]; exact g1
        have hdx := zt_dc (y := r) hC hc hlt'
        have heb : 0 ≤ r * C + c ∧ r * C + c < 16 := by
          rcases (show C = 2 ∨ C = 3 ∨ C = 4 by omega) with q | q | q <;> rw [q] at hlt' ⊢ <;> omega
        obtain ⟨J6, c31, w1, w2, w3, w4⟩ := k_31 (T := T) (J := J5) (R := R) (G := G) (d := d - 1) (e := r * C + c) (r := r) (c := c) (P := P) (C := C) (A := A) (by omega) hL hp hP hC q0 q1 a0 a1 ⟨hr, hlt⟩ ⟨hc, hlt'⟩ rfl
        refine zz_Es (fun n => e_30_76 _ _ _ _ _) ?_
        simp (maxSteps := 5000000) (disch := first | assumption | omega) only [zqg_L_1, q1, zz_le, zqi_L, c31, zo_rV, zz_add]
        refine zz_Ei (fun h => absurd h (by omega)) (fun _ => ?_)
        refine zz_Ei (fun h => absurd h (by omega)) (fun _ => ?_)
        rw [Int.add_assoc]
        refine kk' J6 ⟨by omega, fun x x1 x2 x3 => by rw [w1 x x1 x2 x3]; exact k1 x x1 x2 x3, fun e e0 e1 => ?_⟩
        by_cases q : e = r * C + c
        · refine ⟨by rw [w2, if_pos q, q, hdx.2], fun i i0 i1 => by rw [w4, q, if_pos (by omega), show (r * C + c) * 4 + i - (r * C + c) * 4 = i by omega], fun b b0 b1 => by rw [w3, q, if_pos (by omega), show (r * C + c) * 16 + b - (r * C + c) * 16 = b by omega]⟩
        · obtain ⟨u1, u2, u3⟩ := k2 e e0 (by omega)
          exact ⟨by rw [w2, if_neg q]; exact u1, fun i i0 i1 => by rw [w4, if_neg (by omega)]; exact u2 i i0 i1, fun b b0 b1 => by rw [w3, if_neg (by omega)]; exact u3 b b0 b1⟩
      · rintro J5 ⟨_, k1, k2⟩
        have q1 : J5 p 1 = C := by rw [k1 p (by omega) (by omega) (by omega)]; exact g1
        refine zz_Es (fun n => e_30_76 _ _ _ _ _) ?_
        simp (maxSteps := 5000000) (disch := first | assumption | omega) only [zqg_L_1, q1, zz_le, zz_add]
        refine zz_Ei (fun _ => ?_) (fun h => absurd (Int.le_refl _) h)
        have e1 : r * C + C = (r + 1) * C := by rw [Int.add_mul, Int.one_mul]
        rw [e1] at k2 ⊢
        exact kk J5 ⟨by omega, k1, k2⟩
    · rintro J5 ⟨_, k1, k2⟩
      have q0 : J5 p 0 = P := by rw [k1 p (by omega) (by omega) (by omega)]; exact g0
      refine zz_Es (fun n => e_30_64 _ _ _ _) ?_
      simp (maxSteps := 5000000) (disch := first | assumption | omega) only [zqg_L_0, q0, zz_le]
      refine zz_Ei (fun _ => ?_) (fun h => absurd (Int.le_refl _) h)
      rw [hQ]
      have kp : J5 p = J1 p := by rw [k1 p (by omega) (by omega) (by omega), f4 p (by omega), f3 p (by omega) (by omega)]
      refine zz_Er ⟨J5, rfl, fun x hx => by rw [k1 x (by omega) (by omega) (by omega), f4 x (by omega), f3 x (by omega) (by omega), f1 x (by omega)], fun y hy => by rw [kp]; exact y1 y hy, by rw [kp]; exact v1, k2, fun k h0 h1 => ⟨?_, ?_, ?_⟩⟩
      · rw [k1 _ (by omega) (by omega) (by omega), f4 _ (by omega)]; exact v4 k h0 h1
      · rw [k1 _ (by omega) (by omega) (by omega), f4 _ (by omega)]; exact v5 k h0 h1
      · rw [k1 _ (by omega) (by omega) (by omega)]; exact v6 k h0 h1
end ZLOC
