/-! PURE LAYER, 82: the class's land laid anew -/
theorem zt_dc {C y x : Int} (hC : 2 ≤ C ∧ C ≤ 4) (x0 : 0 ≤ x) (x1 : x < C) : (y * C + x) / C = y ∧ (y * C + x) % C = x := by
  rcases (show C = 2 ∨ C = 3 ∨ C = 4 by omega) with rfl | rfl | rfl <;> omega
def zt_new (A : Int → Int) (r c : Int) : Int → Int := fun y => if y = 0 then r else if y = 1 then c else if y = 5 ∨ y = 6 then 0 else if 8 ≤ y ∧ y < 24 then 2 else if 24 ≤ y ∧ y < 40 then -4 else A y
section ZREN
variable {T : List mv_T} {J : Nat → Int → Int} {R : Nat → Nat → Option Nat} {G : Nat → Nat → Int64} {d p q : Nat} {Y : Int} {A : Int → Int}
theorem c_31l {M : Nat → Int → Int} {e r c P C : Int} {Q : Option mv_V × mv_S → Prop} (hL : ZL T R) (hp : Lnd p) (hP : 2 ≤ P ∧ P ≤ 4) (hC : 2 ≤ C ∧ C ≤ 4) (h0 : M p 0 = P) (h1 : M p 1 = C) (e0 : 0 ≤ e) (e1 : e < 16) (hr : 0 ≤ r ∧ r < 4) (hc : 0 ≤ c ∧ c < C) (he : e = r * C + c)
    (fin : ∀ O : Int → Int, (∀ k, O k = if e * 16 ≤ k ∧ k < e * 16 + P * C then zz_nr C e (k - e * 16) else M (p + 2) k) → Q (none, zz_S T (zz_w M (p + 2) O) R G)) :
    zz_E (fun n => mv_run (mv_cax d) mm_31 n 114 [(0, .inr (.inr (some p))), (1, .inl (mv_c e)), (2, .inl (mv_c r)), (3, .inl (mv_c c)), (5, .inl (mv_c 0)), (6, .inl (mv_c 0))] [] (zz_S T M R G)) Q := by
  have hpl : p + 12 < 73 := by rcases hp with rfl | rfl | rfl | rfl <;> omega
  have hn := zz_prod hP.1 hP.2 hC.1 hC.2
  have hdr := zt_dc (y := r) hC hc.1 hc.2
  rw [← he] at hdr
  have l := zz_loop (α := Int → Int) (run := fun y O n => mv_run (mv_cax d) mm_31 n 114 [(0, .inr (.inr (some p))), (1, .inl (mv_c e)), (2, .inl (mv_c r)), (3, .inl (mv_c c)), (5, .inl (mv_c (y * C))), (6, .inl (mv_c y))] [] (zz_S T (zz_w M (p + 2) O) R G)) (Q := Q) P (fun y O => 0 ≤ y ∧ ∀ k, O k = if e * 16 ≤ k ∧ k < e * 16 + y * C then zz_nr C e (k - e * 16) else M (p + 2) k) ?_ ?_ P.toNat 0 (M (p + 2)) (by omega) ⟨by omega, fun k => by rw [Int.zero_mul, if_neg (by omega)]⟩
  · rw [zw_i, Int.zero_mul] at l
    exact l
  · rintro y O ⟨hy, hO⟩ hlt kk
    have g0 : ∀ O, zz_w M (p + 2) O p 0 = P := fun O => by rw [zw_n (by omega)]; exact h0
    have g1 : ∀ O, zz_w M (p + 2) O p 1 = C := fun O => by rw [zw_n (by omega)]; exact h1
    have hyC : 0 ≤ y * C ∧ y * C + C ≤ P * C := by
      rcases (show C = 2 ∨ C = 3 ∨ C = 4 by omega) with q | q | q <;> rw [q] <;> omega
    refine zz_Es (fun n => e_31_114 _ _ _ _ _ _ _) ?_
    simp (maxSteps := 5000000) (disch := first | assumption | omega) only [zg_L_0, g0, zz_le]
    refine zz_Ei (fun h => absurd h (by omega)) (fun _ => ?_)
    refine zz_loop (α := Int → Int) (run := fun x O n => mv_run (mv_cax d) mm_31 n 126 [(0, .inr (.inr (some p))), (1, .inl (mv_c e)), (2, .inl (mv_c r)), (3, .inl (mv_c c)), (5, .inl (mv_c (y * C + x))), (6, .inl (mv_c y)), (7, .inl (mv_c x))] [] (zz_S T (zz_w M (p + 2) O) R G)) C (fun x O => 0 ≤ x ∧ ∀ k, O k = if e * 16 ≤ k ∧ k < e * 16 + (y * C + x) then zz_nr C e (k - e * 16) else M (p + 2) k) ?_ ?_ C.toNat 0 O (by omega) ⟨by omega, fun k => by rw [Int.add_zero]; exact hO k⟩ |> (fun h => by rw [Int.add_zero] at h; exact h)
    · rintro x O ⟨hx, hO⟩ hlt' kk'
      have hdx := zt_dc (y := y) hC hx hlt'
      have hnr : zz_nr C e (y * C + x) = ((r - y).natAbs : Int) + ((c - x).natAbs : Int) := by
        unfold zz_nr
        rw [hdr.1, hdr.2, hdx.1, hdx.2]
      refine zz_Es (fun n => e_31_126 _ _ _ _ _ _ _ _) ?_
      simp (maxSteps := 5000000) (disch := first | assumption | omega) only [zo_rf, zg_L_1, g1, zz_le, zz_add, zz_sub, zz_mul, zz_abs, zr_L_9, zs_L_2, zz_wu]
      refine zz_Ei (fun h => absurd h (by omega)) (fun _ => ?_)
      refine zz_Ei (fun h => absurd h (by omega)) (fun _ => ?_)
      rw [Int.add_assoc]
      refine kk' _ ⟨by omega, fun k => ?_⟩
      by_cases q : k = e * 16 + (y * C + x)
      · rw [q, zf_s, if_pos (by omega), show e * 16 + (y * C + x) - e * 16 = y * C + x by omega, hnr]
      · rw [zf_n q, hO k]
        by_cases q' : e * 16 ≤ k ∧ k < e * 16 + (y * C + x)
        · rw [if_pos q', if_pos (by omega)]
        · rw [if_neg q', if_neg (by omega)]
    · rintro O ⟨_, hO⟩
      refine zz_Es (fun n => e_31_126 _ _ _ _ _ _ _ _) ?_
      simp (maxSteps := 5000000) (disch := first | assumption | omega) only [zg_L_1, g1, zz_le, zz_add]
      refine zz_Ei (fun _ => ?_) (fun h => absurd (Int.le_refl _) h)
      have e1 : y * C + C = (y + 1) * C := by rw [Int.add_mul, Int.one_mul]
      rw [e1] at hO ⊢
      exact kk O ⟨by omega, hO⟩
  · rintro O ⟨_, hO⟩
    have g0 : zz_w M (p + 2) O p 0 = P := by rw [zw_n (by omega)]; exact h0
    refine zz_Es (fun n => e_31_114 _ _ _ _ _ _ _) ?_
    simp (maxSteps := 5000000) (disch := first | assumption | omega) only [zg_L_0, g0, zz_le]
    refine zz_Ei (fun _ => ?_) (fun h => absurd (Int.le_refl _) h)
    exact zz_Er (fin O hO)
theorem c_31 {e r c P C : Int} {A : Int → Int} (hd : 1 ≤ d) (hL : ZL T R) (hp : Lnd p) (hP : 2 ≤ P ∧ P ≤ 4) (hC : 2 ≤ C ∧ C ≤ 4) (h0 : J p 0 = P) (h1 : J p 1 = C) (a0 : A 0 = P) (a1 : A 1 = C) (hr : 0 ≤ r ∧ r < P) (hc : 0 ≤ c ∧ c < C) (he : e = r * C + c) :
    ∃ J', mv_cax d 31 [.inr (.inr (some p)), .inl (mv_c e), .inl (mv_c r), .inl (mv_c c)] (zz_S T J R G) = some (none, zz_S T J' R G) ∧ (∀ x, x ≠ p + 1 → x ≠ p + 2 → x ≠ p + 3 → J' x = J x) ∧ (∀ k, J' (p + 1) k = if k = e then c else J (p + 1) k) ∧ (∀ k, J' (p + 2) k = if e * 16 ≤ k ∧ k < e * 16 + P * C then zz_nr C e (k - e * 16) else J (p + 2) k) ∧ ∀ k, J' (p + 3) k = if e * 4 ≤ k ∧ k < e * 4 + 4 then zz_cd A e (k - e * 4) else J (p + 3) k := by
  have hpl : p + 12 < 73 := by rcases hp with rfl | rfl | rfl | rfl <;> omega
  have hn := zz_prod hP.1 hP.2 hC.1 hC.2
  have hdr := zt_dc (y := r) hC hc.1 hc.2
  rw [← he] at hdr
  have heb : 0 ≤ e ∧ e < 16 := by
    rw [he]
    rcases (show C = 2 ∨ C = 3 ∨ C = 4 by omega) with q | q | q <;> rw [q] at hc ⊢ <;> omega
  have cd : ∀ i y x, zz_dy i = y → zz_dx i = x → zz_cd A e i = if (0 ≤ r + y ∧ r + y ≤ P - 1) ∧ (0 ≤ c + x ∧ c + x ≤ C - 1) then (r + y) * C + (c + x) else -1 := by
    intro i y x hy hx
    unfold zz_cd
    rw [hy, hx, a0, a1, hdr.1, hdr.2]
  have cd0 : zz_cd A e 0 = if 0 < r then e - C else -1 := by
    rw [cd 0 (-1) 0 rfl rfl]
    by_cases q : 0 < r
    · rw [if_pos (by omega), if_pos q, he, Int.add_mul]
      omega
    · rw [if_neg (by omega), if_neg q]
  have cd1 : zz_cd A e 1 = if c < C - 1 then e + 1 else -1 := by
    rw [cd 1 0 1 rfl rfl]
    by_cases q : c < C - 1
    · rw [if_pos (by omega), if_pos q, he, Int.add_zero]
      omega
    · rw [if_neg (by omega), if_neg q]
  have cd2 : zz_cd A e 2 = if r < P - 1 then e + C else -1 := by
    rw [cd 2 1 0 rfl rfl]
    by_cases q : r < P - 1
    · rw [if_pos (by omega), if_pos q, he, Int.add_mul]
      omega
    · rw [if_neg (by omega), if_neg q]
  have cd3 : zz_cd A e 3 = if 0 < c then e - 1 else -1 := by
    rw [cd 3 0 (-1) rfl rfl]
    by_cases q : 0 < c
    · rw [if_pos (by omega), if_pos q, he, Int.add_zero]
      omega
    · rw [if_neg (by omega), if_neg q]
  suffices h : ∃ s, mv_cax d 31 [.inr (.inr (some p)), .inl (mv_c e), .inl (mv_c r), .inl (mv_c c)] (zz_S T J R G) = some s ∧ ∃ J', s = (none, zz_S T J' R G) ∧ (∀ x, x ≠ p + 1 → x ≠ p + 2 → x ≠ p + 3 → J' x = J x) ∧ (∀ k, J' (p + 1) k = if k = e then c else J (p + 1) k) ∧ (∀ k, J' (p + 2) k = if e * 16 ≤ k ∧ k < e * 16 + P * C then zz_nr C e (k - e * 16) else J (p + 2) k) ∧ ∀ k, J' (p + 3) k = if e * 4 ≤ k ∧ k < e * 4 + 4 then zz_cd A e (k - e * 4) else J (p + 3) k by
    obtain ⟨s, g1, J', rfl, g2⟩ := h
    exact ⟨J', g1, g2⟩
  refine zz_call (by omega) t_31 rfl (fun n => e_31 _ _ _ _ _) ?_
  obtain ⟨Q, hQ⟩ : ∃ Q : Option mv_V × mv_S → Prop, Q = fun s => ∃ J', s = (none, zz_S T J' R G) ∧ (∀ x, x ≠ p + 1 → x ≠ p + 2 → x ≠ p + 3 → J' x = J x) ∧ (∀ k, J' (p + 1) k = if k = e then c else J (p + 1) k) ∧ (∀ k, J' (p + 2) k = if e * 16 ≤ k ∧ k < e * 16 + P * C then zz_nr C e (k - e * 16) else J (p + 2) k) ∧ ∀ k, J' (p + 3) k = if e * 4 ≤ k ∧ k < e * 4 + 4 then zz_cd A e (k - e * 4) else J (p + 3) k := ⟨_, rfl⟩
  rw [← hQ]
  -- behind the four sides
  have tail : ∀ v0 v1 v2 v3, v0 = zz_cd A e 0 → v1 = zz_cd A e 1 → v2 = zz_cd A e 2 → v3 = zz_cd A e 3 → zz_E (fun n => mv_run (mv_cax (d - 1)) mm_31 n 114 [(0, .inr (.inr (some p))), (1, .inl (mv_c e)), (2, .inl (mv_c r)), (3, .inl (mv_c c)), (5, .inl (mv_c 0)), (6, .inl (mv_c 0))] [] (zz_S T (zz_u (zz_u (zz_u (zz_u (zz_u J (p + 1) e c) (p + 3) (e * 4) v0) (p + 3) (e * 4 + 1) v1) (p + 3) (e * 4 + 2) v2) (p + 3) (e * 4 + 3) v3) R G)) Q := by
    intro v0 v1 v2 v3 w0 w1 w2 w3
    refine c_31l (P := P) (C := C) hL hp hP hC ?_ ?_ heb.1 heb.2 (by omega) hc he ?_
    · rw [zu_A (by omega), zu_A (by omega), zu_A (by omega), zu_A (by omega), zu_A (by omega)]; exact h0
    · rw [zu_A (by omega), zu_A (by omega), zu_A (by omega), zu_A (by omega), zu_A (by omega)]; exact h1
    · intro O hO
      rw [hQ]
      refine ⟨_, rfl, fun x x1 x2 x3 => by rw [zw_n x2, zu_A x3, zu_A x3, zu_A x3, zu_A x3, zu_A x1], fun k => ?_, fun k => ?_, fun k => ?_⟩
      · rw [zw_n (by omega), zu_A (by omega), zu_A (by omega), zu_A (by omega), zu_A (by omega)]
        by_cases q : k = e
        · rw [q, zu_s, if_pos rfl]
        · rw [zu_k q, if_neg q]
      · rw [zw_s, hO k]
        rw [zu_A (by omega), zu_A (by omega), zu_A (by omega), zu_A (by omega), zu_A (by omega)]
      · rw [zw_n (by omega)]
        by_cases q3 : k = e * 4 + 3
        · rw [q3, zu_s, if_pos (by omega), w3, show e * 4 + 3 - e * 4 = 3 by omega]
        · rw [zu_k q3]
          by_cases q2 : k = e * 4 + 2
          · rw [q2, zu_s, if_pos (by omega), w2, show e * 4 + 2 - e * 4 = 2 by omega]
          · rw [zu_k q2]
            by_cases q1 : k = e * 4 + 1
            · rw [q1, zu_s, if_pos (by omega), w1, show e * 4 + 1 - e * 4 = 1 by omega]
            · rw [zu_k q1]
              by_cases q0 : k = e * 4
              · rw [q0, zu_s, if_pos (by omega), w0, show e * 4 - e * 4 = 0 by omega]
              · rw [zu_k q0, zu_A (by omega), if_neg (by omega)]
  -- the lower two
  have low : ∀ v0 v1, v0 = zz_cd A e 0 → v1 = zz_cd A e 1 → zz_E (fun n => mv_run (mv_cax (d - 1)) mm_31 n 58 [(0, .inr (.inr (some p))), (1, .inl (mv_c e)), (2, .inl (mv_c r)), (3, .inl (mv_c c)), (4, .inl (mv_c (e * 4)))] [.inl (mv_c v1), .inl (mv_c (e * 4 + 1)), .inr (.inr (some (p + 3)))] (zz_S T (zz_u (zz_u J (p + 1) e c) (p + 3) (e * 4) v0) R G)) Q := by
    intro v0 v1 w0 w1
    refine zz_Es (fun n => e_31_58 _ _ _ _ _ _ _ _ _) ?_
    simp (maxSteps := 5000000) (disch := first | assumption | omega) only [zz_0, zo_rf, zs_L_3, zr_L_10, zg_L_0, zg_L_1, zu_A, h0, h1, zz_sub, zz_add, zz_le]
    refine zz_Ei (fun g2 => ?_) (fun g2 => ?_)
    · refine zz_Ei (fun g3 => ?_) (fun g3 => ?_)
      · exact tail _ _ _ _ w0 w1 (by rw [cd2, if_neg (by omega)]) (by rw [cd3, if_neg (by omega)])
      · exact tail _ _ _ _ w0 w1 (by rw [cd2, if_neg (by omega)]) (by rw [cd3, if_pos (by omega)])
    · refine zz_Ei (fun g3 => ?_) (fun g3 => ?_)
      · exact tail _ _ _ _ w0 w1 (by rw [cd2, if_pos (by omega)]) (by rw [cd3, if_neg (by omega)])
      · exact tail _ _ _ _ w0 w1 (by rw [cd2, if_pos (by omega)]) (by rw [cd3, if_pos (by omega)])
  simp (maxSteps := 5000000) (disch := first | assumption | omega) only [zz_0, zo_rf, zs_L_1, zs_L_3, zr_L_8, zr_L_10, zg_L_0, zg_L_1, zu_A, h0, h1, zz_sub, zz_add, zz_mul, zz_le]
  refine zz_Ei (fun g0 => ?_) (fun g0 => ?_)
  · refine zz_Ei (fun g1 => ?_) (fun g1 => ?_)
    · exact low _ _ (by rw [cd0, if_neg (by omega)]) (by rw [cd1, if_neg (by omega)])
    · exact low _ _ (by rw [cd0, if_neg (by omega)]) (by rw [cd1, if_pos (by omega)])
  · refine zz_Ei (fun g1 => ?_) (fun g1 => ?_)
    · exact low _ _ (by rw [cd0, if_pos (by omega)]) (by rw [cd1, if_neg (by omega)])
    · exact low _ _ (by rw [cd0, if_pos (by omega)]) (by rw [cd1, if_pos (by omega)])
end ZREN
