/-! PURE LAYER, 121: the law, call by call -/
section ZLAW
variable {X : Int → Int} {L m : Nat} {T : List mv_T} {J : Nat → Int → Int} {R : Nat → Nat → Option Nat} {G : Nat → Nat → Int64} {y : Int} {Q : Option mv_V × mv_S → Prop}
theorem zq_ix {i : Int} {n : Nat} {k : Nat → mv_O} (h0 : 0 ≤ i) (h1 : i < n) (hn : n ≤ 100000) : mo_ix (mv_c i) n k = k i.toNat := by
  have e : (mv_c i).toNatClampNeg = i.toNat := by
    rw [← Int32.toNat_toInt, zz_ti (by omega) (by omega)]
  unfold mo_ix
  rw [if_neg, e]
  rw [e, zz_0, zz_lt (by omega) (by omega) (by omega) (by omega)]
  omega
theorem zq_aI {i : Int} {k : Int32 → mv_O} (h : T[0]? = some (.inr (0, L))) (hX : J 0 = X) (hL : L ≤ 3072) (h0 : 0 ≤ i) (h1 : i < L) : mo_aI (zz_S T J R G) 0 (mv_c i) k = k (mv_c (X i)) := by
  unfold mo_aI
  rw [zz_ty h, zq_ix h0 h1 (by omega)]
  show k (mv_c (J 0 (i.toNat : Int))) = _
  rw [Int.toNat_of_nonneg h0, hX]
theorem zq_cmp (l : Int64) : lg_cmp l l = mv_c 0 := by
  unfold lg_cmp
  rw [if_neg (Int64.lt_irrefl), if_pos rfl]
  rfl
def zq_K (X : Int → Int) (L m : Nat) (y : Int) (Q : Option mv_V × mv_S → Prop) : Prop := ∀ (T : List mv_T) (J : Nat → Int → Int) (R : Nat → Nat → Option Nat) (G : Nat → Nat → Int64), zq_W X L (m + 1) T J R → zz_E (fun n => mv_run (mv_cax 40) mm_219 n 1316 [(0, .inr (.inr (some 0))), (1, .inr (.inr (some 16))), (2, .inr (.inr (some 131))), (3, .inr (.inr (some 155))), (4, .inl (mv_c y))] [] (zz_S T J R G)) Q
theorem zq_l0 (hW : zq_W X L m T J R) (hm : m < 512) (hL3 : L ≤ 3072) (y0 : 0 ≤ y) (y1 : y + 6 ≤ L) (hr : ∀ i, zk_r32 (X i)) (kk : zq_K X L m y Q) : zz_E (fun n => mv_run (mv_cax 40) mm_219 n 192 [(0, .inr (.inr (some 0))), (1, .inr (.inr (some 16))), (2, .inr (.inr (some 131))), (3, .inr (.inr (some 155))), (4, .inl (mv_c y))] [] (zz_S T J R G)) Q := by
  obtain ⟨⟨hL, hT0, hX⟩, -⟩ := id hW
  obtain ⟨v, T1, J1, R1, G1, J2, h1, h2, ⟨hL1, hT1, hX1⟩, hW2⟩ := zq_s0 (G := G) (a := X (y + 1)) hW hm (hr _)
  refine zz_Es (fun n => e_219_192 _ _ _ _ _ _) ?_
  simp (maxSteps := 5000000) (disch := first | assumption | omega) only [zz_add, zq_aI hT0 hX hL3, zq_aI hT1 hX1 hL3, zo_rf, zi_16 hL, zi_131 hL1, h1, h2, zo_rI]
  first
    | exact kk _ _ _ _ hW2
    | exact zz_Ei (fun _ => kk _ _ _ _ hW2) (fun h => absurd trivial h)
    | exact zz_Ei (fun _ => kk _ _ _ _ hW2) (fun h => absurd rfl h)
theorem zq_l1 (hW : zq_W X L m T J R) (hm : m < 512) (hL3 : L ≤ 3072) (y0 : 0 ≤ y) (y1 : y + 6 ≤ L) (hr : ∀ i, zk_r32 (X i)) (kk : zq_K X L m y Q) : zz_E (fun n => mv_run (mv_cax 40) mm_219 n 217 [(0, .inr (.inr (some 0))), (1, .inr (.inr (some 16))), (2, .inr (.inr (some 131))), (3, .inr (.inr (some 155))), (4, .inl (mv_c y))] [] (zz_S T J R G)) Q := by
  obtain ⟨⟨hL, hT0, hX⟩, -⟩ := id hW
  obtain ⟨v, T1, J1, R1, G1, J2, h1, h2, ⟨hL1, hT1, hX1⟩, hW2⟩ := zq_s1 (G := G) (a := X (y + 1)) (b := X (y + 2)) hW hm (hr _) (hr _)
  refine zz_Es (fun n => e_219_217 _ _ _ _ _ _) ?_
  simp (maxSteps := 5000000) (disch := first | assumption | omega) only [zz_add, zq_aI hT0 hX hL3, zq_aI hT1 hX1 hL3, zo_rf, zi_16 hL, zi_131 hL1, h1, h2, zo_rI]
  first
    | exact kk _ _ _ _ hW2
    | exact zz_Ei (fun _ => kk _ _ _ _ hW2) (fun h => absurd trivial h)
    | exact zz_Ei (fun _ => kk _ _ _ _ hW2) (fun h => absurd rfl h)
theorem zq_l2 (hW : zq_W X L m T J R) (hm : m < 512) (hL3 : L ≤ 3072) (y0 : 0 ≤ y) (y1 : y + 6 ≤ L) (hr : ∀ i, zk_r32 (X i)) (kk : zq_K X L m y Q) : zz_E (fun n => mv_run (mv_cax 40) mm_219 n 254 [(0, .inr (.inr (some 0))), (1, .inr (.inr (some 16))), (2, .inr (.inr (some 131))), (3, .inr (.inr (some 155))), (4, .inl (mv_c y))] [] (zz_S T J R G)) Q := by
  obtain ⟨⟨hL, hT0, hX⟩, -⟩ := id hW
  obtain ⟨v, T1, J1, R1, G1, J2, h1, h2, ⟨hL1, hT1, hX1⟩, hW2⟩ := zq_s2 (G := G) (a := X (y + 1)) hW hm (hr _)
  refine zz_Es (fun n => e_219_254 _ _ _ _ _ _) ?_
  simp (maxSteps := 5000000) (disch := first | assumption | omega) only [zz_add, zq_aI hT0 hX hL3, zq_aI hT1 hX1 hL3, zo_rf, zi_16 hL, zi_131 hL1, h1, h2, zo_rI]
  first
    | exact kk _ _ _ _ hW2
    | exact zz_Ei (fun _ => kk _ _ _ _ hW2) (fun h => absurd trivial h)
    | exact zz_Ei (fun _ => kk _ _ _ _ hW2) (fun h => absurd rfl h)
theorem zq_l3 (hW : zq_W X L m T J R) (hm : m < 512) (hL3 : L ≤ 3072) (y0 : 0 ≤ y) (y1 : y + 6 ≤ L) (hr : ∀ i, zk_r32 (X i)) (kk : zq_K X L m y Q) : zz_E (fun n => mv_run (mv_cax 40) mm_219 n 279 [(0, .inr (.inr (some 0))), (1, .inr (.inr (some 16))), (2, .inr (.inr (some 131))), (3, .inr (.inr (some 155))), (4, .inl (mv_c y))] [] (zz_S T J R G)) Q := by
  obtain ⟨⟨hL, hT0, hX⟩, -⟩ := id hW
  obtain ⟨v, T1, J1, R1, G1, J2, h1, h2, ⟨hL1, hT1, hX1⟩, hW2⟩ := zq_s3 (G := G) (a := X (y + 1)) (b := X (y + 2)) hW hm (hr _) (hr _)
  refine zz_Es (fun n => e_219_279 _ _ _ _ _ _) ?_
  simp (maxSteps := 5000000) (disch := first | assumption | omega) only [zz_add, zq_aI hT0 hX hL3, zq_aI hT1 hX1 hL3, zo_rf, zi_16 hL, zi_131 hL1, h1, h2, zo_rI]
  first
    | exact kk _ _ _ _ hW2
    | exact zz_Ei (fun _ => kk _ _ _ _ hW2) (fun h => absurd trivial h)
    | exact zz_Ei (fun _ => kk _ _ _ _ hW2) (fun h => absurd rfl h)
theorem zq_l4 (hW : zq_W X L m T J R) (hm : m < 512) (hL3 : L ≤ 3072) (y0 : 0 ≤ y) (y1 : y + 6 ≤ L) (hr : ∀ i, zk_r32 (X i)) (kk : zq_K X L m y Q) : zz_E (fun n => mv_run (mv_cax 40) mm_219 n 316 [(0, .inr (.inr (some 0))), (1, .inr (.inr (some 16))), (2, .inr (.inr (some 131))), (3, .inr (.inr (some 155))), (4, .inl (mv_c y))] [] (zz_S T J R G)) Q := by
  obtain ⟨⟨hL, hT0, hX⟩, -⟩ := id hW
  obtain ⟨v, T1, J1, R1, G1, J2, h1, h2, ⟨hL1, hT1, hX1⟩, hW2⟩ := zq_s4 (G := G) (a := X (y + 1)) (b := X (y + 2)) hW hm (hr _) (hr _)
  refine zz_Es (fun n => e_219_316 _ _ _ _ _ _) ?_
  simp (maxSteps := 5000000) (disch := first | assumption | omega) only [zz_add, zq_aI hT0 hX hL3, zq_aI hT1 hX1 hL3, zo_rf, zi_16 hL, zi_131 hL1, h1, h2, zo_rI]
  first
    | exact kk _ _ _ _ hW2
    | exact zz_Ei (fun _ => kk _ _ _ _ hW2) (fun h => absurd trivial h)
    | exact zz_Ei (fun _ => kk _ _ _ _ hW2) (fun h => absurd rfl h)
theorem zq_l5 (hW : zq_W X L m T J R) (hm : m < 512) (hL3 : L ≤ 3072) (y0 : 0 ≤ y) (y1 : y + 6 ≤ L) (hr : ∀ i, zk_r32 (X i)) (kk : zq_K X L m y Q) : zz_E (fun n => mv_run (mv_cax 40) mm_219 n 353 [(0, .inr (.inr (some 0))), (1, .inr (.inr (some 16))), (2, .inr (.inr (some 131))), (3, .inr (.inr (some 155))), (4, .inl (mv_c y))] [] (zz_S T J R G)) Q := by
  obtain ⟨⟨hL, hT0, hX⟩, -⟩ := id hW
  obtain ⟨v, T1, J1, R1, G1, J2, h1, h2, ⟨hL1, hT1, hX1⟩, hW2⟩ := zq_s5 (G := G) (a := X (y + 1)) hW hm (hr _)
  refine zz_Es (fun n => e_219_353 _ _ _ _ _ _) ?_
  simp (maxSteps := 5000000) (disch := first | assumption | omega) only [zz_add, zq_aI hT0 hX hL3, zq_aI hT1 hX1 hL3, zo_rf, zi_16 hL, zi_131 hL1, h1, h2, zo_rI]
  first
    | exact kk _ _ _ _ hW2
    | exact zz_Ei (fun _ => kk _ _ _ _ hW2) (fun h => absurd trivial h)
    | exact zz_Ei (fun _ => kk _ _ _ _ hW2) (fun h => absurd rfl h)
theorem zq_l6 (hW : zq_W X L m T J R) (hm : m < 512) (hL3 : L ≤ 3072) (y0 : 0 ≤ y) (y1 : y + 6 ≤ L) (hr : ∀ i, zk_r32 (X i)) (kk : zq_K X L m y Q) : zz_E (fun n => mv_run (mv_cax 40) mm_219 n 378 [(0, .inr (.inr (some 0))), (1, .inr (.inr (some 16))), (2, .inr (.inr (some 131))), (3, .inr (.inr (some 155))), (4, .inl (mv_c y))] [] (zz_S T J R G)) Q := by
  obtain ⟨⟨hL, hT0, hX⟩, -⟩ := id hW
  obtain ⟨v, T1, J1, R1, G1, J2, h1, h2, ⟨hL1, hT1, hX1⟩, hW2⟩ := zq_s6 (G := G) (a := X (y + 1)) hW hm (hr _)
  refine zz_Es (fun n => e_219_378 _ _ _ _ _ _) ?_
  simp (maxSteps := 5000000) (disch := first | assumption | omega) only [zz_add, zq_aI hT0 hX hL3, zq_aI hT1 hX1 hL3, zo_rf, zi_16 hL, zi_131 hL1, h1, h2, zo_rI]
  first
    | exact kk _ _ _ _ hW2
    | exact zz_Ei (fun _ => kk _ _ _ _ hW2) (fun h => absurd trivial h)
    | exact zz_Ei (fun _ => kk _ _ _ _ hW2) (fun h => absurd rfl h)
theorem zq_l7 (hW : zq_W X L m T J R) (hm : m < 512) (hL3 : L ≤ 3072) (y0 : 0 ≤ y) (y1 : y + 6 ≤ L) (hr : ∀ i, zk_r32 (X i)) (kk : zq_K X L m y Q) : zz_E (fun n => mv_run (mv_cax 40) mm_219 n 403 [(0, .inr (.inr (some 0))), (1, .inr (.inr (some 16))), (2, .inr (.inr (some 131))), (3, .inr (.inr (some 155))), (4, .inl (mv_c y))] [] (zz_S T J R G)) Q := by
  obtain ⟨⟨hL, hT0, hX⟩, -⟩ := id hW
  obtain ⟨v, T1, J1, R1, G1, J2, h1, h2, ⟨hL1, hT1, hX1⟩, hW2⟩ := zq_s7 (G := G) (a := X (y + 1)) (b := X (y + 2)) hW hm (hr _) (hr _)
  refine zz_Es (fun n => e_219_403 _ _ _ _ _ _) ?_
  simp (maxSteps := 5000000) (disch := first | assumption | omega) only [zz_add, zq_aI hT0 hX hL3, zq_aI hT1 hX1 hL3, zo_rf, zi_16 hL, zi_131 hL1, h1, h2, zo_rI]
  first
    | exact kk _ _ _ _ hW2
    | exact zz_Ei (fun _ => kk _ _ _ _ hW2) (fun h => absurd trivial h)
    | exact zz_Ei (fun _ => kk _ _ _ _ hW2) (fun h => absurd rfl h)
theorem zq_l8 (hW : zq_W X L m T J R) (hm : m < 512) (hL3 : L ≤ 3072) (y0 : 0 ≤ y) (y1 : y + 6 ≤ L) (hr : ∀ i, zk_r32 (X i)) (kk : zq_K X L m y Q) : zz_E (fun n => mv_run (mv_cax 40) mm_219 n 440 [(0, .inr (.inr (some 0))), (1, .inr (.inr (some 16))), (2, .inr (.inr (some 131))), (3, .inr (.inr (some 155))), (4, .inl (mv_c y))] [] (zz_S T J R G)) Q := by
  obtain ⟨⟨hL, hT0, hX⟩, -⟩ := id hW
  obtain ⟨v, T1, J1, R1, G1, J2, h1, h2, ⟨hL1, hT1, hX1⟩, hW2⟩ := zq_s8 (G := G) (a := X (y + 1)) (b := X (y + 2)) hW hm (hr _) (hr _)
  refine zz_Es (fun n => e_219_440 _ _ _ _ _ _) ?_
  simp (maxSteps := 5000000) (disch := first | assumption | omega) only [zz_add, zq_aI hT0 hX hL3, zq_aI hT1 hX1 hL3, zo_rf, zi_16 hL, zi_131 hL1, h1, h2, zo_rI]
  first
    | exact kk _ _ _ _ hW2
    | exact zz_Ei (fun _ => kk _ _ _ _ hW2) (fun h => absurd trivial h)
    | exact zz_Ei (fun _ => kk _ _ _ _ hW2) (fun h => absurd rfl h)
theorem zq_l9 (hW : zq_W X L m T J R) (hm : m < 512) (hL3 : L ≤ 3072) (y0 : 0 ≤ y) (y1 : y + 6 ≤ L) (hr : ∀ i, zk_r32 (X i)) (kk : zq_K X L m y Q) : zz_E (fun n => mv_run (mv_cax 40) mm_219 n 477 [(0, .inr (.inr (some 0))), (1, .inr (.inr (some 16))), (2, .inr (.inr (some 131))), (3, .inr (.inr (some 155))), (4, .inl (mv_c y))] [] (zz_S T J R G)) Q := by
  obtain ⟨⟨hL, hT0, hX⟩, -⟩ := id hW
  obtain ⟨v, T1, J1, R1, G1, J2, h1, h2, ⟨hL1, hT1, hX1⟩, hW2⟩ := zq_s9 (G := G) (a := X (y + 1)) hW hm (hr _)
  refine zz_Es (fun n => e_219_477 _ _ _ _ _ _) ?_
  simp (maxSteps := 5000000) (disch := first | assumption | omega) only [zz_add, zq_aI hT0 hX hL3, zq_aI hT1 hX1 hL3, zo_rf, zi_16 hL, zi_131 hL1, h1, h2, zo_rI]
  first
    | exact kk _ _ _ _ hW2
    | exact zz_Ei (fun _ => kk _ _ _ _ hW2) (fun h => absurd trivial h)
    | exact zz_Ei (fun _ => kk _ _ _ _ hW2) (fun h => absurd rfl h)
theorem zq_l10 (hW : zq_W X L m T J R) (hm : m < 512) (hL3 : L ≤ 3072) (y0 : 0 ≤ y) (y1 : y + 6 ≤ L) (hr : ∀ i, zk_r32 (X i)) (kk : zq_K X L m y Q) : zz_E (fun n => mv_run (mv_cax 40) mm_219 n 502 [(0, .inr (.inr (some 0))), (1, .inr (.inr (some 16))), (2, .inr (.inr (some 131))), (3, .inr (.inr (some 155))), (4, .inl (mv_c y))] [] (zz_S T J R G)) Q := by
  obtain ⟨⟨hL, hT0, hX⟩, -⟩ := id hW
  obtain ⟨v, T1, J1, R1, G1, J2, h1, h2, ⟨hL1, hT1, hX1⟩, hW2⟩ := zq_s10 (G := G)  hW hm 
  refine zz_Es (fun n => e_219_502 _ _ _ _ _ _) ?_
  simp (maxSteps := 5000000) (disch := first | assumption | omega) only [zo_rf, zi_16 hL, zi_131 hL1, h1, h2, zo_rI]
  first
    | exact kk _ _ _ _ hW2
    | exact zz_Ei (fun _ => kk _ _ _ _ hW2) (fun h => absurd trivial h)
    | exact zz_Ei (fun _ => kk _ _ _ _ hW2) (fun h => absurd rfl h)
theorem zq_l11 (hW : zq_W X L m T J R) (hm : m < 512) (hL3 : L ≤ 3072) (y0 : 0 ≤ y) (y1 : y + 6 ≤ L) (hr : ∀ i, zk_r32 (X i)) (kk : zq_K X L m y Q) : zz_E (fun n => mv_run (mv_cax 40) mm_219 n 515 [(0, .inr (.inr (some 0))), (1, .inr (.inr (some 16))), (2, .inr (.inr (some 131))), (3, .inr (.inr (some 155))), (4, .inl (mv_c y))] [] (zz_S T J R G)) Q := by
  obtain ⟨⟨hL, hT0, hX⟩, -⟩ := id hW
  obtain ⟨v, T1, J1, R1, G1, J2, h1, h2, ⟨hL1, hT1, hX1⟩, hW2⟩ := zq_s11 (G := G) (a := X (y + 1)) hW hm (hr _)
  refine zz_Es (fun n => e_219_515 _ _ _ _ _ _) ?_
  simp (maxSteps := 5000000) (disch := first | assumption | omega) only [zz_add, zq_aI hT0 hX hL3, zq_aI hT1 hX1 hL3, zo_rf, zi_16 hL, zi_131 hL1, h1, h2, zo_rI]
  first
    | exact kk _ _ _ _ hW2
    | exact zz_Ei (fun _ => kk _ _ _ _ hW2) (fun h => absurd trivial h)
    | exact zz_Ei (fun _ => kk _ _ _ _ hW2) (fun h => absurd rfl h)
theorem zq_l12 (hW : zq_W X L m T J R) (hm : m < 512) (hL3 : L ≤ 3072) (y0 : 0 ≤ y) (y1 : y + 6 ≤ L) (hr : ∀ i, zk_r32 (X i)) (kk : zq_K X L m y Q) : zz_E (fun n => mv_run (mv_cax 40) mm_219 n 540 [(0, .inr (.inr (some 0))), (1, .inr (.inr (some 16))), (2, .inr (.inr (some 131))), (3, .inr (.inr (some 155))), (4, .inl (mv_c y))] [] (zz_S T J R G)) Q := by
  obtain ⟨⟨hL, hT0, hX⟩, -⟩ := id hW
  obtain ⟨v, T1, J1, R1, G1, J2, h1, h2, ⟨hL1, hT1, hX1⟩, hW2⟩ := zq_s12 (G := G) (a := X (y + 1)) hW hm (hr _)
  refine zz_Es (fun n => e_219_540 _ _ _ _ _ _) ?_
  simp (maxSteps := 5000000) (disch := first | assumption | omega) only [zz_add, zq_aI hT0 hX hL3, zq_aI hT1 hX1 hL3, zo_rf, zi_16 hL, zi_131 hL1, h1, h2, zo_rI]
  first
    | exact kk _ _ _ _ hW2
    | exact zz_Ei (fun _ => kk _ _ _ _ hW2) (fun h => absurd trivial h)
    | exact zz_Ei (fun _ => kk _ _ _ _ hW2) (fun h => absurd rfl h)
theorem zq_l13 (hW : zq_W X L m T J R) (hm : m < 512) (hL3 : L ≤ 3072) (y0 : 0 ≤ y) (y1 : y + 6 ≤ L) (hr : ∀ i, zk_r32 (X i)) (kk : zq_K X L m y Q) : zz_E (fun n => mv_run (mv_cax 40) mm_219 n 565 [(0, .inr (.inr (some 0))), (1, .inr (.inr (some 16))), (2, .inr (.inr (some 131))), (3, .inr (.inr (some 155))), (4, .inl (mv_c y))] [] (zz_S T J R G)) Q := by
  obtain ⟨⟨hL, hT0, hX⟩, -⟩ := id hW
  obtain ⟨v, T1, J1, R1, G1, J2, h1, h2, ⟨hL1, hT1, hX1⟩, hW2⟩ := zq_s13 (G := G) (a := X (y + 1)) (b := X (y + 2)) hW hm (hr _) (hr _)
  refine zz_Es (fun n => e_219_565 _ _ _ _ _ _) ?_
  simp (maxSteps := 5000000) (disch := first | assumption | omega) only [zz_add, zq_aI hT0 hX hL3, zq_aI hT1 hX1 hL3, zo_rf, zi_16 hL, zi_131 hL1, h1, h2, zo_rI]
  first
    | exact kk _ _ _ _ hW2
    | exact zz_Ei (fun _ => kk _ _ _ _ hW2) (fun h => absurd trivial h)
    | exact zz_Ei (fun _ => kk _ _ _ _ hW2) (fun h => absurd rfl h)
theorem zq_l14 (hW : zq_W X L m T J R) (hm : m < 512) (hL3 : L ≤ 3072) (y0 : 0 ≤ y) (y1 : y + 6 ≤ L) (hr : ∀ i, zk_r32 (X i)) (kk : zq_K X L m y Q) : zz_E (fun n => mv_run (mv_cax 40) mm_219 n 602 [(0, .inr (.inr (some 0))), (1, .inr (.inr (some 16))), (2, .inr (.inr (some 131))), (3, .inr (.inr (some 155))), (4, .inl (mv_c y))] [] (zz_S T J R G)) Q := by
  obtain ⟨⟨hL, hT0, hX⟩, -⟩ := id hW
  obtain ⟨v, T1, J1, R1, G1, J2, h1, h2, ⟨hL1, hT1, hX1⟩, hW2⟩ := zq_s14 (G := G) (a := X (y + 1)) (b := X (y + 2)) hW hm (hr _) (hr _)
  refine zz_Es (fun n => e_219_602 _ _ _ _ _ _) ?_
  simp (maxSteps := 5000000) (disch := first | assumption | omega) only [zz_add, zq_aI hT0 hX hL3, zq_aI hT1 hX1 hL3, zo_rf, zi_16 hL, zi_131 hL1, h1, h2, zo_rI]
  first
    | exact kk _ _ _ _ hW2
    | exact zz_Ei (fun _ => kk _ _ _ _ hW2) (fun h => absurd trivial h)
    | exact zz_Ei (fun _ => kk _ _ _ _ hW2) (fun h => absurd rfl h)
theorem zq_l15 (hW : zq_W X L m T J R) (hm : m < 512) (hL3 : L ≤ 3072) (y0 : 0 ≤ y) (y1 : y + 6 ≤ L) (hr : ∀ i, zk_r32 (X i)) (kk : zq_K X L m y Q) : zz_E (fun n => mv_run (mv_cax 40) mm_219 n 639 [(0, .inr (.inr (some 0))), (1, .inr (.inr (some 16))), (2, .inr (.inr (some 131))), (3, .inr (.inr (some 155))), (4, .inl (mv_c y))] [] (zz_S T J R G)) Q := by
  obtain ⟨⟨hL, hT0, hX⟩, -⟩ := id hW
  obtain ⟨v, T1, J1, R1, G1, J2, h1, h2, ⟨hL1, hT1, hX1⟩, hW2⟩ := zq_s15 (G := G)  hW hm 
  refine zz_Es (fun n => e_219_639 _ _ _ _ _ _) ?_
  simp (maxSteps := 5000000) (disch := first | assumption | omega) only [zo_rf, zi_16 hL, zi_131 hL1, h1, h2, zo_rI]
  first
    | exact kk _ _ _ _ hW2
    | exact zz_Ei (fun _ => kk _ _ _ _ hW2) (fun h => absurd trivial h)
    | exact zz_Ei (fun _ => kk _ _ _ _ hW2) (fun h => absurd rfl h)
theorem zq_l16 (hW : zq_W X L m T J R) (hm : m < 512) (hL3 : L ≤ 3072) (y0 : 0 ≤ y) (y1 : y + 6 ≤ L) (hr : ∀ i, zk_r32 (X i)) (kk : zq_K X L m y Q) : zz_E (fun n => mv_run (mv_cax 40) mm_219 n 652 [(0, .inr (.inr (some 0))), (1, .inr (.inr (some 16))), (2, .inr (.inr (some 131))), (3, .inr (.inr (some 155))), (4, .inl (mv_c y))] [] (zz_S T J R G)) Q := by
  obtain ⟨⟨hL, hT0, hX⟩, -⟩ := id hW
  obtain ⟨v, T1, J1, R1, G1, J2, h1, h2, ⟨hL1, hT1, hX1⟩, hW2⟩ := zq_s16 (G := G)  hW hm 
  refine zz_Es (fun n => e_219_652 _ _ _ _ _ _) ?_
  simp (maxSteps := 5000000) (disch := first | assumption | omega) only [zo_rf, zi_16 hL, zi_131 hL1, h1, h2, zo_rI]
  first
    | exact kk _ _ _ _ hW2
    | exact zz_Ei (fun _ => kk _ _ _ _ hW2) (fun h => absurd trivial h)
    | exact zz_Ei (fun _ => kk _ _ _ _ hW2) (fun h => absurd rfl h)
theorem zq_l17 (hW : zq_W X L m T J R) (hm : m < 512) (hL3 : L ≤ 3072) (y0 : 0 ≤ y) (y1 : y + 6 ≤ L) (hr : ∀ i, zk_r32 (X i)) (kk : zq_K X L m y Q) : zz_E (fun n => mv_run (mv_cax 40) mm_219 n 665 [(0, .inr (.inr (some 0))), (1, .inr (.inr (some 16))), (2, .inr (.inr (some 131))), (3, .inr (.inr (some 155))), (4, .inl (mv_c y))] [] (zz_S T J R G)) Q := by
  obtain ⟨⟨hL, hT0, hX⟩, -⟩ := id hW
  obtain ⟨v, T1, J1, R1, G1, J2, h1, h2, ⟨hL1, hT1, hX1⟩, hW2⟩ := zq_s17 (G := G)  hW hm 
  refine zz_Es (fun n => e_219_665 _ _ _ _ _ _) ?_
  simp (maxSteps := 5000000) (disch := first | assumption | omega) only [zo_rf, zi_16 hL, zi_131 hL1, h1, h2, zo_rI]
  first
    | exact kk _ _ _ _ hW2
    | exact zz_Ei (fun _ => kk _ _ _ _ hW2) (fun h => absurd trivial h)
    | exact zz_Ei (fun _ => kk _ _ _ _ hW2) (fun h => absurd rfl h)
theorem zq_l18 (hW : zq_W X L m T J R) (hm : m < 512) (hL3 : L ≤ 3072) (y0 : 0 ≤ y) (y1 : y + 6 ≤ L) (hr : ∀ i, zk_r32 (X i)) (kk : zq_K X L m y Q) : zz_E (fun n => mv_run (mv_cax 40) mm_219 n 678 [(0, .inr (.inr (some 0))), (1, .inr (.inr (some 16))), (2, .inr (.inr (some 131))), (3, .inr (.inr (some 155))), (4, .inl (mv_c y))] [] (zz_S T J R G)) Q := by
  obtain ⟨⟨hL, hT0, hX⟩, -⟩ := id hW
  obtain ⟨v, T1, J1, R1, G1, J2, h1, h2, ⟨hL1, hT1, hX1⟩, hW2⟩ := zq_s18 (G := G) (a := X (y + 1)) (b := X (y + 2)) (c := X (y + 3)) hW hm (hr _) (hr _)
  refine zz_Es (fun n => e_219_678 _ _ _ _ _ _) ?_
  simp (maxSteps := 5000000) (disch := first | assumption | omega) only [zz_add, zq_aI hT0 hX hL3, zq_aI hT1 hX1 hL3, zo_rf, zi_16 hL, zi_131 hL1, h1, h2, zo_rI]
  first
    | exact kk _ _ _ _ hW2
    | exact zz_Ei (fun _ => kk _ _ _ _ hW2) (fun h => absurd trivial h)
    | exact zz_Ei (fun _ => kk _ _ _ _ hW2) (fun h => absurd rfl h)
theorem zq_l19 (hW : zq_W X L m T J R) (hm : m < 512) (hL3 : L ≤ 3072) (y0 : 0 ≤ y) (y1 : y + 6 ≤ L) (hr : ∀ i, zk_r32 (X i)) (kk : zq_K X L m y Q) : zz_E (fun n => mv_run (mv_cax 40) mm_219 n 727 [(0, .inr (.inr (some 0))), (1, .inr (.inr (some 16))), (2, .inr (.inr (some 131))), (3, .inr (.inr (some 155))), (4, .inl (mv_c y))] [] (zz_S T J R G)) Q := by
  obtain ⟨⟨hL, hT0, hX⟩, -⟩ := id hW
  have x4 := hr (y + 4)
  unfold zk_r32 at x4
  by_cases h : X (y + 4) = 0
  · obtain ⟨v, T1, J1, R1, G1, J2, h1, h2, ⟨hL1, hT1, hX1⟩, hW2⟩ := zq_s19 (G := G) (a := X (y + 1)) (b := X (y + 2)) (c := X (y + 3)) (e := 0) hW hm (hr _) (hr _) (hr _) (by omega)
    refine zz_Es (fun n => e_219_727 _ _ _ _ _ _) ?_
    simp (maxSteps := 5000000) (disch := first | assumption | omega) only [zz_add, zq_aI hT0 hX hL3, zz_0, zz_eq]
    refine zz_Ei (fun _ => ?_) (fun g => absurd h g)
    simp (maxSteps := 5000000) (disch := first | assumption | omega) only [zo_rf, zi_16 hL, h1, zo_rI, zz_add, zq_aI hT1 hX1 hL3, zz_0, zz_eq]
    refine zz_Ei (fun _ => ?_) (fun g => absurd h g)
    simp (maxSteps := 5000000) (disch := first | assumption | omega) only [zo_rf, zi_131 hL1, h2, zo_rI]
    first
      | exact kk _ _ _ _ hW2
      | exact zz_Ei (fun _ => kk _ _ _ _ hW2) (fun h => absurd trivial h)
      | exact zz_Ei (fun _ => kk _ _ _ _ hW2) (fun h => absurd rfl h)
  · obtain ⟨v, T1, J1, R1, G1, J2, h1, h2, ⟨hL1, hT1, hX1⟩, hW2⟩ := zq_s19 (G := G) (a := X (y + 1)) (b := X (y + 2)) (c := X (y + 3)) (e := 1) hW hm (hr _) (hr _) (hr _) (by omega)
    refine zz_Es (fun n => e_219_727 _ _ _ _ _ _) ?_
    simp (maxSteps := 5000000) (disch := first | assumption | omega) only [zz_add, zq_aI hT0 hX hL3, zz_0, zz_eq]
    refine zz_Ei (fun g => absurd g h) (fun _ => ?_)
    simp (maxSteps := 5000000) (disch := first | assumption | omega) only [zo_rf, zi_16 hL, h1, zo_rI, zz_add, zq_aI hT1 hX1 hL3, zz_0, zz_eq]
    refine zz_Ei (fun g => absurd g h) (fun _ => ?_)
    simp (maxSteps := 5000000) (disch := first | assumption | omega) only [zo_rf, zi_131 hL1, h2, zo_rI]
    first
      | exact kk _ _ _ _ hW2
      | exact zz_Ei (fun _ => kk _ _ _ _ hW2) (fun h => absurd trivial h)
      | exact zz_Ei (fun _ => kk _ _ _ _ hW2) (fun h => absurd rfl h)
theorem zq_l20 (hW : zq_W X L m T J R) (hm : m < 512) (hL3 : L ≤ 3072) (y0 : 0 ≤ y) (y1 : y + 6 ≤ L) (hr : ∀ i, zk_r32 (X i)) (kk : zq_K X L m y Q) : zz_E (fun n => mv_run (mv_cax 40) mm_219 n 804 [(0, .inr (.inr (some 0))), (1, .inr (.inr (some 16))), (2, .inr (.inr (some 131))), (3, .inr (.inr (some 155))), (4, .inl (mv_c y))] [] (zz_S T J R G)) Q := by
  obtain ⟨⟨hL, hT0, hX⟩, -⟩ := id hW
  obtain ⟨v, T1, J1, R1, G1, J2, h1, h2, ⟨hL1, hT1, hX1⟩, hW2⟩ := zq_s20 (G := G) (a := X (y + 1)) (b := X (y + 2)) hW hm (hr _) (hr _)
  refine zz_Es (fun n => e_219_804 _ _ _ _ _ _) ?_
  simp (maxSteps := 5000000) (disch := first | assumption | omega) only [zz_add, zq_aI hT0 hX hL3, zq_aI hT1 hX1 hL3, zo_rf, zi_16 hL, zi_131 hL1, h1, h2, zo_rI]
  first
    | exact kk _ _ _ _ hW2
    | exact zz_Ei (fun _ => kk _ _ _ _ hW2) (fun h => absurd trivial h)
    | exact zz_Ei (fun _ => kk _ _ _ _ hW2) (fun h => absurd rfl h)
theorem zq_l21 (hW : zq_W X L m T J R) (hm : m < 512) (hL3 : L ≤ 3072) (y0 : 0 ≤ y) (y1 : y + 6 ≤ L) (hr : ∀ i, zk_r32 (X i)) (kk : zq_K X L m y Q) : zz_E (fun n => mv_run (mv_cax 40) mm_219 n 841 [(0, .inr (.inr (some 0))), (1, .inr (.inr (some 16))), (2, .inr (.inr (some 131))), (3, .inr (.inr (some 155))), (4, .inl (mv_c y))] [] (zz_S T J R G)) Q := by
  obtain ⟨⟨hL, hT0, hX⟩, -⟩ := id hW
  obtain ⟨v, T1, J1, R1, G1, J2, h1, h2, ⟨hL1, hT1, hX1⟩, hW2⟩ := zq_s21 (G := G) (a := X (y + 1)) (b := X (y + 2)) hW hm (hr _) (hr _)
  refine zz_Es (fun n => e_219_841 _ _ _ _ _ _) ?_
  simp (maxSteps := 5000000) (disch := first | assumption | omega) only [zz_add, zq_aI hT0 hX hL3, zq_aI hT1 hX1 hL3, zo_rf, zi_16 hL, zi_131 hL1, h1, h2, zo_rI]
  first
    | exact kk _ _ _ _ hW2
    | exact zz_Ei (fun _ => kk _ _ _ _ hW2) (fun h => absurd trivial h)
    | exact zz_Ei (fun _ => kk _ _ _ _ hW2) (fun h => absurd rfl h)
theorem zq_l22 (hW : zq_W X L m T J R) (hm : m < 512) (hL3 : L ≤ 3072) (y0 : 0 ≤ y) (y1 : y + 6 ≤ L) (hr : ∀ i, zk_r32 (X i)) (kk : zq_K X L m y Q) : zz_E (fun n => mv_run (mv_cax 40) mm_219 n 878 [(0, .inr (.inr (some 0))), (1, .inr (.inr (some 16))), (2, .inr (.inr (some 131))), (3, .inr (.inr (some 155))), (4, .inl (mv_c y))] [] (zz_S T J R G)) Q := by
  obtain ⟨⟨hL, hT0, hX⟩, -⟩ := id hW
  obtain ⟨v, T1, J1, R1, G1, J2, h1, h2, ⟨hL1, hT1, hX1⟩, hW2⟩ := zq_s22 (G := G) (a := X (y + 1)) hW hm (hr _)
  refine zz_Es (fun n => e_219_878 _ _ _ _ _ _) ?_
  simp (maxSteps := 5000000) (disch := first | assumption | omega) only [zz_add, zq_aI hT0 hX hL3, zq_aI hT1 hX1 hL3, zo_rf, zi_16 hL, zi_131 hL1, h1, h2, zo_rI]
  first
    | exact kk _ _ _ _ hW2
    | exact zz_Ei (fun _ => kk _ _ _ _ hW2) (fun h => absurd trivial h)
    | exact zz_Ei (fun _ => kk _ _ _ _ hW2) (fun h => absurd rfl h)
theorem zq_l23 (hW : zq_W X L m T J R) (hm : m < 512) (hL3 : L ≤ 3072) (y0 : 0 ≤ y) (y1 : y + 6 ≤ L) (hr : ∀ i, zk_r32 (X i)) (kk : zq_K X L m y Q) : zz_E (fun n => mv_run (mv_cax 40) mm_219 n 903 [(0, .inr (.inr (some 0))), (1, .inr (.inr (some 16))), (2, .inr (.inr (some 131))), (3, .inr (.inr (some 155))), (4, .inl (mv_c y))] [] (zz_S T J R G)) Q := by
  obtain ⟨⟨hL, hT0, hX⟩, -⟩ := id hW
  obtain ⟨v, T1, J1, R1, G1, J2, h1, h2, ⟨hL1, hT1, hX1⟩, hW2⟩ := zq_s23 (G := G) (a := X (y + 1)) hW hm (hr _)
  refine zz_Es (fun n => e_219_903 _ _ _ _ _ _) ?_
  simp (maxSteps := 5000000) (disch := first | assumption | omega) only [zz_add, zq_aI hT0 hX hL3, zq_aI hT1 hX1 hL3, zo_rf, zi_16 hL, zi_131 hL1, h1, h2, zo_rI]
  first
    | exact kk _ _ _ _ hW2
    | exact zz_Ei (fun _ => kk _ _ _ _ hW2) (fun h => absurd trivial h)
    | exact zz_Ei (fun _ => kk _ _ _ _ hW2) (fun h => absurd rfl h)
theorem zq_l24 (hW : zq_W X L m T J R) (hm : m < 512) (hL3 : L ≤ 3072) (y0 : 0 ≤ y) (y1 : y + 6 ≤ L) (hr : ∀ i, zk_r32 (X i)) (kk : zq_K X L m y Q) : zz_E (fun n => mv_run (mv_cax 40) mm_219 n 928 [(0, .inr (.inr (some 0))), (1, .inr (.inr (some 16))), (2, .inr (.inr (some 131))), (3, .inr (.inr (some 155))), (4, .inl (mv_c y))] [] (zz_S T J R G)) Q := by
  obtain ⟨⟨hL, hT0, hX⟩, -⟩ := id hW
  obtain ⟨v, T1, J1, R1, G1, J2, h1, h2, ⟨hL1, hT1, hX1⟩, hW2⟩ := zq_s24 (G := G)  hW hm 
  refine zz_Es (fun n => e_219_928 _ _ _ _ _ _) ?_
  simp (maxSteps := 5000000) (disch := first | assumption | omega) only [zo_rf, zi_16 hL, zi_131 hL1, h1, h2, zo_rI]
  first
    | exact kk _ _ _ _ hW2
    | exact zz_Ei (fun _ => kk _ _ _ _ hW2) (fun h => absurd trivial h)
    | exact zz_Ei (fun _ => kk _ _ _ _ hW2) (fun h => absurd rfl h)
theorem zq_l25 (hW : zq_W X L m T J R) (hm : m < 512) (hL3 : L ≤ 3072) (y0 : 0 ≤ y) (y1 : y + 6 ≤ L) (hr : ∀ i, zk_r32 (X i)) (kk : zq_K X L m y Q) : zz_E (fun n => mv_run (mv_cax 40) mm_219 n 941 [(0, .inr (.inr (some 0))), (1, .inr (.inr (some 16))), (2, .inr (.inr (some 131))), (3, .inr (.inr (some 155))), (4, .inl (mv_c y))] [] (zz_S T J R G)) Q := by
  obtain ⟨⟨hL, hT0, hX⟩, -⟩ := id hW
  obtain ⟨v, T1, J1, R1, G1, J2, h1, h2, ⟨hL1, hT1, hX1⟩, hW2⟩ := zq_s25 (G := G)  hW hm 
  refine zz_Es (fun n => e_219_941 _ _ _ _ _ _) ?_
  simp (maxSteps := 5000000) (disch := first | assumption | omega) only [zo_rf, zi_16 hL, zi_131 hL1, h1, h2, zo_rI]
  first
    | exact kk _ _ _ _ hW2
    | exact zz_Ei (fun _ => kk _ _ _ _ hW2) (fun h => absurd trivial h)
    | exact zz_Ei (fun _ => kk _ _ _ _ hW2) (fun h => absurd rfl h)
theorem zq_l26 (hW : zq_W X L m T J R) (hm : m < 512) (hL3 : L ≤ 3072) (y0 : 0 ≤ y) (y1 : y + 6 ≤ L) (hr : ∀ i, zk_r32 (X i)) (kk : zq_K X L m y Q) : zz_E (fun n => mv_run (mv_cax 40) mm_219 n 954 [(0, .inr (.inr (some 0))), (1, .inr (.inr (some 16))), (2, .inr (.inr (some 131))), (3, .inr (.inr (some 155))), (4, .inl (mv_c y))] [] (zz_S T J R G)) Q := by
  obtain ⟨⟨hL, hT0, hX⟩, -⟩ := id hW
  obtain ⟨v, T1, J1, R1, G1, J2, h1, h2, ⟨hL1, hT1, hX1⟩, hW2⟩ := zq_s26 (G := G) (a := X (y + 1)) hW hm (hr _)
  refine zz_Es (fun n => e_219_954 _ _ _ _ _ _) ?_
  simp (maxSteps := 5000000) (disch := first | assumption | omega) only [zz_add, zq_aI hT0 hX hL3, zq_aI hT1 hX1 hL3, zo_rf, zi_16 hL, zi_131 hL1, h1, h2, zo_rI]
  first
    | exact kk _ _ _ _ hW2
    | exact zz_Ei (fun _ => kk _ _ _ _ hW2) (fun h => absurd trivial h)
    | exact zz_Ei (fun _ => kk _ _ _ _ hW2) (fun h => absurd rfl h)
theorem zq_l27 (hW : zq_W X L m T J R) (hm : m < 512) (hL3 : L ≤ 3072) (y0 : 0 ≤ y) (y1 : y + 6 ≤ L) (hr : ∀ i, zk_r32 (X i)) (kk : zq_K X L m y Q) : zz_E (fun n => mv_run (mv_cax 40) mm_219 n 979 [(0, .inr (.inr (some 0))), (1, .inr (.inr (some 16))), (2, .inr (.inr (some 131))), (3, .inr (.inr (some 155))), (4, .inl (mv_c y))] [] (zz_S T J R G)) Q := by
  obtain ⟨⟨hL, hT0, hX⟩, -⟩ := id hW
  obtain ⟨v, T1, J1, R1, G1, J2, h1, h2, ⟨hL1, hT1, hX1⟩, hW2⟩ := zq_s27 (G := G) (a := X (y + 1)) (b := X (y + 2)) (c := X (y + 3)) hW hm (hr _) (hr _) (hr _)
  refine zz_Es (fun n => e_219_979 _ _ _ _ _ _) ?_
  simp (maxSteps := 5000000) (disch := first | assumption | omega) only [zz_add, zq_aI hT0 hX hL3, zq_aI hT1 hX1 hL3, zo_rf, zi_16 hL, zi_131 hL1, h1, h2, zo_rI]
  first
    | exact kk _ _ _ _ hW2
    | exact zz_Ei (fun _ => kk _ _ _ _ hW2) (fun h => absurd trivial h)
    | exact zz_Ei (fun _ => kk _ _ _ _ hW2) (fun h => absurd rfl h)
theorem zq_l28 (hW : zq_W X L m T J R) (hm : m < 512) (hL3 : L ≤ 3072) (y0 : 0 ≤ y) (y1 : y + 6 ≤ L) (hr : ∀ i, zk_r32 (X i)) (kk : zq_K X L m y Q) : zz_E (fun n => mv_run (mv_cax 40) mm_219 n 1028 [(0, .inr (.inr (some 0))), (1, .inr (.inr (some 16))), (2, .inr (.inr (some 131))), (3, .inr (.inr (some 155))), (4, .inl (mv_c y))] [] (zz_S T J R G)) Q := by
  obtain ⟨⟨hL, hT0, hX⟩, -⟩ := id hW
  obtain ⟨v, T1, J1, R1, G1, J2, h1, h2, ⟨hL1, hT1, hX1⟩, hW2⟩ := zq_s28 (G := G) (a := X (y + 1)) (b := X (y + 2)) (c := X (y + 3)) hW hm (hr _) (hr _) (hr _)
  refine zz_Es (fun n => e_219_1028 _ _ _ _ _ _) ?_
  simp (maxSteps := 5000000) (disch := first | assumption | omega) only [zz_add, zq_aI hT0 hX hL3, zq_aI hT1 hX1 hL3, zo_rf, zi_16 hL, zi_131 hL1, h1, h2, zo_rI]
  first
    | exact kk _ _ _ _ hW2
    | exact zz_Ei (fun _ => kk _ _ _ _ hW2) (fun h => absurd trivial h)
    | exact zz_Ei (fun _ => kk _ _ _ _ hW2) (fun h => absurd rfl h)
theorem zq_l29 (hW : zq_W X L m T J R) (hm : m < 512) (hL3 : L ≤ 3072) (y0 : 0 ≤ y) (y1 : y + 6 ≤ L) (hr : ∀ i, zk_r32 (X i)) (kk : zq_K X L m y Q) : zz_E (fun n => mv_run (mv_cax 40) mm_219 n 1077 [(0, .inr (.inr (some 0))), (1, .inr (.inr (some 16))), (2, .inr (.inr (some 131))), (3, .inr (.inr (some 155))), (4, .inl (mv_c y))] [] (zz_S T J R G)) Q := by
  obtain ⟨⟨hL, hT0, hX⟩, -⟩ := id hW
  obtain ⟨v, T1, J1, R1, G1, J2, h1, h2, ⟨hL1, hT1, hX1⟩, hW2⟩ := zq_s29 (G := G) (a := X (y + 1)) (b := X (y + 2)) (c := X (y + 3)) hW hm (hr _) (hr _) (hr _)
  refine zz_Es (fun n => e_219_1077 _ _ _ _ _ _) ?_
  simp (maxSteps := 5000000) (disch := first | assumption | omega) only [zz_add, zq_aI hT0 hX hL3, zq_aI hT1 hX1 hL3, zo_rf, zi_16 hL, zi_131 hL1, h1, h2, zo_rI]
  first
    | exact kk _ _ _ _ hW2
    | exact zz_Ei (fun _ => kk _ _ _ _ hW2) (fun h => absurd trivial h)
    | exact zz_Ei (fun _ => kk _ _ _ _ hW2) (fun h => absurd rfl h)
theorem zq_l30 (hW : zq_W X L m T J R) (hm : m < 512) (hL3 : L ≤ 3072) (y0 : 0 ≤ y) (y1 : y + 6 ≤ L) (hr : ∀ i, zk_r32 (X i)) (kk : zq_K X L m y Q) : zz_E (fun n => mv_run (mv_cax 40) mm_219 n 1126 [(0, .inr (.inr (some 0))), (1, .inr (.inr (some 16))), (2, .inr (.inr (some 131))), (3, .inr (.inr (some 155))), (4, .inl (mv_c y))] [] (zz_S T J R G)) Q := by
  obtain ⟨⟨hL, hT0, hX⟩, -⟩ := id hW
  obtain ⟨v, l, T1, G1, J2, h1, h2, h3, hv, hG, ⟨hL1, hT1, hX1⟩, hW2⟩ := zq_s30 (G := G) (a := X (y + 1)) (b := X (y + 2)) hW hm (hr _) (hr _)
  have hL2 : ZL T1 R := hL1
  have t155 : T1[155]? = some (.inr (2, 1)) := hL1.at 139 (by rfl)
  refine zz_Es (fun n => e_219_1126 _ _ _ _ _ _) ?_
  refine zz_Ec (fun n => by rw [zz_add (a := y) (b := 1), zz_add (a := y) (b := 2), zq_aI hT0 hX hL3 (by omega) (by omega), zq_aI hT0 hX hL3 (by omega) (by omega), h1, zo_rI, zq_aI hT1 hX1 hL3 (by omega) (by omega), zq_aI hT1 hX1 hL3 (by omega) (by omega), zo_rf, zi_131 hL1, h2, zo_rL, zo_rf, zi_131 hL1, h3, zo_rI]) ?_
  refine zz_Ei (fun _ => ?_) (fun g => absurd rfl g)
  refine zz_Ei (fun g => ?_) (fun _ => kk _ _ _ _ hW2)
  have g := zt_eq (by omega) (by omega) (by omega) (by omega) (g.trans zz_0)
  refine zz_Ec (fun n => by rw [zo_rf, zk_aL (i := 0) t155, hG g, zq_cmp]) ?_
  exact zz_Ei (fun _ => kk _ _ _ _ hW2) (fun h => absurd zz_0.symm h)
theorem zq_l31 (hW : zq_W X L m T J R) (hm : m < 512) (hL3 : L ≤ 3072) (y0 : 0 ≤ y) (y1 : y + 6 ≤ L) (hr : ∀ i, zk_r32 (X i)) (kk : zq_K X L m y Q) : zz_E (fun n => mv_run (mv_cax 40) mm_219 n 1193 [(0, .inr (.inr (some 0))), (1, .inr (.inr (some 16))), (2, .inr (.inr (some 131))), (3, .inr (.inr (some 155))), (4, .inl (mv_c y))] [] (zz_S T J R G)) Q := by
  obtain ⟨⟨hL, hT0, hX⟩, -⟩ := id hW
  obtain ⟨v, T1, J1, R1, G1, J2, h1, h2, ⟨hL1, hT1, hX1⟩, hW2⟩ := zq_s31 (G := G) (a := X (y + 1)) (b := X (y + 2)) (c := X (y + 3)) (e := X (y + 4)) (f := X (y + 5)) hW hm (hr _) (hr _) (hr _) (hr _) (hr _)
  refine zz_Es (fun n => e_219_1193 _ _ _ _ _ _) ?_
  simp (maxSteps := 5000000) (disch := first | assumption | omega) only [zz_add, zq_aI hT0 hX hL3, zq_aI hT1 hX1 hL3, zo_rf, zi_16 hL, zi_131 hL1, h1, h2, zo_rI]
  first
    | exact kk _ _ _ _ hW2
    | exact zz_Ei (fun _ => kk _ _ _ _ hW2) (fun h => absurd trivial h)
    | exact zz_Ei (fun _ => kk _ _ _ _ hW2) (fun h => absurd rfl h)
theorem zq_l32 (hW : zq_W X L m T J R) (hm : m < 512) (hL3 : L ≤ 3072) (y0 : 0 ≤ y) (y1 : y + 6 ≤ L) (hr : ∀ i, zk_r32 (X i)) (kk : zq_K X L m y Q) : zz_E (fun n => mv_run (mv_cax 40) mm_219 n 1266 [(0, .inr (.inr (some 0))), (1, .inr (.inr (some 16))), (2, .inr (.inr (some 131))), (3, .inr (.inr (some 155))), (4, .inl (mv_c y))] [] (zz_S T J R G)) Q := by
  obtain ⟨⟨hL, hT0, hX⟩, -⟩ := id hW
  obtain ⟨v, T1, J1, R1, G1, J2, h1, h2, ⟨hL1, hT1, hX1⟩, hW2⟩ := zq_s32 (G := G) (a := X (y + 1)) hW hm (hr _)
  refine zz_Es (fun n => e_219_1266 _ _ _ _ _ _) ?_
  simp (maxSteps := 5000000) (disch := first | assumption | omega) only [zz_add, zq_aI hT0 hX hL3, zq_aI hT1 hX1 hL3, zo_rf, zi_16 hL, zi_131 hL1, h1, h2, zo_rI]
  first
    | exact kk _ _ _ _ hW2
    | exact zz_Ei (fun _ => kk _ _ _ _ hW2) (fun h => absurd trivial h)
    | exact zz_Ei (fun _ => kk _ _ _ _ hW2) (fun h => absurd rfl h)
theorem zq_l33 (hW : zq_W X L m T J R) (hm : m < 512) (hL3 : L ≤ 3072) (y0 : 0 ≤ y) (y1 : y + 6 ≤ L) (hr : ∀ i, zk_r32 (X i)) (kk : zq_K X L m y Q) : zz_E (fun n => mv_run (mv_cax 40) mm_219 n 1291 [(0, .inr (.inr (some 0))), (1, .inr (.inr (some 16))), (2, .inr (.inr (some 131))), (3, .inr (.inr (some 155))), (4, .inl (mv_c y))] [] (zz_S T J R G)) Q := by
  obtain ⟨⟨hL, hT0, hX⟩, -⟩ := id hW
  obtain ⟨v, T1, J1, R1, G1, J2, h1, h2, ⟨hL1, hT1, hX1⟩, hW2⟩ := zq_s33 (G := G) (a := X (y + 1)) hW hm (hr _)
  refine zz_Es (fun n => e_219_1291 _ _ _ _ _ _) ?_
  simp (maxSteps := 5000000) (disch := first | assumption | omega) only [zz_add, zq_aI hT0 hX hL3, zq_aI hT1 hX1 hL3, zo_rf, zi_16 hL, zi_131 hL1, h1, h2, zo_rI]
  first
    | exact kk _ _ _ _ hW2
    | exact zz_Ei (fun _ => kk _ _ _ _ hW2) (fun h => absurd trivial h)
    | exact zz_Ei (fun _ => kk _ _ _ _ hW2) (fun h => absurd rfl h)
theorem zq_loop (hL3 : L ≤ 3072) (hr : ∀ i, zk_r32 (X i)) : ∀ (k m : Nat) (y : Int), m + k = 512 → y = 6 * (m : Int) → ∀ (T : List mv_T) (J : Nat → Int → Int) (R : Nat → Nat → Option Nat) (G : Nat → Nat → Int64), zq_W X L m T J R → zz_E (fun n => mv_run (mv_cax 40) mm_219 n 23 [(0, .inr (.inr (some 0))), (1, .inr (.inr (some 16))), (2, .inr (.inr (some 131))), (3, .inr (.inr (some 155))), (4, .inl (mv_c y))] [] (zz_S T J R G)) (fun r => ∃ sF : mv_S, r = (some (.inl 1), sF) ∧ sF.1.length ≤ 601040 ∧ mw_sz sF.1 ≤ 7293034 + L) := by
  intro k
  induction k with
  | zero =>
    intro m y hmk hy T J R G hW
    obtain ⟨⟨hL, hT0, hX⟩, -, -, -, h8, h9⟩ := id hW
    refine zz_Es (fun n => e_219_23 _ _ _ _ _ _) ?_
    refine zz_Ec (fun n => by rw [zz_al hT0 (by omega), zz_sub]) ?_
    refine zz_Ei (fun _ => ?_) (fun g => absurd (by rw [zz_lt (by omega) (by omega) (by omega) (by omega)]; omega) g)
    refine zz_Ec (fun n => by rw [zz_z (Or.inr rfl)]) ?_
    exact zz_Er ⟨zz_S T J R G, rfl, by show T.length ≤ _; omega, by show mw_sz T ≤ _; omega⟩
  | succ k ih =>
    intro m y hmk hy T J R G hW
    obtain ⟨⟨hL, hT0, hX⟩, -, -, -, h8, h9⟩ := id hW
    refine zz_Es (fun n => e_219_23 _ _ _ _ _ _) ?_
    refine zz_Ec (fun n => by rw [zz_al hT0 (by omega), zz_sub]) ?_
    refine zz_Ei (fun _ => ?_) (fun g => ?_)
    · refine zz_Ec (fun n => by rw [zz_z (Or.inr rfl)]) ?_
      exact zz_Er ⟨zz_S T J R G, rfl, by show T.length ≤ _; omega, by show mw_sz T ≤ _; omega⟩
    rw [zz_lt (by omega) (by omega) (by omega) (by omega)] at g
    have y0 : 0 ≤ y := by omega
    have y1 : y + 6 ≤ L := by omega
    have hm : m < 512 := by omega
    have kk : zq_K X L m y (fun r => ∃ sF : mv_S, r = (some (.inl 1), sF) ∧ sF.1.length ≤ 601040 ∧ mw_sz sF.1 ≤ 7293034 + L) := by
      intro T' J' R' G' hW'
      refine zz_Es (fun n => e_219_1316 _ _ _ _ _ _) ?_
      refine zz_Ec (fun n => by rw [zz_add]) ?_
      exact ih (m + 1) (y + 6) (by omega) (by omega) T' J' R' G' hW'
    refine zz_Ec (fun n => by rw [zq_aI hT0 hX hL3 y0 (by omega)]) ?_
    refine zz_Ei (fun _ => zq_l0 hW hm hL3 y0 y1 hr kk) (fun _ => ?_)
    refine zz_Ei (fun _ => zq_l1 hW hm hL3 y0 y1 hr kk) (fun _ => ?_)
    refine zz_Ei (fun _ => zq_l2 hW hm hL3 y0 y1 hr kk) (fun _ => ?_)
    refine zz_Ei (fun _ => zq_l3 hW hm hL3 y0 y1 hr kk) (fun _ => ?_)
    refine zz_Ei (fun _ => zq_l4 hW hm hL3 y0 y1 hr kk) (fun _ => ?_)
    refine zz_Ei (fun _ => zq_l5 hW hm hL3 y0 y1 hr kk) (fun _ => ?_)
    refine zz_Ei (fun _ => zq_l6 hW hm hL3 y0 y1 hr kk) (fun _ => ?_)
    refine zz_Ei (fun _ => zq_l7 hW hm hL3 y0 y1 hr kk) (fun _ => ?_)
    refine zz_Ei (fun _ => zq_l8 hW hm hL3 y0 y1 hr kk) (fun _ => ?_)
    refine zz_Ei (fun _ => zq_l9 hW hm hL3 y0 y1 hr kk) (fun _ => ?_)
    refine zz_Ei (fun _ => zq_l10 hW hm hL3 y0 y1 hr kk) (fun _ => ?_)
    refine zz_Ei (fun _ => zq_l11 hW hm hL3 y0 y1 hr kk) (fun _ => ?_)
    refine zz_Ei (fun _ => zq_l12 hW hm hL3 y0 y1 hr kk) (fun _ => ?_)
    refine zz_Ei (fun _ => zq_l13 hW hm hL3 y0 y1 hr kk) (fun _ => ?_)
    refine zz_Ei (fun _ => zq_l14 hW hm hL3 y0 y1 hr kk) (fun _ => ?_)
    refine zz_Ei (fun _ => zq_l15 hW hm hL3 y0 y1 hr kk) (fun _ => ?_)
    refine zz_Ei (fun _ => zq_l16 hW hm hL3 y0 y1 hr kk) (fun _ => ?_)
    refine zz_Ei (fun _ => zq_l17 hW hm hL3 y0 y1 hr kk) (fun _ => ?_)
    refine zz_Ei (fun _ => zq_l18 hW hm hL3 y0 y1 hr kk) (fun _ => ?_)
    refine zz_Ei (fun _ => zq_l19 hW hm hL3 y0 y1 hr kk) (fun _ => ?_)
    refine zz_Ei (fun _ => zq_l20 hW hm hL3 y0 y1 hr kk) (fun _ => ?_)
    refine zz_Ei (fun _ => zq_l21 hW hm hL3 y0 y1 hr kk) (fun _ => ?_)
    refine zz_Ei (fun _ => zq_l22 hW hm hL3 y0 y1 hr kk) (fun _ => ?_)
    refine zz_Ei (fun _ => zq_l23 hW hm hL3 y0 y1 hr kk) (fun _ => ?_)
    refine zz_Ei (fun _ => zq_l24 hW hm hL3 y0 y1 hr kk) (fun _ => ?_)
    refine zz_Ei (fun _ => zq_l25 hW hm hL3 y0 y1 hr kk) (fun _ => ?_)
    refine zz_Ei (fun _ => zq_l26 hW hm hL3 y0 y1 hr kk) (fun _ => ?_)
    refine zz_Ei (fun _ => zq_l27 hW hm hL3 y0 y1 hr kk) (fun _ => ?_)
    refine zz_Ei (fun _ => zq_l28 hW hm hL3 y0 y1 hr kk) (fun _ => ?_)
    refine zz_Ei (fun _ => zq_l29 hW hm hL3 y0 y1 hr kk) (fun _ => ?_)
    refine zz_Ei (fun _ => zq_l30 hW hm hL3 y0 y1 hr kk) (fun _ => ?_)
    refine zz_Ei (fun _ => zq_l31 hW hm hL3 y0 y1 hr kk) (fun _ => ?_)
    refine zz_Ei (fun _ => zq_l32 hW hm hL3 y0 y1 hr kk) (fun _ => ?_)
    refine zz_Ei (fun _ => zq_l33 hW hm hL3 y0 y1 hr kk) (fun _ => ?_)
    exact kk T J R G (zq_Wmo hW (by omega) (by omega))
end ZLAW
