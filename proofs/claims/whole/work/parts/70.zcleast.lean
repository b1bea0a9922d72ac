/-! PURE LAYER, 50: the class's least hours -/
section ZCLE
variable {T : List mv_T} {J : Nat → Int → Int} {R : Nat → Nat → Option Nat} {G : Nat → Nat → Int64} {d p : Nat} {Y : Int} {A : Int → Int}
def zs_li (A : Int → Int) (J1 J' : Nat → Int → Int) (K : Int) : Prop := (∀ x, x ≠ 82 → x ≠ 83 → (x < 85 ∨ 104 < x) → J' x = J1 x) ∧ zz_tr (zd_hi (J1 78 3)) (J1 78 4) (J1 78 3) 6 (zd_w (A 1) (J1 80) (J1 81)) (fun i => J1 79 (J1 80 i)) (fun j => -J1 79 (J1 81 j)) (zd_x (J1 78 3) (J1 78 4) J') (J' 82) (J' 83) K
theorem zs_ok {J1 J' : Nat → Int → Int} {K : Int} (hn : A 0 * A 1 ≤ 16) (hE : ∀ c, 0 ≤ c → c < A 0 * A 1 → -9 ≤ J1 79 c ∧ J1 79 c ≤ 9) (hl : zs_ls (J1 79) (A 0 * A 1) J1) (h : zs_li A J1 J' K) : zd_ok J' A := by
  obtain ⟨hf, ⟨u, v, hp⟩, q1, q2, q3, q4⟩ := h
  have q1 : ∀ i, zd_hi (J1 78 3) i → zz_sum (zd_x (J1 78 3) (J1 78 4) J' i) (J1 78 4) + J' 82 i = J1 79 (J1 80 i) ∧ 0 ≤ J' 82 i := q1
  have q2 : ∀ j, 0 ≤ j → j < J1 78 4 → zz_sum (fun i => zd_x (J1 78 3) (J1 78 4) J' i j) (J1 78 3) + J' 83 j = -J1 79 (J1 81 j) ∧ 0 ≤ J' 83 j := q2
  obtain ⟨l1, l2, l3, -, -⟩ := hl
  have n3 := l1.1
  have n4 := l2.1
  unfold zd_ok
  rw [hf 78 (by omega) (by omega) (by omega), hf 80 (by omega) (by omega) (by omega), hf 81 (by omega) (by omega) (by omega)]
  have hh : ∀ i, 0 ≤ i → i < J1 78 3 → 0 ≤ J1 80 i ∧ J1 80 i < A 0 * A 1 ∧ 0 < J1 79 (J1 80 i) := l1.2.1
  have hw : ∀ i, 0 ≤ i → i < J1 78 4 → 0 ≤ J1 81 i ∧ J1 81 i < A 0 * A 1 ∧ J1 79 (J1 81 i) < 0 := l2.2.1
  refine ⟨by omega, fun i i0 i1 => ⟨(hh i i0 i1).1, (hh i i0 i1).2.1⟩, fun i i0 i1 => ⟨(hw i i0 i1).1, (hw i i0 i1).2.1⟩, fun i j i0 i1 j0 j1 => ⟨fun e => ?_, ?_⟩, fun i i0 i1 => ?_, fun j j0 j1 => ?_⟩
  · have := hh i i0 i1
    have := hw j j0 j1
    rw [e] at *
    omega
  · have e1 := (hp i j ⟨i0, i1⟩ j0 j1).2.1
    have e2 := zz_sum_1z (f := zd_x (J1 78 3) (J1 78 4) J' i) (c := J1 78 4) (fun b b0 b1 => (hp i b ⟨i0, i1⟩ b0 b1).2.1) j0 j1
    have e3 := q1 i ⟨i0, i1⟩
    have e4 := hh i i0 i1
    have e5 := hE _ e4.1 e4.2.1
    rw [zd_x_v ⟨i0, i1⟩ j0 j1] at e1 e2
    omega
  · have e2 := zz_sum_le (f := fun _ => 0) (g := zd_x (J1 78 3) (J1 78 4) J' i) (c := J1 78 4) (by omega) (fun b b0 b1 => (hp i b ⟨i0, i1⟩ b0 b1).2.1)
    rw [zz_sum_z (f := fun _ => 0) (by omega) (fun _ _ _ => rfl)] at e2
    have e3 := q1 i ⟨i0, i1⟩
    have e4 := hh i i0 i1
    have e5 := hE _ e4.1 e4.2.1
    omega
  · have e2 := zz_sum_le (f := fun _ => 0) (g := fun i => zd_x (J1 78 3) (J1 78 4) J' i j) (c := J1 78 3) (by omega) (fun b b0 b1 => (hp b j ⟨b0, b1⟩ j0 j1).2.1)
    rw [zz_sum_z (f := fun _ => 0) (by omega) (fun _ _ _ => rfl)] at e2
    have e3 := q2 j j0 j1
    have e4 := hw j j0 j1
    have e5 := hE _ e4.1 e4.2.1
    omega
/-- both lists hold the same -/
theorem zs_same {J1 : Nat → Int → Int} {n : Int} (hn : 0 ≤ n) (hl : zs_ls (J1 79) n J1) (hs : zz_sum (J1 79) n = 0) : zz_sum (fun i => J1 79 (J1 80 i)) (J1 78 3) = zz_sum (fun j => -J1 79 (J1 81 j)) (J1 78 4) := by
  obtain ⟨⟨h0, h1, ih, h2, h3, h4⟩, ⟨g0, g1, il, g2, g3, g4⟩, -, -, -⟩ := hl
  have e1 : zz_sum (fun a => max 0 (J1 79 a) - max 0 (-J1 79 a)) n = zz_sum (fun a => max 0 (J1 79 a)) n - zz_sum (fun a => max 0 (-J1 79 a)) n := zz_sum_sub hn
  have e2 : zz_sum (fun a => max 0 (J1 79 a) - max 0 (-J1 79 a)) n = zz_sum (J1 79) n := zz_sum_c hn (fun i _ _ => by omega)
  have e3 := h4 (fun a => max 0 (J1 79 a)) (fun c _ _ hc => by
    have hc : ¬ 0 < J1 79 c := hc
    show max 0 (J1 79 c) = 0
    omega)
  have e4 := g4 (fun a => max 0 (-J1 79 a)) (fun c _ _ hc => by
    have hc : ¬ J1 79 c < 0 := hc
    show max 0 (-J1 79 c) = 0
    omega)
  have e5 : zz_sum (fun i => (fun a => max 0 (J1 79 a)) (J1 80 i)) (J1 78 3) = zz_sum (fun i => J1 79 (J1 80 i)) (J1 78 3) := zz_sum_c (by omega) (fun i i0 i1 => by
    have h : 0 < J1 79 (J1 80 i) := (h1 i i0 i1).2.2
    show max 0 (J1 79 (J1 80 i)) = _
    omega)
  have e6 : zz_sum (fun i => (fun a => max 0 (-J1 79 a)) (J1 81 i)) (J1 78 4) = zz_sum (fun j => -J1 79 (J1 81 j)) (J1 78 4) := zz_sum_c (by omega) (fun i i0 i1 => by
    have h : J1 79 (J1 81 i) < 0 := (g1 i i0 i1).2.2
    show max 0 (-J1 79 (J1 81 i)) = _
    omega)
  have e7 : zz_sum (fun a => max 0 (J1 79 a)) n = zz_sum (fun i => J1 79 (J1 80 i)) (J1 78 3) := e3.trans e5
  have e8 : zz_sum (fun a => max 0 (-J1 79 a)) n = zz_sum (fun j => -J1 79 (J1 81 j)) (J1 78 4) := e4.trans e6
  omega
theorem c_19m {J1 : Nat → Int → Int} (hd : 4 ≤ d) (hL : ZL T R) (hp : Lnd p) (hA : zz_ok Y A) (hR : zc_rep T R J1 p A) (hE : ∀ c, 0 ≤ c → c < A 0 * A 1 → -9 ≤ J1 79 c ∧ J1 79 c ≤ 9) (hl : zs_ls (J1 79) (A 0 * A 1) J1) (hs : zz_sum (J1 79) (A 0 * A 1) = 0) {Q : Option mv_V × mv_S → Prop}
    (fin : ∀ J' K, (∀ x, x ≠ 82 → x ≠ 83 → (x < 85 ∨ 104 < x) → J' x = J1 x) → 0 ≤ K → K ≤ 2000 → zz_cert (A 0 * A 1) (zz_w2 (A 1)) (J1 79) K → Q (some (.inl (mv_c K)), zz_S T J' R G)) :
    ∀ q : Int × Int × (Nat → Int → Int), (zs_li A J1 q.2.2 q.1 ∧ 0 ≤ q.2.1 ∧ q.2.1 + zz_sum (q.2.2 82) (J1 78 3) ≤ 150) → zz_E (fun n => mv_run (mv_cax d) mm_19 n 22 [(0, .inr (.inr (some 78))), (1, .inr (.inr (some p))), (3, .inl (mv_c (2 * q.1))), (4, .inl (mv_c q.2.1))] [] (zz_S T q.2.2 R G)) Q := by
  have hn := hA.n
  refine zz_whil (α := Int × Int × (Nat → Int → Int)) (run := fun q n => mv_run (mv_cax d) mm_19 n 22 [(0, .inr (.inr (some 78))), (1, .inr (.inr (some p))), (3, .inl (mv_c (2 * q.1))), (4, .inl (mv_c q.2.1))] [] (zz_S T q.2.2 R G)) (fun q => (zz_sum (q.2.2 82) (J1 78 3)).toNat) (fun q => zs_li A J1 q.2.2 q.1 ∧ 0 ≤ q.2.1 ∧ q.2.1 + zz_sum (q.2.2 82) (J1 78 3) ≤ 150) ?_
  rintro ⟨K, tn, J'⟩ ⟨hli, ht0, ht1⟩ kw
  have hli : zs_li A J1 J' K := hli
  have ht0 : 0 ≤ tn := ht0
  have ht1 : tn + zz_sum (J' 82) (J1 78 3) ≤ 150 := ht1
  have hok := zs_ok (by omega) hE hl hli
  obtain ⟨hf, htr⟩ := id hli
  have n3 := hl.1.1
  have n4 := hl.2.1.1
  have n5 := hl.2.2.1
  have f78 : J' 78 = J1 78 := hf 78 (by omega) (by omega) (by omega)
  have f80 : J' 80 = J1 80 := hf 80 (by omega) (by omega) (by omega)
  have f81 : J' 81 = J1 81 := hf 81 (by omega) (by omega) (by omega)
  have hpl : p + 12 < 78 := by rcases hp with rfl | rfl | rfl | rfl <;> omega
  have hR' : zc_rep T R J' p A := zc_rep_f hR (fun x hx => hf x (by omega) (by omega) (by omega))
  obtain ⟨⟨u, v, hpot⟩, rows, cols, xz, cost⟩ := id htr
  have rows : ∀ i, zd_hi (J1 78 3) i → zz_sum (zd_x (J1 78 3) (J1 78 4) J' i) (J1 78 4) + J' 82 i = J1 79 (J1 80 i) ∧ 0 ≤ J' 82 i := rows
  have cols : ∀ j, 0 ≤ j → j < J1 78 4 → zz_sum (fun i => zd_x (J1 78 3) (J1 78 4) J' i j) (J1 78 3) + J' 83 j = -J1 79 (J1 81 j) ∧ 0 ≤ J' 83 j := cols
  have hh : ∀ i, 0 ≤ i → i < J1 78 3 → 0 ≤ J1 80 i ∧ J1 80 i < A 0 * A 1 ∧ 0 < J1 79 (J1 80 i) := hl.1.2.1
  have hw : ∀ i, 0 ≤ i → i < J1 78 4 → 0 ≤ J1 81 i ∧ J1 81 i < A 0 * A 1 ∧ J1 79 (J1 81 i) < 0 := hl.2.1.2.1
  have hst := zz_left (by omega) (by omega) htr (fun a a0 a1 ha => absurd ⟨a0, a1⟩ ha) (zs_same (by omega) hl hs)
  have hs0 := zz_sum_le (f := fun _ => 0) (g := J' 82) (c := J1 78 3) (by omega) (fun i i0 i1 => (rows i ⟨i0, i1⟩).2)
  rw [zz_sum_z (f := fun _ => 0) (by omega) (fun _ _ _ => rfl)] at hs0
  obtain ⟨Dl, El, Pl, Vl, h21, hbf, harc1, harc2⟩ := c_21 (T := T) (J := J') (R := R) (G := G) (d := d) (p := p) (Y := Y) (A := A) (u := u) (v := v) (by omega) hL hp hA hR' hok (by rw [f78, f80, f81]; exact hpot)
  have hlow := zd_low hA hok (by rw [f78, f80, f81]; exact hpot) hbf
  obtain ⟨hbz, hPb⟩ := id hbf
  rw [f78] at hlow harc1 harc2 hPb
  rw [f80, f81] at harc1 harc2
  rw [f78, f80, f81] at hbz
  have newp : ∀ a0, zd_hi (J1 78 3) a0 → 0 < J' 82 a0 → (∀ b, 0 ≤ b → b < J1 78 4 → El b < 1000000) ∧ (∀ a, zd_hi (J1 78 3) a → Dl a < 1000000) ∧ zz_pot (zd_hi (J1 78 3)) (J1 78 4) 6 (zd_w (A 1) (J1 80) (J1 81)) (zd_x (J1 78 3) (J1 78 4) J') Dl El := by
    intro a0 ha0 hsa
    refine zz_newp (by omega) (by omega) hpot hbz (fun a b ha b0 b1 q => harc1 a b ha.1 ha.2 b0 b1 q) (fun a b ha b0 b1 q1 q2 => ?_) ha0 hsa (fun a ha => ?_)
    · rw [zd_x_v ha b0 b1] at q1
      exact harc2 a b ha.1 ha.2 b0 b1 q1 q2
    · by_cases q : 0 < J' 82 a
      · exact Or.inl q
      · right
        have e1 := rows a ha
        have e2 := hh a ha.1 ha.2
        exact zz_sum_pos (by omega) (by omega)
  have q78 : zd_q J' Dl El Pl Vl 78 = J1 78 := by rw [zq_n (by omega)]; exact f78
  have q80 : zd_q J' Dl El Pl Vl 80 = J1 80 := by rw [zq_n (by omega)]; exact f80
  have q81 : zd_q J' Dl El Pl Vl 81 = J1 81 := by rw [zq_n (by omega)]; exact f81
  have q82 : zd_q J' Dl El Pl Vl 82 = J' 82 := zq_n (by omega)
  have q83 : zd_q J' Dl El Pl Vl 83 = J' 83 := zq_n (by omega)
  have qx : zd_x (J1 78 3) (J1 78 4) (zd_q J' Dl El Pl Vl) = zd_x (J1 78 3) (J1 78 4) J' := zq_x (by omega)
  obtain ⟨e, h24, he⟩ := c_24 (T := T) (J := zd_q J' Dl El Pl Vl) (R := R) (G := G) (d := d) (A := A) (by omega) hL (zq_ok hok) (by rw [q78]; exact hlow.2)
  rw [q78, q83, zq_2] at he
  refine zz_Es (fun n => e_19_22 _ _ _ _ _) ?_
  rcases he with ⟨rfl, hb⟩ | ⟨he0, he1, he2, he3⟩
  · have hsz : zz_sum (J' 82) (J1 78 3) = 0 := by
      refine Classical.byContradiction fun q => ?_
      obtain ⟨a0, p0, p1, p2⟩ := zz_sum_pos (f := J' 82) (c := J1 78 3) (by omega) (by omega)
      have hnp := (newp a0 ⟨p0, p1⟩ p2).1
      obtain ⟨b, b0, b1, b2⟩ := zz_sum_pos (f := J' 83) (c := J1 78 4) (by omega) (by omega)
      have e2 := hb b b0 b1
      have e3 := hnp b b0 b1
      omega
    have hsa := zz_allz (by omega) (fun i i0 i1 => (rows i ⟨i0, i1⟩).2) hsz
    have hta := zz_allz (by omega) (fun i i0 i1 => (cols i i0 i1).2) (by omega)
    have hkb := zs_kb (by omega) (by omega) (by omega) (fun i hi => by
      have := hh i hi.1 hi.2
      have := hE _ this.1 this.2.1
      show J1 79 (J1 80 i) ≤ 9
      omega) htr
    simp (maxSteps := 5000000) (disch := first | assumption | omega) only [zz_0, zi_78, h21, h24, zo_rV, zo_rI, zz_le]
    refine zz_Ei (fun h => absurd h (by omega)) (fun _ => ?_)
    refine zz_Ei (fun h => absurd h (by omega)) (fun _ => ?_)
    refine zz_Er (fin _ (2 * K) (fun x x1 x2 x3 => ?_) (by omega) (by omega) (zs_cert hl (by omega) htr (fun i hi => hsa i hi.1 hi.2) hta))
    rw [zq_n (by omega)]
    exact hf x x1 x2 x3
  · obtain ⟨a0, p0, p1, p2⟩ := zz_sum_pos (f := J' 82) (c := J1 78 3) (by omega) (by
      have := zz_sum_1z (f := J' 83) (c := J1 78 4) (fun b b0 b1 => (cols b b0 b1).2) he0 he1
      omega)
    obtain ⟨np1, np2, np3⟩ := newp a0 ⟨p0, p1⟩ p2
    obtain ⟨rk, rk1, rk2⟩ := zz_rank (nl := J1 78 3) (fun a ha => ha) hbz
    obtain ⟨δ, r, J3, h25, g1, g2, g3, g4, g5, g6, g7, g8, g9, g10, g11⟩ := c_25 (T := T) (J := zd_q J' Dl El Pl Vl) (R := R) (G := G) (d := d) (A := A) (e := e) (rk := rk) (w := zd_w (A 1) (J1 80) (J1 81)) (by omega) hL (zq_ok hok) (by
        rw [q78, zq_3, zq_1, q82, zq_2, zq_4, qx]
        intro a ha
        have f := np2 a ha
        rcases hbz.1 a ha with q | q | ⟨s0, s1, s2, s3, s4, s5⟩
        · omega
        · exact Or.inl ⟨q.2.1, hPb a ha.1 ha.2, q.1, q.2.2⟩
        · exact Or.inr ⟨s0, s1, s2, (np3 a _ ha s0 s1).2.2.2 s2, (rk2 a ha s0).2⟩) (by
        rw [q78, zq_1, zq_2, zq_4]
        intro b b0 b1
        have f := np1 b b0 b1
        rcases hbz.2.1 b b0 b1 with q | ⟨s0, s1, s2⟩
        · omega
        · have := (np3 _ b s0 b0 b1).2.2.1
          exact ⟨s0, by omega⟩) (by
        rw [q78]
        intro a ha
        have := rk1 a ha
        omega) he0 (by rw [q78]; exact he1) (by rw [q83]; exact he2) (by
        rw [q78, zq_1, zq_2, qx]
        exact fun a b ha b0 b1 => ⟨(np3 a b ha b0 b1).2.1, (np3 a b ha b0 b1).2.2.2⟩)
    rw [q78] at g2 g8 g9 g10 g11
    rw [q82] at g4 g6
    rw [q83] at g5 g7
    rw [zq_1, zq_2] at g8
    rw [qx] at g9 g10 g11
    rw [zq_2] at g11
    have hEe := hlow.2 e he0 he1
    simp (maxSteps := 5000000) (disch := first | assumption | omega) only [zz_0, zi_78, h21, h24, h25, zo_rV, zo_rI, zo_rf, zz_le, zr_78_11, za_102, zq_2, zz_mul, zz_add]
    refine zz_Ei (fun h => absurd h (by omega)) (fun _ => ?_)
    refine zz_Ei (fun _ => ?_) (fun h => absurd he0 h)
    have htr2 := zz_trs htr np3 (e := e) (r := r) (δ := δ) (x1 := zd_x (J1 78 3) (J1 78 4) J3) g2 rfl (by omega) g4 g5 (fun a b ha b0 b1 => g8 a b ha b0 b1) g9 g10 g11 (fun a ha => by rw [zd_x_n ha, zd_x_n ha])
    have hsum := zz_sum_f (f := J' 82) (c := J1 78 3) (k := r) (v := J' 82 r - δ) g2.1 g2.2
    have hK : 2 * K + 2 * El e * δ = 2 * (K + El e * δ) := by rw [Int.mul_add, Int.mul_assoc]
    rw [hK]
    refine kw (K + El e * δ, tn + 1, J3) ⟨⟨fun x x1 x2 x3 => ?_, ?_⟩, ?_, ?_⟩ ?_
    · show J3 x = J1 x
      by_cases q : x ≤ 100
      · rw [g1 x x1 x2 (by omega), zq_n (by omega)]; exact hf x x1 x2 x3
      · rw [g1 x x1 x2 (by omega), zq_n (by omega)]; exact hf x x1 x2 x3
    · show zz_tr _ _ _ _ _ _ _ _ (J3 82) (J3 83) _
      rw [g6, g7]
      exact htr2
    · show 0 ≤ tn + 1
      omega
    · show tn + 1 + zz_sum (J3 82) (J1 78 3) ≤ 150
      rw [g6, hsum]
      omega
    · show (zz_sum (J3 82) (J1 78 3)).toNat < (zz_sum (J' 82) (J1 78 3)).toNat
      rw [g6, hsum]
      have g3' : 1 ≤ δ := g3
      have : δ ≤ zz_sum (J' 82) (J1 78 3) := by
        have := zz_sum_1z (f := J' 82) (c := J1 78 3) (fun i i0 i1 => (rows i ⟨i0, i1⟩).2) g2.1 g2.2
        omega
      omega
end ZCLE
