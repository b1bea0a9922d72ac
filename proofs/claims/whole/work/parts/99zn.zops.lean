/-! PURE LAYER, 119: calls that keep the shelves, one by one -/
section ZOPA
variable {X : Int → Int} {L m : Nat} {T : List mv_T} {J : Nat → Int → Int} {R : Nat → Nat → Option Nat} {G : Nat → Nat → Int64} {a b c e w : Int}
theorem zq_pwf {J J' : Nat → Int → Int} (h1 : ∀ x, x ≠ 131 → J' x = J x) (h2 : ∀ y, y ≠ 16 → y ≠ 17 → J' 131 y = J 131 y) : zz_pw J J' := ⟨fun x x1 _ _ => h1 x x1, h2 9 (by omega) (by omega)⟩
theorem zq_pwx {J J' : Nat → Int → Int} (h : zz_fx J J') : zz_pw J J' := ⟨fun x x1 _ x3 => h.1 x x1 (by omega), h.2 9 (by omega)⟩
theorem zq_ok1 (hW : zq_W X L m T J R) (hm : m < 512) : zz_ok ((m : Int) + 1) (J 132) := zq_okm hW.2.1.1 (by omega) (by omega)
theorem zq_s1 (hW : zq_W X L m T J R) (hm : m < 512) (a1 : zk_r32 a) (b1 : zk_r32 b) : zq_St X L m T J R G 93 156 [.inl (mv_c a), .inl (mv_c b)] := by
  obtain ⟨⟨hL, -, -⟩, ⟨hA, hb, hB⟩, ⟨hs, hR, hraw⟩, -⟩ := id hW
  obtain ⟨J1, h1, hop⟩ := c_93 (T := T) (J := J) (R := R) (G := G) (d := 40) (by omega) hL hA hR hraw a1.1 a1.2 b1.1 b1.2
  obtain ⟨⟨hL1, -⟩, e, hA1, hb1, hB1, hk1, -⟩ := zq_Wpre hW hop
  obtain ⟨J2, h2, f1, f2⟩ := r_156 (T := T) (J := J1) (R := R) (G := G) (d := 40) (by omega) hL1 hA1 hB1 (zq_wayr hA1).1 a1.1 a1.2 b1.1 b1.2
  rw [e] at h2
  exact zq_A hW hm hop h1 h2 (zq_pwf f1 f2) (by rw [f1 132 (by omega), e]) (zq_ok1 hW hm) hb
theorem zq_s2 (hW : zq_W X L m T J R) (hm : m < 512) (a1 : zk_r32 a) : zq_St X L m T J R G 94 157 [.inl (mv_c a)] := by
  obtain ⟨⟨hL, -, -⟩, ⟨hA, hb, hB⟩, ⟨hs, hR, hraw⟩, -⟩ := id hW
  exact zq_A hW hm (zq_o0 hW) (c_94 (by omega) hL hA hR a1.1 a1.2) (r_157 (by omega) hL a1.1 a1.2) zq_pw0 rfl (zq_ok1 hW hm) hb
theorem zq_set_ok {Y : Int} {A : Int → Int} (hA : zz_ok Y A) : zz_ok Y (zv_setA A a b) ∧ (zv_setA A a b) 0 = A 0 ∧ (zv_setA A a b) 1 = A 1 ∧ (zv_setA A a b) 6 = A 6 := by
  unfold zv_setA
  have key : ∀ y v, (y = 2 ∧ 0 ≤ v ∧ v ≤ 999 ∨ y = 3 ∧ 0 ≤ v ∧ v ≤ 2) → zz_ok Y (zz_f A y v) ∧ zz_f A y v 0 = A 0 ∧ zz_f A y v 1 = A 1 ∧ zz_f A y v 6 = A 6 := by
    intro y v hy
    obtain ⟨q0, q1, q2, q3, q4, q5, q6, q7, q8⟩ := hA
    have e : ∀ x, x ≠ 2 → x ≠ 3 → zz_f A y v x = A x := fun x x2 x3 => zf_n (by omega)
    have e2 : 0 ≤ zz_f A y v 2 ∧ zz_f A y v 2 ≤ 999 := by
      rcases hy with ⟨rfl, hy⟩ | ⟨rfl, hy⟩
      · rw [zf_s]; exact hy
      · rw [zf_n (by omega)]; exact q1
    have e3 : 0 ≤ zz_f A y v 3 ∧ zz_f A y v 3 ≤ 2 := by
      rcases hy with ⟨rfl, hy⟩ | ⟨rfl, hy⟩
      · rw [zf_n (by omega)]; exact q2
      · rw [zf_s]; exact hy
    refine ⟨⟨by rw [e 0 (by omega) (by omega), e 1 (by omega) (by omega)]; exact q0, e2, e3, by rw [e 4 (by omega) (by omega)]; exact q3, by rw [e 5 (by omega) (by omega), e 0 (by omega) (by omega), e 1 (by omega) (by omega)]; exact q4, by rw [e 6 (by omega) (by omega)]; exact q5, by rw [e 7 (by omega) (by omega)]; exact q6, ?_, ?_⟩, e 0 (by omega) (by omega), e 1 (by omega) (by omega), e 6 (by omega) (by omega)⟩
    · rw [e 0 (by omega) (by omega), e 1 (by omega) (by omega)]
      intro c c0 c1
      rw [e (8 + c) (by omega) (by omega), e (24 + c) (by omega) (by omega)]
      exact q7 c c0 c1
    · rw [e 7 (by omega) (by omega)]
      intro d d0 d1
      have := q8 d d0 d1
      unfold zz_dok at this ⊢
      rw [e 0 (by omega) (by omega), e 1 (by omega) (by omega), e (40 + 15 * d) (by omega) (by omega), e (41 + 15 * d) (by omega) (by omega), e (42 + 15 * d) (by omega) (by omega)]
      refine ⟨this.1, this.2.1, this.2.2.1, fun w w0 w1 => ?_⟩
      rw [e (43 + 15 * d + 3 * w) (by omega) (by omega), e (44 + 15 * d + 3 * w) (by omega) (by omega), e (45 + 15 * d + 3 * w) (by omega) (by omega)]
      exact this.2.2.2 w w0 w1
  by_cases h : a = 0 ∧ 0 ≤ b ∧ b ≤ 999
  · rw [if_pos h]
    exact key 2 b (Or.inl ⟨rfl, h.2.1, h.2.2⟩)
  · rw [if_neg h]
    by_cases h' : a = 1 ∧ 0 ≤ b ∧ b ≤ 2
    · rw [if_pos h']
      exact key 3 b (Or.inr ⟨rfl, h'.2.1, h'.2.2⟩)
    · rw [if_neg h']
      exact ⟨hA, rfl, rfl, rfl⟩
theorem zq_s3 (hW : zq_W X L m T J R) (hm : m < 512) (a1 : zk_r32 a) (b1 : zk_r32 b) : zq_St X L m T J R G 95 158 [.inl (mv_c a), .inl (mv_c b)] := by
  obtain ⟨⟨hL, -, -⟩, ⟨hA, hb, hB⟩, ⟨hs, hR, hraw⟩, -⟩ := id hW
  obtain ⟨J1, h1, hop⟩ := c_95 (T := T) (J := J) (R := R) (G := G) (d := 40) (by omega) hL hA hR hraw b1.1 b1.2 a1.1 a1.2
  obtain ⟨⟨hL1, -⟩, e, hA1, hb1, hB1, hk1, -⟩ := zq_Wpre hW hop
  have h2 := r_158 (T := T) (J := J1) (R := R) (G := G) (d := 40) (by omega) hL1 a1.1 a1.2 b1.1 b1.2
  rw [e] at h2
  obtain ⟨k1, k2, k3, k4⟩ := zq_set_ok (a := a) (b := b) (zq_ok1 hW hm)
  exact zq_A hW hm hop h1 h2 zq_pww zw_s k1 (zq_hbc hb k2 k3 k4)
theorem zq_s4 (hW : zq_W X L m T J R) (hm : m < 512) (a1 : zk_r32 a) (b1 : zk_r32 b) : zq_St X L m T J R G 96 159 [.inl (mv_c a), .inl (mv_c b)] := by
  obtain ⟨⟨hL, -, -⟩, ⟨hA, hb, hB⟩, ⟨hs, hR, hraw⟩, -⟩ := id hW
  have hN := hA.n
  obtain ⟨J1, h1, hop⟩ := c_96 (T := T) (J := J) (R := R) (G := G) (d := 40) (by omega) hL hA hR hraw a1.1 a1.2 b1.1 b1.2
  obtain ⟨⟨hL1, -⟩, e, hA1, hb1, hB1, hk1, -⟩ := zq_Wpre hW hop
  have h2 := r_159 (T := T) (J := J1) (R := R) (G := G) (d := 40) (by omega) hL1 hA1 a1.1 a1.2 b1.1 b1.2
  rw [e] at h2
  have k : zz_ok ((m : Int) + 1) (zv_saysA (J 132) a b) ∧ ∀ y, y < 24 ∨ 40 ≤ y → zv_saysA (J 132) a b y = J 132 y := by
    unfold zv_saysA
    by_cases h : (0 ≤ a ∧ a < J 132 0 * J 132 1) ∧ -1 ≤ b ∧ b ≤ 9
    · rw [if_pos h]
      refine ⟨zz_ok_h (zq_ok1 hW hm) (fun y hy => zf_n (by omega)) (fun c c0 c1 => ?_), fun y hy => zf_n (by omega)⟩
      have hc := hA.2.2.2.2.2.2.2.1 c c0 c1
      rw [zf_n (by omega)]
      refine ⟨hc.1, ?_⟩
      by_cases q : c = a
      · rw [q, zf_s]
        split <;> omega
      · rw [zf_n (by omega)]
        exact hc.2
    · rw [if_neg h]
      exact ⟨zq_ok1 hW hm, fun _ _ => rfl⟩
  exact zq_A hW hm hop h1 h2 zq_pww zw_s k.1 (zq_hbc hb (k.2 0 (by omega)) (k.2 1 (by omega)) (k.2 6 (by omega)))
/-- what is told of shelves where their rows are the same -/
theorem zq_wr_v {V V' : Nat → Int → Int} {k s : Int} (h : ∀ x, 115 ≤ x → V' x = V x) : zv_wr V' k s = zv_wr V k s := by
  unfold zv_wr
  rw [h 135 (by omega), h 136 (by omega)]
theorem zq_map_v {V V' : Nat → Int → Int} {A A' : Int → Int} {k v : Int} (h : ∀ x, 115 ≤ x → V' x = V x) (hv : zv_map V' A k v A') : zv_map V A k v A' := by
  unfold zv_map zk_mp zv_mapA at hv ⊢
  rw [zq_wr_v h, h 137 (by omega), h 138 (by omega)] at hv
  exact hv
theorem zq_s5 (hW : zq_W X L m T J R) (hm : m < 512) (a1 : zk_r32 a) : zq_St X L m T J R G 97 163 [.inl (mv_c a)] := by
  obtain ⟨⟨hL, -, -⟩, ⟨hA, hb, hB⟩, ⟨hs, hR, hraw⟩, -⟩ := id hW
  have hN := hA.n
  obtain ⟨v, J1, A', h1, hop, hv, hA'⟩ := c_97 (T := T) (J := J) (R := R) (G := G) (d := 40) (by omega) hL hA hR hraw hs a1
  obtain ⟨⟨hL1, -⟩, e, hA1, hb1, hB1, hk1, hJ⟩ := zq_Wpre hW hop
  obtain ⟨v', B, h2, hv'⟩ := r_163 (T := T) (J := J1) (R := R) (G := G) (d := 40) (by omega) hL1 hA1 hk1 a1.1 a1.2
  rw [e] at hv'
  obtain ⟨rfl, rfl⟩ := zv_map_u hv (zq_map_v hJ hv')
  have k : ∀ y, y < 24 → A' y = J 132 y := fun y hy => by
    rcases hv with ⟨-, -, q⟩ | ⟨-, -, -, q⟩ | ⟨-, -, -, q⟩
    · rw [q]
    · rw [q]
    · rw [q]
      exact if_neg (by omega)
  exact zq_A hW hm hop h1 h2 zq_pww zw_s (zq_okm hA' (by omega) (by omega)) (zq_hbc hb (k 0 (by omega)) (k 1 (by omega)) (k 6 (by omega)))
theorem zq_s6 (hW : zq_W X L m T J R) (hm : m < 512) (a1 : zk_r32 a) : zq_St X L m T J R G 98 155 [.inl (mv_c a)] := by
  obtain ⟨⟨hL, -, -⟩, ⟨hA, hb, hB⟩, ⟨hs, hR, hraw⟩, -⟩ := id hW
  obtain ⟨J1, h1, hop⟩ := c_98 (T := T) (J := J) (R := R) (G := G) (d := 40) (by omega) hL hA hR hraw a1.1 a1.2
  obtain ⟨⟨hL1, -⟩, e, hA1, hb1, hB1, hk1, -⟩ := zq_Wpre hW hop
  obtain ⟨J2, h2, f1, f2⟩ := r_155 (T := T) (J := J1) (R := R) (G := G) (d := 40) (by omega) hL1 hA1 hB1 a1.1 a1.2
  rw [e] at h2
  exact zq_A hW hm hop h1 h2 (zq_pwf f1 f2) (by rw [f1 132 (by omega), e]) (zq_ok1 hW hm) hb
theorem zq_s7 (hW : zq_W X L m T J R) (hm : m < 512) (a1 : zk_r32 a) (b1 : zk_r32 b) : zq_St X L m T J R G 99 167 [.inl (mv_c a), .inl (mv_c b)] := by
  obtain ⟨⟨hL, -, -⟩, ⟨hA, hb, hB⟩, ⟨hs, hR, hraw⟩, -⟩ := id hW
  exact zq_A hW hm (zq_o0 hW) (c_99 (by omega) hL hA hR a1.1 a1.2 b1.1 b1.2) (r_167 (by omega) hL hA a1.1 a1.2 b1.1 b1.2) zq_pw0 rfl (zq_ok1 hW hm) hb
theorem zq_s8 (hW : zq_W X L m T J R) (hm : m < 512) (a1 : zk_r32 a) (b1 : zk_r32 b) : zq_St X L m T J R G 100 168 [.inl (mv_c a), .inl (mv_c b)] := by
  obtain ⟨⟨hL, -, -⟩, ⟨hA, hb, hB⟩, ⟨hs, hR, hraw⟩, -⟩ := id hW
  have hN := hA.n
  obtain ⟨J1, h1, hop⟩ := c_100 (T := T) (J := J) (R := R) (G := G) (d := 40) (by omega) hL hA hR hraw a1.1 a1.2 b1.1 b1.2
  obtain ⟨⟨hL1, -⟩, e, hA1, hb1, hB1, hk1, -⟩ := zq_Wpre hW hop
  have h2 := r_168 (T := T) (J := J1) (R := R) (G := G) (d := 40) (by omega) hL1 hA1 a1.1 a1.2 b1.1 b1.2
  rw [e] at h2
  have k : zz_ok ((m : Int) + 1) (zv_haulA (J 132) a b) ∧ ∀ y, y < 8 → zv_haulA (J 132) a b y = J 132 y := by
    unfold zv_haulA
    rcases zv_rf_c (J 132) a b with ⟨q, -⟩ | ⟨q, -⟩ | ⟨q, h, hm'⟩
    · rw [if_neg (by omega)]
      exact ⟨zq_ok1 hW hm, fun _ _ => rfl⟩
    · rw [if_neg (by omega)]
      exact ⟨zq_ok1 hW hm, fun _ _ => rfl⟩
    · rw [if_pos q]
      exact ⟨zz_mh_ok (zq_ok1 hW hm) h.1.1 h.1.2 h.2.1.1 h.2.1.2 hm', fun y hy => zz_mv_o (by omega) (by omega)⟩
  exact zq_A hW hm hop h1 h2 zq_pww zw_s k.1 (zq_hbc hb (k.2 0 (by omega)) (k.2 1 (by omega)) (k.2 6 (by omega)))
theorem zq_s9 (hW : zq_W X L m T J R) (hm : m < 512) (a1 : zk_r32 a) : zq_St X L m T J R G 101 170 [.inl (mv_c a)] := by
  obtain ⟨⟨hL, -, -⟩, ⟨hA, hb, hB⟩, ⟨hs, hR, hraw⟩, -⟩ := id hW
  obtain ⟨v, h1, hv⟩ := c_101 (T := T) (J := J) (R := R) (G := G) (d := 40) (by omega) hL hA hR a1.1 a1.2
  obtain ⟨v', h2, hv'⟩ := r_170 (T := T) (J := J) (R := R) (G := G) (d := 40) (by omega) hL hA a1.1 a1.2
  cases zv_like_u hv hv'
  exact zq_A hW hm (zq_o0 hW) h1 h2 zq_pw0 rfl (zq_ok1 hW hm) hb
theorem zq_s10 (hW : zq_W X L m T J R) (hm : m < 512) : zq_St X L m T J R G 102 173 [] := by
  obtain ⟨⟨hL, -, -⟩, ⟨hA, hb, hB⟩, ⟨hs, hR, hraw⟩, -⟩ := id hW
  have hN := hA.n
  obtain ⟨v, J1, h1, hop, hv⟩ := c_102 (T := T) (J := J) (R := R) (G := G) (d := 40) (by omega) hL hA hR hraw
  obtain ⟨⟨hL1, -⟩, e, hA1, hb1, hB1, hk1, -⟩ := zq_Wpre hW hop
  obtain ⟨v', J2, h2, fx, hv'⟩ := r_173 (T := T) (J := J1) (R := R) (G := G) (d := 40) hL1 hA1 (by omega)
  rw [e] at hv'
  cases zz_lst_u (by omega) hv hv'
  exact zq_A hW hm hop h1 h2 (zq_pwx fx) (by rw [fx.1 132 (by omega) (by omega), e]) (zq_ok1 hW hm) hb
theorem zq_wk_v {V V' : Nat → Int → Int} {k : Int} {P : Prop} (h : ∀ x, 115 ≤ x → V' x = V x) : ∀ (f : Nat) (A : Int → Int) (i l : Int), zv_wk V' k P f A i l = zv_wk V k P f A i l
  | 0, _, _, _ => rfl
  | f + 1, A, i, l => by
    unfold zv_wk
    rw [h 137 (by omega), h 138 (by omega), zq_wk_v h f]
theorem zq_s11 (hW : zq_W X L m T J R) (hm : m < 512) (a1 : zk_r32 a) : zq_St X L m T J R G 103 174 [.inl (mv_c a)] := by
  obtain ⟨⟨hL, -, -⟩, ⟨hA, hb, hB⟩, ⟨hs, hR, hraw⟩, -⟩ := id hW
  obtain ⟨v, J1, R1, h1, hop, hv⟩ := c_103 (T := T) (J := J) (R := R) (G := G) (d := 40) (by omega) hL hA hR hraw hs a1
  obtain ⟨⟨hL1, -⟩, e, hA1, hb1, hB1, hk1, hJ⟩ := zq_Wpre hW hop
  obtain ⟨v', J2, h2, pw, e2, hv'⟩ := r_174 (T := T) (J := J1) (R := R1) (G := G) (d := 40) (by omega) hL1 hA1 hB1 hk1 a1.1 a1.2
  have ev : v = v' := by
    unfold zv_works at hv hv'
    rw [e, zq_wr_v hJ, zq_wk_v hJ] at hv'
    omega
  cases ev
  exact zq_A hW hm hop h1 h2 pw (by rw [e2, e]) (zq_ok1 hW hm) hb
theorem zq_s12 (hW : zq_W X L m T J R) (hm : m < 512) (a1 : zk_r32 a) : zq_St X L m T J R G 104 180 [.inl (mv_c a)] := by
  obtain ⟨⟨hL, -, -⟩, ⟨hA, hb, hB⟩, ⟨hs, hR, hraw⟩, -⟩ := id hW
  have hN := hA.n
  obtain ⟨v, J1, R1, h1, hop, hv⟩ := c_104 (T := T) (J := J) (R := R) (G := G) (d := 40) (by omega) hL hA hR hraw a1.1 a1.2
  obtain ⟨⟨hL1, -⟩, e, hA1, hb1, hB1, hk1, hJ⟩ := zq_Wpre hW hop
  obtain ⟨v', J2, h2, pw, e2, hv'⟩ := r_180 (T := T) (J := J1) (R := R1) (G := G) (d := 40) (by omega) hL1 hA1 hB1 a1.1 a1.2
  rw [e] at hv'
  cases zv_dig_u (by omega) hv hv'
  exact zq_A hW hm hop h1 h2 ⟨pw.1, pw.2 9 (by omega)⟩ (by rw [e2, e]) (zq_ok1 hW hm) hb
theorem zq_s13 (hW : zq_W X L m T J R) (hm : m < 512) (a1 : zk_r32 a) (b1 : zk_r32 b) : zq_St X L m T J R G 105 183 [.inl (mv_c a), .inl (mv_c b)] := by
  obtain ⟨⟨hL, -, -⟩, ⟨hA, hb, hB⟩, ⟨hs, hR, hraw⟩, -⟩ := id hW
  exact zq_A hW hm (zq_o0 hW) (c_105 (by omega) hL hA hR a1.1 a1.2 b1.1 b1.2) (r_183 (by omega) hL hA a1.1 a1.2 b1.1 b1.2) zq_pw0 rfl (zq_ok1 hW hm) hb
theorem zq_s14 (hW : zq_W X L m T J R) (hm : m < 512) (a1 : zk_r32 a) (b1 : zk_r32 b) : zq_St X L m T J R G 106 188 [.inl (mv_c a), .inl (mv_c b)] := by
  obtain ⟨⟨hL, -, -⟩, ⟨hA, hb, hB⟩, ⟨hs, hR, hraw⟩, -⟩ := id hW
  have hN := hA.n
  obtain ⟨v, J1, h1, hop, hv⟩ := c_106 (T := T) (J := J) (R := R) (G := G) (d := 40) (by omega) hL hA hR hraw a1.1 a1.2 b1.1 b1.2
  obtain ⟨⟨hL1, -⟩, e, hA1, hb1, hB1, hk1, hJ⟩ := zq_Wpre hW hop
  obtain ⟨v', J2, h2, pw, e2, -, hv'⟩ := r_188 (T := T) (J := J1) (R := R) (G := G) (d := 40) hL1 hA1 hB1 (by omega) a1.1 a1.2 b1.1 b1.2
  rw [e] at hv'
  have ev : v = v' := by
    rcases hv with ⟨p1, p2⟩ | ⟨p1, g, p2, p3⟩
    · rcases hv' with ⟨q1, q2⟩ | ⟨q1, -⟩
      · rw [p2, q2]
      · exact absurd q1 p1
    · rcases hv' with ⟨q1, -⟩ | ⟨q1, g', q2, q3⟩
      · exact absurd p1 q1
      · rw [p3, q3]
        exact zz_dr_u (by omega) p2 q2 b p1.2.1 p1.2.2
  cases ev
  exact zq_A hW hm hop h1 h2 pw (by rw [e2, e]) (zq_ok1 hW hm) hb
theorem zq_s15 (hW : zq_W X L m T J R) (hm : m < 512) : zq_St X L m T J R G 107 192 [] := by
  obtain ⟨⟨hL, -, -⟩, ⟨hA, hb, hB⟩, ⟨hs, hR, hraw⟩, -⟩ := id hW
  have h7 := hA.2.2.2.2.2.2.1
  obtain ⟨v, J1, h1, hv⟩ := c_107 (T := T) (J := J) (R := R) (G := G) (d := 40) (by omega) hL hA (by omega) hR hraw
  rcases hv with ⟨p1, p2, hop⟩ | ⟨p1, p2, hop, hok⟩
  · obtain ⟨⟨hL1, -⟩, e, hA1, hb1, hB1, hk1, hJ⟩ := zq_Wpre hW hop
    obtain ⟨v', J2, h2, pw, -, -, hv'⟩ := r_192 (T := T) (J := J1) (R := R) (G := G) (d := 40) hL1 hA1 hB1 (by omega) (by omega)
    rw [e] at hv'
    rcases hv' with ⟨q1, q2, q3⟩ | ⟨q1, -⟩
    · have ev : v = v' := by rw [p2, q2]
      cases ev
      exact zq_A hW hm hop h1 h2 pw q3 (zq_ok1 hW hm) hb
    · exact absurd p1 q1
  · obtain ⟨⟨hL1, -⟩, e, hA1, hb1, hB1, hk1, hJ⟩ := zq_Wpre hW hop
    obtain ⟨v', J2, h2, pw, -, -, hv'⟩ := r_192 (T := T) (J := J1) (R := R) (G := G) (d := 40) hL1 hA1 hB1 (by omega) (by omega)
    have hmd := zz_yn_y (A := J 132) (by omega)
    obtain ⟨J3, -, -, s3, -, s5⟩ := r_189 (T := T) (J := J1) (R := R) (G := G) (d := 40) (e := J 132 4 % J 132 7) hL1 hA1 hB1 (by omega) hmd.1 (by rw [e]; exact hmd.2) (by omega)
    rw [e] at s3 s5 hv'
    have s3 : J3 132 = zz_yn (J 132) := s3
    rw [s3] at s5
    rcases hv' with ⟨q1, -⟩ | ⟨q1, q2, q3⟩
    · exact absurd q1 p1
    · have ev : v = v' := by rw [p2, q2]
      cases ev
      exact zq_A hW hm hop h1 h2 pw q3 hok (zq_hbc hb (s5 0 (by omega)) (s5 1 (by omega)) (s5 6 (by omega)))
theorem zq_s16 (hW : zq_W X L m T J R) (hm : m < 512) : zq_St X L m T J R G 108 195 [] := by
  obtain ⟨⟨hL, -, -⟩, ⟨hA, hb, hB⟩, ⟨hs, hR, hraw⟩, -⟩ := id hW
  obtain ⟨v, J1, R1, h1, hop, hv⟩ := c_108 (T := T) (J := J) (R := R) (G := G) (d := 40) (by omega) hL hA (by omega) hR hraw
  obtain ⟨⟨hL1, -⟩, e, hA1, hb1, hB1, hk1, hJ⟩ := zq_Wpre hW hop
  obtain ⟨v', J2, h2, pw, e2, -, hv'⟩ := r_195 (T := T) (J := J1) (R := R1) (G := G) (d := 40) hL1 hA1 hB1 (by omega) (by omega)
  rw [e] at hv'
  have ev : v = v' := by omega
  cases ev
  exact zq_A hW hm hop h1 h2 pw (by rw [e2, e]) (zq_ok1 hW hm) hb
theorem zq_s17 (hW : zq_W X L m T J R) (hm : m < 512) : zq_St X L m T J R G 109 196 [] := by
  obtain ⟨⟨hL, -, -⟩, ⟨hA, hb, hB⟩, ⟨hs, hR, hraw⟩, -⟩ := id hW
  obtain ⟨v, J1, R1, h1, hop, hv⟩ := c_109 (T := T) (J := J) (R := R) (G := G) (d := 40) (by omega) hL hA (by omega) hR hraw
  obtain ⟨⟨hL1, -⟩, e, hA1, hb1, hB1, hk1, hJ⟩ := zq_Wpre hW hop
  obtain ⟨v', J2, h2, pw, e2, -, hv'⟩ := r_196 (T := T) (J := J1) (R := R1) (G := G) (d := 40) hL1 hA1 hB1 (by omega) (by omega)
  rw [e] at hv'
  have ev : v = v' := by omega
  cases ev
  exact zq_A hW hm hop h1 h2 pw (by rw [e2, e]) (zq_ok1 hW hm) hb
theorem zq_s18 (hW : zq_W X L m T J R) (hm : m < 512) (a1 : zk_r32 a) (c1 : zk_r32 c) : zq_St X L m T J R G 110 197 [.inl (mv_c a), .inl (mv_c b), .inl (mv_c c)] := by
  obtain ⟨⟨hL, -, -⟩, ⟨hA, hb, hB⟩, ⟨hs, hR, hraw⟩, -⟩ := id hW
  obtain ⟨v, J1, R1, h1, hop, hv⟩ := c_110 (T := T) (J := J) (R := R) (G := G) (d := 40) (z := b) (by omega) hL hA (by omega) hR hraw a1.1 a1.2 c1.1 c1.2
  obtain ⟨⟨hL1, -⟩, e, hA1, hb1, hB1, hk1, hJ⟩ := zq_Wpre hW hop
  obtain ⟨v', J2, h2, pw, e2, -, hv'⟩ := r_197 (T := T) (J := J1) (R := R1) (G := G) (d := 40) (z := b) hL1 hA1 hB1 (by omega) (by omega) a1.1 a1.2 c1.1 c1.2
  rw [e] at hv'
  have ev : v = v' := by
    rcases hv with ⟨p1, p2⟩ | ⟨p1, ⟨p2, p3⟩ | ⟨p2, p3⟩⟩
    · rcases hv' with ⟨q1, q2⟩ | ⟨q1, -⟩
      · rw [p2, q2]
      · exact absurd q1 p1
    · rcases hv' with ⟨q1, q2⟩ | ⟨q1, ⟨q2, q3⟩ | ⟨q2, q3⟩⟩
      · exact absurd p1 q1
      · rw [p3, q3]
      · exact absurd p2 q2
    · rcases hv' with ⟨q1, q2⟩ | ⟨q1, ⟨q2, q3⟩ | ⟨q2, q3⟩⟩
      · exact absurd p1 q1
      · exact absurd q2 p2
      · rw [p3, q3]
  cases ev
  exact zq_A hW hm hop h1 h2 pw (by rw [e2, e]) (zq_ok1 hW hm) hb
theorem zq_seam_v {V V' : Nat → Int → Int} {A : Int → Int} {k e col jn : Int} (h : ∀ x, 115 ≤ x → V' x = V x) : zv_seam V' A k e col jn = zv_seam V A k e col jn := by
  unfold zv_seam zk_mp zv_smA
  rw [h 135 (by omega), h 136 (by omega), h 137 (by omega), h 138 (by omega)]
theorem zq_s19 (hW : zq_W X L m T J R) (hm : m < 512) (a1 : zk_r32 a) (b1 : zk_r32 b) (c1 : zk_r32 c) (e1 : e = 0 ∨ e = 1) : zq_St X L m T J R G 111 198 [.inl (mv_c a), .inl (mv_c b), .inl (mv_c c), .inl (mv_c e)] := by
  obtain ⟨⟨hL, -, -⟩, ⟨hA, hb, hB⟩, ⟨hs, hR, hraw⟩, -⟩ := id hW
  have hN := hA.n
  obtain ⟨J1, h1, hop, hok⟩ := c_111 (T := T) (J := J) (R := R) (G := G) (d := 40) (by omega) hL hA hR hraw hs a1 b1 c1 e1
  obtain ⟨⟨hL1, -⟩, e', hA1, hb1, hB1, hk1, hJ⟩ := zq_Wpre hW hop
  have h2 := r_198 (T := T) (J := J1) (R := R) (G := G) (d := 40) (by omega) hL1 hA1 hk1 a1 b1 c1 e1
  rw [e', zq_seam_v hJ] at h2
  have k : ∀ y, y < 24 → (zv_seam J (J 132) a b c e).2 y = J 132 y := fun y hy => by
    unfold zv_seam
    split
    · split
      · rfl
      · split
        · split
          · show (@ite _ (e = 0) (Classical.propDecidable _) (J 132) (zv_smA J (J 132) a b c)) y = _
            split
            · rfl
            · exact if_neg (by omega)
          · rfl
        · rfl
    · rfl
  exact zq_A hW hm hop h1 h2 zq_pww zw_s (zq_okm hok (by omega) (by omega)) (zq_hbc hb (k 0 (by omega)) (k 1 (by omega)) (k 6 (by omega)))
theorem zq_s20 (hW : zq_W X L m T J R) (hm : m < 512) (a1 : zk_r32 a) (b1 : zk_r32 b) : zq_St X L m T J R G 112 200 [.inl (mv_c a), .inl (mv_c b)] := by
  obtain ⟨⟨hL, -, -⟩, ⟨hA, hb, hB⟩, ⟨hs, hR, hraw⟩, -⟩ := id hW
  have hN := hA.n
  obtain ⟨v, J1, h1, hop, hv⟩ := c_112 (T := T) (J := J) (R := R) (G := G) (d := 40) (by omega) hL hA hR hraw a1.1 a1.2 b1.1 b1.2
  obtain ⟨⟨hL1, -⟩, e, hA1, hb1, hB1, hk1, hJ⟩ := zq_Wpre hW hop
  obtain ⟨v', J2, h2, pw, e2, hv'⟩ := r_200 (T := T) (J := J1) (R := R) (G := G) (d := 40) (by omega) hL1 hA1 a1.1 a1.2 b1.1 b1.2
  rw [e] at hv'
  cases zv_blot_u (by omega) hv hv'
  exact zq_A hW hm hop h1 h2 pw (by rw [e2, e]) (zq_ok1 hW hm) hb
theorem zq_s21 (hW : zq_W X L m T J R) (hm : m < 512) (a1 : zk_r32 a) (b1 : zk_r32 b) : zq_St X L m T J R G 113 201 [.inl (mv_c a), .inl (mv_c b)] := by
  obtain ⟨⟨hL, -, -⟩, ⟨hA, hb, hB⟩, ⟨hs, hR, hraw⟩, -⟩ := id hW
  obtain ⟨J1, h1, hop⟩ := c_113 (T := T) (J := J) (R := R) (G := G) (d := 40) (by omega) hL hA hR hraw a1.1 a1.2 b1.1 b1.2
  obtain ⟨⟨hL1, -⟩, e, hA1, hb1, hB1, hk1, hJ⟩ := zq_Wpre hW hop
  have h2 := r_201 (T := T) (J := J1) (R := R) (G := G) (d := 40) (by omega) hL1 hA1 a1.1 a1.2 b1.1 b1.2
  rw [e] at h2
  exact zq_A hW hm hop h1 h2 zq_pw0 e (zq_ok1 hW hm) hb
theorem zq_s22 (hW : zq_W X L m T J R) (hm : m < 512) (a1 : zk_r32 a) : zq_St X L m T J R G 114 202 [.inl (mv_c a)] := by
  obtain ⟨⟨hL, -, -⟩, ⟨hA, hb, hB⟩, ⟨hs, hR, hraw⟩, -⟩ := id hW
  obtain ⟨v, J1, h1, hop, hv⟩ := c_114 (T := T) (J := J) (R := R) (G := G) (d := 40) (by omega) hL hA hR hraw a1.1 a1.2
  obtain ⟨⟨hL1, -⟩, e, hA1, hb1, hB1, hk1, hJ⟩ := zq_Wpre hW hop
  obtain ⟨v', J2, h2, pw, e2, hv'⟩ := r_202 (T := T) (J := J1) (R := R) (G := G) (d := 40) (by omega) hL1 hA1 hB1 a1.1 a1.2
  rw [e] at hv'
  cases zv_chosen_u hA hv hv'
  exact zq_A hW hm hop h1 h2 pw (by rw [e2, e]) (zq_ok1 hW hm) hb
theorem zq_s23 (hW : zq_W X L m T J R) (hm : m < 512) (a1 : zk_r32 a) : zq_St X L m T J R G 115 204 [.inl (mv_c a)] := by
  obtain ⟨⟨hL, -, -⟩, ⟨hA, hb, hB⟩, ⟨hs, hR, hraw⟩, -⟩ := id hW
  obtain ⟨v, h1, hv⟩ := c_115 (T := T) (J := J) (R := R) (G := G) (d := 40) (by omega) hL hA hR hs a1
  obtain ⟨v', h2, hv'⟩ := r_204 (T := T) (J := J) (R := R) (G := G) (d := 40) (by omega) hL hA (zk_kd_s hs) a1.1 a1.2
  cases zv_judge_u hv hv'
  exact zq_A hW hm (zq_o0 hW) h1 h2 zq_pw0 rfl (zq_ok1 hW hm) hb
theorem zq_s26 (hW : zq_W X L m T J R) (hm : m < 512) (a1 : zk_r32 a) : zq_St X L m T J R G 118 207 [.inl (mv_c a)] := by
  obtain ⟨⟨hL, -, -⟩, ⟨hA, hb, hB⟩, ⟨hs, hR, hraw⟩, -⟩ := id hW
  exact zq_A hW hm (zq_o0 hW) (c_118 (by omega) hL hA hR a1.1 a1.2) (r_207 (by omega) hL hA hb a1.1 a1.2) zq_pw0 rfl (zq_ok1 hW hm) hb
theorem zq_s32 (hW : zq_W X L m T J R) (hm : m < 512) (a1 : zk_r32 a) : zq_St X L m T J R G 124 215 [.inl (mv_c a)] := by
  obtain ⟨⟨hL, -, -⟩, ⟨hA, hb, hB⟩, ⟨hs, hR, hraw⟩, -⟩ := id hW
  exact zq_A hW hm (zq_o0 hW) (c_124 (by omega) hL hs a1) (r_215 (by omega) hL (zk_kd_s hs) a1.1 a1.2) zq_pw0 rfl (zq_ok1 hW hm) hb
end ZOPA
