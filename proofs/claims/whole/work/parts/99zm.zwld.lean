/-! PURE LAYER, 118: the world between two calls -/
def zq_W (X : Int → Int) (L m : Nat) (T : List mv_T) (J : Nat → Int → Int) (R : Nat → Nat → Option Nat) : Prop :=
  (ZL T R ∧ T[0]? = some (.inr (0, L)) ∧ J 0 = X) ∧ (zz_ok (m : Int) (J 132) ∧ zt_hb (J 132) ∧ zz_bc (J 142)) ∧ (zk_sh T R J J ∧ zc_rep T R J 17 (J 132) ∧ ∀ p, Lnd p → zk_raw T R J p) ∧ ((J 131 9 = 0 ∧ J 16 4 = 0) ∨ (J 131 9 = 1 ∧ J 16 4 = 1 ∧ zz_ok (m : Int) (J 133) ∧ zt_hb (J 133) ∧ zc_rep T R J 56 (J 133))) ∧ T.length ≤ 156 + 6 * m ∧ mw_sz T ≤ 10000 + L + 18 * m
theorem zq_okm {Y Y' : Int} {A : Int → Int} (h : zz_ok Y A) (h1 : Y ≤ Y') (h2 : Y' ≤ 1000000000) : zz_ok Y' A := ⟨h.1, h.2.1, h.2.2.1, ⟨h.2.2.2.1.1, by have := h.2.2.2.1.2.1; omega, h2⟩, h.2.2.2.2⟩
theorem zq_hbc {A A' : Int → Int} (h : zt_hb A) (h0 : A' 0 = A 0) (h1 : A' 1 = A 1) (h6 : A' 6 = A 6) : zt_hb A' := fun c c0 c1 => by
  rw [h6]
  exact h c (by rw [← h0, ← h1]; exact c0) c1
theorem zq_szA (l l' : List mv_T) : mw_sz (l ++ l') = mw_sz l + mw_sz l' := by
  unfold mw_sz
  rw [List.map_append, List.sum_append]
/-- a row's part that counts -/
theorem zq_rep130 {T : List mv_T} {R : Nat → Nat → Option Nat} {J : Nat → Int → Int} {p : Nat} {A O : Int → Int} {Y : Int} (hA : zz_ok Y A) (h : zc_rep T R J p A) : zc_rep T R J p (zz_c130 A O) := by
  have hn := hA.n
  have h7 := hA.2.2.2.2.2.2.1
  have e : ∀ y, 0 ≤ y → y < 130 → zz_c130 A O y = A y := fun y y0 y1 => z130 ⟨y0, y1⟩
  obtain ⟨⟨r1, r2, r3⟩, r4, r5, r6⟩ := h
  have hcd : ∀ c i, zz_cd (zz_c130 A O) c i = zz_cd A c i := fun c i => by
    unfold zz_cd
    rw [e 0 (by omega) (by omega), e 1 (by omega) (by omega)]
  unfold zc_rep zc_geo
  rw [e 0 (by omega) (by omega), e 1 (by omega) (by omega), e 2 (by omega) (by omega), e 3 (by omega) (by omega), e 4 (by omega) (by omega), e 5 (by omega) (by omega), e 6 (by omega) (by omega), e 7 (by omega) (by omega)]
  refine ⟨⟨r1, fun c c0 c1 => ⟨(r2 c c0 c1).1, fun i i0 i1 => by rw [hcd]; exact (r2 c c0 c1).2 i i0 i1⟩, r3⟩, r4, fun c c0 c1 => ?_, fun d d0 d1 => ?_⟩
  · rw [e (8 + c) (by omega) (by omega), e (24 + c) (by omega) (by omega)]
    exact r5 c c0 c1
  · have hD := hA.2.2.2.2.2.2.2.2 d d0 d1
    obtain ⟨q1, q2, q3⟩ := r6 d d0 d1
    have hw := hD.2.2.1
    unfold zc_dr
    rw [e (40 + 15 * d) (by omega) (by omega), e (41 + 15 * d) (by omega) (by omega), e (42 + 15 * d) (by omega) (by omega)]
    refine ⟨q1, q2, fun w w0 w1 => ?_⟩
    rw [e (43 + 15 * d + 3 * w) (by omega) (by omega), e (44 + 15 * d + 3 * w) (by omega) (by omega), e (45 + 15 * d + 3 * w) (by omega) (by omega)]
    exact q3 w w0 w1
section ZWLD
variable {X : Int → Int} {L m : Nat} {T : List mv_T} {J J1 J2 V' : Nat → Int → Int} {R R1 : Nat → Nat → Option Nat} {G : Nat → Nat → Int64} {A' : Int → Int} {v : Int}
/-- a call of the class, then one of the reference that keeps shelves and image -/
theorem zq_Wop {m' : Nat} (hW : zq_W X L m T J R) (hop : zk_op T R R1 J J1 A') (pw : zz_pw J1 J2) (e : J2 132 = A') (hok : zz_ok (m' : Int) A') (hb : zt_hb A') (hm : m ≤ m') (hm' : m' ≤ 1000) : zq_W X L m' T J2 R1 := by
  obtain ⟨⟨hL, hT0, hX⟩, ⟨h1, h2, h3⟩, ⟨h4, h5, h6⟩, h7, h8, h9⟩ := hW
  obtain ⟨p1, p2, p3, p4⟩ := hop
  have hJ : ∀ x, (x < 17 ∨ (56 ≤ x ∧ x ≤ 67) ∨ 115 ≤ x) → x ≠ 131 → x ≠ 132 → (x < 143 ∨ 154 < x) → J2 x = J x := fun x x1 x2 x3 x4 => by rw [pw.1 x x2 x3 x4, p2 x x1]
  have h131 : J1 131 = J 131 := p2 131 (by omega)
  refine ⟨⟨ZL_R hL (fun x k _ k2 k3 _ _ => p3 x k k2 k3), hT0, by rw [hJ 0 (by omega) (by omega) (by omega) (by omega)]; exact hX⟩, ⟨by rw [e]; exact hok, by rw [e]; exact hb, by rw [hJ 142 (by omega) (by omega) (by omega) (by omega)]; exact h3⟩, ⟨?_, ?_, fun p hp => ?_⟩, ?_, by omega, by omega⟩
  · refine zk_sh_f h4 (fun a h => h) (fun x x0 x1 => hJ x (by omega) (by omega) (by omega) (by omega)) (fun a a0 _ => hJ a (by omega) (by omega) (by omega) (by omega)) (fun x x0 x1 => p3 x 0 (by omega) (by omega)) (fun k _ _ => ?_)
    unfold zk_vs
    rw [hJ 135 (by omega) (by omega) (by omega) (by omega), hJ 136 (by omega) (by omega) (by omega) (by omega), hJ 137 (by omega) (by omega) (by omega) (by omega), hJ 138 (by omega) (by omega) (by omega) (by omega), hJ 139 (by omega) (by omega) (by omega) (by omega), hJ 140 (by omega) (by omega) (by omega) (by omega)]
    exact ⟨rfl, rfl, rfl, rfl, rfl, fun _ _ _ => rfl⟩
  · rw [e]
    exact zc_rep_f p1 (fun x hx => pw.1 x (by omega) (by omega) (by omega))
  · exact zk_raw_f (p4 p hp) (fun c _ _ => by rw [pw.1 (p + 6) (by rcases hp with rfl | rfl | rfl | rfl <;> omega) (by rcases hp with rfl | rfl | rfl | rfl <;> omega) (by rcases hp with rfl | rfl | rfl | rfl <;> omega)]) (fun _ _ => rfl)
  · rw [pw.2, h131, hJ 16 (by omega) (by omega) (by omega) (by omega), hJ 133 (by omega) (by omega) (by omega) (by omega)]
    rcases h7 with h7 | ⟨i1, i2, i3, i4, i5⟩
    · exact Or.inl h7
    · exact Or.inr ⟨i1, i2, zq_okm i3 (by omega) (by omega), i4, zc_rep_f (zc_rep_R i5 (fun k => p3 _ k (by omega) (by omega))) (fun x hx => hJ x (by omega) (by omega) (by omega) (by omega))⟩
/-- what the reference finds behind a call of the class -/
theorem zq_Wpre (hW : zq_W X L m T J R) (hop : zk_op T R R1 J J1 A') : (ZL T R1 ∧ T[0]? = some (.inr (0, L)) ∧ J1 0 = X) ∧ J1 132 = J 132 ∧ zz_ok (m : Int) (J1 132) ∧ zt_hb (J1 132) ∧ zz_bc (J1 142) ∧ zk_kd J1 ∧ ∀ x, 115 ≤ x → J1 x = J x := by
  obtain ⟨⟨hL, hT0, hX⟩, ⟨h1, h2, h3⟩, ⟨h4, h5, h6⟩, h7, h8, h9⟩ := hW
  obtain ⟨p1, p2, p3, p4⟩ := hop
  have hJ : ∀ x, 115 ≤ x → J1 x = J x := fun x hx => p2 x (by omega)
  refine ⟨⟨ZL_R hL (fun x k _ k2 k3 _ _ => p3 x k k2 k3), hT0, by rw [p2 0 (by omega)]; exact hX⟩, hJ 132 (by omega), by rw [hJ 132 (by omega)]; exact h1, by rw [hJ 132 (by omega)]; exact h2, by rw [hJ 142 (by omega)]; exact h3, zq_kdf (zk_kd_s h4) (fun x x0 x1 => hJ x (by omega)), hJ⟩
/-- one call of each, alike, and the world behind them -/
def zq_St (X : Int → Int) (L m : Nat) (T : List mv_T) (J : Nat → Int → Int) (R : Nat → Nat → Option Nat) (G : Nat → Nat → Int64) (mc mr : Nat) (as : List mv_V) : Prop := ∃ v T1 J1 R1 G1 J2, mv_cax 40 mc (.inr (.inr (some 16)) :: as) (zz_S T J R G) = some (some (.inl (mv_c v)), zz_S T1 J1 R1 G1) ∧ mv_cax 40 mr (.inr (.inr (some 131)) :: as) (zz_S T1 J1 R1 G1) = some (some (.inl (mv_c v)), zz_S T1 J2 R1 G1) ∧ (ZL T1 R1 ∧ T1[0]? = some (.inr (0, L)) ∧ J1 0 = X) ∧ zq_W X L (m + 1) T1 J2 R1
theorem zq_A {mc mr : Nat} {as : List mv_V} (hW : zq_W X L m T J R) (hm : m < 512) (hop : zk_op T R R1 J J1 A') (h1 : mv_cax 40 mc (.inr (.inr (some 16)) :: as) (zz_S T J R G) = some (some (.inl (mv_c v)), zz_S T J1 R1 G)) (h2 : mv_cax 40 mr (.inr (.inr (some 131)) :: as) (zz_S T J1 R1 G) = some (some (.inl (mv_c v)), zz_S T J2 R1 G)) (pw : zz_pw J1 J2) (e : J2 132 = A') (hok : zz_ok ((m : Int) + 1) A') (hb : zt_hb A') : zq_St X L m T J R G mc mr as := ⟨v, T, J1, R1, G, J2, h1, h2, (zq_Wpre hW hop).1, zq_Wop hW hop pw e (by rw [Int.natCast_add]; exact hok) hb (by omega) (by omega)⟩
theorem zq_pw0 : zz_pw J J := ⟨fun _ _ _ _ => rfl, rfl⟩
theorem zq_o0 (hW : zq_W X L m T J R) : zk_op T R R J J (J 132) := zk_op_0 hW.2.2.1.2.2 hW.2.2.1.2.1 (fun _ _ => rfl) ⟨rfl, rfl, rfl⟩
/-- only the row changes -/
theorem zq_pww {B : Int → Int} : zz_pw J (zz_w J 132 B) := zz_pw_w (Or.inl rfl)
/-- shelves change -/
theorem zq_B {mc mr : Nat} {as : List mv_V} (hW : zq_W X L m T J R) (hm : m < 512) (hos : zk_os T R R1 J J1 V') (h1 : mv_cax 40 mc (.inr (.inr (some 16)) :: as) (zz_S T J R G) = some (some (.inl (mv_c v)), zz_S T J1 R1 G)) (h2 : mv_cax 40 mr (.inr (.inr (some 131)) :: as) (zz_S T J1 R1 G) = some (some (.inl (mv_c v)), zz_S T J2 R1 G)) (hn : ∀ x, (x < 135 ∨ 140 < x) → J2 x = J1 x) (hV : ∀ x, 135 ≤ x → x ≤ 140 → J2 x = V' x) : zq_St X L m T J R G mc mr as := by
  obtain ⟨⟨hL, hT0, hX⟩, ⟨w1, w2, w3⟩, ⟨h4, h5, h6⟩, h7, h8, h9⟩ := hW
  obtain ⟨p1, p2, p3⟩ := hos
  have hJ : ∀ x, (x < 115 ∨ 130 < x) → (x < 135 ∨ 140 < x) → J2 x = J x := fun x x1 x2 => by rw [hn x x2, p1 x x1]
  have hL1 : ZL T R1 := ZL_R hL (fun x k _ _ _ _ x5 => p2 x k (fun q => x5 ⟨q.1, Or.inr ⟨q.2.1, by omega⟩⟩))
  refine ⟨v, T, J1, R1, G, J2, h1, h2, ⟨hL1, hT0, by rw [p1 0 (by omega)]; exact hX⟩, ⟨hL1, hT0, by rw [hJ 0 (by omega) (by omega)]; exact hX⟩, ⟨?_, ?_, ?_⟩, ⟨?_, ?_, fun p hp => ?_⟩, ?_, by omega, by omega⟩
  · rw [hJ 132 (by omega) (by omega)]
    exact zq_okm w1 (by omega) (by omega)
  · rw [hJ 132 (by omega) (by omega)]
    exact w2
  · rw [hJ 142 (by omega) (by omega)]
    exact w3
  · refine zk_sh_f p3 (fun a h => h) (fun x x0 x1 => hn x (by omega)) (fun a a0 _ => hn a (by omega)) (fun x x0 x1 => rfl) (fun k _ _ => ?_)
    unfold zk_vs
    rw [hV 135 (by omega) (by omega), hV 136 (by omega) (by omega), hV 137 (by omega) (by omega), hV 138 (by omega) (by omega), hV 139 (by omega) (by omega), hV 140 (by omega) (by omega)]
    exact ⟨rfl, rfl, rfl, rfl, rfl, fun _ _ _ => rfl⟩
  · rw [hJ 132 (by omega) (by omega)]
    exact zc_rep_f (zc_rep_R h5 (fun k => p2 _ k (by omega))) (fun x hx => hJ x (by omega) (by omega))
  · have hp' : p + 7 < 115 := by rcases hp with rfl | rfl | rfl | rfl <;> omega
    exact zk_raw_f (h6 p hp) (fun c _ _ => by rw [hJ (p + 6) (by omega) (by omega)]) (fun k _ => p2 _ k (by omega))
  · rw [hJ 131 (by omega) (by omega), hJ 16 (by omega) (by omega), hJ 133 (by omega) (by omega)]
    rcases h7 with h7 | ⟨i1, i2, i3, i4, i5⟩
    · exact Or.inl h7
    · exact Or.inr ⟨i1, i2, zq_okm i3 (by omega) (by omega), i4, zc_rep_f (zc_rep_R i5 (fun k => p2 _ k (by omega))) (fun x hx => hJ x (by omega) (by omega))⟩
/-- the class's exceptions lie behind -/
theorem zq_Wapp {m' : Nat} (hW : zq_W X L m T J R) (hm : m + 1 ≤ m') (hm' : m' ≤ 1000) : zq_W X L m' (T ++ [.inr (98, 6)]) J R := by
  obtain ⟨⟨hL, hT0, hX⟩, ⟨w1, w2, w3⟩, ⟨h4, h5, h6⟩, h7, h8, h9⟩ := hW
  have hT : ∀ a : Nat, T[a]? = some (.inl 2) → (T ++ [.inr (98, 6)])[a]? = some (.inl 2) := fun a h => zk_app h
  refine ⟨⟨ZL_T hL _, zk_app hT0, hX⟩, ⟨zq_okm w1 (by omega) (by omega), w2, w3⟩, ⟨zk_sh_f h4 hT (fun _ _ _ => rfl) (fun _ _ _ => rfl) (fun _ _ _ => rfl) (fun k _ _ => zk_vs_r), zc_rep_g (p := 0) h5 hT (fun _ _ => rfl) (fun _ => rfl), fun p hp => zk_raw_o (h6 p hp) rfl (fun _ => rfl) hT⟩, ?_, ?_, ?_⟩
  · rcases h7 with h7 | ⟨i1, i2, i3, i4, i5⟩
    · exact Or.inl h7
    · exact Or.inr ⟨i1, i2, zq_okm i3 (by omega) (by omega), i4, zc_rep_g (p := 0) i5 hT (fun _ _ => rfl) (fun _ => rfl)⟩
  · rw [List.length_append]
    show T.length + 1 ≤ _
    omega
  · rw [zq_szA]
    show mw_sz T + 6 ≤ _
    omega
theorem zq_Wmo {m' : Nat} (hW : zq_W X L m T J R) (hm : m ≤ m') (hm' : m' ≤ 1000) : zq_W X L m' T J R := zq_Wop hW (zq_o0 hW) zq_pw0 rfl (zq_okm hW.2.1.1 (by omega) (by omega)) hW.2.1.2.1 hm hm'
theorem zq_Wpw {J2 : Nat → Int → Int} (hW : zq_W X L m T J R) (hm : m ≤ 1000) (pw : zz_pw J J2) (e : J2 132 = J 132) : zq_W X L m T J2 R := zq_Wop hW (zq_o0 hW) pw e hW.2.1.1 hW.2.1.2.1 (Nat.le_refl _) hm
end ZWLD
