/-! PURE LAYER, 120: calls that change shelves or the image, lands by texts, failures -/
section ZOPB
variable {X : Int → Int} {L m : Nat} {T : List mv_T} {J : Nat → Int → Int} {R : Nat → Nat → Option Nat} {G : Nat → Nat → Int64} {a b c e w f : Int}
theorem zq_wc {J J1 : Nat → Int → Int} {a : Nat} {F F1 : Int → Int} (h : ∀ x, 131 ≤ x → J1 x = J x) (hf : F1 = F) : ∀ x, 131 ≤ x → zz_w J1 a F1 x = zz_w J a F x := fun x hx => by
  unfold zz_w
  by_cases q : x = a
  · rw [if_pos q, if_pos q, hf]
  · rw [if_neg q, if_neg q]
    exact h x hx
theorem zq_keepV {J J1 : Nat → Int → Int} {A : Int → Int} {k w e : Int} (h : ∀ x, 131 ≤ x → J1 x = J x) : (∀ x, 131 ≤ x → zv_keepV J1 A k w e x = zv_keepV J A k w e x) ∧ ∀ x, (x < 135 ∨ 140 < x) → zv_keepV J1 A k w e x = J1 x := by
  unfold zv_keepV
  by_cases hc : (0 ≤ k ∧ k < 8) ∧ (0 ≤ w ∧ w ≤ 1) ∧ (w = 1 → 0 ≤ e ∧ e < A 7)
  · rw [if_pos hc, if_pos hc]
    by_cases hw : w = 0
    · rw [if_pos hw, if_pos hw]
      exact ⟨zq_wc h (by rw [h 135 (by omega)]), fun x hx => zw_n (by omega)⟩
    · rw [if_neg hw, if_neg hw]
      exact ⟨zq_wc (zq_wc (zq_wc h (by rw [h 135 (by omega)])) (by rw [h 139 (by omega)])) (by rw [h 140 (by omega)]), fun x hx => by rw [zw_n (by omega), zw_n (by omega), zw_n (by omega)]⟩
  · rw [if_neg hc, if_neg hc]
    exact ⟨h, fun _ _ => rfl⟩
theorem zq_rowV {J J1 : Nat → Int → Int} {k s n : Int} (h : ∀ x, 131 ≤ x → J1 x = J x) : (∀ x, 131 ≤ x → zv_rowV J1 k s n x = zv_rowV J k s n x) ∧ ∀ x, (x < 135 ∨ 140 < x) → zv_rowV J1 k s n x = J1 x := by
  unfold zv_rowV
  by_cases hc : (0 ≤ k ∧ k < 8) ∧ (0 ≤ s ∧ s ≤ 2) ∧ 0 ≤ n ∧ n ≤ 100
  · rw [if_pos hc, if_pos hc]
    exact ⟨zq_wc (zq_wc (zq_wc (zq_wc h (by rw [h 135 (by omega)])) (by rw [h 136 (by omega)])) (by rw [h 137 (by omega)])) (by rw [h 138 (by omega)]), fun x hx => by rw [zw_n (by omega), zw_n (by omega), zw_n (by omega), zw_n (by omega)]⟩
  · rw [if_neg hc, if_neg hc]
    exact ⟨h, fun _ _ => rfl⟩
theorem zq_wr_w {V V' : Nat → Int → Int} {k s : Int} (h : ∀ x, 131 ≤ x → V' x = V x) : zv_wr V' k s = zv_wr V k s := by
  unfold zv_wr
  rw [h 135 (by omega), h 136 (by omega)]
theorem zq_putV {J J1 : Nat → Int → Int} {k i v : Int} (h : ∀ x, 131 ≤ x → J1 x = J x) : (∀ x, 131 ≤ x → zv_putV J1 k i v x = zv_putV J k i v x) ∧ (∀ x, (x < 135 ∨ 140 < x) → zv_putV J1 k i v x = J1 x) ∧ zv_put J1 k i = zv_put J k i := by
  refine ⟨?_, ?_, ?_⟩
  · unfold zv_putV
    rw [zq_wr_w h, h 136 (by omega), h 137 (by omega), h 138 (by omega)]
    by_cases hc : zv_wr J k (-1) = 0 ∧ 0 ≤ i ∧ i < J 137 k
    · rw [if_pos hc, if_pos hc]
      exact zq_wc h rfl
    · rw [if_neg hc, if_neg hc]
      exact h
  · intro x hx
    unfold zv_putV
    split
    · exact zw_n (by omega)
    · rfl
  · unfold zv_put
    rw [zq_wr_w h, h 137 (by omega)]
theorem zq_copyV {J J1 : Nat → Int → Int} {k i e j n : Int} (h : ∀ x, 131 ≤ x → J1 x = J x) : (∀ x, 131 ≤ x → zv_copyV J1 k i e j n x = zv_copyV J k i e j n x) ∧ (∀ x, (x < 135 ∨ 140 < x) → zv_copyV J1 k i e j n x = J1 x) ∧ zv_copy J1 k i e j n = zv_copy J k i e j n := by
  refine ⟨?_, ?_, ?_⟩
  · unfold zv_copyV
    rw [h 135 (by omega), h 136 (by omega), h 137 (by omega), h 138 (by omega)]
    by_cases hc : ((0 ≤ k ∧ k < 8) ∧ 0 ≤ e ∧ e < 8) ∧ (J 135 k = 2 ∧ J 135 e = 2 ∧ J 136 e = J 136 k) ∧ (0 ≤ i ∧ 0 ≤ n ∧ n ≤ J 137 k - i) ∧ 0 ≤ j ∧ n ≤ J 137 e - j
    · rw [if_pos hc, if_pos hc]
      exact zq_wc h rfl
    · rw [if_neg hc, if_neg hc]
      exact h
  · intro x hx
    unfold zv_copyV
    split
    · exact zw_n (by omega)
    · rfl
  · unfold zv_copy
    rw [h 135 (by omega), h 136 (by omega), h 137 (by omega)]
/-- what the reference finds behind a shelf's call of the class -/
theorem zq_Wpos {J1 V' : Nat → Int → Int} {R1 : Nat → Nat → Option Nat} (hW : zq_W X L m T J R) (hos : zk_os T R R1 J J1 V') : ZL T R1 ∧ J1 132 = J 132 ∧ zz_ok (m : Int) (J1 132) ∧ zk_kd J1 ∧ ∀ x, 131 ≤ x → J1 x = J x := by
  obtain ⟨⟨hL, hT0, hX⟩, ⟨h1, h2, h3⟩, ⟨h4, h5, h6⟩, h7, h8, h9⟩ := hW
  obtain ⟨p1, p2, p3⟩ := hos
  have hJ : ∀ x, 131 ≤ x → J1 x = J x := fun x hx => p1 x (by omega)
  exact ⟨ZL_R hL (fun x k _ _ _ _ x5 => p2 x k (fun q => x5 ⟨q.1, Or.inr ⟨q.2.1, by omega⟩⟩)), hJ 132 (by omega), by rw [hJ 132 (by omega)]; exact h1, zq_kdf (zk_kd_s h4) (fun x x0 x1 => hJ x (by omega)), hJ⟩
theorem zq_s27 (hW : zq_W X L m T J R) (hm : m < 512) (a1 : zk_r32 a) (b1 : zk_r32 b) (c1 : zk_r32 c) : zq_St X L m T J R G 119 209 [.inl (mv_c a), .inl (mv_c b), .inl (mv_c c)] := by
  obtain ⟨⟨hL, -, -⟩, ⟨hA, hb, hB⟩, ⟨hs, hR, hraw⟩, -⟩ := id hW
  obtain ⟨J1, R1, h1, hos⟩ := c_119 (T := T) (J := J) (R := R) (G := G) (d := 40) (by omega) hL hA hR hs a1 b1 c1
  obtain ⟨hL1, e, hA1, hk1, hJ⟩ := zq_Wpos hW hos
  have h2 := r_209 (T := T) (J := J1) (R := R1) (G := G) (d := 40) (by omega) hL1 hA1 a1 b1 c1
  rw [e] at h2
  obtain ⟨k1, k2⟩ := zq_keepV (A := J 132) (k := a) (w := b) (e := c) hJ
  exact zq_B hW hm hos h1 h2 k2 (fun x x0 x1 => k1 x (by omega))
theorem zq_s28 (hW : zq_W X L m T J R) (hm : m < 512) (a1 : zk_r32 a) (b1 : zk_r32 b) (c1 : zk_r32 c) : zq_St X L m T J R G 120 210 [.inl (mv_c a), .inl (mv_c b), .inl (mv_c c)] := by
  obtain ⟨⟨hL, -, -⟩, ⟨hA, hb, hB⟩, ⟨hs, hR, hraw⟩, -⟩ := id hW
  obtain ⟨J1, R1, h1, hos⟩ := c_120 (T := T) (J := J) (R := R) (G := G) (d := 40) (by omega) hL hs a1 b1 c1
  obtain ⟨hL1, e, hA1, hk1, hJ⟩ := zq_Wpos hW hos
  have h2 := r_210 (T := T) (J := J1) (R := R1) (G := G) (d := 40) (by omega) hL1 a1 b1 c1
  obtain ⟨k1, k2⟩ := zq_rowV (k := a) (s := b) (n := c) hJ
  exact zq_B hW hm hos h1 h2 k2 (fun x x0 x1 => k1 x (by omega))
theorem zq_s29 (hW : zq_W X L m T J R) (hm : m < 512) (a1 : zk_r32 a) (b1 : zk_r32 b) (c1 : zk_r32 c) : zq_St X L m T J R G 121 211 [.inl (mv_c a), .inl (mv_c b), .inl (mv_c c)] := by
  obtain ⟨⟨hL, -, -⟩, ⟨hA, hb, hB⟩, ⟨hs, hR, hraw⟩, -⟩ := id hW
  obtain ⟨J1, h1, hos⟩ := c_121 (T := T) (J := J) (R := R) (G := G) (d := 40) (by omega) hL hs a1 b1 c1
  obtain ⟨hL1, e, hA1, hk1, hJ⟩ := zq_Wpos hW hos
  have h2 := r_211 (T := T) (J := J1) (R := R) (G := G) (d := 40) (by omega) hL1 hk1 a1 b1 c1
  obtain ⟨k1, k2, k3⟩ := zq_putV (k := a) (i := b) (v := c) hJ
  rw [k3] at h2
  exact zq_B hW hm hos h1 h2 k2 (fun x x0 x1 => k1 x (by omega))
theorem zq_s31 (hW : zq_W X L m T J R) (hm : m < 512) (a1 : zk_r32 a) (b1 : zk_r32 b) (c1 : zk_r32 c) (e1 : zk_r32 e) (f1 : zk_r32 f) : zq_St X L m T J R G 123 213 [.inl (mv_c a), .inl (mv_c b), .inl (mv_c c), .inl (mv_c e), .inl (mv_c f)] := by
  obtain ⟨⟨hL, -, -⟩, ⟨hA, hb, hB⟩, ⟨hs, hR, hraw⟩, -⟩ := id hW
  obtain ⟨J1, h1, hos⟩ := c_123 (T := T) (J := J) (R := R) (G := G) (d := 40) (by omega) hL hs a1 b1 c1 e1 f1
  obtain ⟨hL1, e', hA1, hk1, hJ⟩ := zq_Wpos hW hos
  have h2 := r_213 (T := T) (J := J1) (R := R) (G := G) (d := 40) (by omega) hL1 hk1 a1 b1 c1 e1 f1
  obtain ⟨k1, k2, k3⟩ := zq_copyV (k := a) (i := b) (e := c) (j := e) (n := f) hJ
  rw [k3] at h2
  exact zq_B hW hm hos h1 h2 k2 (fun x x0 x1 => k1 x (by omega))
theorem zq_s24 (hW : zq_W X L m T J R) (hm : m < 512) : zq_St X L m T J R G 116 205 [] := by
  obtain ⟨⟨hL, hT0, hX⟩, ⟨hA, hb, hB⟩, ⟨hs, hR, hraw⟩, -, h8, h9⟩ := id hW
  have hok := zq_ok1 hW hm
  obtain ⟨J1, R1, h1, p1, p2, p3, p4, p5, p6⟩ := c_116 (T := T) (J := J) (R := R) (G := G) (d := 40) (by omega) hL hA hR hraw
  have hJ : ∀ x, 115 ≤ x → J1 x = J x := fun x hx => p4 x (by omega)
  have hL1 : ZL T R1 := ZL_R hL (fun x k _ _ _ k4 _ => p5 x k k4)
  have h2 := r_205 (T := T) (J := J1) (R := R1) (G := G) (d := 40) (by omega) hL1
  rw [hJ 132 (by omega)] at h2
  obtain ⟨J2, hJ2⟩ : ∃ J2, J2 = zz_u (zz_w J1 133 (zz_c130 (J 132) (J1 133))) 131 9 1 := ⟨_, rfl⟩
  rw [← hJ2] at h2
  have f2 : ∀ x, x ≠ 131 → x ≠ 133 → J2 x = J1 x := fun x x1 x3 => by rw [hJ2, zu_A x1, zw_n x3]
  have e132 : J2 132 = J 132 := by rw [f2 132 (by omega) (by omega), hJ 132 (by omega)]
  have e133 : J2 133 = zz_c130 (J 132) (J1 133) := by rw [hJ2, zu_A (by omega), zw_s]
  have e9 : J2 131 9 = 1 := by rw [hJ2, zu_s]
  refine ⟨_, T, J1, R1, G, J2, h1, h2, ⟨hL1, hT0, by rw [p4 0 (by omega)]; exact hX⟩, ⟨hL1, hT0, by rw [f2 0 (by omega) (by omega), p4 0 (by omega)]; exact hX⟩, ⟨by rw [e132, Int.natCast_add]; exact hok, by rw [e132]; exact hb, by rw [f2 142 (by omega) (by omega), hJ 142 (by omega)]; exact hB⟩, ⟨?_, ?_, fun p hp => ?_⟩, Or.inr ⟨e9, by rw [f2 16 (by omega) (by omega)]; exact p3, by rw [e133, Int.natCast_add]; exact z130_ok hok, by rw [e133]; exact z130_hb hb, ?_⟩, by omega, by omega⟩
  · refine zk_sh_f hs (fun a h => h) (fun x x0 x1 => by rw [f2 x (by omega) (by omega), hJ x x0]) (fun a a0 _ => by rw [f2 a (by omega) (by omega), hJ a (by omega)]) (fun x x0 x1 => p5 x 0 (by omega)) (fun k _ _ => ?_)
    unfold zk_vs
    rw [f2 135 (by omega) (by omega), f2 136 (by omega) (by omega), f2 137 (by omega) (by omega), f2 138 (by omega) (by omega), f2 139 (by omega) (by omega), f2 140 (by omega) (by omega), hJ 135 (by omega), hJ 136 (by omega), hJ 137 (by omega), hJ 138 (by omega), hJ 139 (by omega), hJ 140 (by omega)]
    exact ⟨rfl, rfl, rfl, rfl, rfl, fun _ _ _ => rfl⟩
  · rw [e132]
    exact zc_rep_f p1 (fun x hx => f2 x (by omega) (by omega))
  · exact zk_raw_f (p6 p hp) (fun c _ _ => by rw [f2 (p + 6) (by rcases hp with rfl | rfl | rfl | rfl <;> omega) (by rcases hp with rfl | rfl | rfl | rfl <;> omega)]) (fun _ _ => rfl)
  · rw [e133]
    exact zc_rep_f (zq_rep130 hA p2) (fun x hx => f2 x (by omega) (by omega))
theorem c_117z {d : Nat} (hd : 1 ≤ d) (hL : ZL T R) (h0 : J 16 4 = 0) : mv_cax d 117 [.inr (.inr (some 16))] (zz_S T J R G) = some (some (.inl (mv_c (-3))), (zz_S T J R G)) := by
  refine zz_c (zz_call (by omega) t_117 rfl (fun n => e_117 _ _) ?_)
  refine zz_Ec (fun n => by rw [zz_gI (hL.at 0 (by rfl))]) ?_
  exact zz_Ei (fun _ => zz_Er rfl) (fun h => absurd (by rw [show J 16 ((4 : Nat) : Int) = 0 from h0]; exact zz_0.symm) h)
theorem zq_s25 (hW : zq_W X L m T J R) (hm : m < 512) : zq_St X L m T J R G 117 206 [] := by
  obtain ⟨⟨hL, hT0, hX⟩, ⟨hA, hb, hB⟩, ⟨hs, hR, hraw⟩, h7, h8, h9⟩ := id hW
  rcases h7 with ⟨i1, i2⟩ | ⟨i1, i2, i3, i4, i5⟩
  · have h1 := c_117z (T := T) (J := J) (R := R) (G := G) (d := 40) (by omega) hL i2
    have h2 := r_206 (T := T) (J := J) (R := R) (G := G) (d := 40) (by omega) hL (Or.inl i1)
    rw [if_pos i1, if_pos i1] at h2
    exact zq_A hW hm (zq_o0 hW) h1 h2 zq_pw0 rfl (zq_ok1 hW hm) hb
  · obtain ⟨J1, R1, h1, p1, p2, p4, p5, p6⟩ := c_117 (T := T) (J := J) (R := R) (G := G) (d := 40) (by omega) hL i3 i5 hraw i2
    have hJ : ∀ x, 115 ≤ x → J1 x = J x := fun x hx => p4 x (by omega)
    have hL1 : ZL T R1 := ZL_R hL (fun x k k1 _ _ _ _ => p5 x k k1)
    have h2 := r_206 (T := T) (J := J1) (R := R1) (G := G) (d := 40) (by omega) hL1 (Or.inr (by rw [hJ 131 (by omega)]; exact i1))
    rw [hJ 131 (by omega), if_neg (by omega), if_neg (by omega), hJ 133 (by omega), hJ 132 (by omega)] at h2
    have hok : zz_ok ((m + 1 : Nat) : Int) (J 133) := zq_okm i3 (by omega) (by omega)
    obtain ⟨J2, hJ2⟩ : ∃ J2, J2 = zz_w J1 132 (zz_c130 (J 133) (J 132)) := ⟨_, rfl⟩
    rw [← hJ2] at h2
    have f2 : ∀ x, x ≠ 132 → J2 x = J1 x := fun x x1 => by rw [hJ2, zw_n x1]
    have e132 : J2 132 = zz_c130 (J 133) (J 132) := by rw [hJ2, zw_s]
    refine ⟨_, T, J1, R1, G, J2, h1, h2, ⟨hL1, hT0, by rw [p4 0 (by omega)]; exact hX⟩, ⟨hL1, hT0, by rw [f2 0 (by omega), p4 0 (by omega)]; exact hX⟩, ⟨by rw [e132]; exact z130_ok hok, by rw [e132]; exact z130_hb i4, by rw [f2 142 (by omega), hJ 142 (by omega)]; exact hB⟩, ⟨?_, ?_, fun p hp => ?_⟩, Or.inr ⟨by rw [f2 131 (by omega), hJ 131 (by omega)]; exact i1, by rw [f2 16 (by omega), p4 16 (by omega)]; exact i2, by rw [f2 133 (by omega), hJ 133 (by omega)]; exact hok, by rw [f2 133 (by omega), hJ 133 (by omega)]; exact i4, ?_⟩, by omega, by omega⟩
    · refine zk_sh_f hs (fun a h => h) (fun x x0 x1 => by rw [f2 x (by omega), hJ x x0]) (fun a a0 _ => by rw [f2 a (by omega), hJ a (by omega)]) (fun x x0 x1 => p5 x 0 (by omega)) (fun k _ _ => ?_)
      unfold zk_vs
      rw [f2 135 (by omega), f2 136 (by omega), f2 137 (by omega), f2 138 (by omega), f2 139 (by omega), f2 140 (by omega), hJ 135 (by omega), hJ 136 (by omega), hJ 137 (by omega), hJ 138 (by omega), hJ 139 (by omega), hJ 140 (by omega)]
      exact ⟨rfl, rfl, rfl, rfl, rfl, fun _ _ _ => rfl⟩
    · rw [e132]
      exact zc_rep_f (zq_rep130 i3 p1) (fun x hx => f2 x (by omega))
    · exact zk_raw_f (p6 p hp) (fun c _ _ => by rw [f2 (p + 6) (by rcases hp with rfl | rfl | rfl | rfl <;> omega)]) (fun _ _ => rfl)
    · rw [f2 133 (by omega), hJ 133 (by omega)]
      exact zc_rep_f p2 (fun x hx => f2 x (by omega))
theorem zq_land_v {V V' : Nat → Int → Int} {A : Int → Int} {k : Int} (h : ∀ x, 131 ≤ x → V' x = V x) : zv_land V' A k = zv_land V A k := by
  unfold zv_land
  rw [zq_wr_w h, h 137 (by omega), h 138 (by omega)]
theorem zq_land_ok {Y : Int} {A : Int → Int} {V : Nat → Int → Int} {k : Int} (hA : zz_ok Y A) (hb : zt_hb A) (hk : zk_kd V) : zz_ok Y (zv_land V A k).2 ∧ zt_hb (zv_land V A k).2 := by
  unfold zv_land
  by_cases hw : zv_wr V k 0 = 0
  · rw [if_pos hw]
    obtain ⟨hkk, h2⟩ := zq_wr0 hw
    obtain ⟨-, hs, -⟩ := zq_kd2 hk hkk.1 hkk.2 h2
    by_cases hp : 0 ≤ zt_p1 (fun y => V 138 (100 * k + y)) (V 137 k) 101 0 0
    · rw [if_pos hp]
      have h0N : 0 < V 137 k := by
        have := (zt_sm_r (zt_p1_s (m := 100) ⟨Int.le_refl 0, hs.1⟩ hp).1).1
        omega
      obtain ⟨-, q2, q3, -⟩ := zt_p2_c (B := fun y => V 138 (100 * k + y)) (N := V 137 k) (Y := Y) 101 0 0 A (by omega) h0N (by omega) (by omega) hA hb hp
      split
      · exact ⟨q2, q3⟩
      · exact ⟨hA, hb⟩
    · rw [if_neg hp]
      exact ⟨hA, hb⟩
  · rw [if_neg hw]
    exact ⟨hA, hb⟩
theorem zq_s0 (hW : zq_W X L m T J R) (hm : m < 512) (a1 : zk_r32 a) : zq_St X L m T J R G 92 152 [.inl (mv_c a)] := by
  obtain ⟨⟨hL, hT0, hX⟩, ⟨hA, hb, hB⟩, ⟨hs, hR, hraw⟩, h7, h8, h9⟩ := id hW
  have hkd := zk_kd_s hs
  obtain ⟨T1, R1, J1, h1, p1, p2, p3, hL1, gz, hlen⟩ := c_92 (T := T) (J := J) (R := R) (G := G) (d := 40) (by omega) hL hA hb hR (hraw 17 (by omega)) (hraw 43 (by omega)) hs a1.1 a1.2
  have hl := (ZL_n hL).1
  have hJ : ∀ x, x < T.length → (x < 17 ∨ 28 < x) → (x < 43 ∨ 54 < x) → x ≠ 70 → x ≠ 72 → J1 x = J x := gz.2.1
  have hJ1 : ∀ x, 131 ≤ x → x ≤ 155 → J1 x = J x := fun x x0 x1 => hJ x (by omega) (by omega) (by omega) (by omega) (by omega)
  have hv : zv_land J1 (J 132) a = zv_land J (J 132) a := by
    unfold zv_land zv_wr
    rw [hJ1 135 (by omega) (by omega), hJ1 136 (by omega) (by omega), hJ1 137 (by omega) (by omega), hJ1 138 (by omega) (by omega)]
  obtain ⟨J2, h2, rz, e2⟩ := r_152 (T := T1) (J := J1) (R := R1) (G := G) (d := 40) (Y := (m : Int)) (by omega) hL1 (by rw [hJ1 132 (by omega) (by omega)]; exact hA) (by rw [hJ1 132 (by omega) (by omega)]; exact hb) (zq_kdf hkd (fun x x0 x1 => hJ1 x (by omega) (by omega))) a1.1 a1.2
  rw [hJ1 132 (by omega) (by omega), hv] at h2 e2
  obtain ⟨k1, k2⟩ := zq_land_ok (k := a) hA hb hkd
  have hT : ∀ (a : Nat) (t : mv_T), T[a]? = some t → T1[a]? = some t := fun a t h => zt_gz_T gz h
  have f2 : ∀ x, x ≠ 131 → x ≠ 132 → x ≠ 134 → x ≠ 141 → J2 x = J1 x := rz.1
  obtain ⟨n, hn⟩ := gz.1
  have hsz : n ≤ 6 := by
    have : T1.length = T.length + n := by rw [hn, List.length_append, List.length_replicate]
    omega
  refine ⟨_, T1, J1, R1, G, J2, h1, h2, ⟨hL1, hT _ _ hT0, by rw [hJ 0 (by omega) (by omega) (by omega) (by omega) (by omega)]; exact hX⟩, ⟨hL1, hT _ _ hT0, by rw [f2 0 (by omega) (by omega) (by omega) (by omega), hJ 0 (by omega) (by omega) (by omega) (by omega) (by omega)]; exact hX⟩, ⟨by rw [e2]; exact zq_okm k1 (by omega) (by omega), by rw [e2]; exact k2, by rw [f2 142 (by omega) (by omega) (by omega) (by omega), hJ1 142 (by omega) (by omega)]; exact hB⟩, ⟨?_, ?_, fun p hp => ?_⟩, ?_, by omega, ?_⟩
  · refine zk_sh_f (zt_gz_s gz hl hs) (fun a h => h) (fun x x0 x1 => f2 x (by omega) (by omega) (by omega) (by omega)) (fun a a0 _ => f2 a (by omega) (by omega) (by omega) (by omega)) (fun x x0 x1 => rfl) (fun k _ _ => ?_)
    unfold zk_vs
    rw [f2 135 (by omega) (by omega) (by omega) (by omega), f2 136 (by omega) (by omega) (by omega) (by omega), f2 137 (by omega) (by omega) (by omega) (by omega), f2 138 (by omega) (by omega) (by omega) (by omega), f2 139 (by omega) (by omega) (by omega) (by omega), f2 140 (by omega) (by omega) (by omega) (by omega), hJ1 135 (by omega) (by omega), hJ1 136 (by omega) (by omega), hJ1 137 (by omega) (by omega), hJ1 138 (by omega) (by omega), hJ1 139 (by omega) (by omega), hJ1 140 (by omega) (by omega)]
    exact ⟨rfl, rfl, rfl, rfl, rfl, fun _ _ _ => rfl⟩
  · rw [e2]
    exact zc_rep_f p1 (fun x hx => f2 x (by omega) (by omega) (by omega) (by omega))
  · have key : zk_raw T1 R1 J1 p := by
      rcases hp with rfl | rfl | rfl | rfl
      · exact p2
      · exact zk_raw_o (hraw 30 (by omega)) (hJ 36 (by omega) (by omega) (by omega) (by omega) (by omega)) (fun k => gz.2.2 37 k (by omega) (by omega) (by omega) (by omega)) (fun a h => hT a _ h)
      · exact p3
      · exact zk_raw_o (hraw 56 (by omega)) (hJ 62 (by omega) (by omega) (by omega) (by omega) (by omega)) (fun k => gz.2.2 63 k (by omega) (by omega) (by omega) (by omega)) (fun a h => hT a _ h)
    exact zk_raw_f key (fun c _ _ => by rw [f2 (p + 6) (by rcases hp with rfl | rfl | rfl | rfl <;> omega) (by rcases hp with rfl | rfl | rfl | rfl <;> omega) (by rcases hp with rfl | rfl | rfl | rfl <;> omega) (by rcases hp with rfl | rfl | rfl | rfl <;> omega)]) (fun _ _ => rfl)
  · rw [rz.2 9 (by omega) (by omega) (by omega) (by omega), hJ1 131 (by omega) (by omega), f2 16 (by omega) (by omega) (by omega) (by omega), hJ 16 (by omega) (by omega) (by omega) (by omega) (by omega), f2 133 (by omega) (by omega) (by omega) (by omega), hJ1 133 (by omega) (by omega)]
    rcases h7 with h7 | ⟨i1, i2, i3, i4, i5⟩
    · exact Or.inl h7
    · refine Or.inr ⟨i1, i2, zq_okm i3 (by omega) (by omega), i4, zc_rep_f (zc_rep_g (p := 0) i5 (fun a h => hT a _ h) (fun x hx => ?_) (fun k => gz.2.2 63 k (by omega) (by omega) (by omega) (by omega))) (fun x hx => f2 x (by omega) (by omega) (by omega) (by omega))⟩
      rcases hx with hx | ⟨hx, hx'⟩
      · exact hJ x (by omega) (by omega) (by omega) (by omega) (by omega)
      · exact hJ x (zt_lt hx') (by omega) (by omega) (by omega) (by omega)
  · rw [hn, zq_szA]
    have e : mw_sz (List.replicate n (.inl 2)) = n * mw_szT (.inl 2) := by
      unfold mw_sz
      rw [List.map_replicate, List.sum_replicate_nat]
    rw [e, show mw_szT (.inl 2) = 3 by decide]
    omega
theorem zq_s33 (hW : zq_W X L m T J R) (hm : m < 512) (a1 : zk_r32 a) : zq_St X L m T J R G 125 216 [.inl (mv_c a)] := by
  obtain ⟨⟨hL, hT0, hX⟩, ⟨hA, hb, hB⟩, ⟨hs, hR, hraw⟩, -⟩ := id hW
  obtain ⟨T1, h1, hT⟩ := c_125 (T := T) (J := J) (R := R) (G := G) (d := 40) (by omega) hL hs a1
  have hW1 : zq_W X L (m + 1) T1 J R := by
    rcases hT with rfl | rfl
    · exact zq_Wmo hW (by omega) (by omega)
    · exact zq_Wapp hW (by omega) (by omega)
  obtain ⟨⟨hL1, hT1, hX1⟩, ⟨hA1, hb1, hB1⟩, ⟨hs1, -, -⟩, -⟩ := id hW1
  have h2 := r_216 (T := T1) (J := J) (R := R) (G := G) (d := 40) (by omega) hL1 (zk_kd_s hs1) a1.1 a1.2
  exact ⟨_, T1, J, R, G, J, h1, h2, ⟨hL1, hT1, hX1⟩, hW1⟩
/-- an element, and what was thrown -/
theorem zq_s30 (hW : zq_W X L m T J R) (hm : m < 512) (a1 : zk_r32 a) (b1 : zk_r32 b) : ∃ v l T1 G1 J2, mv_cax 40 218 [.inr (.inr (some 16)), .inl (mv_c a), .inl (mv_c b), .inr (.inr (some 155))] (zz_S T J R G) = some (some (.inl (mv_c v)), zz_S T1 J R G1) ∧ mv_cax 40 212 [.inr (.inr (some 131)), .inl (mv_c a), .inl (mv_c b)] (zz_S T1 J R G1) = some (some (.inr (.inl l)), zz_S T1 J2 R G1) ∧ mv_cax 40 133 [.inr (.inr (some 131))] (zz_S T1 J2 R G1) = some (some (.inl (mv_c v)), zz_S T1 J2 R G1) ∧ (0 ≤ v ∧ v ≤ 2) ∧ (v = 0 → G1 155 0 = l) ∧ (ZL T1 R ∧ T1[0]? = some (.inr (0, L)) ∧ J 0 = X) ∧ zq_W X L (m + 1) T1 J2 R := by
  obtain ⟨⟨hL, hT0, hX⟩, ⟨hA, hb, hB⟩, ⟨hs, hR, hraw⟩, -⟩ := id hW
  obtain ⟨T1, G1, h1, hT, hG⟩ := c_218 (T := T) (J := J) (R := R) (G := G) (d := 40) (by omega) hL hs a1 b1
  have hW1 : zq_W X L (m + 1) T1 J R := by
    rcases hT with rfl | rfl
    · exact zq_Wmo hW (by omega) (by omega)
    · exact zq_Wapp hW (by omega) (by omega)
  obtain ⟨⟨hL1, hT1, hX1⟩, ⟨hA1, hb1, hB1⟩, ⟨hs1, -, -⟩, -⟩ := id hW1
  have h2 := r_212 (T := T1) (J := J) (R := R) (G := G1) (d := 40) (by omega) hL1 (zk_kd_s hs1) a1 b1
  have h3 := r_133 (T := T1) (J := zz_u J 131 10 (zv_el J a b)) (R := R) (G := G1) (d := 40) (by omega) hL1
  rw [show zz_u J 131 10 (zv_el J a b) 131 10 = zv_el J a b from zu_s] at h3
  refine ⟨_, _, T1, G1, _, h1, h2, h3, ?_, fun h => ?_, ⟨hL1, hT1, hX1⟩, zq_Wpw hW1 (by omega) ⟨fun x x1 _ _ => zu_A x1, zu_k (by omega)⟩ (zu_A (by omega))⟩
  · unfold zv_el
    split
    · split <;> omega
    · omega
  · rw [if_pos h]
    exact hG h
end ZOPB
