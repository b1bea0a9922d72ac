/-! PURE LAYER, 97: texts: the reference's land, whole -/
def zt_rz (J J' : Nat → Int → Int) : Prop := (∀ x, x ≠ 131 → x ≠ 132 → x ≠ 134 → x ≠ 141 → J' x = J x) ∧ ∀ y, y ≠ 11 → y ≠ 12 → y ≠ 13 → y ≠ 14 → J' 131 y = J 131 y
section ZRL3
variable {T : List mv_T} {J : Nat → Int → Int} {R : Nat → Nat → Option Nat} {G : Nat → Nat → Int64} {d : Nat} {Y : Int} {k : Int}
theorem r_152 (hd : 6 ≤ d) (hL : ZL T R) (hA : zz_ok Y (J 132)) (hb : zt_hb (J 132)) (hk : zk_kd J) (k0 : -2147483648 ≤ k) (k1 : k ≤ 2147483647) : ∃ J', mv_cax d 152 [.inr (.inr (some 131)), .inl (mv_c k)] (zz_S T J R G) = some (some (.inl (mv_c (zv_land J (J 132) k).1)), zz_S T J' R G) ∧ zt_rz J J' ∧ J' 132 = (zv_land J (J 132) k).2 := by
  have r151 := r_151 (T := T) (J := J) (R := R) (G := G) (d := d - 1) (k := k) (s := 0) (by omega) hL hk k0 k1 (by omega) (by omega)
  by_cases hw : zv_wr J k 0 = 0
  · have hkk : 0 ≤ k ∧ k < 8 := by
      unfold zv_wr at hw
      by_cases q : 0 ≤ k ∧ k < 8
      · exact q
      · rw [if_neg q] at hw
        omega
    have hV : J 135 k = 2 := by
      unfold zv_wr at hw
      rw [if_pos hkk] at hw
      by_cases w1 : J 135 k = 0
      · rw [if_pos w1] at hw
        omega
      · rw [if_neg w1] at hw
        by_cases w2 : J 135 k = 2 ∧ ((0 : Int) < 0 ∨ J 136 k = 0)
        · exact w2.1
        · rw [if_neg w2] at hw
          omega
    have hkd : 0 ≤ J 137 k ∧ J 137 k ≤ 100 ∧ ∀ i, 0 ≤ i → i < 100 → zk_r32 (J 138 (100 * k + i)) := by
      rcases hk k hkk.1 hkk.2 with g | g | g
      · omega
      · omega
      · exact ⟨g.2.2.2.1, g.2.2.2.2.1, g.2.2.2.2.2⟩
    rw [hw] at r151
    obtain ⟨B, hB⟩ : ∃ B : Int → Int, B = fun y => J 138 (100 * k + y) := ⟨_, rfl⟩
    obtain ⟨N, hN⟩ : ∃ N, N = J 137 k := ⟨_, rfl⟩
    have hvl : zv_land J (J 132) k = if 0 ≤ zt_p1 B N 101 0 0 then (if 0 < (zt_p2 B N 101 0 (J 132) 0).1 then zt_p2 B N 101 0 (J 132) 0 else ((zt_p2 B N 101 0 (J 132) 0).1, J 132)) else (zt_p1 B N 101 0 0, J 132) := by
      unfold zv_land
      rw [if_pos hw, ← hB, ← hN]
    rw [hvl]
    rw [← hN] at hkd
    obtain ⟨J1, hJ1⟩ : ∃ J1, J1 = zz_u (zz_u (zz_u J 131 12 (100 * k)) 131 13 N) 131 11 0 := ⟨_, rfl⟩
    have f1 : ∀ x, x ≠ 131 → J1 x = J x := fun x hx => by rw [hJ1, zu_A hx, zu_A hx, zu_A hx]
    have y1 : ∀ y, y ≠ 11 → y ≠ 12 → y ≠ 13 → J1 131 y = J 131 y := fun y y1 y2 y3 => by rw [hJ1, zu_k y1, zu_k y3, zu_k y2]
    have ht : zt_rx J1 k B N := ⟨hkk, by rw [hJ1, zu_k (by omega), zu_k (by omega), zu_s], by rw [hJ1, zu_k (by omega), zu_s], ⟨hkd.1, hkd.2.1⟩, fun y a0 a1 => by
      rw [f1 138 (by omega), hB]
      exact ⟨rfl, hkd.2.2 y a0 (by omega)⟩⟩
    have i11 : J1 131 11 = 0 := by rw [hJ1, zu_s]
    suffices h : ∃ r, mv_cax d 152 [.inr (.inr (some 131)), .inl (mv_c k)] (zz_S T J R G) = some r ∧ ∃ J', r = (some (.inl (mv_c (if 0 ≤ zt_p1 B N 101 0 0 then (if 0 < (zt_p2 B N 101 0 (J 132) 0).1 then zt_p2 B N 101 0 (J 132) 0 else ((zt_p2 B N 101 0 (J 132) 0).1, J 132)) else (zt_p1 B N 101 0 0, J 132)).1)), zz_S T J' R G) ∧ zt_rz J J' ∧ J' 132 = (if 0 ≤ zt_p1 B N 101 0 0 then (if 0 < (zt_p2 B N 101 0 (J 132) 0).1 then zt_p2 B N 101 0 (J 132) 0 else ((zt_p2 B N 101 0 (J 132) 0).1, J 132)) else (zt_p1 B N 101 0 0, J 132)).2 by
      obtain ⟨r, h1, J', rfl, h2⟩ := h
      exact ⟨J', h1, h2⟩
    refine zz_call (by omega) t_152 rfl (fun n => e_152 _ _ _) ?_
    simp (maxSteps := 5000000) (disch := first | assumption | omega) only [zi_131, r151, zo_rI, zz_0, zz_mul, zp_131_12, zr_131_5, zo_rf, za_137, zu_A, ← hN, zp_131_13, zp_131_11, if_true]
    try (refine zz_Ei (fun _ => ?_) (fun h => absurd trivial h))
    rw [← hJ1]
    refine r_152a (k := k) (B := B) (N := N) (by omega) hL 101 J1 0 0 ht i11 (by omega) (by omega) (by omega) (by omega) (by omega) (fun J2 rr hp => ?_) (fun J2 rr hp => ?_)
    · rw [if_neg (by omega)]
      exact ⟨J2, rfl, ⟨fun x x1 x2 x3 x4 => by rw [rr.1 x x1 x4, f1 x x1], fun y a1 a2 a3 a4 => by rw [rr.2 y a1 a4, y1 y a1 a2 a3]⟩, by rw [rr.1 132 (by omega) (by omega), f1 132 (by omega)]⟩
    · rw [if_pos hp]
      have h0N : 0 < N := by
        have := (zt_sm_r (zt_p1_s (m := 100) ⟨Int.le_refl 0, hkd.1⟩ hp).1).1
        omega
      have j132 : J2 132 = J 132 := by rw [rr.1 132 (by omega) (by omega), f1 132 (by omega)]
      obtain ⟨pc1, pc2, pc3, pc4⟩ := zt_p2_c (B := B) (N := N) (Y := Y) 101 0 0 (J 132) (by omega) h0N (by omega) (by omega) hA hb hp
      have pb := (zt_p1_b (B := B) (N := N) 101 0 0 (by omega) (by omega) (by omega) (by omega)).1 hp
      have z1 := z130_p2 (Y := Y) (B := B) (N := N) (O := J2 134) 101 0 0 (J 132) (by omega) h0N (by omega) (by omega) hA hb hp
      have z2 := z130_p2 (Y := Y) (B := B) (N := N) (O := J 132) 101 0 0 (J 132) (by omega) h0N (by omega) (by omega) hA hb hp
      rw [z130_s] at z2
      have z3 : zz_c130 (zt_p2 B N 101 0 (J 132) 0).2 (J 132) = (zt_p2 B N 101 0 (J 132) 0).2 := (congrArg Prod.snd z2).symm
      refine r_152c hL ?_
      obtain ⟨J3, hJ3⟩ : ∃ J3, J3 = zz_u (zz_w J2 134 (zz_c130 (J2 132) (J2 134))) 131 11 0 := ⟨_, rfl⟩
      have f3 : ∀ x, x ≠ 131 → x ≠ 134 → J3 x = J2 x := fun x x1 x2 => by rw [hJ3, zu_A x1, zw_n x2]
      have y3 : ∀ y, y ≠ 11 → J3 131 y = J2 131 y := fun y a1 => by rw [hJ3, zu_k a1, zw_n (by omega)]
      have a134 : J3 134 = zz_c130 (J 132) (J2 134) := by rw [hJ3, zu_A (by omega), zw_s, j132]
      have i3 : J3 131 11 = 0 := by rw [hJ3, zu_s]
      rw [← hJ3]
      have ht3 : zt_rx J3 k B N := by
        obtain ⟨u1, u2, u3, u4, u5⟩ := ht
        exact ⟨u1, by rw [y3 12 (by omega), rr.2 12 (by omega) (by omega)]; exact u2, by rw [y3 13 (by omega), rr.2 13 (by omega) (by omega)]; exact u3, u4, fun y a0 a1 => by rw [f3 138 (by omega) (by omega), rr.1 138 (by omega) (by omega)]; exact u5 y a0 a1⟩
      refine r_152b (Y := Y) (k := k) (B := B) (N := N) (by omega) hL 101 J3 0 0 ht3 i3 (by omega) (by omega) (by omega) (by rw [a134]; exact z130_ok hA) (by rw [a134]; exact z130_hb hb) (fun _ => ⟨by omega, hp⟩) ?_ ?_
      · rw [a134, z1]
        intro J4 rq hv
        have hv' : (zt_p2 B N 101 0 (J 132) 0).1 < 0 := hv
        rw [if_neg (by omega)]
        exact ⟨J4, rfl, ⟨fun x x1 x2 x3 x4 => by rw [rq.1 x x1 x3 x4, f3 x x1 x3, rr.1 x x1 x4, f1 x x1], fun y a1 a2 a3 a4 => by rw [rq.2 y a1 a4, y3 y a1, rr.2 y a1 a4, y1 y a1 a2 a3]⟩, by rw [rq.1 132 (by omega) (by omega) (by omega), f3 132 (by omega) (by omega), j132]⟩
      · rw [a134, z1]
        intro J4 rq hv hJ4
        have hv' : 0 ≤ (zt_p2 B N 101 0 (J 132) 0).1 := hv
        have hJ4' : J4 134 = zz_c130 (zt_p2 B N 101 0 (J 132) 0).2 (J2 134) := hJ4
        have q132 : J4 132 = J 132 := by rw [rq.1 132 (by omega) (by omega) (by omega), f3 132 (by omega) (by omega), j132]
        have ev : (zt_p2 B N 101 0 (J 132) 0).1 = zt_p1 B N 101 0 0 := by omega
        rw [if_pos (by omega)]
        refine r_152d hL ⟨zz_w J4 132 (zz_c130 (J4 134) (J4 132)), by rw [ev], ⟨fun x x1 x2 x3 x4 => by rw [zw_n x2, rq.1 x x1 x3 x4, f3 x x1 x3, rr.1 x x1 x4, f1 x x1], fun y a1 a2 a3 a4 => by rw [zw_n (by omega), rq.2 y a1 a4, y3 y a1, rr.2 y a1 a4, y1 y a1 a2 a3]⟩, by rw [zw_s, hJ4', q132, z130_t, z3]⟩
  · have hvl : zv_land J (J 132) k = (zv_wr J k 0, J 132) := if_neg hw
    rw [hvl]
    have hwr : -12 ≤ zv_wr J k 0 ∧ zv_wr J k 0 ≤ 0 := by
      unfold zv_wr
      split
      · split
        · omega
        · split <;> omega
      · omega
    obtain ⟨w, hw'⟩ : ∃ w, w = zv_wr J k 0 := ⟨_, rfl⟩
    rw [← hw'] at r151 hwr hw ⊢
    refine ⟨J, ?_, ⟨fun _ _ _ _ _ => rfl, fun _ _ _ _ _ => rfl⟩, rfl⟩
    refine zz_c (zz_call (by omega) t_152 rfl (fun n => e_152 _ _ _) ?_)
    simp (maxSteps := 5000000) (disch := first | assumption | omega) only [zi_131, r151, zo_rI, zz_0, zz_eq]
    refine zz_Ei (fun h => absurd h hw) (fun _ => ?_)
    exact zz_Er rfl
end ZRL3
