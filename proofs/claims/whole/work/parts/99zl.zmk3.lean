/-! PURE LAYER, 117: the reference's constructor -/
def zq_mt : List mv_T := [.inr (0, 130), .inr (0, 130), .inr (0, 130), .inr (0, 8), .inr (0, 8), .inr (0, 8), .inr (0, 800), .inr (0, 8), .inr (0, 8), .inr (0, 4), .inr (0, 8), .inr (0, 16), .inr (0, 256), .inr (0, 32), .inr (0, 32), .inr (0, 130), .inr (1, 256), .inr (0, 130), .inr (0, 16), .inr (0, 16), .inr (0, 16), .inr (0, 130), .inr (0, 36)]
def zq_ml : List (Nat × Nat × Nat) := [(131, 35, 154), (131, 34, 153), (131, 33, 152), (131, 32, 151), (131, 31, 150), (131, 28, 149), (131, 27, 148), (131, 24, 147), (131, 22, 146), (131, 21, 145), (131, 20, 144), (131, 19, 143), (131, 18, 142), (131, 15, 141), (131, 8, 140), (131, 7, 139), (131, 6, 138), (131, 5, 137), (131, 4, 136), (131, 3, 135), (131, 2, 134), (131, 1, 133), (131, 0, 132)]
def zq_O0 : Int → Int := zz_f (zz_f (zz_f (fun _ => 0) 0 3) 1 3) 2 60
section ZMK3
variable {T : List mv_T} {J : Nat → Int → Int} {G : Nat → Nat → Int64} {R : Nat → Nat → Option Nat} {d : Nat} {l : List (Nat × Nat × Nat)} {Q : Option mv_V × mv_S → Prop}
theorem k_132l (g1 : T[131]? = some (.inl 7)) (h132 : T[132]? = some (.inr (0, 130))) (hr : R 131 0 = some 132) (fin : Q (none, zz_S T (zz_w J 132 zq_A0) R G)) : zz_E (fun m => mv_run (mv_cax d) mm_132 m 254 [(0, .inr (.inr (some 131))), (1, .inl (mv_c 0))] [] (zz_S T (zz_w J 132 zq_O0) R G)) Q := by
  refine zz_loop (α := Int → Int) (run := fun c O m => mv_run (mv_cax d) mm_132 m 254 [(0, .inr (.inr (some 131))), (1, .inl (mv_c c))] [] (zz_S T (zz_w J 132 O) R G)) 16 (fun c O => 0 ≤ c ∧ ∀ y, O y = if 8 ≤ y ∧ y < 8 + c then 2 else if 24 ≤ y ∧ y < 24 + c then -4 else zq_O0 y) ?_ ?_ 16 0 zq_O0 (by omega) ⟨by omega, fun y => by rw [if_neg (by omega), if_neg (by omega)]⟩
  · rintro c O ⟨c0, hO⟩ hlt kk
    refine zz_Es (fun n => e_132_254 _ _ _) ?_
    simp (maxSteps := 5000000) (disch := first | assumption | omega) only [zz_gR g1 hr, zo_rf, zz_sI (show 16 ≤ 132 by omega) h132, zz_wu, zz_le, zz_add]
    refine zz_Ei (fun h => absurd h (by omega)) (fun _ => ?_)
    refine kk _ ⟨by omega, fun y => ?_⟩
    by_cases q : y = 24 + c
    · rw [q, zf_s, if_neg (show ¬ (8 ≤ 24 + c ∧ 24 + c < 8 + (c + 1)) by omega), if_pos (by omega)]
    · rw [zf_n q]
      by_cases q2 : y = 8 + c
      · rw [q2, zf_s, if_pos (by omega)]
      · rw [zf_n q2, hO y]
        by_cases q3 : 8 ≤ y ∧ y < 8 + c
        · rw [if_pos q3, if_pos (by omega)]
        · rw [if_neg q3, if_neg (show ¬ (8 ≤ y ∧ y < 8 + (c + 1)) by omega)]
          by_cases q4 : 24 ≤ y ∧ y < 24 + c
          · rw [if_pos q4, if_pos (by omega)]
          · rw [if_neg q4, if_neg (by omega)]
  · rintro O ⟨_, hO⟩
    have eO : O = zq_A0 := by
      funext y
      rw [hO y]
      unfold zq_A0 zq_O0
      by_cases q1 : 8 ≤ y ∧ y < 8 + 16
      · rw [if_pos q1, if_neg (by omega), if_neg (by omega), if_pos (by omega)]
      · rw [if_neg q1]
        by_cases q2 : 24 ≤ y ∧ y < 24 + 16
        · rw [if_pos q2, if_neg (show ¬ (y = 0 ∨ y = 1) by omega), if_neg (show ¬ y = 2 by omega), if_neg (show ¬ (8 ≤ y ∧ y < 24) by omega), if_pos (by omega)]
        · rw [if_neg q2]
          by_cases a2 : y = 2
          · rw [a2, zf_s]
            rfl
          · rw [zf_n a2]
            by_cases a1 : y = 1
            · rw [a1, zf_s]
              rfl
            · rw [zf_n a1]
              by_cases a0 : y = 0
              · rw [a0, zf_s]
                rfl
              · rw [zf_n a0, if_neg (by omega), if_neg a2, if_neg (by omega), if_neg (by omega)]
    subst eO
    refine zz_Es (fun n => e_132_254 _ _ _) ?_
    simp (maxSteps := 5000000) (disch := first | assumption | omega) only [zz_le]
    exact zz_Ei (fun _ => zz_Er fin) (fun h => absurd (Int.le_refl _) h)
theorem k_132 (hd : 1 ≤ d) (g : zq_g 131 7 132 T l) : ∃ J' G', mv_cax d 132 [.inr (.inr (some 131))] (zz_S T J (zq_rf l) G) = some (none, zz_S (T ++ zq_mt) J' (zq_rf (zq_ml ++ l)) G') ∧ (∀ x, x < 132 → J' x = J x) ∧ J' 132 = zq_A0 ∧ zz_bc (J' 142) ∧ ∀ k, J' 135 k = 0 := by
  suffices h : ∃ s, mv_cax d 132 [.inr (.inr (some 131))] (zz_S T J (zq_rf l) G) = some s ∧ ∃ J' G', s = (none, zz_S (T ++ zq_mt) J' (zq_rf (zq_ml ++ l)) G') ∧ (∀ x, x < 132 → J' x = J x) ∧ J' 132 = zq_A0 ∧ zz_bc (J' 142) ∧ ∀ k, J' 135 k = 0 by
    obtain ⟨s, g1, J', G', rfl, g2⟩ := h
    exact ⟨J', G', g1, g2⟩
  obtain ⟨Q, hQ⟩ : ∃ Q : Option mv_V × mv_S → Prop, Q = fun s => ∃ J' G', s = (none, zz_S (T ++ zq_mt) J' (zq_rf (zq_ml ++ l)) G') ∧ (∀ x, x < 132 → J' x = J x) ∧ J' 132 = zq_A0 ∧ zz_bc (J' 142) ∧ ∀ k, J' 135 k = 0 := ⟨_, rfl⟩
  refine zz_call (by omega) t_132 rfl (fun n => e_132 _ _) ?_
  rw [← hQ]
  have hT0 : T[131]? = some (.inl 7) := g.1
  refine zq_Emq (a := 132) g (by omega) (by omega) (by omega) (fun T1 l1 e1 m1 g G1 => ?_)
  have g : zq_g 131 7 133 _ _ := g
  have h132 : T1[132]? = some (.inr (0, 130)) := by rw [e1]; exact zq_ap (l := [.inr (0, 130)]) 0 (show T.length = 132 by have := g.2.1; rw [e1, List.length_append] at this; simp at this; omega)
  refine zq_Emq (a := 133) g (by omega) (by omega) (by omega) (fun T2 l2 e2 m2 g G2 => ?_)
  have g : zq_g 131 7 134 _ _ := g
  have h132 : T2[132]? = some (.inr (0, 130)) := by rw [e2]; exact zk_app h132
  refine zq_Emq (a := 134) g (by omega) (by omega) (by omega) (fun T3 l3 e3 m3 g G3 => ?_)
  have g : zq_g 131 7 135 _ _ := g
  have h132 : T3[132]? = some (.inr (0, 130)) := by rw [e3]; exact zk_app h132
  refine zq_Emq (a := 135) g (by omega) (by omega) (by omega) (fun T4 l4 e4 m4 g G4 => ?_)
  have g : zq_g 131 7 136 _ _ := g
  have h132 : T4[132]? = some (.inr (0, 130)) := by rw [e4]; exact zk_app h132
  refine zq_Emq (a := 136) g (by omega) (by omega) (by omega) (fun T5 l5 e5 m5 g G5 => ?_)
  have g : zq_g 131 7 137 _ _ := g
  have h132 : T5[132]? = some (.inr (0, 130)) := by rw [e5]; exact zk_app h132
  refine zq_Emq (a := 137) g (by omega) (by omega) (by omega) (fun T6 l6 e6 m6 g G6 => ?_)
  have g : zq_g 131 7 138 _ _ := g
  have h132 : T6[132]? = some (.inr (0, 130)) := by rw [e6]; exact zk_app h132
  refine zq_Emq (a := 138) g (by omega) (by omega) (by omega) (fun T7 l7 e7 m7 g G7 => ?_)
  have g : zq_g 131 7 139 _ _ := g
  have h132 : T7[132]? = some (.inr (0, 130)) := by rw [e7]; exact zk_app h132
  refine zq_Emq (a := 139) g (by omega) (by omega) (by omega) (fun T8 l8 e8 m8 g G8 => ?_)
  have g : zq_g 131 7 140 _ _ := g
  have h132 : T8[132]? = some (.inr (0, 130)) := by rw [e8]; exact zk_app h132
  refine zq_Emq (a := 140) g (by omega) (by omega) (by omega) (fun T9 l9 e9 m9 g G9 => ?_)
  have g : zq_g 131 7 141 _ _ := g
  have h132 : T9[132]? = some (.inr (0, 130)) := by rw [e9]; exact zk_app h132
  refine zq_Emq (a := 141) g (by omega) (by omega) (by omega) (fun T10 l10 e10 m10 g G10 => ?_)
  have g : zq_g 131 7 142 _ _ := g
  have h132 : T10[132]? = some (.inr (0, 130)) := by rw [e10]; exact zk_app h132
  refine zq_Ena (a := 142) g.2.1 g.2.2 (by omega) (by omega) (fun G11 => ?_)
  have h142 := zq_ap (l := [.inr (0, 8)]) 0 g.2.1
  have h142 : (T10 ++ [.inr (0, (8 : Int).toNat)])[142]? = some (.inr (0, 8)) := h142
  have g : zq_g 131 7 143 (T10 ++ [.inr (0, (8 : Int).toNat)]) ((131, 18, 142) :: l10) := by
    refine ⟨zk_app g.1, by rw [List.length_append, g.2.1]; rfl, fun q hq => ?_⟩
    rcases List.mem_cons.mp hq with rfl | hq
    · show 131 < 143
      omega
    · have := g.2.2 q hq
      omega
  have h132 : (T10 ++ [.inr (0, (8 : Int).toNat)])[132]? = some (.inr (0, 130)) := zk_app h132
  obtain ⟨T11, e11⟩ : ∃ T11, T11 = T10 ++ [.inr (0, (8 : Int).toNat)] := ⟨_, rfl⟩
  obtain ⟨l11, m11⟩ : ∃ l11, l11 = (131, 18, 142) :: l10 := ⟨_, rfl⟩
  rw [← e11] at g h132 h142 ⊢
  rw [← m11] at g
  have eR : mv_up (zq_rf l10) 131 18 (some 142) = zq_rf l11 := by rw [m11, zq_rf_up]
  simp (maxSteps := 5000000) (disch := first | assumption | omega) only [zo_rf, zz_sI (show 16 ≤ 142 by omega) h142, zz_pR g.1, eR]
  obtain ⟨JB, hJB⟩ : ∃ JB, JB = (zz_u (zz_u (zz_u (zz_u (zz_u (zz_u (zz_u (zz_u (zz_w (zz_w (zz_w (zz_w (zz_w (zz_w (zz_w (zz_w (zz_w (zz_w (zz_w J 132 (fun _ => 0)) 133 (fun _ => 0)) 134 (fun _ => 0)) 135 (fun _ => 0)) 136 (fun _ => 0)) 137 (fun _ => 0)) 138 (fun _ => 0)) 139 (fun _ => 0)) 140 (fun _ => 0)) 141 (fun _ => 0)) 142 (fun _ => 0)) 142 0 (-1)) 142 1 0) 142 2 0) 142 3 1) 142 4 1) 142 5 0) 142 6 0) 142 7 (-1)) := ⟨_, rfl⟩
  rw [← hJB]
  have b142 : zz_bc (JB 142) := by
    intro i i0 i1
    rw [hJB]
    rcases (show i = 0 ∨ i = 1 ∨ i = 2 ∨ i = 3 by omega) with rfl | rfl | rfl | rfl
    · exact ⟨by rw [zu_k (by omega), zu_k (by omega), zu_k (by omega), zu_k (by omega), zu_k (by omega), zu_k (by omega), zu_k (by omega)]; exact zu_s, by rw [zu_k (by omega), zu_k (by omega), zu_k (by omega), zu_k (by omega), zu_k (by omega), zu_k (by omega)]; exact zu_s⟩
    · exact ⟨by rw [zu_k (by omega), zu_k (by omega), zu_k (by omega), zu_k (by omega), zu_k (by omega)]; exact zu_s, by rw [zu_k (by omega), zu_k (by omega), zu_k (by omega), zu_k (by omega)]; exact zu_s⟩
    · exact ⟨by rw [zu_k (by omega), zu_k (by omega), zu_k (by omega)]; exact zu_s, by rw [zu_k (by omega), zu_k (by omega)]; exact zu_s⟩
    · exact ⟨by rw [zu_k (by omega)]; exact zu_s, by exact zu_s⟩
  have bf : ∀ x, x < 132 → JB x = J x := fun x hx => by rw [hJB, zu_A (by omega), zu_A (by omega), zu_A (by omega), zu_A (by omega), zu_A (by omega), zu_A (by omega), zu_A (by omega), zu_A (by omega), zw_n (by omega), zw_n (by omega), zw_n (by omega), zw_n (by omega), zw_n (by omega), zw_n (by omega), zw_n (by omega), zw_n (by omega), zw_n (by omega), zw_n (by omega), zw_n (by omega)]
  have b132 : JB 132 = fun _ => 0 := by rw [hJB, zu_A (by omega), zu_A (by omega), zu_A (by omega), zu_A (by omega), zu_A (by omega), zu_A (by omega), zu_A (by omega), zu_A (by omega), zw_n (by omega), zw_n (by omega), zw_n (by omega), zw_n (by omega), zw_n (by omega), zw_n (by omega), zw_n (by omega), zw_n (by omega), zw_n (by omega), zw_n (by omega), zw_s]
  have b135 : JB 135 = fun _ => 0 := by rw [hJB, zu_A (by omega), zu_A (by omega), zu_A (by omega), zu_A (by omega), zu_A (by omega), zu_A (by omega), zu_A (by omega), zu_A (by omega), zw_n (by omega), zw_n (by omega), zw_n (by omega), zw_n (by omega), zw_n (by omega), zw_n (by omega), zw_n (by omega), zw_s]
  refine zq_Emq (a := 143) g (by omega) (by omega) (by omega) (fun T12 l12 e12 m12 g G12 => ?_)
  have g : zq_g 131 7 144 _ _ := g
  have h132 : T12[132]? = some (.inr (0, 130)) := by rw [e12]; exact zk_app h132
  refine zq_Emq (a := 144) g (by omega) (by omega) (by omega) (fun T13 l13 e13 m13 g G13 => ?_)
  have g : zq_g 131 7 145 _ _ := g
  have h132 : T13[132]? = some (.inr (0, 130)) := by rw [e13]; exact zk_app h132
  refine zq_Emq (a := 145) g (by omega) (by omega) (by omega) (fun T14 l14 e14 m14 g G14 => ?_)
  have g : zq_g 131 7 146 _ _ := g
  have h132 : T14[132]? = some (.inr (0, 130)) := by rw [e14]; exact zk_app h132
  refine zq_Emq (a := 146) g (by omega) (by omega) (by omega) (fun T15 l15 e15 m15 g G15 => ?_)
  have g : zq_g 131 7 147 _ _ := g
  have h132 : T15[132]? = some (.inr (0, 130)) := by rw [e15]; exact zk_app h132
  refine zq_Emq (a := 147) g (by omega) (by omega) (by omega) (fun T16 l16 e16 m16 g G16 => ?_)
  have g : zq_g 131 7 148 _ _ := g
  have h132 : T16[132]? = some (.inr (0, 130)) := by rw [e16]; exact zk_app h132
  refine zq_Emq (a := 148) g (by omega) (by omega) (by omega) (fun T17 l17 e17 m17 g G17 => ?_)
  have g : zq_g 131 7 149 _ _ := g
  have h132 : T17[132]? = some (.inr (0, 130)) := by rw [e17]; exact zk_app h132
  refine zq_Emq (a := 149) g (by omega) (by omega) (by omega) (fun T18 l18 e18 m18 g G18 => ?_)
  have g : zq_g 131 7 150 _ _ := g
  have h132 : T18[132]? = some (.inr (0, 130)) := by rw [e18]; exact zk_app h132
  refine zq_Emq (a := 150) g (by omega) (by omega) (by omega) (fun T19 l19 e19 m19 g G19 => ?_)
  have g : zq_g 131 7 151 _ _ := g
  have h132 : T19[132]? = some (.inr (0, 130)) := by rw [e19]; exact zk_app h132
  refine zq_Emq (a := 151) g (by omega) (by omega) (by omega) (fun T20 l20 e20 m20 g G20 => ?_)
  have g : zq_g 131 7 152 _ _ := g
  have h132 : T20[132]? = some (.inr (0, 130)) := by rw [e20]; exact zk_app h132
  refine zq_Emq (a := 152) g (by omega) (by omega) (by omega) (fun T21 l21 e21 m21 g G21 => ?_)
  have g : zq_g 131 7 153 _ _ := g
  have h132 : T21[132]? = some (.inr (0, 130)) := by rw [e21]; exact zk_app h132
  refine zq_Emq (a := 153) g (by omega) (by omega) (by omega) (fun T22 l22 e22 m22 g G22 => ?_)
  have g : zq_g 131 7 154 _ _ := g
  have h132 : T22[132]? = some (.inr (0, 130)) := by rw [e22]; exact zk_app h132
  refine zq_Emq (a := 154) g (by omega) (by omega) (by omega) (fun T23 l23 e23 m23 g G23 => ?_)
  have g : zq_g 131 7 155 _ _ := g
  have h132 : T23[132]? = some (.inr (0, 130)) := by rw [e23]; exact zk_app h132
  have el : l23 = zq_ml ++ l := by
    rw [m23, m22, m21, m20, m19, m18, m17, m16, m15, m14, m13, m12, m11, m10, m9, m8, m7, m6, m5, m4, m3, m2, m1]
    rfl
  have hr : zq_rf l23 131 0 = some 132 := by
    rw [el, zq_rf_app, show zq_rf zq_ml 131 0 = some 132 by decide +kernel]
    rfl
  simp (maxSteps := 5000000) (disch := first | assumption | omega) only [zz_gR g.1 hr, zo_rf, zz_sI (show 16 ≤ 132 by omega) h132]
  obtain ⟨JC, hJC⟩ : ∃ JC, JC = (zz_w (zz_w (zz_w (zz_w (zz_w (zz_w (zz_w (zz_w (zz_w (zz_w (zz_w (zz_w JB 143 (fun _ => 0)) 144 (fun _ => 0)) 145 (fun _ => 0)) 146 (fun _ => 0)) 147 (fun _ => 0)) 148 (fun _ => 0)) 149 (fun _ => 0)) 150 (fun _ => 0)) 151 (fun _ => 0)) 152 (fun _ => 0)) 153 (fun _ => 0)) 154 (fun _ => 0)) := ⟨_, rfl⟩
  rw [← hJC]
  have cf : ∀ x, x < 143 → JC x = JB x := fun x hx => by rw [hJC, zw_n (by omega), zw_n (by omega), zw_n (by omega), zw_n (by omega), zw_n (by omega), zw_n (by omega), zw_n (by omega), zw_n (by omega), zw_n (by omega), zw_n (by omega), zw_n (by omega), zw_n (by omega)]
  have eD : zz_u (zz_u (zz_u JC 132 0 3) 132 1 3) 132 2 60 = zz_w JC 132 zq_O0 := by
    rw [zz_uw (J := JC), zz_wu, zz_wu, cf 132 (by omega), b132]
    rfl
  rw [eD]
  refine k_132l g.1 h132 hr ?_
  rw [hQ]
  have e : ∀ U V : List mv_T, U = V → ∀ a b : List (Nat × Nat × Nat), a = b → ∀ JJ GG, ((none, zz_S U JJ (zq_rf a) GG) : Option mv_V × mv_S) = (none, zz_S V JJ (zq_rf b) GG) := fun U V h a b h' JJ GG => by rw [h, h']
  refine ⟨_, _, e _ _ ?_ _ _ el _ _, fun x hx => by rw [zw_n (by omega), cf x (by omega), bf x hx], zw_s, by rw [zw_n (by omega), cf 142 (by omega)]; exact b142, fun k => by rw [zw_n (by omega), cf 135 (by omega), b135]⟩
  rw [e23, e22, e21, e20, e19, e18, e17, e16, e15, e14, e13, e12, e11, e10, e9, e8, e7, e6, e5, e4, e3, e2, e1]
  simp only [List.append_assoc]
  exact congrArg (HAppend.hAppend T) (by decide +kernel)
end ZMK3
