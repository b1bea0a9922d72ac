/-! PURE LAYER, 122: the law's start -/
theorem e_219s {cl : Nat → List mv_V → mv_S → mv_O} {n : Nat} (th : Nat) (σ : mv_S) : mv_run cl mm_219 (n + 1) 0 [(0, .inr (.inr (some th)))] [] σ = (mo_no σ 6 fun o1 s2 => mo_rf o1 fun a3 => mo_rV (cl 91 [.inr (.inr (some a3))] s2) fun s4 => mo_no s4 7 fun o5 s6 => mo_rf o5 fun a7 => mo_rV (cl 132 [.inr (.inr (some a7))] s6) fun s8 => mo_na s8 2 (mv_c 1) fun o9 s10 => mv_run cl mm_219 n 23 [(0, .inr (.inr (some th))), (1, .inr (.inr o1)), (2, .inr (.inr o5)), (3, .inr (.inr o9)), (4, .inl (mv_c 0))] [] s10) := rfl
section ZSTA
variable {L : Nat} {xs : Nat → Int32}
def zq_X (xs : Nat → Int32) : Int → Int := fun i => (xs i.toNat).toInt
def zq_T0 (L : Nat) : List mv_T := .inr (0, L) :: List.replicate 15 (.inr (99, 0))
def zq_J0 (xs : Nat → Int32) : Nat → Int → Int := fun a => if a = 0 then zq_X xs else fun _ => 0
theorem zq_S00 : mw_S00 L xs = zz_S (zq_T0 L) (zq_J0 xs) (zq_rf []) (fun _ _ => 0) := by
  show ((zq_T0 L, (fun (k j : Nat) => if k = 0 then xs j else 0), (fun _ _ => none), (fun _ _ => 0)) : mv_S) = (zq_T0 L, (fun (a k : Nat) => mv_c (zq_J0 xs a (k : Int))), zq_rf [], (fun _ _ => 0))
  congr 2
  funext k j
  unfold zq_J0
  by_cases h : k = 0
  · rw [if_pos h, if_pos h]
    unfold zq_X
    rw [Int.toNat_natCast, zk_ci]
  · rw [if_neg h, if_neg h]
    exact zz_0
theorem zq_Xr (i : Int) : zk_r32 (zq_X xs i) := zk_i32 _
theorem zq_T0l : (zq_T0 L).length = 16 := by
  show (List.replicate 15 ((.inr (99, 0)) : mv_T)).length + 1 = 16
  rw [List.length_replicate]
/-- the cells and references of both objects -/
def zq_al : List (Nat × Nat × Nat) := zq_ml ++ zq_cl
theorem zq_refs : ∀ q ∈ zz_ref, zq_rf zq_al q.1 q.2.1 = some q.2.2 := by decide +kernel
theorem zq_none : (∀ q ∈ zq_al, q.1 ≠ 24) ∧ (∀ q ∈ zq_al, q.1 ≠ 37) ∧ (∀ q ∈ zq_al, q.1 ≠ 50) ∧ (∀ q ∈ zq_al, q.1 ≠ 63) := by decide +kernel
theorem zq_shn : ∀ k : Fin 8, zq_rf zq_al (115 + 2 * k.val) 0 = none := by decide +kernel
theorem zq_layT : ((([.inl 6] : List mv_T) ++ zq_ctt) ++ ([.inl 7] ++ zq_mt)) ++ [.inr (2, 1)] = zz_lay := by decide +kernel
theorem zq_A0ok : zz_ok 0 zq_A0 := by
  refine ⟨⟨by decide, by decide, by decide, by decide⟩, ⟨by decide, by decide⟩, ⟨by decide, by decide⟩, ⟨by decide, by decide, by decide⟩, ⟨by decide, by decide⟩, ⟨by decide, by decide⟩, ⟨by decide, by decide⟩, fun c c0 c1 => ?_, fun d d0 d1 => ?_⟩
  · have c1 : c < 9 := c1
    have e8 : zq_A0 (8 + c) = 2 := by
      unfold zq_A0
      rw [if_neg (by omega), if_neg (by omega), if_pos (by omega)]
    have e24 : zq_A0 (24 + c) = -4 := by
      unfold zq_A0
      rw [if_neg (by omega), if_neg (by omega), if_neg (by omega), if_pos (by omega)]
    rw [e8, e24]
    omega
  · have d1 : d < 0 := d1
    omega
theorem zq_ld_rep {T : List mv_T} {R : Nat → Nat → Option Nat} {J : Nat → Int → Int} {p : Nat} (h : zq_ld J p) : zc_rep T R J p zq_A0 := by
  obtain ⟨⟨h1, h2, h3, h4⟩, ⟨h5, h6, h7, h8⟩, h9, h10⟩ := h
  refine ⟨⟨⟨h1, h2, h3⟩, fun c c0 c1 => ?_, fun a b a0 a1 b0 b1 => ?_⟩, ⟨h4, h5, h6, h7, h8⟩, fun c c0 c1 => ?_, fun e e0 e1 => ?_⟩
  · have c1 : c < 9 := c1
    obtain ⟨q1, q2, q3⟩ := h9 c c0 c1
    exact ⟨q1, q2⟩
  · have a1 : a < 9 := a1
    have b1 : b < 9 := b1
    obtain ⟨q1, q2, q3⟩ := h9 a a0 a1
    exact q3 b b0 b1
  · have c1 : c < 9 := c1
    have e8 : zq_A0 (8 + c) = 2 := by
      unfold zq_A0
      rw [if_neg (by omega), if_neg (by omega), if_pos (by omega)]
    have e24 : zq_A0 (24 + c) = -4 := by
      unfold zq_A0
      rw [if_neg (by omega), if_neg (by omega), if_neg (by omega), if_pos (by omega)]
    rw [e8, e24, show zq_A0 6 = 0 from rfl, zz_bit0]
    exact h10 c c0 (by omega)
  · have e1 : e < 0 := e1
    omega
theorem zq_W0 {T : List mv_T} {J : Nat → Int → Int} (hT : T = zq_T0 L ++ zz_lay) (hX : J 0 = zq_X xs) (h132 : J 132 = zq_A0) (h142 : zz_bc (J 142)) (h135 : ∀ k, J 135 k = 0) (hsh : ∀ j : Nat, j < 8 → J (115 + 2 * j) 1 = 0) (hld : ∀ p, Lnd p → zq_ld J p) (h9 : J 131 9 = 0) (h4 : J 16 4 = 0) : zq_W (zq_X xs) L 0 T J (zq_rf zq_al) := by
  subst hT
  have hL : ZL (zq_T0 L ++ zz_lay) (zq_rf zq_al) := by
    refine ⟨fun k q h => ?_, zq_refs⟩
    rw [Nat.add_comm, zq_ap k zq_T0l]
    exact h
  refine ⟨⟨hL, by rfl, hX⟩, ⟨by rw [h132]; exact zq_A0ok, ?_, h142⟩, ⟨fun k k0 k1 => Or.inl ⟨h135 k, ?_, ?_⟩, by rw [h132]; exact zq_ld_rep (hld 17 (Or.inl rfl)), fun p hp => ⟨fun c c0 c1 => Or.inl ((hld p hp).2.2.2 c c0 c1).2.2, fun k a hk ha => ?_⟩⟩, Or.inl ⟨h9, h4⟩, ?_, ?_⟩
  · intro c c0 c1
    rw [h132, show zq_A0 6 = 0 from rfl, zz_bit0]
  · exact hsh k.toNat (by omega)
  · exact zq_shn ⟨k.toNat, by omega⟩
  · exfalso
    obtain ⟨n1, n2, n3, n4⟩ := zq_none
    rcases hp with rfl | rfl | rfl | rfl
    · rw [zq_rf_n n1] at ha
      cases ha
    · rw [zq_rf_n n2] at ha
      cases ha
    · rw [zq_rf_n n3] at ha
      cases ha
    · rw [zq_rf_n n4] at ha
      cases ha
  · rw [List.length_append, zq_T0l, show zz_lay.length = 140 by decide +kernel]
    omega
  · have e1 : mw_sz (zq_T0 L) = L := by
      unfold zq_T0 mw_sz
      simp [mw_szT, List.sum_replicate_nat]
    have e2 : mw_sz zz_lay ≤ 9000 := by decide +kernel
    rw [zq_szA, e1]
    omega
theorem zq_run (hL3 : L ≤ 3072) : ∃ (n : Nat) (sF : mv_S), mv_run (mv_cax 40) mm_219 n 0 [(0, .inr (.inr (some 0)))] [] (mw_S00 L xs) = some (some (.inl 1), sF) ∧ sF.1.length ≤ 601040 ∧ mw_sz sF.1 ≤ 7293034 + L := by
  obtain ⟨Q, hQ⟩ : ∃ Q : Option mv_V × mv_S → Prop, Q = fun r => ∃ sF : mv_S, r = (some (.inl 1), sF) ∧ sF.1.length ≤ 601040 ∧ mw_sz sF.1 ≤ 7293034 + L := ⟨_, rfl⟩
  have key : zz_E (fun n => mv_run (mv_cax 40) mm_219 n 0 [(0, .inr (.inr (some 0)))] [] (mw_S00 L xs)) Q := by
    rw [zq_S00]
    have g16 : zq_g 16 6 17 (zq_T0 L ++ [.inl 6]) [] := ⟨zq_ap 0 zq_T0l, by rw [List.length_append, zq_T0l]; rfl, fun q hq => by cases hq⟩
    obtain ⟨J1, G1, c91, f1, b4, bld, bsh⟩ := k_91 (T := zq_T0 L ++ [.inl 6]) (J := zz_w (zq_J0 xs) 16 (fun _ => 0)) (G := fun _ _ => 0) (d := 40) (by omega) g16
    have l131 : ((zq_T0 L ++ ([.inl 6] : List mv_T)) ++ zq_ctt).length = 131 := by
      rw [List.length_append, List.length_append, zq_T0l, show zq_ctt.length = 114 by decide +kernel]
      rfl
    obtain ⟨T1, hT1⟩ : ∃ T1, T1 = (zq_T0 L ++ [.inl 6]) ++ zq_ctt := ⟨_, rfl⟩
    rw [← hT1] at c91 l131
    have kb : ∀ q ∈ zq_cl, q.1 < 131 := by decide +kernel
    have g131 : zq_g 131 7 132 (T1 ++ [.inl 7]) zq_cl := ⟨zq_ap 0 l131, by rw [List.length_append, l131]; rfl, fun q hq => by have := kb q hq; omega⟩
    obtain ⟨J2, G2, c132, f2, d132, d142, d135⟩ := k_132 (T := T1 ++ [.inl 7]) (J := zz_w J1 131 (fun _ => 0)) (G := G1) (d := 40) (by omega) g131
    have l155 : ((T1 ++ ([.inl 7] : List mv_T)) ++ zq_mt).length = 155 := by
      rw [List.length_append, List.length_append, l131, show zq_mt.length = 23 by decide +kernel]
      rfl
    have kb2 : ∀ q ∈ zq_ml ++ zq_cl, q.1 < 155 := by decide +kernel
    refine zz_Es (fun n => e_219s _ _) ?_
    refine zz_Ec (g := fun n => mo_na (zz_S ((T1 ++ [.inl 7]) ++ zq_mt) J2 (zq_rf (zq_ml ++ zq_cl)) G2) 2 (mv_c 1) fun o9 s10 => mv_run (mv_cax 40) mm_219 n 23 [(0, .inr (.inr (some 0))), (1, .inr (.inr (some 16))), (2, .inr (.inr (some 131))), (3, .inr (.inr o9)), (4, .inl (mv_c 0))] [] s10) (fun n => ?_) ?_
    · show mo_rV (mv_cax 40 91 [.inr (.inr (some (zq_T0 L).length))] (mv_no (zz_S (zq_T0 L) (zq_J0 xs) (zq_rf []) (fun _ _ => 0)) 6)) _ = _
      rw [zq_no zq_T0l (fun q hq => by cases hq), zq_T0l, c91, zo_rV]
      show mo_rV (mv_cax 40 132 [.inr (.inr (some T1.length))] (mv_no (zz_S T1 J1 (zq_rf zq_cl) G1) 7)) _ = _
      rw [zq_no l131 kb, l131, c132, zo_rV]
      have ea : (zz_S (zq_T0 L) (zq_J0 xs) (zq_rf []) fun _ _ => 0).1.length = 16 := zq_T0l
      have eb : (zz_S T1 J1 (zq_rf zq_cl) G1).1.length = 131 := l131
      rw [ea, eb]
    refine zq_Ena (a := 155) l155 kb2 (by omega) (by omega) (fun G3 => ?_)
    have fJ : ∀ x, x < 131 → J2 x = J1 x := fun x hx => by rw [f2 x (by omega), zw_n (by omega)]
    have hW := zq_W0 (L := L) (xs := xs) (T := ((T1 ++ [.inl 7]) ++ zq_mt) ++ [.inr (2, (1 : Int).toNat)]) (J := zz_w J2 155 (fun _ => 0)) ?_ ?_ ?_ ?_ ?_ ?_ ?_ ?_ ?_
    · rw [hQ]
      exact zq_loop hL3 zq_Xr 512 0 0 rfl rfl _ _ _ G3 hW
    · rw [hT1, ← zq_layT]
      simp only [List.append_assoc]
      rfl
    · rw [zw_n (by omega), fJ 0 (by omega), f1 0 (by omega), zw_n (by omega)]
      rfl
    · rw [zw_n (by omega)]
      exact d132
    · rw [zw_n (by omega)]
      exact d142
    · intro k
      rw [zw_n (by omega)]
      exact d135 k
    · intro j hj
      rw [zw_n (by omega), fJ _ (by omega)]
      exact bsh j hj
    · intro p hp
      have hpl : p + 12 < 73 := by rcases hp with rfl | rfl | rfl | rfl <;> omega
      exact zq_ld_f (bld p hp) (fun x x0 x1 => by rw [zw_n (by omega), fJ x (by omega)])
    · rw [zw_n (by omega), f2 131 (by omega), zw_s]
    · rw [zw_n (by omega), fJ 16 (by omega)]
      exact b4
  obtain ⟨r, hr, n0, hn⟩ := key
  rw [hQ] at hr
  obtain ⟨sF, rfl, h1, h2⟩ := hr
  exact ⟨n0, sF, hn n0 (Nat.le_refl _), h1, h2⟩
end ZSTA
