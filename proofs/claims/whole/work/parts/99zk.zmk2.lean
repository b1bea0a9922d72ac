/-! PURE LAYER, 116: the class's constructor -/
def zq_sb : Nat → List mv_T
  | 0 => []
  | n + 1 => zq_sb n ++ [.inl 4, .inr (0, 100)]
def zq_sr : Nat → List (Nat × Nat × Nat)
  | 0 => []
  | n + 1 => (69, n, 115 + 2 * n) :: (115 + 2 * n, 4, 115 + 2 * n + 1) :: zq_sr n
theorem zq_sb_n : ∀ n, (zq_sb n).length = 2 * n
  | 0 => rfl
  | n + 1 => by
    show (zq_sb n ++ ([.inl 4, .inr (0, 100)] : List mv_T)).length = _
    rw [List.length_append, zq_sb_n n]
    show 2 * n + 2 = _
    omega
theorem zq_sr_k : ∀ n, ∀ q ∈ zq_sr n, (q.1 = 69 ∨ 115 ≤ q.1) ∧ q.1 < 115 + 2 * n
  | 0, q, h => by cases h
  | n + 1, q, h => by
    rcases List.mem_cons.mp h with rfl | h
    · exact ⟨Or.inl rfl, by show 69 < 115 + 2 * (n + 1); omega⟩
    · rcases List.mem_cons.mp h with rfl | h
      · exact ⟨Or.inr (by show 115 ≤ 115 + 2 * n; omega), by show 115 + 2 * n < 115 + 2 * (n + 1); omega⟩
      · have := zq_sr_k n q h
        exact ⟨this.1, by omega⟩
theorem zq_ld_f {J J' : Nat → Int → Int} {p : Nat} (h : zq_ld J p) (hf : ∀ x, p ≤ x → x ≤ p + 6 → J' x = J x) : zq_ld J' p := by
  unfold zq_ld zt_ge at h ⊢
  rw [hf p (by omega) (by omega), hf (p + 1) (by omega) (by omega), hf (p + 2) (by omega) (by omega), hf (p + 3) (by omega) (by omega), hf (p + 4) (by omega) (by omega), hf (p + 5) (by omega) (by omega), hf (p + 6) (by omega) (by omega)]
  exact h
section ZMK2
variable {T : List mv_T} {J : Nat → Int → Int} {G : Nat → Nat → Int64} {R : Nat → Nat → Option Nat} {d p c a t f : Nat} {n v : Int} {l : List (Nat × Nat × Nat)} {Q : Option mv_V × mv_S → Prop}
theorem zq_Eno {k : Nat → mv_S → mv_O} {M c' : Nat} {T2 : List mv_T} {J2 : Nat → Int → Int} {l2 : List (Nat × Nat × Nat)} {G2 : Nat → Nat → Int64} (g : zq_g p c a T l) (hc : mv_cax d M [.inr (.inr (some a))] (zz_S (T ++ [.inl c']) (zz_w J a (fun _ => 0)) (zq_rf l) G) = some (none, zz_S T2 J2 (zq_rf l2) G2)) (g2 : T2[p]? = some (.inl c)) (kk : zz_E (fun m => k m (zz_S T2 J2 (zq_rf ((p, f, a) :: l2)) G2)) Q) : zz_E (fun m => mo_no (zz_S T J (zq_rf l) G) c' fun o s => mo_rf o fun a3 => mo_rV (mv_cax d M [.inr (.inr (some a3))] s) fun s4 => mo_pR s4 p c f o (k m)) Q := by
  refine zz_Ec (fun m => ?_) kk
  show mo_rV (mv_cax d M [.inr (.inr (some T.length))] (mv_no (zz_S T J (zq_rf l) G) c')) (fun s4 => mo_pR s4 p c f (some T.length) (k m)) = _
  rw [zq_no g.2.1 g.2.2, g.2.1, hc, zo_rV, zz_pR g2, zq_rf_up]
theorem zq_gn {c' : Nat} (g : zq_g p c a T l) : zq_g a c' (a + 1) (T ++ [.inl c']) l := ⟨zq_ap 0 g.2.1, by rw [List.length_append, g.2.1]; rfl, fun q hq => by have := g.2.2 q hq; omega⟩
theorem zq_ga {c' n : Nat} {blk : List mv_T} {bl : List (Nat × Nat × Nat)} (g : zq_g p c a T l) (hp : p < a) (hn : blk.length = n) (hb : ∀ q ∈ bl, q.1 < a + 1 + n) : zq_g p c (a + 1 + n) ((T ++ [.inl c']) ++ blk) ((p, f, a) :: (bl ++ l)) := by
  refine ⟨zk_app (zk_app g.1), ?_, fun q hq => ?_⟩
  · rw [List.length_append, List.length_append, g.2.1, hn]
    rfl
  · rcases List.mem_cons.mp hq with rfl | hq
    · show p < _
      omega
    · rcases List.mem_append.mp hq with hq | hq
      · exact hb q hq
      · have := g.2.2 q hq
        omega
theorem zq_Enq {k : Nat → mv_S → mv_O} {M c' n : Nat} {blk : List mv_T} {bl : List (Nat × Nat × Nat)} {J2 : Nat → Int → Int} {G2 : Nat → Nat → Int64} (g : zq_g p c a T l) (hc : mv_cax d M [.inr (.inr (some a))] (zz_S (T ++ [.inl c']) (zz_w J a (fun _ => 0)) (zq_rf l) G) = some (none, zz_S ((T ++ [.inl c']) ++ blk) J2 (zq_rf (bl ++ l)) G2)) (hp : p < a) (hn : blk.length = n) (hb : ∀ q ∈ bl, q.1 < a + 1 + n) (kk : ∀ T2 l2, T2 = (T ++ [.inl c']) ++ blk → l2 = (p, f, a) :: (bl ++ l) → zq_g p c (a + 1 + n) T2 l2 → zz_E (fun m => k m (zz_S T2 J2 (zq_rf l2) G2)) Q) : zz_E (fun m => mo_no (zz_S T J (zq_rf l) G) c' fun o s => mo_rf o fun a3 => mo_rV (mv_cax d M [.inr (.inr (some a3))] s) fun s4 => mo_pR s4 p c f o (k m)) Q := zq_Eno g hc (zk_app (zk_app g.1)) (kk _ _ rfl rfl (zq_ga g hp hn hb))
theorem zq_Emq {k : Nat → mv_S → mv_O} (g : zq_g p c a T l) (hp : p < a) (n0 : 0 ≤ n) (n1 : n < 1000) (kk : ∀ T2 l2, T2 = T ++ [.inr (t, n.toNat)] → l2 = (p, f, a) :: l → zq_g p c (a + 1) T2 l2 → ∀ G', zz_E (fun m => k m (zz_S T2 (zz_w J a (fun _ => 0)) (zq_rf l2) G')) Q) : zz_E (fun m => mo_na (zz_S T J (zq_rf l) G) t (mv_c n) fun o s => mo_pR s p c f o (k m)) Q := zq_Emk g hp n0 n1 (fun g' G' => kk _ _ rfl rfl g' G')
theorem zq_Eaq {k : Nat → mv_S → mv_O} {m : Int} (g : zq_g p c a T l) (hp : p < a) (n0 : 0 ≤ n) (n1 : n < 1000) (m0 : 0 ≤ m) (m1 : m < 1000) (kk : ∀ T2 l2, T2 = T ++ (.inr (5, n.toNat) :: List.replicate n.toNat (.inr (0, m.toNat))) → l2 = (p, f, a) :: (zq_rw a n.toNat ++ l) → zq_g p c (a + 1 + n.toNat) T2 l2 → zz_E (fun i => k i (zz_S T2 (fun x => if a ≤ x then (fun _ => 0) else J x) (zq_rf l2) G)) Q) : zz_E (fun i => mo_ma (zz_S T J (zq_rf l) G) (mv_c n) (mv_c m) fun o s => mo_pR s p c f o (k i)) Q := zq_Ema g hp n0 n1 m0 m1 (fun g' => kk _ _ rfl rfl g')
theorem k_91s {i : Nat} (hd : 1 ≤ d) (hi : i < 8) (g : zq_g 16 6 (115 + 2 * i) T l) (h69 : T[69]? = some (.inr (4, 8))) (h5 : zq_rf l 16 5 = some 69) (kk : ∀ J' G', (∀ x, x < 115 + 2 * i → J' x = J x) → J' (115 + 2 * i) 1 = 0 → zz_E (fun m => mv_run (mv_cax d) mm_91 m 133 [(0, .inr (.inr (some 16))), (1, .inl (mv_c ((i + 1 : Nat) : Int)))] [] (zz_S ((T ++ [.inl 4]) ++ [.inr (0, 100)]) J' (zq_rf ((69, i, 115 + 2 * i) :: (115 + 2 * i, 4, 115 + 2 * i + 1) :: l)) G')) Q) : zz_E (fun m => mv_run (mv_cax d) mm_91 m 133 [(0, .inr (.inr (some 16))), (1, .inl (mv_c (i : Int)))] [] (zz_S T J (zq_rf l) G)) Q := by
  obtain ⟨J1, G1, c60, f1, d1⟩ := k_60 (T := T ++ [.inl 4]) (J := zz_w J (115 + 2 * i) (fun _ => 0)) (G := G) (l := l) (d := d) (p := 115 + 2 * i) hd (zq_gn g) g.2.2
  have hle : ¬ (mv_c 8 ≤ mv_c (i : Int)) := by
    rw [zz_le (by omega) (by omega) (by omega) (by omega)]
    omega
  refine zz_Es (fun n => e_91_133 _ _ _) ?_
  refine zz_Ei (fun h => absurd h hle) (fun _ => ?_)
  have hT2 : ((T ++ [.inl 4]) ++ [.inr (0, 100)])[69]? = some (.inr (4, 8)) := zk_app (zk_app h69)
  have hTq : ((T ++ [.inl 4]) ++ [.inr (0, 100)])[115 + 2 * i]? = some (.inl (mv_el 4)) := zk_app (zq_ap 0 g.2.1)
  refine zz_Ec (fun m => ?_) (kk J1 G1 (fun x hx => by rw [f1 x hx, zw_n (by omega)]) d1)
  rw [zz_gR g.1 h5]
  show mo_rV (mv_cax d 60 [.inr (.inr (some T.length))] (mv_no (zz_S T J (zq_rf l) G) 4)) (fun s5 => mo_sR s5 69 (mv_c (i : Int)) (some T.length) fun s7 => mv_run (mv_cax d) mm_91 m 133 [(0, .inr (.inr (some 16))), (1, .inl (mv_c (i : Int) + mv_c 1))] [] s7) = _
  rw [zq_no g.2.1 g.2.2, g.2.1, c60, zo_rV, zz_sR (n := 8) (by omega) hT2 (Or.inr rfl) (by omega) (by omega) (by omega) (fun b hb => by cases hb; exact hTq), Int.toNat_natCast, zq_rf_up, zz_add]
  rfl
theorem k_91l {J0 : Nat → Int → Int} (hd : 1 ≤ d) (g : zq_g 16 6 115 T l) (h69 : T[69]? = some (.inr (4, 8))) (h5 : zq_rf l 16 5 = some 69) (fin : ∀ J' G', (∀ x, x < 115 → J' x = J0 x) → (∀ j : Nat, j < 8 → J' (115 + 2 * j) 1 = 0) → Q (none, zz_S (T ++ zq_sb 8) J' (zq_rf (zq_sr 8 ++ l)) G')) : ∀ (k i : Nat), i + k = 8 → ∀ J G, (∀ x, x < 115 → J x = J0 x) → (∀ j : Nat, j < i → J (115 + 2 * j) 1 = 0) → zz_E (fun m => mv_run (mv_cax d) mm_91 m 133 [(0, .inr (.inr (some 16))), (1, .inl (mv_c (i : Int)))] [] (zz_S (T ++ zq_sb i) J (zq_rf (zq_sr i ++ l)) G)) Q
  | 0, i, hi, J, G, h1, h2 => by
    have : i = 8 := by omega
    subst this
    refine zz_Es (fun n => e_91_133 _ _ _) ?_
    have hle : mv_c 8 ≤ mv_c ((8 : Nat) : Int) := by
      rw [zz_le (by omega) (by omega) (by omega) (by omega)]
      omega
    exact zz_Ei (fun _ => zz_Er (fin J G h1 h2)) (fun h => absurd hle h)
  | k + 1, i, hi, J, G, h1, h2 => by
    have gi : zq_g 16 6 (115 + 2 * i) (T ++ zq_sb i) (zq_sr i ++ l) := ⟨zk_app g.1, by rw [List.length_append, g.2.1, zq_sb_n], fun q hq => by
      rcases List.mem_append.mp hq with hq | hq
      · exact (zq_sr_k i q hq).2
      · have := g.2.2 q hq
        omega⟩
    have h5' : zq_rf (zq_sr i ++ l) 16 5 = some 69 := by
      rw [zq_rf_app, zq_rf_n (fun q hq => by have := (zq_sr_k i q hq).1; omega), h5]
      rfl
    refine k_91s hd (by omega) gi (zk_app h69) h5' (fun J' G' q1 q2 => ?_)
    have e : ((T ++ zq_sb i) ++ [.inl 4]) ++ [.inr (0, 100)] = T ++ zq_sb (i + 1) := by
      rw [List.append_assoc, List.append_assoc]
      rfl
    rw [e]
    exact k_91l hd g h69 h5 fin k (i + 1) (by omega) J' G' (fun x hx => by rw [q1 x (by omega), h1 x hx]) (fun j hj => by
      by_cases q : j = i
      · rw [q]; exact q2
      · rw [q1 _ (by omega)]; exact h2 j (by omega))
def zq_ctt : List mv_T := (zz_lay.drop 1).take 114
def zq_xt : List mv_T := [.inr (0, 0), .inr (0, 4)]
def zq_xl (p : Nat) : List (Nat × Nat × Nat) := [(p, 4, p + 2), (p, 0, p + 1)]
def zq_kt : List mv_T := [.inr (0, 160), .inr (0, 160), .inr (0, 16), .inr (0, 16)]
def zq_kl (p : Nat) : List (Nat × Nat × Nat) := [(p, 3, p + 4), (p, 2, p + 3), (p, 1, p + 2), (p, 0, p + 1)]
theorem k_75x (hd : 1 ≤ d) (g : zq_g p 5 (p + 1) T l) : ∃ J' G', mv_cax d 75 [.inr (.inr (some p))] (zz_S T J (zq_rf l) G) = some (none, zz_S (T ++ zq_xt) J' (zq_rf (zq_xl p ++ l)) G') ∧ ∀ x, x < p → J' x = J x := k_75 hd g
theorem k_0x (hd : 1 ≤ d) (g : zq_g p 0 (p + 1) T l) : ∃ J' G', mv_cax d 0 [.inr (.inr (some p))] (zz_S T J (zq_rf l) G) = some (none, zz_S (T ++ zq_kt) J' (zq_rf (zq_kl p ++ l)) G') ∧ ∀ x, x < p → J' x = J x := k_0 hd g
def zq_cl : List (Nat × Nat × Nat) := zq_sr 8 ++ ((16, 12, 114) :: ((16, 11, 107) :: (zq_rw 107 6 ++ ((16, 10, 106) :: ((16, 9, 105) :: ((16, 8, 78) :: (zq_dl 78 ++ ((16, 7, 73) :: (zq_kl 73 ++ ((16, 6, 70) :: (zq_xl 70 ++ ((16, 5, 69) :: ((16, 3, 56) :: (zq_ll 56 ++ ((16, 2, 43) :: (zq_ll 43 ++ ((16, 1, 30) :: (zq_ll 30 ++ ((16, 0, 17) :: zq_ll 17)))))))))))))))))))
set_option maxHeartbeats 8000000 in
theorem k_91 (hd : 4 ≤ d) (g : zq_g 16 6 17 T []) : ∃ J' G', mv_cax d 91 [.inr (.inr (some 16))] (zz_S T J (zq_rf []) G) = some (none, zz_S (T ++ zq_ctt) J' (zq_rf zq_cl) G') ∧ (∀ x, x < 16 → J' x = J x) ∧ J' 16 4 = 0 ∧ (∀ p, Lnd p → zq_ld J' p) ∧ ∀ j : Nat, j < 8 → J' (115 + 2 * j) 1 = 0 := by
  suffices h : ∃ s, mv_cax d 91 [.inr (.inr (some 16))] (zz_S T J (zq_rf []) G) = some s ∧ ∃ J' G', s = (none, zz_S (T ++ zq_ctt) J' (zq_rf zq_cl) G') ∧ (∀ x, x < 16 → J' x = J x) ∧ J' 16 4 = 0 ∧ (∀ p, Lnd p → zq_ld J' p) ∧ ∀ j : Nat, j < 8 → J' (115 + 2 * j) 1 = 0 by
    obtain ⟨s, g1, J', G', rfl, g2⟩ := h
    exact ⟨J', G', g1, g2⟩
  obtain ⟨Q, hQ⟩ : ∃ Q : Option mv_V × mv_S → Prop, Q = fun s => ∃ J' G', s = (none, zz_S (T ++ zq_ctt) J' (zq_rf zq_cl) G') ∧ (∀ x, x < 16 → J' x = J x) ∧ J' 16 4 = 0 ∧ (∀ p, Lnd p → zq_ld J' p) ∧ ∀ j : Nat, j < 8 → J' (115 + 2 * j) 1 = 0 := ⟨_, rfl⟩
  have hT17 : T.length = 17 := g.2.1
  refine zz_call (by omega) t_91 rfl (fun n => e_91 _ _) ?_
  rw [← hQ]
  obtain ⟨J1, G1, c1, f1, d1⟩ := k_29 (J := zz_w J 17 (fun _ => 0)) (G := G) (d := d - 1) (p := 17) (by omega) (by omega) (zq_gn g)
  refine zq_Enq (n := 12) g c1 (by omega) rfl (by decide) (fun T1 l1 e1 m1 g => ?_)
  have g : zq_g 16 6 30 _ _ := g
  obtain ⟨J2, G2, c2, f2, d2⟩ := k_29 (J := zz_w J1 30 (fun _ => 0)) (G := G1) (d := d - 1) (p := 30) (by omega) (by omega) (zq_gn g)
  refine zq_Enq (n := 12) g c2 (by omega) rfl (by decide) (fun T2 l2 e2 m2 g => ?_)
  have g : zq_g 16 6 43 _ _ := g
  obtain ⟨J3, G3, c3, f3, d3⟩ := k_29 (J := zz_w J2 43 (fun _ => 0)) (G := G2) (d := d - 1) (p := 43) (by omega) (by omega) (zq_gn g)
  refine zq_Enq (n := 12) g c3 (by omega) rfl (by decide) (fun T3 l3 e3 m3 g => ?_)
  have g : zq_g 16 6 56 _ _ := g
  obtain ⟨J4, G4, c4, f4, d4⟩ := k_29 (J := zz_w J3 56 (fun _ => 0)) (G := G3) (d := d - 1) (p := 56) (by omega) (by omega) (zq_gn g)
  refine zq_Enq (n := 12) g c4 (by omega) rfl (by decide) (fun T4 l4 e4 m4 g => ?_)
  have g : zq_g 16 6 69 _ _ := g
  refine zq_Ez ?_ (Or.inl rfl)
  refine zq_Epi (fi := 4) g rfl ?_
  have h69 := zq_ap (l := [.inr (4, 8)]) 0 g.2.1
  refine zq_Emq (a := 69) g (by omega) (by omega) (by omega) (fun T5 l5 e5 m5 g G5 => ?_)
  have h69 : T5[69]? = some (.inr (4, 8)) := by rw [e5]; exact h69
  have g : zq_g 16 6 70 _ _ := g
  obtain ⟨J6, G6, c6, f6⟩ := k_75x (J := zz_w (zz_w (zz_u J4 16 4 0) 69 (fun _ => 0)) 70 (fun _ => 0)) (G := G5) (d := d - 1) (p := 70) (by omega) (zq_gn g)
  refine zq_Enq (n := 2) g c6 (by omega) rfl (by decide) (fun T6 l6 e6 m6 g => ?_)
  have h69 : T6[69]? = some (.inr (4, 8)) := by rw [e6]; exact zk_app (zk_app h69)
  have g : zq_g 16 6 73 _ _ := g
  obtain ⟨J7, G7, c7, f7⟩ := k_0x (J := zz_w J6 73 (fun _ => 0)) (G := G6) (d := d - 1) (p := 73) (by omega) (zq_gn g)
  refine zq_Enq (n := 4) g c7 (by omega) rfl (by decide) (fun T7 l7 e7 m7 g => ?_)
  have h69 : T7[69]? = some (.inr (4, 8)) := by rw [e7]; exact zk_app (zk_app h69)
  have g : zq_g 16 6 78 _ _ := g
  obtain ⟨J8, G8, c8, f8⟩ := k_13 (J := zz_w J7 78 (fun _ => 0)) (G := G7) (d := d - 1) (p := 78) (by omega) (zq_gn g)
  refine zq_Enq (n := 26) g c8 (by omega) rfl (by decide) (fun T8 l8 e8 m8 g => ?_)
  have h69 : T8[69]? = some (.inr (4, 8)) := by rw [e8]; exact zk_app (zk_app h69)
  have g : zq_g 16 6 105 _ _ := g
  refine zq_Emq (a := 105) g (by omega) (by omega) (by omega) (fun T9 l9 e9 m9 g G9 => ?_)
  have h69 : T9[69]? = some (.inr (4, 8)) := by rw [e9]; exact zk_app h69
  have g : zq_g 16 6 106 _ _ := g
  refine zq_Emq (a := 106) g (by omega) (by omega) (by omega) (fun T10 l10 e10 m10 g G10 => ?_)
  have h69 : T10[69]? = some (.inr (4, 8)) := by rw [e10]; exact zk_app h69
  have g : zq_g 16 6 107 _ _ := g
  refine zq_Eaq (a := 107) g (by omega) (by omega) (by omega) (by omega) (by omega) (fun T11 l11 e11 m11 g => ?_)
  have h69 : T11[69]? = some (.inr (4, 8)) := by rw [e11]; exact zk_app h69
  have g : zq_g 16 6 114 _ _ := g
  refine zq_Emq (a := 114) g (by omega) (by omega) (by omega) (fun T12 l12 e12 m12 g G11 => ?_)
  have h69 : T12[69]? = some (.inr (4, 8)) := by rw [e12]; exact zk_app h69
  have g : zq_g 16 6 115 _ _ := g
  have f0 : ∀ x, x < 69 → x ≠ 16 → J8 x = J4 x := fun x x0 x1 => by rw [f8 x (by omega), zw_n (by omega), f7 x (by omega), zw_n (by omega), f6 x (by omega), zw_n (by omega), zw_n (by omega), zu_A x1]
  have f16 : J8 16 4 = 0 := by rw [f8 16 (by omega), zw_n (by omega), f7 16 (by omega), zw_n (by omega), f6 16 (by omega), zw_n (by omega), zw_n (by omega), zu_s]
  have el : l12 = ((16, 12, 114) :: ((16, 11, 107) :: (zq_rw 107 6 ++ ((16, 10, 106) :: ((16, 9, 105) :: ((16, 8, 78) :: (zq_dl 78 ++ ((16, 7, 73) :: (zq_kl 73 ++ ((16, 6, 70) :: (zq_xl 70 ++ ((16, 5, 69) :: ((16, 3, 56) :: (zq_ll 56 ++ ((16, 2, 43) :: (zq_ll 43 ++ ((16, 1, 30) :: (zq_ll 30 ++ ((16, 0, 17) :: zq_ll 17))))))))))))))))))) := by
    rw [m12, m11, m10, m9, m8, m7, m6, m5, m4, m3, m2, m1, List.append_nil]
    rfl
  have h5 : zq_rf l12 16 5 = some 69 := by
    rw [el]
    decide +kernel
  have e0 : T12 = T12 ++ zq_sb 0 := (List.append_nil _).symm
  rw [e0]
  refine k_91l (l := l12) (d := d - 1) (J0 := _) (by omega) g h69 h5 (fun J9 G12 h1 h2 => ?_) 8 0 rfl _ _ (fun x _ => rfl) (fun j hj => absurd hj (Nat.not_lt_zero j))
  rw [hQ]
  have k0 : ∀ x, x < 105 → J9 x = J8 x := fun x hx => by
    rw [h1 x (by omega), zw_n (by omega)]
    show (if 107 ≤ x then (fun _ => (0 : Int)) else _) = _
    rw [if_neg (by omega), zw_n (by omega), zw_n (by omega)]
  have k4 : ∀ x, x < 69 → x ≠ 16 → J9 x = J4 x := fun x x0 x1 => by rw [k0 x (by omega), f0 x x0 x1]
  refine ⟨J9, G12, ?_, fun x hx => ?_, by rw [k0 16 (by omega)]; exact f16, fun p hp => ?_, h2⟩
  · have e : ∀ U V : List mv_T, U = V → ∀ a b : List (Nat × Nat × Nat), a = b → ((none, zz_S U J9 (zq_rf a) G12) : Option mv_V × mv_S) = (none, zz_S V J9 (zq_rf b) G12) := fun U V h a b h' => by rw [h, h']
    refine e _ _ ?_ _ _ (by rw [el]; rfl)
    rw [e12, e11, e10, e9, e8, e7, e6, e5, e4, e3, e2, e1]
    simp only [List.append_assoc]
    exact congrArg (HAppend.hAppend T) (by decide +kernel)
  · rw [k4 x (by omega) (by omega), f4 x (by omega), zw_n (by omega), f3 x (by omega), zw_n (by omega), f2 x (by omega), zw_n (by omega), f1 x (by omega), zw_n (by omega)]
  · rcases hp with rfl | rfl | rfl | rfl
    · exact zq_ld_f d1 (fun x x0 x1 => by rw [k4 x (by omega) (by omega), f4 x (by omega), zw_n (by omega), f3 x (by omega), zw_n (by omega), f2 x (by omega), zw_n (by omega)])
    · exact zq_ld_f d2 (fun x x0 x1 => by rw [k4 x (by omega) (by omega), f4 x (by omega), zw_n (by omega), f3 x (by omega), zw_n (by omega)])
    · exact zq_ld_f d3 (fun x x0 x1 => by rw [k4 x (by omega) (by omega), f4 x (by omega), zw_n (by omega)])
    · exact zq_ld_f d4 (fun x x0 x1 => by rw [k4 x (by omega) (by omega)])
end ZMK2
