/-! PURE LAYER, 84: statements: what they do; the class's drawers and wishes -/
def zt_ad (A : Int → Int) (k f : Int) : Int → Int := zz_f (zz_f (zz_f (zz_f A (40 + 15 * A 7) k) (41 + 15 * A 7) f) (42 + 15 * A 7) 0) 7 (A 7 + 1)
def zt_aw (A : Int → Int) (e c h w : Int) : Int → Int := zz_f (zz_f (zz_f (zz_f A (43 + 15 * e + 3 * A (42 + 15 * e)) c) (44 + 15 * e + 3 * A (42 + 15 * e)) h) (45 + 15 * e + 3 * A (42 + 15 * e)) w) (42 + 15 * e) (A (42 + 15 * e) + 1)
def zt_act (A : Int → Int) (c : Int) (l : List Int) : Option (Int → Int) :=
  if c = 115 then (if ((2 ≤ l.getD 0 0 ∧ l.getD 0 0 ≤ 4) ∧ 2 ≤ l.getD 1 0 ∧ l.getD 1 0 ≤ 4) ∧ A 7 ≤ 0 then some (zt_new A (l.getD 0 0) (l.getD 1 0)) else none)
  else if c = 103 then (if l.getD 0 0 < A 0 * A 1 then some (zz_f A (8 + l.getD 0 0) (l.getD 1 0)) else none)
  else if c = 98 then (if l.getD 0 0 < A 0 * A 1 ∧ zz_bit (A 6) (l.getD 0 0) = 0 then some (zz_f A 6 (zz_lor (A 6) (l.getD 0 0))) else none)
  else if c = 113 then (if l.getD 0 0 < A 0 * A 1 then some (zz_f A 5 (l.getD 0 0)) else none)
  else if c = 116 then some (zz_f A 2 (l.getD 0 0))
  else if c = 108 then (if l.getD 0 0 ≤ 2 then some (zz_f A 3 (l.getD 0 0)) else none)
  else if c = 100 then (if l.getD 0 0 ≤ 7 ∧ A 7 < 6 then some (zt_ad A (l.getD 0 0) (l.getD 1 0)) else none)
  else if c = 119 then (if (l.getD 0 0 < A 7 ∧ l.getD 1 0 < A 0 * A 1) ∧ (1 ≤ l.getD 3 0 ∧ l.getD 3 0 ≤ 99) ∧ A (42 + 15 * l.getD 0 0) < 4 then some (zt_aw A (l.getD 0 0) (l.getD 1 0) (l.getD 2 0) (l.getD 3 0)) else none)
  else none
/-- houses beyond the cells: none -/
def zt_hb (A : Int → Int) : Prop := ∀ c, A 0 * A 1 ≤ c → c < 16 → zz_bit (A 6) c = 0
/-- of the machine's cells only those of the land p changed, and drawers came -/
def zt_gw (p : Nat) (T T' : List mv_T) (R R' : Nat → Nat → Option Nat) (J J' : Nat → Int → Int) : Prop := (∃ n : Nat, T' = T ++ List.replicate n (.inl 2)) ∧ (∀ x, x < T.length → (x < p ∨ p + 11 < x) → J' x = J x) ∧ ∀ x k, x < T.length → x ≠ p + 7 → R' x k = R x k
theorem zt_gw_r {p : Nat} {T : List mv_T} {R : Nat → Nat → Option Nat} {J : Nat → Int → Int} : zt_gw p T T R R J J := ⟨⟨0, (List.append_nil T).symm⟩, fun _ _ _ => rfl, fun _ _ _ _ => rfl⟩
theorem zt_gw_t {p : Nat} {T T1 T2 : List mv_T} {R R1 R2 : Nat → Nat → Option Nat} {J J1 J2 : Nat → Int → Int} (h : zt_gw p T T1 R R1 J J1) (h' : zt_gw p T1 T2 R1 R2 J1 J2) : zt_gw p T T2 R R2 J J2 := by
  obtain ⟨⟨n, rfl⟩, h2, h3⟩ := h
  obtain ⟨⟨m, rfl⟩, k2, k3⟩ := h'
  rw [List.length_append] at k2 k3
  exact ⟨⟨n + m, by rw [List.append_assoc, List.replicate_append_replicate]⟩, fun x hx x2 => by rw [k2 x (by omega) x2, h2 x hx x2], fun x k hx x2 => by rw [k3 x k (by omega) x2, h3 x k hx x2]⟩
theorem zt_lt {T : List mv_T} {a : Nat} {t : mv_T} (h : T[a]? = some t) : a < T.length := by
  rcases Nat.lt_or_ge a T.length with q | q
  · exact q
  · rw [List.getElem?_eq_none q] at h
    cases h
theorem zt_ref_l : ∀ q ∈ zz_ref, q.1 < 156 := by decide +kernel
theorem ZL_n {T : List mv_T} {R : Nat → Nat → Option Nat} (h : ZL T R) : 156 ≤ T.length ∧ ZL (T ++ [.inl 2]) (mv_uf R T.length (fun _ => none)) := by
  have h155 : T[155]? = some (.inr (2, 1)) := h.at 139 (by rfl)
  have hl := zt_lt h155
  refine ⟨by omega, (ZL_T h _).1, fun q hq => ?_⟩
  have := zt_ref_l q hq
  unfold mv_uf
  rw [if_neg (by omega)]
  exact h.2 q hq
theorem zt_no {T : List mv_T} {J : Nat → Int → Int} {R : Nat → Nat → Option Nat} {G : Nat → Nat → Int64} {c : Nat} {k : Option Nat → mv_S → mv_O} : mo_no (zz_S T J R G) c k = k (some T.length) (zz_S (T ++ [.inl c]) (zz_w J T.length (fun _ => 0)) (mv_uf R T.length (fun _ => none)) G) := by
  show k (some T.length) (T ++ [.inl c], mv_uf (fun a k => mv_c (J a (k : Int))) T.length (fun _ => 0), mv_uf R T.length (fun _ => none), G) = _
  congr 2
  show _ = (fun (x y : Nat) => mv_c (zz_w J T.length (fun _ => 0) x (y : Int)), mv_uf R T.length (fun _ => none), G)
  congr 1
  funext x y
  unfold mv_uf zz_w
  by_cases h : x = T.length
  · rw [if_pos h, if_pos h]
    rfl
  · rw [if_neg h, if_neg h]
/-- a land elsewhere stays -/
theorem zc_rep_g {T T' : List mv_T} {R R' : Nat → Nat → Option Nat} {J J' : Nat → Int → Int} {p q : Nat} {A : Int → Int} (h : zc_rep T R J q A) (hT : ∀ a : Nat, T[a]? = some (.inl 2) → T'[a]? = some (.inl 2)) (hJ : ∀ x, ((q ≤ x ∧ x ≤ q + 11) ∨ (156 ≤ x ∧ T[x]? = some (.inl 2))) → J' x = J x) (hR : ∀ k, R' (q + 7) k = R (q + 7) k) : zc_rep T' R' J' q A := by
  obtain ⟨h1, h2, h3, h4⟩ := h
  refine ⟨zc_geo_f h1 (fun x x1 x2 => hJ x (by omega)), ?_, ?_, fun e e0 e1 => ?_⟩
  · rw [hJ q (by omega)]
    exact h2
  · rw [hJ (q + 4) (by omega), hJ (q + 5) (by omega), hJ (q + 6) (by omega)]
    exact h3
  · obtain ⟨⟨a, q1, q2, q3, q4⟩, q5, q6⟩ := h4 e e0 e1
    refine ⟨⟨a, by rw [hR]; exact q1, hT a q2, q3, ?_⟩, ?_, ?_⟩
    · rw [hJ a (Or.inr ⟨q3, q2⟩)]
      exact q4
    · rw [hJ (q + 8) (by omega)]
      exact q5
    · rw [hJ (q + 9) (by omega), hJ (q + 10) (by omega), hJ (q + 11) (by omega)]
      exact q6
section ZACT
variable {T : List mv_T} {J : Nat → Int → Int} {R : Nat → Nat → Option Nat} {G : Nat → Nat → Int64} {d p q : Nat} {Y : Int} {A : Int → Int}
theorem c_26 {a : Nat} {n k f : Int} (hd : 1 ≤ d) (ha : T[a]? = some (.inl 2)) : mv_cax d 26 [.inr (.inr (some a)), .inl (mv_c n), .inl (mv_c k), .inl (mv_c f)] (zz_S T J R G) = some (none, zz_S T (zz_u (zz_u (zz_u J a 0 n) a 1 k) a 2 f) R G) := by
  refine zz_c (zz_call (by omega) t_26 rfl (fun n => e_26 _ _ _ _ _) ?_)
  simp (maxSteps := 5000000) (disch := first | assumption | omega) only [zg_D_0, zp_D_0, zg_D_1, zp_D_1, zg_D_2, zp_D_2, zi_D, zz_0, zz_31, zz_add, zz_sub, zz_mul, zz_neg, zz_lt, zz_le, zz_eq, zz_div, zz_md, zz_dv, zz_abs, zz_max, zz_min, zz_nI, zz_be0, zz_be1, zz_zb, zz_z, zz_l0, zz_l, zz_lcmp, zo_rf, zo_nl, zo_nn, zo_rI, zo_rL, zo_rR, zo_rV, Int.add_zero, Int.zero_add, Int.mul_zero, Int.zero_mul, Int.one_mul, Int.mul_one, if_true, if_false, not_true_eq_false, not_false_eq_true]
  exact zz_Er rfl
theorem c_35 {k f : Int} (hd : 2 ≤ d) (hL : ZL T R) (hp : Lnd p) (hA : zz_ok Y A) (hR : zc_rep T R J p A) (hraw : zk_raw T R J p) (hk : 0 ≤ k ∧ k ≤ 9) (hf : 0 ≤ f ∧ f ≤ 9) :
    (¬ (k ≤ 7 ∧ A 7 < 6) ∧ mv_cax d 35 [.inr (.inr (some p)), .inl (mv_c k), .inl (mv_c f)] (zz_S T J R G) = some (some (.inl (mv_c 0)), (zz_S T J R G))) ∨ ((k ≤ 7 ∧ A 7 < 6) ∧ ∃ T' R' J', mv_cax d 35 [.inr (.inr (some p)), .inl (mv_c k), .inl (mv_c f)] (zz_S T J R G) = some (some (.inl (mv_c 1)), zz_S T' J' R' G) ∧ zc_rep T' R' J' p (zt_ad A k f) ∧ zk_raw T' R' J' p ∧ ZL T' R' ∧ zt_gw p T T' R R' J J' ∧ T'.length = T.length + 1) := by
  have hpl : p + 12 < 73 := by rcases hp with rfl | rfl | rfl | rfl <;> omega
  have h7 := hA.2.2.2.2.2.2.1
  have e7 := hR.2.1.2.2.2.2
  by_cases hc : k ≤ 7 ∧ A 7 < 6
  · right
    refine ⟨hc, ?_⟩
    obtain ⟨h156, hL'⟩ := ZL_n hL
    have hnew : (T ++ [.inl 2])[T.length]? = some (.inl 2) := by
      rw [List.getElem?_append_right (Nat.le_refl _), Nat.sub_self]
      rfl
    obtain ⟨J1, hJ1⟩ : ∃ J1, J1 = zz_w J T.length (fun _ => 0) := ⟨_, rfl⟩
    have f1 : ∀ x, x ≠ T.length → J1 x = J x := fun x hx => by rw [hJ1, zw_n hx]
    have c26 := c_26 (T := T ++ [.inl 2]) (J := J1) (R := mv_uf R T.length (fun _ => none)) (G := G) (d := d - 1) (a := T.length) (n := A 7) (k := k) (f := f) (by omega) hnew
    obtain ⟨J2, hJ2⟩ : ∃ J2, J2 = zz_u (zz_u (zz_u J1 T.length 0 (A 7)) T.length 1 k) T.length 2 f := ⟨_, rfl⟩
    rw [← hJ2] at c26
    have f2 : ∀ x, x ≠ T.length → J2 x = J x := fun x hx => by rw [hJ2, zu_A hx, zu_A hx, zu_A hx, f1 x hx]
    have n0 : J2 T.length 0 = A 7 := by rw [hJ2, zu_k (by omega), zu_k (by omega), zu_s]
    have n1 : J2 T.length 1 = k := by rw [hJ2, zu_k (by omega), zu_s]
    have n2 : J2 T.length 2 = f := by rw [hJ2, zu_s]
    clear hJ2
    have g7 : J1 p 7 = A 7 := by rw [f1 p (by omega)]; exact e7
    have g7' : J2 p 7 = A 7 := by rw [f2 p (by omega)]; exact e7
    have ho : ∀ a : Nat, some T.length = some a → (T ++ [.inl 2])[a]? = some (.inl 2) := fun a ha => by
      cases ha
      exact hnew
    obtain ⟨R3, hR3⟩ : ∃ R3, R3 = mv_up (mv_uf R T.length (fun _ => none)) (p + 7) (A 7).toNat (some T.length) := ⟨_, rfl⟩
    have r3o : ∀ x k, x < T.length → x ≠ p + 7 → R3 x k = R x k := fun x k hx x2 => by
      rw [hR3]
      unfold mv_up mv_uf
      rw [if_neg x2, if_neg (by omega)]
    have r3p : ∀ k, R3 (p + 7) k = if k = (A 7).toNat then some T.length else R (p + 7) k := fun k => by
      rw [hR3]
      unfold mv_up mv_uf
      rw [if_pos rfl]
      by_cases q : k = (A 7).toNat
      · rw [if_pos q, if_pos q]
      · rw [if_neg q, if_neg q, if_neg (by omega)]
    have hL3 : ZL (T ++ [.inl 2]) R3 := ⟨hL'.1, fun q hq => by
      have o := zk_ref_o q hq
      have l := zt_ref_l q hq
      rw [r3o q.1 q.2.1 (by omega) (by rcases hp with rfl | rfl | rfl | rfl <;> omega)]
      exact hL.2 q hq⟩
    refine ⟨T ++ [.inl 2], R3, zz_u (zz_u J2 (p + 8) (A 7) 0) p 7 (A 7 + 1), ?_, ?_, ?_, hL3, ⟨⟨1, rfl⟩, fun x hx x2 => by rw [zu_A (by omega), zu_A (by omega), f2 x (by omega)], r3o⟩, by rw [List.length_append]; rfl⟩
    · rw [hR3] at hL3 ⊢
      refine zz_c (zz_call (by omega) t_35 rfl (fun n => e_35 _ _ _ _) ?_)
      simp (maxSteps := 5000000) (disch := first | assumption | omega) only [zg_L_7, e7, zr_L_14, zt_no, zz_0, zz_31, zz_add, zz_sub, zz_mul, zz_neg, zz_lt, zz_le, zz_eq, zz_div, zz_md, zz_dv, zz_abs, zz_max, zz_min, zz_nI, zz_be0, zz_be1, zz_zb, zz_z, zz_l0, zz_l, zz_lcmp, zo_rf, zo_nl, zo_nn, zo_rI, zo_rL, zo_rR, zo_rV, Int.add_zero, Int.zero_add, Int.mul_zero, Int.zero_mul, Int.one_mul, Int.mul_one, if_true, if_false, not_true_eq_false, not_false_eq_true]
      rw [← hJ1]
      simp (maxSteps := 5000000) (disch := first | assumption | omega) only [zg_L_7, g7, c26, zs_L_7 (o := some T.length), zr_L_15, g7', zs_L_8, zp_L_7, zu_A, zz_z, zz_0, zz_31, zz_add, zz_sub, zz_mul, zz_neg, zz_lt, zz_le, zz_eq, zz_div, zz_md, zz_dv, zz_abs, zz_max, zz_min, zz_nI, zz_be0, zz_be1, zz_zb, zz_z, zz_l0, zz_l, zz_lcmp, zo_rf, zo_nl, zo_nn, zo_rI, zo_rL, zo_rR, zo_rV, Int.add_zero, Int.zero_add, Int.mul_zero, Int.zero_mul, Int.one_mul, Int.mul_one, if_true, if_false, not_true_eq_false, not_false_eq_true]
      refine zz_Ei (fun h => absurd h (by omega)) (fun _ => ?_)
      refine zz_Ei (fun h => absurd h (by omega)) (fun _ => ?_)
      refine zz_Ei (fun _ => ?_) (fun h => absurd (by omega) h)
      exact zz_Er rfl
    · -- the land with a drawer more
      obtain ⟨q1, q2, q3, q4⟩ := hR
      have y7 : zt_ad A k f 7 = A 7 + 1 := zf_s
      have ylo : ∀ y, y < 40 → y ≠ 7 → zt_ad A k f y = A y := fun y hy hy' => by
        unfold zt_ad
        rw [zf_n hy', zf_n (by omega), zf_n (by omega), zf_n (by omega)]
      have fj : ∀ x, x ≠ T.length → x ≠ p → x ≠ p + 8 → zz_u (zz_u J2 (p + 8) (A 7) 0) p 7 (A 7 + 1) x = J x := fun x x1 x2 x3 => by rw [zu_A x2, zu_A x3, f2 x x1]
      have fp : ∀ y, y ≠ 7 → zz_u (zz_u J2 (p + 8) (A 7) 0) p 7 (A 7 + 1) p y = J p y := fun y hy => by rw [zu_k hy, zu_A (by omega), f2 p (by omega)]
      have hcd : ∀ c i, zz_cd (zt_ad A k f) c i = zz_cd A c i := fun c i => by
        unfold zz_cd
        rw [ylo 0 (by omega) (by omega), ylo 1 (by omega) (by omega)]
      refine ⟨?_, ?_, ?_, fun e e0 e1 => ?_⟩
      · unfold zc_geo at q1 ⊢
        rw [ylo 0 (by omega) (by omega), ylo 1 (by omega) (by omega), fp 0 (by omega), fp 1 (by omega), fp 2 (by omega), fj (p + 1) (by omega) (by omega) (by omega), fj (p + 2) (by omega) (by omega) (by omega), fj (p + 3) (by omega) (by omega) (by omega)]
        exact ⟨q1.1, fun c c0 c1 => ⟨(q1.2.1 c c0 c1).1, fun i i0 i1 => by rw [hcd]; exact (q1.2.1 c c0 c1).2 i i0 i1⟩, q1.2.2⟩
      · rw [fp 3 (by omega), fp 4 (by omega), fp 5 (by omega), fp 6 (by omega), zu_s, y7, ylo 5 (by omega) (by omega), ylo 2 (by omega) (by omega), ylo 3 (by omega) (by omega), ylo 4 (by omega) (by omega)]
        exact ⟨q2.1, q2.2.1, q2.2.2.1, q2.2.2.2.1, rfl⟩
      · have hn := hA.n
        rw [ylo 0 (by omega) (by omega), ylo 1 (by omega) (by omega), ylo 6 (by omega) (by omega), fj (p + 4) (by omega) (by omega) (by omega), fj (p + 5) (by omega) (by omega) (by omega), fj (p + 6) (by omega) (by omega) (by omega)]
        intro c c0 c1
        rw [ylo (8 + c) (by omega) (by omega), ylo (24 + c) (by omega) (by omega)]
        exact q3 c c0 c1
      · rw [y7] at e1
        by_cases ee : e = A 7
        · subst ee
          have a0 : zt_ad A k f (40 + 15 * A 7) = k := by
            unfold zt_ad
            rw [zf_n (by omega), zf_n (by omega), zf_n (by omega), zf_s]
          have a1 : zt_ad A k f (41 + 15 * A 7) = f := by
            unfold zt_ad
            rw [zf_n (by omega), zf_n (by omega), zf_s]
          have a2 : zt_ad A k f (42 + 15 * A 7) = 0 := by
            unfold zt_ad
            rw [zf_n (by omega), zf_s]
          unfold zc_dr
          rw [a0, a1, a2]
          refine ⟨⟨T.length, by rw [r3p, if_pos rfl], hnew, h156, ?_, ?_, ?_⟩, ?_, fun w w0 w1 => by omega⟩
          · rw [zu_A (by omega), zu_A (by omega)]; exact n0
          · rw [zu_A (by omega), zu_A (by omega)]; exact n1
          · rw [zu_A (by omega), zu_A (by omega)]; exact n2
          · rw [zu_A (by omega), zu_s]
        · obtain ⟨⟨a, b1, b2, b3, b4⟩, b5, b6⟩ := q4 e e0 (by omega)
          have hal := zt_lt b2
          have ya : ∀ j, 0 ≤ j → j < 15 → zt_ad A k f (40 + 15 * e + j) = A (40 + 15 * e + j) := fun j j0 j1 => by
            unfold zt_ad
            rw [zf_n (by omega), zf_n (by omega), zf_n (by omega), zf_n (by omega)]
          have y0 := ya 0 (by omega) (by omega)
          have y1 := ya 1 (by omega) (by omega)
          have y2 := ya 2 (by omega) (by omega)
          rw [show 40 + 15 * e + 0 = 40 + 15 * e by omega] at y0
          rw [show 40 + 15 * e + 1 = 41 + 15 * e by omega] at y1
          rw [show 40 + 15 * e + 2 = 42 + 15 * e by omega] at y2
          have hm := (hA.2.2.2.2.2.2.2.2 e e0 (by omega)).2.2.1
          unfold zc_dr
          rw [y0, y1, y2]
          refine ⟨⟨a, by rw [r3p, if_neg (by omega)]; exact b1, zk_app b2, b3, by rw [fj a (by omega) (by omega) (by omega)]; exact b4⟩, ?_, fun w w0 w1 => ?_⟩
          · rw [zu_A (by omega), zu_k ee, f2 _ (by omega)]
            exact b5
          · have z1 := ya (3 + 3 * w) (by omega) (by omega)
            have z2 := ya (4 + 3 * w) (by omega) (by omega)
            have z3 := ya (5 + 3 * w) (by omega) (by omega)
            rw [show 40 + 15 * e + (3 + 3 * w) = 43 + 15 * e + 3 * w by omega] at z1
            rw [show 40 + 15 * e + (4 + 3 * w) = 44 + 15 * e + 3 * w by omega] at z2
            rw [show 40 + 15 * e + (5 + 3 * w) = 45 + 15 * e + 3 * w by omega] at z3
            rw [z1, z2, z3, fj _ (by omega) (by omega) (by omega), fj _ (by omega) (by omega) (by omega), fj _ (by omega) (by omega) (by omega)]
            exact b6 w w0 w1
    · refine ⟨fun c c0 c1 => ?_, fun j a hj ha => ?_⟩
      · rw [zu_A (by omega), zu_A (by omega), f2 _ (by omega)]
        exact hraw.1 c c0 c1
      · rw [r3p] at ha
        by_cases q : j = (A 7).toNat
        · rw [if_pos q] at ha
          exact ho a ha
        · rw [if_neg q] at ha
          exact zk_app (hraw.2 j a hj ha)
  · left
    refine ⟨hc, ?_⟩
    refine zz_c (zz_call (by omega) t_35 rfl (fun n => e_35 _ _ _ _) ?_)
    simp (maxSteps := 5000000) (disch := first | assumption | omega) only [zg_L_7, e7, zz_z, zz_0, zz_31, zz_add, zz_sub, zz_mul, zz_neg, zz_lt, zz_le, zz_eq, zz_div, zz_md, zz_dv, zz_abs, zz_max, zz_min, zz_nI, zz_be0, zz_be1, zz_zb, zz_z, zz_l0, zz_l, zz_lcmp, zo_rf, zo_nl, zo_nn, zo_rI, zo_rL, zo_rR, zo_rV, Int.add_zero, Int.zero_add, Int.mul_zero, Int.zero_mul, Int.one_mul, Int.mul_one, if_true, if_false, not_true_eq_false, not_false_eq_true]
    refine zz_Ei (fun h => absurd h (by omega)) (fun _ => ?_)
    refine zz_Ei (fun _ => zz_Er rfl) (fun g => ?_)
    refine zz_Ei (fun h => absurd (by omega) hc) (fun _ => zz_Er rfl)
end ZACT
