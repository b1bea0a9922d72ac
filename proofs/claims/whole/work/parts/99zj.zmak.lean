/-! PURE LAYER, 115: constructors: rules, the small ones -/
/-- references, as a list: cell, field, target -/
def zq_rf : List (Nat × Nat × Nat) → Nat → Nat → Option Nat
  | [], _, _ => none
  | q :: l, a, k => if a = q.1 ∧ k = q.2.1 then some q.2.2 else zq_rf l a k
theorem zq_rf_up {l : List (Nat × Nat × Nat)} {a k b : Nat} : mv_up (zq_rf l) a k (some b) = zq_rf ((a, k, b) :: l) := by
  funext x y
  unfold mv_up
  show _ = if x = a ∧ y = k then some b else zq_rf l x y
  by_cases h : x = a
  · by_cases h' : y = k
    · rw [if_pos h, if_pos h', if_pos ⟨h, h'⟩]
    · rw [if_pos h, if_neg h', if_neg (fun q => h' q.2)]
  · rw [if_neg h, if_neg (fun q => h q.1)]
theorem zq_rf_n {a k : Nat} : ∀ {l : List (Nat × Nat × Nat)}, (∀ q ∈ l, q.1 ≠ a) → zq_rf l a k = none
  | [], _ => rfl
  | q :: l, h => by
    show (if a = q.1 ∧ k = q.2.1 then some q.2.2 else zq_rf l a k) = none
    rw [if_neg (fun g => h q List.mem_cons_self g.1.symm)]
    exact zq_rf_n (fun q' hq' => h q' (List.mem_cons_of_mem _ hq'))
theorem zq_rf_uf {l : List (Nat × Nat × Nat)} {a : Nat} (h : ∀ q ∈ l, q.1 < a) : mv_uf (zq_rf l) a (fun _ => none) = zq_rf l := by
  funext x y
  unfold mv_uf
  by_cases e : x = a
  · rw [if_pos e, e, zq_rf_n (fun q hq => by have := h q hq; omega)]
  · rw [if_neg e]
theorem zq_rf_u0 {l : List (Nat × Nat × Nat)} {a k : Nat} (h : ∀ q ∈ l, q.1 < a) : mv_up (zq_rf l) a k none = zq_rf l := by
  funext x y
  unfold mv_up
  by_cases e : x = a
  · rw [if_pos e, e, zq_rf_n (fun q hq => by have := h q hq; omega)]
    by_cases e' : y = k
    · rw [if_pos e']
    · rw [if_neg e']
  · rw [if_neg e]
theorem zq_rf_app {a k : Nat} : ∀ {l m : List (Nat × Nat × Nat)}, zq_rf (l ++ m) a k = (zq_rf l a k).or (zq_rf m a k)
  | [], m => rfl
  | q :: l, m => by
    show (if a = q.1 ∧ k = q.2.1 then some q.2.2 else zq_rf (l ++ m) a k) = (if a = q.1 ∧ k = q.2.1 then some q.2.2 else zq_rf l a k).or (zq_rf m a k)
    by_cases h : a = q.1 ∧ k = q.2.1
    · rw [if_pos h, if_pos h]
      rfl
    · rw [if_neg h, if_neg h]
      exact zq_rf_app
def zq_rw (a : Nat) : Nat → List (Nat × Nat × Nat)
  | 0 => []
  | n + 1 => (a, n, a + 1 + n) :: zq_rw a n
theorem zq_rw_v {a k : Nat} : ∀ n : Nat, zq_rf (zq_rw a n) a k = if k < n then some (a + 1 + k) else none
  | 0 => by rw [if_neg (by omega)]; rfl
  | n + 1 => by
    show (if a = a ∧ k = n then some (a + 1 + n) else zq_rf (zq_rw a n) a k) = _
    rw [zq_rw_v n]
    by_cases h : k = n
    · rw [if_pos ⟨rfl, h⟩, if_pos (by omega), h]
    · rw [if_neg (fun q => h q.2)]
      by_cases h' : k < n
      · rw [if_pos h', if_pos (by omega)]
      · rw [if_neg h', if_neg (by omega)]
theorem zq_rw_k {a : Nat} : ∀ n : Nat, ∀ q ∈ zq_rw a n, q.1 = a
  | 0, q, h => by cases h
  | n + 1, q, h => by
    rcases List.mem_cons.mp h with rfl | h
    · rfl
    · exact zq_rw_k n q h
theorem zq_rf_ma {l : List (Nat × Nat × Nat)} {a n : Nat} (h : ∀ q ∈ l, q.1 < a) : (fun x y => if x = a then (if y < n then some (a + 1 + y) else none) else if a ≤ x then none else zq_rf l x y) = zq_rf (zq_rw a n ++ l) := by
  funext x y
  rw [zq_rf_app]
  by_cases e : x = a
  · rw [if_pos e, e, zq_rw_v, zq_rf_n (l := l) (fun q hq => by have := h q hq; omega), Option.or_none]
  · rw [if_neg e, zq_rf_n (l := zq_rw a n) (fun q hq => by rw [zq_rw_k n q hq]; exact fun g => e g.symm), Option.none_or]
    by_cases e' : a ≤ x
    · rw [if_pos e', zq_rf_n (fun q hq => by have := h q hq; omega)]
    · rw [if_neg e']
theorem zq_j0 {J : Nat → Int → Int} {a : Nat} : mv_uf (fun a k => mv_c (J a (k : Int))) a (fun _ => 0) = fun (x y : Nat) => mv_c (zz_w J a (fun _ => 0) x (y : Int)) := by
  funext x y
  unfold mv_uf zz_w
  by_cases e : x = a
  · rw [if_pos e, if_pos e]
    exact zz_0
  · rw [if_neg e, if_neg e]
/-- an object of class c lies at p, a cells are made, references go from cells made -/
def zq_g (p c a : Nat) (T : List mv_T) (l : List (Nat × Nat × Nat)) : Prop := T[p]? = some (.inl c) ∧ T.length = a ∧ ∀ q ∈ l, q.1 < a
theorem zq_ap {T l : List mv_T} {a : Nat} (i : Nat) (h : T.length = a) : (T ++ l)[a + i]? = l[i]? := by
  rw [List.getElem?_append_right (by omega), h, show a + i - a = i by omega]
section ZMAK
variable {T : List mv_T} {J : Nat → Int → Int} {G : Nat → Nat → Int64} {R : Nat → Nat → Option Nat} {d p c a t f : Nat} {n v : Int} {l : List (Nat × Nat × Nat)} {Q : Option mv_V × mv_S → Prop}
theorem zq_na (g2 : T.length = a) (g3 : ∀ q ∈ l, q.1 < a) : mv_na (zz_S T J (zq_rf l) G) t n.toNat = zz_S (T ++ [.inr (t, n.toNat)]) (zz_w J a (fun _ => 0)) (zq_rf l) (mv_uf G a (fun _ => 0)) := by
  show ((T ++ [.inr (t, n.toNat)], mv_uf (fun a k => mv_c (J a (k : Int))) T.length (fun _ => 0), mv_uf (zq_rf l) T.length (fun _ => none), mv_uf G T.length (fun _ => 0)) : mv_S) = _
  rw [g2, zq_j0, zq_rf_uf g3]
  rfl
theorem zq_no (g2 : T.length = a) (g3 : ∀ q ∈ l, q.1 < a) : mv_no (zz_S T J (zq_rf l) G) c = zz_S (T ++ [.inl c]) (zz_w J a (fun _ => 0)) (zq_rf l) G := by
  show ((T ++ [.inl c], mv_uf (fun a k => mv_c (J a (k : Int))) T.length (fun _ => 0), mv_uf (zq_rf l) T.length (fun _ => none), G) : mv_S) = _
  rw [g2, zq_j0, zq_rf_uf g3]
  rfl
theorem zq_Ena {k : Nat → Option Nat → mv_S → mv_O} (g2 : T.length = a) (g3 : ∀ q ∈ l, q.1 < a) (n0 : 0 ≤ n) (n1 : n < 1000) (kk : ∀ G', zz_E (fun m => k m (some a) (zz_S (T ++ [.inr (t, n.toNat)]) (zz_w J a (fun _ => 0)) (zq_rf l) G')) Q) : zz_E (fun m => mo_na (zz_S T J (zq_rf l) G) t (mv_c n) (k m)) Q := by
  refine zz_Ec (fun m => ?_) (kk (mv_uf G a (fun _ => 0)))
  unfold mo_na
  rw [zz_ix n0 (by omega) (by omega), zq_na g2 g3]
  show k m (some T.length) _ = _
  rw [g2]
theorem zq_Emk {k : Nat → mv_S → mv_O} (g : zq_g p c a T l) (hp : p < a) (n0 : 0 ≤ n) (n1 : n < 1000) (kk : zq_g p c (a + 1) (T ++ [.inr (t, n.toNat)]) ((p, f, a) :: l) → ∀ G', zz_E (fun m => k m (zz_S (T ++ [.inr (t, n.toNat)]) (zz_w J a (fun _ => 0)) (zq_rf ((p, f, a) :: l)) G')) Q) : zz_E (fun m => mo_na (zz_S T J (zq_rf l) G) t (mv_c n) fun o s => mo_pR s p c f o (k m)) Q := by
  obtain ⟨g1, g2, g3⟩ := g
  refine zq_Ena g2 g3 n0 n1 (fun G' => ?_)
  refine zz_Ec (fun m => ?_) (kk ⟨zk_app g1, by rw [List.length_append, g2]; rfl, fun q hq => ?_⟩ G')
  · rw [zz_pR (zk_app g1), zq_rf_up]
  · rcases List.mem_cons.mp hq with rfl | hq
    · show p < a + 1
      omega
    · have := g3 q hq
      omega
theorem zq_Ema {k : Nat → mv_S → mv_O} {m : Int} (g : zq_g p c a T l) (hp : p < a) (n0 : 0 ≤ n) (n1 : n < 1000) (m0 : 0 ≤ m) (m1 : m < 1000) (kk : zq_g p c (a + 1 + n.toNat) (T ++ (.inr (5, n.toNat) :: List.replicate n.toNat (.inr (0, m.toNat)))) ((p, f, a) :: (zq_rw a n.toNat ++ l)) → zz_E (fun i => k i (zz_S (T ++ (.inr (5, n.toNat) :: List.replicate n.toNat (.inr (0, m.toNat)))) (fun x => if a ≤ x then (fun _ => 0) else J x) (zq_rf ((p, f, a) :: (zq_rw a n.toNat ++ l))) G)) Q) : zz_E (fun i => mo_ma (zz_S T J (zq_rf l) G) (mv_c n) (mv_c m) fun o s => mo_pR s p c f o (k i)) Q := by
  obtain ⟨g1, g2, g3⟩ := g
  refine zz_Ec (fun i => ?_) (kk ⟨zk_app g1, ?_, fun q hq => ?_⟩)
  · unfold mo_ma
    rw [zz_ix n0 (by omega) (by omega), zz_ix m0 (by omega) (by omega)]
    have e : mv_ma (zz_S T J (zq_rf l) G) n.toNat m.toNat = zz_S (T ++ (.inr (5, n.toNat) :: List.replicate n.toNat (.inr (0, m.toNat)))) (fun x => if a ≤ x then (fun _ => 0) else J x) (zq_rf (zq_rw a n.toNat ++ l)) G := by
      show ((T ++ (.inr (5, n.toNat) :: List.replicate n.toNat (.inr (0, m.toNat))), (fun (x y : Nat) => if T.length ≤ x then (0 : Int32) else mv_c (J x (y : Int))), (fun (x y : Nat) => if x = T.length then (if y < n.toNat then some (T.length + 1 + y) else none) else if T.length ≤ x then none else zq_rf l x y), G) : mv_S) = _
      rw [g2, zq_rf_ma g3]
      show _ = ((T ++ (.inr (5, n.toNat) :: List.replicate n.toNat (.inr (0, m.toNat))), (fun (x y : Nat) => mv_c ((if a ≤ x then (fun _ => (0 : Int)) else J x) (y : Int))), zq_rf (zq_rw a n.toNat ++ l), G) : mv_S)
      congr 2
      funext x y
      by_cases q : a ≤ x
      · rw [if_pos q, if_pos q]
        exact zz_0
      · rw [if_neg q, if_neg q]
    show mo_pR (mv_ma (zz_S T J (zq_rf l) G) n.toNat m.toNat) p c f (some T.length) (k i) = _
    rw [e, g2, zz_pR (zk_app g1), zq_rf_up]
  · rw [List.length_append, List.length_cons, List.length_replicate, g2]
    omega
  · rcases List.mem_cons.mp hq with rfl | hq
    · show p < a + 1 + n.toNat
      omega
    · rcases List.mem_append.mp hq with hq | hq
      · have := zq_rw_k _ q hq
        omega
      · have := g3 q hq
        omega
theorem zq_Epi {k : Nat → mv_S → mv_O} {fi : Int} (g : zq_g p c a T l) (hf : ((f : Nat) : Int) = fi) (kk : zz_E (fun m => k m (zz_S T (zz_u J p fi v) R G)) Q) : zz_E (fun m => mo_pI (zz_S T J R G) p c f (mv_c v) (k m)) Q := by
  refine zz_Ec (fun m => ?_) kk
  rw [zz_pI g.1, hf]
theorem zq_Ep0 {k : Nat → mv_S → mv_O} (g : zq_g p c a T l) (hl : ∀ q ∈ l, q.1 < p) (kk : zz_E (fun m => k m (zz_S T J (zq_rf l) G)) Q) : zz_E (fun m => mo_pR (zz_S T J (zq_rf l) G) p c f none (k m)) Q := by
  refine zz_Ec (fun m => ?_) kk
  rw [zz_pR g.1, zq_rf_u0 hl]
theorem zq_Ez {k : Nat → mv_O} (kk : zz_E k Q) (hv : v = 0 ∨ v = 1) : zz_E (fun m => mo_z (mv_c v) (k m)) Q := zz_Ec (fun m => zz_z hv) kk
def zq_lt : List mv_T := [.inr (0, 16), .inr (0, 256), .inr (0, 64), .inr (0, 16), .inr (0, 16), .inr (1, 16), .inr (3, 6), .inr (0, 6), .inr (0, 24), .inr (0, 24), .inr (0, 24), .inr (0, 10)]
def zq_ll (p : Nat) : List (Nat × Nat × Nat) := [(p, 19, p + 12), (p, 18, p + 11), (p, 17, p + 10), (p, 16, p + 9), (p, 15, p + 8), (p, 14, p + 7), (p, 13, p + 6), (p, 12, p + 5), (p, 11, p + 4), (p, 10, p + 3), (p, 9, p + 2), (p, 8, p + 1)]
/-- the first row -/
def zq_A0 : Int → Int := fun y => if y = 0 ∨ y = 1 then 3 else if y = 2 then 60 else if 8 ≤ y ∧ y < 24 then 2 else if 24 ≤ y ∧ y < 40 then -4 else 0
def zq_ld (J : Nat → Int → Int) (p : Nat) : Prop := (J p 0 = 3 ∧ J p 1 = 3 ∧ J p 2 = 9 ∧ J p 3 = 0) ∧ (J p 4 = 60 ∧ J p 5 = 0 ∧ J p 6 = 0 ∧ J p 7 = 0) ∧ (∀ e, 0 ≤ e → e < 9 → zt_ge J p zq_A0 9 3 e) ∧ ∀ k, 0 ≤ k → k < 16 → J (p + 4) k = 2 ∧ J (p + 5) k = -1 ∧ J (p + 6) k = 0
theorem zq_Llt (hlen : T.length = p + 1) (g1 : T[p]? = some (.inl 3)) : zq_L (T ++ zq_lt) (zq_rf (zq_ll p ++ l)) p := by
  refine ⟨zk_app g1, ⟨zq_ap 0 hlen, ?_⟩, ⟨zq_ap 1 hlen, ?_⟩, ⟨zq_ap 2 hlen, ?_⟩, ⟨zq_ap 3 hlen, ?_⟩, ⟨zq_ap 4 hlen, ?_⟩, zq_ap 5 hlen, ?_⟩ <;> (rw [zq_rf_app]; simp [zq_ll, zq_rf])
theorem k_29 (hd : 3 ≤ d) (hp : Lnd p) (g : zq_g p 3 (p + 1) T l) : ∃ J' G', mv_cax d 29 [.inr (.inr (some p))] (zz_S T J (zq_rf l) G) = some (none, zz_S (T ++ zq_lt) J' (zq_rf (zq_ll p ++ l)) G') ∧ (∀ x, x < p → J' x = J x) ∧ zq_ld J' p := by
  have hpl : p + 12 < 73 ∧ 17 ≤ p := by rcases hp with rfl | rfl | rfl | rfl <;> omega
  suffices h : ∃ s, mv_cax d 29 [.inr (.inr (some p))] (zz_S T J (zq_rf l) G) = some s ∧ ∃ J' G', s = (none, zz_S (T ++ zq_lt) J' (zq_rf (zq_ll p ++ l)) G') ∧ (∀ x, x < p → J' x = J x) ∧ zq_ld J' p by
    obtain ⟨s, g1, J', G', rfl, g2⟩ := h
    exact ⟨J', G', g1, g2⟩
  obtain ⟨Q, hQ⟩ : ∃ Q : Option mv_V × mv_S → Prop, Q = fun s => ∃ J' G', s = (none, zz_S (T ++ zq_lt) J' (zq_rf (zq_ll p ++ l)) G') ∧ (∀ x, x < p → J' x = J x) ∧ zq_ld J' p := ⟨_, rfl⟩
  refine zz_call (by omega) t_29 rfl (fun n => e_29 _ _) ?_
  rw [← hQ]
  have hLL := zq_Llt (l := l) g.2.1 g.1
  have fin : ∀ (J5 : Nat → Int → Int) (G5 : Nat → Nat → Int64), (∀ x, x < p → J5 x = J x) → (J5 p 4 = 60 ∧ J5 p 5 = 0 ∧ J5 p 6 = 0 ∧ J5 p 7 = 0) → zz_E (fun _ => mo_is (zz_S (T ++ zq_lt) J5 (zq_rf (zq_ll p ++ l)) G5) p 3 (mo_rV (mv_cax (d - 1) 30 [.inr (.inr (some p)), .inl (mv_c 3), .inl (mv_c 3)] (zz_S (T ++ zq_lt) J5 (zq_rf (zq_ll p ++ l)) G5)) fun s => some (none, s))) Q := by
    intro J5 G5 h1 h2
    obtain ⟨J6, k30, w1, w2, w3, w4, w5⟩ := k_30 (T := T ++ zq_lt) (J := J5) (R := zq_rf (zq_ll p ++ l)) (G := G5) (d := d - 1) (p := p) (P := 3) (C := 3) (A := zq_A0) (by omega) hLL hp (by omega) (by omega) rfl rfl
    refine zz_Ec (fun m => by rw [zqi_L hLL hp, k30, zo_rV]) (zz_Er ?_)
    rw [hQ]
    refine ⟨J6, G5, rfl, fun x hx => by rw [w1 x (by omega), h1 x hx], ⟨w3, ⟨by rw [w2 4 (by omega)]; exact h2.1, by rw [w2 5 (by omega)]; exact h2.2.1, by rw [w2 6 (by omega)]; exact h2.2.2.1, by rw [w2 7 (by omega)]; exact h2.2.2.2⟩, w4, w5⟩⟩

  refine zq_Epi (fi := 4) g rfl ?_
  refine zq_Epi (fi := 5) g rfl ?_
  refine zq_Epi (fi := 6) g rfl ?_
  refine zq_Epi (fi := 7) g rfl ?_
  have g0 := g
  refine zq_Emk (a := p + 1) g (by omega) (by omega) (by omega) (fun g G0 => ?_)
  refine zq_Emk (a := p + 2) g (by omega) (by omega) (by omega) (fun g G1 => ?_)
  refine zq_Emk (a := p + 3) g (by omega) (by omega) (by omega) (fun g G2 => ?_)
  refine zq_Emk (a := p + 4) g (by omega) (by omega) (by omega) (fun g G3 => ?_)
  refine zq_Emk (a := p + 5) g (by omega) (by omega) (by omega) (fun g G4 => ?_)
  refine zq_Emk (a := p + 6) g (by omega) (by omega) (by omega) (fun g G5 => ?_)
  refine zq_Emk (a := p + 7) g (by omega) (by omega) (by omega) (fun g G6 => ?_)
  refine zq_Emk (a := p + 8) g (by omega) (by omega) (by omega) (fun g G7 => ?_)
  refine zq_Emk (a := p + 9) g (by omega) (by omega) (by omega) (fun g G8 => ?_)
  refine zq_Emk (a := p + 10) g (by omega) (by omega) (by omega) (fun g G9 => ?_)
  refine zq_Emk (a := p + 11) g (by omega) (by omega) (by omega) (fun g G10 => ?_)
  refine zq_Emk (a := p + 12) g (by omega) (by omega) (by omega) (fun g G11 => ?_)
  have eT : ((((((((((((T ++ [.inr (0, (16 : Int).toNat)]) ++ [.inr (0, (256 : Int).toNat)]) ++ [.inr (0, (64 : Int).toNat)]) ++ [.inr (0, (16 : Int).toNat)]) ++ [.inr (0, (16 : Int).toNat)]) ++ [.inr (1, (16 : Int).toNat)]) ++ [.inr (3, (6 : Int).toNat)]) ++ [.inr (0, (6 : Int).toNat)]) ++ [.inr (0, (24 : Int).toNat)]) ++ [.inr (0, (24 : Int).toNat)]) ++ [.inr (0, (24 : Int).toNat)]) ++ [.inr (0, (10 : Int).toNat)]) = T ++ zq_lt := by
    simp only [List.append_assoc, List.cons_append, List.nil_append]
    rfl
  have ff := fin (zz_w (zz_w (zz_w (zz_w (zz_w (zz_w (zz_w (zz_w (zz_w (zz_w (zz_w (zz_w (zz_u (zz_u (zz_u (zz_u J p 4 60) p 5 0) p 6 0) p 7 0) (p + 1) (fun _ => 0)) (p + 2) (fun _ => 0)) (p + 3) (fun _ => 0)) (p + 4) (fun _ => 0)) (p + 5) (fun _ => 0)) (p + 6) (fun _ => 0)) (p + 7) (fun _ => 0)) (p + 8) (fun _ => 0)) (p + 9) (fun _ => 0)) (p + 10) (fun _ => 0)) (p + 11) (fun _ => 0)) (p + 12) (fun _ => 0)) G11 (fun x hx => by rw [zw_n (by omega), zw_n (by omega), zw_n (by omega), zw_n (by omega), zw_n (by omega), zw_n (by omega), zw_n (by omega), zw_n (by omega), zw_n (by omega), zw_n (by omega), zw_n (by omega), zw_n (by omega), zu_A (by omega), zu_A (by omega), zu_A (by omega), zu_A (by omega)]) ⟨by rw [zw_n (by omega), zw_n (by omega), zw_n (by omega), zw_n (by omega), zw_n (by omega), zw_n (by omega), zw_n (by omega), zw_n (by omega), zw_n (by omega), zw_n (by omega), zw_n (by omega), zw_n (by omega)]; rw [zu_k (by omega), zu_k (by omega), zu_k (by omega), zu_s], by rw [zw_n (by omega), zw_n (by omega), zw_n (by omega), zw_n (by omega), zw_n (by omega), zw_n (by omega), zw_n (by omega), zw_n (by omega), zw_n (by omega), zw_n (by omega), zw_n (by omega), zw_n (by omega)]; rw [zu_k (by omega), zu_k (by omega), zu_s], by rw [zw_n (by omega), zw_n (by omega), zw_n (by omega), zw_n (by omega), zw_n (by omega), zw_n (by omega), zw_n (by omega), zw_n (by omega), zw_n (by omega), zw_n (by omega), zw_n (by omega), zw_n (by omega)]; rw [zu_k (by omega), zu_s], by rw [zw_n (by omega), zw_n (by omega), zw_n (by omega), zw_n (by omega), zw_n (by omega), zw_n (by omega), zw_n (by omega), zw_n (by omega), zw_n (by omega), zw_n (by omega), zw_n (by omega), zw_n (by omega)]; rw [zu_s]⟩
  rw [← eT] at ff
  exact ff
theorem k_60 (hd : 1 ≤ d) (g : zq_g p 4 (p + 1) T l) (hl : ∀ q ∈ l, q.1 < p) : ∃ J' G', mv_cax d 60 [.inr (.inr (some p))] (zz_S T J (zq_rf l) G) = some (none, zz_S (T ++ [.inr (0, 100)]) J' (zq_rf ((p, 4, p + 1) :: l)) G') ∧ (∀ x, x < p → J' x = J x) ∧ J' p 1 = 0 := by
  suffices h : ∃ s, mv_cax d 60 [.inr (.inr (some p))] (zz_S T J (zq_rf l) G) = some s ∧ ∃ J' G', s = (none, zz_S (T ++ [.inr (0, 100)]) J' (zq_rf ((p, 4, p + 1) :: l)) G') ∧ (∀ x, x < p → J' x = J x) ∧ J' p 1 = 0 by
    obtain ⟨s, g1, J', G', rfl, g2⟩ := h
    exact ⟨J', G', g1, g2⟩
  refine zz_call (by omega) t_60 rfl (fun n => e_60 _ _) ?_
  refine zq_Ep0 g hl ?_
  refine zq_Ez ?_ (Or.inl rfl)
  refine zq_Epi (fi := 1) g rfl ?_
  refine zq_Epi (fi := 2) g rfl ?_
  refine zq_Epi (fi := 3) g rfl ?_
  refine zq_Emk (a := p + 1) g (by omega) (by omega) (by omega) (fun g G1 => ?_)
  exact zz_Er ⟨_, G1, rfl, fun x hx => by rw [zw_n (by omega), zu_A (by omega), zu_A (by omega), zu_A (by omega)], by rw [zw_n (by omega), zu_k (by omega), zu_k (by omega), zu_s]⟩
theorem k_75 (hd : 1 ≤ d) (g : zq_g p 5 (p + 1) T l) : ∃ J' G', mv_cax d 75 [.inr (.inr (some p))] (zz_S T J (zq_rf l) G) = some (none, zz_S (T ++ [.inr (0, 0), .inr (0, 4)]) J' (zq_rf ((p, 4, p + 2) :: (p, 0, p + 1) :: l)) G') ∧ ∀ x, x < p → J' x = J x := by
  suffices h : ∃ s, mv_cax d 75 [.inr (.inr (some p))] (zz_S T J (zq_rf l) G) = some s ∧ ∃ J' G', s = (none, zz_S (T ++ [.inr (0, 0), .inr (0, 4)]) J' (zq_rf ((p, 4, p + 2) :: (p, 0, p + 1) :: l)) G') ∧ ∀ x, x < p → J' x = J x by
    obtain ⟨s, g1, J', G', rfl, g2⟩ := h
    exact ⟨J', G', g1, g2⟩
  refine zz_call (by omega) t_75 rfl (fun n => e_75 _ _) ?_
  refine zq_Emk (a := p + 1) g (by omega) (by omega) (by omega) (fun g G1 => ?_)
  refine zq_Epi (fi := 1) g rfl ?_
  refine zq_Epi (fi := 2) g rfl ?_
  refine zq_Epi (fi := 3) g rfl ?_
  refine zq_Emk (a := p + 2) g (by omega) (by omega) (by omega) (fun g G2 => ?_)
  have eT : (T ++ [.inr (0, (0 : Int).toNat)]) ++ [.inr (0, (4 : Int).toNat)] = T ++ [.inr (0, 0), .inr (0, 4)] := by
    simp only [List.append_assoc, List.cons_append, List.nil_append]
    rfl
  rw [eT]
  exact zz_Er ⟨_, G2, rfl, fun x hx => by rw [zw_n (by omega), zu_A (by omega), zu_A (by omega), zu_A (by omega), zw_n (by omega)]⟩
theorem k_0 (hd : 1 ≤ d) (g : zq_g p 0 (p + 1) T l) : ∃ J' G', mv_cax d 0 [.inr (.inr (some p))] (zz_S T J (zq_rf l) G) = some (none, zz_S (T ++ [.inr (0, 160), .inr (0, 160), .inr (0, 16), .inr (0, 16)]) J' (zq_rf ((p, 3, p + 4) :: (p, 2, p + 3) :: (p, 1, p + 2) :: (p, 0, p + 1) :: l)) G') ∧ ∀ x, x < p → J' x = J x := by
  suffices h : ∃ s, mv_cax d 0 [.inr (.inr (some p))] (zz_S T J (zq_rf l) G) = some s ∧ ∃ J' G', s = (none, zz_S (T ++ [.inr (0, 160), .inr (0, 160), .inr (0, 16), .inr (0, 16)]) J' (zq_rf ((p, 3, p + 4) :: (p, 2, p + 3) :: (p, 1, p + 2) :: (p, 0, p + 1) :: l)) G') ∧ ∀ x, x < p → J' x = J x by
    obtain ⟨s, g1, J', G', rfl, g2⟩ := h
    exact ⟨J', G', g1, g2⟩
  refine zz_call (by omega) t_0 rfl (fun n => e_0 _ _) ?_
  refine zq_Emk (a := p + 1) g (by omega) (by omega) (by omega) (fun g G1 => ?_)
  refine zq_Emk (a := p + 2) g (by omega) (by omega) (by omega) (fun g G2 => ?_)
  refine zq_Emk (a := p + 3) g (by omega) (by omega) (by omega) (fun g G3 => ?_)
  refine zq_Emk (a := p + 4) g (by omega) (by omega) (by omega) (fun g G4 => ?_)
  refine zq_Epi (fi := 4) g rfl ?_
  refine zq_Epi (fi := 5) g rfl ?_
  have eT : (((T ++ [.inr (0, (160 : Int).toNat)]) ++ [.inr (0, (160 : Int).toNat)]) ++ [.inr (0, (16 : Int).toNat)]) ++ [.inr (0, (16 : Int).toNat)] = T ++ [.inr (0, 160), .inr (0, 160), .inr (0, 16), .inr (0, 16)] := by
    simp only [List.append_assoc, List.cons_append, List.nil_append]
    rfl
  rw [eT]
  exact zz_Er ⟨_, G4, rfl, fun x hx => by rw [zu_A (by omega), zu_A (by omega), zw_n (by omega), zw_n (by omega), zw_n (by omega), zw_n (by omega)]⟩
def zq_dt : List mv_T := [.inr (0, 16), .inr (0, 16), .inr (0, 16), .inr (0, 16), .inr (0, 16), .inr (5, 16), .inr (0, 16), .inr (0, 16), .inr (0, 16), .inr (0, 16), .inr (0, 16), .inr (0, 16), .inr (0, 16), .inr (0, 16), .inr (0, 16), .inr (0, 16), .inr (0, 16), .inr (0, 16), .inr (0, 16), .inr (0, 16), .inr (0, 16), .inr (0, 16), .inr (0, 16), .inr (0, 16), .inr (0, 16), .inr (0, 16)]
def zq_dl (p : Nat) : List (Nat × Nat × Nat) := [(p, 13, p + 26), (p, 12, p + 25), (p, 11, p + 24), (p, 10, p + 23), (p, 9, p + 6), (p + 6, 15, p + 22), (p + 6, 14, p + 21), (p + 6, 13, p + 20), (p + 6, 12, p + 19), (p + 6, 11, p + 18), (p + 6, 10, p + 17), (p + 6, 9, p + 16), (p + 6, 8, p + 15), (p + 6, 7, p + 14), (p + 6, 6, p + 13), (p + 6, 5, p + 12), (p + 6, 4, p + 11), (p + 6, 3, p + 10), (p + 6, 2, p + 9), (p + 6, 1, p + 8), (p + 6, 0, p + 7), (p, 8, p + 5), (p, 7, p + 4), (p, 6, p + 3), (p, 5, p + 2), (p, 2, p + 1)]
theorem k_13 (hd : 1 ≤ d) (g : zq_g p 1 (p + 1) T l) : ∃ J' G', mv_cax d 13 [.inr (.inr (some p))] (zz_S T J (zq_rf l) G) = some (none, zz_S (T ++ zq_dt) J' (zq_rf (zq_dl p ++ l)) G') ∧ ∀ x, x < p → J' x = J x := by
  suffices h : ∃ s, mv_cax d 13 [.inr (.inr (some p))] (zz_S T J (zq_rf l) G) = some s ∧ ∃ J' G', s = (none, zz_S (T ++ zq_dt) J' (zq_rf (zq_dl p ++ l)) G') ∧ ∀ x, x < p → J' x = J x by
    obtain ⟨s, g1, J', G', rfl, g2⟩ := h
    exact ⟨J', G', g1, g2⟩
  refine zz_call (by omega) t_13 rfl (fun n => e_13 _ _) ?_
  refine zq_Epi (fi := 0) g rfl ?_
  refine zq_Epi (fi := 1) g rfl ?_
  refine zq_Emk (a := p + 1) g (by omega) (by omega) (by omega) (fun g G1 => ?_)
  refine zq_Epi (fi := 3) g rfl ?_
  refine zq_Epi (fi := 4) g rfl ?_
  refine zq_Emk (a := p + 2) g (by omega) (by omega) (by omega) (fun g G2 => ?_)
  refine zq_Emk (a := p + 3) g (by omega) (by omega) (by omega) (fun g G3 => ?_)
  refine zq_Emk (a := p + 4) g (by omega) (by omega) (by omega) (fun g G4 => ?_)
  refine zq_Emk (a := p + 5) g (by omega) (by omega) (by omega) (fun g G5 => ?_)
  refine zq_Ema (a := p + 6) g (by omega) (by omega) (by omega) (by omega) (by omega) (fun g => ?_)
  refine zq_Emk (a := p + 23) g (by omega) (by omega) (by omega) (fun g G6 => ?_)
  refine zq_Emk (a := p + 24) g (by omega) (by omega) (by omega) (fun g G7 => ?_)
  refine zq_Emk (a := p + 25) g (by omega) (by omega) (by omega) (fun g G8 => ?_)
  refine zq_Emk (a := p + 26) g (by omega) (by omega) (by omega) (fun g G9 => ?_)
  have eT : ((((((((((T ++ [.inr (0, (16 : Int).toNat)]) ++ [.inr (0, (16 : Int).toNat)]) ++ [.inr (0, (16 : Int).toNat)]) ++ [.inr (0, (16 : Int).toNat)]) ++ [.inr (0, (16 : Int).toNat)]) ++ (.inr (5, (16 : Int).toNat) :: List.replicate (16 : Int).toNat (.inr (0, (16 : Int).toNat)))) ++ [.inr (0, (16 : Int).toNat)]) ++ [.inr (0, (16 : Int).toNat)]) ++ [.inr (0, (16 : Int).toNat)]) ++ [.inr (0, (16 : Int).toNat)]) = T ++ zq_dt := by
    rw [show List.replicate (16 : Int).toNat (.inr (0, (16 : Int).toNat) : mv_T) = [.inr (0, 16), .inr (0, 16), .inr (0, 16), .inr (0, 16), .inr (0, 16), .inr (0, 16), .inr (0, 16), .inr (0, 16), .inr (0, 16), .inr (0, 16), .inr (0, 16), .inr (0, 16), .inr (0, 16), .inr (0, 16), .inr (0, 16), .inr (0, 16)] from rfl]
    simp only [List.append_assoc, List.cons_append, List.nil_append]
    rfl
  rw [eT]
  refine zz_Er ⟨_, G9, rfl, fun x hx => ?_⟩
  rw [zw_n (by omega), zw_n (by omega), zw_n (by omega), zw_n (by omega)]
  show (if p + 6 ≤ x then (fun _ => (0 : Int)) else _) = _
  rw [if_neg (by omega), zw_n (by omega), zw_n (by omega), zw_n (by omega), zw_n (by omega), zu_A (by omega), zu_A (by omega), zw_n (by omega), zu_A (by omega), zu_A (by omega)]
end ZMAK
