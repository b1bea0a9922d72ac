/-! PURE LAYER, 89: texts: the two passes -/
/-- the first pass: the number of the statements, or the fault -/
def zt_p1 (B : Int → Int) (N : Int) : Nat → Int → Int → Int
  | 0, _, n => n
  | m + 1, i, n => if (zt_sm B N i).1 = true then (if (zt_sm B N i).2.1 < N then zt_p1 B N m (zt_sm B N i).2.1 (n + 1) else n + 1) else -1000 - (zt_sm B N i).2.1
/-- the second pass: the number of the statements or the fault, and the object -/
def zt_p2 (B : Int → Int) (N : Int) : Nat → Int → (Int → Int) → Int → Int × (Int → Int)
  | 0, _, A, n => (n, A)
  | m + 1, i, A, n => if i < N then (match zt_act A (B i) (zt_sm B N i).2.2 with
    | none => (-2000 - i, A)
    | some A' => zt_p2 B N m (zt_sm B N i).2.1 A' (n + 1)) else (n, A)
/-- cells that a text's passes change -/
def zt_gx (p : Nat) (T T' : List mv_T) (R R' : Nat → Nat → Option Nat) (J J' : Nat → Int → Int) : Prop := (∃ n : Nat, T' = T ++ List.replicate n (.inl 2)) ∧ (∀ x, x < T.length → (x < p ∨ p + 11 < x) → x ≠ 70 → x ≠ 72 → J' x = J x) ∧ (∀ x k, x < T.length → x ≠ p + 7 → R' x k = R x k) ∧ J' 70 1 = J 70 1
theorem zt_gx_r {p : Nat} {T : List mv_T} {R : Nat → Nat → Option Nat} {J : Nat → Int → Int} : zt_gx p T T R R J J := ⟨⟨0, (List.append_nil T).symm⟩, fun _ _ _ _ _ => rfl, fun _ _ _ _ => rfl, rfl⟩
theorem zt_gx_t {p : Nat} {T T1 T2 : List mv_T} {R R1 R2 : Nat → Nat → Option Nat} {J J1 J2 : Nat → Int → Int} (h : zt_gx p T T1 R R1 J J1) (h' : zt_gx p T1 T2 R1 R2 J1 J2) : zt_gx p T T2 R R2 J J2 := by
  obtain ⟨⟨n, rfl⟩, h2, h3, h4⟩ := h
  obtain ⟨⟨m, rfl⟩, k2, k3, k4⟩ := h'
  rw [List.length_append] at k2 k3
  exact ⟨⟨n + m, by rw [List.append_assoc, List.replicate_append_replicate]⟩, fun x hx x2 x3 x4 => by rw [k2 x (by omega) x2 x3 x4, h2 x hx x2 x3 x4], fun x k hx x2 => by rw [k3 x k (by omega) x2, h3 x k hx x2], by rw [k4, h4]⟩
theorem zt_gx_w {p : Nat} {T T' : List mv_T} {R R' : Nat → Nat → Option Nat} {J J' : Nat → Int → Int} (hp : Lnd p) (hl : 156 ≤ T.length) (h : zt_gw p T T' R R' J J') : zt_gx p T T' R R' J J' := ⟨h.1, fun x hx x2 _ _ => h.2.1 x hx x2, h.2.2, by rw [h.2.1 70 (by omega) (by rcases hp with rfl | rfl | rfl | rfl <;> omega)]⟩
theorem zt_gx_m {p : Nat} {T : List mv_T} {R : Nat → Nat → Option Nat} {J J' : Nat → Int → Int} {i : Int} {l : List Int} (h : zt_tm J J' i l) : zt_gx p T T R R J J' := ⟨⟨0, (List.append_nil T).symm⟩, fun x _ _ x3 x4 => h.1 x x3 x4, fun _ _ _ _ => rfl, h.2.1 1 (by omega) (by omega)⟩
theorem zt_sm_r {B : Int → Int} {N i : Int} (h : (zt_sm B N i).1 = true) : i < N ∧ zt_fn (B i) ≠ 6 ∧ i + 1 ≤ (zt_sm B N i).2.1 ∧ (zt_sm B N i).2.1 ≤ N ∧ zt_vals (mv_str (zt_fn (B i))) (zt_sm B N i).2.2 := by
  by_cases c : i < N ∧ zt_fn (B i) ≠ 6
  · have e : zt_sm B N i = zt_rd B N (mv_str (zt_fn (B i))) (i + 1) [] := if_pos c
    rw [e] at h ⊢
    obtain ⟨q1, q2, q3⟩ := zt_rd_r (B := B) (N := N) (mv_str (zt_fn (B i))) (i + 1) [] (by omega)
    obtain ⟨l', e1, e2⟩ := q3 h
    rw [e1]
    exact ⟨c.1, c.2, q1, q2, e2⟩
  · have e : zt_sm B N i = (false, i, []) := if_neg c
    rw [e] at h
    cases h
theorem zt_sm_i {B : Int → Int} {N i : Int} (h : i ≤ N) : i ≤ (zt_sm B N i).2.1 ∧ (zt_sm B N i).2.1 ≤ N := by
  by_cases c : i < N ∧ zt_fn (B i) ≠ 6
  · have e : zt_sm B N i = zt_rd B N (mv_str (zt_fn (B i))) (i + 1) [] := if_pos c
    rw [e]
    obtain ⟨q1, q2, q3⟩ := zt_rd_r (B := B) (N := N) (mv_str (zt_fn (B i))) (i + 1) [] (by omega)
    exact ⟨by omega, q2⟩
  · have e : zt_sm B N i = (false, i, []) := if_neg c
    rw [e]
    exact ⟨Int.le_refl _, h⟩
theorem zt_p1_b {B : Int → Int} {N : Int} : ∀ (m : Nat) (i n : Int), 0 ≤ i → i ≤ N → 0 ≤ n → N - i < m → (0 ≤ zt_p1 B N m i n → n + 1 ≤ zt_p1 B N m i n ∧ zt_p1 B N m i n ≤ n + N - i) ∧ (zt_p1 B N m i n < 0 → -1000 - N ≤ zt_p1 B N m i n ∧ zt_p1 B N m i n ≤ -1000)
  | 0, i, n, h0, h1, h2, h3 => by omega
  | m + 1, i, n, h0, h1, h2, h3 => by
    have hi := zt_sm_i (B := B) h1
    have e : zt_p1 B N (m + 1) i n = if (zt_sm B N i).1 = true then (if (zt_sm B N i).2.1 < N then zt_p1 B N m (zt_sm B N i).2.1 (n + 1) else n + 1) else -1000 - (zt_sm B N i).2.1 := rfl
    rw [e]
    by_cases c : (zt_sm B N i).1 = true
    · have hr := zt_sm_r c
      rw [if_pos c]
      by_cases c2 : (zt_sm B N i).2.1 < N
      · rw [if_pos c2]
        have ih := zt_p1_b (B := B) (N := N) m (zt_sm B N i).2.1 (n + 1) (by omega) (by omega) (by omega) (by omega)
        exact ⟨fun g => by have := ih.1 g; omega, ih.2⟩
      · rw [if_neg c2]
        omega
    · rw [if_neg c]
      omega
theorem zt_p1_s {B : Int → Int} {N i n : Int} {m : Nat} (hi : 0 ≤ i ∧ i ≤ N) (h : 0 ≤ zt_p1 B N (m + 1) i n) : (zt_sm B N i).1 = true ∧ ((zt_sm B N i).2.1 < N → zt_p1 B N (m + 1) i n = zt_p1 B N m (zt_sm B N i).2.1 (n + 1)) ∧ (¬ (zt_sm B N i).2.1 < N → zt_p1 B N (m + 1) i n = n + 1) := by
  have e : zt_p1 B N (m + 1) i n = if (zt_sm B N i).1 = true then (if (zt_sm B N i).2.1 < N then zt_p1 B N m (zt_sm B N i).2.1 (n + 1) else n + 1) else -1000 - (zt_sm B N i).2.1 := rfl
  have hs := zt_sm_i (B := B) hi.2
  rw [e] at h ⊢
  by_cases c : (zt_sm B N i).1 = true
  · rw [if_pos c]
    exact ⟨c, fun g => if_pos g, fun g => if_neg g⟩
  · rw [if_neg c] at h
    omega
theorem zt_p2_n {B : Int → Int} {N : Int} {m : Nat} {i n : Int} {A : Int → Int} (h : ¬ i < N) : zt_p2 B N m i A n = (n, A) := by
  cases m with
  | zero => rfl
  | succ m => exact if_neg h
theorem zt_p2_0 {B : Int → Int} {N : Int} {m : Nat} {i n : Int} {A : Int → Int} (h : i < N) (ha : zt_act A (B i) (zt_sm B N i).2.2 = none) : zt_p2 B N (m + 1) i A n = (-2000 - i, A) := by
  show (if i < N then (match zt_act A (B i) (zt_sm B N i).2.2 with
    | none => (-2000 - i, A)
    | some A' => zt_p2 B N m (zt_sm B N i).2.1 A' (n + 1)) else (n, A)) = _
  rw [if_pos h, ha]
theorem zt_p2_1 {B : Int → Int} {N : Int} {m : Nat} {i n : Int} {A A' : Int → Int} (h : i < N) (ha : zt_act A (B i) (zt_sm B N i).2.2 = some A') : zt_p2 B N (m + 1) i A n = zt_p2 B N m (zt_sm B N i).2.1 A' (n + 1) := by
  show (if i < N then (match zt_act A (B i) (zt_sm B N i).2.2 with
    | none => (-2000 - i, A)
    | some A' => zt_p2 B N m (zt_sm B N i).2.1 A' (n + 1)) else (n, A)) = _
  rw [if_pos h, ha]
/-- after a good first pass the second counts the same, or finds a fault -/
theorem zt_p2_c {B : Int → Int} {N Y : Int} : ∀ (m : Nat) (i n : Int) (A : Int → Int), 0 ≤ i → i < N → 0 ≤ n → N - i < m → zz_ok Y A → zt_hb A → 0 ≤ zt_p1 B N m i n → ((zt_p2 B N m i A n).1 = zt_p1 B N m i n ∨ (-2000 - N ≤ (zt_p2 B N m i A n).1 ∧ (zt_p2 B N m i A n).1 ≤ -2000)) ∧ zz_ok Y (zt_p2 B N m i A n).2 ∧ zt_hb (zt_p2 B N m i A n).2 ∧ A 7 ≤ (zt_p2 B N m i A n).2 7
  | 0, i, n, A, h0, h1, h2, h3, _, _, _ => by omega
  | m + 1, i, n, A, h0, h1, h2, h3, hA, hb, h4 => by
    obtain ⟨k1, k2, k3⟩ := zt_p1_s ⟨h0, by omega⟩ h4
    have hr := zt_sm_r k1
    cases ha : zt_act A (B i) (zt_sm B N i).2.2 with
    | none =>
      rw [zt_p2_0 h1 ha]
      exact ⟨Or.inr ⟨by show _ ≤ -2000 - i; omega, by show -2000 - i ≤ _; omega⟩, hA, hb, Int.le_refl _⟩
    | some A' =>
      obtain ⟨a1, a2, a3⟩ := zt_act_ok hA hb hr.2.1 hr.2.2.2.2 ha
      rw [zt_p2_1 h1 ha]
      by_cases c : (zt_sm B N i).2.1 < N
      · rw [k2 c] at h4 ⊢
        obtain ⟨b1, b2, b3, b4⟩ := zt_p2_c m (zt_sm B N i).2.1 (n + 1) A' (by omega) c (by omega) (by omega) a1 a2 h4
        exact ⟨b1, b2, b3, by omega⟩
      · rw [k3 c, zt_p2_n c]
        exact ⟨Or.inl rfl, a1, a2, a3⟩
section ZPAS
variable {T : List mv_T} {J : Nat → Int → Int} {R : Nat → Nat → Option Nat} {G : Nat → Nat → Int64} {d p q : Nat} {Y : Int} {A : Int → Int} {B : Int → Int} {N : Int}
theorem zt_tx_x {T' : List mv_T} {J' : Nat → Int → Int} {R' : Nat → Nat → Option Nat} (hp : Lnd p) (hl : 156 ≤ T.length) (h : zt_tx R J q B N) (g : zt_gx p T T' R R' J J') : zt_tx R' J' q B N := by
  obtain ⟨h0, h1, h2, h3, h4⟩ := h
  obtain ⟨g1, g2, g3, g4⟩ := g
  have hq : q + 1 ≤ 130 ∧ 115 ≤ q := by
    unfold Shf at h0
    omega
  refine ⟨h0, ?_, by rw [g4]; exact h2, h3, fun y y0 y1 => ?_⟩
  · rw [g3 70 0 (by omega) (by rcases hp with rfl | rfl | rfl | rfl <;> omega)]
    exact h1
  · rw [g2 (q + 1) (by omega) (by rcases hp with rfl | rfl | rfl | rfl <;> omega) (by omega) (by omega)]
    exact h4 y y0 y1
end ZPAS
