/-! PURE LAYER, 6: sending along a shortest way -/
def zz_au (hi : Int → Prop) (m nl : Int) (w x0 : Int → Int → Int) (du dv pv rk : Int → Int) (δ e j : Int) (x : Int → Int → Int) : Prop :=
  (∀ a b, hi a → 0 ≤ b → b < m → 0 ≤ x a b ∧ (0 < x a b → dv b - du a = w a b)) ∧
  (∀ a, hi a → zz_sum (x a) m = zz_sum (x0 a) m) ∧
  (∀ b, 0 ≤ b → b < m → zz_sum (fun a => x a b) nl = zz_sum (fun a => x0 a b) nl + (if b = e then δ else 0) - (if b = j then δ else 0)) ∧
  (∀ a, hi a → rk a ≤ rk (pv j) → x a = x0 a) ∧
  zz_cst w x nl m = zz_cst w x0 nl m + δ * (dv e - dv j) ∧
  (∀ a, ¬ hi a → x a = x0 a)
section ZAU
variable {hi : Int → Prop} {m nl : Int} {w x0 x : Int → Int → Int} {du dv pu pv rk : Int → Int} {δ e j : Int}
theorem zz_au0 (h : ∀ a b, hi a → 0 ≤ b → b < m → 0 ≤ x0 a b ∧ (0 < x0 a b → dv b - du a = w a b)) : zz_au hi m nl w x0 du dv pv rk δ e e x0 := by
  refine ⟨h, fun _ _ => rfl, fun b _ _ => by omega, fun _ _ _ => rfl, by rw [Int.sub_self, Int.mul_zero, Int.add_zero], fun _ _ => rfl⟩
/-- the way goes on -/
theorem zz_au1 (hd : 0 ≤ δ) (h : zz_au hi m nl w x0 du dv pv rk δ e j x) (hh : ∀ a, hi a → 0 ≤ a ∧ a < nl) (hj0 : 0 ≤ j) (hj1 : j < m) (hi1 : hi (pv j)) (t1 : dv j = du (pv j) + w (pv j) j) (k0 : 0 ≤ pu (pv j)) (k1 : pu (pv j) < m) (k2 : δ ≤ x0 (pv j) (pu (pv j))) (k3 : 0 < x0 (pv j) (pu (pv j))) (k4 : hi (pv (pu (pv j)))) (k5 : rk (pv (pu (pv j))) < rk (pv j)) (k6 : dv (pu (pv j)) - du (pv j) = w (pv j) (pu (pv j))) :
    pu (pv j) ≠ j ∧ zz_au hi m nl w x0 du dv pv rk δ e (pu (pv j)) (zz_u2 (zz_u2 x (pv j) j (x (pv j) j + δ)) (pv j) (pu (pv j)) (x (pv j) (pu (pv j)) - δ)) := by
  obtain ⟨a1, a2, a3, a4, a5, a6⟩ := h
  have hi2 := hh _ hi1
  have hne : pu (pv j) ≠ j := by
    intro q
    rw [q] at k5
    omega
  have hx0 : x (pv j) = x0 (pv j) := a4 _ hi1 (Int.le_refl _)
  have hq : zz_u2 x (pv j) j (x (pv j) j + δ) (pv j) (pu (pv j)) = x (pv j) (pu (pv j)) := z2_n (fun q => hne q.2)
  refine ⟨hne, fun a b ha b0 b1 => ?_, fun a ha => ?_, fun b b0 b1 => ?_, fun a ha hr => ?_, ?_, fun a ha => ?_⟩
  · have := a1 a b ha b0 b1
    by_cases e1 : a = pv j ∧ b = pu (pv j)
    · obtain ⟨rfl, rfl⟩ := e1
      rw [z2_s, hx0]
      refine ⟨by omega, fun _ => k6⟩
    · rw [z2_n e1]
      by_cases e2 : a = pv j ∧ b = j
      · obtain ⟨rfl, rfl⟩ := e2
        rw [z2_s]
        refine ⟨by omega, fun _ => by omega⟩
      · rw [z2_n e2]
        exact this
  · by_cases e1 : a = pv j
    · subst e1
      rw [z2_row, zz_sum_f k0 k1, z2_row, zz_sum_f hj0 hj1, zf_n hne, a2 _ hi1]
      omega
    · rw [z2_rown e1, z2_rown e1]
      exact a2 a ha
  · have h3 := a3 b b0 b1
    by_cases e1 : b = pu (pv j)
    · subst e1
      rw [z2_col, zz_sum_f hi2.1 hi2.2, z2_coln hne, z2_n (fun q => hne q.2), h3, if_neg hne, if_pos rfl]
      omega
    · rw [z2_coln e1]
      by_cases e2 : b = j
      · subst e2
        rw [z2_col, zz_sum_f hi2.1 hi2.2, h3, if_pos rfl, if_neg e1]
        omega
      · rw [z2_coln e2, h3, if_neg e1, if_neg e2]
  · have : a ≠ pv j := by
      intro q
      rw [q] at hr
      omega
    rw [z2_rown this, z2_rown this]
    exact a4 a ha (by omega)
  · rw [z2_cst hi2.1 hi2.2 k0 k1, z2_cst hi2.1 hi2.2 hj0 hj1, hq, a5, ← k6]
    have : w (pv j) j = dv j - du (pv j) := by omega
    rw [this, show x (pv j) j + δ - x (pv j) j = δ by omega, show x (pv j) (pu (pv j)) - δ - x (pv j) (pu (pv j)) = -δ by omega, Int.mul_neg, Int.mul_sub, Int.mul_sub, Int.sub_mul, Int.sub_mul, Int.mul_comm δ (dv e), Int.mul_comm δ (dv j), Int.mul_comm δ (dv (pu (pv j)))]
    omega
  · have : a ≠ pv j := by
      intro q
      rw [q] at ha
      exact ha hi1
    rw [z2_rown this, z2_rown this]
    exact a6 a ha
/-- the way ends -/
theorem zz_au2 (hd : 0 ≤ δ) (h : zz_au hi m nl w x0 du dv pv rk δ e j x) (hh : ∀ a, hi a → 0 ≤ a ∧ a < nl) (hj0 : 0 ≤ j) (hj1 : j < m) (hi1 : hi (pv j)) (t1 : dv j = du (pv j) + w (pv j) j) (k0 : du (pv j) = 0) :
    (∀ a b, hi a → 0 ≤ b → b < m → 0 ≤ zz_u2 x (pv j) j (x (pv j) j + δ) a b ∧ (0 < zz_u2 x (pv j) j (x (pv j) j + δ) a b → dv b - du a = w a b)) ∧
    (∀ a, hi a → zz_sum (zz_u2 x (pv j) j (x (pv j) j + δ) a) m = zz_sum (x0 a) m + (if a = pv j then δ else 0)) ∧
    (∀ b, 0 ≤ b → b < m → zz_sum (fun a => zz_u2 x (pv j) j (x (pv j) j + δ) a b) nl = zz_sum (fun a => x0 a b) nl + (if b = e then δ else 0)) ∧
    zz_cst w (zz_u2 x (pv j) j (x (pv j) j + δ)) nl m = zz_cst w x0 nl m + δ * dv e ∧ (∀ a, ¬ hi a → zz_u2 x (pv j) j (x (pv j) j + δ) a = x0 a) := by
  obtain ⟨a1, a2, a3, a4, a5, a6⟩ := h
  have hi2 := hh _ hi1
  refine ⟨fun a b ha b0 b1 => ?_, fun a ha => ?_, fun b b0 b1 => ?_, ?_, fun a ha => ?_⟩
  · have := a1 a b ha b0 b1
    by_cases e2 : a = pv j ∧ b = j
    · obtain ⟨rfl, rfl⟩ := e2
      rw [z2_s]
      refine ⟨by omega, fun _ => by omega⟩
    · rw [z2_n e2]
      exact this
  · by_cases e1 : a = pv j
    · subst e1
      rw [z2_row, zz_sum_f hj0 hj1, a2 _ hi1, if_pos rfl]
      omega
    · rw [z2_rown e1, if_neg e1, a2 a ha]
      omega
  · have h3 := a3 b b0 b1
    by_cases e2 : b = j
    · subst e2
      rw [z2_col, zz_sum_f hi2.1 hi2.2, h3, if_pos rfl]
      omega
    · rw [z2_coln e2, h3, if_neg e2]
      omega
  · rw [z2_cst hi2.1 hi2.2 hj0 hj1, a5]
    have : w (pv j) j = dv j := by omega
    rw [this, show x (pv j) j + δ - x (pv j) j = δ by omega, Int.mul_sub, Int.mul_comm δ (dv j)]
    omega
  · have : a ≠ pv j := by
      intro q
      rw [q] at ha
      exact ha hi1
    rw [z2_rown this]
    exact a6 a ha
end ZAU
/-- what holds between two sendings: x the plan, s, t what is left of S, D -/
def zz_tr (hi : Int → Prop) (m nl W : Int) (w : Int → Int → Int) (S D : Int → Int) (x : Int → Int → Int) (s t : Int → Int) (K : Int) : Prop :=
  (∃ u v, zz_pot hi m W w x u v) ∧ (∀ a, hi a → zz_sum (x a) m + s a = S a ∧ 0 ≤ s a) ∧ (∀ b, 0 ≤ b → b < m → zz_sum (fun a => x a b) nl + t b = D b ∧ 0 ≤ t b) ∧ (∀ a, ¬ hi a → x a = fun _ => 0) ∧ zz_cst w x nl m = K
/-- the ends of a spreading -/
def zz_end (hi : Int → Prop) (m : Int) (w x : Int → Int → Int) (du dv : Int → Int) : Prop :=
  (∀ a b, hi a → 0 ≤ b → b < m → du a < 1000000 → dv b ≤ du a + w a b) ∧ (∀ a b, hi a → 0 ≤ b → b < m → 0 < x a b → dv b < 1000000 → du a ≤ dv b - w a b)
section ZTR
variable {hi : Int → Prop} {m nl W K : Int} {w x : Int → Int → Int} {S D s t u v du dv pu pv : Int → Int}
theorem zz_sumhi {f g : Int → Int} {c : Int} (h : 0 ≤ c) (hf : ∀ i, 0 ≤ i → i < c → (hi i → f i = g i) ∧ (¬ hi i → f i = 0 ∧ g i = 0)) : zz_sum f c = zz_sum g c := by
  refine zz_sum_c h (fun i h0 h1 => ?_)
  by_cases q : hi i
  · exact (hf i h0 h1).1 q
  · rw [((hf i h0 h1).2 q).1, ((hf i h0 h1).2 q).2]
/-- what has been left of both sides is the same -/
theorem zz_left (hm : 0 ≤ m) (hn : 0 ≤ nl) (hx : zz_tr hi m nl W w S D x s t K) (hS : ∀ a, 0 ≤ a → a < nl → ¬ hi a → S a = 0 ∧ s a = 0) (hSD : zz_sum S nl = zz_sum D m) : zz_sum s nl = zz_sum t m := by
  obtain ⟨-, r1, r2, r3, -⟩ := hx
  have e1 : zz_sum (fun a => zz_sum (x a) m + s a) nl = zz_sum S nl := by
    refine zz_sum_c hn (fun a a0 a1 => ?_)
    by_cases q : hi a
    · exact (r1 a q).1
    · rw [r3 a q, (hS a a0 a1 q).1, (hS a a0 a1 q).2, zz_sum_z hm (fun _ _ _ => rfl)]
      rfl
  have e2 : zz_sum (fun b => zz_sum (fun a => x a b) nl + t b) m = zz_sum D m := zz_sum_c hm (fun b b0 b1 => (r2 b b0 b1).1)
  rw [zz_sum_add hn] at e1
  have e3 : zz_sum (fun b => zz_sum (fun a => x a b) nl) m = zz_sum (fun a => zz_sum (x a) m) nl := zz_sum_swap hm hn
  rw [zz_sum_add hm, e3] at e2
  omega
theorem zz_allz {f : Int → Int} {c : Int} (h : 0 ≤ c) (h0 : ∀ i, 0 ≤ i → i < c → 0 ≤ f i) (hs : zz_sum f c = 0) : ∀ i, 0 ≤ i → i < c → f i = 0 := by
  intro i i0 i1
  have := zz_sum_1z h0 i0 i1
  have := h0 i i0 i1
  omega
end ZTR
