/-! PURE LAYER, 8: the reference's least hours -/
theorem zz_sum_pos {f : Int → Int} {c : Int} (h : 0 ≤ c) (hs : 0 < zz_sum f c) : ∃ i, 0 ≤ i ∧ i < c ∧ 0 < f i := by
  refine Classical.byContradiction fun q => ?_
  have := zz_sum_le (f := f) (g := fun _ => 0) h (fun i i0 i1 => Int.not_lt.mp (fun q' => q ⟨i, i0, i1, q'⟩))
  rw [zz_sum_z (f := fun _ => 0) h (fun _ _ _ => rfl)] at this
  omega
/-- one sending of one step: what it comes to (δ steps along the ways back from e) -/
theorem zz_trs {hi : Int → Prop} {m nl W K δ e r : Int} {w x x1 : Int → Int → Int} {S D s t du dv : Int → Int} (hx : zz_tr hi m nl W w S D x s t K) (hp : zz_pot hi m W w x du dv) (hr : hi r) (he : t e = t e) (hd : 0 ≤ δ) (hd1 : δ ≤ s r) (hd2 : δ ≤ t e)
    (h1 : ∀ a b, hi a → 0 ≤ b → b < m → 0 ≤ x1 a b ∧ (0 < x1 a b → dv b - du a = w a b)) (h2 : ∀ a, hi a → zz_sum (x1 a) m = zz_sum (x a) m + (if a = r then δ else 0)) (h3 : ∀ b, 0 ≤ b → b < m → zz_sum (fun a => x1 a b) nl = zz_sum (fun a => x a b) nl + (if b = e then δ else 0)) (h4 : zz_cst w x1 nl m = zz_cst w x nl m + δ * dv e) (h5 : ∀ a, ¬ hi a → x1 a = x a) :
    zz_tr hi m nl W w S D x1 (zz_f s r (s r - δ)) (zz_f t e (t e - δ)) (K + dv e * δ) := by
  obtain ⟨-, q1, q2, q3, q4⟩ := hx
  refine ⟨⟨du, dv, fun a b ha b0 b1 => ?_⟩, fun a ha => ?_, fun b b0 b1 => ?_, fun a ha => by rw [h5 a ha]; exact q3 a ha, by rw [h4, q4, Int.mul_comm δ]⟩
  · have := hp a b ha b0 b1
    have z := h1 a b ha b0 b1
    exact ⟨this.1, z.1, this.2.2.1, z.2⟩
  · have := q1 a ha
    rw [h2 a ha]
    by_cases e1 : a = r
    · subst e1
      rw [if_pos rfl, zf_s]
      omega
    · rw [if_neg e1, zf_n e1]
      omega
  · have := q2 b b0 b1
    rw [h3 b b0 b1]
    by_cases e1 : b = e
    · subst e1
      rw [if_pos rfl, zf_s]
      omega
    · rw [if_neg e1, zf_n e1]
      omega
def zz_ex (A : Int → Int) (g : Int → Int) (c : Int) : Int := if g c < 0 then 0 else A (8 + c) - g c
def zz_bad (A ex : Int → Int) : Prop := (∃ c, 0 ≤ c ∧ c < A 0 * A 1 ∧ ex c ≠ 0 ∧ zz_bit (A 6) c = 1) ∨ zz_sum ex (A 0 * A 1) ≠ 0
def zz_lst (A ex : Int → Int) (K : Int) : Prop := (zz_bad A ex ∧ K = -4) ∨ (¬ zz_bad A ex ∧ 0 ≤ K ∧ K ≤ 2000 ∧ zz_cert (A 0 * A 1) (zz_w2 (A 1)) ex K)
theorem zz_lst_u {A ex : Int → Int} {K1 K2 : Int} (hn : 0 ≤ A 0 * A 1) (h1 : zz_lst A ex K1) (h2 : zz_lst A ex K2) : K1 = K2 := by
  rcases h1 with ⟨b1, e1⟩ | ⟨b1, -, -, c1⟩
  · rcases h2 with ⟨b2, e2⟩ | ⟨b2, -⟩
    · omega
    · exact absurd b1 b2
  · rcases h2 with ⟨b2, -⟩ | ⟨b2, -, -, c2⟩
    · exact absurd b2 b1
    · exact zz_cert_eq hn c1 c2
/-- from a finished transport over cells to a certificate -/
theorem zz_trc {n W K : Int} {w x : Int → Int → Int} {ex s t : Int → Int} (hn : 0 ≤ n) (hx : zz_tr (zz_hi ex n) n n W w (fun a => max 0 (ex a)) (fun b => max 0 (-ex b)) x s t K) (hs : ∀ a, zz_hi ex n a → s a = 0) (ht : ∀ b, 0 ≤ b → b < n → t b = 0) : zz_cert n w ex K := by
  obtain ⟨⟨u, v, hp⟩, q1, q2, q3, q4⟩ := hx
  have q1 : ∀ a, zz_hi ex n a → zz_sum (x a) n + s a = max 0 (ex a) ∧ 0 ≤ s a := q1
  have q2 : ∀ b, 0 ≤ b → b < n → zz_sum (fun a => x a b) n + t b = max 0 (-ex b) ∧ 0 ≤ t b := q2
  refine ⟨x, u, v, fun a b a0 a1 b0 b1 => ?_, fun a a0 a1 => ?_, fun b b0 b1 => ?_, q4.symm⟩
  · by_cases h : zz_hi ex n a
    · have := hp a b h b0 b1
      refine ⟨this.2.1, fun q => ⟨h.2.2, ?_, this.2.2.2 q⟩, fun _ _ => this.2.2.1⟩
      have e1 := (q2 b b0 b1)
      rw [ht b b0 b1] at e1
      have e2 := zz_sum_1z (f := fun a => x a b) (c := n) (fun i i0 i1 => by
        by_cases h' : zz_hi ex n i
        · exact (hp i b h' b0 b1).2.1
        · show 0 ≤ x i b
          rw [q3 i h']
          exact Int.le_refl _) a0 a1
      have e3 : x a b ≤ zz_sum (fun a => x a b) n := e2
      have e0 := this.2.1
      have e6 : 0 < x a b → 0 < max 0 (-ex b) := by
        intro q
        omega
      refine Int.not_le.mp (fun q' => ?_)
      have := e6 q
      omega
    · rw [q3 a h]
      refine ⟨Int.le_refl _, fun q => absurd q (by show ¬ (0 < (0 : Int)); omega), fun q => absurd ⟨a0, a1, q⟩ h⟩
  · by_cases h : zz_hi ex n a
    · have := (q1 a h).1
      rw [hs a h] at this
      have e4 : zz_sum (fun b => x a b) n = zz_sum (x a) n := rfl
      rw [e4]
      omega
    · rw [q3 a h, zz_sum_z hn (fun _ _ _ => rfl)]
      have : ¬ 0 < ex a := fun q => h ⟨a0, a1, q⟩
      omega
  · have := (q2 b b0 b1).1
    rw [ht b b0 b1] at this
    omega
/-- the cost of a plan is bounded -/
theorem zz_trb {n W K : Int} {w x : Int → Int → Int} {ex s t : Int → Int} (hn : 0 ≤ n) (hn2 : n ≤ 16) (hW : 0 ≤ W) (hW2 : W ≤ 12) (hex : ∀ c, 0 ≤ c → c < n → ex c ≤ 9) (hx : zz_tr (zz_hi ex n) n n W w (fun a => max 0 (ex a)) (fun b => max 0 (-ex b)) x s t K) : 0 ≤ K ∧ K ≤ 2000 := by
  obtain ⟨⟨u, v, hp⟩, q1, q2, q3, q4⟩ := hx
  have q1 : ∀ a, zz_hi ex n a → zz_sum (x a) n + s a = max 0 (ex a) ∧ 0 ≤ s a := q1
  have h1 : ∀ a, 0 ≤ a → a < n → 0 ≤ zz_sum (fun b => w a b * x a b) n ∧ zz_sum (fun b => w a b * x a b) n ≤ 108 := by
    intro a a0 a1
    by_cases h : zz_hi ex n a
    · have e1 := q1 a h
      have e2 := hex a a0 a1
      have e3 := zz_sum_le (f := fun b => w a b * x a b) (g := fun b => 12 * x a b) hn (fun b b0 b1 => by
        have := hp a b h b0 b1
        exact Int.mul_le_mul_of_nonneg_right (by omega) this.2.1)
      have e4 := zz_sum_le (f := fun _ => 0) (g := fun b => w a b * x a b) hn (fun b b0 b1 => by
        have := hp a b h b0 b1
        exact Int.mul_nonneg this.1.1 this.2.1)
      rw [zz_sum_z (f := fun _ => 0) hn (fun _ _ _ => rfl)] at e4
      rw [zz_sum_mul hn] at e3
      have e5 : zz_sum (fun b => x a b) n = zz_sum (x a) n := rfl
      omega
    · rw [zz_sum_z hn (fun b _ _ => by rw [q3 a h]; exact Int.mul_zero _)]
      omega
  have := zz_sum_b hn h1
  unfold zz_cst at q4
  omega
section ZLEA
variable {T : List mv_T} {J : Nat → Int → Int} {R : Nat → Nat → Option Nat} {G : Nat → Nat → Int64} {d : Nat} {Y : Int}
/-- the reference's scratch: rows 143..146 and how many steps -/
def zz_fx (J J' : Nat → Int → Int) : Prop := (∀ x, x ≠ 131 → (x < 143 ∨ 146 < x) → J' x = J x) ∧ ∀ y, y ≠ 23 → J' 131 y = J 131 y
noncomputable def zz_sO (ex O : Int → Int) (n : Int) : Int → Int := fun a => @ite _ (zz_hi ex n a) (Classical.propDecidable _) (O a) 0
noncomputable def zz_tO (ex O : Int → Int) (n : Int) : Int → Int := fun a => @ite _ (0 ≤ a ∧ a < n ∧ ¬ zz_hi ex n a) (Classical.propDecidable _) (-O a) 0
/-- between two sendings -/
def zz_li (J : Nat → Int → Int) (ex : Int → Int) (J' : Nat → Int → Int) (K : Int) : Prop := zz_fx J J' ∧ (∀ a b, 0 ≤ a → a < J 132 0 * J 132 1 → 0 ≤ b → b < J 132 0 * J 132 1 → ¬ zz_hi ex (J 132 0 * J 132 1) a → J' 144 (16 * a + b) = 0) ∧
  zz_tr (zz_hi ex (J 132 0 * J 132 1)) (J 132 0 * J 132 1) (J 132 0 * J 132 1) 12 (zz_w2 (J 132 1)) (fun a => max 0 (ex a)) (fun b => max 0 (-ex b)) (zz_xr ex (J 132 0 * J 132 1) (J' 144)) (zz_sO ex (J' 143) (J 132 0 * J 132 1)) (zz_tO ex (J' 143) (J 132 0 * J 132 1)) K ∧
  J' 131 23 = zz_sum (fun a => max 0 (ex a)) (J 132 0 * J 132 1) - zz_sum (zz_sO ex (J' 143) (J 132 0 * J 132 1)) (J 132 0 * J 132 1)
theorem zz_li_os {ex : Int → Int} {J' : Nat → Int → Int} {K : Int} (hn : 0 ≤ J 132 0 * J 132 1) (hex : ∀ c, 0 ≤ c → c < J 132 0 * J 132 1 → -9 ≤ ex c ∧ ex c ≤ 9) (h : zz_li J ex J' K) : zz_os (J 132 0 * J 132 1) ex (J' 143) (J' 144) := by
  obtain ⟨-, h2, ⟨⟨u, v, hp⟩, q1, q2, q3, q4⟩, -⟩ := h
  generalize hN : J 132 0 * J 132 1 = n at *
  have q1 : ∀ a, zz_hi ex n a → zz_sum (zz_xr ex n (J' 144) a) n + zz_sO ex (J' 143) n a = max 0 (ex a) ∧ 0 ≤ zz_sO ex (J' 143) n a := q1
  have q2 : ∀ b, 0 ≤ b → b < n → zz_sum (fun a => zz_xr ex n (J' 144) a b) n + zz_tO ex (J' 143) n b = max 0 (-ex b) ∧ 0 ≤ zz_tO ex (J' 143) n b := q2
  refine ⟨fun k k0 k1 => ?_, fun a b a0 a1 b0 b1 => ?_⟩
  · have e := hex k k0 k1
    by_cases hk : zz_hi ex n k
    · have e1 := q1 k hk
      have e2 : zz_sO ex (J' 143) n k = J' 143 k := if_pos hk
      have e3 := zz_sum_le (f := fun _ => 0) (g := zz_xr ex n (J' 144) k) hn (fun b b0 b1 => (hp k b hk b0 b1).2.1)
      rw [zz_sum_z (f := fun _ => 0) hn (fun _ _ _ => rfl)] at e3
      refine ⟨by omega, fun _ => by omega, fun q => absurd hk q⟩
    · have e1 := q2 k k0 k1
      have e2 : zz_tO ex (J' 143) n k = -J' 143 k := if_pos ⟨k0, k1, hk⟩
      have e3 := zz_sum_le (f := fun _ => 0) (g := fun a => zz_xr ex n (J' 144) a k) hn (fun a a0 a1 => by
        by_cases ha : zz_hi ex n a
        · exact (hp a k ha k0 k1).2.1
        · show 0 ≤ zz_xr ex n (J' 144) a k
          rw [q3 a ha]
          exact Int.le_refl _)
      rw [zz_sum_z (f := fun _ => 0) hn (fun _ _ _ => rfl)] at e3
      refine ⟨by omega, fun q => absurd q hk, fun _ => by omega⟩
  · refine ⟨?_, h2 a b a0 a1 b0 b1⟩
    by_cases ha : zz_hi ex n a
    · have e1 := q1 a ha
      have e := hex a a0 a1
      have e2 := zz_sum_1z (f := zz_xr ex n (J' 144) a) (c := n) (fun i i0 i1 => (hp a i ha i0 i1).2.1) b0 b1
      have e3 := (hp a b ha b0 b1).2.1
      rw [zz_xr_v ha b0 b1] at e2 e3
      omega
    · rw [h2 a b a0 a1 b0 b1 ha]
      omega
/-- the way back from a low cell: what has been sent, till the way ends -/
theorem r_172w (hL : ZL T R) (hn : J 132 0 * J 132 1 ≤ 16) (hd : 1 ≤ d) {ex du dv : Int → Int} {D P rk : Int → Int} {J1 : Nat → Int → Int} {K e : Int} {Q : Option mv_V × mv_S → Prop}
    (hO : zz_os (J 132 0 * J 132 1) ex (J1 143) (J1 144)) (hP32 : ∀ k, 0 ≤ k → k < 32 → (-4 ≤ P k ∧ P k ≤ 31) ∧ (k < 16 → P k < 0 ∨ 16 ≤ P k))
    (hu : ∀ a, zz_hi ex (J 132 0 * J 132 1) a → (zz_pu P a < 0 ∧ du a = 0 ∧ 0 < J1 143 a) ∨ (0 ≤ zz_pu P a ∧ zz_pu P a < J 132 0 * J 132 1 ∧ 0 < zz_xr ex (J 132 0 * J 132 1) (J1 144) a (zz_pu P a) ∧ dv (zz_pu P a) - du a = zz_w2 (J 132 1) a (zz_pu P a) ∧ rk (zz_pv P (zz_pu P a)) < rk a))
    (hv : ∀ b, 0 ≤ b → b < J 132 0 * J 132 1 → zz_hi ex (J 132 0 * J 132 1) (zz_pv P b) ∧ dv b = du (zz_pv P b) + zz_w2 (J 132 1) (zz_pv P b) b) (hrk : ∀ a, zz_hi ex (J 132 0 * J 132 1) a → 0 ≤ rk a)
    (he0 : 0 ≤ e) (he1 : e < J 132 0 * J 132 1) (hee : ¬ zz_hi ex (J 132 0 * J 132 1) e)
    (kk : ∀ (x1 : Int → Int → Int) (r : Int) (J2 : Nat → Int → Int), zz_hi ex (J 132 0 * J 132 1) r → 0 < J1 143 r → x1 = zz_xr ex (J 132 0 * J 132 1) (J2 144) → (∀ a b, zz_hi ex (J 132 0 * J 132 1) a → 0 ≤ b → b < J 132 0 * J 132 1 → 0 ≤ x1 a b ∧ (0 < x1 a b → dv b - du a = zz_w2 (J 132 1) a b)) → (∀ a, zz_hi ex (J 132 0 * J 132 1) a → zz_sum (x1 a) (J 132 0 * J 132 1) = zz_sum (zz_xr ex (J 132 0 * J 132 1) (J1 144) a) (J 132 0 * J 132 1) + (if a = r then 1 else 0)) → (∀ b, 0 ≤ b → b < J 132 0 * J 132 1 → zz_sum (fun a => x1 a b) (J 132 0 * J 132 1) = zz_sum (fun a => zz_xr ex (J 132 0 * J 132 1) (J1 144) a b) (J 132 0 * J 132 1) + (if b = e then 1 else 0)) → zz_cst (zz_w2 (J 132 1)) x1 (J 132 0 * J 132 1) (J 132 0 * J 132 1) = zz_cst (zz_w2 (J 132 1)) (zz_xr ex (J 132 0 * J 132 1) (J1 144)) (J 132 0 * J 132 1) (J 132 0 * J 132 1) + 1 * dv e → (∀ x, x ≠ 143 → x ≠ 144 → J2 x = J1 x) → J2 143 = zz_f (zz_f (J1 143) e (J1 143 e + 1)) r (J1 143 r - 1) → (∀ a b, 0 ≤ a → a < J 132 0 * J 132 1 → 0 ≤ b → b < J 132 0 * J 132 1 → ¬ zz_hi ex (J 132 0 * J 132 1) a → J2 144 (16 * a + b) = J1 144 (16 * a + b)) → zz_E (fun n => mv_run (mv_cax d) mm_172 n 126 [(0, .inr (.inr (some 131))), (3, .inl (mv_c K))] [] (zz_S T J2 R G)) Q)
    (h6 : J1 146 = P) (hx0 : ∀ a b, zz_hi ex (J 132 0 * J 132 1) a → 0 ≤ b → b < J 132 0 * J 132 1 → 0 ≤ zz_xr ex (J 132 0 * J 132 1) (J1 144) a b ∧ (0 < zz_xr ex (J 132 0 * J 132 1) (J1 144) a b → dv b - du a = zz_w2 (J 132 1) a b)) :
    ∀ (k : Nat) (j : Int) (B : Int → Int), 0 ≤ j → j < J 132 0 * J 132 1 → rk (zz_pv P j) < k → zz_au (zz_hi ex (J 132 0 * J 132 1)) (J 132 0 * J 132 1) (J 132 0 * J 132 1) (zz_w2 (J 132 1)) (zz_xr ex (J 132 0 * J 132 1) (J1 144)) du dv (zz_pv P) rk 1 e j (zz_xr ex (J 132 0 * J 132 1) B) → (∀ a b, 0 ≤ a → a < J 132 0 * J 132 1 → 0 ≤ b → b < J 132 0 * J 132 1 → ¬ zz_hi ex (J 132 0 * J 132 1) a → B (16 * a + b) = J1 144 (16 * a + b)) → zz_E (fun n => mv_run (mv_cax d) mm_172 n 180 [(0, .inr (.inr (some 131))), (3, .inl (mv_c K)), (5, .inl (mv_c (16 + j)))] [] (zz_S T (zz_w (zz_w J1 143 (zz_f (J1 143) e (J1 143 e + 1))) 144 B) R G)) Q := by
  generalize hN : J 132 0 * J 132 1 = N at *
  generalize hC : J 132 1 = C at *
  intro k
  induction k with
  | zero =>
    intro j B j0 j1 hr
    have := hrk _ (hv j j0 j1).1
    omega
  | succ k ih =>
    intro j B j0 j1 hr hau hB
    obtain ⟨v1, v2⟩ := hv j j0 j1
    have e1 : zz_pv P j = P (16 + j) := if_pos j0
    have p1 := hP32 (16 + j) (by omega) (by omega)
    have i0 : 0 ≤ P (16 + j) ∧ P (16 + j) < N := by rw [← e1]; exact ⟨v1.1, v1.2.1⟩
    have p2 := hP32 (P (16 + j)) (by omega) (by omega)
    have e2 : zz_pu P (P (16 + j)) = P (P (16 + j)) - 16 := if_pos (by omega)
    have hui := hu _ v1
    refine zz_Es (fun n => e_172_180 _ _ _ _) ?_
    simp (maxSteps := 5000000) (disch := first | assumption | omega) only [zw_s, zw_n, h6, zr_131_0, zr_131_1, zr_131_2, zr_131_3, zr_131_4, zr_131_5, zr_131_6, zr_131_7, zr_131_8, zg_131_9, zp_131_9, zg_131_10, zp_131_10, zg_131_11, zp_131_11, zg_131_12, zp_131_12, zg_131_13, zp_131_13, zg_131_14, zp_131_14, zr_131_15, zg_131_16, zp_131_16, zg_131_17, zp_131_17, zr_131_18, zr_131_19, zr_131_20, zr_131_21, zr_131_22, zg_131_23, zp_131_23, zr_131_24, zg_131_25, zp_131_25, zg_131_26, zp_131_26, zr_131_27, zr_131_28, zg_131_29, zp_131_29, zg_131_30, zp_131_30, zr_131_31, zr_131_32, zr_131_33, zr_131_34, zr_131_35, zi_131, za_132, zs_132, zl_132, za_133, zs_133, zl_133, za_134, zs_134, zl_134, za_135, zs_135, zl_135, za_136, zs_136, zl_136, za_137, zs_137, zl_137, za_138, zs_138, zl_138, za_139, zs_139, zl_139, za_140, zs_140, zl_140, za_141, zs_141, zl_141, za_142, zs_142, zl_142, za_143, zs_143, zl_143, za_144, zs_144, zl_144, za_145, zs_145, zl_145, za_146, zs_146, zl_146, za_147, zs_147, zl_147, za_148, zs_148, zl_148, za_149, zs_149, zl_149, za_150, zs_150, zl_150, za_151, zs_151, zl_151, za_152, zs_152, zl_152, za_153, zs_153, zl_153, za_154, zs_154, zl_154, zz_0, zz_31, zz_add, zz_sub, zz_mul, zz_neg, zz_lt, zz_le, zz_eq, zz_div, zz_md, zz_dv, zz_abs, zz_max, zz_min, zz_nI, zz_be0, zz_be1, zz_zb, zz_z, zz_l0, zz_l, zz_lcmp, zo_rf, zo_nl, zo_nn, zo_rI, zo_rL, zo_rR, zo_rV, Int.add_zero, Int.zero_add, Int.mul_zero, Int.zero_mul, Int.one_mul, Int.mul_one, if_true, if_false, not_true_eq_false, not_false_eq_true]
    refine zz_Ei (fun h => absurd h (by omega)) (fun _ => ?_)
    refine zz_Ei (fun h => absurd h (by omega)) (fun _ => ?_)
    have idx : 16 * P (16 + j) + (16 + j) - 16 = 16 * P (16 + j) + j := by omega
    rw [idx]
    have hw1 : zz_u (zz_w (zz_w J1 143 (zz_f (J1 143) e (J1 143 e + 1))) 144 B) 144 (16 * P (16 + j) + j) (B (16 * P (16 + j) + j) + 1) = zz_w (zz_w J1 143 (zz_f (J1 143) e (J1 143 e + 1))) 144 (zz_f B (16 * P (16 + j) + j) (B (16 * P (16 + j) + j) + 1)) := by
      rw [zz_uw, zw_s, zw_w]
    rw [hw1]
    have hx1 : zz_xr ex N (zz_f B (16 * P (16 + j) + j) (B (16 * P (16 + j) + j) + 1)) = zz_u2 (zz_xr ex N B) (zz_pv P j) j (zz_xr ex N B (zz_pv P j) j + 1) := by
      rw [zz_xr_v v1 j0 j1, e1]
      exact zz_xr_u (by rw [← e1]; exact v1) j0 j1 hn
    have hB1 : ∀ a b, 0 ≤ a → a < N → 0 ≤ b → b < N → ¬ zz_hi ex N a → zz_f B (16 * P (16 + j) + j) (B (16 * P (16 + j) + j) + 1) (16 * a + b) = J1 144 (16 * a + b) := by
      intro a b a0 a1 b0 b1 ha
      have hne : a ≠ P (16 + j) := fun q => ha (by rw [q, ← e1]; exact v1)
      rw [zf_n (by omega)]
      exact hB a b a0 a1 b0 b1 ha
    refine zz_Es (fun n => e_172_180 _ _ _ _) ?_
    simp (maxSteps := 5000000) (disch := first | assumption | omega) only [zw_s, zw_n, h6, zr_131_0, zr_131_1, zr_131_2, zr_131_3, zr_131_4, zr_131_5, zr_131_6, zr_131_7, zr_131_8, zg_131_9, zp_131_9, zg_131_10, zp_131_10, zg_131_11, zp_131_11, zg_131_12, zp_131_12, zg_131_13, zp_131_13, zg_131_14, zp_131_14, zr_131_15, zg_131_16, zp_131_16, zg_131_17, zp_131_17, zr_131_18, zr_131_19, zr_131_20, zr_131_21, zr_131_22, zg_131_23, zp_131_23, zr_131_24, zg_131_25, zp_131_25, zg_131_26, zp_131_26, zr_131_27, zr_131_28, zg_131_29, zp_131_29, zg_131_30, zp_131_30, zr_131_31, zr_131_32, zr_131_33, zr_131_34, zr_131_35, zi_131, za_132, zs_132, zl_132, za_133, zs_133, zl_133, za_134, zs_134, zl_134, za_135, zs_135, zl_135, za_136, zs_136, zl_136, za_137, zs_137, zl_137, za_138, zs_138, zl_138, za_139, zs_139, zl_139, za_140, zs_140, zl_140, za_141, zs_141, zl_141, za_142, zs_142, zl_142, za_143, zs_143, zl_143, za_144, zs_144, zl_144, za_145, zs_145, zl_145, za_146, zs_146, zl_146, za_147, zs_147, zl_147, za_148, zs_148, zl_148, za_149, zs_149, zl_149, za_150, zs_150, zl_150, za_151, zs_151, zl_151, za_152, zs_152, zl_152, za_153, zs_153, zl_153, za_154, zs_154, zl_154, zz_0, zz_31, zz_add, zz_sub, zz_mul, zz_neg, zz_lt, zz_le, zz_eq, zz_div, zz_md, zz_dv, zz_abs, zz_max, zz_min, zz_nI, zz_be0, zz_be1, zz_zb, zz_z, zz_l0, zz_l, zz_lcmp, zo_rf, zo_nl, zo_nn, zo_rI, zo_rL, zo_rR, zo_rV, Int.add_zero, Int.zero_add, Int.mul_zero, Int.zero_mul, Int.one_mul, Int.mul_one, if_true, if_false, not_true_eq_false, not_false_eq_true]
    rcases hui with ⟨u1, u2, u3⟩ | ⟨u1, u2, u3, u4, u5⟩
    · rw [e1, e2] at u1
      have hOr := (hO.1 _ v1.1 v1.2.1).1
      have hne : P (16 + j) ≠ e := fun q => hee (by rw [← q, ← e1]; exact v1)
      refine zz_Ei (fun _ => ?_) (fun h => absurd (by omega) h)
      obtain ⟨f1, f2, f3, f4, f5⟩ := zz_au2 (by omega) hau (fun a ha => ⟨ha.1, ha.2.1⟩) j0 j1 v1 v2 u2
      rw [← hx1] at f1 f2 f3 f4 f5
      refine kk _ (zz_pv P j) _ v1 u3 ?_ f1 f2 f3 f4 (fun x x1 x2 => ?_) ?_ ?_
      · rw [zz_uw, zw_n (by omega), zw_s]
      · rw [zz_uw, zw_n x1, zw_n x2, zw_n x1]
      · rw [zz_uw, zw_s, zw_n (by omega), zw_s, e1, zf_n hne]
      · intro a b a0 a1 b0 b1 ha
        rw [zz_uw, zw_n (by omega), zw_s]
        exact hB1 a b a0 a1 b0 b1 ha
    · have q1 : 16 ≤ P (P (16 + j)) := by rw [e1, e2] at u1; omega
      have q2 : P (P (16 + j)) - 16 < N := by rw [e1, e2] at u2; exact u2
      refine zz_Ei (fun h => absurd h (by omega)) (fun _ => ?_)
      refine zz_Ei (fun _ => ?_) (fun h => absurd (by omega) h)
      have k2 : (1 : Int) ≤ zz_xr ex N (J1 144) (zz_pv P j) (zz_pu P (zz_pv P j)) := by omega
      obtain ⟨hne, hau1⟩ := zz_au1 (by omega) hau (fun a ha => ⟨ha.1, ha.2.1⟩) j0 j1 v1 v2 u1 u2 k2 u3 (hv _ u1 u2).1 u5 u4
      have e3 : zz_pu P (zz_pv P j) = P (P (16 + j)) - 16 := by rw [e1, e2]
      rw [← hx1] at hau1
      rw [e3] at hau1 hne
      have idx2 : 16 * P (16 + j) + P (P (16 + j)) - 16 = 16 * P (16 + j) + (P (P (16 + j)) - 16) := by omega
      rw [idx2]
      have j'0 : 0 ≤ P (P (16 + j)) - 16 := by omega
      generalize hj' : P (P (16 + j)) - 16 = j' at *
      rw [show P (P (16 + j)) = 16 + j' by omega]
      have hxv : zz_xr ex N B (zz_pv P j) j' = zz_f B (16 * P (16 + j) + j) (B (16 * P (16 + j) + j) + 1) (16 * P (16 + j) + j') := by
        rw [zz_xr_v v1 j'0 q2, e1, zf_n (by omega)]
      have hw2 : zz_u (zz_w (zz_w J1 143 (zz_f (J1 143) e (J1 143 e + 1))) 144 (zz_f B (16 * P (16 + j) + j) (B (16 * P (16 + j) + j) + 1))) 144 (16 * P (16 + j) + j') (zz_f B (16 * P (16 + j) + j) (B (16 * P (16 + j) + j) + 1) (16 * P (16 + j) + j') - 1) = zz_w (zz_w J1 143 (zz_f (J1 143) e (J1 143 e + 1))) 144 (zz_f (zz_f B (16 * P (16 + j) + j) (B (16 * P (16 + j) + j) + 1)) (16 * P (16 + j) + j') (zz_f B (16 * P (16 + j) + j) (B (16 * P (16 + j) + j) + 1) (16 * P (16 + j) + j') - 1)) := by
        rw [zz_uw, zw_s, zw_w]
      rw [hw2]
      refine ih j' _ j'0 q2 ?_ ?_ ?_
      · rw [e3] at u5
        omega
      · rw [hxv] at hau1
        rw [show zz_xr ex N (zz_f (zz_f B (16 * P (16 + j) + j) (B (16 * P (16 + j) + j) + 1)) (16 * P (16 + j) + j') (zz_f B (16 * P (16 + j) + j) (B (16 * P (16 + j) + j) + 1) (16 * P (16 + j) + j') - 1)) = zz_u2 (zz_xr ex N (zz_f B (16 * P (16 + j) + j) (B (16 * P (16 + j) + j) + 1))) (zz_pv P j) j' (zz_f B (16 * P (16 + j) + j) (B (16 * P (16 + j) + j) + 1) (16 * P (16 + j) + j') - 1) by
          rw [e1]
          exact zz_xr_u (by rw [← e1]; exact v1) j'0 q2 hn]
        exact hau1
      · intro a b a0 a1 b0 b1 ha
        have hne2 : a ≠ P (16 + j) := fun q => ha (by rw [q, ← e1]; exact v1)
        rw [zf_n (by omega)]
        exact hB1 a b a0 a1 b0 b1 ha
end ZLEA
