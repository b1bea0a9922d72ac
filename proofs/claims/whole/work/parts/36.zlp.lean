/-! PURE LAYER, 5: transports: shortest ways, potentials, what is least -/
theorem zz_sum_add {f g : Int → Int} {c : Int} (h : 0 ≤ c) : zz_sum (fun i => f i + g i) c = zz_sum f c + zz_sum g c := by
  obtain ⟨n, rfl⟩ := Int.eq_ofNat_of_zero_le h
  induction n with
  | zero => rfl
  | succ n ih =>
    have := ih (by omega)
    show zz_sum (fun i => f i + g i) n + (f n + g n) = (zz_sum f n + f n) + (zz_sum g n + g n)
    omega
theorem zz_sum_sub {f g : Int → Int} {c : Int} (h : 0 ≤ c) : zz_sum (fun i => f i - g i) c = zz_sum f c - zz_sum g c := by
  obtain ⟨n, rfl⟩ := Int.eq_ofNat_of_zero_le h
  induction n with
  | zero => rfl
  | succ n ih =>
    have := ih (by omega)
    show zz_sum (fun i => f i - g i) n + (f n - g n) = (zz_sum f n + f n) - (zz_sum g n + g n)
    omega
theorem zz_sum_mul {f : Int → Int} {c k : Int} (h : 0 ≤ c) : zz_sum (fun i => k * f i) c = k * zz_sum f c := by
  obtain ⟨n, rfl⟩ := Int.eq_ofNat_of_zero_le h
  induction n with
  | zero => simp [zz_sum, zz_sn]
  | succ n ih =>
    have := ih (by omega)
    show zz_sum (fun i => k * f i) n + k * f n = k * (zz_sum f n + f n)
    rw [this, Int.mul_add]
theorem zz_sum_z {f : Int → Int} {c : Int} (h : 0 ≤ c) (hf : ∀ i, 0 ≤ i → i < c → f i = 0) : zz_sum f c = 0 := by
  rw [zz_sum_c (g := fun _ => 0 * (0 : Int)) h (fun i h1 h2 => by rw [hf i h1 h2]; rfl), zz_sum_mul (f := fun _ => 0) h, Int.zero_mul]
theorem zz_sum_swap {f : Int → Int → Int} {c e : Int} (h : 0 ≤ c) (h' : 0 ≤ e) : zz_sum (fun i => zz_sum (fun j => f i j) e) c = zz_sum (fun j => zz_sum (fun i => f i j) c) e := by
  obtain ⟨n, rfl⟩ := Int.eq_ofNat_of_zero_le h
  induction n with
  | zero => exact (zz_sum_z h' (fun i _ _ => rfl)).symm
  | succ n ih =>
    have := ih (by omega)
    show zz_sum (fun i => zz_sum (fun j => f i j) e) n + zz_sum (fun j => f n j) e = _
    rw [this, ← zz_sum_add h']
    rfl
theorem zz_sum_le {f g : Int → Int} {c : Int} (h : 0 ≤ c) (hf : ∀ i, 0 ≤ i → i < c → f i ≤ g i) : zz_sum f c ≤ zz_sum g c := by
  obtain ⟨n, rfl⟩ := Int.eq_ofNat_of_zero_le h
  induction n with
  | zero => exact Int.le_refl _
  | succ n ih =>
    have h1 := ih (by omega) (fun i h1 h2 => hf i h1 (by omega))
    have h2 := hf n (by omega) (by omega)
    show zz_sum f n + f n ≤ zz_sum g n + g n
    omega
theorem zz_sum_lt {f g : Int → Int} {c k : Int} (hf : ∀ i, 0 ≤ i → i < c → f i ≤ g i) (h0 : 0 ≤ k) (h1 : k < c) (hk : f k < g k) : zz_sum f c < zz_sum g c := by
  obtain ⟨n, rfl⟩ := Int.eq_ofNat_of_zero_le (show 0 ≤ c by omega)
  induction n with
  | zero => omega
  | succ n ih =>
    show zz_sum f n + f n < zz_sum g n + g n
    by_cases e : k = n
    · subst e
      have := zz_sum_le (f := f) (g := g) (c := (n : Int)) (by omega) (fun i h1 h2 => hf i h1 (by omega))
      omega
    · have := ih (fun i h1 h2 => hf i h1 (by omega)) (by omega)
      have := hf n (by omega) (by omega)
      omega
theorem zz_sum_f {f : Int → Int} {c k v : Int} (h0 : 0 ≤ k) (h1 : k < c) : zz_sum (zz_f f k v) c = zz_sum f c + (v - f k) := by
  obtain ⟨n, rfl⟩ := Int.eq_ofNat_of_zero_le (show 0 ≤ c by omega)
  induction n with
  | zero => omega
  | succ n ih =>
    show zz_sum (zz_f f k v) n + zz_f f k v n = zz_sum f n + f n + (v - f k)
    by_cases e : k = n
    · subst e
      rw [zf_s, zz_sum_c (g := f) (by omega) (fun i _ h2 => zf_n (by omega))]
      omega
    · rw [ih (by omega), zf_n (by omega)]
      omega
theorem zz_sum_1 {c : Int} (h : 0 ≤ c) : zz_sum (fun _ => 1) c = c := by
  obtain ⟨n, rfl⟩ := Int.eq_ofNat_of_zero_le h
  induction n with
  | zero => rfl
  | succ n ih =>
    have := ih (by omega)
    show zz_sum (fun _ => 1) n + 1 = _
    omega
theorem zz_sum_1z {f : Int → Int} {c : Int} (hf : ∀ i, 0 ≤ i → i < c → 0 ≤ f i) {k : Int} (h0 : 0 ≤ k) (h1 : k < c) : f k ≤ zz_sum f c := by
  obtain ⟨n, rfl⟩ := Int.eq_ofNat_of_zero_le (show 0 ≤ c by omega)
  induction n with
  | zero => omega
  | succ n ih =>
    show f k ≤ zz_sum f n + f n
    by_cases e : k = n
    · subst e
      have := zz_sum_b (f := f) (a := 0) (b := 0) (c := (n : Int))
      have h2 := zz_sum_le (f := fun _ => 0) (g := f) (c := (n : Int)) (by omega) (fun i h1 h2 => hf i h1 (by omega))
      rw [zz_sum_z (by omega) (fun _ _ _ => rfl)] at h2
      omega
    · have := ih (fun i h1 h2 => hf i h1 (by omega)) (by omega)
      have := hf n (by omega) (by omega)
      omega
/-- a number of a table of two places -/
def zz_u2 (x : Int → Int → Int) (i j v : Int) : Int → Int → Int := fun a b => if a = i ∧ b = j then v else x a b
theorem z2_s {x : Int → Int → Int} {i j v : Int} : zz_u2 x i j v i j = v := if_pos ⟨rfl, rfl⟩
theorem z2_n {x : Int → Int → Int} {i j v a b : Int} (h : ¬(a = i ∧ b = j)) : zz_u2 x i j v a b = x a b := if_neg h
theorem z2_row {x : Int → Int → Int} {i j v : Int} : zz_u2 x i j v i = zz_f (x i) j v := by
  funext b
  unfold zz_u2 zz_f
  by_cases h : b = j
  · rw [if_pos ⟨rfl, h⟩, if_pos h]
  · rw [if_neg (fun q => h q.2), if_neg h]
theorem z2_rown {x : Int → Int → Int} {i j v a : Int} (h : a ≠ i) : zz_u2 x i j v a = x a := by
  funext b
  exact z2_n (fun q => h q.1)
theorem z2_col {x : Int → Int → Int} {i j v : Int} : (fun a => zz_u2 x i j v a j) = zz_f (fun a => x a j) i v := by
  funext a
  unfold zz_u2 zz_f
  by_cases h : a = i
  · rw [if_pos ⟨h, rfl⟩, if_pos h]
  · rw [if_neg (fun q => h q.1), if_neg h]
theorem z2_coln {x : Int → Int → Int} {i j v b : Int} (h : b ≠ j) : (fun a => zz_u2 x i j v a b) = fun a => x a b := by
  funext a
  exact z2_n (fun q => h q.2)
def zz_cst (w x : Int → Int → Int) (n m : Int) : Int := zz_sum (fun a => zz_sum (fun b => w a b * x a b) m) n
theorem z2_cst {w x : Int → Int → Int} {n m i j v : Int} (h0 : 0 ≤ i) (h1 : i < n) (h2 : 0 ≤ j) (h3 : j < m) : zz_cst w (zz_u2 x i j v) n m = zz_cst w x n m + w i j * (v - x i j) := by
  unfold zz_cst
  have e : (fun a => zz_sum (fun b => w a b * zz_u2 x i j v a b) m) = zz_f (fun a => zz_sum (fun b => w a b * x a b) m) i (zz_sum (fun b => w i b * x i b) m + w i j * (v - x i j)) := by
    funext a
    by_cases h : a = i
    · subst h
      rw [zf_s]
      have e2 : (fun b => w a b * zz_u2 x a j v a b) = zz_f (fun b => w a b * x a b) j (w a j * v) := by
        funext b
        by_cases hb : b = j
        · subst hb; rw [zf_s, z2_s]
        · rw [zf_n hb, z2_n (fun q => hb q.2)]
      rw [e2, zz_sum_f h2 h3, Int.mul_sub]
    · rw [zf_n h, z2_rown h]
  rw [e, zz_sum_f h0 h1]
  omega
def zz_klt (r t r' t' : Int) : Prop := r < r' ∨ (r = r' ∧ t < t')
/-- labels (10^6 where nothing came yet) and the pointers back, while they spread; N, tu, tv: the times at which they were set -/
def zz_bf (hi : Int → Prop) (m : Int) (w x : Int → Int → Int) (src : Int → Prop) (u v du dv pu pv : Int → Int) : Prop :=
  (∀ a, hi a → (du a = 1000000 ∧ pu a < 0 ∧ ¬ src a) ∨ (du a = 0 ∧ pu a < 0 ∧ src a) ∨ (0 ≤ pu a ∧ pu a < m ∧ 0 < x a (pu a) ∧ dv (pu a) - w a (pu a) ≤ du a ∧ du a < 1000000 ∧ dv (pu a) < 1000000)) ∧
  (∀ b, 0 ≤ b → b < m → (dv b = 1000000 ∧ pv b < 0) ∨ (hi (pv b) ∧ du (pv b) + w (pv b) b ≤ dv b ∧ dv b < 1000000)) ∧
  (∀ a, hi a → src a → du a ≤ 0) ∧
  ∃ (N : Int) (tu tv : Int → Int), (∀ a, tu a ≤ N) ∧ (∀ b, tv b ≤ N) ∧ (∀ a, hi a → 0 ≤ pu a → zz_klt (dv (pu a) - v (pu a)) (tv (pu a)) (du a - u a) (tu a)) ∧ (∀ b, 0 ≤ b → b < m → 0 ≤ pv b → zz_klt (du (pv b) - u (pv b)) (tu (pv b)) (dv b - v b) (tv b))
def zz_pot (hi : Int → Prop) (m W : Int) (w x : Int → Int → Int) (u v : Int → Int) : Prop := ∀ a b, hi a → 0 ≤ b → b < m → (0 ≤ w a b ∧ w a b ≤ W) ∧ 0 ≤ x a b ∧ v b - u a ≤ w a b ∧ (0 < x a b → v b - u a = w a b)
section ZBF
variable {hi src : Int → Prop} {m nl W : Int} {w x : Int → Int → Int} {u v du dv pu pv : Int → Int}
theorem zz_bf0 (hs : ∀ a, hi a → (src a → du a = 0) ∧ (¬ src a → du a = 1000000) ∧ pu a < 0) (hb : ∀ b, 0 ≤ b → b < m → dv b = 1000000 ∧ pv b < 0) : zz_bf hi m w x src u v du dv pu pv := by
  refine ⟨fun a ha => ?_, fun b h0 h1 => Or.inl (hb b h0 h1), fun a ha hsr => by rw [(hs a ha).1 hsr]; omega, 0, fun _ => 0, fun _ => 0, fun _ => Int.le_refl _, fun _ => Int.le_refl _, fun a ha hp => ?_, fun b h0 h1 hp => ?_⟩
  · by_cases h : src a
    · exact Or.inr (Or.inl ⟨(hs a ha).1 h, (hs a ha).2.2, h⟩)
    · exact Or.inl ⟨(hs a ha).2.1 h, (hs a ha).2.2, h⟩
  · have := (hs a ha).2.2
    omega
  · have := (hb b h0 h1).2
    omega
theorem zz_rf (h0 : ∀ a, hi a → 0 ≤ a) (hP : zz_pot hi m W w x u v) (h : zz_bf hi m w x src u v du dv pu pv) {a b : Int} (ha : hi a) (hb0 : 0 ≤ b) (hb1 : b < m) (hlt : du a + w a b < dv b) : zz_bf hi m w x src u v du (zz_f dv b (du a + w a b)) pu (zz_f pv b a) := by
  obtain ⟨h1, h2, h3, N, tu, tv, n1, n2, k1, k2⟩ := h
  have hdb : dv b ≤ 1000000 := by
    rcases h2 b hb0 hb1 with q | q
    · omega
    · omega
  have hp := hP a b ha hb0 hb1
  refine ⟨fun a' ha' => ?_, fun b' q0 q1 => ?_, h3, N + 1, tu, zz_f tv b (N + 1), fun a => by have := n1 a; omega, fun b' => ?_, fun a' ha' hpu => ?_, fun b' q0 q1 hpv => ?_⟩
  · rcases h1 a' ha' with q | q | ⟨p0, p1, p2, p3, p4, p5⟩
    · exact Or.inl q
    · exact Or.inr (Or.inl q)
    · refine Or.inr (Or.inr ⟨p0, p1, p2, ?_, p4, ?_⟩)
      · by_cases e : pu a' = b
        · rw [e, zf_s]; rw [e] at p3; omega
        · rw [zf_n e]; exact p3
      · by_cases e : pu a' = b
        · rw [e, zf_s]; omega
        · rw [zf_n e]; exact p5
  · by_cases e : b' = b
    · subst e
      rw [zf_s, zf_s]
      exact Or.inr ⟨ha, Int.le_refl _, by omega⟩
    · rw [zf_n e, zf_n e]
      exact h2 b' q0 q1
  · by_cases e : b' = b
    · rw [e, zf_s]; omega
    · rw [zf_n e]; have := n2 b'; omega
  · have := k1 a' ha' hpu
    by_cases e : pu a' = b
    · rw [e, zf_s, zf_s]
      rw [e] at this
      unfold zz_klt at *
      omega
    · rw [zf_n e, zf_n e]
      exact this
  · by_cases e : b' = b
    · subst e
      rw [zf_s, zf_s, zf_s]
      have := n1 a
      unfold zz_klt
      omega
    · rw [zf_n e] at hpv
      rw [zf_n e, zf_n e, zf_n e]
      exact k2 b' q0 q1 hpv
theorem zz_rb (h0 : ∀ a, hi a → 0 ≤ a) (hP : zz_pot hi m W w x u v) (h : zz_bf hi m w x src u v du dv pu pv) {a b : Int} (ha : hi a) (hb0 : 0 ≤ b) (hb1 : b < m) (hx : 0 < x a b) (hdv : dv b < 1000000) (hlt : dv b - w a b < du a) : zz_bf hi m w x src u v (zz_f du a (dv b - w a b)) dv (zz_f pu a b) pv := by
  obtain ⟨h1, h2, h3, N, tu, tv, n1, n2, k1, k2⟩ := h
  have hp := hP a b ha hb0 hb1
  have he := hp.2.2.2 hx
  refine ⟨fun a' ha' => ?_, fun b' q0 q1 => ?_, fun a' ha' hs => ?_, N + 1, zz_f tu a (N + 1), tv, fun a' => ?_, fun b => by have := n2 b; omega, fun a' ha' hpu => ?_, fun b' q0 q1 hpv => ?_⟩
  · by_cases e : a' = a
    · subst e
      rw [zf_s, zf_s]
      exact Or.inr (Or.inr ⟨hb0, hb1, hx, Int.le_refl _, by omega, hdv⟩)
    · rw [zf_n e, zf_n e]
      exact h1 a' ha'
  · rcases h2 b' q0 q1 with q | ⟨p1, p2, p3⟩
    · exact Or.inl q
    · refine Or.inr ⟨p1, ?_, p3⟩
      by_cases e : pv b' = a
      · rw [e, zf_s]; rw [e] at p2; omega
      · rw [zf_n e]; exact p2
  · have := h3 a' ha' hs
    by_cases e : a' = a
    · rw [e, zf_s]; rw [e] at this; omega
    · rw [zf_n e]; exact this
  · by_cases e : a' = a
    · rw [e, zf_s]; omega
    · rw [zf_n e]; have := n1 a'; omega
  · by_cases e : a' = a
    · subst e
      rw [zf_s, zf_s, zf_s]
      have := n2 b
      unfold zz_klt
      omega
    · rw [zf_n e] at hpu
      rw [zf_n e, zf_n e, zf_n e]
      exact k1 a' ha' hpu
  · have := k2 b' q0 q1 hpv
    by_cases e : pv b' = a
    · rw [e, zf_s, zf_s]
      rw [e] at this
      unfold zz_klt at *
      omega
    · rw [zf_n e, zf_n e]
      exact this
/-- ranks of the nodes on the left: the way back falls -/
theorem zz_rank (h0 : ∀ a, hi a → 0 ≤ a ∧ a < nl) (h : zz_bf hi m w x src u v du dv pu pv) : ∃ rk : Int → Int, (∀ a, hi a → 0 ≤ rk a ∧ rk a < nl) ∧ ∀ a, hi a → 0 ≤ pu a → hi (pv (pu a)) ∧ rk (pv (pu a)) < rk a := by
  obtain ⟨h1, h2, h3, N, tu, tv, n1, n2, k1, k2⟩ := h
  refine ⟨fun a => zz_sum (fun a' => zz_b (hi a' ∧ zz_klt (du a' - u a') (tu a') (du a - u a) (tu a))) nl, fun a ha => ?_, fun a ha hp => ?_⟩
  · have hn := h0 a ha
    have q1 := zz_sum_lt (f := fun a' => zz_b (hi a' ∧ zz_klt (du a' - u a') (tu a') (du a - u a) (tu a))) (g := fun _ => 1) (c := nl) (k := a) (fun i _ _ => by
      rcases zz_b_c (hi i ∧ zz_klt (du i - u i) (tu i) (du a - u a) (tu a)) with q | q <;> omega) hn.1 hn.2 (by
      show zz_b _ < 1
      rw [zz_b_f]
      · omega
      · intro q
        have := q.2
        unfold zz_klt at this
        omega)
    have q2 := zz_sum_le (f := fun _ => 0) (g := fun a' => zz_b (hi a' ∧ zz_klt (du a' - u a') (tu a') (du a - u a) (tu a))) (c := nl) (by omega) (fun i _ _ => by
      rcases zz_b_c (hi i ∧ zz_klt (du i - u i) (tu i) (du a - u a) (tu a)) with q | q <;> omega)
    rw [zz_sum_1 (by omega)] at q1
    rw [zz_sum_z (by omega) (fun _ _ _ => rfl)] at q2
    exact ⟨q2, q1⟩
  · have hp2 : pu a < m ∧ dv (pu a) < 1000000 := by
      rcases h1 a ha with q | q | q
      · omega
      · omega
      · exact ⟨q.2.1, q.2.2.2.2.2⟩
    have hb : hi (pv (pu a)) := by
      rcases h2 (pu a) hp hp2.1 with q | q
      · omega
      · exact q.1
    refine ⟨hb, ?_⟩
    have e1 := k1 a ha hp
    have e2 := k2 (pu a) hp hp2.1 (h0 _ hb).1
    refine zz_sum_lt (k := pv (pu a)) (fun i _ _ => ?_) (h0 _ hb).1 (h0 _ hb).2 ?_
    · show zz_b _ ≤ zz_b _
      rcases zz_b_c (hi i ∧ zz_klt (du i - u i) (tu i) (du (pv (pu a)) - u (pv (pu a))) (tu (pv (pu a)))) with ⟨q, _⟩ | ⟨q, q'⟩
      · rw [q]
        rcases zz_b_c (hi i ∧ zz_klt (du i - u i) (tu i) (du a - u a) (tu a)) with q | q <;> omega
      · rw [q, zz_b_t]
        · omega
        · refine ⟨q'.1, ?_⟩
          have := q'.2
          unfold zz_klt at *
          omega
    · show zz_b _ < zz_b _
      rw [zz_b_f, zz_b_t]
      · omega
      · refine ⟨hb, ?_⟩
        unfold zz_klt at *
        omega
      · intro q
        have := q.2
        unfold zz_klt at this
        omega
/-- how low labels can be -/
theorem zz_low (h0 : ∀ a, hi a → 0 ≤ a ∧ a < nl) (hW : 0 ≤ W) (hP : zz_pot hi m W w x u v) (h : zz_bf hi m w x src u v du dv pu pv) : (∀ a, hi a → -(W * nl) ≤ du a ∧ du a ≤ 1000000) ∧ ∀ b, 0 ≤ b → b < m → 0 ≤ nl → -(W * nl) ≤ dv b ∧ dv b ≤ 1000000 := by
  obtain ⟨rk, r1, r2⟩ := zz_rank h0 h
  obtain ⟨h1, h2, h3, -⟩ := h
  have key : ∀ (n : Nat) a, hi a → rk a < n → -(W * rk a) ≤ du a := by
    intro n
    induction n with
    | zero => intro a ha hn; have := (r1 a ha).1; omega
    | succ n ih =>
      intro a ha hn
      have hr := r1 a ha
      have hWr : 0 ≤ W * rk a := Int.mul_nonneg hW hr.1
      rcases h1 a ha with q | q | ⟨p0, p1, p2, p3, p4, p5⟩
      · omega
      · omega
      · have hr2 := r2 a ha p0
        have hb := r1 _ hr2.1
        have e1 := ih _ hr2.1 (by omega)
        rcases h2 (pu a) p0 p1 with q | q
        · omega
        · have e2 := hP (pv (pu a)) (pu a) hr2.1 p0 p1
          have e3 := hP a (pu a) ha p0 p1
          have e4 : W * (rk (pv (pu a)) + 1) ≤ W * rk a := Int.mul_le_mul_of_nonneg_left (by omega) hW
          rw [Int.mul_add, Int.mul_one] at e4
          omega
  have hu : ∀ a, hi a → -(W * nl) ≤ du a := by
    intro a ha
    have hr := r1 a ha
    have e1 := key (rk a).toNat.succ a ha (by omega)
    have e4 : W * rk a ≤ W * nl := Int.mul_le_mul_of_nonneg_left (by omega) hW
    omega
  refine ⟨fun a ha => ⟨hu a ha, ?_⟩, fun b q0 q1 hn => ?_⟩
  · rcases h1 a ha with q | q | q <;> omega
  · have hWn : 0 ≤ W * nl := Int.mul_nonneg hW hn
    rcases h2 b q0 q1 with q | ⟨p1, p2, p3⟩
    · omega
    · have := hu _ p1
      have := hP _ b p1 q0 q1
      omega
/-- at the end the labels are potentials -/
theorem zz_newp (hW : 0 ≤ W) (hW2 : W ≤ 1000) (hP : zz_pot hi m W w x u v) (h : zz_bf hi m w x src u v du dv pu pv) (E1 : ∀ a b, hi a → 0 ≤ b → b < m → du a < 1000000 → dv b ≤ du a + w a b) (E2 : ∀ a b, hi a → 0 ≤ b → b < m → 0 < x a b → dv b < 1000000 → du a ≤ dv b - w a b) {a0 : Int} (ha0 : hi a0) (hs0 : src a0) (hx : ∀ a, hi a → src a ∨ ∃ b, 0 ≤ b ∧ b < m ∧ 0 < x a b) : (∀ b, 0 ≤ b → b < m → dv b < 1000000) ∧ (∀ a, hi a → du a < 1000000) ∧ zz_pot hi m W w x du dv := by
  obtain ⟨h1, h2, h3, -⟩ := h
  have hdv : ∀ b, 0 ≤ b → b < m → dv b < 1000000 := by
    intro b q0 q1
    have e1 := h3 a0 ha0 hs0
    have e2 := E1 a0 b ha0 q0 q1 (by omega)
    have e3 := hP a0 b ha0 q0 q1
    omega
  have hdu : ∀ a, hi a → du a < 1000000 := by
    intro a ha
    rcases hx a ha with q | ⟨b, q0, q1, q2⟩
    · have := h3 a ha q
      omega
    · have e2 := E2 a b ha q0 q1 q2 (hdv b q0 q1)
      have e3 := hP a b ha q0 q1
      have := hdv b q0 q1
      omega
  refine ⟨hdv, hdu, fun a b ha q0 q1 => ?_⟩
  have e3 := hP a b ha q0 q1
  have e1 := E1 a b ha q0 q1 (hdu a ha)
  refine ⟨e3.1, e3.2.1, by omega, fun q => ?_⟩
  have e2 := E2 a b ha q0 q1 q (hdv b q0 q1)
  omega
end ZBF
/-- a plan, with potentials that show that none costs less -/
def zz_cert (n : Int) (w : Int → Int → Int) (ex : Int → Int) (K : Int) : Prop := ∃ (x : Int → Int → Int) (u v : Int → Int), (∀ a b, 0 ≤ a → a < n → 0 ≤ b → b < n → 0 ≤ x a b ∧ (0 < x a b → 0 < ex a ∧ ex b < 0 ∧ v b - u a = w a b) ∧ (0 < ex a → ex b < 0 → v b - u a ≤ w a b)) ∧ (∀ a, 0 ≤ a → a < n → zz_sum (fun b => x a b) n = max 0 (ex a)) ∧ (∀ b, 0 ≤ b → b < n → zz_sum (fun a => x a b) n = max 0 (-ex b)) ∧ K = zz_cst w x n n
theorem zz_dual {n : Int} (hn : 0 ≤ n) {x : Int → Int → Int} {u v r c : Int → Int} (h1 : ∀ a, 0 ≤ a → a < n → zz_sum (fun b => x a b) n = r a) (h2 : ∀ b, 0 ≤ b → b < n → zz_sum (fun a => x a b) n = c b) : zz_cst (fun a b => v b - u a) x n n = zz_sum (fun b => v b * c b) n - zz_sum (fun a => u a * r a) n := by
  unfold zz_cst
  have e1 : zz_sum (fun a => zz_sum (fun b => (v b - u a) * x a b) n) n = zz_sum (fun a => zz_sum (fun b => v b * x a b) n - zz_sum (fun b => u a * x a b) n) n := by
    refine zz_sum_c hn (fun a _ _ => ?_)
    rw [← zz_sum_sub hn]
    refine zz_sum_c hn (fun b _ _ => ?_)
    rw [Int.sub_mul]
  rw [e1, zz_sum_sub hn, zz_sum_swap hn hn]
  congr 1
  · refine zz_sum_c hn (fun b q0 q1 => ?_)
    rw [zz_sum_mul hn, h2 b q0 q1]
  · refine zz_sum_c hn (fun a q0 q1 => ?_)
    rw [zz_sum_mul hn, h1 a q0 q1]
theorem zz_cert_le {n : Int} (hn : 0 ≤ n) {w : Int → Int → Int} {ex : Int → Int} {K1 K2 : Int} (h1 : zz_cert n w ex K1) (h2 : zz_cert n w ex K2) : K2 ≤ K1 := by
  obtain ⟨x, u, v, p1, p2, p3, rfl⟩ := h1
  obtain ⟨y, s, t, q1, q2, q3, rfl⟩ := h2
  have e1 : zz_cst w y n n = zz_cst (fun a b => t b - s a) y n n := by
    unfold zz_cst
    refine zz_sum_c hn (fun a a0 a1 => zz_sum_c hn (fun b b0 b1 => ?_))
    have := q1 a b a0 a1 b0 b1
    by_cases h : 0 < y a b
    · show w a b * y a b = (t b - s a) * y a b
      rw [(this.2.1 h).2.2]
    · rw [show y a b = 0 by omega, Int.mul_zero, Int.mul_zero]
  have e2 : zz_cst (fun a b => t b - s a) x n n ≤ zz_cst w x n n := by
    unfold zz_cst
    refine zz_sum_le hn (fun a a0 a1 => zz_sum_le hn (fun b b0 b1 => ?_))
    have z1 := p1 a b a0 a1 b0 b1
    have z2 := q1 a b a0 a1 b0 b1
    by_cases h : 0 < x a b
    · exact Int.mul_le_mul_of_nonneg_right (z2.2.2 (z1.2.1 h).1 (z1.2.1 h).2.1) z1.1
    · rw [show x a b = 0 by omega, Int.mul_zero, Int.mul_zero]
      exact Int.le_refl _
  rw [e1, zz_dual hn q2 q3, ← zz_dual (x := x) hn p2 p3]
  exact e2
theorem zz_cert_eq {n : Int} (hn : 0 ≤ n) {w : Int → Int → Int} {ex : Int → Int} {K1 K2 : Int} (h1 : zz_cert n w ex K1) (h2 : zz_cert n w ex K2) : K1 = K2 := by
  have := zz_cert_le hn h1 h2
  have := zz_cert_le hn h2 h1
  omega
