/-! PURE LAYER, 88: a statement's deed keeps an object sound -/
section ZAC5
variable {Y : Int} {A A' : Int → Int} {a b c e : Int}
theorem zt_a98 : zt_act A 98 [a] = if a < A 0 * A 1 ∧ zz_bit (A 6) a = 0 then some (zz_f A 6 (zz_lor (A 6) a)) else none := by
  unfold zt_act
  rw [if_neg (by omega), if_neg (by omega), if_pos rfl]
  rfl
theorem zt_a100 : zt_act A 100 [a, b] = if a ≤ 7 ∧ A 7 < 6 then some (zt_ad A a b) else none := by
  unfold zt_act
  rw [if_neg (by omega), if_neg (by omega), if_neg (by omega), if_neg (by omega), if_neg (by omega), if_neg (by omega), if_pos rfl]
  rfl
theorem zt_a103 : zt_act A 103 [a, b] = if a < A 0 * A 1 then some (zz_f A (8 + a) b) else none := by
  unfold zt_act
  rw [if_neg (by omega), if_pos rfl]
  rfl
theorem zt_a108 : zt_act A 108 [a] = if a ≤ 2 then some (zz_f A 3 a) else none := by
  unfold zt_act
  rw [if_neg (by omega), if_neg (by omega), if_neg (by omega), if_neg (by omega), if_neg (by omega), if_pos rfl]
  rfl
theorem zt_a113 : zt_act A 113 [a] = if a < A 0 * A 1 then some (zz_f A 5 a) else none := by
  unfold zt_act
  rw [if_neg (by omega), if_neg (by omega), if_neg (by omega), if_pos rfl]
  rfl
theorem zt_a115 : zt_act A 115 [a, b] = if ((2 ≤ a ∧ a ≤ 4) ∧ 2 ≤ b ∧ b ≤ 4) ∧ A 7 ≤ 0 then some (zt_new A a b) else none := by
  unfold zt_act
  rw [if_pos rfl]
  rfl
theorem zt_a116 : zt_act A 116 [a] = some (zz_f A 2 a) := by
  unfold zt_act
  rw [if_neg (by omega), if_neg (by omega), if_neg (by omega), if_neg (by omega), if_pos rfl]
  rfl
theorem zt_a119 : zt_act A 119 [a, b, c, e] = if (a < A 7 ∧ b < A 0 * A 1) ∧ (1 ≤ e ∧ e ≤ 99) ∧ A (42 + 15 * a) < 4 then some (zt_aw A a b c e) else none := by
  unfold zt_act
  rw [if_neg (by omega), if_neg (by omega), if_neg (by omega), if_neg (by omega), if_neg (by omega), if_neg (by omega), if_neg (by omega), if_pos rfl]
  rfl
theorem zz_dok_c {A A' : Int → Int} {d : Int} (h0 : A' 0 = A 0) (h1 : A' 1 = A 1) (h : ∀ y, 40 + 15 * d ≤ y → y < 55 + 15 * d → A' y = A y) (hd : zz_dok A d) : zz_dok A' d := by
  obtain ⟨k1, k2, k3, k4⟩ := hd
  refine ⟨by rw [h (40 + 15 * d) (by omega) (by omega)]; exact k1, by rw [h (41 + 15 * d) (by omega) (by omega)]; exact k2, by rw [h (42 + 15 * d) (by omega) (by omega)]; exact k3, fun w w0 w1 => ?_⟩
  rw [h (42 + 15 * d) (by omega) (by omega)] at w1
  rw [h (43 + 15 * d + 3 * w) (by omega) (by omega), h (44 + 15 * d + 3 * w) (by omega) (by omega), h (45 + 15 * d + 3 * w) (by omega) (by omega), h0, h1]
  exact k4 w w0 w1
/-- of the fields 2, 3, 5, 6 and the cells some changed -/
theorem zz_ok_c (hA : zz_ok Y A) (h0 : A' 0 = A 0) (h1 : A' 1 = A 1) (h4 : A' 4 = A 4) (h7 : A' 7 = A 7) (h40 : ∀ y, 40 ≤ y → A' y = A y) (h2 : 0 ≤ A' 2 ∧ A' 2 ≤ 999) (h3 : 0 ≤ A' 3 ∧ A' 3 ≤ 2) (h5 : 0 ≤ A' 5 ∧ A' 5 < A 0 * A 1) (h6 : 0 ≤ A' 6 ∧ A' 6 < 65536) (hc : ∀ c, 0 ≤ c → c < A 0 * A 1 → (0 ≤ A' (8 + c) ∧ A' (8 + c) ≤ 9) ∧ (A' (24 + c) = -4 ∨ 0 ≤ A' (24 + c) ∧ A' (24 + c) ≤ 9)) : zz_ok Y A' := by
  obtain ⟨k1, k2, k3, k4, k5, k6, k7, k8, k9⟩ := hA
  unfold zz_ok
  rw [h0, h1, h4, h7]
  exact ⟨k1, h2, h3, k4, h5, h6, k7, hc, fun d d0 d1 => zz_dok_c h0 h1 (fun y y0 _ => h40 y (by omega)) (k9 d d0 d1)⟩
theorem zt_act_ok {l : List Int} (hA : zz_ok Y A) (hb : zt_hb A) (hc : zt_fn c ≠ 6) (hl : zt_vals (mv_str (zt_fn c)) l) (h : zt_act A c l = some A') : zz_ok Y A' ∧ zt_hb A' ∧ A 7 ≤ A' 7 := by
  have hN := hA.n
  obtain ⟨k1, k2, k3, k4, k5, k6, k7, k8, k9⟩ := id hA
  have n0 : ∀ {k v y : Int}, y ≠ k → zz_f A k v y = A y := fun h => zf_n h
  have pl : ∀ {k v : Int}, (k = 2 ∧ 0 ≤ v ∧ v ≤ 999) ∨ (k = 3 ∧ 0 ≤ v ∧ v ≤ 2) ∨ (k = 5 ∧ 0 ≤ v ∧ v < A 0 * A 1) ∨ (8 ≤ k ∧ k < 8 + A 0 * A 1 ∧ 0 ≤ v ∧ v ≤ 9) → zz_ok Y (zz_f A k v) ∧ zt_hb (zz_f A k v) ∧ A 7 ≤ zz_f A k v 7 := fun {k v} hk => by
    refine ⟨zz_ok_c hA (n0 (by omega)) (n0 (by omega)) (n0 (by omega)) (n0 (by omega)) (fun y hy => n0 (by omega)) ?_ ?_ ?_ ?_ (fun x x0 x1 => ⟨?_, ?_⟩), ?_, ?_⟩
    · by_cases q : k = 2
      · rw [q, zf_s]; omega
      · rw [n0 (by omega)]; exact k2
    · by_cases q : k = 3
      · rw [q, zf_s]; omega
      · rw [n0 (by omega)]; exact k3
    · by_cases q : k = 5
      · rw [q, zf_s]; omega
      · rw [n0 (by omega)]; exact k5
    · rw [n0 (by omega)]; exact k6
    · by_cases q : k = 8 + x
      · rw [q, zf_s]; omega
      · rw [n0 (by omega)]; exact (k8 x x0 x1).1
    · rw [n0 (by omega)]; exact (k8 x x0 x1).2
    · unfold zt_hb
      rw [n0 (by omega), n0 (by omega), n0 (by omega)]
      exact hb
    · rw [n0 (by omega)]; omega
  rcases zt_ltr hc with rfl | rfl | rfl | rfl | rfl | rfl | rfl | rfl
  · obtain ⟨a, rfl, ha⟩ := zt_v3 hl
    rw [zt_a98] at h
    by_cases hcc : a < A 0 * A 1 ∧ zz_bit (A 6) a = 0
    · rw [if_pos hcc] at h
      cases h
      refine ⟨zz_ok_c hA (n0 (by omega)) (n0 (by omega)) (n0 (by omega)) (n0 (by omega)) (fun y hy => n0 (by omega)) ?_ ?_ ?_ ?_ (fun x x0 x1 => ?_), ?_, ?_⟩
      · rw [n0 (by omega)]; exact k2
      · rw [n0 (by omega)]; exact k3
      · rw [n0 (by omega)]; exact k5
      · rw [zf_s]; exact zz_lor_lt k6.1 k6.2 ha.1 (by omega)
      · rw [n0 (by omega), n0 (by omega)]; exact k8 x x0 x1
      · unfold zt_hb
        rw [n0 (by omega), n0 (by omega), zf_s]
        intro x x0 x1
        rw [zz_bit_lor ha.1 (by omega), if_neg (by omega)]
        exact hb x x0 x1
      · rw [n0 (by omega)]; omega
    · rw [if_neg hcc] at h
      cases h
  · obtain ⟨a, b, rfl, ha, hb'⟩ := zt_v1 hl
    rw [zt_a100] at h
    by_cases hcc : a ≤ 7 ∧ A 7 < 6
    · rw [if_pos hcc] at h
      cases h
      have y7 : zt_ad A a b 7 = A 7 + 1 := zf_s
      have yo : ∀ y, y < 40 + 15 * A 7 → y ≠ 7 → zt_ad A a b y = A y := fun y hy hy' => by
        unfold zt_ad
        rw [zf_n hy', zf_n (by omega), zf_n (by omega), zf_n (by omega)]
      have a0 : zt_ad A a b (40 + 15 * A 7) = a := by
        unfold zt_ad
        rw [zf_n (by omega), zf_n (by omega), zf_n (by omega), zf_s]
      have a1 : zt_ad A a b (41 + 15 * A 7) = b := by
        unfold zt_ad
        rw [zf_n (by omega), zf_n (by omega), zf_s]
      have a2 : zt_ad A a b (42 + 15 * A 7) = 0 := by
        unfold zt_ad
        rw [zf_n (by omega), zf_s]
      refine ⟨?_, ?_, ?_⟩
      · unfold zz_ok
        rw [yo 0 (by omega) (by omega), yo 1 (by omega) (by omega), yo 2 (by omega) (by omega), yo 3 (by omega) (by omega), yo 4 (by omega) (by omega), yo 5 (by omega) (by omega), yo 6 (by omega) (by omega), y7]
        refine ⟨k1, k2, k3, k4, k5, k6, by omega, fun x x0 x1 => ?_, fun d d0 d1 => ?_⟩
        · rw [yo (8 + x) (by omega) (by omega), yo (24 + x) (by omega) (by omega)]
          exact k8 x x0 x1
        · by_cases q : d = A 7
          · rw [q]
            unfold zz_dok
            rw [a0, a1, a2]
            exact ⟨⟨ha.1, hcc.1⟩, hb', ⟨by omega, by omega⟩, fun w w0 w1 => by omega⟩
          · exact zz_dok_c (yo 0 (by omega) (by omega)) (yo 1 (by omega) (by omega)) (fun y y0 y1 => yo y (by omega) (by omega)) (k9 d d0 (by omega))
      · unfold zt_hb
        rw [yo 0 (by omega) (by omega), yo 1 (by omega) (by omega), yo 6 (by omega) (by omega)]
        exact hb
      · rw [y7]; omega
    · rw [if_neg hcc] at h
      cases h
  · obtain ⟨a, b, rfl, ha, hb'⟩ := zt_v2 hl
    rw [zt_a103] at h
    by_cases hcc : a < A 0 * A 1
    · rw [if_pos hcc] at h
      cases h
      exact pl (Or.inr (Or.inr (Or.inr ⟨by omega, by omega, hb'⟩)))
    · rw [if_neg hcc] at h
      cases h
  · obtain ⟨a, rfl, ha⟩ := zt_v4 hl
    rw [zt_a108] at h
    by_cases hcc : a ≤ 2
    · rw [if_pos hcc] at h
      cases h
      exact pl (Or.inr (Or.inl ⟨rfl, ha.1, hcc⟩))
    · rw [if_neg hcc] at h
      cases h
  · obtain ⟨a, rfl, ha⟩ := zt_v3 hl
    rw [zt_a113] at h
    by_cases hcc : a < A 0 * A 1
    · rw [if_pos hcc] at h
      cases h
      exact pl (Or.inr (Or.inr (Or.inl ⟨rfl, ha.1, hcc⟩)))
    · rw [if_neg hcc] at h
      cases h
  · obtain ⟨a, b, rfl, ha, hb'⟩ := zt_v1 hl
    rw [zt_a115] at h
    by_cases hcc : ((2 ≤ a ∧ a ≤ 4) ∧ 2 ≤ b ∧ b ≤ 4) ∧ A 7 ≤ 0
    · rw [if_pos hcc] at h
      cases h
      have hP := zz_prod hcc.1.1.1 hcc.1.1.2 hcc.1.2.1 hcc.1.2.2
      have yo : ∀ y, (y = 2 ∨ y = 3 ∨ y = 4 ∨ y = 7) → zt_new A a b y = A y := fun y hy => by
        unfold zt_new
        rw [if_neg (by omega), if_neg (by omega), if_neg (by omega), if_neg (by omega), if_neg (by omega)]
      have y0 : zt_new A a b 0 = a := rfl
      have y1 : zt_new A a b 1 = b := rfl
      have y5 : zt_new A a b 5 = 0 := rfl
      have y6 : zt_new A a b 6 = 0 := rfl
      refine ⟨?_, ?_, ?_⟩
      · unfold zz_ok
        rw [y0, y1, yo 2 (by omega), yo 3 (by omega), yo 4 (by omega), yo 7 (by omega), y5, y6]
        refine ⟨⟨hcc.1.1.1, hcc.1.1.2, hcc.1.2⟩, k2, k3, k4, ⟨by omega, by omega⟩, ⟨by omega, by omega⟩, k7, fun x x0 x1 => ?_, fun d d0 d1 => by omega⟩
        have w1 : zt_new A a b (8 + x) = 2 := by
          unfold zt_new
          rw [if_neg (by omega), if_neg (by omega), if_neg (by omega), if_pos (by omega)]
        have w2 : zt_new A a b (24 + x) = -4 := by
          unfold zt_new
          rw [if_neg (by omega), if_neg (by omega), if_neg (by omega), if_neg (by omega), if_pos (by omega)]
        rw [w1, w2]
        exact ⟨⟨by omega, by omega⟩, Or.inl rfl⟩
      · intro x x0 x1
        rw [y6]
        exact zz_bit0 x
      · rw [yo 7 (by omega)]; omega
    · rw [if_neg hcc] at h
      cases h
  · obtain ⟨a, rfl, ha⟩ := zt_v3 hl
    rw [zt_a116] at h
    cases h
    exact pl (Or.inl ⟨rfl, ha⟩)
  · obtain ⟨a, b, c, e, rfl, ha, hb', hc', he⟩ := zt_v5 hl
    rw [zt_a119] at h
    by_cases hcc : (a < A 7 ∧ b < A 0 * A 1) ∧ (1 ≤ e ∧ e ≤ 99) ∧ A (42 + 15 * a) < 4
    · rw [if_pos hcc] at h
      cases h
      have hk := k9 a ha.1 hcc.1.1
      obtain ⟨n, hn⟩ : ∃ n, n = A (42 + 15 * a) := ⟨_, rfl⟩
      have hn4 : 0 ≤ n ∧ n < 4 := by
        rw [hn]
        exact ⟨hk.2.2.1.1, hcc.2.2⟩
      have ylo : ∀ y, (y < 42 + 15 * a ∨ 54 + 15 * a < y ∨ (42 + 15 * a < y ∧ y < 43 + 15 * a + 3 * n)) → zt_aw A a b c e y = A y := fun y hy => by
        unfold zt_aw
        rw [← hn, zf_n (by omega), zf_n (by omega), zf_n (by omega), zf_n (by omega)]
      have y0 : zt_aw A a b c e (42 + 15 * a) = n + 1 := by
        unfold zt_aw
        rw [zf_s, hn]
      have y1 : zt_aw A a b c e (43 + 15 * a + 3 * n) = b := by
        unfold zt_aw
        rw [← hn, zf_n (by omega), zf_n (by omega), zf_n (by omega), zf_s]
      have y2 : zt_aw A a b c e (44 + 15 * a + 3 * n) = c := by
        unfold zt_aw
        rw [← hn, zf_n (by omega), zf_n (by omega), zf_s]
      have y3 : zt_aw A a b c e (45 + 15 * a + 3 * n) = e := by
        unfold zt_aw
        rw [← hn, zf_n (by omega), zf_s]
      refine ⟨?_, ?_, ?_⟩
      · unfold zz_ok
        rw [ylo 0 (by omega), ylo 1 (by omega), ylo 2 (by omega), ylo 3 (by omega), ylo 4 (by omega), ylo 5 (by omega), ylo 6 (by omega), ylo 7 (by omega)]
        refine ⟨k1, k2, k3, k4, k5, k6, k7, fun x x0 x1 => ?_, fun d d0 d1 => ?_⟩
        · rw [ylo (8 + x) (by omega), ylo (24 + x) (by omega)]
          exact k8 x x0 x1
        · by_cases q : d = a
          · rw [q]
            unfold zz_dok
            rw [ylo (40 + 15 * a) (by omega), ylo (41 + 15 * a) (by omega), y0, ylo 0 (by omega), ylo 1 (by omega)]
            refine ⟨hk.1, hk.2.1, ⟨by omega, by omega⟩, fun w w0 w1 => ?_⟩
            by_cases ww : w = n
            · rw [ww, y1, y2, y3]
              exact ⟨⟨hb'.1, hcc.1.2⟩, hc', hcc.2.1⟩
            · rw [ylo (43 + 15 * a + 3 * w) (by omega), ylo (44 + 15 * a + 3 * w) (by omega), ylo (45 + 15 * a + 3 * w) (by omega)]
              exact hk.2.2.2 w w0 (by omega)
          · exact zz_dok_c (ylo 0 (by omega)) (ylo 1 (by omega)) (fun y y0 y1 => ylo y (by omega)) (k9 d d0 d1)
      · unfold zt_hb
        rw [ylo 0 (by omega), ylo 1 (by omega), ylo 6 (by omega)]
        exact hb
      · rw [ylo 7 (by omega)]; omega
    · rw [if_neg hcc] at h
      cases h
end ZAC5
