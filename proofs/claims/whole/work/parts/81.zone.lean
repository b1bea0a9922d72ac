/-! PURE LAYER, 61: one haul is dug -/
theorem zk_ln_c {A A' : Int → Int} {c : Int} (h : 2 ≤ A 0 ∧ A 0 ≤ 4 ∧ 2 ≤ A 1 ∧ A 1 ≤ 4) (e : ∀ y, y < 24 → A' y = A y) (h1 : 0 ≤ c) (h2 : c < A 0 * A 1) : ∀ n, zz_ln A' c n = zz_ln A c n
  | 0 => rfl
  | n + 1 => by
    have hn := zz_prod h.1 h.2.1 h.2.2.1 h.2.2.2
    have ih := zk_ln_c h e h1 h2 n
    have r1 := (zz_ln_r h h1 h2 n).1
    have r2 := zz_cd_r (c := c) (i := n) h
    have ec : zz_cd A' c n = zz_cd A c n := by
      unfold zz_cd
      rw [e 0 (by omega), e 1 (by omega)]
    show zz_lw A' (zz_ln A' c n) (zz_cd A' c n) = zz_lw A (zz_ln A c n) (zz_cd A c n)
    rw [ih, ec]
    unfold zz_lw
    rw [e (8 + zz_cd A c n) (by omega), e (8 + zz_ln A c n) (by omega)]
theorem zk_wy_c {A A' : Int → Int} (h : 2 ≤ A 0 ∧ A 0 ≤ 4 ∧ 2 ≤ A 1 ∧ A 1 ≤ 4) (e : ∀ y, y < 24 → A' y = A y) : ∀ (k : Nat) (c : Int), 0 ≤ c → c < A 0 * A 1 → zz_wy A' k c = zz_wy A k c
  | 0, _, _, _ => rfl
  | k + 1, c, h1, h2 => by
    have r := (zz_nx_r h h1 h2).1
    have ex : zz_nx A' c = zz_nx A c := zk_ln_c h e h1 h2 4
    show (if zz_nx A' c = c then [c] else c :: zz_wy A' k (zz_nx A' c)) = (if zz_nx A c = c then [c] else c :: zz_wy A k (zz_nx A c))
    rw [ex, zk_wy_c h e k _ r.1 r.2]
theorem zk_ls_c {Y : Int} {A A' : Int → Int} (hA : zz_ok Y A) (e : ∀ y, y < 24 → A' y = A y) : zz_ls A' ↔ zz_ls A := by
  have h5 := hA.2.2.2.2.1
  unfold zz_ls zz_stn zz_way
  rw [e 5 (by omega), zk_wy_c hA.1 e 9 _ h5.1 h5.2, e 0 (by omega), e 1 (by omega)]
section ZONE
variable {Y : Int} {A : Int → Int} {f t : Int}
/-- nothing is to be dug where the map says the land -/
theorem zk_dg0 (hA : zz_ok Y A) (P : Int → Int) (e : ∀ y, (y < 24 ∨ 40 ≤ y) → P y = A y) (hm : ∀ c, 0 ≤ c → c < A 0 * A 1 → P (24 + c) = A (8 + c)) : ∃ A' l u, zz_dgd P A' l u ∧ ∀ c, 0 ≤ c → c < A 0 * A 1 → A' (8 + c) = A (8 + c) := by
  have hn := hA.n
  have p0 : P 0 = A 0 := e 0 (by omega)
  have p1 : P 1 = A 1 := e 1 (by omega)
  have p8 : ∀ c, 0 ≤ c → c < A 0 * A 1 → P (8 + c) = A (8 + c) := fun c c0 c1 => e (8 + c) (by omega)
  by_cases h3 : P 3 = 0
  · have hex : ∀ c, 0 ≤ c → c < A 0 * A 1 → zz_ex P (fun c => P (24 + c)) c = 0 := by
      intro c c0 c1
      have := (hA.2.2.2.2.2.2.2.1 c c0 c1).1
      show (if P (24 + c) < 0 then 0 else P (8 + c) - P (24 + c)) = 0
      rw [hm c c0 c1, p8 c c0 c1]
      split <;> omega
    have hl : zz_lst P (zz_ex P (fun c => P (24 + c))) 0 := by
      refine Or.inr ⟨?_, by omega, by omega, ?_⟩
      · unfold zz_bad
        rw [p0, p1]
        rintro (⟨c, c0, c1, c2, -⟩ | h)
        · exact c2 (hex c c0 c1)
        · exact h (zz_sum_z (by omega) hex)
      · rw [p0, p1]
        refine ⟨fun _ _ => 0, fun _ => 0, fun _ => 0, fun a b a0 a1 b0 b1 => ⟨Int.le_refl _, fun h => absurd (show (0 : Int) < 0 from h) (by omega), fun h => ?_⟩, fun a a0 a1 => ?_, fun b b0 b1 => ?_, ?_⟩
        · rw [hex a a0 a1] at h
          omega
        · rw [hex a a0 a1]
          exact zz_sum_z (by omega) (fun _ _ _ => rfl)
        · rw [hex b b0 b1]
          exact zz_sum_z (by omega) (fun _ _ _ => rfl)
        · refine (zz_sum_z (by omega) (fun i _ _ => zz_sum_z (by omega) (fun j _ _ => ?_))).symm
          exact Int.mul_zero _
    have h2 : 0 ≤ P 2 := by rw [e 2 (by omega)]; exact hA.2.1.1
    refine ⟨zz_hm P, _, _, Or.inl ⟨h3, 0, hl, Or.inr ⟨by omega, h2, rfl, rfl, rfl⟩⟩, fun c c0 c1 => ?_⟩
    have := (hA.2.2.2.2.2.2.2.1 c c0 c1).1
    unfold zz_hm
    rw [show 16 + (8 + c) = 24 + c by omega, hm c c0 c1, p0, p1, if_pos (by omega)]
  · refine ⟨P, P 2, 0, Or.inr ⟨h3, zz_dg_skips (k' := 1792) (by omega) (by omega) (fun j j0 j1 hel => ?_) (zz_dg_end (by omega))⟩, fun c c0 c1 => p8 c c0 c1⟩
    obtain ⟨q1, q2, q3, q4, q5⟩ := hel
    have q1 : j / 16 % 16 < P 0 * P 1 := q1
    have q4 : zz_ov P (j / 16 % 16) := q4
    rw [p0, p1] at q1
    have h1 := q4.2.1
    rw [hm _ (by omega) q1, p8 _ (by omega) q1] at h1
    omega
/-- a haul that the map asks for and nothing else -/
theorem zk_dg1 (hA : zz_ok Y A) (P : Int → Int) (e : ∀ y, (y < 24 ∨ 40 ≤ y) → P y = A y) (f0 : 0 ≤ f) (f1 : f < A 0 * A 1) (t0 : 0 ≤ t) (t1 : t < A 0 * A 1) (hmh : zz_mh A f t) (hm : ∀ c, 0 ≤ c → c < A 0 * A 1 → P (24 + c) = if c = f then A (8 + f) - 1 else if c = t then A (8 + t) + 1 else A (8 + c)) :
    ∃ A' l u, zz_dgd P A' l u ∧ ((2 * zz_nr (A 1) f t ≤ A 2 ∧ (¬ (A 3 = 2 ∧ zz_ls A) ∨ zz_ls (zz_mv A f t))) → ∀ c, 0 ≤ c → c < A 0 * A 1 → A' (8 + c) = zz_mv A f t (8 + c)) ∧ (¬ (2 * zz_nr (A 1) f t ≤ A 2 ∧ (¬ (A 3 = 2 ∧ zz_ls A) ∨ zz_ls (zz_mv A f t))) → ∀ c, 0 ≤ c → c < A 0 * A 1 → A' (8 + c) = A (8 + c)) := by
  have hn := hA.n
  obtain ⟨hne, hf1, ht8, hbf, hbt⟩ := hmh
  have p0 : P 0 = A 0 := e 0 (by omega)
  have p1 : P 1 = A 1 := e 1 (by omega)
  have p2 : P 2 = A 2 := e 2 (by omega)
  have p3 : P 3 = A 3 := e 3 (by omega)
  have p6 : P 6 = A 6 := e 6 (by omega)
  have p8 : ∀ c, 0 ≤ c → c < A 0 * A 1 → P (8 + c) = A (8 + c) := fun c c0 c1 => e (8 + c) (by omega)
  have hnr := zz_nr_b hA.1.1 hA.1.2.1 hA.1.2.2.1 hA.1.2.2.2 f0 f1 t0 t1
  have hN1 : 1 ≤ zz_nr (A 1) f t := by
    rcases Int.lt_or_le 0 (zz_nr (A 1) f t) with h | h
    · omega
    · exact absurd (hnr.2.2 (by omega)) hne
  have hf := (hA.2.2.2.2.2.2.2.1 f f0 f1).1
  have ht := (hA.2.2.2.2.2.2.2.1 t t0 t1).1
  have pf : P (24 + f) = A (8 + f) - 1 := by rw [hm f f0 f1, if_pos rfl]
  have pt : P (24 + t) = A (8 + t) + 1 := by rw [hm t t0 t1, if_neg (fun q => hne q.symm), if_pos rfl]
  have po : ∀ c, 0 ≤ c → c < A 0 * A 1 → c ≠ f → c ≠ t → P (24 + c) = A (8 + c) := fun c c0 c1 c2 c3 => by rw [hm c c0 c1, if_neg c2, if_neg c3]
  have lsP : zz_ls P ↔ zz_ls A := zk_ls_c hA (fun y hy => e y (by omega))
  have mvP : ∀ y, y < 24 → zz_mv P f t y = zz_mv A f t y := by
    intro y hy
    unfold zz_mv
    rw [p8 f f0 f1, p8 t t0 t1, e y (by omega)]
  have hmvok : zz_ok Y (zz_mv A f t) := zz_ok_mv hA f0 f1 t0 t1 hne hf1 ht8
  have lsM : zz_ls (zz_mv P f t) ↔ zz_ls (zz_mv A f t) := zk_ls_c hmvok mvP
  have h2 := hA.2.1
  by_cases h3 : P 3 = 0
  · have hex : ∀ c, 0 ≤ c → c < A 0 * A 1 → zz_ex P (fun c => P (24 + c)) c = zz_f (zz_f (fun _ => 0) f 1) t (-1) c := by
      intro c c0 c1
      have hc := (hA.2.2.2.2.2.2.2.1 c c0 c1).1
      show (if P (24 + c) < 0 then 0 else P (8 + c) - P (24 + c)) = _
      rw [p8 c c0 c1]
      by_cases q : c = t
      · rw [q, zf_s, pt, if_neg (by omega)]
        omega
      · rw [zf_n q]
        by_cases q' : c = f
        · rw [q', zf_s, pf, if_neg (by omega)]
          omega
        · rw [zf_n q', po c c0 c1 q' q, if_neg (by omega)]
          omega
    have exf : zz_f (zz_f (fun _ => (0 : Int)) f 1) t (-1) f = 1 := by rw [zf_n hne, zf_s]
    have ext : zz_f (zz_f (fun _ => (0 : Int)) f 1) t (-1) t = -1 := zf_s
    have exo : ∀ c, c ≠ f → c ≠ t → zz_f (zz_f (fun _ => (0 : Int)) f 1) t (-1) c = 0 := fun c h h' => by rw [zf_n h', zf_n h]
    have hl : zz_lst P (zz_ex P (fun c => P (24 + c))) (2 * zz_nr (A 1) f t) := by
      refine Or.inr ⟨?_, by omega, by omega, ?_⟩
      · unfold zz_bad
        rw [p0, p1, p6]
        rintro (⟨c, c0, c1, c2, c3⟩ | h)
        · rw [hex c c0 c1] at c2
          by_cases q : c = f
          · rw [q, hbf] at c3; omega
          · by_cases q' : c = t
            · rw [q', hbt] at c3; omega
            · exact c2 (exo c q q')
        · refine h ?_
          rw [zz_sum_c (by omega) hex, zz_sum_f t0 t1, zz_sum_f f0 f1, zf_n (fun q => hne q.symm), zz_sum_z (by omega) (fun _ _ _ => rfl)]
          omega
      · rw [p0, p1]
        have hs0 : zz_sum (fun _ => (0 : Int)) (A 0 * A 1) = 0 := zz_sum_z (by omega) (fun _ _ _ => rfl)
        refine ⟨zz_u2 (fun _ _ => 0) f t 1, fun _ => 0, fun _ => zz_w2 (A 1) f t, fun a b a0 a1 b0 b1 => ⟨?_, fun h => ?_, fun h h' => ?_⟩, fun a a0 a1 => ?_, fun b b0 b1 => ?_, ?_⟩
        · unfold zz_u2
          split
          · omega
          · show (0 : Int) ≤ 0
            omega
        · by_cases q : a = f ∧ b = t
          · rw [q.1, q.2, hex f f0 f1, hex t t0 t1, exf, ext]
            exact ⟨by omega, by omega, by show zz_w2 (A 1) f t - 0 = zz_w2 (A 1) f t; omega⟩
          · rw [z2_n q] at h
            exact absurd (show (0 : Int) < 0 from h) (by omega)
        · rw [hex a a0 a1] at h
          rw [hex b b0 b1] at h'
          have ea : a = f := by
            by_cases q : a = f
            · exact q
            · by_cases q' : a = t
              · rw [q', ext] at h; omega
              · rw [exo a q q'] at h; omega
          have eb : b = t := by
            by_cases q' : b = t
            · exact q'
            · by_cases q : b = f
              · rw [q, exf] at h'; omega
              · rw [exo b q q'] at h'; omega
          rw [ea, eb]
          show zz_w2 (A 1) f t - 0 ≤ zz_w2 (A 1) f t
          omega
        · show zz_sum (zz_u2 (fun _ _ => 0) f t 1 a) (A 0 * A 1) = _
          rw [hex a a0 a1]
          by_cases q : a = f
          · rw [q, z2_row, zz_sum_f t0 t1, hs0, exf]
            omega
          · rw [z2_rown q, hs0]
            by_cases q' : a = t
            · rw [q', ext]; omega
            · rw [exo a q q']; omega
        · rw [hex b b0 b1]
          by_cases q : b = t
          · rw [q, z2_col, zz_sum_f f0 f1, hs0, ext]
            omega
          · rw [z2_coln q, hs0]
            by_cases q' : b = f
            · rw [q', exf]; omega
            · rw [exo b q' q]; omega
        · rw [z2_cst f0 f1 t0 t1]
          have : zz_cst (zz_w2 (A 1)) (fun _ _ => 0) (A 0 * A 1) (A 0 * A 1) = 0 := zz_sum_z (by omega) (fun i _ _ => zz_sum_z (by omega) (fun j _ _ => Int.mul_zero _))
          rw [this]
          show 2 * zz_nr (A 1) f t = 0 + 2 * zz_nr (A 1) f t * (1 - 0)
          omega
    by_cases hk : 2 * zz_nr (A 1) f t ≤ A 2
    · refine ⟨zz_hm P, _, _, Or.inl ⟨h3, _, hl, Or.inr ⟨by omega, by omega, rfl, rfl, rfl⟩⟩, fun _ c c0 c1 => ?_, fun h => absurd ⟨hk, Or.inl (fun q => by omega)⟩ h⟩
      have hc := (hA.2.2.2.2.2.2.2.1 c c0 c1).1
      have : zz_hm P (8 + c) = P (24 + c) := by
        unfold zz_hm
        rw [show 16 + (8 + c) = 24 + c by omega, p0, p1]
        refine if_pos ⟨by omega, ?_⟩
        rw [hm c c0 c1]
        split
        · omega
        · split
          · omega
          · exact hc.1
      rw [this, hm c c0 c1]
      unfold zz_mv
      by_cases q : c = t
      · rw [if_neg (fun h => hne (by omega)), if_pos q, if_pos (by omega)]
      · by_cases q' : c = f
        · rw [if_pos q', if_neg (by omega), if_pos (by omega)]
        · rw [if_neg q', if_neg q, if_neg (by omega), if_neg (by omega)]
    · exact ⟨P, _, _, Or.inl ⟨h3, _, hl, Or.inl ⟨Or.inr (by omega), rfl, rfl, rfl⟩⟩, fun h => absurd h.1 hk, fun _ c c0 c1 => p8 c c0 c1⟩
  · -- by pairs: this one alone
    have only : ∀ k, 0 ≤ k → zz_el P k → k / 16 % 16 = f ∧ k % 16 = t ∧ k / 256 = zz_nr (A 1) f t := by
      rintro k k0 ⟨q1, q2, q3, q4, q5⟩
      rw [p0, p1] at q1 q2
      have h1 := q4.2.1
      have h2 := q5.2.1
      have ea : k / 16 % 16 = f := by
        by_cases q : k / 16 % 16 = f
        · exact q
        · rw [hm _ (by omega) q1, p8 _ (by omega) q1, if_neg q] at h1
          split at h1
          · rename_i q'
            rw [q'] at h1
            omega
          · omega
      have eb : k % 16 = t := by
        by_cases q : k % 16 = t
        · exact q
        · rw [hm _ (by omega) q2, p8 _ (by omega) q2] at h2
          split at h2
          · rename_i q'
            rw [q'] at h2
            omega
          · omega
      rw [p1, ea, eb] at q3
      exact ⟨ea, eb, q3.symm⟩
    have k1 : (256 * zz_nr (A 1) f t + 16 * f + t) / 16 % 16 = f := by omega
    have k2 : (256 * zz_nr (A 1) f t + 16 * f + t) % 16 = t := by omega
    have k3 : (256 * zz_nr (A 1) f t + 16 * f + t) / 256 = zz_nr (A 1) f t := by omega
    have el : zz_el P (256 * zz_nr (A 1) f t + 16 * f + t) := by
      unfold zz_el
      rw [k1, k2, k3, p0, p1]
      refine ⟨f1, t1, rfl, ⟨?_, ?_, ?_⟩, ?_, ?_, ?_⟩
      · rw [pf]; omega
      · rw [pf, p8 f f0 f1]; omega
      · rw [p6]; exact hbf
      · rw [pt]; omega
      · rw [pt, p8 t t0 t1]; omega
      · rw [p6]; exact hbt
    have skip : ∀ r, zz_dg (P 3 = 2 ∧ zz_ls P) (256 * zz_nr (A 1) f t + 16 * f + t) (P, P 2, 0) r → zz_dg (P 3 = 2 ∧ zz_ls P) 256 (P, P 2, 0) r := fun r hr => zz_dg_skips (by omega) (by omega) (fun j j0 j1 hj => by
      have := only j (by omega) hj
      omega) hr
    by_cases hk : 2 * zz_nr (A 1) f t ≤ A 2
    · by_cases hu : (P 3 = 2 ∧ zz_ls P) ∧ ¬ zz_ls (zz_mv P f t)
      · refine ⟨P, P 2, 0, Or.inr ⟨h3, skip _ (zz_dg_undo (by omega) el (by show ¬ P 2 < _; rw [k3]; omega) (by rw [k1, k2]; exact hu) (zz_dg_skips (k' := 1792) (by omega) (by omega) (fun j j0 j1 hj => ?_) (zz_dg_end (by omega))))⟩, fun h => ?_, fun _ c c0 c1 => p8 c c0 c1⟩
        · have := only j (by omega) hj
          omega
        · rw [p3, lsP, lsM] at hu
          rcases h.2 with h | h
          · exact absurd hu.1 h
          · exact absurd h hu.2
      · refine ⟨zz_mv P f t, P 2 - 2 * ((256 * zz_nr (A 1) f t + 16 * f + t) / 256), 0 + 1, Or.inr ⟨h3, skip _ (zz_dg_go (by omega) el (by show ¬ P 2 < _; rw [k3]; omega) (by rw [k1, k2]; exact hu) ?_)⟩, fun h c c0 c1 => mvP (8 + c) (by omega), fun h => ?_⟩
        · rw [k1, k2]
          refine zz_dg_skips (k' := 1792) (by omega) (by omega) (fun j j0 j1 hj => ?_) (zz_dg_end (by omega))
          obtain ⟨q1, q2, q3, q4, q5⟩ := hj
          have q1 : j / 16 % 16 < zz_mv P f t 0 * zz_mv P f t 1 := q1
          have q4 : zz_ov (zz_mv P f t) (j / 16 % 16) := q4
          rw [zz_mv_o (by omega) (by omega), zz_mv_o (by omega) (by omega), p0, p1] at q1
          have h1 := q4.2.1
          rw [zz_mv_o (y := 24 + j / 16 % 16) (by omega) (by omega), mvP _ (by omega), hm _ (by omega) q1] at h1
          unfold zz_mv at h1
          by_cases qf : j / 16 % 16 = f
          · rw [if_pos qf, if_neg (by omega), if_pos (by omega)] at h1
            omega
          · rw [if_neg qf] at h1
            by_cases qt : j / 16 % 16 = t
            · rw [if_pos qt, if_pos (by omega)] at h1
              omega
            · rw [if_neg qt, if_neg (by omega), if_neg (by omega)] at h1
              omega
        · refine absurd ⟨hk, ?_⟩ h
          rw [p3, lsP, lsM] at hu
          by_cases w : A 3 = 2 ∧ zz_ls A
          · right
            by_cases w' : zz_ls (zz_mv A f t)
            · exact w'
            · exact absurd ⟨w, w'⟩ hu
          · exact Or.inl w
    · exact ⟨P, P 2, 0, Or.inr ⟨h3, skip _ (zz_dg_stop (by omega) el (by show P 2 < _; rw [k3]; omega))⟩, fun h => absurd h.1 hk, fun _ c c0 c1 => p8 c c0 c1⟩
/-- what the one who looks ahead has of it -/
theorem zk_ah0 {e : Int} (hA : zz_ok Y A) (e0 : 0 ≤ e) (e1 : e < A 7) (h : zz_own A ((e + 1) % A 7) f t) (hf : f < 0) : zz_ahv A e = zz_wo A (zz_H A) e := by
  have hn := hA.n
  have hD := hA.2.2.2.2.2.2.2.2 e e0 e1
  obtain ⟨A', l, u, hd, hh⟩ := zk_dg0 hA (zz_plan A f t) (fun y hy => zz_plan_y (by omega) hn.2) (fun c c0 c1 => by
    unfold zz_plan
    rw [if_pos (by omega), if_neg (by omega), show 24 + c - 16 = 8 + c by omega])
  refine zz_ahv_v (by omega) hn.2 ⟨f, t, A', l, u, h, hd, ?_⟩
  exact zz_sum_c hD.2.2.1.1 (fun w w0 w1 => by
    have hW := (hD.2.2.2 w w0 w1).1
    show zz_wi A e w (A (8 + A (43 + 15 * e + 3 * w))) = zz_wi A e w (A' (8 + A (43 + 15 * e + 3 * w)))
    rw [hh _ hW.1 hW.2])
theorem zk_ah1 {e : Int} (hA : zz_ok Y A) (e0 : 0 ≤ e) (e1 : e < A 7) (h : zz_own A ((e + 1) % A 7) f t) (hf : 0 ≤ f) : ((2 * zz_nr (A 1) f t ≤ A 2 ∧ (¬ (A 3 = 2 ∧ zz_ls A) ∨ zz_ls (zz_mv A f t))) → zz_ahv A e = zz_wo A (zz_H (zz_mv A f t)) e) ∧ (¬ (2 * zz_nr (A 1) f t ≤ A 2 ∧ (¬ (A 3 = 2 ∧ zz_ls A) ∨ zz_ls (zz_mv A f t))) → zz_ahv A e = zz_wo A (zz_H A) e) := by
  have hn := hA.n
  have hD := hA.2.2.2.2.2.2.2.2 e e0 e1
  rcases id h with ⟨p1, _⟩ | ⟨p0, p1, _, _⟩
  · omega
  · have hne := p1.1
    obtain ⟨A', l, u, hd, h1, h2⟩ := zk_dg1 hA (zz_plan A f t) (fun y hy => zz_plan_y (by omega) hn.2) p0.1 p0.2.1 p0.2.2.1 p0.2.2.2 p1 (fun c c0 c1 => by
      unfold zz_plan
      rw [if_pos (by omega), if_pos hf, show 24 + c - 16 = 8 + c by omega]
      by_cases q : c = f
      · rw [if_pos (by omega), if_pos q, q]
      · rw [if_neg (by omega), if_neg q]
        by_cases q' : c = t
        · rw [if_pos (by omega), if_pos q', q']
        · rw [if_neg (by omega), if_neg q'])
    have key : ∀ g : Int → Int, (∀ c, 0 ≤ c → c < A 0 * A 1 → A' (8 + c) = g c) → zz_ahv A e = zz_wo A g e := by
      intro g hg
      refine zz_ahv_v (by omega) hn.2 ⟨f, t, A', l, u, h, hd, ?_⟩
      exact zz_sum_c hD.2.2.1.1 (fun w w0 w1 => by
        have hW := (hD.2.2.2 w w0 w1).1
        show zz_wi A e w (g (A (43 + 15 * e + 3 * w))) = zz_wi A e w (A' (8 + A (43 + 15 * e + 3 * w)))
        rw [hg _ hW.1 hW.2])
    exact ⟨fun q => key _ (h1 q), fun q => key _ (h2 q)⟩
end ZONE
