/-! PURE LAYER, 105: bits that are counted; the reference's water -/
theorem zq_front {f : Int → Int} {n : Int} (h : 0 ≤ n) : zz_sum f (n + 1) = f 0 + zz_sum (fun c => f (c + 1)) n := by
  have e1 : zz_sum f 1 = f 0 := by
    have e := zz_sum1 (f := f) (c := 0) (by omega)
    rw [zz_sum0] at e
    rw [show (1 : Int) = 0 + 1 by omega, e]
    omega
  have e2 := zk_sum_split (f := f) (a := 1) (b := n) (by omega) h
  rw [show n + 1 = 1 + n by omega, e2, e1]
  congr 1
  exact zz_sum_c h (fun i _ _ => by
    show f (1 + i) = f (i + 1)
    rw [show 1 + i = i + 1 by omega])
theorem zq_b0 {y : Int} (h : 0 ≤ y) : zz_bit y 0 = y % 2 := by
  unfold zz_bit
  rw [show (0 : Int).toNat = 0 from rfl, Nat.testBit_zero]
  by_cases q : y.toNat % 2 = 1
  · rw [if_pos (decide_eq_true q)]
    omega
  · rw [if_neg (fun g => q (of_decide_eq_true g))]
    omega
theorem zq_bs {y c : Int} (h : 0 ≤ y) (hc : 0 ≤ c) : zz_bit y (c + 1) = zz_bit (y / 2) c := by
  unfold zz_bit
  rw [show (c + 1).toNat = c.toNat + 1 by omega, Nat.testBit_succ, show (y / 2).toNat = y.toNat / 2 by omega]
theorem zq_bz {y c : Int} (h : y.toNat < 2 ^ c.toNat) : zz_bit y c = 0 := by
  unfold zz_bit
  rw [Nat.testBit_lt_two_pow h]
  exact if_neg (by decide)
theorem zq_pc {y : Int} (h0 : 0 ≤ y) (h1 : y < 65536) : zz_sum (zz_bit y) 16 = y % 2 + zz_sum (zz_bit (y / 2)) 16 := by
  have e := zq_front (f := zz_bit y) (n := 15) (by omega)
  have e2 := zz_sum1 (f := zz_bit (y / 2)) (c := 15) (by omega)
  rw [zq_bz (by rw [show (2 : Nat) ^ (15 : Int).toNat = 32768 by decide]; omega), Int.add_zero] at e2
  rw [show (15 : Int) + 1 = 16 by omega] at e e2
  rw [e, e2, zq_b0 h0]
  congr 1
  exact zz_sum_c (by omega) (fun c c0 _ => zq_bs h0 c0)
theorem zq_shr1 {a : Int} (h0 : 0 ≤ a) (h1 : a < 2147483648) : mv_c a >>> (mv_c 1 &&& mv_c 31) = mv_c (a / 2) := by
  have e1 : mv_c 1 &&& mv_c 31 = nI 1 &&& 31 := by decide
  rw [zz_nat h0, e1, pk_shrN (by omega) _ 1 (by decide), zz_nat (by omega)]
  congr 1
  omega
theorem zq_wn : ∀ {l : List Int}, l.Nodup → (∀ x ∈ l, 0 ≤ x ∧ x < 16) → zz_sum (fun c => if c ∈ l then (1 : Int) else 0) 16 = (l.length : Int)
  | [], _, _ => zz_sum_z (by omega) (fun i _ _ => if_neg (by simp))
  | a :: l, hn, hl => by
    have ha := hl a List.mem_cons_self
    have hnd := List.nodup_cons.mp hn
    have ih := zq_wn hnd.2 (fun x hx => hl x (List.mem_cons_of_mem _ hx))
    have e : zz_sum (fun c => if c ∈ a :: l then (1 : Int) else 0) 16 = zz_sum (zz_f (fun c => if c ∈ l then (1 : Int) else 0) a 1) 16 := zz_sum_c (by omega) (fun c _ _ => by
      show (if c ∈ a :: l then (1 : Int) else 0) = zz_f (fun c => if c ∈ l then (1 : Int) else 0) a 1 c
      by_cases q : c = a
      · rw [q, zf_s, if_pos List.mem_cons_self]
      · rw [zf_n q]
        by_cases q' : c ∈ l
        · rw [if_pos q', if_pos (List.mem_cons_of_mem _ q')]
        · rw [if_neg q', if_neg (by simp [q, q'])])
    rw [e, zz_sum_f ha.1 ha.2, ih, if_neg hnd.1]
    show (l.length : Int) + (1 - 0) = ((l.length + 1 : Nat) : Int)
    omega
theorem zq_wayr {Y : Int} {A : Int → Int} (hA : zz_ok Y A) : (∀ x ∈ zz_way A, 0 ≤ x ∧ x < 16) ∧ (zz_way A).Nodup := by
  have hn := hA.n
  have h5 := hA.2.2.2.2.1
  refine ⟨fun x hx => ?_, zz_wy_n hA.1 9 (A 5) h5.1 h5.2⟩
  have := (zz_wy_m hA.1 9 (A 5) h5.1 h5.2 x hx).1
  omega
theorem zq_wayc {Y : Int} {A : Int → Int} (hA : zz_ok Y A) : zz_sum (zz_bit (zz_mk (zz_way A) 0)) 16 = ((zz_way A).length : Int) := by
  obtain ⟨hw, hnd⟩ := zq_wayr hA
  rw [← zq_wn hnd hw]
  exact zz_sum_c (by omega) (fun c c0 _ => by
    show zz_bit (zz_mk (zz_way A) 0) c = if c ∈ zz_way A then 1 else 0
    rw [zz_mk_bit c0 _ _ (fun x hx => (hw x hx).1), zz_bit0])
section ZRBT
variable {T : List mv_T} {J : Nat → Int → Int} {R : Nat → Nat → Option Nat} {G : Nat → Nat → Int64} {d : Nat} {Y : Int}
theorem r_141 {m : Int} {σ : mv_S} (hd : 1 ≤ d) (h0 : 0 ≤ m) (h1 : m < 65536) : mv_cax d 141 [.inl (mv_c m)] σ = some (some (.inl (mv_c (zz_sum (zz_bit m) 16))), σ) := by
  refine zz_c (zz_call (by omega) t_141 rfl (fun n => e_141 _ _) ?_)
  refine zz_whil (α := Int × Int) (run := fun x n => mv_run (mv_cax (d - 1)) mm_141 n 4 [(1, .inl (mv_c x.1)), (2, .inl (mv_c x.2))] [] σ) (fun x => x.2.toNat) (fun x => (0 ≤ x.2 ∧ x.2 < 65536) ∧ x.1 + zz_sum (zz_bit x.2) 16 = zz_sum (zz_bit m) 16) ?_ (0, m) ⟨⟨h0, h1⟩, Int.zero_add _⟩
  rintro ⟨a, y⟩ ⟨⟨y0, y1⟩, hs⟩ kk
  have y0 : 0 ≤ y := y0
  have y1 : y < 65536 := y1
  have hs : a + zz_sum (zz_bit y) 16 = zz_sum (zz_bit m) 16 := hs
  refine zz_Es (fun n => e_141_4 _ _ _) ?_
  simp (maxSteps := 5000000) (disch := first | assumption | omega) only [zz_0, zz_31, zz_le, zk_and1, zq_shr1, zz_add]
  refine zz_Ei (fun g => zz_Er ?_) (fun g => ?_)
  · have e : y = 0 := by omega
    rw [e, zz_sum_z (by omega) (fun i _ _ => zz_bit0 i), Int.add_zero] at hs
    rw [hs]
  · have hp := zq_pc y0 y1
    exact kk (a + y % 2, y / 2) ⟨⟨by show 0 ≤ y / 2; omega, by show y / 2 < 65536; omega⟩, by show a + y % 2 + zz_sum (zz_bit (y / 2)) 16 = _; omega⟩ (by show (y / 2).toNat < y.toNat; omega)
theorem r_133 (hd : 1 ≤ d) (hL : ZL T R) : mv_cax d 133 [.inr (.inr (some 131))] (zz_S T J R G) = some (some (.inl (mv_c (J 131 10))), (zz_S T J R G)) := by
  refine zz_c (zz_call (by omega) t_133 rfl (fun n => e_133 _ _) ?_)
  simp (maxSteps := 5000000) (disch := first | assumption | omega) only [zg_131_10]
  exact zz_Er rfl
theorem r_155 {w : Int} (hd : 4 ≤ d) (hL : ZL T R) (hA : zz_ok Y (J 132)) (hB : zz_bc (J 142)) (w0 : -2147483648 ≤ w) (w1 : w ≤ 2147483647) : ∃ J', mv_cax d 155 [.inr (.inr (some 131)), .inl (mv_c w)] (zz_S T J R G) = some (some (.inl (mv_c (zv_water (J 132) w))), zz_S T J' R G) ∧ (∀ x, x ≠ 131 → J' x = J x) ∧ ∀ y, y ≠ 16 → y ≠ 17 → J' 131 y = J 131 y := by
  by_cases hw : 0 ≤ w ∧ w ≤ 2
  · have r154 := r_154 (T := T) (J := J) (R := R) (G := G) (d := d - 1) hL hA hB (by omega)
    obtain ⟨hwr, hnd⟩ := zq_wayr hA
    have hb := zz_mk_b (A := J 132) (zz_way (J 132)) 0 hwr (by omega) (by omega)
    obtain ⟨M, hM⟩ : ∃ M, M = zz_fm J (zz_stn (J 132)) (zz_mk (zz_way (J 132)) 0) := ⟨_, rfl⟩
    rw [← hM] at r154
    have f16 : M 131 16 = zz_mk (zz_way (J 132)) 0 := by rw [hM]; unfold zz_fm; rw [zu_s]
    have f17 : M 131 17 = zz_stn (J 132) := by rw [hM]; unfold zz_fm; rw [zu_k (by omega), zu_s]
    have r141 := r_141 (σ := zz_S T M R G) (d := d - 1) (by omega) hb.1 hb.2
    rw [zq_wayc hA] at r141
    refine ⟨M, ?_, fun x hx => by rw [hM]; funext y; exact zz_fm_a hx, fun y y1 y2 => by rw [hM]; unfold zz_fm; rw [zu_k y1, zu_k y2]⟩
    by_cases hls : zz_ls (J 132)
    · rw [zz_b_t hls] at r154
      refine zz_c (zz_call (by omega) t_155 rfl (fun n => e_155 _ _ _) ?_)
      simp (maxSteps := 5000000) (disch := first | assumption | omega) only [zz_l, zz_l0, zz_l1, r_134, zo_rI, zz_0, zz_be0, zi_131, r154, zg_131_17, zg_131_16, f16, f17, r141, zz_eq]
      refine zz_Ei (fun g => absurd hw (by first | exact g | (rw [zz_be0] at g; exact g))) (fun _ => ?_)
      refine zz_Ei (fun e => zz_Er (by rw [zv_water, if_pos e])) (fun e0 => ?_)
      refine zz_Ei (fun e => zz_Er (by rw [zv_water, if_neg e0, if_pos e])) (fun e1 => ?_)
      try (refine zz_Ei (fun h => absurd (show (1 : Int) = 0 from h) (by omega)) (fun _ => ?_))
      exact zz_Er (by rw [zv_water, if_neg e0, if_neg e1, if_pos (by omega), zz_b_t hls])
    · rw [zz_b_f hls] at r154
      refine zz_c (zz_call (by omega) t_155 rfl (fun n => e_155 _ _ _) ?_)
      simp (maxSteps := 5000000) (disch := first | assumption | omega) only [zz_l, zz_l0, zz_l1, r_134, zo_rI, zz_0, zz_be0, zi_131, r154, zg_131_17, zg_131_16, f16, f17, r141, zz_eq, if_true]
      refine zz_Ei (fun g => absurd hw (by first | exact g | (rw [zz_be0] at g; exact g))) (fun _ => ?_)
      refine zz_Ei (fun e => zz_Er (by rw [zv_water, if_pos e])) (fun e0 => ?_)
      refine zz_Ei (fun e => zz_Er (by rw [zv_water, if_neg e0, if_pos e])) (fun e1 => ?_)
      have e : zv_water (J 132) w = 0 := by rw [zv_water, if_neg e0, if_neg e1, if_pos (by omega), zz_b_f hls]
      rw [e]
      first
        | exact zz_Er rfl
        | exact zz_Ei (fun _ => zz_Er rfl) (fun h => absurd trivial h)
        | exact zz_Ei (fun _ => zz_Er rfl) (fun h => absurd rfl h)
  · refine ⟨J, ?_, fun _ _ => rfl, fun _ _ _ => rfl⟩
    have e : zv_water (J 132) w = -1 := by rw [zv_water, if_neg (by omega), if_neg (by omega), if_neg (by omega)]
    rw [e]
    refine zz_c (zz_call (by omega) t_155 rfl (fun n => e_155 _ _ _) ?_)
    simp (maxSteps := 5000000) (disch := first | assumption | omega) only [zz_l, zz_l0, zz_l1, r_134, zo_rI, zz_0, zz_be0]
    refine zz_Ei (fun g => zz_Er rfl) (fun g => absurd (Decidable.not_not.mp (by first | exact g | (rw [zz_be0] at g; exact g))) hw)
end ZRBT
