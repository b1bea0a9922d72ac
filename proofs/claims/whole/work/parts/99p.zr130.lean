/-! PURE LAYER, 95: texts: the reference reads a copy of 130 cells -/
section ZR13
variable {Y : Int} {A A' O P : Int → Int} {a b c e : Int}
theorem z130 {y : Int} (h : 0 ≤ y ∧ y < 130) : zz_c130 A O y = A y := if_pos h
theorem z130_n {y : Int} (h : ¬ (0 ≤ y ∧ y < 130)) : zz_c130 A O y = O y := if_neg h
theorem z130_s : zz_c130 A A = A := by
  funext y
  by_cases h : 0 ≤ y ∧ y < 130
  · rw [z130 h]
  · rw [z130_n h]
theorem z130_t : zz_c130 (zz_c130 A O) P = zz_c130 A P := by
  funext y
  by_cases h : 0 ≤ y ∧ y < 130
  · rw [z130 h, z130 h, z130 h]
  · rw [z130_n h, z130_n h]
theorem z130_f {k v : Int} (hk : 0 ≤ k ∧ k < 130) : zz_f (zz_c130 A O) k v = zz_c130 (zz_f A k v) O := by
  funext y
  by_cases q : y = k
  · rw [q, zf_s, z130 hk, zf_s]
  · rw [zf_n q]
    by_cases h : 0 ≤ y ∧ y < 130
    · rw [z130 h, z130 h, zf_n q]
    · rw [z130_n h, z130_n h]
theorem z130_new {r c : Int} : zt_new (zz_c130 A O) r c = zz_c130 (zt_new A r c) O := by
  funext y
  by_cases h : 0 ≤ y ∧ y < 130
  · rw [z130 h]
    unfold zt_new
    rw [z130 h]
  · rw [z130_n h]
    unfold zt_new
    rw [if_neg (by omega), if_neg (by omega), if_neg (by omega), if_neg (by omega), if_neg (by omega), z130_n h]
theorem z130_ok (hA : zz_ok Y A) : zz_ok Y (zz_c130 A O) := by
  have hN := hA.n
  have h7 := hA.2.2.2.2.2.2.1
  obtain ⟨k1, k2, k3, k4, k5, k6, k7, k8, k9⟩ := hA
  unfold zz_ok
  rw [z130 (y := 0) (by omega), z130 (y := 1) (by omega), z130 (y := 2) (by omega), z130 (y := 3) (by omega), z130 (y := 4) (by omega), z130 (y := 5) (by omega), z130 (y := 6) (by omega), z130 (y := 7) (by omega)]
  refine ⟨k1, k2, k3, k4, k5, k6, k7, fun x x0 x1 => ?_, fun d d0 d1 => zz_dok_c (z130 (by omega)) (z130 (by omega)) (fun y y0 y1 => z130 (by omega)) (k9 d d0 d1)⟩
  rw [z130 (y := 8 + x) (by omega), z130 (y := 24 + x) (by omega)]
  exact k8 x x0 x1
theorem z130_hb (h : zt_hb A) : zt_hb (zz_c130 A O) := by
  unfold zt_hb
  rw [z130 (y := 0) (by omega), z130 (y := 1) (by omega), z130 (y := 6) (by omega)]
  exact h
theorem z130_act {l : List Int} (hA : zz_ok Y A) (hc : zt_fn c ≠ 6) (hl : zt_vals (mv_str (zt_fn c)) l) : zt_act (zz_c130 A O) c l = (zt_act A c l).map (fun A' => zz_c130 A' O) := by
  have hN := hA.n
  have h7 := hA.2.2.2.2.2.2.1
  have z0 : zz_c130 A O 0 = A 0 := z130 (by omega)
  have z1 : zz_c130 A O 1 = A 1 := z130 (by omega)
  have z6 : zz_c130 A O 6 = A 6 := z130 (by omega)
  have z7 : zz_c130 A O 7 = A 7 := z130 (by omega)
  rcases zt_ltr hc with rfl | rfl | rfl | rfl | rfl | rfl | rfl | rfl
  · obtain ⟨a, rfl, ha⟩ := zt_v3 hl
    rw [zt_a98, zt_a98, z0, z1, z6]
    split
    · rw [z130_f (by omega)]; rfl
    · rfl
  · obtain ⟨a, b, rfl, ha, hb⟩ := zt_v1 hl
    rw [zt_a100, zt_a100, z7]
    split
    · have e : zt_ad (zz_c130 A O) a b = zz_c130 (zt_ad A a b) O := by
        unfold zt_ad
        rw [z7, z130_f (by omega), z130_f (by omega), z130_f (by omega), z130_f (by omega)]
      rw [e]; rfl
    · rfl
  · obtain ⟨a, b, rfl, ha, hb⟩ := zt_v2 hl
    rw [zt_a103, zt_a103, z0, z1]
    split
    · rw [z130_f (by omega)]; rfl
    · rfl
  · obtain ⟨a, rfl, ha⟩ := zt_v4 hl
    rw [zt_a108, zt_a108]
    split
    · rw [z130_f (by omega)]; rfl
    · rfl
  · obtain ⟨a, rfl, ha⟩ := zt_v3 hl
    rw [zt_a113, zt_a113, z0, z1]
    split
    · rw [z130_f (by omega)]; rfl
    · rfl
  · obtain ⟨a, b, rfl, ha, hb⟩ := zt_v1 hl
    rw [zt_a115, zt_a115, z7]
    split
    · rw [z130_new]; rfl
    · rfl
  · obtain ⟨a, rfl, ha⟩ := zt_v3 hl
    rw [zt_a116, zt_a116, z130_f (by omega)]
    rfl
  · obtain ⟨a, b, c, e, rfl, ha, hb, hc', he⟩ := zt_v5 hl
    rw [zt_a119, zt_a119, z0, z1, z7]
    by_cases h7a : a < A 7
    · have hm := (hA.2.2.2.2.2.2.2.2 a ha.1 h7a).2.2.1
      have z42 : zz_c130 A O (42 + 15 * a) = A (42 + 15 * a) := z130 (by omega)
      rw [z42]
      split
      · have e : zt_aw (zz_c130 A O) a b c e = zz_c130 (zt_aw A a b c e) O := by
          unfold zt_aw
          rw [z42, z130_f (by omega), z130_f (by omega), z130_f (by omega), z130_f (by omega)]
        rw [e]; rfl
      · rfl
    · rw [if_neg (by omega), if_neg (by omega)]
      rfl
theorem z130_p2 {B : Int → Int} {N : Int} : ∀ (m : Nat) (i n : Int) (A : Int → Int), 0 ≤ i → i < N → 0 ≤ n → N - i < m → zz_ok Y A → zt_hb A → 0 ≤ zt_p1 B N m i n → zt_p2 B N m i (zz_c130 A O) n = ((zt_p2 B N m i A n).1, zz_c130 (zt_p2 B N m i A n).2 O)
  | 0, i, n, A, h0, h1, h2, h3, _, _, _ => by omega
  | m + 1, i, n, A, h0, h1, h2, h3, hA, hb, h4 => by
    obtain ⟨k1, k2, k3⟩ := zt_p1_s ⟨h0, by omega⟩ h4
    have hr := zt_sm_r k1
    have ea := z130_act (O := O) hA hr.2.1 hr.2.2.2.2
    cases ha : zt_act A (B i) (zt_sm B N i).2.2 with
    | none =>
      rw [ha] at ea
      rw [zt_p2_0 h1 ha, zt_p2_0 h1 ea]
    | some A' =>
      rw [ha] at ea
      obtain ⟨a1, a2, a3⟩ := zt_act_ok hA hb hr.2.1 hr.2.2.2.2 ha
      rw [zt_p2_1 h1 ha, zt_p2_1 h1 ea]
      by_cases c : (zt_sm B N i).2.1 < N
      · rw [k2 c] at h4
        exact z130_p2 m (zt_sm B N i).2.1 (n + 1) A' (by omega) c (by omega) (by omega) a1 a2 h4
      · rw [zt_p2_n c, zt_p2_n c]
end ZR13
