/-! PURE LAYER, 109: the reference's copy -/
section ZRCP
variable {T : List mv_T} {J : Nat → Int → Int} {R : Nat → Nat → Option Nat} {G : Nat → Nat → Int64} {d : Nat} {Y : Int} {k : Int}
theorem r_213l {i e j m : Int} {B : Int → Int} (hL : ZL T R) (hk : 0 ≤ k ∧ k < 8) (he : 0 ≤ e ∧ e < 8) (hi : 0 ≤ i) (hj : 0 ≤ j) (hm : 0 ≤ m) (hi1 : i + m ≤ 100) (hj1 : j + m ≤ 100) (hB : B = J 138) : zz_E (fun n => mv_run (mv_cax d) mm_213 n 122 [(0, .inr (.inr (some 131))), (1, .inl (mv_c k)), (2, .inl (mv_c i)), (3, .inl (mv_c e)), (4, .inl (mv_c j)), (5, .inl (mv_c m)), (6, .inl (mv_c 0))] [] (zz_S T J R G)) (fun r => r = (some (.inl (mv_c m)), zz_S T (zz_w J 138 (fun y => if 100 * e + j ≤ y ∧ y < 100 * e + j + m then B (100 * k + i + (y - (100 * e + j))) else B y)) R G)) := by
  have hke : e = k ∨ e ≤ k - 1 ∨ k + 1 ≤ e := by omega
  by_cases hij : i ≤ j
  · have l := zz_loop (α := Int → Int) (run := fun c O n => mv_run (mv_cax d) mm_213 n 122 [(0, .inr (.inr (some 131))), (1, .inl (mv_c k)), (2, .inl (mv_c i)), (3, .inl (mv_c e)), (4, .inl (mv_c j)), (5, .inl (mv_c m)), (6, .inl (mv_c c))] [] (zz_S T (zz_w J 138 O) R G)) (Q := fun r => r = (some (.inl (mv_c m)), zz_S T (zz_w J 138 (fun y => if 100 * e + j ≤ y ∧ y < 100 * e + j + m then B (100 * k + i + (y - (100 * e + j))) else B y)) R G)) m (fun c O => 0 ≤ c ∧ ∀ y, O y = if 100 * e + j + (m - c) ≤ y ∧ y < 100 * e + j + m then B (100 * k + i + (y - (100 * e + j))) else B y) ?_ ?_ m.toNat 0 (J 138) (by omega) ⟨by omega, fun y => by rw [if_neg (by omega), hB]⟩
    · rw [zw_i] at l
      exact l
    · rintro c O ⟨c0, hO⟩ hlt kk
      have es : zz_w J 138 O 138 (100 * k + i + (m - 1 - c)) = B (100 * k + i + (m - 1 - c)) := by
        rw [zw_s, hO, if_neg (by omega)]
      refine zz_Es (fun n => e_213_122 _ _ _ _ _ _ _ _) ?_
      simp (maxSteps := 5000000) (disch := first | assumption | omega) only [zr_131_6, zo_rf, za_138, zs_138, es, zz_wu, zz_le, zz_add, zz_sub, zz_mul]
      refine zz_Ei (fun g => absurd g (by omega)) (fun _ => ?_)
      refine zz_Ei (fun _ => ?_) (fun g => absurd hij g)
      refine kk _ ⟨by omega, fun y => ?_⟩
      by_cases q : y = 100 * e + j + (m - 1 - c)
      · rw [q, zf_s, if_pos (by omega), show 100 * k + i + (100 * e + j + (m - 1 - c) - (100 * e + j)) = 100 * k + i + (m - 1 - c) by omega]
      · rw [zf_n q, hO y]
        by_cases q' : 100 * e + j + (m - c) ≤ y ∧ y < 100 * e + j + m
        · rw [if_pos q', if_pos (by omega)]
        · rw [if_neg q', if_neg (by omega)]
    · rintro O ⟨_, hO⟩
      have eO : O = fun y => if 100 * e + j ≤ y ∧ y < 100 * e + j + m then B (100 * k + i + (y - (100 * e + j))) else B y := by
        funext y
        rw [hO y, show 100 * e + j + (m - m) = 100 * e + j by omega]
      subst eO
      refine zz_Es (fun n => e_213_122 _ _ _ _ _ _ _ _) ?_
      simp (maxSteps := 5000000) (disch := first | assumption | omega) only [zz_le]
      refine zz_Ei (fun _ => zz_Er rfl) (fun h => absurd (Int.le_refl _) h)
  · have l := zz_loop (α := Int → Int) (run := fun c O n => mv_run (mv_cax d) mm_213 n 122 [(0, .inr (.inr (some 131))), (1, .inl (mv_c k)), (2, .inl (mv_c i)), (3, .inl (mv_c e)), (4, .inl (mv_c j)), (5, .inl (mv_c m)), (6, .inl (mv_c c))] [] (zz_S T (zz_w J 138 O) R G)) (Q := fun r => r = (some (.inl (mv_c m)), zz_S T (zz_w J 138 (fun y => if 100 * e + j ≤ y ∧ y < 100 * e + j + m then B (100 * k + i + (y - (100 * e + j))) else B y)) R G)) m (fun c O => 0 ≤ c ∧ ∀ y, O y = if 100 * e + j ≤ y ∧ y < 100 * e + j + c then B (100 * k + i + (y - (100 * e + j))) else B y) ?_ ?_ m.toNat 0 (J 138) (by omega) ⟨by omega, fun y => by rw [if_neg (by omega), hB]⟩
    · rw [zw_i] at l
      exact l
    · rintro c O ⟨c0, hO⟩ hlt kk
      have es : zz_w J 138 O 138 (100 * k + i + c) = B (100 * k + i + c) := by
        rw [zw_s, hO, if_neg (by omega)]
      refine zz_Es (fun n => e_213_122 _ _ _ _ _ _ _ _) ?_
      simp (maxSteps := 5000000) (disch := first | assumption | omega) only [zr_131_6, zo_rf, za_138, zs_138, es, zz_wu, zz_le, zz_add, zz_mul]
      refine zz_Ei (fun g => absurd g (by omega)) (fun _ => ?_)
      refine zz_Ei (fun g => absurd g hij) (fun _ => ?_)
      refine kk _ ⟨by omega, fun y => ?_⟩
      by_cases q : y = 100 * e + j + c
      · rw [q, zf_s, if_pos (by omega), show 100 * k + i + (100 * e + j + c - (100 * e + j)) = 100 * k + i + c by omega]
      · rw [zf_n q, hO y]
        by_cases q' : 100 * e + j ≤ y ∧ y < 100 * e + j + c
        · rw [if_pos q', if_pos (by omega)]
        · rw [if_neg q', if_neg (by omega)]
    · rintro O ⟨_, hO⟩
      have eO : O = fun y => if 100 * e + j ≤ y ∧ y < 100 * e + j + m then B (100 * k + i + (y - (100 * e + j))) else B y := funext hO
      subst eO
      refine zz_Es (fun n => e_213_122 _ _ _ _ _ _ _ _) ?_
      simp (maxSteps := 5000000) (disch := first | assumption | omega) only [zz_le]
      refine zz_Ei (fun _ => zz_Er rfl) (fun h => absurd (Int.le_refl _) h)
theorem r_213 {i e j m : Int} (hd : 3 ≤ d) (hL : ZL T R) (hk : zk_kd J) (h1 : zk_r32 k) (h2 : zk_r32 i) (h3 : zk_r32 e) (h4 : zk_r32 j) (h5 : zk_r32 m) : mv_cax d 213 [.inr (.inr (some 131)), .inl (mv_c k), .inl (mv_c i), .inl (mv_c e), .inl (mv_c j), .inl (mv_c m)] (zz_S T J R G) = some (some (.inl (mv_c (zv_copy J k i e j m))), zz_S T (zv_copyV J k i e j m) R G) := by
  obtain ⟨h1, h1'⟩ := h1
  obtain ⟨h2, h2'⟩ := h2
  obtain ⟨h3, h3'⟩ := h3
  obtain ⟨h4, h4'⟩ := h4
  obtain ⟨h5, h5'⟩ := h5
  have ra := r_138 (c := k) (σ := zz_S T J R G) (d := d - 1) (by omega) h1 h1'
  have rb := r_138 (c := e) (σ := zz_S T J R G) (d := d - 1) (by omega) h3 h3'
  have ex : ∀ w, zv_copy J k i e j m = w → zv_copyV J k i e j m = J → ((some (.inl (mv_c w)), zz_S T J R G) : Option mv_V × mv_S) = (some (.inl (mv_c (zv_copy J k i e j m))), zz_S T (zv_copyV J k i e j m) R G) := fun w q1 q2 => by rw [q1, q2]
  refine zz_c (zz_call (by omega) t_213 rfl (fun n => e_213 _ _ _ _ _ _ _) ?_)
  refine zz_Ec (fun n => by rw [ra, zo_rI]) ?_
  refine zz_Ei (fun g => zz_Er ?_) (fun g1 => ?_)
  · rw [zz_0, zz_be0] at g
    exact ex (-1) (if_neg (fun q => g q.1)) (if_neg (fun q => g q.1.1))
  rw [zz_0, zz_be0] at g1
  have hkk := Classical.not_not.mp g1
  refine zz_Ec (fun n => by rw [rb, zo_rI]) ?_
  refine zz_Ei (fun g => zz_Er ?_) (fun g2 => ?_)
  · rw [zz_0, zz_be0] at g
    exact ex (-1) (if_neg (fun q => g q.2)) (if_neg (fun q => g q.1.2))
  rw [zz_0, zz_be0] at g2
  have hee := Classical.not_not.mp g2
  have ka : 0 ≤ J 135 k ∧ J 135 k ≤ 2 := by rcases hk k hkk.1 hkk.2 with h | h | h <;> omega
  have kb : 0 ≤ J 135 e ∧ J 135 e ≤ 2 := by rcases hk e hee.1 hee.2 with h | h | h <;> omega
  have v1 : ∀ w, (if J 135 k = 0 ∨ J 135 e = 0 then -11 else if J 135 k = 2 ∧ J 135 e = 2 ∧ J 136 e = J 136 k then (if (0 ≤ i ∧ 0 ≤ m ∧ m ≤ J 137 k - i) ∧ 0 ≤ j ∧ m ≤ J 137 e - j then m else -13) else -12) = w → zv_copy J k i e j m = w := fun w q => by
    unfold zv_copy
    rw [if_pos ⟨hkk, hee⟩]
    exact q
  refine zz_Ec (fun n => by rw [zr_131_3 hL, zo_rf, za_135 hL hkk.1 hkk.2]) ?_
  refine zz_Ei (fun g => zz_Er ?_) (fun g3 => ?_)
  · have g := zt_eq (by omega) (by omega) (by omega) (by omega) (g.trans zz_0)
    exact ex (-11) (v1 _ (if_pos (Or.inl g))) (if_neg (fun q => by omega))
  have g3 : J 135 k ≠ 0 := fun q => g3 (by rw [q]; exact zz_0.symm)
  refine zz_Ec (fun n => by rw [zr_131_3 hL, zo_rf, za_135 hL hee.1 hee.2]) ?_
  refine zz_Ei (fun g => zz_Er ?_) (fun g4 => ?_)
  · have g := zt_eq (by omega) (by omega) (by omega) (by omega) (g.trans zz_0)
    exact ex (-11) (v1 _ (if_pos (Or.inr g))) (if_neg (fun q => by omega))
  have g4 : J 135 e ≠ 0 := fun q => g4 (by rw [q]; exact zz_0.symm)
  have hn : ¬ (J 135 k = 0 ∨ J 135 e = 0) := by omega
  refine zz_Ec (fun n => by rw [zr_131_3 hL, zo_rf, za_135 hL hkk.1 hkk.2]) ?_
  refine zz_Ei (fun g5 => ?_) (fun g => zz_Er ?_)
  rotate_left
  · have g : J 135 k ≠ 2 := fun q => g (by rw [q])
    exact ex (-12) (v1 _ (by rw [if_neg hn, if_neg (fun q => g q.1)])) (if_neg (fun q => g q.2.1.1))
  have g5 := zt_eq (by omega) (by omega) (by omega) (by omega) g5
  refine zz_Ec (fun n => by rw [zr_131_3 hL, zo_rf, za_135 hL hee.1 hee.2]) ?_
  refine zz_Ei (fun g6 => ?_) (fun g => zz_Er ?_)
  rotate_left
  · have g : J 135 e ≠ 2 := fun q => g (by rw [q])
    exact ex (-12) (v1 _ (by rw [if_neg hn, if_neg (fun q => g q.2.1)])) (if_neg (fun q => g q.2.1.2.1))
  have g6 := zt_eq (by omega) (by omega) (by omega) (by omega) g6
  obtain ⟨hso, hs, -⟩ := zq_kd2 hk hkk.1 hkk.2 g5
  obtain ⟨hso', hs', -⟩ := zq_kd2 hk hee.1 hee.2 g6
  refine zz_Ec (fun n => by rw [zr_131_4 hL, zo_rf, za_136 hL hkk.1 hkk.2, zr_131_4 hL, zo_rf, za_136 hL hee.1 hee.2]) ?_
  refine zz_Ei (fun g7 => ?_) (fun g => zz_Er ?_)
  rotate_left
  · have g : J 136 e ≠ J 136 k := fun q => g (by rw [q])
    exact ex (-12) (v1 _ (by rw [if_neg hn, if_neg (fun q => g q.2.2)])) (if_neg (fun q => g q.2.1.2.2))
  have g7 := zt_eq (by omega) (by omega) (by omega) (by omega) g7
  have h22 : J 135 k = 2 ∧ J 135 e = 2 ∧ J 136 e = J 136 k := ⟨g5, g6, g7.symm⟩
  have x13 : ¬ ((0 ≤ i ∧ 0 ≤ m ∧ m ≤ J 137 k - i) ∧ 0 ≤ j ∧ m ≤ J 137 e - j) → ((some (.inl (mv_c (-13))), zz_S T J R G) : Option mv_V × mv_S) = (some (.inl (mv_c (zv_copy J k i e j m))), zz_S T (zv_copyV J k i e j m) R G) := fun hp => ex (-13) (v1 _ (by rw [if_neg hn, if_pos h22, if_neg hp])) (if_neg (fun q => hp q.2.2))
  refine zz_Ei (fun g => zz_Er (x13 ?_)) (fun g8 => ?_)
  · rw [zz_0, zz_lt h5 h5' (by omega) (by omega)] at g
    omega
  rw [zz_0, zz_lt h5 h5' (by omega) (by omega)] at g8
  refine zz_Ei (fun g => zz_Er (x13 ?_)) (fun g9 => ?_)
  · rw [zz_0, zz_lt h2 h2' (by omega) (by omega)] at g
    omega
  rw [zz_0, zz_lt h2 h2' (by omega) (by omega)] at g9
  refine zz_Ei (fun g => zz_Er (x13 ?_)) (fun g10 => ?_)
  · rw [zz_0, zz_lt h4 h4' (by omega) (by omega)] at g
    omega
  rw [zz_0, zz_lt h4 h4' (by omega) (by omega)] at g10
  refine zz_Ec (fun n => by rw [zr_131_5 hL, zo_rf, za_137 hL hkk.1 hkk.2, zz_sub]) ?_
  refine zz_Ei (fun g => zz_Er (x13 ?_)) (fun g11 => ?_)
  · rw [zz_lt (by omega) (by omega) (by omega) (by omega)] at g
    omega
  rw [zz_lt (by omega) (by omega) (by omega) (by omega)] at g11
  refine zz_Ec (fun n => by rw [zr_131_5 hL, zo_rf, za_137 hL hee.1 hee.2, zz_sub]) ?_
  refine zz_Ei (fun g12 => ?_) (fun g => zz_Er (x13 ?_))
  rotate_left
  · rw [zz_le (by omega) (by omega) (by omega) (by omega)] at g
    omega
  rw [zz_le (by omega) (by omega) (by omega) (by omega)] at g12
  have hp : (0 ≤ i ∧ 0 ≤ m ∧ m ≤ J 137 k - i) ∧ 0 ≤ j ∧ m ≤ J 137 e - j := by omega
  have ev : zv_copy J k i e j m = m := v1 _ (by rw [if_neg hn, if_pos h22, if_pos hp])
  have ev2 : zv_copyV J k i e j m = zz_w J 138 (fun y => if 100 * e + j ≤ y ∧ y < 100 * e + j + m then J 138 (100 * k + i + (y - (100 * e + j))) else J 138 y) := if_pos ⟨⟨hkk, hee⟩, h22, hp⟩
  rw [ev, ev2]
  exact r_213l (T := T) (J := J) (R := R) (G := G) (d := d - 1) (k := k) (i := i) (e := e) (j := j) (m := m) (B := J 138) hL hkk hee hp.1.1 hp.2.1 hp.1.2.1 (by omega) (by omega) rfl
end ZRCP
