/-! PURE LAYER, 106: the reference's maps out of rows -/
section ZRMP
variable {T : List mv_T} {J : Nat → Int → Int} {R : Nat → Nat → Option Nat} {G : Nat → Nat → Int64} {d : Nat} {Y : Int} {k : Int}
/-- what a row's place says of a cell -/
def zq_sd (V : Nat → Int → Int) (k c : Int) : Int := if V 138 (100 * k + c) = 99 then -4 else V 138 (100 * k + c)
theorem r_161 {c : Int} (hd : 1 ≤ d) (hL : ZL T R) (hk : zk_kd J) (k0 : 0 ≤ k) (k1 : k < 8) (h2 : J 135 k = 2) (c0 : 0 ≤ c) (c1 : c < 100) : mv_cax d 161 [.inr (.inr (some 131)), .inl (mv_c k), .inl (mv_c c)] (zz_S T J R G) = some (some (.inl (mv_c (zq_sd J k c))), (zz_S T J R G)) := by
  have hr : zk_r32 (J 138 (100 * k + c)) := by
    rcases hk k k0 k1 with g | g | g
    · omega
    · omega
    · exact g.2.2.2.2.2 c c0 c1
  unfold zk_r32 at hr
  unfold zq_sd
  refine zz_c (zz_call (by omega) t_161 rfl (fun n => e_161 _ _ _ _) ?_)
  simp (maxSteps := 5000000) (disch := first | assumption | omega) only [zr_131_6, zo_rf, zz_mul, zz_add, za_138, zz_eq]
  refine zz_Ei (fun g => zz_Er (by rw [if_pos g])) (fun g => zz_Er (by rw [if_neg g]))
def zq_wm (V : Nat → Int → Int) (A : Int → Int) (k v : Int) : Prop := (zv_wr V k 0 ≠ 0 ∧ v = zv_wr V k 0) ∨ (zv_wr V k 0 = 0 ∧ ¬ zk_mp V k (A 0 * A 1) ∧ v = -13) ∨ (zv_wr V k 0 = 0 ∧ zk_mp V k (A 0 * A 1) ∧ v = 0)
theorem zq_wr0 {V : Nat → Int → Int} {s : Int} (hw : zv_wr V k s = 0) : (0 ≤ k ∧ k < 8) ∧ V 135 k = 2 := by
  rcases zv_wr_c V k s with ⟨e, _⟩ | ⟨hk, ⟨e, _⟩ | ⟨e, _⟩ | ⟨e, h, _⟩⟩
  · omega
  · omega
  · omega
  · exact ⟨hk, h⟩
theorem zq_wrb (V : Nat → Int → Int) (k s : Int) : -12 ≤ zv_wr V k s ∧ zv_wr V k s ≤ 0 := by
  rcases zv_wr_c V k s with ⟨e, _⟩ | ⟨_, ⟨e, _⟩ | ⟨e, _⟩ | ⟨e, _⟩⟩ <;> omega
theorem zq_kd2 {V : Nat → Int → Int} (hk : zk_kd V) (k0 : 0 ≤ k) (k1 : k < 8) (h2 : V 135 k = 2) : (0 ≤ V 136 k ∧ V 136 k ≤ 2) ∧ (0 ≤ V 137 k ∧ V 137 k ≤ 100) ∧ ∀ i, 0 ≤ i → i < 100 → zk_r32 (V 138 (100 * k + i)) := by
  rcases hk k k0 k1 with g | g | g
  · omega
  · omega
  · exact ⟨⟨g.2.1, g.2.2.1⟩, ⟨g.2.2.2.1, g.2.2.2.2.1⟩, g.2.2.2.2.2⟩
theorem zq_kdf {V V' : Nat → Int → Int} (h : zk_kd V) (e : ∀ x, 135 ≤ x → x ≤ 138 → V' x = V x) : zk_kd V' := fun k k0 k1 => by
  rw [e 135 (by omega) (by omega), e 136 (by omega) (by omega), e 137 (by omega) (by omega), e 138 (by omega) (by omega)]
  exact h k k0 k1
theorem r_160 (hd : 4 ≤ d) (hL : ZL T R) (hA : zz_ok Y (J 132)) (hk : zk_kd J) (k0 : -2147483648 ≤ k) (k1 : k ≤ 2147483647) : ∃ v, mv_cax d 160 [.inr (.inr (some 131)), .inl (mv_c k)] (zz_S T J R G) = some (some (.inl (mv_c v)), (zz_S T J R G)) ∧ zq_wm J (J 132) k v := by
  have hN := hA.n
  have r151 := r_151 (T := T) (J := J) (R := R) (G := G) (d := d - 1) (k := k) (s := 0) (by omega) hL hk k0 k1 (by omega) (by omega)
  have hwb := zq_wrb J k 0
  by_cases hw : zv_wr J k 0 = 0
  · obtain ⟨hkk, h2⟩ := zq_wr0 hw
    obtain ⟨-, hs, hr⟩ := zq_kd2 hk hkk.1 hkk.2 h2
    rw [hw] at r151
    have r135 := r_135 (T := T) (J := J) (R := R) (G := G) (d := d - 1) (by omega) hL
    suffices h : ∃ r, mv_cax d 160 [.inr (.inr (some 131)), .inl (mv_c k)] (zz_S T J R G) = some r ∧ ∃ v, r = (some (.inl (mv_c v)), (zz_S T J R G)) ∧ ((¬ zk_mp J k (J 132 0 * J 132 1) ∧ v = -13) ∨ (zk_mp J k (J 132 0 * J 132 1) ∧ v = 0)) by
      obtain ⟨r, g1, v, rfl, g2⟩ := h
      exact ⟨v, g1, Or.inr (by rcases g2 with g | g; exact Or.inl ⟨hw, g⟩; exact Or.inr ⟨hw, g⟩)⟩
    refine zz_call (by omega) t_160 rfl (fun n => e_160 _ _ _) ?_
    simp (maxSteps := 5000000) (disch := first | assumption | omega) only [zi_131, r151, r135, zo_rI, zz_0, zr_131_5, zo_rf, za_137, zz_eq, if_true]
    try (refine zz_Ei (fun _ => ?_) (fun h => absurd trivial h))
    refine zz_Ei (fun e => ?_) (fun e => zz_Er ⟨-13, rfl, Or.inl ⟨fun q => e q.1, rfl⟩⟩)
    refine zz_loop (α := Unit) (run := fun c _ n => mv_run (mv_cax (d - 1)) mm_160 n 31 [(0, .inr (.inr (some 131))), (1, .inl (mv_c k)), (3, .inl (mv_c c))] [] (zz_S T J R G)) (J 137 k) (fun c _ => 0 ≤ c ∧ ∀ i, 0 ≤ i → i < c → zk_mo (J 138 (100 * k + i))) ?_ ?_ (J 137 k).toNat 0 () (by omega) ⟨by omega, fun i _ _ => by omega⟩
    · rintro c _ ⟨c0, hc⟩ hlt kk
      have hrc := hr c c0 (by omega)
      unfold zk_r32 at hrc
      have nx : ∀ e : zk_mo (J 138 (100 * k + c)), zz_E (fun n => mv_run (mv_cax (d - 1)) mm_160 n 31 [(0, .inr (.inr (some 131))), (1, .inl (mv_c k)), (3, .inl (mv_c (c + 1)))] [] (zz_S T J R G)) _ := fun e => kk () ⟨by omega, fun i i0 i1 => by
        by_cases q : i = c
        · rw [q]; exact e
        · exact hc i i0 (by omega)⟩
      refine zz_Es (fun n => e_160_31 _ _ _ _) ?_
      simp (maxSteps := 5000000) (disch := first | assumption | omega) only [zr_131_5, zr_131_6, zo_rf, za_137, za_138, zo_rI, zz_0, zz_le, zz_mul, zz_add, zz_l, zz_l0, r_134, zz_eq, zz_be0]
      refine zz_Ei (fun g => absurd g (by omega)) (fun _ => ?_)
      refine zz_Ei (fun g => ?_) (fun g => ?_)
      · have g : ¬ (0 ≤ J 138 (100 * k + c) ∧ J 138 (100 * k + c) ≤ 9) := by first | exact g | (rw [zz_be0] at g; exact g)
        refine zz_Ei (fun e => nx (Or.inr e)) (fun e' => zz_Er ⟨-13, rfl, Or.inl ⟨fun q => ?_, rfl⟩⟩)
        rcases q.2 c c0 hlt with q' | q'
        · exact g q'
        · exact e' q'
      · exact nx (Or.inl (Decidable.not_not.mp (by first | exact g | (rw [zz_be0] at g; exact g))))
    · rintro _ ⟨_, hall⟩
      refine zz_Es (fun n => e_160_31 _ _ _ _) ?_
      simp (maxSteps := 5000000) (disch := first | assumption | omega) only [zr_131_5, zo_rf, za_137, zz_le]
      refine zz_Ei (fun _ => zz_Er ⟨0, rfl, Or.inr ⟨⟨e, hall⟩, rfl⟩⟩) (fun h => absurd (Int.le_refl _) h)
  · refine ⟨zv_wr J k 0, ?_, Or.inl ⟨hw, rfl⟩⟩
    obtain ⟨w, hw'⟩ : ∃ w, w = zv_wr J k 0 := ⟨_, rfl⟩
    rw [← hw'] at r151 hwb hw ⊢
    refine zz_c (zz_call (by omega) t_160 rfl (fun n => e_160 _ _ _) ?_)
    simp (maxSteps := 5000000) (disch := first | assumption | omega) only [zi_131, r151, zo_rI, zz_0, zz_eq]
    refine zz_Ei (fun h => absurd h hw) (fun _ => zz_Er rfl)
theorem r_163 (hd : 5 ≤ d) (hL : ZL T R) (hA : zz_ok Y (J 132)) (hk : zk_kd J) (k0 : -2147483648 ≤ k) (k1 : k ≤ 2147483647) : ∃ v A', mv_cax d 163 [.inr (.inr (some 131)), .inl (mv_c k)] (zz_S T J R G) = some (some (.inl (mv_c v)), zz_S T (zz_w J 132 A') R G) ∧ zv_map J (J 132) k v A' := by
  have hN := hA.n
  obtain ⟨w, r160, hv⟩ := r_160 (T := T) (J := J) (R := R) (G := G) (d := d - 1) (Y := Y) (by omega) hL hA hk k0 k1
  have hwb := zq_wrb J k 0
  have bad : -13 ≤ w → w < 0 → mv_cax d 163 [.inr (.inr (some 131)), .inl (mv_c k)] (zz_S T J R G) = some (some (.inl (mv_c w)), zz_S T (zz_w J 132 (J 132)) R G) := by
    intro hw0 hw1
    rw [zw_i]
    refine zz_c (zz_call (by omega) t_163 rfl (fun n => e_163 _ _ _) ?_)
    simp (maxSteps := 5000000) (disch := first | assumption | omega) only [zi_131, r160, zo_rI, zz_0, zz_eq]
    refine zz_Ei (fun h => absurd h (by omega)) (fun _ => zz_Er rfl)
  rcases hv with ⟨h1, h2⟩ | ⟨h1, h2, h3⟩ | ⟨h1, h2, h3⟩
  · exact ⟨w, J 132, bad (by omega) (by omega), Or.inl ⟨h1, h2, rfl⟩⟩
  · exact ⟨w, J 132, bad (by omega) (by omega), Or.inr (Or.inl ⟨h1, h2, h3, rfl⟩)⟩
  · subst h3
    obtain ⟨hkk, hV⟩ := zq_wr0 h1
    have hok := zv_mapA_ok hA h2
    have hsz := h2.1
    have n0 : zv_mapA J (J 132) k 0 = J 132 0 := if_neg (by omega)
    have n1 : zv_mapA J (J 132) k 1 = J 132 1 := if_neg (by omega)
    refine ⟨zz_sum (fun c => if zv_mapA J (J 132) k (24 + c) < 0 then 0 else 1) (J 132 0 * J 132 1), zv_mapA J (J 132) k, ?_, Or.inr (Or.inr ⟨h1, h2, rfl, rfl⟩)⟩
    refine zz_c (zz_call (by omega) t_163 rfl (fun n => e_163 _ _ _) ?_)
    simp (maxSteps := 5000000) (disch := first | assumption | omega) only [zi_131, r160, zo_rI, zz_0, if_true]
    try (refine zz_Ei (fun _ => ?_) (fun h => absurd trivial h))
    have l := zz_loop (α := Int → Int) (run := fun c O n => mv_run (mv_cax (d - 1)) mm_163 n 14 [(0, .inr (.inr (some 131))), (1, .inl (mv_c k)), (3, .inl (mv_c c))] [] (zz_S T (zz_w J 132 O) R G)) (Q := fun r' => r' = (some (.inl (mv_c (zz_sum (fun c => if zv_mapA J (J 132) k (24 + c) < 0 then 0 else 1) (J 132 0 * J 132 1)))), zz_S T (zz_w J 132 (zv_mapA J (J 132) k)) R G)) (J 137 k) (fun c O => 0 ≤ c ∧ ∀ y, O y = if 24 ≤ y ∧ y < 24 + c then zq_sd J k (y - 24) else J 132 y) ?_ ?_ (J 137 k).toNat 0 (J 132) (by omega) ⟨by omega, fun y => by rw [if_neg (by omega)]⟩
    · rw [zw_i] at l
      exact l
    · rintro c O ⟨c0, hO⟩ hlt kk
      have r161 := r_161 (T := T) (J := zz_w J 132 O) (R := R) (G := G) (d := d - 1) (k := k) (c := c) (by omega) hL (zq_kdf hk (fun x x1 x2 => zw_n (by omega))) hkk.1 hkk.2 (by rw [zw_n (by omega)]; exact hV) c0 (by omega)
      have es : zq_sd (zz_w J 132 O) k c = zq_sd J k c := by
        unfold zq_sd
        rw [zw_n (by omega)]
      have e137 : zz_w J 132 O 137 k = J 137 k := by rw [zw_n (by omega)]
      rw [es] at r161
      refine zz_Es (fun n => e_163_14 _ _ _ _) ?_
      simp (maxSteps := 5000000) (disch := first | assumption | omega) only [zr_131_5, zr_131_0, zi_131, zo_rf, za_137, e137, zo_rI, zz_le, zz_add, r161, zs_132, zz_wu]
      refine zz_Ei (fun g => absurd g (by omega)) (fun _ => ?_)
      refine kk _ ⟨by omega, fun y => ?_⟩
      by_cases q : y = 24 + c
      · rw [q, zf_s, if_pos (by omega), show 24 + c - 24 = c by omega]
      · rw [zf_n q, hO y]
        by_cases q' : 24 ≤ y ∧ y < 24 + c
        · rw [if_pos q', if_pos (by omega)]
        · rw [if_neg q', if_neg (by omega)]
    · rintro O ⟨_, hO⟩
      have eO : O = zv_mapA J (J 132) k := by
        funext y
        rw [hO y, hsz]
        rfl
      subst eO
      have r162 := r_162 (T := T) (J := zz_w J 132 (zv_mapA J (J 132) k)) (R := R) (G := G) (d := d - 1) (Y := Y) (by omega) hL (by rw [zw_s]; exact hok)
      rw [zw_s, n0, n1] at r162
      have e137 : zz_w J 132 (zv_mapA J (J 132) k) 137 k = J 137 k := by rw [zw_n (by omega)]
      refine zz_Es (fun n => e_163_14 _ _ _ _) ?_
      simp (maxSteps := 5000000) (disch := first | assumption | omega) only [zr_131_5, zi_131, zo_rf, za_137, e137, zo_rI, zz_le, r162]
      refine zz_Ei (fun _ => zz_Er rfl) (fun h => absurd (Int.le_refl _) h)
end ZRMP
