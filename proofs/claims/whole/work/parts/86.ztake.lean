/-! PURE LAYER, 66: a land taken from another -/
/-- what of the references may change: drawers of lands, what shelves hold, which row the text reads -/
theorem zk_ref_o : ∀ q ∈ zz_ref, q.1 ≠ 24 ∧ q.1 ≠ 37 ∧ q.1 ≠ 50 ∧ q.1 ≠ 63 ∧ ¬ (q.2.1 = 0 ∧ (q.1 = 70 ∨ (115 ≤ q.1 ∧ q.1 ≠ 131))) := by decide +kernel
def zk_fR (R R' : Nat → Nat → Option Nat) : Prop := ∀ x k, x ≠ 24 → x ≠ 37 → x ≠ 50 → x ≠ 63 → ¬ (k = 0 ∧ (x = 70 ∨ (115 ≤ x ∧ x ≠ 131))) → R' x k = R x k
theorem zk_fR_r {R : Nat → Nat → Option Nat} : zk_fR R R := fun _ _ _ _ _ _ _ => rfl
theorem zk_fR_t {R R' R2 : Nat → Nat → Option Nat} (h : zk_fR R R') (h' : zk_fR R' R2) : zk_fR R R2 := fun x k x1 x2 x3 x4 x5 => by rw [h' x k x1 x2 x3 x4 x5, h x k x1 x2 x3 x4 x5]
theorem ZL_R {T : List mv_T} {R R' : Nat → Nat → Option Nat} (h : ZL T R) (hf : zk_fR R R') : ZL T R' := ⟨h.1, fun q hq => by
  have o := zk_ref_o q hq
  rw [hf q.1 q.2.1 o.1 o.2.1 o.2.2.1 o.2.2.2.1 o.2.2.2.2]
  exact h.2 q hq⟩
/-- lands as the machine has them: houses are 0 or 1, drawers are drawers -/
def zk_raw (T : List mv_T) (R : Nat → Nat → Option Nat) (J : Nat → Int → Int) (p : Nat) : Prop := (∀ c, 0 ≤ c → c < 16 → J (p + 6) c = 0 ∨ J (p + 6) c = 1) ∧ ∀ k a, k < 6 → R (p + 7) k = some a → T[a]? = some (.inl 2)
/-- q holds what p held -/
def zk_cpd (p q : Nat) (J J' : Nat → Int → Int) (R R' : Nat → Nat → Option Nat) : Prop := (∀ y, 0 ≤ y → y < 8 → J' q y = J p y) ∧ (∀ y, 0 ≤ y → y < 16 → J' (q + 1) y = J (p + 1) y) ∧ (∀ y, 0 ≤ y → y < 256 → J' (q + 2) y = J (p + 2) y) ∧ (∀ y, 0 ≤ y → y < 64 → J' (q + 3) y = J (p + 3) y) ∧ (∀ y, 0 ≤ y → y < 16 → J' (q + 4) y = J (p + 4) y) ∧ (∀ y, 0 ≤ y → y < 16 → J' (q + 5) y = J (p + 5) y) ∧ (∀ y, 0 ≤ y → y < 16 → J' (q + 6) y = J (p + 6) y) ∧ (∀ k, k < 6 → R' (q + 7) k = R (p + 7) k) ∧ (∀ y, 0 ≤ y → y < 6 → J' (q + 8) y = J (p + 8) y) ∧ (∀ y, 0 ≤ y → y < 24 → J' (q + 9) y = J (p + 9) y) ∧ (∀ y, 0 ≤ y → y < 24 → J' (q + 10) y = J (p + 10) y) ∧ ∀ y, 0 ≤ y → y < 24 → J' (q + 11) y = J (p + 11) y
theorem zk_cpd_rep {T : List mv_T} {p q : Nat} {J J' : Nat → Int → Int} {R R' : Nat → Nat → Option Nat} {Y : Int} {A : Int → Int} (hA : zz_ok Y A) (h : zk_cpd p q J J' R R') (hR : zc_rep T R J p A) (hf : ∀ x, 156 ≤ x → J' x = J x) : zc_rep T R' J' q A := by
  have hn := hA.n
  have h7 := hA.2.2.2.2.2.2.1
  obtain ⟨k0, k1, k2, k3, k4, k5, k6, k7, k8, k9, k10, k11⟩ := h
  obtain ⟨⟨r0, r1, r2⟩, r3, r4, r5⟩ := hR
  refine ⟨⟨?_, fun c c0 c1 => ⟨?_, fun i i0 i1 => ?_⟩, fun a b a0 a1 b0 b1 => ?_⟩, ?_, fun c c0 c1 => ⟨?_, ?_, ?_⟩, fun e e0 e1 => ?_⟩
  · rw [k0 0 (by omega) (by omega), k0 1 (by omega) (by omega), k0 2 (by omega) (by omega)]
    exact r0
  · rw [k1 c c0 (by omega)]
    exact (r1 c c0 c1).1
  · rw [k3 (c * 4 + i) (by omega) (by omega)]
    exact (r1 c c0 c1).2 i i0 i1
  · rw [k2 (a * 16 + b) (by omega) (by omega)]
    exact r2 a b a0 a1 b0 b1
  · rw [k0 3 (by omega) (by omega), k0 4 (by omega) (by omega), k0 5 (by omega) (by omega), k0 6 (by omega) (by omega), k0 7 (by omega) (by omega)]
    exact r3
  · rw [k4 c c0 (by omega)]
    exact (r4 c c0 c1).1
  · rw [k5 c c0 (by omega)]
    exact (r4 c c0 c1).2.1
  · rw [k6 c c0 (by omega)]
    exact (r4 c c0 c1).2.2
  · obtain ⟨⟨a, q1, q2, q3, q4⟩, q5, q6⟩ := r5 e e0 e1
    have hD := (hA.2.2.2.2.2.2.2.2 e e0 e1).2.2.1
    refine ⟨⟨a, by rw [k7 e.toNat (by omega)]; exact q1, q2, q3, by rw [hf a q3]; exact q4⟩, by rw [k8 e e0 (by omega)]; exact q5, fun w w0 w1 => ?_⟩
    rw [k9 (e * 4 + w) (by omega) (by omega), k10 (e * 4 + w) (by omega) (by omega), k11 (e * 4 + w) (by omega) (by omega)]
    exact q6 w w0 w1
section ZTAK
variable {T : List mv_T} {J : Nat → Int → Int} {R : Nat → Nat → Option Nat} {G : Nat → Nat → Int64} {d p q : Nat} {Y : Int} {A A' : Int → Int}
theorem zk_cpt {a b m : Nat} {n : Int} (ha : 16 ≤ a) (hb : 16 ≤ b) (h : T[a]? = some (.inr (0, m))) (h' : T[b]? = some (.inr (0, m))) (hn : n = m) (hm : m ≤ 1000) (k : mv_S → mv_O) : mo_cp (zz_S T J R G) a (mv_c 0) b (mv_c 0) (mv_c n) k = k (zz_S T (zz_w J b (fun y => if 0 ≤ y ∧ y < n then J a y else J b y)) R G) := by
  rw [zz_cpy ha hb h h' (by omega) (by omega) (by omega) (by omega) (by omega) hm hm, zk_cp0]
theorem zk_cpx {a b m : Nat} {n : Int} (ha : 16 ≤ a) (hb : 16 ≤ b) (h : T[a]? = some (.inr (0, m))) (h' : T[b]? = some (.inr (0, m))) (hn : n = m) (hm : m ≤ 1000) : ∃ J', (∀ k : mv_S → mv_O, mo_cp (zz_S T J R G) a (mv_c 0) b (mv_c 0) (mv_c n) k = k (zz_S T J' R G)) ∧ (∀ x, x ≠ b → J' x = J x) ∧ ∀ y, 0 ≤ y → y < n → J' b y = J a y :=
  ⟨_, fun k => zk_cpt ha hb h h' hn hm k, fun x hx => zw_n hx, fun y y0 y1 => by rw [zw_s, if_pos ⟨y0, y1⟩]⟩
theorem c_32 (hd : 1 ≤ d) (hL : ZL T R) (hp : Lnd p) (hq : Lnd q) (hpq : p ≠ q) (hraw : zk_raw T R J p) :
    ∃ J' R', mv_cax d 32 [.inr (.inr (some q)), .inr (.inr (some p))] (zz_S T J R G) = some (none, zz_S T J' R' G) ∧ zk_cpd p q J J' R R' ∧ (∀ x, (x < q ∨ q + 11 < x) → J' x = J x) ∧ (∀ x k, x ≠ q + 7 → R' x k = R x k) := by
  have hpl : p + 12 < 73 := by rcases hp with rfl | rfl | rfl | rfl <;> omega
  have hql : q + 12 < 73 ∧ 17 ≤ q := by rcases hq with rfl | rfl | rfl | rfl <;> omega
  have hpq' : p + 12 < q ∨ q + 12 < p := by rcases hp with rfl | rfl | rfl | rfl <;> rcases hq with rfl | rfl | rfl | rfl <;> omega
  suffices h : ∃ r, mv_cax d 32 [.inr (.inr (some q)), .inr (.inr (some p))] (zz_S T J R G) = some r ∧ ∃ J' R', r = (none, zz_S T J' R' G) ∧ zk_cpd p q J J' R R' ∧ (∀ x, (x < q ∨ q + 11 < x) → J' x = J x) ∧ (∀ x k, x ≠ q + 7 → R' x k = R x k) by
    obtain ⟨r, h1, J', R', rfl, h2⟩ := h
    exact ⟨J', R', h1, h2⟩
  refine zz_call (by omega) t_32 rfl (fun n => e_32 _ _ _) ?_
  obtain ⟨Ja, hJa⟩ : ∃ Ja, Ja = (zz_u (zz_u (zz_u (zz_u (zz_u (zz_u (zz_u (zz_u J q 0 (J p 0)) q 1 (J p 1)) q 2 (J p 2)) q 3 (J p 3)) q 4 (J p 4)) q 5 (J p 5)) q 6 (J p 6)) q 7 (J p 7)) := ⟨_, rfl⟩
  have fa : ∀ x, x ≠ q → Ja x = J x := fun x hx => by
    rw [hJa]
    simp (disch := omega) only [zu_A]
  have k0a : ∀ y, 0 ≤ y → y < 8 → Ja q y = J p y := by
    intro y y0 y1
    rw [hJa]
    rcases (show y = 0 ∨ y = 1 ∨ y = 2 ∨ y = 3 ∨ y = 4 ∨ y = 5 ∨ y = 6 ∨ y = 7 by omega) with rfl | rfl | rfl | rfl | rfl | rfl | rfl | rfl <;>
    simp (disch := omega) only [zu_s, zu_k]
  obtain ⟨Jb, c1, f1, v1⟩ := zk_cpx (T := T) (J := Ja) (R := R) (G := G) (n := 16) (by omega) (by omega) (zz_Lt1 hL hp) (zz_Lt1 hL hq) rfl (by omega)
  obtain ⟨Jc, c2, f2, v2⟩ := zk_cpx (T := T) (J := Jb) (R := R) (G := G) (n := 256) (by omega) (by omega) (zz_Lt2 hL hp) (zz_Lt2 hL hq) rfl (by omega)
  obtain ⟨Jd, c3, f3, v3⟩ := zk_cpx (T := T) (J := Jc) (R := R) (G := G) (n := 64) (by omega) (by omega) (zz_Lt3 hL hp) (zz_Lt3 hL hq) rfl (by omega)
  obtain ⟨Je, c4, f4, v4⟩ := zk_cpx (T := T) (J := Jd) (R := R) (G := G) (n := 16) (by omega) (by omega) (zz_Lt4 hL hp) (zz_Lt4 hL hq) rfl (by omega)
  obtain ⟨J1, c5, f5, v5⟩ := zk_cpx (T := T) (J := Je) (R := R) (G := G) (n := 16) (by omega) (by omega) (zz_Lt5 hL hp) (zz_Lt5 hL hq) rfl (by omega)
  simp (maxSteps := 5000000) (disch := first | assumption | omega) only [zo_rf, zg_L_0, zg_L_1, zg_L_2, zg_L_3, zg_L_4, zg_L_5, zg_L_6, zg_L_7, zp_L_0, zp_L_1, zp_L_2, zp_L_3, zp_L_4, zp_L_5, zp_L_6, zp_L_7, zu_A]
  rw [← hJa]
  clear hJa
  simp (maxSteps := 5000000) (disch := first | assumption | omega) only [zo_rf, zr_L_8, zr_L_9, zr_L_10, zr_L_11, zr_L_12, c1, c2, c3, c4, c5]
  have kf : ∀ x, (x < q ∨ q + 5 < x) → J1 x = J x := fun x hx => by rw [f5 x (by omega), f4 x (by omega), f3 x (by omega), f2 x (by omega), f1 x (by omega), fa x (by omega)]
  have k0 : ∀ y, 0 ≤ y → y < 8 → J1 q y = J p y := fun y y0 y1 => by rw [f5 q (by omega), f4 q (by omega), f3 q (by omega), f2 q (by omega), f1 q (by omega)]; exact k0a y y0 y1
  have k1 : ∀ y, 0 ≤ y → y < 16 → J1 (q + 1) y = J (p + 1) y := fun y y0 y1 => by rw [f5 _ (by omega), f4 _ (by omega), f3 _ (by omega), f2 _ (by omega), v1 y y0 y1, fa _ (by omega)]
  have k2 : ∀ y, 0 ≤ y → y < 256 → J1 (q + 2) y = J (p + 2) y := fun y y0 y1 => by rw [f5 _ (by omega), f4 _ (by omega), f3 _ (by omega), v2 y y0 y1, f1 _ (by omega), fa _ (by omega)]
  have k3 : ∀ y, 0 ≤ y → y < 64 → J1 (q + 3) y = J (p + 3) y := fun y y0 y1 => by rw [f5 _ (by omega), f4 _ (by omega), v3 y y0 y1, f2 _ (by omega), f1 _ (by omega), fa _ (by omega)]
  have k4 : ∀ y, 0 ≤ y → y < 16 → J1 (q + 4) y = J (p + 4) y := fun y y0 y1 => by rw [f5 _ (by omega), v4 y y0 y1, f3 _ (by omega), f2 _ (by omega), f1 _ (by omega), fa _ (by omega)]
  have k5 : ∀ y, 0 ≤ y → y < 16 → J1 (q + 5) y = J (p + 5) y := fun y y0 y1 => by rw [v5 y y0 y1, f4 _ (by omega), f3 _ (by omega), f2 _ (by omega), f1 _ (by omega), fa _ (by omega)]
  clear c1 c2 c3 c4 c5 v1 v2 v3 v4 v5 f1 f2 f3 f4 f5 fa k0a
  have l := zz_loop (α := Int → Int) (run := fun c O n => mv_run (mv_cax (d - 1)) mm_32 n 142 [(0, .inr (.inr (some q))), (1, .inr (.inr (some p))), (2, .inl (mv_c c))] [] (zz_S T (zz_w J1 (q + 6) O) R G)) (Q := fun r => ∃ J' R', r = (none, zz_S T J' R' G) ∧ zk_cpd p q J J' R R' ∧ (∀ x, (x < q ∨ q + 11 < x) → J' x = J x) ∧ (∀ x k, x ≠ q + 7 → R' x k = R x k)) 16 (fun c O => 0 ≤ c ∧ ∀ y, 0 ≤ y → y < c → O y = J (p + 6) y) ?_ ?_ 16 0 (J1 (q + 6)) (by omega) ⟨by omega, fun y _ _ => by omega⟩
  · rw [zw_i] at l
    exact l
  · rintro c O ⟨hc, hO⟩ hlt kk
    have h01 := hraw.1 c hc hlt
    have ep : zz_w J1 (q + 6) O (p + 6) = J (p + 6) := by rw [zw_n (by omega), kf (p + 6) (by omega)]
    refine zz_Es (fun n => e_32_142 _ _ _ _) ?_
    simp (maxSteps := 5000000) (disch := first | assumption | omega) only [zo_rf, zr_L_13, za_L_6, zs_L_6, ep, zz_wu, zz_le, zz_add]
    refine zz_Ei (fun h => absurd h (by omega)) (fun _ => ?_)
    refine kk _ ⟨by omega, fun y y0 y1 => ?_⟩
    by_cases e : y = c
    · rw [e, zf_s]
    · rw [zf_n e]
      exact hO y y0 (by omega)
  · rintro O ⟨_, hO⟩
    refine zz_Es (fun n => e_32_142 _ _ _ _) ?_
    simp (maxSteps := 5000000) (disch := first | assumption | omega) only [zz_le]
    refine zz_Ei (fun _ => ?_) (fun h => absurd (Int.le_refl _) h)
    obtain ⟨J2, hJ2⟩ : ∃ J2, J2 = zz_w J1 (q + 6) O := ⟨_, rfl⟩
    rw [← hJ2]
    have f2 : ∀ x, x ≠ q + 6 → J2 x = J1 x := fun x hx => by rw [hJ2, zw_n hx]
    have k6 : ∀ y, 0 ≤ y → y < 16 → J2 (q + 6) y = J (p + 6) y := by rw [hJ2, zw_s]; exact hO
    clear hJ2
    refine zz_loop (α := Nat → Nat → Option Nat) (run := fun c R' n => mv_run (mv_cax (d - 1)) mm_32 n 168 [(0, .inr (.inr (some q))), (1, .inr (.inr (some p))), (2, .inl (mv_c c))] [] (zz_S T J2 R' G)) 6 (fun c R' => 0 ≤ c ∧ (∀ x k, x ≠ q + 7 → R' x k = R x k) ∧ ∀ k : Nat, (k : Int) < c → R' (q + 7) k = R (p + 7) k) ?_ ?_ 6 0 R (by omega) ⟨by omega, fun _ _ _ => rfl, fun k hk => by omega⟩
    · rintro c R' ⟨hc, hR1, hR2⟩ hlt kk
      have hL' : ZL T R' := ZL_R hL (fun x k x1 x2 x3 x4 _ => hR1 x k (by rcases hq with rfl | rfl | rfl | rfl <;> omega))
      have ep : R' (p + 7) c.toNat = R (p + 7) c.toNat := hR1 _ _ (by omega)
      have ho : ∀ a, R (p + 7) c.toNat = some a → T[a]? = some (.inl 2) := fun a ha => hraw.2 c.toNat a (by omega) ha
      refine zz_Es (fun n => e_32_168 _ _ _ _) ?_
      simp (maxSteps := 5000000) (disch := first | assumption | omega) only [zo_rf, zr_L_14, za_L_7, ep, zs_L_7, zz_le, zz_add]
      refine zz_Ei (fun h => absurd h (by omega)) (fun _ => ?_)
      refine kk _ ⟨by omega, fun x k hx => ?_, fun k hk => ?_⟩
      · unfold mv_up
        rw [if_neg hx]
        exact hR1 x k hx
      · unfold mv_up
        rw [if_pos rfl]
        by_cases e : k = c.toNat
        · rw [if_pos e, e]
        · rw [if_neg e]
          exact hR2 k (by omega)
    · rintro R' ⟨_, hR1, hR2⟩
      have hL' : ZL T R' := ZL_R hL (fun x k x1 x2 x3 x4 _ => hR1 x k (by rcases hq with rfl | rfl | rfl | rfl <;> omega))
      obtain ⟨Jh, c8, g8, v8⟩ := zk_cpx (T := T) (J := J2) (R := R') (G := G) (n := 6) (by omega) (by omega) (zz_Lt8 hL' hp) (zz_Lt8 hL' hq) rfl (by omega)
      obtain ⟨Ji, c9, g9, v9⟩ := zk_cpx (T := T) (J := Jh) (R := R') (G := G) (n := 24) (by omega) (by omega) (zz_Lt9 hL' hp) (zz_Lt9 hL' hq) rfl (by omega)
      obtain ⟨Jj, c10, g10, v10⟩ := zk_cpx (T := T) (J := Ji) (R := R') (G := G) (n := 24) (by omega) (by omega) (zz_Lt10 hL' hp) (zz_Lt10 hL' hq) rfl (by omega)
      obtain ⟨J3, c11, g11, v11⟩ := zk_cpx (T := T) (J := Jj) (R := R') (G := G) (n := 24) (by omega) (by omega) (zz_Lt11 hL' hp) (zz_Lt11 hL' hq) rfl (by omega)
      refine zz_Es (fun n => e_32_168 _ _ _ _) ?_
      simp (maxSteps := 5000000) (disch := first | assumption | omega) only [zo_rf, zz_le, zr_L_15, zr_L_16, zr_L_17, zr_L_18, c8, c9, c10, c11]
      refine zz_Ei (fun _ => ?_) (fun h => absurd (Int.le_refl _) h)
      have lf : ∀ x, x ≠ q + 8 → x ≠ q + 9 → x ≠ q + 10 → x ≠ q + 11 → J3 x = J2 x := fun x x1 x2 x3 x4 => by rw [g11 x x4, g10 x x3, g9 x x2, g8 x x1]
      refine zz_Er ⟨J3, R', rfl, ⟨fun y y0 y1 => ?_, fun y y0 y1 => ?_, fun y y0 y1 => ?_, fun y y0 y1 => ?_, fun y y0 y1 => ?_, fun y y0 y1 => ?_, fun y y0 y1 => ?_, fun k hk => hR2 k (by omega), fun y y0 y1 => ?_, fun y y0 y1 => ?_, fun y y0 y1 => ?_, fun y y0 y1 => ?_⟩, fun x hx => ?_, hR1⟩
      · rw [lf q (by omega) (by omega) (by omega) (by omega), f2 q (by omega)]; exact k0 y y0 y1
      · rw [lf _ (by omega) (by omega) (by omega) (by omega), f2 _ (by omega)]; exact k1 y y0 y1
      · rw [lf _ (by omega) (by omega) (by omega) (by omega), f2 _ (by omega)]; exact k2 y y0 y1
      · rw [lf _ (by omega) (by omega) (by omega) (by omega), f2 _ (by omega)]; exact k3 y y0 y1
      · rw [lf _ (by omega) (by omega) (by omega) (by omega), f2 _ (by omega)]; exact k4 y y0 y1
      · rw [lf _ (by omega) (by omega) (by omega) (by omega), f2 _ (by omega)]; exact k5 y y0 y1
      · rw [lf _ (by omega) (by omega) (by omega) (by omega)]; exact k6 y y0 y1
      · rw [g11 _ (by omega), g10 _ (by omega), g9 _ (by omega), v8 y y0 y1, f2 _ (by omega), kf _ (by omega)]
      · rw [g11 _ (by omega), g10 _ (by omega), v9 y y0 y1, g8 _ (by omega), f2 _ (by omega), kf _ (by omega)]
      · rw [g11 _ (by omega), v10 y y0 y1, g9 _ (by omega), g8 _ (by omega), f2 _ (by omega), kf _ (by omega)]
      · rw [v11 y y0 y1, g10 _ (by omega), g9 _ (by omega), g8 _ (by omega), f2 _ (by omega), kf _ (by omega)]
      · rw [lf x (by omega) (by omega) (by omega) (by omega), f2 x (by omega), kf x (by omega)]
end ZTAK
