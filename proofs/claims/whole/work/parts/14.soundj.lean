/-! SOUNDNESS of the small machine, 10: calls of methods with tables, calls that catch -/
theorem mo_t0_inv {o : mv_O} {k : mv_S → mv_O} {t : Int32 → mv_S → mv_O} {q : Option mv_V × mv_S} (h : mo_t0 o k t = some q) : (∃ σ, o = some (none, σ) ∧ k σ = some q) ∨ (∃ x σ, o = some (some (.inl x), σ) ∧ t x σ = some q) := by
  unfold mo_t0 at h
  split at h
  · exact Or.inl ⟨_, rfl, h⟩
  · exact Or.inr ⟨_, _, rfl, h⟩
  · cases h
theorem mo_t3_inv {o : mv_O} {k : Int64 → mv_S → mv_O} {t : Int32 → mv_S → mv_O} {q : Option mv_V × mv_S} (h : mo_t3 o k t = some q) : (∃ y σ, o = some (some (.inr (.inl y)), σ) ∧ k y σ = some q) ∨ (∃ x σ, o = some (some (.inl x), σ) ∧ t x σ = some q) := by
  unfold mo_t3 at h
  split at h
  · exact Or.inl ⟨_, _, rfl, h⟩
  · exact Or.inr ⟨_, _, rfl, h⟩
  · cases h
section MT
variable {p : Program} {l : Launch} {e : Env} {R : Room} {s : State} {m : MethodId} {args : Array Value} {below : List Frame} {meth : Method} {c : Code} {own : String} {cc : ByteArray} {nL rt : Nat} {D : va_G} {ac sa : Nat → Nat} {b L : Nat} {xs : Nat → Int32} {base n0 s0 : Nat} {Q : State → Prop}
variable {cl : Nat → List mv_V → mv_S → mv_O} {lk : Nat → mv_K} {k : Nat → mv_L → List mv_V → mv_S → mv_O} {pc len : Nat} {lv : mv_L} {st : List mv_V} {σ σF : mv_S} {r0 : Option mv_V} {d i : Nat}
theorem mw_recv (X : mw_X p l R s m args meth c own cc nL rt D ac sa b L xs base) {H : Heap} {a ci : Nat} {rc : vw_C} {C : String} (hty : σ.1[a]? = some (.inl ci)) (hrc : vwCl[ci]? = some rc) (hcl : rc.1 = C) (hR : mw_R (mw_ad b sa base) D ac base L xs σ H) :
    ∃ cell : Cell, H[mw_ad b sa base a]? = some cell ∧ cell.vm.isStatics = false ∧ s.vm.findClass C = some cell.cls := by
  obtain ⟨rc', hrc', cell, q1, q2, q3, -⟩ := mw_at_obj (hR.1 a (mw_16 hR hty)) hty
  cases hrc.symm.trans hrc'
  have hK := X.2.2.2.2.2.1
  refine ⟨cell, q1, by rw [q3]; rfl, ?_⟩
  rw [← hcl, q2]
  exact (hK.1 ci _ hrc).2.1
theorem mq_c40 (X : mw_X p l R s m args meth c own cc nL rt D ac sa b L xs base) (hC : mw_CC l D ac sa b L xs base d cl) (hRd : d + 9 ≤ R.frames ∧ 64 * d + 564 ≤ R.locals) (hB : σF.1.length ≤ R.cells + n0 ∧ mw_sz σF.1 ≤ R.slots + s0) (hd : decode cc pc = .ok (.invokevirtual i, 3)) {M n c0 : Nat} {z : Int} (hL : mw_okX own i (40, M, n, c0, z)) (hst : mv_call cl (40, M, n, c0, z) st σ (fun st' σ' => k (pc + 3) lv st' σ') = some (r0, σF)) (hk : ∀ pc' lv' st' σ', k pc' lv' st' σ' = some (r0, σF) → σ'.1 <+: σF.1 ∧ mw_G p l e R s m args below meth c nL D ac (mw_ad b sa base) base L xs n0 s0 Q pc' lv' st' σ') : σ.1 <+: σF.1 ∧ mw_G p l e R s m args below meth c nL D ac (mw_ad b sa base) base L xs n0 s0 Q pc lv st σ := by
  have hst : (match (generalizing := false) st.drop n with
    | .inr (.inr o) :: r => mo_rf o fun a => mo_is σ a z.toNat (if mv_wd r ≤ 8 then mv_back c0 (cl M (.inr (.inr (some a)) :: (st.take n).reverse) σ) (fun v σ' => k (pc + 3) lv (v ++ r) σ') else none)
    | _ => none) = some (r0, σF) := hst
  split at hst
  · rename_i o r hz
    obtain ⟨a, ho9, hs9⟩ := mo_rf_inv hst
    clear hst
    subst ho9
    obtain ⟨est, hlen⟩ := mw_stk (ad := mw_ad b sa base) hz
    obtain ⟨hty, hs9⟩ := mo_is_inv hs9
    split at hs9
    · rename_i hwd
      obtain ⟨rv, σ1, hcl, hs9⟩ := mv_back_inv hs9
      obtain ⟨hM5, I, hI, ⟨w1, w2, w3, w4, w5⟩, w6, w7, w8, hn, rc, hrc, hrn⟩ := hL
      obtain ⟨hp, hok⟩ := hC M _ _ _ _ hcl
      have hM := (hok I hI).2.1 (Or.inl hM5)
      obtain ⟨h1, h2⟩ := hk _ _ _ _ hs9
      have h3 := mw_sz_le h1
      have h4 := mw_sz_le hp
      refine ⟨hp.trans h1, fun H locs ls cells slots hl hR hS hc hs => ?_⟩
      rw [est]
      refine mw_goC (vx_runVW (As := ((st.take n).reverse.map (mw_v (mw_ad b sa base)))) (rest := r.map (mw_v (mw_ad b sa base))) (C := I.1.cls) (mw_fix X) hM (vx_cwVW I.2.2.2.2.2 X.2.2.2.2.1 ?_ rfl rfl rfl ⟨rfl, w3.1, w3.2, w4⟩ (mw_roomC w5 hRd)) ⟨mw_blind, mw_recv X hty hrc hrn hR, mw_pre (as := .inr (.inr (some a)) :: (st.take n).reverse) X hR hS⟩ rfl ?_ hl.1 rfl (lv_room (by rw [mw_wd]; exact hwd)) hd ⟨by omega, by omega⟩) hS (fun H1 locs1 hR1 hS1 => ?_)
      · intro w hw
        unfold wsV at hw
        rcases List.mem_append.mp hw with hw | hw
        · simp only [List.mem_cons, List.not_mem_nil, or_false] at hw
          rcases hw with rfl | rfl | rfl | rfl
          · exact mw_goodIn _ w8
          · exact mw_goodIn _ w6
          · exact mw_goodIn _ w7
          · exact mw_goodIn _ w2
        · exact mw_goodC w1 w hw
      · rw [List.length_map]
        exact hlen.trans hn
      · rw [mw_pushed]
        exact h2 H1 locs1 ls _ _ hl hR1 hS1 (by omega) (by omega)
    · cases hs9
  · cases hst
theorem mq_c41 (X : mw_X p l R s m args meth c own cc nL rt D ac sa b L xs base) (hC : mw_CC l D ac sa b L xs base d cl) (hRd : d + 9 ≤ R.frames ∧ 64 * d + 564 ≤ R.locals) (hB : σF.1.length ≤ R.cells + n0 ∧ mw_sz σF.1 ≤ R.slots + s0) (hd : decode cc pc = .ok (.invokestatic i, 3)) {M n c0 : Nat} {z : Int} (hL : mw_okX own i (41, M, n, c0, z)) (hst : mv_call cl (41, M, n, c0, z) st σ (fun st' σ' => k (pc + 3) lv st' σ') = some (r0, σF)) (hk : ∀ pc' lv' st' σ', k pc' lv' st' σ' = some (r0, σF) → σ'.1 <+: σF.1 ∧ mw_G p l e R s m args below meth c nL D ac (mw_ad b sa base) base L xs n0 s0 Q pc' lv' st' σ') : σ.1 <+: σF.1 ∧ mw_G p l e R s m args below meth c nL D ac (mw_ad b sa base) base L xs n0 s0 Q pc lv st σ := by
  have hst : (if n ≤ st.length ∧ mv_wd (st.drop n) ≤ 8 then mv_back c0 (cl M (st.take n).reverse σ) (fun v σ' => k (pc + 3) lv (v ++ st.drop n) σ') else none) = some (r0, σF) := hst
  split at hst
  · rename_i hwd
    obtain ⟨hlen, hwd⟩ := hwd
    obtain ⟨rv, σ1, hcl, hs9⟩ := mv_back_inv hst
    obtain ⟨hM5, I, hI, ⟨w1, w2, w3, w4, w5⟩, w6, w8, hn⟩ := hL
    obtain ⟨hp, hok⟩ := hC M _ _ _ _ hcl
    have hM := (hok I hI).2.1 (Or.inr hM5)
    obtain ⟨h1, h2⟩ := hk _ _ _ _ hs9
    have h3 := mw_sz_le h1
    have h4 := mw_sz_le hp
    refine ⟨hp.trans h1, fun H locs ls cells slots hl hR hS hc hs => ?_⟩
    rw [mw_stkS (n := n)]
    refine mw_goC (vx_runSW (As := ((st.take n).reverse.map (mw_v (mw_ad b sa base)))) (rest := (st.drop n).map (mw_v (mw_ad b sa base))) (mw_fix X) hM (vx_cwSW I.2.2.2.2.2 X.2.2.2.2.1 ?_ rfl rfl rfl ⟨w3.1, w3.2, w4⟩ (mw_roomC w5 hRd)) ⟨mw_blind, mw_pre X hR hS⟩ rfl ?_ hl.1 rfl (lv_room (by rw [mw_wd]; exact hwd)) hd ⟨by omega, by omega⟩) hS (fun H1 locs1 hR1 hS1 => ?_)
    · intro w hw
      unfold va_wsS at hw
      rcases List.mem_append.mp hw with hw | hw
      · simp only [List.mem_cons, List.not_mem_nil, or_false] at hw
        rcases hw with rfl | rfl | rfl
        · exact mw_goodIn _ w8
        · exact mw_goodIn _ w6
        · exact mw_goodIn _ w2
      · exact mw_goodC w1 w hw
    · rw [List.length_map, List.length_reverse, List.length_take, ← hn]
      exact Nat.min_eq_left hlen
    · rw [mw_pushed]
      exact h2 H1 locs1 ls _ _ hl hR1 hS1 (by omega) (by omega)
  · cases hst
/-- behind a call that may throw -/
theorem mw_goT {M x0 : Nat} {aa : Array Value} {mc ms : Nat} {H : Heap} {locs : List Loc} {ls : Array Slot} {cells slots : Nat} {rest st1 : List Value} {rv : Option mv_V} {σ1 : mv_S}
    (hr : vx_Run p l e R s m args below meth c H locs cells slots mc ms (F0 m pc ls st1) rest (mw_QT D ac sa b L xs base rv σ1 aa) (mw_XC D ac sa b L xs base rv σ1) (fun q => base ≤ q)) (hS : va_S (fun q => base ≤ q) s.heap H locs)
    (kk : (∀ x, rv ≠ some (.inl x)) → ∀ (H1 : Heap) (locs1 : List Loc), mw_R (mw_ad b sa base) D ac base L xs σ1 H1 → va_S (fun q => base ≤ q) s.heap H1 locs1 → W p l e R s m args below meth c H1 locs1 (cells + mc) (slots + ms) Q (F0 m (pc + 3) ls ((rv.map (mw_v (mw_ad b sa base))).toList ++ rest)))
    (kt : ∀ (x : Nat) (H1 : Heap) (locs1 : List Loc) (q : Nat) (ce : Cell), 1 ≤ x → x ≤ 3 → rv = some (.inl (nI x)) → mw_R (mw_ad b sa base) D ac base L xs σ1 H1 → va_S (fun q => base ≤ q) s.heap H1 locs1 → H1[q]? = some ce → ce.vm = .none → s.vm.findClass (mw_ex x) = some ce.cls → vx_W p l e R s m args below meth c H1 locs1 (cells + mc) (slots + ms) Q (F0 m pc ls rest) q) :
    W p l e R s m args below meth c H locs cells slots Q (F0 m pc ls st1) := by
  intro T hT X
  rcases hr T hT X with ⟨v, st₀, t, T', L0, h0, X', hL, e1, e2, ⟨hnx, hv, hR', hz, hk⟩, st⟩ | ⟨q, st₀, t, T', L0, E, ce, h0, X', hL, e1, e2, ⟨x, hx1, hx3, hrx, hE, hR', hz, hk⟩, hce, hcv, hcl, st⟩
  · cases hv
    rw [h0] at hz hk
    rw [← e1] at hR'
    obtain ⟨t2, a1, b1⟩ := kk hnx T'.heap (locs ++ L0) hR' ⟨Nat.le_trans hS.1 (by rw [e1]; exact hz), fun q h1 h2 => by rw [e1, hk q (Nat.lt_of_lt_of_le h1 hS.1) h2]; exact hS.2.1 q h1 h2, fun q hq => by
        rcases List.mem_append.mp hq with h | h
        · exact hS.2.2 q h
        · exact hL q h⟩ T' rfl X'
    exact ⟨t2, st t2 a1, b1⟩
  · subst hE
    rw [h0] at hz hk
    rw [← e1] at hR' hce
    obtain ⟨t2, a1, b1⟩ := kt x T'.heap (locs ++ L0) q ce hx1 hx3 hrx hR' ⟨Nat.le_trans hS.1 (by rw [e1]; exact hz), fun q h1 h2 => by rw [e1, hk q (Nat.lt_of_lt_of_le h1 hS.1) h2]; exact hS.2.1 q h1 h2, fun q hq => by
        rcases List.mem_append.mp hq with h | h
        · exact hS.2.2 q h
        · exact hL q h⟩ hce hcv hcl T' rfl X'
    exact ⟨t2, st.trans a1, b1⟩
theorem ms_try (X : mw_X p l R s m args meth c own cc nL rt D ac sa b L xs base) (hC : mw_CC l D ac sa b L xs base d cl) (hRd : d + 9 ≤ R.frames ∧ 64 * d + 564 ≤ R.locals) (hB : σF.1.length ≤ R.cells + n0 ∧ mw_sz σF.1 ≤ R.slots + s0) (hd : decode cc pc = .ok (.invokevirtual i, 3)) {M n c0 : Nat} {z : Int} (hlk : lk i = (42, M, n, c0, z)) (hL : mw_okX own i (42, M, n, c0, z)) {ct : Option Nat} (hct : some pc = ct) (hCat : mw_Cat p l e R s m args below meth c cc nL (mw_ad b sa base) Q lk ct)
    (hst : mv_try cl M n c0 z st σ (fun st' σ' => k (pc + 3) lv st' σ') (fun h σ' => k h (mv_drop4 lv) [] σ') = some (r0, σF)) (hk : ∀ pc' lv' st' σ', k pc' lv' st' σ' = some (r0, σF) → σ'.1 <+: σF.1 ∧ mw_G p l e R s m args below meth c nL D ac (mw_ad b sa base) base L xs n0 s0 Q pc' lv' st' σ') : σ.1 <+: σF.1 ∧ mw_G p l e R s m args below meth c nL D ac (mw_ad b sa base) base L xs n0 s0 Q pc lv st σ := by
  unfold mv_try at hst
  split at hst
  · rename_i o r hz
    obtain ⟨a, ho9, hs9⟩ := mo_rf_inv hst
    clear hst
    subst ho9
    obtain ⟨est, hlen⟩ := mw_stk (ad := mw_ad b sa base) hz
    obtain ⟨hty, hs9⟩ := mo_is_inv hs9
    split at hs9
    · rename_i hwd
      have key : ∃ rv σ1, cl M (.inr (.inr (some a)) :: (st.take n).reverse) σ = some (rv, σ1) ∧ (((∀ x, rv ≠ some (.inl x)) ∧ k (pc + 3) lv (rv.toList ++ r) σ1 = some (r0, σF)) ∨ (∃ x, rv = some (.inl x) ∧ mv_hs x (fun h => k h (mv_drop4 lv) [] σ1) (mv_hl M) = some (r0, σF))) := by
        split at hs9
        · rcases mo_t0_inv hs9 with ⟨σ1, h1, h2⟩ | ⟨x, σ1, h1, h2⟩
          · exact ⟨_, _, h1, Or.inl ⟨(fun x h => by cases h), h2⟩⟩
          · exact ⟨_, _, h1, Or.inr ⟨x, rfl, h2⟩⟩
        · rcases mo_t3_inv hs9 with ⟨y, σ1, h1, h2⟩ | ⟨x, σ1, h1, h2⟩
          · exact ⟨_, _, h1, Or.inl ⟨(fun x h => by cases h), h2⟩⟩
          · exact ⟨_, _, h1, Or.inr ⟨x, rfl, h2⟩⟩
      obtain ⟨rv, σ1, hcl, hcase⟩ := key
      obtain ⟨hM5, I, hI, ⟨g1, g2, g3, g4, g5, g6⟩, hkd, w8, hn, rc, hrc, hrn⟩ := hL
      obtain ⟨hp, hok⟩ := hC M _ _ _ _ hcl
      have hM := (hok I hI).2.2 hM5
      have hpre : σ1.1 <+: σF.1 := by
        rcases hcase with ⟨-, h⟩ | ⟨x, -, h⟩
        · exact (hk _ _ _ _ h).1
        · have hall : ∀ (t : List (Nat × Nat)), mv_hs x (fun h => k h (mv_drop4 lv) [] σ1) t = some (r0, σF) → ∃ h, k h (mv_drop4 lv) [] σ1 = some (r0, σF) := by
            intro t
            induction t with
            | nil => intro h; cases h
            | cons q r ih =>
              intro h
              obtain ⟨q1, q2⟩ := q
              have h : (if x = nI q1 then k q2 (mv_drop4 lv) [] σ1 else mv_hs x (fun h => k h (mv_drop4 lv) [] σ1) r) = some (r0, σF) := h
              split at h
              · exact ⟨_, h⟩
              · exact ih h
          obtain ⟨h9, h8⟩ := hall _ h
          exact (hk _ _ _ _ h8).1
      have h3 := mw_sz_le hpre
      have h4 := mw_sz_le hp
      refine ⟨hp.trans hpre, fun H locs ls cells slots hl hR hS hc hs => ?_⟩
      rw [est]
      rcases g6 with ⟨-, g7, g8⟩ | ⟨g9, -⟩ | ⟨g9, -⟩
      · refine mw_goT (M := M) (x0 := 0) (vx_runV (As := ((st.take n).reverse.map (mw_v (mw_ad b sa base)))) (rest := r.map (mw_v (mw_ad b sa base))) (C := I.1.cls) (mw_fix X) hM (cwV I.2.2.2.2.2 X.2.2.2.2.1 ?_ rfl rfl rfl ⟨rfl, g3.1, g3.2, g4⟩ (mw_roomC g5 hRd)) ⟨mw_blind, mw_recv X hty hrc hrn hR, mw_pre (as := .inr (.inr (some a)) :: (st.take n).reverse) X hR hS⟩ rfl ?_ hl.1 rfl (lv_room (by rw [mw_wd]; exact hwd)) hd ⟨by omega, by omega⟩) hS (fun hnx H1 locs1 hR1 hS1 => ?_) (fun x H1 locs1 q ce hx1 hx3 hrx hR1 hS1 hce hcv hcl1 => ?_)
        · intro w hw
          unfold wsV at hw
          rcases List.mem_append.mp hw with hw | hw
          · simp only [List.mem_cons, List.not_mem_nil, or_false] at hw
            rcases hw with rfl | rfl | rfl | rfl
            · exact mw_goodIn _ w8
            · exact mw_goodIn _ g7
            · exact mw_goodIn _ g8
            · exact mw_goodIn _ g2
          · exact mw_goodC g1 w hw
        · rw [List.length_map]
          exact hlen.trans hn
        · rcases hcase with ⟨-, h⟩ | ⟨x, h, -⟩
          · rw [mw_pushed]
            exact (hk _ _ _ _ h).2 H1 locs1 ls _ _ hl hR1 hS1 (by omega) (by omega)
          · exact absurd h (hnx x)
        · rcases hcase with ⟨h, -⟩ | ⟨x9, h, h8⟩
          · exact absurd hrx (h _)
          · rw [hrx] at h
            cases h
            obtain ⟨hh, hlook, h7⟩ := mv_hs_inv hM5 hx1 hx3 h8
            exact hCat H1 locs1 ls _ _ pc i M n c0 x hh z lv _ q ce hl hct hlk hd hlook hx1 hx3 hce hcv hcl1 (fun ls' hl' => (hk _ _ _ _ h7).2 H1 locs1 ls' _ _ hl' hR1 hS1 (by omega) (by omega))
      · rw [g9] at hkd; cases hkd
      · rw [g9] at hkd; cases hkd
    · cases hs9
  · cases hst
end MT
