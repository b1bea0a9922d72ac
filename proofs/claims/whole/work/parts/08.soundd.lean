/-! SOUNDNESS of the small machine, 4: arrays -/
theorem mo_ty_inv {σ : mv_S} {a t : Nat} {k : Nat → mv_O} {q : Option mv_V × mv_S} (h : mo_ty σ a t k = some q) : ∃ n, σ.1[a]? = some (.inr (t, n)) ∧ k n = some q := by
  unfold mo_ty at h
  split at h
  · rename_i t' n hq
    split at h
    · rename_i e
      subst e
      exact ⟨n, hq, h⟩
    · cases h
  · cases h
theorem mo_tr_inv {σ : mv_S} {a : Nat} {k : Nat → Nat → mv_O} {q : Option mv_V × mv_S} (h : mo_tr σ a k = some q) : ∃ t n, σ.1[a]? = some (.inr (t, n)) ∧ 3 ≤ t ∧ t ≤ 5 ∧ k t n = some q := by
  unfold mo_tr at h
  split at h
  · rename_i t n hq
    split at h
    · rename_i e
      exact ⟨t, n, hq, e.1, e.2, h⟩
    · cases h
  · cases h
theorem mo_ix_inv {i : Int32} {n : Nat} {k : Nat → mv_O} {q : Option mv_V × mv_S} (h : mo_ix i n k = some q) : ¬ (i < 0 ∨ n ≤ i.toNatClampNeg) ∧ k i.toNatClampNeg = some q := by
  unfold mo_ix at h
  split at h
  · cases h
  · rename_i e
    exact ⟨e, h⟩
theorem mo_own_inv {a : Nat} {k : mv_O} {q : Option mv_V × mv_S} (h : mo_own a k = some q) : 16 ≤ a ∧ k = some q := by
  unfold mo_own at h
  split at h
  · rename_i e
    exact ⟨e, h⟩
  · cases h
theorem mo_z_inv {x : Int32} {k : mv_O} {q : Option mv_V × mv_S} (h : mo_z x k = some q) : (x = 0 ∨ x = 1) ∧ k = some q := by
  unfold mo_z at h
  split at h
  · rename_i e
    exact ⟨e, h⟩
  · cases h
theorem mo_rf_inv {o : Option Nat} {k : Nat → mv_O} {q : Option mv_V × mv_S} (h : mo_rf o k = some q) : ∃ a, o = some a ∧ k a = some q := by
  cases o with
  | none => cases h
  | some a => exact ⟨a, rfl, h⟩
theorem mo_gI_inv {σ : mv_S} {a c f : Nat} {k : Int32 → mv_O} {q : Option mv_V × mv_S} (h : mo_gI σ a c f k = some q) : σ.1[a]? = some (.inl c) ∧ k (σ.2.1 a f) = some q := by
  unfold mo_gI at h
  split at h
  · rename_i e
    exact ⟨e, h⟩
  · cases h
theorem mo_gR_inv {σ : mv_S} {a c f : Nat} {k : Option Nat → mv_O} {q : Option mv_V × mv_S} (h : mo_gR σ a c f k = some q) : σ.1[a]? = some (.inl c) ∧ k (σ.2.2.1 a f) = some q := by
  unfold mo_gR at h
  split at h
  · rename_i e
    exact ⟨e, h⟩
  · cases h
theorem mo_pI_inv {σ : mv_S} {a c f : Nat} {x : Int32} {k : mv_S → mv_O} {q : Option mv_V × mv_S} (h : mo_pI σ a c f x k = some q) : σ.1[a]? = some (.inl c) ∧ k (ms_i σ (mv_up σ.2.1 a f x)) = some q := by
  unfold mo_pI at h
  split at h
  · rename_i e
    exact ⟨e, h⟩
  · cases h
theorem mo_pR_inv {σ : mv_S} {a c f : Nat} {x : Option Nat} {k : mv_S → mv_O} {q : Option mv_V × mv_S} (h : mo_pR σ a c f x k = some q) : σ.1[a]? = some (.inl c) ∧ k (ms_r σ (mv_up σ.2.2.1 a f x)) = some q := by
  unfold mo_pR at h
  split at h
  · rename_i e
    exact ⟨e, h⟩
  · cases h
theorem mw_tysG {ac : Nat → ClassId} {t : Nat} (h : t < 6) : (mw_tys ac)[t]? = some (ac t, mw_kty t) := by simp [mw_tys, h]
theorem mw_av3 {ad : Nat → Nat} {σ : mv_S} {t a y : Nat} (h : 3 ≤ t) : mw_av ad σ t a y = va_rf ((σ.2.2.1 a y).map ad) := by
  unfold mw_av
  rw [if_neg (by omega), if_neg (by omega)]
section MA
variable {p : Program} {l : Launch} {e : Env} {R : Room} {s : State} {m : MethodId} {args : Array Value} {below : List Frame} {meth : Method} {c : Code} {own : String} {cc : ByteArray} {nL rt : Nat} {D : va_G} {ac sa : Nat → Nat} {b L : Nat} {xs : Nat → Int32} {base : Nat} {Q : State → Prop}
variable {H : Heap} {locs : List Loc} {ls : Array Slot} {cells slots pc : Nat} {σ : mv_S} {rest : List Value} {a t n : Nat} {i : Int32}
theorem mw_isA (X : mw_X p l R s m args meth c own cc nL rt D ac sa b L xs base) (ht : t < 6) (n : Nat) (z : Nat → Value) : s.isArrayOf (arrV (ac t) n z) (mw_kty t) := by
  obtain ⟨-, -, -, -, -, hK, -⟩ := X
  exact (hK.2 t (ac t, mw_kty t) (by simp [mw_tys, ht])).1 n z
/-- the array that a numbered cell stands for -/
theorem mw_cell (X : mw_X p l R s m args meth c own cc nL rt D ac sa b L xs base) (hR : mw_R (mw_ad b sa base) D ac base L xs σ H) (hS : va_S (fun q => base ≤ q) s.heap H locs) (hq : σ.1[a]? = some (.inr (t, n))) (ht : t < 6) :
    ∃ cell : Cell, H[mw_ad b sa base a]? = some cell ∧ s.isArrayOf cell (mw_kty t) ∧ cell.vm ≠ .unknown ∧ cell.slots.size = n ∧ ∀ j, j < n → cell.slots[j]? = some (mw_av (mw_ad b sa base) σ t a j) := by
  rcases mw_16a hR hq ht with ⟨rfl, rfl, rfl⟩ | h16
  · obtain ⟨-, -, -, -, -, -, hbs, ⟨scr, g1, g2, g3, g4, g5⟩, hbb, -⟩ := X
    refine ⟨scr, ?_, g2, g3, g4, fun j hj => ?_⟩
    · show H[b]? = some scr
      rw [hS.2.1 b (Nat.lt_of_lt_of_le hbb hbs) (Nat.not_le.mpr hbb)]
      exact g1
    · rw [g5 j hj, ← hR.2.2.2.1.2 j hj]
      rfl
  · exact ⟨_, mw_at_arr (hR.1 a h16) hq ht, mw_isA X ht _ _, fun h => (by cases h), arrV_size _ _ _, fun j hj => arrV_read _ _ hj⟩
theorem mw_iald (X : mw_X p l R s m args meth c own cc nL rt D ac sa b L xs base) (hR : mw_R (mw_ad b sa base) D ac base L xs σ H) (hS : va_S (fun q => base ≤ q) s.heap H locs) (hq : σ.1[a]? = some (.inr (0, n))) (hin : ¬ (i < 0 ∨ n ≤ i.toNatClampNeg)) (hd : decode cc pc = .ok (.iaload, 1))
    (kk : W p l e R s m args below meth c H locs cells slots Q (F0 m (pc + 1) ls (.int (σ.2.1 a i.toNatClampNeg) :: rest))) : W p l e R s m args below meth c H locs cells slots Q (F0 m pc ls (.int i :: .ref (mw_ad b sa base a) :: rest)) := by
  obtain ⟨cell, g1, g2, g3, g4, g5⟩ := mw_cell X hR hS hq (by omega)
  exact W.iald X.1 X.2.1 g1 g2 g3 (by rw [g4]; exact hin) (g5 _ (by omega)) rfl rfl hd kk
theorem mw_zald (X : mw_X p l R s m args meth c own cc nL rt D ac sa b L xs base) (hR : mw_R (mw_ad b sa base) D ac base L xs σ H) (hS : va_S (fun q => base ≤ q) s.heap H locs) (hq : σ.1[a]? = some (.inr (1, n))) (hin : ¬ (i < 0 ∨ n ≤ i.toNatClampNeg)) (hd : decode cc pc = .ok (.baload, 1))
    (kk : W p l e R s m args below meth c H locs cells slots Q (F0 m (pc + 1) ls (.int (σ.2.1 a i.toNatClampNeg) :: rest))) : W p l e R s m args below meth c H locs cells slots Q (F0 m pc ls (.int i :: .ref (mw_ad b sa base a) :: rest)) := by
  obtain ⟨cell, g1, g2, g3, g4, g5⟩ := mw_cell X hR hS hq (by omega)
  exact W.zald X.1 X.2.1 g1 g2 g3 (by rw [g4]; exact hin) (g5 _ (by omega)) rfl rfl hd kk
theorem mw_lald (X : mw_X p l R s m args meth c own cc nL rt D ac sa b L xs base) (hR : mw_R (mw_ad b sa base) D ac base L xs σ H) (hS : va_S (fun q => base ≤ q) s.heap H locs) (hq : σ.1[a]? = some (.inr (2, n))) (hin : ¬ (i < 0 ∨ n ≤ i.toNatClampNeg)) (hd : decode cc pc = .ok (.laload, 1))
    (kk : W p l e R s m args below meth c H locs cells slots Q (F0 m (pc + 1) ls (.long (σ.2.2.2 a i.toNatClampNeg) :: rest))) : W p l e R s m args below meth c H locs cells slots Q (F0 m pc ls (.int i :: .ref (mw_ad b sa base a) :: rest)) := by
  obtain ⟨cell, g1, g2, g3, g4, g5⟩ := mw_cell X hR hS hq (by omega)
  exact W.lald X.1 X.2.1 g1 g2 g3 (by rw [g4]; exact hin) (g5 _ (by omega)) rfl rfl hd kk
theorem mw_kref {t : Nat} (h : 3 ≤ t) : (mw_kty t).isReference = true := by
  match t, h with
  | 3, _ => rfl
  | 4, _ => rfl
  | t + 5, _ => rfl
theorem mw_aald (X : mw_X p l R s m args meth c own cc nL rt D ac sa b L xs base) (hR : mw_R (mw_ad b sa base) D ac base L xs σ H) (hS : va_S (fun q => base ≤ q) s.heap H locs) (hq : σ.1[a]? = some (.inr (t, n))) (h3 : 3 ≤ t) (h5 : t ≤ 5) (hin : ¬ (i < 0 ∨ n ≤ i.toNatClampNeg)) (hd : decode cc pc = .ok (.aaload, 1))
    (kk : W p l e R s m args below meth c H locs cells slots Q (F0 m (pc + 1) ls (va_rf ((σ.2.2.1 a i.toNatClampNeg).map (mw_ad b sa base)) :: rest))) : W p l e R s m args below meth c H locs cells slots Q (F0 m pc ls (.int i :: .ref (mw_ad b sa base a) :: rest)) := by
  obtain ⟨cell, g1, g2, g3, g4, g5⟩ := mw_cell X hR hS hq (by omega)
  have hv := g5 i.toNatClampNeg (by omega)
  unfold mw_av at hv
  rw [if_neg (by omega), if_neg (by omega)] at hv
  exact W.aald X.1 X.2.1 g1 g2 (mw_kref h3) g3 (by rw [g4]; exact hin) hv rfl rfl hd kk
theorem mw_alen (X : mw_X p l R s m args meth c own cc nL rt D ac sa b L xs base) (hR : mw_R (mw_ad b sa base) D ac base L xs σ H) (hS : va_S (fun q => base ≤ q) s.heap H locs) (hq : σ.1[a]? = some (.inr (t, n))) (h6 : t < 6) (hd : decode cc pc = .ok (.arraylength, 1))
    (kk : W p l e R s m args below meth c H locs cells slots Q (F0 m (pc + 1) ls (.int (nI n) :: rest))) : W p l e R s m args below meth c H locs cells slots Q (F0 m pc ls (.ref (mw_ad b sa base a) :: rest)) := by
  obtain ⟨cell, g1, g2, g3, g4, g5⟩ := mw_cell X hR hS hq h6
  exact W.alen X.1 X.2.1 g1 g2 (n := nI n) (by rw [g4]; rfl) rfl rfl hd kk
/-- a place of an array is written -/
theorem mw_st (hR : mw_R (mw_ad b sa base) D ac base L xs σ H) (hS : va_S (fun q => base ≤ q) s.heap H locs) (hq : σ.1[a]? = some (.inr (t, n))) (ht : t < 6) (h16 : 16 ≤ a) {j : Nat} {v : Value} {H' : Heap} {σ' : mv_S} (hT : σ'.1 = σ.1) (h1 : ∀ q, q ≠ a → σ'.2.1 q = σ.2.1 q) (h2 : ∀ q, q ≠ a → σ'.2.2.1 q = σ.2.2.1 q) (h3 : ∀ q, q ≠ a → σ'.2.2.2 q = σ.2.2.2 q) (hv : ∀ y, updV (mw_av (mw_ad b sa base) σ t a) j v y = mw_av (mw_ad b sa base) σ' t a y)
    (e1 : H'[mw_ad b sa base a]? = some ((arrV (ac t) n (mw_av (mw_ad b sa base) σ t a)).setSlot j v)) (e2 : H'.size = H.size) (e3 : ∀ q, q ≠ mw_ad b sa base a → H'[q]? = H[q]?) :
    mw_R (mw_ad b sa base) D ac base L xs σ' H' ∧ va_S (fun q => base ≤ q) s.heap H' (locs ++ [⟨mw_ad b sa base a, j⟩]) := by
  refine ⟨mw_R_set hR h16 hT h1 h2 h3 e2 e3 ?_, hS.put e2 e3 (by rw [mw_ad_ge h16]; exact Nat.le_add_right _ _)⟩
  unfold mw_at
  rw [hT, hq]
  intro _
  show H'[mw_ad b sa base a]? = _
  rw [e1, arrV_store]
  exact congrArg (fun f => some (arrV (ac t) n f)) (funext hv)
theorem mw_iast (X : mw_X p l R s m args meth c own cc nL rt D ac sa b L xs base) (hR : mw_R (mw_ad b sa base) D ac base L xs σ H) (hS : va_S (fun q => base ≤ q) s.heap H locs) (hq : σ.1[a]? = some (.inr (0, n))) (h16 : 16 ≤ a) {x : Int32} (hin : ¬ (i < 0 ∨ n ≤ i.toNatClampNeg)) (hd : decode cc pc = .ok (.iastore, 1))
    (kk : ∀ (H1 : Heap) (locs1 : List Loc), mw_R (mw_ad b sa base) D ac base L xs (ms_i σ (mv_up σ.2.1 a i.toNatClampNeg x)) H1 → va_S (fun q => base ≤ q) s.heap H1 locs1 → W p l e R s m args below meth c H1 locs1 cells slots Q (F0 m (pc + 1) ls rest)) : W p l e R s m args below meth c H locs cells slots Q (F0 m pc ls (.int x :: .int i :: .ref (mw_ad b sa base a) :: rest)) := by
  refine W.iast X.1 X.2.1 (mw_at_arr (hR.1 a h16) hq (by omega)) (mw_isA X (by omega) _ _) (fun h => by cases h) (by rw [arrV_size]; exact hin) rfl rfl hd fun H' e1 e2 e3 => ?_
  obtain ⟨g1, g2⟩ := mw_st (σ' := ms_i σ (mv_up σ.2.1 a i.toNatClampNeg x)) hR hS hq (by omega) h16 rfl (fun q hq => mv_up_ne hq) (fun _ _ => rfl) (fun _ _ => rfl) (fun y => by
    simp only [updV, mw_av, mv_up]
    by_cases e : y = i.toNatClampNeg <;> simp [e]) e1 e2 e3
  exact kk H' _ g1 g2
theorem mw_zast (X : mw_X p l R s m args meth c own cc nL rt D ac sa b L xs base) (hR : mw_R (mw_ad b sa base) D ac base L xs σ H) (hS : va_S (fun q => base ≤ q) s.heap H locs) (hq : σ.1[a]? = some (.inr (1, n))) (h16 : 16 ≤ a) {x : Int32} (hx : x = 0 ∨ x = 1) (hin : ¬ (i < 0 ∨ n ≤ i.toNatClampNeg)) (hd : decode cc pc = .ok (.bastore, 1))
    (kk : ∀ (H1 : Heap) (locs1 : List Loc), mw_R (mw_ad b sa base) D ac base L xs (ms_i σ (mv_up σ.2.1 a i.toNatClampNeg x)) H1 → va_S (fun q => base ≤ q) s.heap H1 locs1 → W p l e R s m args below meth c H1 locs1 cells slots Q (F0 m (pc + 1) ls rest)) : W p l e R s m args below meth c H locs cells slots Q (F0 m pc ls (.int x :: .int i :: .ref (mw_ad b sa base a) :: rest)) := by
  refine W.zast X.1 X.2.1 (mw_at_arr (hR.1 a h16) hq (by omega)) (mw_isA X (t := 1) (by omega) _ _) (fun h => by cases h) (by rw [arrV_size]; exact hin) rfl rfl hd fun H' e1 e2 e3 => ?_
  have hn : narrow .boolean (.int x) = .int x := by rcases hx with rfl | rfl <;> decide
  rw [hn] at e1
  obtain ⟨g1, g2⟩ := mw_st (σ' := ms_i σ (mv_up σ.2.1 a i.toNatClampNeg x)) hR hS hq (by omega) h16 rfl (fun q hq => mv_up_ne hq) (fun _ _ => rfl) (fun _ _ => rfl) (fun y => by
    simp only [updV, mw_av, mv_up]
    by_cases e : y = i.toNatClampNeg <;> simp [e]) e1 e2 e3
  exact kk H' _ g1 g2
theorem mw_last (X : mw_X p l R s m args meth c own cc nL rt D ac sa b L xs base) (hR : mw_R (mw_ad b sa base) D ac base L xs σ H) (hS : va_S (fun q => base ≤ q) s.heap H locs) (hq : σ.1[a]? = some (.inr (2, n))) (h16 : 16 ≤ a) {x : Int64} (hin : ¬ (i < 0 ∨ n ≤ i.toNatClampNeg)) (hd : decode cc pc = .ok (.lastore, 1))
    (kk : ∀ (H1 : Heap) (locs1 : List Loc), mw_R (mw_ad b sa base) D ac base L xs (ms_l σ (mv_up σ.2.2.2 a i.toNatClampNeg x)) H1 → va_S (fun q => base ≤ q) s.heap H1 locs1 → W p l e R s m args below meth c H1 locs1 cells slots Q (F0 m (pc + 1) ls rest)) : W p l e R s m args below meth c H locs cells slots Q (F0 m pc ls (.long x :: .int i :: .ref (mw_ad b sa base a) :: rest)) := by
  refine W.last X.1 X.2.1 (mw_at_arr (hR.1 a h16) hq (by omega)) (mw_isA X (t := 2) (by omega) _ _) (fun h => by cases h) (by rw [arrV_size]; exact hin) rfl rfl hd fun H' e1 e2 e3 => ?_
  obtain ⟨g1, g2⟩ := mw_st (σ' := ms_l σ (mv_up σ.2.2.2 a i.toNatClampNeg x)) hR hS hq (by omega) h16 rfl (fun _ _ => rfl) (fun _ _ => rfl) (fun q hq => mv_up_ne hq) (fun y => by
    simp only [updV, mw_av, mv_up]
    by_cases e : y = i.toNatClampNeg <;> simp [e]) e1 e2 e3
  exact kk H' _ g1 g2
theorem mw_kty_obj (h3 : 3 ≤ t) (h5 : t ≤ 5) (hn : t ≠ 5) : ∃ (C : String) (r : vw_C), mw_kty t = .object C ∧ vwCl[mv_el t]? = some r ∧ r.1 = C := by
  have h : t = 3 ∨ t = 4 := by omega
  rcases h with rfl | rfl
  · exact ⟨_, _, rfl, rfl, rfl⟩
  · exact ⟨_, _, rfl, rfl, rfl⟩
theorem mw_aastN (X : mw_X p l R s m args meth c own cc nL rt D ac sa b L xs base) (hR : mw_R (mw_ad b sa base) D ac base L xs σ H) (hS : va_S (fun q => base ≤ q) s.heap H locs) (hq : σ.1[a]? = some (.inr (t, n))) (h3 : 3 ≤ t) (h5 : t ≤ 5) (hn5 : t ≠ 5) (h16 : 16 ≤ a) (hin : ¬ (i < 0 ∨ n ≤ i.toNatClampNeg)) (hd : decode cc pc = .ok (.aastore, 1))
    (kk : ∀ (H1 : Heap) (locs1 : List Loc), mw_R (mw_ad b sa base) D ac base L xs (ms_r σ (mv_up σ.2.2.1 a i.toNatClampNeg none)) H1 → va_S (fun q => base ≤ q) s.heap H1 locs1 → W p l e R s m args below meth c H1 locs1 cells slots Q (F0 m (pc + 1) ls rest)) : W p l e R s m args below meth c H locs cells slots Q (F0 m pc ls (.null :: .int i :: .ref (mw_ad b sa base a) :: rest)) := by
  obtain ⟨C, r, hC, hr, -⟩ := mw_kty_obj h3 h5 hn5
  have hA := mw_isA X (t := t) (by omega) n (mw_av (mw_ad b sa base) σ t a)
  rw [hC] at hA
  refine va_WaastN X.1 X.2.1 (mw_at_arr (hR.1 a h16) hq (by omega)) hA (fun h => by cases h) (by rw [arrV_size]; exact hin) rfl rfl hd fun H' e1 e2 e3 => ?_
  obtain ⟨g1, g2⟩ := mw_st (σ' := ms_r σ (mv_up σ.2.2.1 a i.toNatClampNeg none)) hR hS hq (by omega) h16 rfl (fun _ _ => rfl) (fun q hq => mv_up_ne hq) (fun _ _ => rfl) (fun y => by
    rw [mw_av3 h3]
    unfold updV
    by_cases e : y = i.toNatClampNeg
    · simp [e, mv_up, va_rf]
    · rw [if_neg e, mw_av3 h3]
      simp [mv_up, e]) e1 e2 e3
  exact kk H' _ g1 g2
theorem mw_aast (X : mw_X p l R s m args meth c own cc nL rt D ac sa b L xs base) (hR : mw_R (mw_ad b sa base) D ac base L xs σ H) (hS : va_S (fun q => base ≤ q) s.heap H locs) (hq : σ.1[a]? = some (.inr (t, n))) (h3 : 3 ≤ t) (h5 : t ≤ 5) (hn5 : t ≠ 5) (h16 : 16 ≤ a) {o : Nat} (ho : σ.1[o]? = some (.inl (mv_el t))) (hin : ¬ (i < 0 ∨ n ≤ i.toNatClampNeg)) (hd : decode cc pc = .ok (.aastore, 1))
    (kk : ∀ (H1 : Heap) (locs1 : List Loc), mw_R (mw_ad b sa base) D ac base L xs (ms_r σ (mv_up σ.2.2.1 a i.toNatClampNeg (some o))) H1 → va_S (fun q => base ≤ q) s.heap H1 locs1 → W p l e R s m args below meth c H1 locs1 cells slots Q (F0 m (pc + 1) ls rest)) : W p l e R s m args below meth c H locs cells slots Q (F0 m pc ls (.ref (mw_ad b sa base o) :: .int i :: .ref (mw_ad b sa base a) :: rest)) := by
  obtain ⟨C, r, hC, hr, hrC⟩ := mw_kty_obj h3 h5 hn5
  obtain ⟨-, -, -, -, -, hK, -⟩ := id X
  obtain ⟨r', hr', cellV, g1, g2, g3, -⟩ := mw_at_obj (hR.1 o (mw_16 hR ho)) ho
  have hcls := (hK.1 _ r hr).2
  obtain ⟨-, hRA⟩ := hK.2 t (ac t, mw_kty t) (mw_tysG (by omega))
  rw [hC] at hRA
  obtain ⟨kA, comp, k1, k2, k3, -⟩ := hRA
  rw [← hrC] at k2 k3
  have hcomp : comp = D.1 (mv_el t) := Option.some.inj (k3.symm.trans hcls.1)
  subst hcomp
  obtain ⟨kC, hkC, -⟩ := hcls.2
  refine W.aast X.1 X.2.1 (mw_at_arr (hR.1 a h16) hq (by omega)) (fun q h => by cases h) (fun h => by cases h) k1 k2 rfl hkC ⟨fun h => hin (Or.inl h), by rw [arrV_size]; omega⟩ g1 (fun q h => by rw [g3] at h; cases h) (by rw [g2]; exact hkC) (by rw [g2]; exact va_assign hcls) rfl rfl hd fun H' e1 e2 e3 => ?_
  obtain ⟨g1, g2⟩ := mw_st (σ' := ms_r σ (mv_up σ.2.2.1 a i.toNatClampNeg (some o))) hR hS hq (by omega) h16 rfl (fun _ _ => rfl) (fun q hq => mv_up_ne hq) (fun _ _ => rfl) (fun y => by
    rw [mw_av3 h3]
    unfold updV
    by_cases e : y = i.toNatClampNeg
    · simp [e, mv_up, va_rf]
    · rw [if_neg e, mw_av3 h3]
      simp [mv_up, e]) e1 e2 e3
  exact kk H' _ g1 g2
end MA
