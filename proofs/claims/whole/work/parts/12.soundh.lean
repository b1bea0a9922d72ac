/-! SOUNDNESS of the small machine, 8: calls, constants, switches (by program: wip/whole/gen/gen_sound8.py) -/
def mw_ex (x : Nat) : String := match x with
  | 1 => "java/lang/IllegalStateException"
  | 2 => "java/lang/UnsupportedOperationException"
  | _ => "java/lang/IllegalArgumentException"
/-- a method with a table of its own -/
def mw_hh (M : Nat) : List (Nat × Nat × Nat × Nat) := if M = 125 then [(34, 38, 41, 320), (34, 38, 48, 344), (34, 38, 58, 310)] else [(0, 9, 12, 13), (0, 9, 16, 15)]
section MD
variable (l : Launch) (D : va_G) (ac sa : Nat → Nat) (b L : Nat) (xs : Nat → Int32) (base : Nat)
def mw_OkW (I : mw_I) (hh : List (Nat × Nat × Nat × Nat)) (d : Nat) (as : List mv_V) (σ : mv_S) (r : Option mv_V) (σ' : mv_S) : Prop :=
  Met l I.1 (Cond.codeWith I.1 I.2.1 I.2.2.1 I.2.2.2.1 hh :: lw_good) (mw_rm d σ σ') (mw_Pc D ac sa b L xs base as σ) (mw_Qc D ac sa b L xs base r σ') (σ'.1.length - σ.1.length) (mw_sz σ'.1 - mw_sz σ.1) (fun q => base ≤ q)
/-- what a thrown end means -/
def mw_XC (r : Option mv_V) (σ' : mv_S) : String → State → State → Prop := fun E st t => ∃ x, 1 ≤ x ∧ x ≤ 3 ∧ r = some (.inl (nI x)) ∧ E = mw_ex x ∧ mw_R (mw_ad b sa base) D ac base L xs σ' t.heap ∧ va_F (fun q => base ≤ q) st t
def mw_QT (r : Option mv_V) (σ' : mv_S) : Array Value → State → Outcome → State → Prop := fun a st o t => (∀ x, r ≠ some (.inl x)) ∧ mw_Qc D ac sa b L xs base r σ' a st o t
def mw_OkT (I : mw_I) (d : Nat) (as : List mv_V) (σ : mv_S) (r : Option mv_V) (σ' : mv_S) : Prop :=
  vx_Met l I.1 (Cond.code I.1 I.2.1 I.2.2.1 I.2.2.2.1 :: lw_good) (mw_rm d σ σ') (mw_Pc D ac sa b L xs base as σ) (mw_QT D ac sa b L xs base r σ') (mw_XC D ac sa b L xs base r σ') (σ'.1.length - σ.1.length) (mw_sz σ'.1 - mw_sz σ.1) (fun q => base ≤ q)
/-- what every call at depth d means -/
def mw_CC (d : Nat) (cl : Nat → List mv_V → mv_S → mv_O) : Prop := ∀ (M : Nat) (as : List mv_V) (σ : mv_S) (r : Option mv_V) (σ' : mv_S), cl M as σ = some (r, σ') → σ.1 <+: σ'.1 ∧ ∀ I, mw_info M = some I →
  (M ≠ 28 → M ≠ 122 → M ≠ 125 → M ≠ 218 → mw_Ok l D ac sa b L xs base I d as σ r σ') ∧ ((M = 125 ∨ M = 218) → mw_OkW l D ac sa b L xs base I (mw_hh M) d as σ r σ') ∧ ((M = 28 ∨ M = 122) → mw_OkT l D ac sa b L xs base I d as σ r σ')
end MD
theorem mv_back_inv {c : Nat} {o : mv_O} {k : List mv_V → mv_S → mv_O} {q : Option mv_V × mv_S} (h : mv_back c o k = some q) : ∃ r σ', o = some (r, σ') ∧ k r.toList σ' = some q := by
  unfold mv_back at h
  split at h
  · unfold mo_rV at h
    split at h
    · exact ⟨_, _, rfl, h⟩
    · cases h
  · unfold mo_rI at h
    split at h
    · exact ⟨_, _, rfl, h⟩
    · cases h
  · unfold mo_rR at h
    split at h
    · exact ⟨_, _, rfl, h⟩
    · cases h
  · unfold mo_rL at h
    split at h
    · exact ⟨_, _, rfl, h⟩
    · cases h
theorem mo_rV_inv {o : mv_O} {k : mv_S → mv_O} {q : Option mv_V × mv_S} (h : mo_rV o k = some q) : ∃ σ', o = some (none, σ') ∧ k σ' = some q := by
  unfold mo_rV at h
  split at h
  · exact ⟨_, rfl, h⟩
  · cases h
theorem mo_is_inv {σ : mv_S} {a c : Nat} {k : mv_O} {q : Option mv_V × mv_S} (h : mo_is σ a c k = some q) : σ.1[a]? = some (.inl c) ∧ k = some q := by
  unfold mo_is at h
  split at h
  · rename_i e
    exact ⟨e, h⟩
  · cases h
theorem mw_wd (ad : Nat → Nat) (r : List mv_V) : ((r.map (mw_v ad)).map fun v => v.category).sum = mv_wd r := by
  unfold mv_wd
  rw [List.map_map]
  congr 1
  refine List.map_congr_left fun v _ => ?_
  match v with
  | .inl x => rfl
  | .inr (.inl x) => rfl
  | .inr (.inr none) => rfl
  | .inr (.inr (some a)) => rfl
theorem mw_stk {ad : Nat → Nat} {st r : List mv_V} {n a : Nat} (hz : st.drop n = .inr (.inr (some a)) :: r) : st.map (mw_v ad) = ((st.take n).reverse.map (mw_v ad)).reverse ++ .ref (ad a) :: r.map (mw_v ad) ∧ (st.take n).reverse.length = n := by
  have hl : n < st.length := by
    rcases Nat.lt_or_ge n st.length with h | h
    · exact h
    · rw [List.drop_eq_nil_of_le h] at hz
      cases hz
  constructor
  · have h := List.take_append_drop n st
    rw [hz] at h
    conv => lhs; rw [← h]
    rw [List.map_append, List.map_reverse, List.reverse_reverse]
    rfl
  · rw [List.length_reverse, List.length_take]
    omega
theorem mw_stkS {ad : Nat → Nat} {st : List mv_V} {n : Nat} : st.map (mw_v ad) = ((st.take n).reverse.map (mw_v ad)).reverse ++ (st.drop n).map (mw_v ad) := by
  rw [List.map_reverse, List.reverse_reverse, ← List.map_append, List.take_append_drop]
theorem mw_pushed {ad : Nat → Nat} {r : Option mv_V} {rest : List mv_V} : (r.map (mw_v ad)).toList ++ rest.map (mw_v ad) = (r.toList ++ rest).map (mw_v ad) := by
  cases r <;> rfl

theorem mw_mathW : Cond.static Lib.Math.abs.name ∈ lw_good ∧ Cond.static Lib.Math.max.name ∈ lw_good ∧ Cond.static Lib.Math.min.name ∈ lw_good ∧ Cond.initialized "java/lang/Math" ∈ lw_good ∧ Cond.code Lib.Math.abs.name Lib.Math.abs.code 1 (some .int) ∈ lw_good ∧ Cond.code Lib.Math.max.name Lib.Math.max.code 2 (some .int) ∈ lw_good ∧ Cond.code Lib.Math.min.name Lib.Math.min.code 2 (some .int) ∈ lw_good := ⟨mw_in 123 (by decide +kernel) (by decide +kernel), mw_in 762 (by decide +kernel) (by decide +kernel), mw_in 414 (by decide +kernel) (by decide +kernel), mw_in 77 (by decide +kernel) (by decide +kernel), mw_in 124 (by decide +kernel) (by decide +kernel), mw_in 763 (by decide +kernel) (by decide +kernel), mw_in 415 (by decide +kernel) (by decide +kernel)⟩
theorem mw_sysW : Cond.native arraycopyName ∈ lw_good ∧ Cond.static arraycopyName ∈ lw_good ∧ Cond.initialized "java/lang/System" ∈ lw_good ∧ Cond.instanceMethod Lib.objectInit ∈ lw_good ∧ Cond.code Lib.objectInit ⟨#[0xb1]⟩ 1 none ∈ lw_good := ⟨mw_in 503 (by decide +kernel) (by decide +kernel), mw_in 502 (by decide +kernel) (by decide +kernel), mw_in 87 (by decide +kernel) (by decide +kernel), mw_in 101 (by decide +kernel) (by decide +kernel), mw_in 102 (by decide +kernel) (by decide +kernel)⟩

section MCALL
variable {p : Program} {l : Launch} {e : Env} {R : Room} {s : State} {m : MethodId} {args : Array Value} {below : List Frame} {meth : Method} {c : Code} {own : String} {cc : ByteArray} {nL rt : Nat} {D : va_G} {ac sa : Nat → Nat} {b L : Nat} {xs : Nat → Int32} {base n0 s0 : Nat} {Q : State → Prop}
variable {cl : Nat → List mv_V → mv_S → mv_O} {lk : Nat → mv_K} {k : Nat → mv_L → List mv_V → mv_S → mv_O} {pc len : Nat} {lv : mv_L} {st : List mv_V} {σ σF : mv_S} {r0 : Option mv_V} {d i : Nat}

theorem mq_c1 (X : mw_X p l R s m args meth c own cc nL rt D ac sa b L xs base) (hC : mw_CC l D ac sa b L xs base d cl) (hRd : d + 9 ≤ R.frames ∧ 64 * d + 564 ≤ R.locals) (hB : σF.1.length ≤ R.cells + n0 ∧ mw_sz σF.1 ≤ R.slots + s0) (hd : decode cc pc = .ok (.invokevirtual i, 3)) {M n c0 : Nat} {z : Int} (hL : mw_okL own i (1, M, n, c0, z)) (hst : mv_call cl (1, M, n, c0, z) st σ (fun st' σ' => k (pc + 3) lv st' σ') = some (r0, σF)) (hk : ∀ pc' lv' st' σ', k pc' lv' st' σ' = some (r0, σF) → σ'.1 <+: σF.1 ∧ mw_G p l e R s m args below meth c nL D ac (mw_ad b sa base) base L xs n0 s0 Q pc' lv' st' σ') : σ.1 <+: σF.1 ∧ mw_G p l e R s m args below meth c nL D ac (mw_ad b sa base) base L xs n0 s0 Q pc lv st σ := by
  have hst : (match (generalizing := false) st.drop n with
    | .inr (.inr o) :: r => mo_rf o fun a => mo_is σ a z.toNat (if mv_wd r ≤ 8 then mv_back c0 (cl M (.inr (.inr (some a)) :: (st.take n).reverse) σ) (fun v σ' => k (pc + 3) lv (v ++ r) σ') else none)
    | _ => none) = some (r0, σF) := hst
  split at hst
  · rename_i o r hz
    obtain ⟨a, ho9, hs9⟩ := mo_rf_inv hst
    clear hst
    subst ho9
    obtain ⟨est, hlen⟩ := mw_stk (ad := mw_ad b sa base) hz
    obtain ⟨hty, hs9⟩ := mo_is_inv hs9
    split at hs9
    · rename_i hwd
      obtain ⟨rv, σ1, hcl, hs9⟩ := mv_back_inv hs9
      obtain ⟨I, hI, n1, n2, n3, n4, hokM, hkd, hlink, hn, rc, hrc, hrn⟩ := hL
      obtain ⟨hp, hok⟩ := hC M _ _ _ _ hcl
      obtain ⟨h1, h2⟩ := hk _ _ _ _ hs9
      have h3 := mw_sz_le h1
      have h4 := mw_sz_le hp
      refine ⟨hp.trans h1, fun H locs ls cells slots hl hR hS hc hs => ?_⟩
      rw [est]
      refine mw_invV X ((hok I hI).1 n1 n2 n3 n4) hokM hkd hlink (hlen.trans hn) hty hrc hrn hl.1 hR hS (by rw [mw_wd]; exact hwd) hRd ⟨by omega, by omega⟩ hd (fun H1 locs1 hR1 hS1 => ?_)
      rw [mw_pushed]
      exact h2 H1 locs1 ls _ _ hl hR1 hS1 (by omega) (by omega)
    · cases hs9
  · cases hst
theorem mq_c2 (X : mw_X p l R s m args meth c own cc nL rt D ac sa b L xs base) (hC : mw_CC l D ac sa b L xs base d cl) (hRd : d + 9 ≤ R.frames ∧ 64 * d + 564 ≤ R.locals) (hB : σF.1.length ≤ R.cells + n0 ∧ mw_sz σF.1 ≤ R.slots + s0) (hd : decode cc pc = .ok (.invokestatic i, 3)) {M n c0 : Nat} {z : Int} (hL : mw_okL own i (2, M, n, c0, z)) (hst : mv_call cl (2, M, n, c0, z) st σ (fun st' σ' => k (pc + 3) lv st' σ') = some (r0, σF)) (hk : ∀ pc' lv' st' σ', k pc' lv' st' σ' = some (r0, σF) → σ'.1 <+: σF.1 ∧ mw_G p l e R s m args below meth c nL D ac (mw_ad b sa base) base L xs n0 s0 Q pc' lv' st' σ') : σ.1 <+: σF.1 ∧ mw_G p l e R s m args below meth c nL D ac (mw_ad b sa base) base L xs n0 s0 Q pc lv st σ := by
  have hst : (if n ≤ st.length ∧ mv_wd (st.drop n) ≤ 8 then mv_back c0 (cl M (st.take n).reverse σ) (fun v σ' => k (pc + 3) lv (v ++ st.drop n) σ') else none) = some (r0, σF) := hst
  split at hst
  · rename_i hwd
    obtain ⟨hlen, hwd⟩ := hwd
    obtain ⟨rv, σ1, hcl, hs9⟩ := mv_back_inv hst
    obtain ⟨I, hI, n1, n2, n3, n4, hokM, hkd, hlink, hn⟩ := hL
    obtain ⟨hp, hok⟩ := hC M _ _ _ _ hcl
    obtain ⟨h1, h2⟩ := hk _ _ _ _ hs9
    have h3 := mw_sz_le h1
    have h4 := mw_sz_le hp
    refine ⟨hp.trans h1, fun H locs ls cells slots hl hR hS hc hs => ?_⟩
    rw [mw_stkS (n := n)]
    refine mw_invS X ((hok I hI).1 n1 n2 n3 n4) hokM hkd hlink (by rw [List.length_reverse, List.length_take, ← hn]; exact Nat.min_eq_left hlen) hl.1 hR hS (by rw [mw_wd]; exact hwd) hRd ⟨by omega, by omega⟩ hd (fun H1 locs1 hR1 hS1 => ?_)
    rw [mw_pushed]
    exact h2 H1 locs1 ls _ _ hl hR1 hS1 (by omega) (by omega)
  · cases hst
theorem mq_c3 (X : mw_X p l R s m args meth c own cc nL rt D ac sa b L xs base) (hC : mw_CC l D ac sa b L xs base d cl) (hRd : d + 9 ≤ R.frames ∧ 64 * d + 564 ≤ R.locals) (hB : σF.1.length ≤ R.cells + n0 ∧ mw_sz σF.1 ≤ R.slots + s0) (hd : decode cc pc = .ok (.invokespecial i, 3)) {M n c0 : Nat} {z : Int} (hL : mw_okL own i (3, M, n, c0, z)) (hst : mv_call cl (3, M, n, c0, z) st σ (fun st' σ' => k (pc + 3) lv st' σ') = some (r0, σF)) (hk : ∀ pc' lv' st' σ', k pc' lv' st' σ' = some (r0, σF) → σ'.1 <+: σF.1 ∧ mw_G p l e R s m args below meth c nL D ac (mw_ad b sa base) base L xs n0 s0 Q pc' lv' st' σ') : σ.1 <+: σF.1 ∧ mw_G p l e R s m args below meth c nL D ac (mw_ad b sa base) base L xs n0 s0 Q pc lv st σ := by
  have hst : (match (generalizing := false) st.drop n with
    | .inr (.inr o) :: r => mo_rf o fun a => if mv_wd r ≤ 8 then mo_rV (cl M (.inr (.inr (some a)) :: (st.take n).reverse) σ) (fun σ' => k (pc + 3) lv r σ') else none
    | _ => none) = some (r0, σF) := hst
  split at hst
  · rename_i o r hz
    obtain ⟨a, ho9, hs9⟩ := mo_rf_inv hst
    clear hst
    subst ho9
    obtain ⟨est, hlen⟩ := mw_stk (ad := mw_ad b sa base) hz
    split at hs9
    · rename_i hwd
      obtain ⟨σ1, hcl, hs9⟩ := mo_rV_inv hs9
      obtain ⟨I, hI, n1, n2, n3, n4, hokM, hkd, hlink, hn⟩ := hL
      obtain ⟨hp, hok⟩ := hC M _ _ _ _ hcl
      obtain ⟨h1, h2⟩ := hk _ _ _ _ hs9
      have h3 := mw_sz_le h1
      have h4 := mw_sz_le hp
      refine ⟨hp.trans h1, fun H locs ls cells slots hl hR hS hc hs => ?_⟩
      rw [est]
      refine mw_invI X ((hok I hI).1 n1 n2 n3 n4) hokM hkd hlink (hlen.trans hn) hl.1 hR hS (by rw [mw_wd]; exact hwd) hRd ⟨by omega, by omega⟩ hd (fun H1 locs1 hR1 hS1 => ?_)
      exact h2 H1 locs1 ls _ _ hl hR1 hS1 (by omega) (by omega)
    · cases hs9
  · cases hst
theorem mq_c4 (X : mw_X p l R s m args meth c own cc nL rt D ac sa b L xs base) (hC : mw_CC l D ac sa b L xs base d cl) (hRd : d + 9 ≤ R.frames ∧ 64 * d + 564 ≤ R.locals) (hB : σF.1.length ≤ R.cells + n0 ∧ mw_sz σF.1 ≤ R.slots + s0) (hd : decode cc pc = .ok (.invokespecial i, 3)) {M n c0 : Nat} {z : Int} (hL : mw_okL own i (4, M, n, c0, z)) (hst : mv_call cl (4, M, n, c0, z) st σ (fun st' σ' => k (pc + 3) lv st' σ') = some (r0, σF)) (hk : ∀ pc' lv' st' σ', k pc' lv' st' σ' = some (r0, σF) → σ'.1 <+: σF.1 ∧ mw_G p l e R s m args below meth c nL D ac (mw_ad b sa base) base L xs n0 s0 Q pc' lv' st' σ') : σ.1 <+: σF.1 ∧ mw_G p l e R s m args below meth c nL D ac (mw_ad b sa base) base L xs n0 s0 Q pc lv st σ := by
  have hst : (match (generalizing := false) st.drop n with
    | .inr (.inr o) :: r => mo_rf o fun a => if mv_wd r ≤ 8 then mo_rV (cl M (.inr (.inr (some a)) :: (st.take n).reverse) σ) (fun σ' => k (pc + 3) lv r σ') else none
    | _ => none) = some (r0, σF) := hst
  split at hst
  · rename_i o r hz
    obtain ⟨a, ho9, hs9⟩ := mo_rf_inv hst
    clear hst
    subst ho9
    obtain ⟨est, hlen⟩ := mw_stk (ad := mw_ad b sa base) hz
    split at hs9
    · rename_i hwd
      obtain ⟨σ1, hcl, hs9⟩ := mo_rV_inv hs9
      obtain ⟨I, hI, n1, n2, n3, n4, hokM, hkd, hown, hlink, hn⟩ := hL
      obtain ⟨hp, hok⟩ := hC M _ _ _ _ hcl
      obtain ⟨h1, h2⟩ := hk _ _ _ _ hs9
      have h3 := mw_sz_le h1
      have h4 := mw_sz_le hp
      refine ⟨hp.trans h1, fun H locs ls cells slots hl hR hS hc hs => ?_⟩
      rw [est]
      refine mw_invN X ((hok I hI).1 n1 n2 n3 n4) hokM hkd hown hlink (hlen.trans hn) hl.1 hR hS (by rw [mw_wd]; exact hwd) hRd ⟨by omega, by omega⟩ hd (fun H1 locs1 hR1 hS1 => ?_)
      exact h2 H1 locs1 ls _ _ hl hR1 hS1 (by omega) (by omega)
    · cases hs9
  · cases hst
theorem mq_c5 (X : mw_X p l R s m args meth c own cc nL rt D ac sa b L xs base) (hC : mw_CC l D ac sa b L xs base d cl) (hRd : d + 9 ≤ R.frames ∧ 64 * d + 564 ≤ R.locals) (hB : σF.1.length ≤ R.cells + n0 ∧ mw_sz σF.1 ≤ R.slots + s0) (hd : decode cc pc = .ok (.invokestatic i, 3)) {M n c0 : Nat} {z : Int} (hL : mw_okL own i (5, M, n, c0, z)) (hst : mv_call cl (5, M, n, c0, z) st σ (fun st' σ' => k (pc + 3) lv st' σ') = some (r0, σF)) (hk : ∀ pc' lv' st' σ', k pc' lv' st' σ' = some (r0, σF) → σ'.1 <+: σF.1 ∧ mw_G p l e R s m args below meth c nL D ac (mw_ad b sa base) base L xs n0 s0 Q pc' lv' st' σ') : σ.1 <+: σF.1 ∧ mw_G p l e R s m args below meth c nL D ac (mw_ad b sa base) base L xs n0 s0 Q pc lv st σ := by
  have hst : (match (generalizing := false) st with
    | .inl x :: r => if mv_wd r ≤ 8 then k (pc + 3) lv (.inl (mv_abs x) :: r) σ else none
    | _ => none) = some (r0, σF) := hst
  have hts := X.2.2.2.2.1
  have hRm := X.2.2.2.2.2.2.2.2.2.1
  obtain ⟨w1, w2, w3, w4, w5, w6, w7⟩ := mw_mathW
  split at hst
  · rename_i x r hz
    split at hst
    · rename_i hwd
      obtain ⟨h1, h2⟩ := hk _ _ _ _ hst
      have h3 := mw_sz_le h1
      refine ⟨h1, fun H locs ls cells slots hl hR hS hc hs => ?_⟩
      exact va_mabs X.1 X.2.1 (X.2.2.1.trans hl.1.symm) X.2.2.2.1 (hts _ hL) (hts _ w1) (hts _ w4) (hts _ w5) (Nat.le_trans (by decide) hRm.1) (by rw [mw_wd]; omega) (by omega) (by omega) hd (h2 H locs ls cells slots hl hR hS hc hs)
    · cases hst
  · cases hst
theorem mq_c6 (X : mw_X p l R s m args meth c own cc nL rt D ac sa b L xs base) (hC : mw_CC l D ac sa b L xs base d cl) (hRd : d + 9 ≤ R.frames ∧ 64 * d + 564 ≤ R.locals) (hB : σF.1.length ≤ R.cells + n0 ∧ mw_sz σF.1 ≤ R.slots + s0) (hd : decode cc pc = .ok (.invokestatic i, 3)) {M n c0 : Nat} {z : Int} (hL : mw_okL own i (6, M, n, c0, z)) (hst : mv_call cl (6, M, n, c0, z) st σ (fun st' σ' => k (pc + 3) lv st' σ') = some (r0, σF)) (hk : ∀ pc' lv' st' σ', k pc' lv' st' σ' = some (r0, σF) → σ'.1 <+: σF.1 ∧ mw_G p l e R s m args below meth c nL D ac (mw_ad b sa base) base L xs n0 s0 Q pc' lv' st' σ') : σ.1 <+: σF.1 ∧ mw_G p l e R s m args below meth c nL D ac (mw_ad b sa base) base L xs n0 s0 Q pc lv st σ := by
  have hst : (match (generalizing := false) st with
    | .inl y :: .inl x :: r => if mv_wd r ≤ 8 then k (pc + 3) lv (.inl (mv_max x y) :: r) σ else none
    | _ => none) = some (r0, σF) := hst
  have hts := X.2.2.2.2.1
  have hRm := X.2.2.2.2.2.2.2.2.2.1
  obtain ⟨w1, w2, w3, w4, w5, w6, w7⟩ := mw_mathW
  split at hst
  · rename_i y x r hz
    split at hst
    · rename_i hwd
      obtain ⟨h1, h2⟩ := hk _ _ _ _ hst
      have h3 := mw_sz_le h1
      refine ⟨h1, fun H locs ls cells slots hl hR hS hc hs => ?_⟩
      exact va_mmax X.1 X.2.1 (X.2.2.1.trans hl.1.symm) X.2.2.2.1 (hts _ hL) (hts _ w2) (hts _ w4) (hts _ w6) (Nat.le_trans (by decide) hRm.1) (by rw [mw_wd]; omega) (by omega) (by omega) hd (h2 H locs ls cells slots hl hR hS hc hs)
    · cases hst
  · cases hst
theorem mq_c7 (X : mw_X p l R s m args meth c own cc nL rt D ac sa b L xs base) (hC : mw_CC l D ac sa b L xs base d cl) (hRd : d + 9 ≤ R.frames ∧ 64 * d + 564 ≤ R.locals) (hB : σF.1.length ≤ R.cells + n0 ∧ mw_sz σF.1 ≤ R.slots + s0) (hd : decode cc pc = .ok (.invokestatic i, 3)) {M n c0 : Nat} {z : Int} (hL : mw_okL own i (7, M, n, c0, z)) (hst : mv_call cl (7, M, n, c0, z) st σ (fun st' σ' => k (pc + 3) lv st' σ') = some (r0, σF)) (hk : ∀ pc' lv' st' σ', k pc' lv' st' σ' = some (r0, σF) → σ'.1 <+: σF.1 ∧ mw_G p l e R s m args below meth c nL D ac (mw_ad b sa base) base L xs n0 s0 Q pc' lv' st' σ') : σ.1 <+: σF.1 ∧ mw_G p l e R s m args below meth c nL D ac (mw_ad b sa base) base L xs n0 s0 Q pc lv st σ := by
  have hst : (match (generalizing := false) st with
    | .inl y :: .inl x :: r => if mv_wd r ≤ 8 then k (pc + 3) lv (.inl (mv_min x y) :: r) σ else none
    | _ => none) = some (r0, σF) := hst
  have hts := X.2.2.2.2.1
  have hRm := X.2.2.2.2.2.2.2.2.2.1
  obtain ⟨w1, w2, w3, w4, w5, w6, w7⟩ := mw_mathW
  split at hst
  · rename_i y x r hz
    split at hst
    · rename_i hwd
      obtain ⟨h1, h2⟩ := hk _ _ _ _ hst
      have h3 := mw_sz_le h1
      refine ⟨h1, fun H locs ls cells slots hl hR hS hc hs => ?_⟩
      exact va_mmin X.1 X.2.1 (X.2.2.1.trans hl.1.symm) X.2.2.2.1 (hts _ hL) (hts _ w3) (hts _ w4) (hts _ w7) (Nat.le_trans (by decide) hRm.1) (by rw [mw_wd]; omega) (by omega) (by omega) hd (h2 H locs ls cells slots hl hR hS hc hs)
    · cases hst
  · cases hst
theorem mq_c8 (X : mw_X p l R s m args meth c own cc nL rt D ac sa b L xs base) (hC : mw_CC l D ac sa b L xs base d cl) (hRd : d + 9 ≤ R.frames ∧ 64 * d + 564 ≤ R.locals) (hB : σF.1.length ≤ R.cells + n0 ∧ mw_sz σF.1 ≤ R.slots + s0) (hd : decode cc pc = .ok (.invokestatic i, 3)) {M n c0 : Nat} {z : Int} (hL : mw_okL own i (8, M, n, c0, z)) (hst : mv_call cl (8, M, n, c0, z) st σ (fun st' σ' => k (pc + 3) lv st' σ') = some (r0, σF)) (hk : ∀ pc' lv' st' σ', k pc' lv' st' σ' = some (r0, σF) → σ'.1 <+: σF.1 ∧ mw_G p l e R s m args below meth c nL D ac (mw_ad b sa base) base L xs n0 s0 Q pc' lv' st' σ') : σ.1 <+: σF.1 ∧ mw_G p l e R s m args below meth c nL D ac (mw_ad b sa base) base L xs n0 s0 Q pc lv st σ := by
  have hst : (match (generalizing := false) st with
    | .inl n :: .inl dp :: .inr (.inr ob) :: .inl sp :: .inr (.inr oa) :: r => mo_rf oa fun a => mo_rf ob fun b => if mv_wd r ≤ 8 then mo_cp σ a sp b dp n fun σ' => k (pc + 3) lv r σ' else none
    | _ => none) = some (r0, σF) := hst
  obtain ⟨w1, w2, w3, w4, w5⟩ := mw_sysW
  split at hst
  · rename_i n dp ob sp oa r hz
    obtain ⟨a0, ho9, hs9⟩ := mo_rf_inv hst
    clear hst
    subst ho9
    obtain ⟨a1, ho8, hst⟩ := mo_rf_inv hs9
    clear hs9
    subst ho8
    split at hst
    · rename_i hwd
      unfold mo_cp at hst
      obtain ⟨q1, hst⟩ := mo_own_inv hst
      obtain ⟨q2, hst⟩ := mo_own_inv hst
      obtain ⟨n0, q3, hst⟩ := mo_ty_inv hst
      obtain ⟨n1, q4, hst⟩ := mo_ty_inv hst
      split at hst
      · cases hst
      · rename_i g1
        split at hst
        · cases hst
        · rename_i g2
          obtain ⟨h1, h2⟩ := hk _ _ _ _ hst
          refine ⟨h1, fun H locs ls cells slots hl hR hS hc hs => ?_⟩
          exact mw_acopy X hL w1 w2 w3 hl.1 hR hS q1 q2 q3 q4 (fun h => g1 (Or.inl h)) (fun h => g1 (Or.inr (Or.inl h))) (fun h => g1 (Or.inr (Or.inr h))) (by omega) (by omega) (by rw [mw_wd]; exact hwd) hd (fun H1 locs1 hR1 hS1 => h2 H1 locs1 ls cells slots hl hR1 hS1 hc hs)
    · cases hst
  · cases hst
theorem mq_c9 (X : mw_X p l R s m args meth c own cc nL rt D ac sa b L xs base) (hC : mw_CC l D ac sa b L xs base d cl) (hRd : d + 9 ≤ R.frames ∧ 64 * d + 564 ≤ R.locals) (hB : σF.1.length ≤ R.cells + n0 ∧ mw_sz σF.1 ≤ R.slots + s0) (hd : decode cc pc = .ok (.invokespecial i, 3)) {M n c0 : Nat} {z : Int} (hL : mw_okL own i (9, M, n, c0, z)) (hst : mv_call cl (9, M, n, c0, z) st σ (fun st' σ' => k (pc + 3) lv st' σ') = some (r0, σF)) (hk : ∀ pc' lv' st' σ', k pc' lv' st' σ' = some (r0, σF) → σ'.1 <+: σF.1 ∧ mw_G p l e R s m args below meth c nL D ac (mw_ad b sa base) base L xs n0 s0 Q pc' lv' st' σ') : σ.1 <+: σF.1 ∧ mw_G p l e R s m args below meth c nL D ac (mw_ad b sa base) base L xs n0 s0 Q pc lv st σ := by
  have hst : (match (generalizing := false) st with
    | .inr (.inr o) :: r => mo_rf o fun _ => if mv_wd r ≤ 8 then k (pc + 3) lv r σ else none
    | _ => none) = some (r0, σF) := hst
  have hts := X.2.2.2.2.1
  have hRm := X.2.2.2.2.2.2.2.2.2.1
  obtain ⟨w1, w2, w3, w4, w5⟩ := mw_sysW
  split at hst
  · rename_i o r hz
    obtain ⟨a, ho9, hst⟩ := mo_rf_inv hst
    subst ho9
    split at hst
    · rename_i hwd
      obtain ⟨h1, h2⟩ := hk _ _ _ _ hst
      refine ⟨h1, fun H locs ls cells slots hl hR hS hc hs => ?_⟩
      exact W.objInit X.1 X.2.1 X.2.2.2.1 (hts _ hL) (hts _ w4) (hts _ w5) rfl (hl.1.trans X.2.2.1.symm) rfl hd (Nat.le_trans (by decide) hRm.1) (by
        have h9 := mw_wd (mw_ad b sa base) r
        show 2 * 0 + _ + 12 ≤ _
        omega) (h2 H locs ls cells slots hl hR hS hc hs)
    · cases hst
  · cases hst
end MCALL
