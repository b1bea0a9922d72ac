/-! SOUNDNESS of the small machine, 2: an instruction a lemma (by program: wip/whole/gen/gen_sound.py) -/
theorem mw_jmp {pc : Nat} {off : Int} (h : 0 ≤ (pc : Int) + off) : (pc : Int) + off = ((mv_jmp pc off : Nat) : Int) := by
  unfold mv_jmp
  omega
theorem mw_c1 (ad : Nat → Nat) (x : Option Nat) : (mw_v ad (.inr (.inr x))).category = 1 := by
  cases x <;> rfl
theorem mw_place {ad : Nat → Nat} : ∀ {lv : mv_L} {i : Nat} {v : mv_V}, lv.lookup i = some v → ∃ q : Nat, (lv.map fun q => (q.1, mw_v ad q.2))[q]? = some (i, mw_v ad v)
  | [], i, v, h => by simp at h
  | (j, w) :: r, i, v, h => by
    rw [List.lookup_cons] at h
    by_cases e : i = j
    · subst e
      simp at h
      subst h
      exact ⟨0, rfl⟩
    · have e2 : (i == j) = false := by simpa using e
      rw [e2] at h
      obtain ⟨q, hq⟩ := mw_place (ad := ad) h
      exact ⟨q + 1, hq⟩
section MS
variable {p : Program} {l : Launch} {e : Env} {R : Room} {s : State} {m : MethodId} {args : Array Value} {below : List Frame} {meth : Method} {c : Code} {own : String} {cc : ByteArray} {nL rt : Nat} {D : va_G} {ac sa : Nat → Nat} {b L : Nat} {xs : Nat → Int32} {base n0 s0 : Nat} {Q : State → Prop}
variable {cl : Nat → List mv_V → mv_S → mv_O} {lk : Nat → mv_K} {k : Nat → mv_L → List mv_V → mv_S → mv_O} {pc len : Nat} {lv : mv_L} {st : List mv_V} {σ σF : mv_S} {r0 : Option mv_V}

theorem ms_iconst {n : Int} (X : mw_X p l R s m args meth c own cc nL rt D ac sa b L xs base) (hd : decode cc pc = .ok (.iconst n, 1))  (hst : mv_step cl lk rt k (.iconst n) pc lv st σ = some (r0, σF)) (hk : ∀ pc' lv' st' σ', k pc' lv' st' σ' = some (r0, σF) → σ'.1 <+: σF.1 ∧ mw_G p l e R s m args below meth c nL D ac (mw_ad b sa base) base L xs n0 s0 Q pc' lv' st' σ') : σ.1 <+: σF.1 ∧ mw_G p l e R s m args below meth c nL D ac (mw_ad b sa base) base L xs n0 s0 Q pc lv st σ := by
  have hst : (k (pc + 1) lv (.inl (mv_c n) :: st) σ) = some (r0, σF) := hst
  obtain ⟨h1, h2⟩ := hk _ _ _ _ hst
  exact ⟨h1, fun H locs ls cells slots hl hR hS hc hs => lv_iconst X.1 X.2.1 hd rfl (h2 H locs ls cells slots hl hR hS hc hs)⟩
theorem ms_bipush {n : Int} (X : mw_X p l R s m args meth c own cc nL rt D ac sa b L xs base) (hd : decode cc pc = .ok (.bipush n, 2)) (hv : (Int8.ofInt n).toInt32 = mv_c n) (hst : mv_step cl lk rt k (.bipush n) pc lv st σ = some (r0, σF)) (hk : ∀ pc' lv' st' σ', k pc' lv' st' σ' = some (r0, σF) → σ'.1 <+: σF.1 ∧ mw_G p l e R s m args below meth c nL D ac (mw_ad b sa base) base L xs n0 s0 Q pc' lv' st' σ') : σ.1 <+: σF.1 ∧ mw_G p l e R s m args below meth c nL D ac (mw_ad b sa base) base L xs n0 s0 Q pc lv st σ := by
  have hst : (k (pc + 2) lv (.inl (mv_c n) :: st) σ) = some (r0, σF) := hst
  obtain ⟨h1, h2⟩ := hk _ _ _ _ hst
  exact ⟨h1, fun H locs ls cells slots hl hR hS hc hs => lv_bipush X.1 X.2.1 hd hv (h2 H locs ls cells slots hl hR hS hc hs)⟩
theorem ms_sipush {n : Int} (X : mw_X p l R s m args meth c own cc nL rt D ac sa b L xs base) (hd : decode cc pc = .ok (.sipush n, 3)) (hv : (Int16.ofInt n).toInt32 = mv_c n) (hst : mv_step cl lk rt k (.sipush n) pc lv st σ = some (r0, σF)) (hk : ∀ pc' lv' st' σ', k pc' lv' st' σ' = some (r0, σF) → σ'.1 <+: σF.1 ∧ mw_G p l e R s m args below meth c nL D ac (mw_ad b sa base) base L xs n0 s0 Q pc' lv' st' σ') : σ.1 <+: σF.1 ∧ mw_G p l e R s m args below meth c nL D ac (mw_ad b sa base) base L xs n0 s0 Q pc lv st σ := by
  have hst : (k (pc + 3) lv (.inl (mv_c n) :: st) σ) = some (r0, σF) := hst
  obtain ⟨h1, h2⟩ := hk _ _ _ _ hst
  exact ⟨h1, fun H locs ls cells slots hl hR hS hc hs => lv_sipush X.1 X.2.1 hd hv (h2 H locs ls cells slots hl hR hS hc hs)⟩
theorem ms_lconst {n : Fin 2} (X : mw_X p l R s m args meth c own cc nL rt D ac sa b L xs base) (hd : decode cc pc = .ok (.lconst n, 1))  (hst : mv_step cl lk rt k (.lconst n) pc lv st σ = some (r0, σF)) (hk : ∀ pc' lv' st' σ', k pc' lv' st' σ' = some (r0, σF) → σ'.1 <+: σF.1 ∧ mw_G p l e R s m args below meth c nL D ac (mw_ad b sa base) base L xs n0 s0 Q pc' lv' st' σ') : σ.1 <+: σF.1 ∧ mw_G p l e R s m args below meth c nL D ac (mw_ad b sa base) base L xs n0 s0 Q pc lv st σ := by
  have hst : (k (pc + 1) lv (.inr (.inl (Int64.ofNat n)) :: st) σ) = some (r0, σF) := hst
  obtain ⟨h1, h2⟩ := hk _ _ _ _ hst
  exact ⟨h1, fun H locs ls cells slots hl hR hS hc hs => lv_lconst X.1 X.2.1 hd rfl (h2 H locs ls cells slots hl hR hS hc hs)⟩
theorem ms_aconst_null (X : mw_X p l R s m args meth c own cc nL rt D ac sa b L xs base) (hd : decode cc pc = .ok (.aconst_null, 1))  (hst : mv_step cl lk rt k (.aconst_null) pc lv st σ = some (r0, σF)) (hk : ∀ pc' lv' st' σ', k pc' lv' st' σ' = some (r0, σF) → σ'.1 <+: σF.1 ∧ mw_G p l e R s m args below meth c nL D ac (mw_ad b sa base) base L xs n0 s0 Q pc' lv' st' σ') : σ.1 <+: σF.1 ∧ mw_G p l e R s m args below meth c nL D ac (mw_ad b sa base) base L xs n0 s0 Q pc lv st σ := by
  have hst : (k (pc + 1) lv (.inr (.inr none) :: st) σ) = some (r0, σF) := hst
  obtain ⟨h1, h2⟩ := hk _ _ _ _ hst
  exact ⟨h1, fun H locs ls cells slots hl hR hS hc hs => lv_null X.1 X.2.1 hd (h2 H locs ls cells slots hl hR hS hc hs)⟩
theorem ms_goto {off : Int} (X : mw_X p l R s m args meth c own cc nL rt D ac sa b L xs base) (hd : decode cc pc = .ok (.goto off, 3)) (ht : 0 ≤ (pc : Int) + off) (hst : mv_step cl lk rt k (.goto off) pc lv st σ = some (r0, σF)) (hk : ∀ pc' lv' st' σ', k pc' lv' st' σ' = some (r0, σF) → σ'.1 <+: σF.1 ∧ mw_G p l e R s m args below meth c nL D ac (mw_ad b sa base) base L xs n0 s0 Q pc' lv' st' σ') : σ.1 <+: σF.1 ∧ mw_G p l e R s m args below meth c nL D ac (mw_ad b sa base) base L xs n0 s0 Q pc lv st σ := by
  have hst : (k (mv_jmp pc off) lv st σ) = some (r0, σF) := hst
  obtain ⟨h1, h2⟩ := hk _ _ _ _ hst
  exact ⟨h1, fun H locs ls cells slots hl hR hS hc hs => lv_goto X.1 X.2.1 hd (mw_jmp ht) (h2 H locs ls cells slots hl hR hS hc hs)⟩
theorem ms_iload_n {i : Fin 4} (X : mw_X p l R s m args meth c own cc nL rt D ac sa b L xs base) (hd : decode cc pc = .ok (.iload_n i, 1))  (hst : mv_step cl lk rt k (.iload_n i) pc lv st σ = some (r0, σF)) (hk : ∀ pc' lv' st' σ', k pc' lv' st' σ' = some (r0, σF) → σ'.1 <+: σF.1 ∧ mw_G p l e R s m args below meth c nL D ac (mw_ad b sa base) base L xs n0 s0 Q pc' lv' st' σ') : σ.1 <+: σF.1 ∧ mw_G p l e R s m args below meth c nL D ac (mw_ad b sa base) base L xs n0 s0 Q pc lv st σ := by
  have hst : ((match (generalizing := false) lv.lookup i.val with
    | some (.inl x) => k (pc + 1) lv (.inl x :: st) σ
    | _ => none)) = some (r0, σF) := hst
  split at hst
  · rename_i x hx
    obtain ⟨h1, h2⟩ := hk _ _ _ _ hst
    exact ⟨h1, fun H locs ls cells slots hl hR hS hc hs => lv_iload_n X.1 X.2.1 hd rfl (mw_ld hl hx) (h2 H locs ls cells slots hl hR hS hc hs)⟩
  · cases hst
theorem ms_iload {i : Nat} (X : mw_X p l R s m args meth c own cc nL rt D ac sa b L xs base) (hd : decode cc pc = .ok (.iload i, 2))  (hst : mv_step cl lk rt k (.iload i) pc lv st σ = some (r0, σF)) (hk : ∀ pc' lv' st' σ', k pc' lv' st' σ' = some (r0, σF) → σ'.1 <+: σF.1 ∧ mw_G p l e R s m args below meth c nL D ac (mw_ad b sa base) base L xs n0 s0 Q pc' lv' st' σ') : σ.1 <+: σF.1 ∧ mw_G p l e R s m args below meth c nL D ac (mw_ad b sa base) base L xs n0 s0 Q pc lv st σ := by
  have hst : ((match (generalizing := false) lv.lookup i with
    | some (.inl x) => k (pc + 2) lv (.inl x :: st) σ
    | _ => none)) = some (r0, σF) := hst
  split at hst
  · rename_i x hx
    obtain ⟨h1, h2⟩ := hk _ _ _ _ hst
    exact ⟨h1, fun H locs ls cells slots hl hR hS hc hs => lv_iload X.1 X.2.1 hd (mw_ld hl hx) (h2 H locs ls cells slots hl hR hS hc hs)⟩
  · cases hst
theorem ms_lload_n {i : Fin 4} (X : mw_X p l R s m args meth c own cc nL rt D ac sa b L xs base) (hd : decode cc pc = .ok (.lload_n i, 1))  (hst : mv_step cl lk rt k (.lload_n i) pc lv st σ = some (r0, σF)) (hk : ∀ pc' lv' st' σ', k pc' lv' st' σ' = some (r0, σF) → σ'.1 <+: σF.1 ∧ mw_G p l e R s m args below meth c nL D ac (mw_ad b sa base) base L xs n0 s0 Q pc' lv' st' σ') : σ.1 <+: σF.1 ∧ mw_G p l e R s m args below meth c nL D ac (mw_ad b sa base) base L xs n0 s0 Q pc lv st σ := by
  have hst : ((match (generalizing := false) lv.lookup i.val with
    | some (.inr (.inl x)) => k (pc + 1) lv (.inr (.inl x) :: st) σ
    | _ => none)) = some (r0, σF) := hst
  split at hst
  · rename_i x hx
    obtain ⟨h1, h2⟩ := hk _ _ _ _ hst
    exact ⟨h1, fun H locs ls cells slots hl hR hS hc hs => lv_lload_n X.1 X.2.1 hd rfl (mw_ld hl hx) (h2 H locs ls cells slots hl hR hS hc hs)⟩
  · cases hst
theorem ms_lload {i : Nat} (X : mw_X p l R s m args meth c own cc nL rt D ac sa b L xs base) (hd : decode cc pc = .ok (.lload i, 2))  (hst : mv_step cl lk rt k (.lload i) pc lv st σ = some (r0, σF)) (hk : ∀ pc' lv' st' σ', k pc' lv' st' σ' = some (r0, σF) → σ'.1 <+: σF.1 ∧ mw_G p l e R s m args below meth c nL D ac (mw_ad b sa base) base L xs n0 s0 Q pc' lv' st' σ') : σ.1 <+: σF.1 ∧ mw_G p l e R s m args below meth c nL D ac (mw_ad b sa base) base L xs n0 s0 Q pc lv st σ := by
  have hst : ((match (generalizing := false) lv.lookup i with
    | some (.inr (.inl x)) => k (pc + 2) lv (.inr (.inl x) :: st) σ
    | _ => none)) = some (r0, σF) := hst
  split at hst
  · rename_i x hx
    obtain ⟨h1, h2⟩ := hk _ _ _ _ hst
    exact ⟨h1, fun H locs ls cells slots hl hR hS hc hs => lv_lload X.1 X.2.1 hd (mw_ld hl hx) (h2 H locs ls cells slots hl hR hS hc hs)⟩
  · cases hst
theorem ms_aload_n {i : Fin 4} (X : mw_X p l R s m args meth c own cc nL rt D ac sa b L xs base) (hd : decode cc pc = .ok (.aload_n i, 1))  (hst : mv_step cl lk rt k (.aload_n i) pc lv st σ = some (r0, σF)) (hk : ∀ pc' lv' st' σ', k pc' lv' st' σ' = some (r0, σF) → σ'.1 <+: σF.1 ∧ mw_G p l e R s m args below meth c nL D ac (mw_ad b sa base) base L xs n0 s0 Q pc' lv' st' σ') : σ.1 <+: σF.1 ∧ mw_G p l e R s m args below meth c nL D ac (mw_ad b sa base) base L xs n0 s0 Q pc lv st σ := by
  have hst : ((match (generalizing := false) lv.lookup i.val with
    | some (.inr (.inr x)) => k (pc + 1) lv (.inr (.inr x) :: st) σ
    | _ => none)) = some (r0, σF) := hst
  split at hst
  · rename_i x hx
    obtain ⟨h1, h2⟩ := hk _ _ _ _ hst
    refine ⟨h1, fun H locs ls cells slots hl hR hS hc hs => ?_⟩
    have hg := mw_ld hl hx
    cases x with
    | none => exact lv_aload_nN X.1 X.2.1 hd rfl hg (h2 H locs ls cells slots hl hR hS hc hs)
    | some a => exact lv_aload_n X.1 X.2.1 hd rfl hg (h2 H locs ls cells slots hl hR hS hc hs)
  · cases hst
theorem ms_aload {i : Nat} (X : mw_X p l R s m args meth c own cc nL rt D ac sa b L xs base) (hd : decode cc pc = .ok (.aload i, 2))  (hst : mv_step cl lk rt k (.aload i) pc lv st σ = some (r0, σF)) (hk : ∀ pc' lv' st' σ', k pc' lv' st' σ' = some (r0, σF) → σ'.1 <+: σF.1 ∧ mw_G p l e R s m args below meth c nL D ac (mw_ad b sa base) base L xs n0 s0 Q pc' lv' st' σ') : σ.1 <+: σF.1 ∧ mw_G p l e R s m args below meth c nL D ac (mw_ad b sa base) base L xs n0 s0 Q pc lv st σ := by
  have hst : ((match (generalizing := false) lv.lookup i with
    | some (.inr (.inr x)) => k (pc + 2) lv (.inr (.inr x) :: st) σ
    | _ => none)) = some (r0, σF) := hst
  split at hst
  · rename_i x hx
    obtain ⟨h1, h2⟩ := hk _ _ _ _ hst
    refine ⟨h1, fun H locs ls cells slots hl hR hS hc hs => ?_⟩
    have hg := mw_ld hl hx
    cases x with
    | none => exact lv_aloadN X.1 X.2.1 hd hg (h2 H locs ls cells slots hl hR hS hc hs)
    | some a => exact lv_aload X.1 X.2.1 hd hg (h2 H locs ls cells slots hl hR hS hc hs)
  · cases hst
theorem ms_istore_n {i : Fin 4} (X : mw_X p l R s m args meth c own cc nL rt D ac sa b L xs base) (hd : decode cc pc = .ok (.istore_n i, 1)) (hi : i.val < nL) (hst : mv_step cl lk rt k (.istore_n i) pc lv st σ = some (r0, σF)) (hk : ∀ pc' lv' st' σ', k pc' lv' st' σ' = some (r0, σF) → σ'.1 <+: σF.1 ∧ mw_G p l e R s m args below meth c nL D ac (mw_ad b sa base) base L xs n0 s0 Q pc' lv' st' σ') : σ.1 <+: σF.1 ∧ mw_G p l e R s m args below meth c nL D ac (mw_ad b sa base) base L xs n0 s0 Q pc lv st σ := by
  have hst : ((match (generalizing := false) st with
    | .inl x :: r => k (pc + 1) (mv_put1 lv i.val (.inl x)) r σ
    | _ => none)) = some (r0, σF) := hst
  split at hst
  · rename_i x r hz
    obtain ⟨h1, h2⟩ := hk _ _ _ _ hst
    exact ⟨h1, fun H locs ls cells slots hl hR hS hc hs => lv_istore_n X.1 X.2.1 hd rfl hl hi (mw_put1 (mw_ad b sa base) lv _ (.inl x)) (fun ls hl => h2 H locs ls cells slots hl hR hS hc hs)⟩
  · cases hst
theorem ms_istore {i : Nat} (X : mw_X p l R s m args meth c own cc nL rt D ac sa b L xs base) (hd : decode cc pc = .ok (.istore i, 2)) (hi : i < nL) (hst : mv_step cl lk rt k (.istore i) pc lv st σ = some (r0, σF)) (hk : ∀ pc' lv' st' σ', k pc' lv' st' σ' = some (r0, σF) → σ'.1 <+: σF.1 ∧ mw_G p l e R s m args below meth c nL D ac (mw_ad b sa base) base L xs n0 s0 Q pc' lv' st' σ') : σ.1 <+: σF.1 ∧ mw_G p l e R s m args below meth c nL D ac (mw_ad b sa base) base L xs n0 s0 Q pc lv st σ := by
  have hst : ((match (generalizing := false) st with
    | .inl x :: r => k (pc + 2) (mv_put1 lv i (.inl x)) r σ
    | _ => none)) = some (r0, σF) := hst
  split at hst
  · rename_i x r hz
    obtain ⟨h1, h2⟩ := hk _ _ _ _ hst
    exact ⟨h1, fun H locs ls cells slots hl hR hS hc hs => lv_istore X.1 X.2.1 hd hl hi (mw_put1 (mw_ad b sa base) lv _ (.inl x)) (fun ls hl => h2 H locs ls cells slots hl hR hS hc hs)⟩
  · cases hst
theorem ms_lstore {i : Nat} (X : mw_X p l R s m args meth c own cc nL rt D ac sa b L xs base) (hd : decode cc pc = .ok (.lstore i, 2)) (hi : i + 1 < nL) (hst : mv_step cl lk rt k (.lstore i) pc lv st σ = some (r0, σF)) (hk : ∀ pc' lv' st' σ', k pc' lv' st' σ' = some (r0, σF) → σ'.1 <+: σF.1 ∧ mw_G p l e R s m args below meth c nL D ac (mw_ad b sa base) base L xs n0 s0 Q pc' lv' st' σ') : σ.1 <+: σF.1 ∧ mw_G p l e R s m args below meth c nL D ac (mw_ad b sa base) base L xs n0 s0 Q pc lv st σ := by
  have hst : ((match (generalizing := false) st with
    | .inr (.inl x) :: r => k (pc + 2) (mv_put2 lv i (.inr (.inl x))) r σ
    | _ => none)) = some (r0, σF) := hst
  split at hst
  · rename_i x r hz
    obtain ⟨h1, h2⟩ := hk _ _ _ _ hst
    exact ⟨h1, fun H locs ls cells slots hl hR hS hc hs => lv_lstore X.1 X.2.1 hd hl hi (mw_put2 (mw_ad b sa base) lv _ (.inr (.inl x))) (fun ls hl => h2 H locs ls cells slots hl hR hS hc hs)⟩
  · cases hst
theorem ms_astore_n {i : Fin 4} (X : mw_X p l R s m args meth c own cc nL rt D ac sa b L xs base) (hd : decode cc pc = .ok (.astore_n i, 1)) (hi : i.val < nL) (hst : mv_step cl lk rt k (.astore_n i) pc lv st σ = some (r0, σF)) (hk : ∀ pc' lv' st' σ', k pc' lv' st' σ' = some (r0, σF) → σ'.1 <+: σF.1 ∧ mw_G p l e R s m args below meth c nL D ac (mw_ad b sa base) base L xs n0 s0 Q pc' lv' st' σ') : σ.1 <+: σF.1 ∧ mw_G p l e R s m args below meth c nL D ac (mw_ad b sa base) base L xs n0 s0 Q pc lv st σ := by
  have hst : ((match (generalizing := false) st with
    | .inr (.inr x) :: r => k (pc + 1) (mv_put1 lv i.val (.inr (.inr x))) r σ
    | _ => none)) = some (r0, σF) := hst
  split at hst
  · rename_i x r hz
    obtain ⟨h1, h2⟩ := hk _ _ _ _ hst
    refine ⟨h1, fun H locs ls cells slots hl hR hS hc hs => ?_⟩
    cases x with
    | none => exact lv_astore_nN X.1 X.2.1 hd rfl hl hi (mw_put1 (mw_ad b sa base) lv _ (.inr (.inr none))) (fun ls hl => h2 H locs ls cells slots hl hR hS hc hs)
    | some a => exact lv_astore_n X.1 X.2.1 hd rfl hl hi (mw_put1 (mw_ad b sa base) lv _ (.inr (.inr (some a)))) (fun ls hl => h2 H locs ls cells slots hl hR hS hc hs)
  · cases hst
theorem ms_astore {i : Nat} (X : mw_X p l R s m args meth c own cc nL rt D ac sa b L xs base) (hd : decode cc pc = .ok (.astore i, 2)) (hi : i < nL) (hst : mv_step cl lk rt k (.astore i) pc lv st σ = some (r0, σF)) (hk : ∀ pc' lv' st' σ', k pc' lv' st' σ' = some (r0, σF) → σ'.1 <+: σF.1 ∧ mw_G p l e R s m args below meth c nL D ac (mw_ad b sa base) base L xs n0 s0 Q pc' lv' st' σ') : σ.1 <+: σF.1 ∧ mw_G p l e R s m args below meth c nL D ac (mw_ad b sa base) base L xs n0 s0 Q pc lv st σ := by
  have hst : ((match (generalizing := false) st with
    | .inr (.inr x) :: r => k (pc + 2) (mv_put1 lv i (.inr (.inr x))) r σ
    | _ => none)) = some (r0, σF) := hst
  split at hst
  · rename_i x r hz
    obtain ⟨h1, h2⟩ := hk _ _ _ _ hst
    refine ⟨h1, fun H locs ls cells slots hl hR hS hc hs => ?_⟩
    cases x with
    | none => exact lv_astoreN X.1 X.2.1 hd hl hi (mw_put1 (mw_ad b sa base) lv _ (.inr (.inr none))) (fun ls hl => h2 H locs ls cells slots hl hR hS hc hs)
    | some a => exact lv_astore X.1 X.2.1 hd hl hi (mw_put1 (mw_ad b sa base) lv _ (.inr (.inr (some a)))) (fun ls hl => h2 H locs ls cells slots hl hR hS hc hs)
  · cases hst
theorem ms_iinc {i : Nat} {n : Int} (X : mw_X p l R s m args meth c own cc nL rt D ac sa b L xs base) (hd : decode cc pc = .ok (.iinc i n, 3)) (hi : i < nL) (hst : mv_step cl lk rt k (.iinc i n) pc lv st σ = some (r0, σF)) (hk : ∀ pc' lv' st' σ', k pc' lv' st' σ' = some (r0, σF) → σ'.1 <+: σF.1 ∧ mw_G p l e R s m args below meth c nL D ac (mw_ad b sa base) base L xs n0 s0 Q pc' lv' st' σ') : σ.1 <+: σF.1 ∧ mw_G p l e R s m args below meth c nL D ac (mw_ad b sa base) base L xs n0 s0 Q pc lv st σ := by
  have hst : ((match (generalizing := false) lv.lookup i with
    | some (.inl x) => k (pc + 3) (mv_put1 lv i (.inl (x + mv_c n))) st σ
    | _ => none)) = some (r0, σF) := hst
  split at hst
  · rename_i x hx
    obtain ⟨h1, h2⟩ := hk _ _ _ _ hst
    refine ⟨h1, fun H locs ls cells slots hl hR hS hc hs => ?_⟩
    obtain ⟨q, hq⟩ := mw_place (ad := mw_ad b sa base) hx
    exact lv_iinc X.1 X.2.1 hd hl (k := q) hq rfl hi (mw_put1 (mw_ad b sa base) lv i (.inl (x + mv_c n))) (fun ls hl => h2 H locs ls cells slots hl hR hS hc hs)
  · cases hst
theorem ms_iadd (X : mw_X p l R s m args meth c own cc nL rt D ac sa b L xs base) (hd : decode cc pc = .ok (.iadd, 1))  (hst : mv_step cl lk rt k (.iadd) pc lv st σ = some (r0, σF)) (hk : ∀ pc' lv' st' σ', k pc' lv' st' σ' = some (r0, σF) → σ'.1 <+: σF.1 ∧ mw_G p l e R s m args below meth c nL D ac (mw_ad b sa base) base L xs n0 s0 Q pc' lv' st' σ') : σ.1 <+: σF.1 ∧ mw_G p l e R s m args below meth c nL D ac (mw_ad b sa base) base L xs n0 s0 Q pc lv st σ := by
  have hst : ((match (generalizing := false) st with
    | .inl y :: .inl x :: r => k (pc + 1) lv (.inl (x + y) :: r) σ
    | _ => none)) = some (r0, σF) := hst
  split at hst
  · rename_i y x r hz
    obtain ⟨h1, h2⟩ := hk _ _ _ _ hst
    exact ⟨h1, fun H locs ls cells slots hl hR hS hc hs => lv_iadd X.1 X.2.1 hd (h2 H locs ls cells slots hl hR hS hc hs)⟩
  · cases hst
theorem ms_isub (X : mw_X p l R s m args meth c own cc nL rt D ac sa b L xs base) (hd : decode cc pc = .ok (.isub, 1))  (hst : mv_step cl lk rt k (.isub) pc lv st σ = some (r0, σF)) (hk : ∀ pc' lv' st' σ', k pc' lv' st' σ' = some (r0, σF) → σ'.1 <+: σF.1 ∧ mw_G p l e R s m args below meth c nL D ac (mw_ad b sa base) base L xs n0 s0 Q pc' lv' st' σ') : σ.1 <+: σF.1 ∧ mw_G p l e R s m args below meth c nL D ac (mw_ad b sa base) base L xs n0 s0 Q pc lv st σ := by
  have hst : ((match (generalizing := false) st with
    | .inl y :: .inl x :: r => k (pc + 1) lv (.inl (x - y) :: r) σ
    | _ => none)) = some (r0, σF) := hst
  split at hst
  · rename_i y x r hz
    obtain ⟨h1, h2⟩ := hk _ _ _ _ hst
    exact ⟨h1, fun H locs ls cells slots hl hR hS hc hs => lv_isub X.1 X.2.1 hd (h2 H locs ls cells slots hl hR hS hc hs)⟩
  · cases hst
theorem ms_imul (X : mw_X p l R s m args meth c own cc nL rt D ac sa b L xs base) (hd : decode cc pc = .ok (.imul, 1))  (hst : mv_step cl lk rt k (.imul) pc lv st σ = some (r0, σF)) (hk : ∀ pc' lv' st' σ', k pc' lv' st' σ' = some (r0, σF) → σ'.1 <+: σF.1 ∧ mw_G p l e R s m args below meth c nL D ac (mw_ad b sa base) base L xs n0 s0 Q pc' lv' st' σ') : σ.1 <+: σF.1 ∧ mw_G p l e R s m args below meth c nL D ac (mw_ad b sa base) base L xs n0 s0 Q pc lv st σ := by
  have hst : ((match (generalizing := false) st with
    | .inl y :: .inl x :: r => k (pc + 1) lv (.inl (x * y) :: r) σ
    | _ => none)) = some (r0, σF) := hst
  split at hst
  · rename_i y x r hz
    obtain ⟨h1, h2⟩ := hk _ _ _ _ hst
    exact ⟨h1, fun H locs ls cells slots hl hR hS hc hs => lv_imul X.1 X.2.1 hd (h2 H locs ls cells slots hl hR hS hc hs)⟩
  · cases hst
theorem ms_iand (X : mw_X p l R s m args meth c own cc nL rt D ac sa b L xs base) (hd : decode cc pc = .ok (.iand, 1))  (hst : mv_step cl lk rt k (.iand) pc lv st σ = some (r0, σF)) (hk : ∀ pc' lv' st' σ', k pc' lv' st' σ' = some (r0, σF) → σ'.1 <+: σF.1 ∧ mw_G p l e R s m args below meth c nL D ac (mw_ad b sa base) base L xs n0 s0 Q pc' lv' st' σ') : σ.1 <+: σF.1 ∧ mw_G p l e R s m args below meth c nL D ac (mw_ad b sa base) base L xs n0 s0 Q pc lv st σ := by
  have hst : ((match (generalizing := false) st with
    | .inl y :: .inl x :: r => k (pc + 1) lv (.inl (x &&& y) :: r) σ
    | _ => none)) = some (r0, σF) := hst
  split at hst
  · rename_i y x r hz
    obtain ⟨h1, h2⟩ := hk _ _ _ _ hst
    exact ⟨h1, fun H locs ls cells slots hl hR hS hc hs => lv_iand X.1 X.2.1 hd (h2 H locs ls cells slots hl hR hS hc hs)⟩
  · cases hst
theorem ms_ior (X : mw_X p l R s m args meth c own cc nL rt D ac sa b L xs base) (hd : decode cc pc = .ok (.ior, 1))  (hst : mv_step cl lk rt k (.ior) pc lv st σ = some (r0, σF)) (hk : ∀ pc' lv' st' σ', k pc' lv' st' σ' = some (r0, σF) → σ'.1 <+: σF.1 ∧ mw_G p l e R s m args below meth c nL D ac (mw_ad b sa base) base L xs n0 s0 Q pc' lv' st' σ') : σ.1 <+: σF.1 ∧ mw_G p l e R s m args below meth c nL D ac (mw_ad b sa base) base L xs n0 s0 Q pc lv st σ := by
  have hst : ((match (generalizing := false) st with
    | .inl y :: .inl x :: r => k (pc + 1) lv (.inl (x ||| y) :: r) σ
    | _ => none)) = some (r0, σF) := hst
  split at hst
  · rename_i y x r hz
    obtain ⟨h1, h2⟩ := hk _ _ _ _ hst
    exact ⟨h1, fun H locs ls cells slots hl hR hS hc hs => lv_ior X.1 X.2.1 hd (h2 H locs ls cells slots hl hR hS hc hs)⟩
  · cases hst
theorem ms_ishl (X : mw_X p l R s m args meth c own cc nL rt D ac sa b L xs base) (hd : decode cc pc = .ok (.ishl, 1))  (hst : mv_step cl lk rt k (.ishl) pc lv st σ = some (r0, σF)) (hk : ∀ pc' lv' st' σ', k pc' lv' st' σ' = some (r0, σF) → σ'.1 <+: σF.1 ∧ mw_G p l e R s m args below meth c nL D ac (mw_ad b sa base) base L xs n0 s0 Q pc' lv' st' σ') : σ.1 <+: σF.1 ∧ mw_G p l e R s m args below meth c nL D ac (mw_ad b sa base) base L xs n0 s0 Q pc lv st σ := by
  have hst : ((match (generalizing := false) st with
    | .inl y :: .inl x :: r => k (pc + 1) lv (.inl (x <<< (y &&& 31)) :: r) σ
    | _ => none)) = some (r0, σF) := hst
  split at hst
  · rename_i y x r hz
    obtain ⟨h1, h2⟩ := hk _ _ _ _ hst
    exact ⟨h1, fun H locs ls cells slots hl hR hS hc hs => lv_ishl X.1 X.2.1 hd (h2 H locs ls cells slots hl hR hS hc hs)⟩
  · cases hst
theorem ms_ishr (X : mw_X p l R s m args meth c own cc nL rt D ac sa b L xs base) (hd : decode cc pc = .ok (.ishr, 1))  (hst : mv_step cl lk rt k (.ishr) pc lv st σ = some (r0, σF)) (hk : ∀ pc' lv' st' σ', k pc' lv' st' σ' = some (r0, σF) → σ'.1 <+: σF.1 ∧ mw_G p l e R s m args below meth c nL D ac (mw_ad b sa base) base L xs n0 s0 Q pc' lv' st' σ') : σ.1 <+: σF.1 ∧ mw_G p l e R s m args below meth c nL D ac (mw_ad b sa base) base L xs n0 s0 Q pc lv st σ := by
  have hst : ((match (generalizing := false) st with
    | .inl y :: .inl x :: r => k (pc + 1) lv (.inl (x >>> (y &&& 31)) :: r) σ
    | _ => none)) = some (r0, σF) := hst
  split at hst
  · rename_i y x r hz
    obtain ⟨h1, h2⟩ := hk _ _ _ _ hst
    exact ⟨h1, fun H locs ls cells slots hl hR hS hc hs => lv_ishr X.1 X.2.1 hd (h2 H locs ls cells slots hl hR hS hc hs)⟩
  · cases hst
theorem ms_idiv (X : mw_X p l R s m args meth c own cc nL rt D ac sa b L xs base) (hd : decode cc pc = .ok (.idiv, 1))  (hst : mv_step cl lk rt k (.idiv) pc lv st σ = some (r0, σF)) (hk : ∀ pc' lv' st' σ', k pc' lv' st' σ' = some (r0, σF) → σ'.1 <+: σF.1 ∧ mw_G p l e R s m args below meth c nL D ac (mw_ad b sa base) base L xs n0 s0 Q pc' lv' st' σ') : σ.1 <+: σF.1 ∧ mw_G p l e R s m args below meth c nL D ac (mw_ad b sa base) base L xs n0 s0 Q pc lv st σ := by
  have hst : ((match (generalizing := false) st with
    | .inl y :: .inl x :: r => mo_dv y (k (pc + 1) lv (.inl (x / y) :: r) σ)
    | _ => none)) = some (r0, σF) := hst
  split at hst
  · rename_i y x r hz
    unfold mo_dv at hst
    split at hst
    · cases hst
    · rename_i hy
      obtain ⟨h1, h2⟩ := hk _ _ _ _ hst
      exact ⟨h1, fun H locs ls cells slots hl hR hS hc hs => lv_idiv X.1 X.2.1 hd hy (h2 H locs ls cells slots hl hR hS hc hs)⟩
  · cases hst
theorem ms_irem (X : mw_X p l R s m args meth c own cc nL rt D ac sa b L xs base) (hd : decode cc pc = .ok (.irem, 1))  (hst : mv_step cl lk rt k (.irem) pc lv st σ = some (r0, σF)) (hk : ∀ pc' lv' st' σ', k pc' lv' st' σ' = some (r0, σF) → σ'.1 <+: σF.1 ∧ mw_G p l e R s m args below meth c nL D ac (mw_ad b sa base) base L xs n0 s0 Q pc' lv' st' σ') : σ.1 <+: σF.1 ∧ mw_G p l e R s m args below meth c nL D ac (mw_ad b sa base) base L xs n0 s0 Q pc lv st σ := by
  have hst : ((match (generalizing := false) st with
    | .inl y :: .inl x :: r => mo_dv y (k (pc + 1) lv (.inl (x - x / y * y) :: r) σ)
    | _ => none)) = some (r0, σF) := hst
  split at hst
  · rename_i y x r hz
    unfold mo_dv at hst
    split at hst
    · cases hst
    · rename_i hy
      obtain ⟨h1, h2⟩ := hk _ _ _ _ hst
      exact ⟨h1, fun H locs ls cells slots hl hR hS hc hs => lv_irem X.1 X.2.1 hd hy (h2 H locs ls cells slots hl hR hS hc hs)⟩
  · cases hst
theorem ms_ineg (X : mw_X p l R s m args meth c own cc nL rt D ac sa b L xs base) (hd : decode cc pc = .ok (.ineg, 1))  (hst : mv_step cl lk rt k (.ineg) pc lv st σ = some (r0, σF)) (hk : ∀ pc' lv' st' σ', k pc' lv' st' σ' = some (r0, σF) → σ'.1 <+: σF.1 ∧ mw_G p l e R s m args below meth c nL D ac (mw_ad b sa base) base L xs n0 s0 Q pc' lv' st' σ') : σ.1 <+: σF.1 ∧ mw_G p l e R s m args below meth c nL D ac (mw_ad b sa base) base L xs n0 s0 Q pc lv st σ := by
  have hst : ((match (generalizing := false) st with
    | .inl x :: r => k (pc + 1) lv (.inl (-x) :: r) σ
    | _ => none)) = some (r0, σF) := hst
  split at hst
  · rename_i x r hz
    obtain ⟨h1, h2⟩ := hk _ _ _ _ hst
    exact ⟨h1, fun H locs ls cells slots hl hR hS hc hs => lv_ineg X.1 X.2.1 hd (h2 H locs ls cells slots hl hR hS hc hs)⟩
  · cases hst
theorem ms_i2l (X : mw_X p l R s m args meth c own cc nL rt D ac sa b L xs base) (hd : decode cc pc = .ok (.i2l, 1))  (hst : mv_step cl lk rt k (.i2l) pc lv st σ = some (r0, σF)) (hk : ∀ pc' lv' st' σ', k pc' lv' st' σ' = some (r0, σF) → σ'.1 <+: σF.1 ∧ mw_G p l e R s m args below meth c nL D ac (mw_ad b sa base) base L xs n0 s0 Q pc' lv' st' σ') : σ.1 <+: σF.1 ∧ mw_G p l e R s m args below meth c nL D ac (mw_ad b sa base) base L xs n0 s0 Q pc lv st σ := by
  have hst : ((match (generalizing := false) st with
    | .inl x :: r => k (pc + 1) lv (.inr (.inl x.toInt64) :: r) σ
    | _ => none)) = some (r0, σF) := hst
  split at hst
  · rename_i x r hz
    obtain ⟨h1, h2⟩ := hk _ _ _ _ hst
    exact ⟨h1, fun H locs ls cells slots hl hR hS hc hs => lv_i2l X.1 X.2.1 hd rfl (h2 H locs ls cells slots hl hR hS hc hs)⟩
  · cases hst
theorem ms_i2b (X : mw_X p l R s m args meth c own cc nL rt D ac sa b L xs base) (hd : decode cc pc = .ok (.i2b, 1))  (hst : mv_step cl lk rt k (.i2b) pc lv st σ = some (r0, σF)) (hk : ∀ pc' lv' st' σ', k pc' lv' st' σ' = some (r0, σF) → σ'.1 <+: σF.1 ∧ mw_G p l e R s m args below meth c nL D ac (mw_ad b sa base) base L xs n0 s0 Q pc' lv' st' σ') : σ.1 <+: σF.1 ∧ mw_G p l e R s m args below meth c nL D ac (mw_ad b sa base) base L xs n0 s0 Q pc lv st σ := by
  have hst : ((match (generalizing := false) st with
    | .inl x :: r => k (pc + 1) lv (.inl x.toInt8.toInt32 :: r) σ
    | _ => none)) = some (r0, σF) := hst
  split at hst
  · rename_i x r hz
    obtain ⟨h1, h2⟩ := hk _ _ _ _ hst
    exact ⟨h1, fun H locs ls cells slots hl hR hS hc hs => lv_i2b X.1 X.2.1 hd rfl (h2 H locs ls cells slots hl hR hS hc hs)⟩
  · cases hst
theorem ms_i2s (X : mw_X p l R s m args meth c own cc nL rt D ac sa b L xs base) (hd : decode cc pc = .ok (.i2s, 1))  (hst : mv_step cl lk rt k (.i2s) pc lv st σ = some (r0, σF)) (hk : ∀ pc' lv' st' σ', k pc' lv' st' σ' = some (r0, σF) → σ'.1 <+: σF.1 ∧ mw_G p l e R s m args below meth c nL D ac (mw_ad b sa base) base L xs n0 s0 Q pc' lv' st' σ') : σ.1 <+: σF.1 ∧ mw_G p l e R s m args below meth c nL D ac (mw_ad b sa base) base L xs n0 s0 Q pc lv st σ := by
  have hst : ((match (generalizing := false) st with
    | .inl x :: r => k (pc + 1) lv (.inl x.toInt16.toInt32 :: r) σ
    | _ => none)) = some (r0, σF) := hst
  split at hst
  · rename_i x r hz
    obtain ⟨h1, h2⟩ := hk _ _ _ _ hst
    exact ⟨h1, fun H locs ls cells slots hl hR hS hc hs => lv_i2s X.1 X.2.1 hd rfl (h2 H locs ls cells slots hl hR hS hc hs)⟩
  · cases hst
theorem ms_lcmp (X : mw_X p l R s m args meth c own cc nL rt D ac sa b L xs base) (hd : decode cc pc = .ok (.lcmp, 1))  (hst : mv_step cl lk rt k (.lcmp) pc lv st σ = some (r0, σF)) (hk : ∀ pc' lv' st' σ', k pc' lv' st' σ' = some (r0, σF) → σ'.1 <+: σF.1 ∧ mw_G p l e R s m args below meth c nL D ac (mw_ad b sa base) base L xs n0 s0 Q pc' lv' st' σ') : σ.1 <+: σF.1 ∧ mw_G p l e R s m args below meth c nL D ac (mw_ad b sa base) base L xs n0 s0 Q pc lv st σ := by
  have hst : ((match (generalizing := false) st with
    | .inr (.inl y) :: .inr (.inl x) :: r => k (pc + 1) lv (.inl (lg_cmp x y) :: r) σ
    | _ => none)) = some (r0, σF) := hst
  split at hst
  · rename_i y x r hz
    obtain ⟨h1, h2⟩ := hk _ _ _ _ hst
    exact ⟨h1, fun H locs ls cells slots hl hR hS hc hs => W.lcmp X.1 X.2.1 hd (h2 H locs ls cells slots hl hR hS hc hs)⟩
  · cases hst
theorem ms_dup (X : mw_X p l R s m args meth c own cc nL rt D ac sa b L xs base) (hd : decode cc pc = .ok (.dup, 1))  (hst : mv_step cl lk rt k (.dup) pc lv st σ = some (r0, σF)) (hk : ∀ pc' lv' st' σ', k pc' lv' st' σ' = some (r0, σF) → σ'.1 <+: σF.1 ∧ mw_G p l e R s m args below meth c nL D ac (mw_ad b sa base) base L xs n0 s0 Q pc' lv' st' σ') : σ.1 <+: σF.1 ∧ mw_G p l e R s m args below meth c nL D ac (mw_ad b sa base) base L xs n0 s0 Q pc lv st σ := by
  have hst : ((match (generalizing := false) st with
    | .inl x :: r => k (pc + 1) lv (.inl x :: .inl x :: r) σ
    | .inr (.inr x) :: r => k (pc + 1) lv (.inr (.inr x) :: .inr (.inr x) :: r) σ
    | _ => none)) = some (r0, σF) := hst
  split at hst
  · rename_i x r hz
    obtain ⟨h1, h2⟩ := hk _ _ _ _ hst
    exact ⟨h1, fun H locs ls cells slots hl hR hS hc hs => lv_dup X.1 X.2.1 hd rfl (h2 H locs ls cells slots hl hR hS hc hs)⟩
  · rename_i x r hz
    obtain ⟨h1, h2⟩ := hk _ _ _ _ hst
    exact ⟨h1, fun H locs ls cells slots hl hR hS hc hs => lv_dup X.1 X.2.1 hd (mw_c1 _ x) (h2 H locs ls cells slots hl hR hS hc hs)⟩
  · cases hst
theorem ms_dup2 (X : mw_X p l R s m args meth c own cc nL rt D ac sa b L xs base) (hd : decode cc pc = .ok (.dup2, 1))  (hst : mv_step cl lk rt k (.dup2) pc lv st σ = some (r0, σF)) (hk : ∀ pc' lv' st' σ', k pc' lv' st' σ' = some (r0, σF) → σ'.1 <+: σF.1 ∧ mw_G p l e R s m args below meth c nL D ac (mw_ad b sa base) base L xs n0 s0 Q pc' lv' st' σ') : σ.1 <+: σF.1 ∧ mw_G p l e R s m args below meth c nL D ac (mw_ad b sa base) base L xs n0 s0 Q pc lv st σ := by
  have hst : ((match (generalizing := false) st with
    | .inl x :: .inr (.inr y) :: r => k (pc + 1) lv (.inl x :: .inr (.inr y) :: .inl x :: .inr (.inr y) :: r) σ
    | _ => none)) = some (r0, σF) := hst
  split at hst
  · rename_i x y r hz
    obtain ⟨h1, h2⟩ := hk _ _ _ _ hst
    exact ⟨h1, fun H locs ls cells slots hl hR hS hc hs => lv_dup2_11 X.1 X.2.1 hd rfl (mw_c1 _ y) (h2 H locs ls cells slots hl hR hS hc hs)⟩
  · cases hst
theorem ms_pop (X : mw_X p l R s m args meth c own cc nL rt D ac sa b L xs base) (hd : decode cc pc = .ok (.pop, 1))  (hst : mv_step cl lk rt k (.pop) pc lv st σ = some (r0, σF)) (hk : ∀ pc' lv' st' σ', k pc' lv' st' σ' = some (r0, σF) → σ'.1 <+: σF.1 ∧ mw_G p l e R s m args below meth c nL D ac (mw_ad b sa base) base L xs n0 s0 Q pc' lv' st' σ') : σ.1 <+: σF.1 ∧ mw_G p l e R s m args below meth c nL D ac (mw_ad b sa base) base L xs n0 s0 Q pc lv st σ := by
  have hst : ((match (generalizing := false) st with
    | .inl _ :: r => k (pc + 1) lv r σ
    | .inr (.inr _) :: r => k (pc + 1) lv r σ
    | _ => none)) = some (r0, σF) := hst
  split at hst
  · rename_i x r hz
    obtain ⟨h1, h2⟩ := hk _ _ _ _ hst
    exact ⟨h1, fun H locs ls cells slots hl hR hS hc hs => lv_pop X.1 X.2.1 hd rfl (h2 H locs ls cells slots hl hR hS hc hs)⟩
  · rename_i x r hz
    obtain ⟨h1, h2⟩ := hk _ _ _ _ hst
    exact ⟨h1, fun H locs ls cells slots hl hR hS hc hs => lv_pop X.1 X.2.1 hd (mw_c1 _ x) (h2 H locs ls cells slots hl hR hS hc hs)⟩
  · cases hst
theorem ms_if_eq {off : Int} (X : mw_X p l R s m args meth c own cc nL rt D ac sa b L xs base) (hd : decode cc pc = .ok (.ifCond .eq off, 3)) (ht : 0 ≤ (pc : Int) + off) (hst : mv_step cl lk rt k (.ifCond .eq off) pc lv st σ = some (r0, σF)) (hk : ∀ pc' lv' st' σ', k pc' lv' st' σ' = some (r0, σF) → σ'.1 <+: σF.1 ∧ mw_G p l e R s m args below meth c nL D ac (mw_ad b sa base) base L xs n0 s0 Q pc' lv' st' σ') : σ.1 <+: σF.1 ∧ mw_G p l e R s m args below meth c nL D ac (mw_ad b sa base) base L xs n0 s0 Q pc lv st σ := by
  have hst : ((match (generalizing := false) st with
    | .inl x :: r => if x = 0 then k (mv_jmp pc off) lv r σ else k (pc + 3) lv r σ
    | _ => none)) = some (r0, σF) := hst
  split at hst
  · rename_i x r hz
    split at hst
    · rename_i hq
      obtain ⟨h1, h2⟩ := hk _ _ _ _ hst
      exact ⟨h1, fun H locs ls cells slots hl hR hS hc hs => lv_if_eq X.1 X.2.1 hd (mw_jmp ht) (fun _ => h2 H locs ls cells slots hl hR hS hc hs) (fun z => absurd hq z)⟩
    · rename_i hq
      obtain ⟨h1, h2⟩ := hk _ _ _ _ hst
      exact ⟨h1, fun H locs ls cells slots hl hR hS hc hs => lv_if_eq X.1 X.2.1 hd (mw_jmp ht) (fun z => absurd z hq) (fun _ => h2 H locs ls cells slots hl hR hS hc hs)⟩
  · cases hst
theorem ms_if_ne {off : Int} (X : mw_X p l R s m args meth c own cc nL rt D ac sa b L xs base) (hd : decode cc pc = .ok (.ifCond .ne off, 3)) (ht : 0 ≤ (pc : Int) + off) (hst : mv_step cl lk rt k (.ifCond .ne off) pc lv st σ = some (r0, σF)) (hk : ∀ pc' lv' st' σ', k pc' lv' st' σ' = some (r0, σF) → σ'.1 <+: σF.1 ∧ mw_G p l e R s m args below meth c nL D ac (mw_ad b sa base) base L xs n0 s0 Q pc' lv' st' σ') : σ.1 <+: σF.1 ∧ mw_G p l e R s m args below meth c nL D ac (mw_ad b sa base) base L xs n0 s0 Q pc lv st σ := by
  have hst : ((match (generalizing := false) st with
    | .inl x :: r => if x = 0 then k (pc + 3) lv r σ else k (mv_jmp pc off) lv r σ
    | _ => none)) = some (r0, σF) := hst
  split at hst
  · rename_i x r hz
    split at hst
    · rename_i hq
      obtain ⟨h1, h2⟩ := hk _ _ _ _ hst
      exact ⟨h1, fun H locs ls cells slots hl hR hS hc hs => lv_if_ne X.1 X.2.1 hd (mw_jmp ht) (fun z => absurd hq z) (fun _ => h2 H locs ls cells slots hl hR hS hc hs)⟩
    · rename_i hq
      obtain ⟨h1, h2⟩ := hk _ _ _ _ hst
      exact ⟨h1, fun H locs ls cells slots hl hR hS hc hs => lv_if_ne X.1 X.2.1 hd (mw_jmp ht) (fun _ => h2 H locs ls cells slots hl hR hS hc hs) (fun z => absurd z hq)⟩
  · cases hst
theorem ms_if_lt {off : Int} (X : mw_X p l R s m args meth c own cc nL rt D ac sa b L xs base) (hd : decode cc pc = .ok (.ifCond .lt off, 3)) (ht : 0 ≤ (pc : Int) + off) (hst : mv_step cl lk rt k (.ifCond .lt off) pc lv st σ = some (r0, σF)) (hk : ∀ pc' lv' st' σ', k pc' lv' st' σ' = some (r0, σF) → σ'.1 <+: σF.1 ∧ mw_G p l e R s m args below meth c nL D ac (mw_ad b sa base) base L xs n0 s0 Q pc' lv' st' σ') : σ.1 <+: σF.1 ∧ mw_G p l e R s m args below meth c nL D ac (mw_ad b sa base) base L xs n0 s0 Q pc lv st σ := by
  have hst : ((match (generalizing := false) st with
    | .inl x :: r => if x < 0 then k (mv_jmp pc off) lv r σ else k (pc + 3) lv r σ
    | _ => none)) = some (r0, σF) := hst
  split at hst
  · rename_i x r hz
    split at hst
    · rename_i hq
      obtain ⟨h1, h2⟩ := hk _ _ _ _ hst
      exact ⟨h1, fun H locs ls cells slots hl hR hS hc hs => lv_if_lt X.1 X.2.1 hd (mw_jmp ht) (fun _ => h2 H locs ls cells slots hl hR hS hc hs) (fun z => absurd hq z)⟩
    · rename_i hq
      obtain ⟨h1, h2⟩ := hk _ _ _ _ hst
      exact ⟨h1, fun H locs ls cells slots hl hR hS hc hs => lv_if_lt X.1 X.2.1 hd (mw_jmp ht) (fun z => absurd z hq) (fun _ => h2 H locs ls cells slots hl hR hS hc hs)⟩
  · cases hst
theorem ms_if_ge {off : Int} (X : mw_X p l R s m args meth c own cc nL rt D ac sa b L xs base) (hd : decode cc pc = .ok (.ifCond .ge off, 3)) (ht : 0 ≤ (pc : Int) + off) (hst : mv_step cl lk rt k (.ifCond .ge off) pc lv st σ = some (r0, σF)) (hk : ∀ pc' lv' st' σ', k pc' lv' st' σ' = some (r0, σF) → σ'.1 <+: σF.1 ∧ mw_G p l e R s m args below meth c nL D ac (mw_ad b sa base) base L xs n0 s0 Q pc' lv' st' σ') : σ.1 <+: σF.1 ∧ mw_G p l e R s m args below meth c nL D ac (mw_ad b sa base) base L xs n0 s0 Q pc lv st σ := by
  have hst : ((match (generalizing := false) st with
    | .inl x :: r => if 0 ≤ x then k (mv_jmp pc off) lv r σ else k (pc + 3) lv r σ
    | _ => none)) = some (r0, σF) := hst
  split at hst
  · rename_i x r hz
    split at hst
    · rename_i hq
      obtain ⟨h1, h2⟩ := hk _ _ _ _ hst
      exact ⟨h1, fun H locs ls cells slots hl hR hS hc hs => lv_if_ge X.1 X.2.1 hd (mw_jmp ht) (fun _ => h2 H locs ls cells slots hl hR hS hc hs) (fun z => absurd hq z)⟩
    · rename_i hq
      obtain ⟨h1, h2⟩ := hk _ _ _ _ hst
      exact ⟨h1, fun H locs ls cells slots hl hR hS hc hs => lv_if_ge X.1 X.2.1 hd (mw_jmp ht) (fun z => absurd z hq) (fun _ => h2 H locs ls cells slots hl hR hS hc hs)⟩
  · cases hst
theorem ms_if_gt {off : Int} (X : mw_X p l R s m args meth c own cc nL rt D ac sa b L xs base) (hd : decode cc pc = .ok (.ifCond .gt off, 3)) (ht : 0 ≤ (pc : Int) + off) (hst : mv_step cl lk rt k (.ifCond .gt off) pc lv st σ = some (r0, σF)) (hk : ∀ pc' lv' st' σ', k pc' lv' st' σ' = some (r0, σF) → σ'.1 <+: σF.1 ∧ mw_G p l e R s m args below meth c nL D ac (mw_ad b sa base) base L xs n0 s0 Q pc' lv' st' σ') : σ.1 <+: σF.1 ∧ mw_G p l e R s m args below meth c nL D ac (mw_ad b sa base) base L xs n0 s0 Q pc lv st σ := by
  have hst : ((match (generalizing := false) st with
    | .inl x :: r => if 0 < x then k (mv_jmp pc off) lv r σ else k (pc + 3) lv r σ
    | _ => none)) = some (r0, σF) := hst
  split at hst
  · rename_i x r hz
    split at hst
    · rename_i hq
      obtain ⟨h1, h2⟩ := hk _ _ _ _ hst
      exact ⟨h1, fun H locs ls cells slots hl hR hS hc hs => lv_if_gt X.1 X.2.1 hd (mw_jmp ht) (fun _ => h2 H locs ls cells slots hl hR hS hc hs) (fun z => absurd hq z)⟩
    · rename_i hq
      obtain ⟨h1, h2⟩ := hk _ _ _ _ hst
      exact ⟨h1, fun H locs ls cells slots hl hR hS hc hs => lv_if_gt X.1 X.2.1 hd (mw_jmp ht) (fun z => absurd z hq) (fun _ => h2 H locs ls cells slots hl hR hS hc hs)⟩
  · cases hst
theorem ms_if_le {off : Int} (X : mw_X p l R s m args meth c own cc nL rt D ac sa b L xs base) (hd : decode cc pc = .ok (.ifCond .le off, 3)) (ht : 0 ≤ (pc : Int) + off) (hst : mv_step cl lk rt k (.ifCond .le off) pc lv st σ = some (r0, σF)) (hk : ∀ pc' lv' st' σ', k pc' lv' st' σ' = some (r0, σF) → σ'.1 <+: σF.1 ∧ mw_G p l e R s m args below meth c nL D ac (mw_ad b sa base) base L xs n0 s0 Q pc' lv' st' σ') : σ.1 <+: σF.1 ∧ mw_G p l e R s m args below meth c nL D ac (mw_ad b sa base) base L xs n0 s0 Q pc lv st σ := by
  have hst : ((match (generalizing := false) st with
    | .inl x :: r => if x ≤ 0 then k (mv_jmp pc off) lv r σ else k (pc + 3) lv r σ
    | _ => none)) = some (r0, σF) := hst
  split at hst
  · rename_i x r hz
    split at hst
    · rename_i hq
      obtain ⟨h1, h2⟩ := hk _ _ _ _ hst
      exact ⟨h1, fun H locs ls cells slots hl hR hS hc hs => lv_if_le X.1 X.2.1 hd (mw_jmp ht) (fun _ => h2 H locs ls cells slots hl hR hS hc hs) (fun z => absurd hq z)⟩
    · rename_i hq
      obtain ⟨h1, h2⟩ := hk _ _ _ _ hst
      exact ⟨h1, fun H locs ls cells slots hl hR hS hc hs => lv_if_le X.1 X.2.1 hd (mw_jmp ht) (fun z => absurd z hq) (fun _ => h2 H locs ls cells slots hl hR hS hc hs)⟩
  · cases hst
theorem ms_icmp_eq {off : Int} (X : mw_X p l R s m args meth c own cc nL rt D ac sa b L xs base) (hd : decode cc pc = .ok (.if_icmp .eq off, 3)) (ht : 0 ≤ (pc : Int) + off) (hst : mv_step cl lk rt k (.if_icmp .eq off) pc lv st σ = some (r0, σF)) (hk : ∀ pc' lv' st' σ', k pc' lv' st' σ' = some (r0, σF) → σ'.1 <+: σF.1 ∧ mw_G p l e R s m args below meth c nL D ac (mw_ad b sa base) base L xs n0 s0 Q pc' lv' st' σ') : σ.1 <+: σF.1 ∧ mw_G p l e R s m args below meth c nL D ac (mw_ad b sa base) base L xs n0 s0 Q pc lv st σ := by
  have hst : ((match (generalizing := false) st with
    | .inl y :: .inl x :: r => if x = y then k (mv_jmp pc off) lv r σ else k (pc + 3) lv r σ
    | _ => none)) = some (r0, σF) := hst
  split at hst
  · rename_i y x r hz
    split at hst
    · rename_i hq
      obtain ⟨h1, h2⟩ := hk _ _ _ _ hst
      exact ⟨h1, fun H locs ls cells slots hl hR hS hc hs => lv_icmp_eq X.1 X.2.1 hd (mw_jmp ht) (fun _ => h2 H locs ls cells slots hl hR hS hc hs) (fun z => absurd hq z)⟩
    · rename_i hq
      obtain ⟨h1, h2⟩ := hk _ _ _ _ hst
      exact ⟨h1, fun H locs ls cells slots hl hR hS hc hs => lv_icmp_eq X.1 X.2.1 hd (mw_jmp ht) (fun z => absurd z hq) (fun _ => h2 H locs ls cells slots hl hR hS hc hs)⟩
  · cases hst
theorem ms_icmp_ne {off : Int} (X : mw_X p l R s m args meth c own cc nL rt D ac sa b L xs base) (hd : decode cc pc = .ok (.if_icmp .ne off, 3)) (ht : 0 ≤ (pc : Int) + off) (hst : mv_step cl lk rt k (.if_icmp .ne off) pc lv st σ = some (r0, σF)) (hk : ∀ pc' lv' st' σ', k pc' lv' st' σ' = some (r0, σF) → σ'.1 <+: σF.1 ∧ mw_G p l e R s m args below meth c nL D ac (mw_ad b sa base) base L xs n0 s0 Q pc' lv' st' σ') : σ.1 <+: σF.1 ∧ mw_G p l e R s m args below meth c nL D ac (mw_ad b sa base) base L xs n0 s0 Q pc lv st σ := by
  have hst : ((match (generalizing := false) st with
    | .inl y :: .inl x :: r => if x = y then k (pc + 3) lv r σ else k (mv_jmp pc off) lv r σ
    | _ => none)) = some (r0, σF) := hst
  split at hst
  · rename_i y x r hz
    split at hst
    · rename_i hq
      obtain ⟨h1, h2⟩ := hk _ _ _ _ hst
      exact ⟨h1, fun H locs ls cells slots hl hR hS hc hs => lv_icmp_ne X.1 X.2.1 hd (mw_jmp ht) (fun z => absurd hq z) (fun _ => h2 H locs ls cells slots hl hR hS hc hs)⟩
    · rename_i hq
      obtain ⟨h1, h2⟩ := hk _ _ _ _ hst
      exact ⟨h1, fun H locs ls cells slots hl hR hS hc hs => lv_icmp_ne X.1 X.2.1 hd (mw_jmp ht) (fun _ => h2 H locs ls cells slots hl hR hS hc hs) (fun z => absurd z hq)⟩
  · cases hst
theorem ms_icmp_lt {off : Int} (X : mw_X p l R s m args meth c own cc nL rt D ac sa b L xs base) (hd : decode cc pc = .ok (.if_icmp .lt off, 3)) (ht : 0 ≤ (pc : Int) + off) (hst : mv_step cl lk rt k (.if_icmp .lt off) pc lv st σ = some (r0, σF)) (hk : ∀ pc' lv' st' σ', k pc' lv' st' σ' = some (r0, σF) → σ'.1 <+: σF.1 ∧ mw_G p l e R s m args below meth c nL D ac (mw_ad b sa base) base L xs n0 s0 Q pc' lv' st' σ') : σ.1 <+: σF.1 ∧ mw_G p l e R s m args below meth c nL D ac (mw_ad b sa base) base L xs n0 s0 Q pc lv st σ := by
  have hst : ((match (generalizing := false) st with
    | .inl y :: .inl x :: r => if x < y then k (mv_jmp pc off) lv r σ else k (pc + 3) lv r σ
    | _ => none)) = some (r0, σF) := hst
  split at hst
  · rename_i y x r hz
    split at hst
    · rename_i hq
      obtain ⟨h1, h2⟩ := hk _ _ _ _ hst
      exact ⟨h1, fun H locs ls cells slots hl hR hS hc hs => lv_icmp_lt X.1 X.2.1 hd (mw_jmp ht) (fun _ => h2 H locs ls cells slots hl hR hS hc hs) (fun z => absurd hq z)⟩
    · rename_i hq
      obtain ⟨h1, h2⟩ := hk _ _ _ _ hst
      exact ⟨h1, fun H locs ls cells slots hl hR hS hc hs => lv_icmp_lt X.1 X.2.1 hd (mw_jmp ht) (fun z => absurd z hq) (fun _ => h2 H locs ls cells slots hl hR hS hc hs)⟩
  · cases hst
theorem ms_icmp_ge {off : Int} (X : mw_X p l R s m args meth c own cc nL rt D ac sa b L xs base) (hd : decode cc pc = .ok (.if_icmp .ge off, 3)) (ht : 0 ≤ (pc : Int) + off) (hst : mv_step cl lk rt k (.if_icmp .ge off) pc lv st σ = some (r0, σF)) (hk : ∀ pc' lv' st' σ', k pc' lv' st' σ' = some (r0, σF) → σ'.1 <+: σF.1 ∧ mw_G p l e R s m args below meth c nL D ac (mw_ad b sa base) base L xs n0 s0 Q pc' lv' st' σ') : σ.1 <+: σF.1 ∧ mw_G p l e R s m args below meth c nL D ac (mw_ad b sa base) base L xs n0 s0 Q pc lv st σ := by
  have hst : ((match (generalizing := false) st with
    | .inl y :: .inl x :: r => if y ≤ x then k (mv_jmp pc off) lv r σ else k (pc + 3) lv r σ
    | _ => none)) = some (r0, σF) := hst
  split at hst
  · rename_i y x r hz
    split at hst
    · rename_i hq
      obtain ⟨h1, h2⟩ := hk _ _ _ _ hst
      exact ⟨h1, fun H locs ls cells slots hl hR hS hc hs => lv_icmp_ge X.1 X.2.1 hd (mw_jmp ht) (fun _ => h2 H locs ls cells slots hl hR hS hc hs) (fun z => absurd hq z)⟩
    · rename_i hq
      obtain ⟨h1, h2⟩ := hk _ _ _ _ hst
      exact ⟨h1, fun H locs ls cells slots hl hR hS hc hs => lv_icmp_ge X.1 X.2.1 hd (mw_jmp ht) (fun z => absurd z hq) (fun _ => h2 H locs ls cells slots hl hR hS hc hs)⟩
  · cases hst
theorem ms_icmp_gt {off : Int} (X : mw_X p l R s m args meth c own cc nL rt D ac sa b L xs base) (hd : decode cc pc = .ok (.if_icmp .gt off, 3)) (ht : 0 ≤ (pc : Int) + off) (hst : mv_step cl lk rt k (.if_icmp .gt off) pc lv st σ = some (r0, σF)) (hk : ∀ pc' lv' st' σ', k pc' lv' st' σ' = some (r0, σF) → σ'.1 <+: σF.1 ∧ mw_G p l e R s m args below meth c nL D ac (mw_ad b sa base) base L xs n0 s0 Q pc' lv' st' σ') : σ.1 <+: σF.1 ∧ mw_G p l e R s m args below meth c nL D ac (mw_ad b sa base) base L xs n0 s0 Q pc lv st σ := by
  have hst : ((match (generalizing := false) st with
    | .inl y :: .inl x :: r => if y < x then k (mv_jmp pc off) lv r σ else k (pc + 3) lv r σ
    | _ => none)) = some (r0, σF) := hst
  split at hst
  · rename_i y x r hz
    split at hst
    · rename_i hq
      obtain ⟨h1, h2⟩ := hk _ _ _ _ hst
      exact ⟨h1, fun H locs ls cells slots hl hR hS hc hs => lv_icmp_gt X.1 X.2.1 hd (mw_jmp ht) (fun _ => h2 H locs ls cells slots hl hR hS hc hs) (fun z => absurd hq z)⟩
    · rename_i hq
      obtain ⟨h1, h2⟩ := hk _ _ _ _ hst
      exact ⟨h1, fun H locs ls cells slots hl hR hS hc hs => lv_icmp_gt X.1 X.2.1 hd (mw_jmp ht) (fun z => absurd z hq) (fun _ => h2 H locs ls cells slots hl hR hS hc hs)⟩
  · cases hst
theorem ms_icmp_le {off : Int} (X : mw_X p l R s m args meth c own cc nL rt D ac sa b L xs base) (hd : decode cc pc = .ok (.if_icmp .le off, 3)) (ht : 0 ≤ (pc : Int) + off) (hst : mv_step cl lk rt k (.if_icmp .le off) pc lv st σ = some (r0, σF)) (hk : ∀ pc' lv' st' σ', k pc' lv' st' σ' = some (r0, σF) → σ'.1 <+: σF.1 ∧ mw_G p l e R s m args below meth c nL D ac (mw_ad b sa base) base L xs n0 s0 Q pc' lv' st' σ') : σ.1 <+: σF.1 ∧ mw_G p l e R s m args below meth c nL D ac (mw_ad b sa base) base L xs n0 s0 Q pc lv st σ := by
  have hst : ((match (generalizing := false) st with
    | .inl y :: .inl x :: r => if x ≤ y then k (mv_jmp pc off) lv r σ else k (pc + 3) lv r σ
    | _ => none)) = some (r0, σF) := hst
  split at hst
  · rename_i y x r hz
    split at hst
    · rename_i hq
      obtain ⟨h1, h2⟩ := hk _ _ _ _ hst
      exact ⟨h1, fun H locs ls cells slots hl hR hS hc hs => lv_icmp_le X.1 X.2.1 hd (mw_jmp ht) (fun _ => h2 H locs ls cells slots hl hR hS hc hs) (fun z => absurd hq z)⟩
    · rename_i hq
      obtain ⟨h1, h2⟩ := hk _ _ _ _ hst
      exact ⟨h1, fun H locs ls cells slots hl hR hS hc hs => lv_icmp_le X.1 X.2.1 hd (mw_jmp ht) (fun z => absurd z hq) (fun _ => h2 H locs ls cells slots hl hR hS hc hs)⟩
  · cases hst
theorem ms_ifnull {off : Int} (X : mw_X p l R s m args meth c own cc nL rt D ac sa b L xs base) (hd : decode cc pc = .ok (.ifnull off, 3)) (ht : 0 ≤ (pc : Int) + off) (hst : mv_step cl lk rt k (.ifnull off) pc lv st σ = some (r0, σF)) (hk : ∀ pc' lv' st' σ', k pc' lv' st' σ' = some (r0, σF) → σ'.1 <+: σF.1 ∧ mw_G p l e R s m args below meth c nL D ac (mw_ad b sa base) base L xs n0 s0 Q pc' lv' st' σ') : σ.1 <+: σF.1 ∧ mw_G p l e R s m args below meth c nL D ac (mw_ad b sa base) base L xs n0 s0 Q pc lv st σ := by
  have hst : ((match (generalizing := false) st with
    | .inr (.inr o) :: r => mo_nl o (k (mv_jmp pc off) lv r σ) (k (pc + 3) lv r σ)
    | _ => none)) = some (r0, σF) := hst
  split at hst
  · rename_i o r hz
    cases o with
    | none =>
      obtain ⟨h1, h2⟩ := hk _ _ _ _ hst
      exact ⟨h1, fun H locs ls cells slots hl hR hS hc hs => lv_ifnullN X.1 X.2.1 hd (mw_jmp ht) (h2 H locs ls cells slots hl hR hS hc hs)⟩
    | some a =>
      obtain ⟨h1, h2⟩ := hk _ _ _ _ hst
      exact ⟨h1, fun H locs ls cells slots hl hR hS hc hs => lv_ifnull X.1 X.2.1 hd (h2 H locs ls cells slots hl hR hS hc hs)⟩
  · cases hst
theorem ms_ifnonnull {off : Int} (X : mw_X p l R s m args meth c own cc nL rt D ac sa b L xs base) (hd : decode cc pc = .ok (.ifnonnull off, 3)) (ht : 0 ≤ (pc : Int) + off) (hst : mv_step cl lk rt k (.ifnonnull off) pc lv st σ = some (r0, σF)) (hk : ∀ pc' lv' st' σ', k pc' lv' st' σ' = some (r0, σF) → σ'.1 <+: σF.1 ∧ mw_G p l e R s m args below meth c nL D ac (mw_ad b sa base) base L xs n0 s0 Q pc' lv' st' σ') : σ.1 <+: σF.1 ∧ mw_G p l e R s m args below meth c nL D ac (mw_ad b sa base) base L xs n0 s0 Q pc lv st σ := by
  have hst : ((match (generalizing := false) st with
    | .inr (.inr o) :: r => mo_nl o (k (pc + 3) lv r σ) (k (mv_jmp pc off) lv r σ)
    | _ => none)) = some (r0, σF) := hst
  split at hst
  · rename_i o r hz
    cases o with
    | none =>
      obtain ⟨h1, h2⟩ := hk _ _ _ _ hst
      exact ⟨h1, fun H locs ls cells slots hl hR hS hc hs => lv_ifnonnullN X.1 X.2.1 hd (h2 H locs ls cells slots hl hR hS hc hs)⟩
    | some a =>
      obtain ⟨h1, h2⟩ := hk _ _ _ _ hst
      exact ⟨h1, fun H locs ls cells slots hl hR hS hc hs => lv_ifnonnull X.1 X.2.1 hd (mw_jmp ht) (h2 H locs ls cells slots hl hR hS hc hs)⟩
  · cases hst
end MS
