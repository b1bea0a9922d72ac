/-! SOUNDNESS of the small machine, 14: walks, methods -/
theorem mw_lookup {α : Type} : ∀ {l : List (Nat × α)} {i : Nat} {v : α}, l.lookup i = some v → (i, v) ∈ l
  | [], _, _, h => by cases h
  | (j, w) :: r, i, v, h => by
    rw [List.lookup_cons] at h
    by_cases e : i = j
    · subst e
      simp at h
      subst h
      exact List.mem_cons_self
    · have e2 : (i == j) = false := by simpa using e
      rw [e2] at h
      exact List.mem_cons_of_mem _ (mw_lookup h)
theorem mw_lkok {own : String} {l : List (Nat × mv_K)} (h : ∀ q ∈ l, mw_okL own q.1 q.2 ∧ mw_okX own q.1 q.2) (i : Nat) : mw_okL own i (mv_lk l i) ∧ mw_okX own i (mv_lk l i) := by
  unfold mv_lk
  cases e : l.lookup i with
  | none => exact ⟨trivial, trivial⟩
  | some q => exact h (i, q) (mw_lookup e)
/-- a method's code stands in its bytes, each instruction as asked -/
def mw_okC (ths : List Nat) (ct : Option Nat) (own nm : String) (cc : ByteArray) (M : mv_M) : Prop := ∀ q ∈ M.2.2.1, decode cc q.1 = .ok (q.2.1, q.2.2) ∧ mw_okI ths ct own nm M.1 (mv_lk M.2.2.2.1) q.1 q.2.1 q.2.2 = true
section MRUN
variable {p : Program} {l : Launch} {e : Env} {R : Room} {s : State} {m : MethodId} {args : Array Value} {below : List Frame} {meth : Method} {c : Code} {own : String} {cc : ByteArray} {M : mv_M} {rt : Nat} {D : va_G} {ac sa : Nat → Nat} {b L : Nat} {xs : Nat → Int32} {base n0 s0 : Nat} {Q : State → Prop}
variable {cl : Nat → List mv_V → mv_S → mv_O} {K : Nat → mv_L → List mv_V → mv_S → mv_O} {σF : mv_S} {r0 : Option mv_V} {d : Nat} {ths : List Nat} {ct : Option Nat} {nm : String}
theorem mw_ev (X : mw_X p l R s m args meth c own cc M.1 M.2.1 D ac sa b L xs base) (hC : mw_CC l D ac sa b L xs base d cl) (hRd : d + 9 ≤ R.frames ∧ 64 * d + 564 ≤ R.locals) (hB : σF.1.length ≤ R.cells + n0 ∧ mw_sz σF.1 ≤ R.slots + s0) (hLK : ∀ i, mw_okL own i (mv_lk M.2.2.2.1 i) ∧ mw_okX own i (mv_lk M.2.2.2.1 i))
    (hRt : mw_Ret p l e R s m args below meth c cc M.1 M.2.1 D ac (mw_ad b sa base) base L xs n0 s0 Q r0 σF) (hT : mw_Thr p l e R s m args below meth c cc M.1 D ac (mw_ad b sa base) base L xs n0 s0 Q (mv_lk M.2.2.2.1) r0 σF ths) (hCat : mw_Cat p l e R s m args below meth c cc M.1 (mw_ad b sa base) Q (mv_lk M.2.2.2.1) ct) (hnm : meth.name = nm) (hM : mw_okC ths ct own nm cc M)
    (hK : ∀ pc lv st σ, K pc lv st σ = some (r0, σF) → σ.1 <+: σF.1 ∧ mw_G p l e R s m args below meth c M.1 D ac (mw_ad b sa base) base L xs n0 s0 Q pc lv st σ) :
    ∀ (n pc : Nat) (lv : mv_L) (st : List mv_V) (σ : mv_S), mv_ev cl M K n pc lv st σ = some (r0, σF) → σ.1 <+: σF.1 ∧ mw_G p l e R s m args below meth c M.1 D ac (mw_ad b sa base) base L xs n0 s0 Q pc lv st σ
  | 0, _, _, _, _, h => by cases h
  | n + 1, pc, lv, st, σ, h => by
    unfold mv_ev at h
    cases hl : M.2.2.1.lookup pc with
    | none => rw [hl] at h; cases h
    | some q =>
      obtain ⟨ins, len⟩ := q
      rw [hl] at h
      obtain ⟨h1, h2⟩ := hM _ (mw_lookup hl)
      refine ms_step X hC hRd hB hLK hRt hT hCat hnm h1 h2 h (fun pc' lv' st' σ' h' => ?_)
      split at h'
      · obtain ⟨g1, g2⟩ := hK _ _ _ _ h'
        exact ⟨g1, fun H locs ls cells slots hls => g2 H locs ls cells slots (mw_pick hls)⟩
      · exact mw_ev X hC hRd hB hLK hRt hT hCat hnm hM hK n _ _ _ _ h'
theorem mw_run (X : mw_X p l R s m args meth c own cc M.1 M.2.1 D ac sa b L xs base) (hC : mw_CC l D ac sa b L xs base d cl) (hRd : d + 9 ≤ R.frames ∧ 64 * d + 564 ≤ R.locals) (hB : σF.1.length ≤ R.cells + n0 ∧ mw_sz σF.1 ≤ R.slots + s0) (hLK : ∀ i, mw_okL own i (mv_lk M.2.2.2.1 i) ∧ mw_okX own i (mv_lk M.2.2.2.1 i))
    (hRt : mw_Ret p l e R s m args below meth c cc M.1 M.2.1 D ac (mw_ad b sa base) base L xs n0 s0 Q r0 σF) (hT : mw_Thr p l e R s m args below meth c cc M.1 D ac (mw_ad b sa base) base L xs n0 s0 Q (mv_lk M.2.2.2.1) r0 σF ths) (hCat : mw_Cat p l e R s m args below meth c cc M.1 (mw_ad b sa base) Q (mv_lk M.2.2.2.1) ct) (hnm : meth.name = nm) (hM : mw_okC ths ct own nm cc M) :
    ∀ (n pc : Nat) (lv : mv_L) (st : List mv_V) (σ : mv_S), mv_run cl M n pc lv st σ = some (r0, σF) → σ.1 <+: σF.1 ∧ mw_G p l e R s m args below meth c M.1 D ac (mw_ad b sa base) base L xs n0 s0 Q pc lv st σ
  | 0, _, _, _, _, h => by cases h
  | n + 1, pc, lv, st, σ, h => mw_ev X hC hRd hB hLK hRt hT hCat hnm hM (mw_run X hC hRd hB hLK hRt hT hCat hnm hM n) _ _ _ _ _ h
end MRUN
theorem mw_args (ad : Nat → Nat) : ∀ (as : List mv_V) (i : Nat), lv_args i (as.map (mw_v ad)) = (mv_args i as).map fun q => (q.1, mw_v ad q.2)
  | [], _ => rfl
  | v :: r, i => by
    show (i, mw_v ad v) :: lv_args (if (mw_v ad v).category = 2 then i + 2 else i + 1) (r.map (mw_v ad)) = (i, mw_v ad v) :: (mv_args (if mv_lg v then i + 2 else i + 1) r).map fun q => (q.1, mw_v ad q.2)
    have h := mw_cat ad v
    cases hg : mv_lg v with
    | true =>
      rw [hg] at h
      rw [if_pos (by simpa using h)]
      exact congrArg _ (mw_args ad r (i + 2))
    | false =>
      rw [hg] at h
      rw [if_neg (by simpa using h)]
      exact congrArg _ (mw_args ad r (i + 1))
theorem mw_sl (ad : Nat → Nat) : ∀ as : List mv_V, (lg_sl (as.map (mw_v ad))).length = mv_wd as
  | [] => rfl
  | v :: r => by
    have h := mw_cat ad v
    have ih := mw_sl ad r
    unfold lg_sl at ih ⊢
    unfold mv_wd at ih ⊢
    rw [List.map_cons, List.flatMap_cons, List.length_append, ih, List.map_cons, List.sum_cons]
    congr 1
    cases hg : mv_lg v with
    | true =>
      rw [hg] at h
      rw [if_pos (by simpa using h)]
      rfl
    | false =>
      rw [hg] at h
      rw [if_neg (by simpa using h)]
      rfl
/-- the kind of a method's answer -/
def mw_rtok (rt : Nat) (ret : Option FieldType) : Prop := (rt = 0 ∧ ret = some .int) ∨ (rt = 1 ∧ ret = some .boolean) ∨ (rt = 2 ∧ ∃ n, ret = some (.object n)) ∨ (rt = 3 ∧ ret = some .long) ∨ (rt = 4 ∧ ret = none)
section MMETH
variable {p : Program} {l : Launch} {e : Env} {R : Room} {s : State} {m : MethodId} {args : Array Value} {below : List Frame} {meth : Method} {c : Code} {cc : ByteArray} {nL rt : Nat} {D : va_G} {ac sa : Nat → Nat} {b L : Nat} {xs : Nat → Int32} {base : Nat}
variable {cl : Nat → List mv_V → mv_S → mv_O} {σ σF : mv_S} {r0 : Option mv_V} {d : Nat} {I : mw_I} {as : List mv_V} {M : mv_M}
theorem mw_retOf {n0 s0 : Nat} (hx : p.tables.exec = Jvm.exec) (hb : c.code = cc) (hr : mw_rtok rt meth.sig.returnType) (hlk : meth.locks = false) (h0 : n0 ≤ σF.1.length) (h1 : s0 ≤ mw_sz σF.1) :
    mw_Ret p l e R s m args below meth c cc nL rt D ac (mw_ad b sa base) base L xs n0 s0 (MQ below (mw_Qc D ac sa b L xs base r0 σF) args s (σF.1.length - n0) (mw_sz σF.1 - s0) (fun q => base ≤ q)) r0 σF := by
  intro H locs ls cells slots pc st hsz hR hS hc hs hret
  have ec : cells = σF.1.length - n0 := by omega
  have es : slots = mw_sz σF.1 - s0 := by omega
  subst ec es
  have hf : ∀ q ∈ locs, base ≤ q.base := hS.2.2
  rcases hret with ⟨hd, x, rfl, hr0, hrt⟩ | ⟨hd, x, rfl, hr0, hrt⟩ | ⟨hd, x, rfl, hr0, hrt⟩ | ⟨hd, rfl, hr0, hrt⟩
  · rcases hr with ⟨e1, e2⟩ | ⟨e1, e2⟩ | ⟨e1, -⟩ | ⟨e1, -⟩ | ⟨e1, -⟩
    · exact W.iret hx hb e2 (fun t ht _ => ⟨by rw [hr0]; rfl, by rw [ht]; exact hR, hS.F ht⟩) hf hd hlk
    · rcases hrt with h | ⟨-, h | h⟩
      · omega
      · exact W.zret hx hb e2 (by rw [h]; rfl) (fun t ht _ => ⟨by rw [hr0]; rfl, by rw [ht]; exact hR, hS.F ht⟩) hf hd hlk
      · exact W.zret hx hb e2 (by rw [h]; rfl) (fun t ht _ => ⟨by rw [hr0]; rfl, by rw [ht]; exact hR, hS.F ht⟩) hf hd hlk
    · omega
    · omega
    · omega
  · rcases hr with ⟨e1, -⟩ | ⟨e1, -⟩ | ⟨e1, n, e2⟩ | ⟨e1, -⟩ | ⟨e1, -⟩
    · omega
    · omega
    · refine W.aret (v := mw_v (mw_ad b sa base) (.inr (.inr x))) hx hb e2 (Or.inl ⟨n, rfl⟩) ?_ (fun t ht _ => ⟨by rw [hr0]; rfl, by rw [ht]; exact hR, hS.F ht⟩) hf hd hlk
      cases x with
      | none => exact Or.inl rfl
      | some a => exact Or.inr ⟨_, rfl⟩
    · omega
    · omega
  · rcases hr with ⟨e1, -⟩ | ⟨e1, -⟩ | ⟨e1, -⟩ | ⟨e1, e2⟩ | ⟨e1, -⟩
    · omega
    · omega
    · omega
    · exact W.lret hx hb e2 (fun t ht _ => ⟨by rw [hr0]; rfl, by rw [ht]; exact hR, hS.F ht⟩) hf hd hlk
    · omega
  · rcases hr with ⟨e1, -⟩ | ⟨e1, -⟩ | ⟨e1, -⟩ | ⟨e1, -⟩ | ⟨e1, e2⟩
    · omega
    · omega
    · omega
    · omega
    · exact W.vret hx hb e2 (fun t ht _ => ⟨by rw [hr0]; rfl, by rw [ht]; exact hR, hS.F ht⟩) hf hd hlk
/-- what a method's numbers say: where it may throw, where it catches -/
def mw_okF (I : mw_I) (M : mv_M) (ths : List Nat) (ct : Option Nat) : Prop := M.1 = I.2.2.1 ∧ mw_rtok M.2.1 I.2.2.2.1 ∧ mw_okC ths ct I.1.cls I.1.name I.2.1 M ∧ ∀ q ∈ M.2.2.2.1, mw_okL I.1.cls q.1 q.2 ∧ mw_okX I.1.cls q.1 q.2
theorem mw_xOf {y : MethodName} {bytes : ByteArray} {maxL : Nat} {ret : Option FieldType} {w0 : Cond} {s₁ : State} {as : List mv_V} (B : BodyLoose p l y (headSpec (w0 :: lw_good) (mw_rm (d + 1) σ σF)) bytes maxL ret e s m args below meth c s₁) (hml : c.maxLocals = maxL) (hP : mw_Pc D ac sa b L xs base as σ args s) :
    mw_X p l (mw_rm (d + 1) σ σF) s m args meth c y.cls bytes maxL rt D ac sa b L xs base := by
  obtain ⟨-, -, h1, h2, h3, h4, h5⟩ := hP
  have hts0 : ∀ w ∈ (w0 :: lw_good), w.before args s = true := atoms_spec (ws := w0 :: lw_good) B.pre
  exact ⟨B.exec, B.bytes, hml, findClass_of_methodNamed B.named, fun w hw => hts0 w (List.mem_cons_of_mem _ hw), h1, h2, h3, h4, ⟨by show 8 ≤ d + 1 + 8; omega, by show 500 ≤ 64 * (d + 1) + 500; omega⟩, h5⟩
theorem mw_room9 : d + 9 ≤ (mw_rm (d + 1) σ σF).frames ∧ 64 * d + 564 ≤ (mw_rm (d + 1) σ σF).locals := by
  constructor
  · show d + 9 ≤ d + 1 + 8
    omega
  · show 64 * d + 564 ≤ 64 * (d + 1) + 500
    omega
theorem mw_roomB : σF.1.length ≤ (mw_rm (d + 1) σ σF).cells + σ.1.length ∧ mw_sz σF.1 ≤ (mw_rm (d + 1) σ σF).slots + mw_sz σ.1 := by
  constructor
  · show σF.1.length ≤ (σF.1.length - σ.1.length) + σ.1.length
    omega
  · show mw_sz σF.1 ≤ (mw_sz σF.1 - mw_sz σ.1) + mw_sz σ.1
    omega
/-- the body of any method, where it neither throws nor catches -/
theorem mw_body {w0 : Cond} {s₁ : State} (hF : mw_okF I M [] none) (hrun : mv_run cl M 4000 0 (mv_args 0 as) [] σ = some (r0, σF)) (hC : mw_CC l D ac sa b L xs base d cl) (hn : mv_wd as ≤ I.2.2.1)
    (B : BodyLoose p l I.1 (headSpec (w0 :: lw_good) (mw_rm (d + 1) σ σF)) I.2.1 I.2.2.1 I.2.2.2.1 e s m args below meth c s₁) (hml : c.maxLocals = I.2.2.1) (hP : mw_Pc D ac sa b L xs base as σ args s) (hpre : σ.1 <+: σF.1) :
    W p l e (mw_rm (d + 1) σ σF) s m args below meth c s.heap [] 0 0 (MQ below (mw_Qc D ac sa b L xs base r0 σF) args s (σF.1.length - σ.1.length) (mw_sz σF.1 - mw_sz σ.1) (fun q => base ≤ q)) (entryFrame m args I.2.2.1) := by
  obtain ⟨hM1, hM2, hM3, hM4⟩ := hF
  have X := mw_xOf (rt := M.2.1) B hml hP
  have h4 := mw_sz_le hpre
  obtain ⟨rfl, hR, -⟩ := hP
  rw [← hM1] at X
  have key := mw_run (M := M) (e := e) (below := below) (n0 := σ.1.length) (s0 := mw_sz σ.1) (ths := []) (ct := none) (nm := I.1.name) X hC mw_room9 mw_roomB (mw_lkok hM4) (mw_retOf (r0 := r0) (σF := σF) B.exec B.bytes (by rw [B.returns]; exact hM2) B.notSynchronized h4.2 h4.1) (fun H locs ls cells slots pc i x n y z σ' _ h => nomatch h) (fun H locs ls cells slots pc i M n y x h z lv rest q ce _ h9 => nomatch h9) (name_of_methodNamed B.named B.method).1 hM3 4000 0 _ _ _ hrun
  rw [lg_entry_eq]
  refine key.2 s.heap [] _ 0 0 ?_ hR mw_S0 (Nat.zero_add _) (Nat.zero_add _)
  rw [← mw_args, hM1]
  exact lv_entry _ (by rw [mw_sl]; exact hn)
/-- the prefix: what a walk makes stands behind what was there -/
theorem mw_okOf (hF : mw_okF I M [] none) (hy : plainFor I.1 = true) (hrun : mv_run cl M 4000 0 (mv_args 0 as) [] σ = some (r0, σF)) (hC : mw_CC l D ac sa b L xs base d cl) (hn : mv_wd as ≤ I.2.2.1) (hpre : σ.1 <+: σF.1) : mw_Ok l D ac sa b L xs base I (d + 1) as σ r0 σF :=
  va_MetF (cc := I.2.1) (maxL := I.2.2.1) (ret := I.2.2.2.1) hy rfl (fun p e s m args below meth c s₁ B hml hP => mw_body hF hrun hC hn B hml hP hpre)
end MMETH
