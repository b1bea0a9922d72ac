/-! SOUNDNESS of the small machine, 18b: catches, all methods -/
section MCAT
variable {p : Program} {l : Launch} {e : Env} {R : Room} {s : State} {m : MethodId} {args : Array Value} {below : List Frame} {meth : Method} {c : Code} {own : String} {cc : ByteArray} {nL rt : Nat} {D : va_G} {ac sa : Nat → Nat} {b L : Nat} {xs : Nat → Int32} {base : Nat} {Q : State → Prop}
variable {H : Heap} {locs : List Loc} {ls : Array Slot} {cells slots pc : Nat} {rest : List Value} {q : Nat} {ce : Cell} {lv : mv_L}
/-- where a handler begins: the exception goes into local 4 -/
theorem mw_caught {h0 : Nat} {ad : Nat → Nat} (X : mw_X p l R s m args meth c own cc nL rt D ac sa b L xs base) (hd : decode cc h0 = .ok (.astore 4, 2)) (h4 : 4 < nL) (hl : lv_has ls nL (lv.map fun q => (q.1, mw_v ad q.2))) (kk : ∀ ls' : Array Slot, lv_has ls' nL ((mv_drop4 lv).map fun q => (q.1, mw_v ad q.2)) → W p l e R s m args below meth c H locs cells slots Q (F0 m (h0 + 2) ls' [])) : W p l e R s m args below meth c H locs cells slots Q (F0 m h0 ls [.ref q]) := by
  refine lv_astore X.1 X.2.1 hd hl h4 rfl (fun ls' hl' => kk ls' ⟨hl'.1, hl'.2.1, fun z hz => hl'.2.2 z ?_⟩)
  have e9 := (List.cons.inj (mw_put1 ad lv 4 (.inl 0))).2
  have hz : z ∈ (lv.filter (fun q => !(q.1 == 4) && !(q.1 + 1 == 4 && mv_lg q.2))).map fun q => (q.1, mw_v ad q.2) := hz
  rw [← e9] at hz
  exact List.mem_cons_of_mem _ hz
theorem mw_catG {a0 b0 x hpc lnk : Nat} {cs pre suf : List (Nat × Nat × Nat)} (X : mw_X p l R s m args meth c own cc nL rt D ac sa b L xs base) (hcs : cs = pre ++ (x, hpc, lnk) :: suf) (htab : c.exceptionTable.toList = tableOf (cs.map fun q => (a0, b0, q.2.1, q.2.2))) (hall : ∀ q ∈ cs, Cond.classLink own q.2.2 (mw_ex q.1) ∈ lw_good ∧ mw_ex q.1 ∈ mw_exc ∧ q.2.2 ≠ 0) (hpre : ∀ q ∈ pre, mw_ex x ≠ mw_ex q.1) (hin : a0 ≤ pc ∧ pc < b0)
    (hcell : H[q]? = some ce) (hv : ce.vm = .none) (hcl : s.vm.findClass (mw_ex x) = some ce.cls) (kk : W p l e R s m args below meth c H locs cells slots Q (F0 m hpc ls [.ref q])) : vx_W p l e R s m args below meth c H locs cells slots Q (F0 m pc ls rest) q := by
  have hts := X.2.2.2.2.1
  have hE := X.2.2.2.2.2.2.2.2.2.2
  obtain ⟨-, -, -, -, hca, -, hnc, -⟩ := hE
  have hx := hall (x, hpc, lnk) (by rw [hcs]; simp)
  refine vx_catch X.2.2.2.1 (tableOf (pre.map fun q => (a0, b0, q.2.1, q.2.2))) ⟨a0, b0, hpc, lnk⟩ (tableOf (suf.map fun q => (a0, b0, q.2.1, q.2.2))) ?_ (fun z hz => ?_) ?_ hx.2.2 (hts _ hx.1) (va_Nw.use rfl (hca _ hx.2.1)) hcell hv hcl kk
  · rw [htab, hcs]
    simp [tableOf]
  · unfold tableOf at hz
    obtain ⟨y, hy, rfl⟩ := List.mem_map.mp hz
    obtain ⟨q, hq, rfl⟩ := List.mem_map.mp hy
    have hq2 := hall q (by rw [hcs]; exact List.mem_append_left _ hq)
    exact Or.inr ⟨hq2.2.2, _, hts _ hq2.1, hnc _ hx.2.1 _ hq2.2.1 (hpre q hq)⟩
  · simp [covers, hin.1, hin.2]
end MCAT
theorem mw_cs125 : ∀ q ∈ ([(1, 41, 320), (2, 48, 344), (3, 58, 310)] : List (Nat × Nat × Nat)), Cond.classLink RX6 q.2.2 (mw_ex q.1) ∈ lw_good ∧ mw_ex q.1 ∈ mw_exc ∧ q.2.2 ≠ 0 := List.forall_mem_cons.mpr ⟨⟨mw_in 997 (by decide +kernel) (by decide +kernel), by decide +kernel, by decide⟩, List.forall_mem_cons.mpr ⟨⟨mw_in 998 (by decide +kernel) (by decide +kernel), by decide +kernel, by decide⟩, List.forall_mem_cons.mpr ⟨⟨mw_in 999 (by decide +kernel) (by decide +kernel), by decide +kernel, by decide⟩, List.forall_mem_nil _⟩⟩⟩
theorem mw_cs218 : ∀ q ∈ ([(3, 12, 13), (1, 16, 15)] : List (Nat × Nat × Nat)), Cond.classLink RL q.2.2 (mw_ex q.1) ∈ lw_good ∧ mw_ex q.1 ∈ mw_exc ∧ q.2.2 ≠ 0 := List.forall_mem_cons.mpr ⟨⟨mw_in 1106 (by decide +kernel) (by decide +kernel), by decide +kernel, by decide⟩, List.forall_mem_cons.mpr ⟨⟨mw_in 1107 (by decide +kernel) (by decide +kernel), by decide +kernel, by decide⟩, List.forall_mem_nil _⟩⟩
section MTC
variable {p : Program} {l : Launch} {e : Env} {R : Room} {s : State} {m : MethodId} {args : Array Value} {below : List Frame} {meth : Method} {c : Code} {rt : Nat} {D : va_G} {ac sa : Nat → Nat} {b L n0 s0 : Nat} {xs : Nat → Int32} {base : Nat} {Q : State → Prop} {r0 : Option mv_V} {σF : mv_S}
theorem mw_cat125 (X : mw_X p l R s m args meth c RX6 cX6_toss 5 rt D ac sa b L xs base) (htab : c.exceptionTable.toList = tableOf (mw_hh 125)) : mw_Cat p l e R s m args below meth c cX6_toss 5 (mw_ad b sa base) Q (mv_lk lk_RX6) (some 35) := by
  intro H locs ls cells slots pc i M n y x h z lv rest q ce hl hpc hlk hd hlook h1 h3 hcell hv hcl kk
  cases hpc
  cases (show decode cX6_toss 35 = .ok (.invokevirtual 338, 3) by decide +kernel).symm.trans hd
  cases hlk
  rcases (show x = 1 ∨ x = 2 ∨ x = 3 by omega) with rfl | rfl | rfl
  · cases hlook
    exact mw_catG (a0 := 34) (b0 := 38) (hpc := 41) (lnk := 320) (cs := [(1, 41, 320), (2, 48, 344), (3, 58, 310)]) (pre := []) (suf := [(2, 48, 344), (3, 58, 310)]) X rfl htab mw_cs125 (fun q hq => nomatch hq) (by decide) hcell hv hcl (mw_caught X (by decide +kernel) (by decide) hl kk)
  · cases hlook
    exact mw_catG (a0 := 34) (b0 := 38) (hpc := 48) (lnk := 344) (cs := [(1, 41, 320), (2, 48, 344), (3, 58, 310)]) (pre := [(1, 41, 320)]) (suf := [(3, 58, 310)]) X rfl htab mw_cs125 (by decide +kernel) (by decide) hcell hv hcl (mw_caught X (by decide +kernel) (by decide) hl kk)
  · cases hlook
    exact mw_catG (a0 := 34) (b0 := 38) (hpc := 58) (lnk := 310) (cs := [(1, 41, 320), (2, 48, 344), (3, 58, 310)]) (pre := [(1, 41, 320), (2, 48, 344)]) (suf := []) X rfl htab mw_cs125 (by decide +kernel) (by decide) hcell hv hcl (mw_caught X (by decide +kernel) (by decide) hl kk)
theorem mw_cat218 (X : mw_X p l R s m args meth c RL cL_element 5 rt D ac sa b L xs base) (htab : c.exceptionTable.toList = tableOf (mw_hh 218)) : mw_Cat p l e R s m args below meth c cL_element 5 (mw_ad b sa base) Q (mv_lk lk_RL) (some 5) := by
  intro H locs ls cells slots pc i M n y x h z lv rest q ce hl hpc hlk hd hlook h1 h3 hcell hv hcl kk
  cases hpc
  cases (show decode cL_element 5 = .ok (.invokevirtual 7, 3) by decide +kernel).symm.trans hd
  cases hlk
  rcases (show x = 1 ∨ x = 2 ∨ x = 3 by omega) with rfl | rfl | rfl
  · cases hlook
    exact mw_catG (a0 := 0) (b0 := 9) (hpc := 16) (lnk := 15) (cs := [(3, 12, 13), (1, 16, 15)]) (pre := [(3, 12, 13)]) (suf := []) X rfl htab mw_cs218 (by decide +kernel) (by decide) hcell hv hcl (mw_caught X (by decide +kernel) (by decide) hl kk)
  · cases hlook
  · cases hlook
    exact mw_catG (a0 := 0) (b0 := 9) (hpc := 12) (lnk := 13) (cs := [(3, 12, 13), (1, 16, 15)]) (pre := []) (suf := [(1, 16, 15)]) X rfl htab mw_cs218 (fun q hq => nomatch hq) (by decide) hcell hv hcl (mw_caught X (by decide +kernel) (by decide) hl kk)
end MTC
section MALL
variable {p : Program} {l : Launch} {e : Env} {R : Room} {s : State} {m : MethodId} {args : Array Value} {below : List Frame} {meth : Method} {c : Code} {cc : ByteArray} {nL rt : Nat} {D : va_G} {ac sa : Nat → Nat} {b L : Nat} {xs : Nat → Int32} {base : Nat}
variable {cl : Nat → List mv_V → mv_S → mv_O} {σ σF : mv_S} {r0 : Option mv_V} {d : Nat} {I : mw_I} {as : List mv_V} {M : mv_M} {ths : List Nat} {ct : Option Nat} {Q : State → Prop}
theorem mw_mono {H : Heap} {locs : List Loc} {cells slots mc ms : Nat} {g : JFrame} {Q1 Q2 : Array Value → State → Outcome → State → Prop} {free : Addr → Prop} (h : ∀ o t, Q1 args s o t → Q2 args s o t) (k : W p l e R s m args below meth c H locs cells slots (MQ below Q1 args s mc ms free) g) : W p l e R s m args below meth c H locs cells slots (MQ below Q2 args s mc ms free) g := by
  intro T hT X
  obtain ⟨t, a1, o, b1, b2, b3, b4⟩ := k T hT X
  exact ⟨t, a1, o, b1, b2, h o t b3, b4⟩
/-- the body of any method, its ends given -/
theorem mw_bodyG {w0 : Cond} {s₁ : State} (hF : mw_okF I M ths ct) (hrun : mv_run cl M 4000 0 (mv_args 0 as) [] σ = some (r0, σF)) (hC : mw_CC l D ac sa b L xs base d cl) (hn : mv_wd as ≤ I.2.2.1)
    (B : BodyLoose p l I.1 (headSpec (w0 :: lw_good) (mw_rm (d + 1) σ σF)) I.2.1 I.2.2.1 I.2.2.2.1 e s m args below meth c s₁) (hml : c.maxLocals = I.2.2.1) (hP : mw_Pc D ac sa b L xs base as σ args s)
    (hRt : mw_Ret p l e (mw_rm (d + 1) σ σF) s m args below meth c I.2.1 I.2.2.1 M.2.1 D ac (mw_ad b sa base) base L xs σ.1.length (mw_sz σ.1) Q r0 σF) (hT : mw_Thr p l e (mw_rm (d + 1) σ σF) s m args below meth c I.2.1 I.2.2.1 D ac (mw_ad b sa base) base L xs σ.1.length (mw_sz σ.1) Q (mv_lk M.2.2.2.1) r0 σF ths) (hCat : mw_Cat p l e (mw_rm (d + 1) σ σF) s m args below meth c I.2.1 I.2.2.1 (mw_ad b sa base) Q (mv_lk M.2.2.2.1) ct) :
    W p l e (mw_rm (d + 1) σ σF) s m args below meth c s.heap [] 0 0 Q (entryFrame m args I.2.2.1) := by
  obtain ⟨hM1, hM2, hM3, hM4⟩ := hF
  have X := mw_xOf (rt := M.2.1) B hml hP
  obtain ⟨rfl, hR, -⟩ := hP
  rw [← hM1] at X hRt hT hCat
  have key := mw_run (M := M) (e := e) (below := below) (n0 := σ.1.length) (s0 := mw_sz σ.1) (nm := I.1.name) X hC mw_room9 mw_roomB (mw_lkok hM4) hRt hT hCat (name_of_methodNamed B.named B.method).1 hM3 4000 0 _ _ _ hrun
  rw [lg_entry_eq]
  refine key.2 s.heap [] _ 0 0 ?_ hR mw_S0 (Nat.zero_add _) (Nat.zero_add _)
  rw [← mw_args, hM1]
  exact lv_entry _ (by rw [mw_sl]; exact hn)
theorem mw_okWOf {hh : List (Nat × Nat × Nat × Nat)} (hF : mw_okF I M [] ct) (hy : plainName I.1.cls = true) (hrun : mv_run cl M 4000 0 (mv_args 0 as) [] σ = some (r0, σF)) (hC : mw_CC l D ac sa b L xs base d cl) (hn : mv_wd as ≤ I.2.2.1) (hpre : σ.1 <+: σF.1)
    (hcat : ∀ (p : Program) (e : Env) (R : Room) (s : State) (m : MethodId) (args : Array Value) (below : List Frame) (meth : Method) (c : Code) (rt : Nat) (Q : State → Prop), mw_X p l R s m args meth c I.1.cls I.2.1 I.2.2.1 rt D ac sa b L xs base → c.exceptionTable.toList = tableOf hh → mw_Cat p l e R s m args below meth c I.2.1 I.2.2.1 (mw_ad b sa base) Q (mv_lk M.2.2.2.1) ct) : mw_OkW l D ac sa b L xs base I hh (d + 1) as σ r0 σF := by
  refine va_MetW (cc := I.2.1) (maxL := I.2.2.1) (ret := I.2.2.2.1) (hh := hh) hy rfl ?_
  intro p e s m args below meth c s₁ B hml hP
  have h4 := mw_sz_le hpre
  have htab : c.exceptionTable.toList = tableOf hh := vx_table (x := I.1) B (atoms_spec (ws := Cond.codeWith I.1 I.2.1 I.2.2.1 I.2.2.2.1 hh :: lw_good) B.pre _ List.mem_cons_self)
  exact mw_bodyG hF hrun hC hn B hml hP (mw_retOf B.exec B.bytes (by rw [B.returns]; exact hF.2.1) B.notSynchronized h4.2 h4.1) (fun H locs ls cells slots pc i x n y z σ' _ h => nomatch h) (hcat _ _ _ _ _ _ _ _ _ M.2.1 _ (mw_xOf B hml hP) htab)
theorem mw_okTOf (hF : mw_okF I M ths none) (hrt : M.2.1 = 3 ∨ M.2.1 = 4) (hy : plainName I.1.cls = true) (hrun : mv_run cl M 4000 0 (mv_args 0 as) [] σ = some (r0, σF)) (hC : mw_CC l D ac sa b L xs base d cl) (hn : mv_wd as ≤ I.2.2.1) (hpre : σ.1 <+: σF.1)
    (hthr : ∀ (p : Program) (e : Env) (s : State) (m : MethodId) (args : Array Value) (below : List Frame) (meth : Method) (c : Code) (rt : Nat), mw_X p l (mw_rm (d + 1) σ σF) s m args meth c I.1.cls I.2.1 I.2.2.1 rt D ac sa b L xs base → meth.locks = false → (∀ x ∈ c.exceptionTable.toList, False) →
      mw_Thr p l e (mw_rm (d + 1) σ σF) s m args below meth c I.2.1 I.2.2.1 D ac (mw_ad b sa base) base L xs σ.1.length (mw_sz σ.1) (vx_MQ below (mw_QT D ac sa b L xs base r0 σF) (mw_XC D ac sa b L xs base r0 σF) args s (σF.1.length - σ.1.length) (mw_sz σF.1 - mw_sz σ.1) (fun q => base ≤ q)) (mv_lk M.2.2.2.1) r0 σF ths) : mw_OkT l D ac sa b L xs base I (d + 1) as σ r0 σF := by
  refine vx_ofW (cc := I.2.1) (maxL := I.2.2.1) (ret := I.2.2.2.1) hy rfl ?_
  intro p e s m args below meth c s₁ B hml hout hP
  have h4 := mw_sz_le hpre
  refine mw_bodyG hF hrun hC hn B hml hP ?_ (hthr _ _ _ _ _ _ _ _ M.2.1 (mw_xOf B hml hP) B.notSynchronized hout) (fun H locs ls cells slots pc i M n y x h z lv rest q ce _ h9 => nomatch h9)
  intro H locs ls cells slots pc st hsz hR hS hc hs hret
  have hne : ∀ x, r0 ≠ some (.inl x) := by
    intro x hx
    rcases hret with ⟨-, y, -, -, h⟩ | ⟨-, y, -, h, -⟩ | ⟨-, y, -, h, -⟩ | ⟨-, -, h, -⟩
    · omega
    · rw [hx] at h; cases h
    · rw [hx] at h; cases h
    · rw [hx] at h; cases h
  exact vx_ret (mw_mono (fun o t h => ⟨hne, h⟩) (mw_retOf B.exec B.bytes (by rw [B.returns]; exact hF.2.1) B.notSynchronized h4.2 h4.1 H locs ls cells slots pc st hsz hR hS hc hs hret))
theorem mw_thr28 (X : mw_X p l (mw_rm (d + 1) σ σF) s m args meth c RX2 cX2_fail 1 rt D ac sa b L xs base) (hl : l.stackTraces = false) (hlk : meth.locks = false) (hout : ∀ x ∈ c.exceptionTable.toList, False) :
    mw_Thr p l e (mw_rm (d + 1) σ σF) s m args below meth c cX2_fail 1 D ac (mw_ad b sa base) base L xs σ.1.length (mw_sz σ.1) (vx_MQ below (mw_QT D ac sa b L xs base r0 σF) (mw_XC D ac sa b L xs base r0 σF) args s (σF.1.length - σ.1.length) (mw_sz σF.1 - mw_sz σ.1) (fun q => base ≤ q)) (mv_lk lk_RX2) r0 σF [25, 43, 53] := by
  intro H locs ls cells slots pc i x n y z σ' hsz hpc hlk2 hd hr0 hσ hR hS hc hs
  have hsz1 : σF.1.length = σ'.1.length + 1 ∧ ∀ k, n = k → mw_sz σF.1 = mw_sz σ'.1 + k := by
    rw [hσ]
    refine ⟨by show (σ'.1 ++ [(.inr (98, n) : mv_T)]).length = _; simp, fun k hk => ?_⟩
    subst hk
    show mw_sz (σ'.1 ++ [.inr (98, n)]) = _
    rw [mw_sz_app]
    simp [mw_sz, mw_szT]
  rcases (show pc = 25 ∨ pc = 43 ∨ pc = 53 by simpa using hpc) with rfl | rfl | rfl
  · cases (show decode cX2_fail 25 = .ok (.new 21, 3) by decide +kernel).symm.trans hd
    cases hlk2
    have h6 := hsz1.2 6 rfl
    rw [hr0, hσ]
    rw [hσ] at hsz1 h6
    exact mw_throwS (rt := rt) X hl hlk hout (by decide) (by decide) mw_t28a (text := "a blot") (by decide +kernel) hd (by decide +kernel) (by decide +kernel) (by decide +kernel) (by decide +kernel) hsz hR hS (by omega) (by omega) (by rw [← hσ]; exact Nat.le_refl _) (by rw [← hσ]; exact Nat.le_refl _)
  · cases (show decode cX2_fail 43 = .ok (.new 28, 3) by decide +kernel).symm.trans hd
    cases hlk2
    have h6 := hsz1.2 6 rfl
    rw [hr0, hσ]
    rw [hσ] at hsz1 h6
    exact mw_throwS (rt := rt) X hl hlk hout (by decide) (by decide) mw_t28b (text := "one that looks ahead") (by decide +kernel) hd (by decide +kernel) (by decide +kernel) (by decide +kernel) (by decide +kernel) hsz hR hS (by omega) (by omega) (by rw [← hσ]; exact Nat.le_refl _) (by rw [← hσ]; exact Nat.le_refl _)
  · cases (show decode cX2_fail 53 = .ok (.new 33, 3) by decide +kernel).symm.trans hd
    cases hlk2
    have h6 := hsz1.2 6 rfl
    rw [hr0, hσ]
    rw [hσ] at hsz1 h6
    exact mw_throwS (rt := rt) X hl hlk hout (by decide) (by decide) mw_t28c (text := "a drawer") (by decide +kernel) hd (by decide +kernel) (by decide +kernel) (by decide +kernel) (by decide +kernel) hsz hR hS (by omega) (by omega) (by rw [← hσ]; exact Nat.le_refl _) (by rw [← hσ]; exact Nat.le_refl _)
theorem mw_thr122 (X : mw_X p l (mw_rm (d + 1) σ σF) s m args meth c RX6 cX6_element 4 rt D ac sa b L xs base) (hl : l.stackTraces = false) (hlk : meth.locks = false) (hout : ∀ x ∈ c.exceptionTable.toList, False) :
    mw_Thr p l e (mw_rm (d + 1) σ σF) s m args below meth c cX6_element 4 D ac (mw_ad b sa base) base L xs σ.1.length (mw_sz σ.1) (vx_MQ below (mw_QT D ac sa b L xs base r0 σF) (mw_XC D ac sa b L xs base r0 σF) args s (σF.1.length - σ.1.length) (mw_sz σF.1 - mw_sz σ.1) (fun q => base ≤ q)) (mv_lk lk_RX6) r0 σF [10, 36] := by
  intro H locs ls cells slots pc i x n y z σ' hsz hpc hlk2 hd hr0 hσ hR hS hc hs
  have hsz1 : σF.1.length = σ'.1.length + 1 ∧ ∀ k, n = k → mw_sz σF.1 = mw_sz σ'.1 + k := by
    rw [hσ]
    refine ⟨by show (σ'.1 ++ [(.inr (98, n) : mv_T)]).length = _; simp, fun k hk => ?_⟩
    subst hk
    show mw_sz (σ'.1 ++ [.inr (98, n)]) = _
    rw [mw_sz_app]
    simp [mw_sz, mw_szT]
  rcases (show pc = 10 ∨ pc = 36 by simpa using hpc) with rfl | rfl
  · cases (show decode cX6_element 10 = .ok (.new 310, 3) by decide +kernel).symm.trans hd
    cases hlk2
    have h6 := hsz1.2 6 rfl
    rw [hr0, hσ]
    rw [hσ] at hsz1 h6
    exact mw_throwSW (rt := rt) X hl hlk hout (by decide) (by decide) mw_t122a (text := "no such shelf") (by decide +kernel) hd (by decide +kernel) (by decide +kernel) (by decide +kernel) (by decide +kernel) hsz hR hS (by omega) (by omega) (by rw [← hσ]; exact Nat.le_refl _) (by rw [← hσ]; exact Nat.le_refl _)
  · cases (show decode cX6_element 36 = .ok (.new 320, 3) by decide +kernel).symm.trans hd
    cases hlk2
    have h6 := hsz1.2 6 rfl
    rw [hr0, hσ]
    rw [hσ] at hsz1 h6
    exact mw_throwSW (rt := rt) X hl hlk hout (by decide) (by decide) mw_t122b (text := "no row, or no such place in it") (by decide +kernel) hd (by decide +kernel) (by decide +kernel) (by decide +kernel) (by decide +kernel) hsz hR hS (by omega) (by omega) (by rw [← hσ]; exact Nat.le_refl _) (by rw [← hσ]; exact Nat.le_refl _)
end MALL
