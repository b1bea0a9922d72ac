/-! SOUNDNESS of the small machine, 18c: calls without a bound on their length -/
/-- what a walk comes to, however long it is -/
noncomputable def mv_lim (f : Nat → mv_O) : mv_O := @dite _ (∃ r, ∃ n0, ∀ n, n0 ≤ n → f n = some r) (Classical.propDecidable _) (fun h => some (Classical.choose h)) (fun _ => none)
theorem mv_lim_some {f : Nat → mv_O} {r : Option mv_V × mv_S} (h : mv_lim f = some r) : ∃ n, f n = some r := by
  unfold mv_lim at h
  by_cases g : ∃ r, ∃ n0, ∀ n, n0 ≤ n → f n = some r
  · rw [dif_pos g] at h
    obtain ⟨n0, hn⟩ := Classical.choose_spec g
    exact ⟨n0, by rw [hn n0 (Nat.le_refl _)]; exact h⟩
  · rw [dif_neg g] at h
    cases h
theorem mv_lim_ev {f : Nat → mv_O} {r : Option mv_V × mv_S} (h : ∃ n0, ∀ n, n0 ≤ n → f n = some r) : mv_lim f = some r := by
  have g : ∃ r, ∃ n0, ∀ n, n0 ≤ n → f n = some r := ⟨r, h⟩
  unfold mv_lim
  rw [dif_pos g]
  obtain ⟨n0, hn⟩ := h
  obtain ⟨n1, hm⟩ := Classical.choose_spec g
  have e1 := hn (n0 + n1) (by omega)
  have e2 := hm (n0 + n1) (by omega)
  exact e2.symm.trans e1
/-- a method, at a depth of calls -/
noncomputable def mv_cax : Nat → Nat → List mv_V → mv_S → mv_O
  | 0, _, _, _ => none
  | d + 1, m, as, σ => match mv_tab m with
    | some M => if mv_wd as ≤ M.1 then mv_lim (fun n => mv_run (mv_cax d) M n 0 (mv_args 0 as) [] σ) else none
    | none => none
theorem mn_cax : ∀ (d M : Nat) (as : List mv_V) (σ : mv_S) (r : Option mv_V) (σ' : mv_S), mv_cax d M as σ = some (r, σ') → σ.1 <+: σ'.1
  | 0, _, _, _, _, _, h => by cases h
  | d + 1, M, as, σ, r, σ', h => by
    unfold mv_cax at h
    split at h
    · split at h
      · obtain ⟨n, h⟩ := mv_lim_some h
        exact mn_run (mn_cax d) _ _ _ _ _ h
      · cases h
    · cases h
section MNF
variable {nf : Nat}
variable {p : Program} {l : Launch} {e : Env} {R : Room} {s : State} {m : MethodId} {args : Array Value} {below : List Frame} {meth : Method} {c : Code} {cc : ByteArray} {nL rt : Nat} {D : va_G} {ac sa : Nat → Nat} {b L : Nat} {xs : Nat → Int32} {base : Nat}
variable {cl : Nat → List mv_V → mv_S → mv_O} {σ σF : mv_S} {r0 : Option mv_V} {d : Nat} {I : mw_I} {as : List mv_V} {M : mv_M}
theorem mw_bodyN {w0 : Cond} {s₁ : State} (hF : mw_okF I M [] none) (hrun : mv_run cl M nf 0 (mv_args 0 as) [] σ = some (r0, σF)) (hC : mw_CC l D ac sa b L xs base d cl) (hn : mv_wd as ≤ I.2.2.1)
    (B : BodyLoose p l I.1 (headSpec (w0 :: lw_good) (mw_rm (d + 1) σ σF)) I.2.1 I.2.2.1 I.2.2.2.1 e s m args below meth c s₁) (hml : c.maxLocals = I.2.2.1) (hP : mw_Pc D ac sa b L xs base as σ args s) (hpre : σ.1 <+: σF.1) :
    W p l e (mw_rm (d + 1) σ σF) s m args below meth c s.heap [] 0 0 (MQ below (mw_Qc D ac sa b L xs base r0 σF) args s (σF.1.length - σ.1.length) (mw_sz σF.1 - mw_sz σ.1) (fun q => base ≤ q)) (entryFrame m args I.2.2.1) := by
  obtain ⟨hM1, hM2, hM3, hM4⟩ := hF
  have X := mw_xOf (rt := M.2.1) B hml hP
  have h4 := mw_sz_le hpre
  obtain ⟨rfl, hR, -⟩ := hP
  rw [← hM1] at X
  have key := mw_run (M := M) (e := e) (below := below) (n0 := σ.1.length) (s0 := mw_sz σ.1) (ths := []) (ct := none) (nm := I.1.name) X hC mw_room9 mw_roomB (mw_lkok hM4) (mw_retOf (r0 := r0) (σF := σF) B.exec B.bytes (by rw [B.returns]; exact hM2) B.notSynchronized h4.2 h4.1) (fun H locs ls cells slots pc i x n y z σ' _ h => nomatch h) (fun H locs ls cells slots pc i M n y x h z lv rest q ce _ h9 => nomatch h9) (name_of_methodNamed B.named B.method).1 hM3 nf 0 _ _ _ hrun
  rw [lg_entry_eq]
  refine key.2 s.heap [] _ 0 0 ?_ hR mw_S0 (Nat.zero_add _) (Nat.zero_add _)
  rw [← mw_args, hM1]
  exact lv_entry _ (by rw [mw_sl]; exact hn)
theorem mw_okOfN (hF : mw_okF I M [] none) (hy : plainFor I.1 = true) (hrun : mv_run cl M nf 0 (mv_args 0 as) [] σ = some (r0, σF)) (hC : mw_CC l D ac sa b L xs base d cl) (hn : mv_wd as ≤ I.2.2.1) (hpre : σ.1 <+: σF.1) : mw_Ok l D ac sa b L xs base I (d + 1) as σ r0 σF :=
  va_MetF (cc := I.2.1) (maxL := I.2.2.1) (ret := I.2.2.2.1) hy rfl (fun p e s m args below meth c s₁ B hml hP => mw_bodyN hF hrun hC hn B hml hP hpre)
end MNF
section MNG
variable {nf : Nat}
variable {p : Program} {l : Launch} {e : Env} {R : Room} {s : State} {m : MethodId} {args : Array Value} {below : List Frame} {meth : Method} {c : Code} {cc : ByteArray} {nL rt : Nat} {D : va_G} {ac sa : Nat → Nat} {b L : Nat} {xs : Nat → Int32} {base : Nat}
variable {cl : Nat → List mv_V → mv_S → mv_O} {σ σF : mv_S} {r0 : Option mv_V} {d : Nat} {I : mw_I} {as : List mv_V} {M : mv_M} {ths : List Nat} {ct : Option Nat} {Q : State → Prop}
theorem mw_bodyGN {w0 : Cond} {s₁ : State} (hF : mw_okF I M ths ct) (hrun : mv_run cl M nf 0 (mv_args 0 as) [] σ = some (r0, σF)) (hC : mw_CC l D ac sa b L xs base d cl) (hn : mv_wd as ≤ I.2.2.1)
    (B : BodyLoose p l I.1 (headSpec (w0 :: lw_good) (mw_rm (d + 1) σ σF)) I.2.1 I.2.2.1 I.2.2.2.1 e s m args below meth c s₁) (hml : c.maxLocals = I.2.2.1) (hP : mw_Pc D ac sa b L xs base as σ args s)
    (hRt : mw_Ret p l e (mw_rm (d + 1) σ σF) s m args below meth c I.2.1 I.2.2.1 M.2.1 D ac (mw_ad b sa base) base L xs σ.1.length (mw_sz σ.1) Q r0 σF) (hT : mw_Thr p l e (mw_rm (d + 1) σ σF) s m args below meth c I.2.1 I.2.2.1 D ac (mw_ad b sa base) base L xs σ.1.length (mw_sz σ.1) Q (mv_lk M.2.2.2.1) r0 σF ths) (hCat : mw_Cat p l e (mw_rm (d + 1) σ σF) s m args below meth c I.2.1 I.2.2.1 (mw_ad b sa base) Q (mv_lk M.2.2.2.1) ct) :
    W p l e (mw_rm (d + 1) σ σF) s m args below meth c s.heap [] 0 0 Q (entryFrame m args I.2.2.1) := by
  obtain ⟨hM1, hM2, hM3, hM4⟩ := hF
  have X := mw_xOf (rt := M.2.1) B hml hP
  obtain ⟨rfl, hR, -⟩ := hP
  rw [← hM1] at X hRt hT hCat
  have key := mw_run (M := M) (e := e) (below := below) (n0 := σ.1.length) (s0 := mw_sz σ.1) (nm := I.1.name) X hC mw_room9 mw_roomB (mw_lkok hM4) hRt hT hCat (name_of_methodNamed B.named B.method).1 hM3 nf 0 _ _ _ hrun
  rw [lg_entry_eq]
  refine key.2 s.heap [] _ 0 0 ?_ hR mw_S0 (Nat.zero_add _) (Nat.zero_add _)
  rw [← mw_args, hM1]
  exact lv_entry _ (by rw [mw_sl]; exact hn)
theorem mw_okWOfN {hh : List (Nat × Nat × Nat × Nat)} (hF : mw_okF I M [] ct) (hy : plainName I.1.cls = true) (hrun : mv_run cl M nf 0 (mv_args 0 as) [] σ = some (r0, σF)) (hC : mw_CC l D ac sa b L xs base d cl) (hn : mv_wd as ≤ I.2.2.1) (hpre : σ.1 <+: σF.1)
    (hcat : ∀ (p : Program) (e : Env) (R : Room) (s : State) (m : MethodId) (args : Array Value) (below : List Frame) (meth : Method) (c : Code) (rt : Nat) (Q : State → Prop), mw_X p l R s m args meth c I.1.cls I.2.1 I.2.2.1 rt D ac sa b L xs base → c.exceptionTable.toList = tableOf hh → mw_Cat p l e R s m args below meth c I.2.1 I.2.2.1 (mw_ad b sa base) Q (mv_lk M.2.2.2.1) ct) : mw_OkW l D ac sa b L xs base I hh (d + 1) as σ r0 σF := by
  refine va_MetW (cc := I.2.1) (maxL := I.2.2.1) (ret := I.2.2.2.1) (hh := hh) hy rfl ?_
  intro p e s m args below meth c s₁ B hml hP
  have h4 := mw_sz_le hpre
  have htab : c.exceptionTable.toList = tableOf hh := vx_table (x := I.1) B (atoms_spec (ws := Cond.codeWith I.1 I.2.1 I.2.2.1 I.2.2.2.1 hh :: lw_good) B.pre _ List.mem_cons_self)
  exact mw_bodyGN hF hrun hC hn B hml hP (mw_retOf B.exec B.bytes (by rw [B.returns]; exact hF.2.1) B.notSynchronized h4.2 h4.1) (fun H locs ls cells slots pc i x n y z σ' _ h => nomatch h) (hcat _ _ _ _ _ _ _ _ _ M.2.1 _ (mw_xOf B hml hP) htab)
theorem mw_okTOfN (hF : mw_okF I M ths none) (hrt : M.2.1 = 3 ∨ M.2.1 = 4) (hy : plainName I.1.cls = true) (hrun : mv_run cl M nf 0 (mv_args 0 as) [] σ = some (r0, σF)) (hC : mw_CC l D ac sa b L xs base d cl) (hn : mv_wd as ≤ I.2.2.1) (hpre : σ.1 <+: σF.1)
    (hthr : ∀ (p : Program) (e : Env) (s : State) (m : MethodId) (args : Array Value) (below : List Frame) (meth : Method) (c : Code) (rt : Nat), mw_X p l (mw_rm (d + 1) σ σF) s m args meth c I.1.cls I.2.1 I.2.2.1 rt D ac sa b L xs base → meth.locks = false → (∀ x ∈ c.exceptionTable.toList, False) →
      mw_Thr p l e (mw_rm (d + 1) σ σF) s m args below meth c I.2.1 I.2.2.1 D ac (mw_ad b sa base) base L xs σ.1.length (mw_sz σ.1) (vx_MQ below (mw_QT D ac sa b L xs base r0 σF) (mw_XC D ac sa b L xs base r0 σF) args s (σF.1.length - σ.1.length) (mw_sz σF.1 - mw_sz σ.1) (fun q => base ≤ q)) (mv_lk M.2.2.2.1) r0 σF ths) : mw_OkT l D ac sa b L xs base I (d + 1) as σ r0 σF := by
  refine vx_ofW (cc := I.2.1) (maxL := I.2.2.1) (ret := I.2.2.2.1) hy rfl ?_
  intro p e s m args below meth c s₁ B hml hout hP
  have h4 := mw_sz_le hpre
  refine mw_bodyGN hF hrun hC hn B hml hP ?_ (hthr _ _ _ _ _ _ _ _ M.2.1 (mw_xOf B hml hP) B.notSynchronized hout) (fun H locs ls cells slots pc i M n y x h z lv rest q ce _ h9 => nomatch h9)
  intro H locs ls cells slots pc st hsz hR hS hc hs hret
  have hne : ∀ x, r0 ≠ some (.inl x) := by
    intro x hx
    rcases hret with ⟨-, y, -, -, h⟩ | ⟨-, y, -, h, -⟩ | ⟨-, y, -, h, -⟩ | ⟨-, -, h, -⟩
    · omega
    · rw [hx] at h; cases h
    · rw [hx] at h; cases h
    · rw [hx] at h; cases h
  exact vx_ret (mw_mono (fun o t h => ⟨hne, h⟩) (mw_retOf B.exec B.bytes (by rw [B.returns]; exact hF.2.1) B.notSynchronized h4.2 h4.1 H locs ls cells slots pc st hsz hR hS hc hs hret))
end MNG
