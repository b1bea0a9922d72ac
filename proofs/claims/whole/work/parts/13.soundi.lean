/-! SOUNDNESS of the small machine, 9: constants, switches, ends, calls that catch -/
theorem mw_fksz {c : Nat} {r : vw_C} (h : vwCl[c]? = some r) : (mw_fks.getD c []).length = r.2.2 := by
  match c with
  | 0 => cases h; rfl
  | 1 => cases h; rfl
  | 2 => cases h; rfl
  | 3 => cases h; rfl
  | 4 => cases h; rfl
  | 5 => cases h; rfl
  | 6 => cases h; rfl
  | 7 => cases h; rfl
  | n + 8 => cases h
theorem mw_sz_no {σ : mv_S} {c : Nat} {r : vw_C} (h : vwCl[c]? = some r) : mw_sz (mv_no σ c).1 = mw_sz σ.1 + r.2.2 := by
  show mw_sz (σ.1 ++ [.inl c]) = _
  rw [mw_sz_app, ← mw_fksz h]
  simp [mw_sz, mw_szT]
theorem mw_len_no (σ : mv_S) (c : Nat) : (mv_no σ c).1.length = σ.1.length + 1 := by
  show (σ.1 ++ [(.inl c : mv_T)]).length = _
  simp
/-- how a method of this kind of answer ends -/
def mw_isRet (cc : ByteArray) (rt : Nat) (r0 : Option mv_V) (pc : Nat) (st : List mv_V) : Prop :=
  (decode cc pc = .ok (.ireturn, 1) ∧ ∃ x, st = [.inl x] ∧ r0 = some (.inl x) ∧ (rt = 0 ∨ (rt = 1 ∧ (x = 0 ∨ x = 1)))) ∨
  (decode cc pc = .ok (.areturn, 1) ∧ ∃ x, st = [.inr (.inr x)] ∧ r0 = some (.inr (.inr x)) ∧ rt = 2) ∨
  (decode cc pc = .ok (.lreturn, 1) ∧ ∃ x, st = [.inr (.inl x)] ∧ r0 = some (.inr (.inl x)) ∧ rt = 3) ∨
  (decode cc pc = .ok (.return_, 1) ∧ st = [] ∧ r0 = none ∧ rt = 4)
section MRet
variable (p : Program) (l : Launch) (e : Env) (R : Room) (s : State) (m : MethodId) (args : Array Value) (below : List Frame) (meth : Method) (c : Code) (own : String) (cc : ByteArray) (nL rt : Nat) (D : va_G) (ac ad : Nat → Nat) (base L : Nat) (xs : Nat → Int32) (n0 s0 : Nat) (Q : State → Prop) (lk : Nat → mv_K) (r0 : Option mv_V) (σF : mv_S) (ths : List Nat) (ct : Option Nat)
def mw_Ret : Prop := ∀ (H : Heap) (locs : List Loc) (ls : Array Slot) (cells slots pc : Nat) (st : List mv_V), ls.size = nL → mw_R ad D ac base L xs σF H → va_S (fun q => base ≤ q) s.heap H locs → cells + n0 = σF.1.length → slots + s0 = mw_sz σF.1 → mw_isRet cc rt r0 pc st →
  W p l e R s m args below meth c H locs cells slots Q (F0 m pc ls (st.map (mw_v ad)))
/-- how it ends where it throws -/
def mw_Thr : Prop := ∀ (H : Heap) (locs : List Loc) (ls : Array Slot) (cells slots pc i x n y : Nat) (z : Int) (σ : mv_S), ls.size = nL → pc ∈ ths → lk i = (33, x, n, y, z) → decode cc pc = .ok (.new i, 3) → r0 = some (.inl (nI x)) → σF = mv_opq σ n → mw_R ad D ac base L xs σ H → va_S (fun q => base ≤ q) s.heap H locs → cells + n0 = σ.1.length → slots + s0 = mw_sz σ.1 →
  W p l e R s m args below meth c H locs cells slots Q (F0 m pc ls [])
/-- what is caught at a call -/
def mw_Cat : Prop := ∀ (H : Heap) (locs : List Loc) (ls : Array Slot) (cells slots pc i M n y x h : Nat) (z : Int) (lv : mv_L) (rest : List Value) (q : Nat) (ce : Cell), lv_has ls nL (lv.map fun q => (q.1, mw_v ad q.2)) → some pc = ct → lk i = (42, M, n, y, z) → decode cc pc = .ok (.invokevirtual i, 3) → (mv_hl M).lookup x = some h → 1 ≤ x → x ≤ 3 →
  H[q]? = some ce → ce.vm = .none → s.vm.findClass (mw_ex x) = some ce.cls → (∀ ls' : Array Slot, lv_has ls' nL ((mv_drop4 lv).map fun q => (q.1, mw_v ad q.2)) → W p l e R s m args below meth c H locs cells slots Q (F0 m h ls' [])) →
  vx_W p l e R s m args below meth c H locs cells slots Q (F0 m pc ls rest) q
end MRet
/-- a method with a table of its own -/
def mw_okMW (I : mw_I) (hh : List (Nat × Nat × Nat × Nat)) : Prop := Cond.codeWith I.1 I.2.1 I.2.2.1 I.2.2.2.1 hh ∈ lw_good ∧ Cond.initialized I.1.cls ∈ lw_good ∧ (I.1.cls ≠ "java/lang/invoke/MethodHandle" ∧ I.1.cls ≠ "java/lang/invoke/VarHandle") ∧ (parseMethodDescriptor I.1.desc).map (fun d => d.parameters.length) = some I.2.2.2.2.2 ∧ I.2.2.1 ≤ 20
/-- what a link of kind 40, 41, 42 says -/
def mw_okX (own : String) (i : Nat) (q : mv_K) : Prop := match q with
  | (40, M, n, _, z) => M = 125 ∧ ∃ I, mw_info M = some I ∧ mw_okMW I (mw_hh M) ∧ Cond.instanceMethod I.1 ∈ lw_good ∧ Cond.selects I.1.cls I.1 I.1 ∈ lw_good ∧ Cond.methodLink own i I.1 ∈ lw_good ∧ n = I.2.2.2.2.2 ∧ ∃ rc : vw_C, vwCl[z.toNat]? = some rc ∧ rc.1 = I.1.cls
  | (41, M, n, _, _) => M = 218 ∧ ∃ I, mw_info M = some I ∧ mw_okMW I (mw_hh M) ∧ Cond.static I.1 ∈ lw_good ∧ Cond.methodLink own i I.1 ∈ lw_good ∧ n = I.2.2.2.2.2
  | (42, M, n, _, z) => (M = 28 ∨ M = 122) ∧ ∃ I, mw_info M = some I ∧ mw_okM I ∧ I.2.2.2.2.1 = 1 ∧ Cond.methodLink own i I.1 ∈ lw_good ∧ n = I.2.2.2.2.2 ∧ ∃ rc : vw_C, vwCl[z.toNat]? = some rc ∧ rc.1 = I.1.cls
  | _ => True
theorem mv_swL {k : Nat → mv_O} {pc : Nat} {d : Int} {x : Int32} : ∀ {ps : List (Int × Int)}, (∀ q ∈ ps, (mv_c q.1).toInt = q.1) → mv_sw k pc d x ps = k (mv_jmp pc (Op.lookupswitch.offset ps d x.toInt))
  | [], _ => rfl
  | (m, o) :: r, h => by
    have hm : (mv_c m).toInt = m := h (m, o) List.mem_cons_self
    show (if x = mv_c m then k (mv_jmp pc o) else mv_sw k pc d x r) = _
    by_cases e : x = mv_c m
    · rw [if_pos e, Op.lookupswitch.offset_cons, if_pos (by rw [e, hm])]
    · rw [if_neg e, lv_osw e hm]
      exact mv_swL (fun q hq => h q (List.mem_cons_of_mem _ hq))
theorem mv_swO {d x : Int} {P : Int → Prop} : ∀ {ps : List (Int × Int)}, (∀ q ∈ ps, P q.2) → P d → P (Op.lookupswitch.offset ps d x)
  | [], _, h => h
  | (m, o) :: r, h, hd => by
    rw [Op.lookupswitch.offset_cons]
    split
    · exact h (m, o) List.mem_cons_self
    · exact mv_swO (fun q hq => h q (List.mem_cons_of_mem _ hq)) hd
theorem mv_swT {k : Nat → mv_O} {pc : Nat} {d : Int} {x : Int32} : ∀ {l : List Int} {lo : Int}, (∀ j : Nat, j < l.length → (mv_c (lo + j)).toInt = lo + j) → (x.toInt < lo ∨ lo + l.length ≤ x.toInt) → mv_sw k pc d x (mv_pairs lo l) = k (mv_jmp pc d)
  | [], lo, _, _ => rfl
  | o :: r, lo, h, hx => by
    have h0 : (mv_c lo).toInt = lo := by
      have := h 0 (by simp)
      simpa using this
    show (if x = mv_c lo then k (mv_jmp pc o) else mv_sw k pc d x (mv_pairs (lo + 1) r)) = _
    rw [if_neg]
    · refine mv_swT (fun j hj => ?_) ?_
      · have := h (j + 1) (by simp; omega)
        rw [show lo + ((j + 1 : Nat) : Int) = lo + 1 + (j : Int) by omega] at this
        exact this
      · simp only [List.length_cons] at hx
        omega
    · intro e
      rw [e, h0] at hx
      simp only [List.length_cons] at hx
      omega
theorem mv_swI {k : Nat → mv_O} {pc : Nat} {d : Int} {x : Int32} {o : Int} : ∀ {l : List Int} {lo : Int}, (∀ j : Nat, j < l.length → (mv_c (lo + j)).toInt = lo + j) → lo ≤ x.toInt → l[(x.toInt - lo).toNat]? = some o → mv_sw k pc d x (mv_pairs lo l) = k (mv_jmp pc o)
  | [], lo, _, _, h => by cases h
  | o1 :: r, lo, h, hx, ho => by
    have h0 : (mv_c lo).toInt = lo := by
      have := h 0 (by simp)
      simpa using this
    show (if x = mv_c lo then k (mv_jmp pc o1) else mv_sw k pc d x (mv_pairs (lo + 1) r)) = _
    by_cases e : x = mv_c lo
    · rw [if_pos e]
      rw [e, h0, show (lo - lo).toNat = 0 by omega] at ho
      cases ho
      rfl
    · rw [if_neg e]
      have hne : x.toInt ≠ lo := fun q => e (Int32.toInt_inj.mp (by rw [h0]; exact q))
      refine mv_swI (fun j hj => ?_) (by omega) ?_
      · have := h (j + 1) (by simp; omega)
        rw [show lo + ((j + 1 : Nat) : Int) = lo + 1 + (j : Int) by omega] at this
        exact this
      · rw [show (x.toInt - lo).toNat = (x.toInt - (lo + 1)).toNat + 1 by omega] at ho
        exact ho
theorem mv_hs_inv {x M : Nat} {t : Nat → mv_O} {q : Option mv_V × mv_S} (hM : M = 28 ∨ M = 122) (h1 : 1 ≤ x) (h3 : x ≤ 3) (h : mv_hs (nI x) t (mv_hl M) = some q) : ∃ hh, (mv_hl M).lookup x = some hh ∧ t hh = some q := by
  rcases hM with rfl | rfl
  · rcases (show x = 1 ∨ x = 2 ∨ x = 3 by omega) with rfl | rfl | rfl
    · exact ⟨43, rfl, h⟩
    · exact ⟨50, rfl, h⟩
    · exact ⟨60, rfl, h⟩
  · rcases (show x = 1 ∨ x = 2 ∨ x = 3 by omega) with rfl | rfl | rfl
    · exact ⟨18, rfl, h⟩
    · cases h
    · exact ⟨14, rfl, h⟩
section MS
variable {p : Program} {l : Launch} {e : Env} {R : Room} {s : State} {m : MethodId} {args : Array Value} {below : List Frame} {meth : Method} {c : Code} {own : String} {cc : ByteArray} {nL rt : Nat} {D : va_G} {ac sa : Nat → Nat} {b L : Nat} {xs : Nat → Int32} {base n0 s0 : Nat} {Q : State → Prop}
variable {cl : Nat → List mv_V → mv_S → mv_O} {lk : Nat → mv_K} {k : Nat → mv_L → List mv_V → mv_S → mv_O} {pc len : Nat} {lv : mv_L} {st : List mv_V} {σ σF : mv_S} {r0 : Option mv_V} {d : Nat}

theorem ms_new {i : Nat} (X : mw_X p l R s m args meth c own cc nL rt D ac sa b L xs base) (hB : σF.1.length ≤ R.cells + n0 ∧ mw_sz σF.1 ≤ R.slots + s0) (hd : decode cc pc = .ok (.new i, 3)) (hL : mw_okL own i (lk i)) {ths : List Nat} (hp : (lk i).1 = 33 → pc ∈ ths) (hT : mw_Thr p l e R s m args below meth c cc nL D ac (mw_ad b sa base) base L xs n0 s0 Q lk r0 σF ths) (hst : mv_step cl lk rt k (.new i) pc lv st σ = some (r0, σF)) (hk : ∀ pc' lv' st' σ', k pc' lv' st' σ' = some (r0, σF) → σ'.1 <+: σF.1 ∧ mw_G p l e R s m args below meth c nL D ac (mw_ad b sa base) base L xs n0 s0 Q pc' lv' st' σ') : σ.1 <+: σF.1 ∧ mw_G p l e R s m args below meth c nL D ac (mw_ad b sa base) base L xs n0 s0 Q pc lv st σ := by
  have hst : (match (generalizing := false) lk i with
    | (32, c, _, _, _) => mo_no σ c fun o σ' => k (pc + 3) lv (.inr (.inr o) :: st) σ'
    | (33, x, n, _, _) => (match (generalizing := false) st with
      | [] => some (some (.inl (nI x)), mv_opq σ n)
      | _ => none)
    | _ => none) = some (r0, σF) := hst
  split at hst
  · rename_i c0 _ _ _ hlk
    rw [hlk] at hL
    obtain ⟨rc, hrc, hl1, hl2, hl3⟩ := hL
    obtain ⟨h1, h2⟩ := hk _ _ _ _ hst
    have h3 := mw_sz_le h1
    rw [mw_sz_no hrc, mw_len_no] at h3
    refine ⟨List.IsPrefix.trans (List.prefix_append _ _) h1, fun H locs ls cells slots hl hR hS hc hs => ?_⟩
    refine mw_new X hrc hl1 hl2 hl3 hR hS hd (by omega) (by omega) (fun H1 locs1 hR1 hS1 => h2 H1 locs1 ls _ _ hl hR1 hS1 ?_ ?_)
    · rw [mw_len_no]; omega
    · rw [mw_sz_no hrc]; omega
  · rename_i x n y z hlk
    split at hst
    · have e1 := congrArg (fun q => q.map Prod.fst) hst
      have e2 := congrArg (fun q => q.map Prod.snd) hst
      have e3 : σF = mv_opq σ n := (Option.some.inj e2).symm
      have e4 : r0 = some (.inl (nI x)) := (Option.some.inj e1).symm
      refine ⟨?_, fun H locs ls cells slots hl hR hS hc hs => hT H locs ls cells slots pc i x n y z σ hl.1 (hp (by rw [hlk])) hlk hd e4 e3 hR hS hc hs⟩
      rw [e3]
      exact List.prefix_append _ _
    · cases hst
  · cases hst
theorem ms_ldc {i : Nat} (X : mw_X p l R s m args meth c own cc nL rt D ac sa b L xs base) (hd : decode cc pc = .ok (.ldc i, 2)) (hL : mw_okL own i (lk i)) (hst : mv_step cl lk rt k (.ldc i) pc lv st σ = some (r0, σF)) (hk : ∀ pc' lv' st' σ', k pc' lv' st' σ' = some (r0, σF) → σ'.1 <+: σF.1 ∧ mw_G p l e R s m args below meth c nL D ac (mw_ad b sa base) base L xs n0 s0 Q pc' lv' st' σ') : σ.1 <+: σF.1 ∧ mw_G p l e R s m args below meth c nL D ac (mw_ad b sa base) base L xs n0 s0 Q pc lv st σ := by
  have hst : (match (generalizing := false) lk i with
    | (20, _, _, _, n) => k (pc + 2) lv (.inl (mv_c n) :: st) σ
    | (22, a, _, _, _) => k (pc + 2) lv (.inr (.inr (some a)) :: st) σ
    | _ => none) = some (r0, σF) := hst
  split at hst
  · rename_i hlk
    rw [hlk] at hL
    obtain ⟨h1, h2⟩ := hk _ _ _ _ hst
    exact ⟨h1, fun H locs ls cells slots hl hR hS hc hs => lv_ldc X.1 X.2.1 X.2.2.2.1 (X.2.2.2.2.1 _ hL) hd (h2 H locs ls cells slots hl hR hS hc hs)⟩
  · rename_i a _ _ _ hlk
    rw [hlk] at hL
    obtain ⟨ho, ha1, ha6, hix⟩ := hL
    obtain ⟨h1, h2⟩ := hk _ _ _ _ hst
    refine ⟨h1, fun H locs ls cells slots hl hR hS hc hs => ?_⟩
    have hv := X.2.2.2.2.2.2.2.2.2.2.2.1 (a - 1) (by omega)
    rw [hix, ← ho, show a - 1 + 1 = a by omega] at hv
    have h9 := h2 H locs ls cells slots hl hR hS hc hs
    have e9 : mw_ad b sa base a = sa a := by
      unfold mw_ad
      rw [if_neg (by omega), if_pos (by omega)]
    refine va_ldcS X.1 X.2.1 X.2.2.2.1 hv hd ?_
    rw [← e9]
    exact h9
  · cases hst
theorem ms_ldc_w {i : Nat} (X : mw_X p l R s m args meth c own cc nL rt D ac sa b L xs base) (hd : decode cc pc = .ok (.ldc_w i, 3)) (hL : mw_okL own i (lk i)) (hst : mv_step cl lk rt k (.ldc_w i) pc lv st σ = some (r0, σF)) (hk : ∀ pc' lv' st' σ', k pc' lv' st' σ' = some (r0, σF) → σ'.1 <+: σF.1 ∧ mw_G p l e R s m args below meth c nL D ac (mw_ad b sa base) base L xs n0 s0 Q pc' lv' st' σ') : σ.1 <+: σF.1 ∧ mw_G p l e R s m args below meth c nL D ac (mw_ad b sa base) base L xs n0 s0 Q pc lv st σ := by
  have hst : (match (generalizing := false) lk i with
    | (20, _, _, _, n) => k (pc + 3) lv (.inl (mv_c n) :: st) σ
    | _ => none) = some (r0, σF) := hst
  split at hst
  · rename_i hlk
    rw [hlk] at hL
    obtain ⟨h1, h2⟩ := hk _ _ _ _ hst
    exact ⟨h1, fun H locs ls cells slots hl hR hS hc hs => lv_ldcw X.1 X.2.1 X.2.2.2.1 (X.2.2.2.2.1 _ hL) hd (h2 H locs ls cells slots hl hR hS hc hs)⟩
  · cases hst
theorem ms_ldc2_w {i : Nat} (X : mw_X p l R s m args meth c own cc nL rt D ac sa b L xs base) (hd : decode cc pc = .ok (.ldc2_w i, 3)) (hL : mw_okL own i (lk i)) (hst : mv_step cl lk rt k (.ldc2_w i) pc lv st σ = some (r0, σF)) (hk : ∀ pc' lv' st' σ', k pc' lv' st' σ' = some (r0, σF) → σ'.1 <+: σF.1 ∧ mw_G p l e R s m args below meth c nL D ac (mw_ad b sa base) base L xs n0 s0 Q pc' lv' st' σ') : σ.1 <+: σF.1 ∧ mw_G p l e R s m args below meth c nL D ac (mw_ad b sa base) base L xs n0 s0 Q pc lv st σ := by
  have hst : (match (generalizing := false) lk i with
    | (21, _, _, _, n) => k (pc + 3) lv (.inr (.inl (mv_cl n)) :: st) σ
    | _ => none) = some (r0, σF) := hst
  split at hst
  · rename_i hlk
    rw [hlk] at hL
    obtain ⟨h1, h2⟩ := hk _ _ _ _ hst
    exact ⟨h1, fun H locs ls cells slots hl hR hS hc hs => lv_ldc2 X.1 X.2.1 X.2.2.2.1 (X.2.2.2.2.1 _ hL) hd (h2 H locs ls cells slots hl hR hS hc hs)⟩
  · cases hst
theorem ms_tableswitch {df lo hi : Int} {offs : Array Int} {ln : Nat} (X : mw_X p l R s m args meth c own cc nL rt D ac sa b L xs base) (hd : decode cc pc = .ok (.tableswitch df lo hi offs, ln)) (hhi : hi + 1 = lo + offs.size) (hv : ∀ j : Nat, j < offs.toList.length → (mv_c (lo + j)).toInt = lo + j) (h0 : 0 ≤ (pc : Int) + df) (ho : ∀ o ∈ offs.toList, 0 ≤ (pc : Int) + o) (hst : mv_step cl lk rt k (.tableswitch df lo hi offs) pc lv st σ = some (r0, σF)) (hk : ∀ pc' lv' st' σ', k pc' lv' st' σ' = some (r0, σF) → σ'.1 <+: σF.1 ∧ mw_G p l e R s m args below meth c nL D ac (mw_ad b sa base) base L xs n0 s0 Q pc' lv' st' σ') : σ.1 <+: σF.1 ∧ mw_G p l e R s m args below meth c nL D ac (mw_ad b sa base) base L xs n0 s0 Q pc lv st σ := by
  have hst : (match (generalizing := false) st with
    | .inl x :: r => mv_sw (fun t => k t lv r σ) pc df x (mv_pairs lo offs.toList)
    | _ => none) = some (r0, σF) := hst
  split at hst
  · rename_i x r hz
    by_cases hx : x.toInt < lo ∨ hi < x.toInt
    · rw [mv_swT hv (by rw [Array.length_toList]; omega)] at hst
      obtain ⟨h1, h2⟩ := hk _ _ _ _ hst
      exact ⟨h1, fun H locs ls cells slots hl hR hS hc hs => lv_tableOut X.1 X.2.1 hd hx (mw_jmp h0) (h2 H locs ls cells slots hl hR hS hc hs)⟩
    · have hlt : (x.toInt - lo).toNat < offs.toList.length := by rw [Array.length_toList]; omega
      have hg : offs.toList[(x.toInt - lo).toNat]? = some offs.toList[(x.toInt - lo).toNat] := List.getElem?_eq_getElem hlt
      rw [mv_swI hv (by omega) hg] at hst
      obtain ⟨h1, h2⟩ := hk _ _ _ _ hst
      exact ⟨h1, fun H locs ls cells slots hl hR hS hc hs => lv_tableIn X.1 X.2.1 hd (by omega) (by omega) (by rw [← Array.getElem?_toList]; exact hg) (mw_jmp (ho _ (List.getElem_mem hlt))) (h2 H locs ls cells slots hl hR hS hc hs)⟩
  · cases hst
theorem ms_lookupswitch {df : Int} {ps : Array (Int × Int)} {ln : Nat} (X : mw_X p l R s m args meth c own cc nL rt D ac sa b L xs base) (hd : decode cc pc = .ok (.lookupswitch df ps, ln)) (hp : (ps.toList.zip (ps.toList.drop 1)).all (fun (a, next) => a.1 < next.1) = true) (hv : ∀ q ∈ ps.toList, (mv_c q.1).toInt = q.1) (h0 : 0 ≤ (pc : Int) + df) (ho : ∀ q ∈ ps.toList, 0 ≤ (pc : Int) + q.2) (hst : mv_step cl lk rt k (.lookupswitch df ps) pc lv st σ = some (r0, σF)) (hk : ∀ pc' lv' st' σ', k pc' lv' st' σ' = some (r0, σF) → σ'.1 <+: σF.1 ∧ mw_G p l e R s m args below meth c nL D ac (mw_ad b sa base) base L xs n0 s0 Q pc' lv' st' σ') : σ.1 <+: σF.1 ∧ mw_G p l e R s m args below meth c nL D ac (mw_ad b sa base) base L xs n0 s0 Q pc lv st σ := by
  have hst : (match (generalizing := false) st with
    | .inl x :: r => mv_sw (fun t => k t lv r σ) pc df x ps.toList
    | _ => none) = some (r0, σF) := hst
  split at hst
  · rename_i x r hz
    rw [mv_swL hv] at hst
    obtain ⟨h1, h2⟩ := hk _ _ _ _ hst
    exact ⟨h1, fun H locs ls cells slots hl hR hS hc hs => lv_lookup X.1 X.2.1 hd hp rfl (mw_jmp (mv_swO (P := fun o => 0 ≤ (pc : Int) + o) ho h0)) (h2 H locs ls cells slots hl hR hS hc hs)⟩
  · cases hst
theorem ms_ireturn (hd : decode cc pc = .ok (.ireturn, 1)) (hRt : mw_Ret p l e R s m args below meth c cc nL rt D ac (mw_ad b sa base) base L xs n0 s0 Q r0 σF) (hst : mv_step cl lk rt k .ireturn pc lv st σ = some (r0, σF)) : σ.1 <+: σF.1 ∧ mw_G p l e R s m args below meth c nL D ac (mw_ad b sa base) base L xs n0 s0 Q pc lv st σ := by
  have hst : (match (generalizing := false) st with
    | [.inl x] => if rt = 0 then some (some (.inl x), σ) else if rt = 1 then mo_z x (some (some (.inl x), σ)) else none
    | _ => none) = some (r0, σF) := hst
  split at hst
  · rename_i x hz
    split at hst
    · rename_i h0
      cases hst
      exact ⟨List.prefix_refl _, fun H locs ls cells slots hl hR hS hc hs => hRt H locs ls cells slots pc _ hl.1 hR hS hc hs (Or.inl ⟨hd, x, rfl, rfl, Or.inl h0⟩)⟩
    · split at hst
      · rename_i h0
        obtain ⟨hx, hst⟩ := mo_z_inv hst
        cases hst
        exact ⟨List.prefix_refl _, fun H locs ls cells slots hl hR hS hc hs => hRt H locs ls cells slots pc _ hl.1 hR hS hc hs (Or.inl ⟨hd, x, rfl, rfl, Or.inr ⟨h0, hx⟩⟩)⟩
      · cases hst
  · cases hst
theorem ms_areturn (hd : decode cc pc = .ok (.areturn, 1)) (hRt : mw_Ret p l e R s m args below meth c cc nL rt D ac (mw_ad b sa base) base L xs n0 s0 Q r0 σF) (hst : mv_step cl lk rt k .areturn pc lv st σ = some (r0, σF)) : σ.1 <+: σF.1 ∧ mw_G p l e R s m args below meth c nL D ac (mw_ad b sa base) base L xs n0 s0 Q pc lv st σ := by
  have hst : (match (generalizing := false) st with
    | [.inr (.inr x)] => if rt = 2 then some (some (.inr (.inr x)), σ) else none
    | _ => none) = some (r0, σF) := hst
  split at hst
  · rename_i x hz
    split at hst
    · rename_i h0
      cases hst
      exact ⟨List.prefix_refl _, fun H locs ls cells slots hl hR hS hc hs => hRt H locs ls cells slots pc _ hl.1 hR hS hc hs (Or.inr (Or.inl ⟨hd, x, rfl, rfl, h0⟩))⟩
    · cases hst
  · cases hst
theorem ms_lreturn (hd : decode cc pc = .ok (.lreturn, 1)) (hRt : mw_Ret p l e R s m args below meth c cc nL rt D ac (mw_ad b sa base) base L xs n0 s0 Q r0 σF) (hst : mv_step cl lk rt k .lreturn pc lv st σ = some (r0, σF)) : σ.1 <+: σF.1 ∧ mw_G p l e R s m args below meth c nL D ac (mw_ad b sa base) base L xs n0 s0 Q pc lv st σ := by
  have hst : (match (generalizing := false) st with
    | [.inr (.inl x)] => if rt = 3 then some (some (.inr (.inl x)), σ) else none
    | _ => none) = some (r0, σF) := hst
  split at hst
  · rename_i x hz
    split at hst
    · rename_i h0
      cases hst
      exact ⟨List.prefix_refl _, fun H locs ls cells slots hl hR hS hc hs => hRt H locs ls cells slots pc _ hl.1 hR hS hc hs (Or.inr (Or.inr (Or.inl ⟨hd, x, rfl, rfl, h0⟩)))⟩
    · cases hst
  · cases hst
theorem ms_return (hd : decode cc pc = .ok (.return_, 1)) (hRt : mw_Ret p l e R s m args below meth c cc nL rt D ac (mw_ad b sa base) base L xs n0 s0 Q r0 σF) (hst : mv_step cl lk rt k .return_ pc lv st σ = some (r0, σF)) : σ.1 <+: σF.1 ∧ mw_G p l e R s m args below meth c nL D ac (mw_ad b sa base) base L xs n0 s0 Q pc lv st σ := by
  have hst : (match (generalizing := false) st with
    | [] => if rt = 4 then some (none, σ) else none
    | _ => none) = some (r0, σF) := hst
  split at hst
  · split at hst
    · rename_i h0
      cases hst
      exact ⟨List.prefix_refl _, fun H locs ls cells slots hl hR hS hc hs => hRt H locs ls cells slots pc _ hl.1 hR hS hc hs (Or.inr (Or.inr (Or.inr ⟨hd, rfl, rfl, h0⟩)))⟩
    · cases hst
  · cases hst
end MS
