/-! SOUNDNESS of the small machine, 12: strings (isEmpty, length, charAt of the JDK on its own bytecode) -/
def yS_length : MethodName := ⟨"java/lang/String", "length", "()I"⟩
def yS_isEmpty : MethodName := ⟨"java/lang/String", "isEmpty", "()Z"⟩
def yS_charAt : MethodName := ⟨"java/lang/String", "charAt", "(I)C"⟩
def yS_coder : MethodName := ⟨"java/lang/String", "coder", "()B"⟩
def yS_latin : MethodName := ⟨"java/lang/String", "isLatin1", "()Z"⟩
def yS_check : MethodName := ⟨"java/lang/String", "checkIndex", "(II)V"⟩
def yS_at1 : MethodName := ⟨"java/lang/StringLatin1", "charAt", "([BI)C"⟩
def yS_pre : MethodName := ⟨"jdk/internal/util/Preconditions", "checkIndex", "(IILjava/util/function/BiFunction;)I"⟩
abbrev cS_length : ByteArray := prog_15_method_54_code
abbrev cS_isEmpty : ByteArray := prog_15_method_55_code
abbrev cS_charAt : ByteArray := prog_15_method_56_code
abbrev cS_coder : ByteArray := prog_15_method_152_code
abbrev cS_latin : ByteArray := prog_15_method_154_code
abbrev cS_check : ByteArray := prog_15_method_155_code
abbrev cS_at1 : ByteArray := prog_16_method_2_code
abbrev cS_pre : ByteArray := prog_22_method_11_code
/-- a method that changes nothing: with these arguments it says v -/
def mw_Pu (l : Launch) (y : MethodName) (bytes : ByteArray) (maxL : Nat) (ret : Option FieldType) (fr lo : Nat) (sa : Nat → Nat) (base : Nat) (P : State → Prop) (as : List Value) (v : Option Value) : Prop :=
  Met l y (Cond.code y bytes maxL ret :: lw_good) { frames := fr, cells := 0, slots := 0, locals := lo } (va_Pc as (fun U => (mw_E2 sa base U ∧ base ≤ U.heap.size) ∧ P U)) (fun _ st o t => o = .returned v ∧ t.heap = st.heap) 0 0 (fun _ => False)
/-- what stands at such a method's start -/
def mw_PuB (p : Program) (s : State) (m : MethodId) (args : Array Value) (meth : Method) (c : Code) (own : String) (cc : ByteArray) (nL : Nat) (ret : Option FieldType) (sa : Nat → Nat) (base : Nat) : Prop :=
  p.tables.exec = Jvm.exec ∧ c.code = cc ∧ c.maxLocals = nL ∧ s.vm.findClass own = some m.cls ∧ (∀ w ∈ lw_good, w.before args s = true) ∧ mw_E2 sa base s ∧ base ≤ s.heap.size ∧ meth.sig.returnType = ret ∧ meth.locks = false
theorem mw_Pu_of {l : Launch} {y : MethodName} {bytes : ByteArray} {maxL : Nat} {ret : Option FieldType} {fr lo : Nat} {sa : Nat → Nat} {base : Nat} {P : State → Prop} {as : List Value} {v : Option Value} (hy : plainName y.cls = true) (hl : (lg_sl as).length ≤ maxL)
    (body : ∀ (p : Program) (e : Env) (s : State) (m : MethodId) (below : List Frame) (meth : Method) (c : Code) (ls : Array Slot), mw_PuB p s m as.toArray meth c y.cls bytes maxL ret sa base → P s → lv_has ls maxL (lv_args 0 as) →
      W p l e { frames := fr, cells := 0, slots := 0, locals := lo } s m as.toArray below meth c s.heap [] 0 0 (MQ below (fun _ st o t => o = .returned v ∧ t.heap = st.heap) as.toArray s 0 0 (fun _ => False)) (F0 m 0 ls [])) : mw_Pu l y bytes maxL ret fr lo sa base P as v := by
  refine Met.ofW (cc := bytes) (maxL := maxL) (ret := ret) hy rfl ?_
  intro p e s m args below meth c s₁ B hml hP
  obtain ⟨rfl, ⟨hE, hb⟩, hPs⟩ := hP
  have hts0 : ∀ w ∈ (Cond.code y bytes maxL ret :: lw_good), w.before as.toArray s = true := atoms_spec (ws := Cond.code y bytes maxL ret :: lw_good) B.pre
  rw [lg_entry_eq]
  exact body p e s m below meth c _ ⟨B.exec, B.bytes, hml, findClass_of_methodNamed B.named, fun w hw => hts0 w (List.mem_cons_of_mem _ hw), hE, hb, B.returns, B.notSynchronized⟩ hPs (lv_entry as hl)
section PU
variable {p : Program} {l : Launch} {e : Env} {R : Room} {s : State} {m : MethodId} {args : Array Value} {below : List Frame} {meth : Method} {c : Code} {own : String} {cc : ByteArray} {nL : Nat} {sa : Nat → Nat} {base : Nat} {Q : State → Prop}
variable {H : Heap} {locs : List Loc} {ls : Array Slot} {cells slots pc index maxL fr lo np : Nat} {rest as : List Value} {v : Option Value} {y : MethodName} {bytes : ByteArray} {ret : Option FieldType} {a : Nat} {P : State → Prop}
theorem mw_puGo {aa : Array Value} {st1 : List Value} (hr : va_Run p l e R s m args below meth c H locs cells slots 0 0 (F0 m pc ls st1) rest ((fun _ st o t => o = .returned v ∧ t.heap = st.heap : Array Value → State → Outcome → State → Prop) aa) (fun _ => False))
    (kk : W p l e R s m args below meth c H locs cells slots Q (F0 m (pc + 3) ls (v.toList ++ rest))) : W p l e R s m args below meth c H locs cells slots Q (F0 m pc ls st1) := by
  intro T hT X
  obtain ⟨v', st₀, t, T', L0, h0, X', hL, e1, e2, ⟨hv, hh⟩, st⟩ := hr T hT X
  cases hv
  have hL0 : L0 = [] := by
    match L0, hL with
    | [], _ => rfl
    | q :: r, hL => exact absurd (hL q List.mem_cons_self) (fun h => h)
  subst hL0
  rw [List.append_nil] at X'
  obtain ⟨t2, a1, b1⟩ := kk T' (by rw [e1, hh, h0]) X'
  exact ⟨t2, st t2 a1, b1⟩
theorem mw_E2_same {H : Heap} {locs : List Loc} (hE : mw_E2 sa base s) (hb : base ≤ s.heap.size) (hS : va_S (fun q => base ≤ q) s.heap H locs) : ∀ U : State, U.heap = H → s.WarmedH U.vm → mw_E2 sa base U ∧ base ≤ U.heap.size :=
  fun U hU hW => ⟨mw_E2_warm hW hU hS hE, by rw [hU]; exact Nat.le_trans hb hS.1⟩
theorem mw_puBlind {as : List Value} (hPb : ∀ (U : State) (g : JFrame) (mk : MethodId) (a : Array Value), P U → P (U.calling g mk a)) : FrameBlind (va_Pc as (fun U => (mw_E2 sa base U ∧ base ≤ U.heap.size) ∧ P U)) := fun _ _ _ _ h => ⟨h.1, ⟨mw_E2_call h.2.1.1, h.2.1.2⟩, hPb _ _ _ _ h.2.2⟩
theorem mw_puV (hM : mw_Pu l y bytes maxL ret fr lo sa base P (.ref a :: as) v) (hPb : ∀ (U : State) (g : JFrame) (mk : MethodId) (a : Array Value), P U → P (U.calling g mk a)) (hP : ∀ U : State, U.heap = H → s.WarmedH U.vm → P U) (hx : p.tables.exec = Jvm.exec) (hb : c.code = cc) (hml : c.maxLocals = nL) (hown : s.vm.findClass own = some m.cls) (hts : ∀ w ∈ lw_good, w.before args s = true) (hE : mw_E2 sa base s) (hbs : base ≤ s.heap.size) (hlink : Cond.methodLink own index y ∈ lw_good) (hw1 : Cond.code y bytes maxL ret ∈ lw_good) (hw2 : Cond.instanceMethod y ∈ lw_good) (hw3 : Cond.selects y.cls y y ∈ lw_good) (hw4 : Cond.initialized y.cls ∈ lw_good)
    (hy : y.cls ≠ "java/lang/invoke/MethodHandle" ∧ y.cls ≠ "java/lang/invoke/VarHandle" ∧ (parseMethodDescriptor y.desc).map (fun d => d.parameters.length) = some np) (hn : as.length = np) (hcell : ∃ cell : Cell, H[a]? = some cell ∧ cell.vm.isStatics = false ∧ s.vm.findClass y.cls = some cell.cls) (hS : va_S (fun q => base ≤ q) s.heap H locs) (hsz : ls.size = nL) (hwd : (rest.map fun v => v.category).sum ≤ 8) (hR : fr + 1 ≤ R.frames ∧ 8 + (maxL + 11) + lo ≤ R.locals) (hc : cells ≤ R.cells ∧ slots ≤ R.slots)
    (hd : decode cc pc = .ok (.invokevirtual index, 3)) (kk : W p l e R s m args below meth c H locs cells slots Q (F0 m (pc + 3) ls (v.toList ++ rest))) : W p l e R s m args below meth c H locs cells slots Q (F0 m pc ls (as.reverse ++ .ref a :: rest)) := by
  refine mw_puGo (aa := (Value.ref a :: as).toArray) (va_runV (As := as) (rest := rest) (C := y.cls) (Ts := lw_good) ⟨hx, hb, hml, hown, hts⟩ hM (cwV np hts ?_ rfl rfl rfl ⟨rfl, hy⟩ hR) ⟨mw_puBlind hPb, hcell, fun U hU hW => ⟨rfl, mw_E2_same hE hbs hS U hU hW, hP U hU hW⟩⟩ rfl hn hsz rfl (lv_room hwd) hd ⟨hc.1, hc.2⟩) kk
  intro w hw
  unfold wsV at hw
  rcases List.mem_append.mp hw with hw | hw
  · simp only [List.mem_cons, List.not_mem_nil, or_false] at hw
    rcases hw with rfl | rfl | rfl | rfl
    · exact mw_goodIn _ hlink
    · exact mw_goodIn _ hw2
    · exact mw_goodIn _ hw3
    · exact mw_goodIn _ hw4
  · exact mw_goodC hw1 w hw
theorem mw_puS (hM : mw_Pu l y bytes maxL ret fr lo sa base P as v) (hPb : ∀ (U : State) (g : JFrame) (mk : MethodId) (a : Array Value), P U → P (U.calling g mk a)) (hP : ∀ U : State, U.heap = H → s.WarmedH U.vm → P U) (hx : p.tables.exec = Jvm.exec) (hb : c.code = cc) (hml : c.maxLocals = nL) (hown : s.vm.findClass own = some m.cls) (hts : ∀ w ∈ lw_good, w.before args s = true) (hE : mw_E2 sa base s) (hbs : base ≤ s.heap.size) (hlink : Cond.methodLink own index y ∈ lw_good) (hw1 : Cond.code y bytes maxL ret ∈ lw_good) (hw2 : Cond.static y ∈ lw_good) (hw4 : Cond.initialized y.cls ∈ lw_good)
    (hy : y.cls ≠ "java/lang/invoke/MethodHandle" ∧ y.cls ≠ "java/lang/invoke/VarHandle" ∧ (parseMethodDescriptor y.desc).map (fun d => d.parameters.length) = some np) (hn : as.length = np) (hS : va_S (fun q => base ≤ q) s.heap H locs) (hsz : ls.size = nL) (hwd : (rest.map fun v => v.category).sum ≤ 8) (hR : fr + 1 ≤ R.frames ∧ 8 + (maxL + 11) + lo ≤ R.locals) (hc : cells ≤ R.cells ∧ slots ≤ R.slots)
    (hd : decode cc pc = .ok (.invokestatic index, 3)) (kk : W p l e R s m args below meth c H locs cells slots Q (F0 m (pc + 3) ls (v.toList ++ rest))) : W p l e R s m args below meth c H locs cells slots Q (F0 m pc ls (as.reverse ++ rest)) := by
  refine mw_puGo (aa := as.toArray) (va_runS (As := as) (rest := rest) (Ts := lw_good) ⟨hx, hb, hml, hown, hts⟩ hM (va_cwS np hts ?_ rfl rfl rfl hy hR) ⟨mw_puBlind hPb, fun U hU hW => ⟨rfl, mw_E2_same hE hbs hS U hU hW, hP U hU hW⟩⟩ rfl hn hsz rfl (lv_room hwd) hd ⟨hc.1, hc.2⟩) kk
  intro w hw
  unfold va_wsS at hw
  rcases List.mem_append.mp hw with hw | hw
  · simp only [List.mem_cons, List.not_mem_nil, or_false] at hw
    rcases hw with rfl | rfl | rfl
    · exact mw_goodIn _ hlink
    · exact mw_goodIn _ hw2
    · exact mw_goodIn _ hw4
  · exact mw_goodC hw1 w hw
end PU
theorem mw_S0 {base : Nat} {s : State} : va_S (fun q => base ≤ q) s.heap s.heap [] := ⟨Nat.le_refl _, fun _ _ _ => rfl, fun _ h => nomatch h⟩
/-- the lengths of the six texts -/
def mw_len (i : Nat) : Nat := (mv_str (i + 1)).length
theorem mw_len_ok : ∀ i, i < 6 → (mw_strs.map fun t => t.length).getD i 0 = mw_len i ∧ mw_len i < 100 := by decide +kernel
theorem mw_byt_ok (i : Nat) (hi : i < 6) : ((List.range 6).map fun i => (mv_str (i + 1)).map fun x => nI x).getD i [] = (mv_str (i + 1)).map fun x => nI x := by
  simp [hi]
def mw_T0 : State → Prop := fun _ => True
theorem mw_T0b : ∀ (U : State) (g : JFrame) (mk : MethodId) (a : Array Value), mw_T0 U → mw_T0 (U.calling g mk a) := fun _ _ _ _ h => h
theorem mw_T0c {H : Heap} {s : State} : ∀ U : State, U.heap = H → s.WarmedH U.vm → mw_T0 U := fun _ _ _ => trivial
section STR
variable (l : Launch) {sa : Nat → Nat} {base : Nat} {i : Nat}
theorem mw_coder (hi : i < 6) : mw_Pu l yS_coder cS_coder 1 (some .byte) 1 30 sa base mw_T0 [.ref (sa (i + 1))] (some (.int 0)) := by
  refine mw_Pu_of (by decide +kernel) (Nat.le_refl 1) ?_
  intro p e s m below meth c ls ⟨hx, hb, hml, hown, hts, hE, hbs, hr, hlk⟩ hPs hl
  obtain ⟨⟨adV, h1, -⟩, -, -, -, -, -, -, -, -, ⟨hZ, -⟩, -⟩ := hE
  obtain ⟨-, hco, -, -⟩ := h1 i hi
  refine va_gets hx hb hZ mw_S0 hown (hts _ (mw_in (w := .fieldLink "java/lang/String" 38 "java/lang/String" "COMPACT_STRINGS" "Z") 445 (by decide +kernel) (by decide +kernel))) (fun _ h => h) (by decide +kernel : decode cS_coder 0 = .ok (.getstatic 38, 3)) ?_
  refine lv_if_eq hx hb (by decide +kernel : decode cS_coder 3 = .ok (.ifCond .eq 10, 3)) (tgt := 13) (by decide) (fun h => absurd h (by decide)) (fun _ => ?_)
  refine lv_aload_n hx hb (by decide +kernel : decode cS_coder 6 = .ok (.aload_n 0, 1)) rfl (lv_at hl 0 rfl) ?_
  refine vk_getf hx hb hco mw_S0 hown (hts _ (mw_in (w := .fieldLink "java/lang/String" 15 "java/lang/String" "coder" "B") 1585 (by decide +kernel) (by decide +kernel))) (fun _ h => h) (by decide +kernel : decode cS_coder 7 = .ok (.getfield 15, 3)) ?_
  refine lv_goto hx hb (by decide +kernel : decode cS_coder 10 = .ok (.goto 4, 3)) (tgt := 14) (by decide) ?_
  exact W.zret hx hb hr rfl (fun t ht _ => ⟨rfl, ht⟩) (fun q hq => nomatch hq) (by decide +kernel : decode cS_coder 14 = .ok (.ireturn, 1)) hlk
theorem mw_latin (hi : i < 6) : mw_Pu l yS_latin cS_latin 1 (some .boolean) 1 30 sa base mw_T0 [.ref (sa (i + 1))] (some (.int 1)) := by
  refine mw_Pu_of (by decide +kernel) (Nat.le_refl 1) ?_
  intro p e s m below meth c ls ⟨hx, hb, hml, hown, hts, hE, hbs, hr, hlk⟩ hPs hl
  obtain ⟨⟨adV, h1, -⟩, -, -, -, -, -, -, -, -, ⟨hZ, -⟩, -⟩ := hE
  obtain ⟨-, hco, -, -⟩ := h1 i hi
  refine va_gets hx hb hZ mw_S0 hown (hts _ (mw_in (w := .fieldLink "java/lang/String" 38 "java/lang/String" "COMPACT_STRINGS" "Z") 445 (by decide +kernel) (by decide +kernel))) (fun _ h => h) (by decide +kernel : decode cS_latin 0 = .ok (.getstatic 38, 3)) ?_
  refine lv_if_eq hx hb (by decide +kernel : decode cS_latin 3 = .ok (.ifCond .eq 14, 3)) (tgt := 17) (by decide) (fun h => absurd h (by decide)) (fun _ => ?_)
  refine lv_aload_n hx hb (by decide +kernel : decode cS_latin 6 = .ok (.aload_n 0, 1)) rfl (lv_at hl 0 rfl) ?_
  refine vk_getf hx hb hco mw_S0 hown (hts _ (mw_in (w := .fieldLink "java/lang/String" 15 "java/lang/String" "coder" "B") 1585 (by decide +kernel) (by decide +kernel))) (fun _ h => h) (by decide +kernel : decode cS_latin 7 = .ok (.getfield 15, 3)) ?_
  refine lv_if_ne hx hb (by decide +kernel : decode cS_latin 10 = .ok (.ifCond .ne 7, 3)) (tgt := 17) (by decide) (fun h => absurd rfl h) (fun _ => ?_)
  refine lv_iconst hx hb (by decide +kernel : decode cS_latin 13 = .ok (.iconst 1, 1)) rfl ?_
  refine lv_goto hx hb (by decide +kernel : decode cS_latin 14 = .ok (.goto 4, 3)) (tgt := 18) (by decide) ?_
  exact W.zret hx hb hr rfl (fun t ht _ => ⟨rfl, ht⟩) (fun q hq => nomatch hq) (by decide +kernel : decode cS_latin 18 = .ok (.ireturn, 1)) hlk
theorem mw_isEmptyS (hi : i < 6) : mw_Pu l yS_isEmpty cS_isEmpty 1 (some .boolean) 1 30 sa base mw_T0 [.ref (sa (i + 1))] (some (.int (if mw_len i = 0 then 1 else 0))) := by
  refine mw_Pu_of (by decide +kernel) (Nat.le_refl 1) ?_
  intro p e s m below meth c ls ⟨hx, hb, hml, hown, hts, hE, hbs, hr, hlk⟩ hPs hl
  obtain ⟨⟨adV, h1, -⟩, -⟩ := hE
  obtain ⟨-, -, hva, hT⟩ := h1 i hi
  obtain ⟨hle, hlt⟩ := mw_len_ok i hi
  rw [hle] at hT
  refine lv_aload_n hx hb (by decide +kernel : decode cS_isEmpty 0 = .ok (.aload_n 0, 1)) rfl (lv_at hl 0 rfl) ?_
  refine vk_getf hx hb hva mw_S0 hown (hts _ (mw_in (w := .fieldLink "java/lang/String" 9 "java/lang/String" "value" "[B") 1584 (by decide +kernel) (by decide +kernel))) (fun _ h => h) (by decide +kernel : decode cS_isEmpty 1 = .ok (.getfield 9, 3)) ?_
  refine va_tlen hx hb hT mw_S0 rfl (by decide +kernel : decode cS_isEmpty 4 = .ok (.arraylength, 1)) ?_
  have hz : Int32.ofNat (mw_len i) = 0 ↔ mw_len i = 0 := by
    constructor
    · intro h
      have h2 := congrArg Int32.toInt h
      rw [Int32.toInt_ofNat_of_lt (by omega)] at h2
      simpa using h2
    · intro h
      rw [h]
      rfl
  refine lv_if_ne hx hb (by decide +kernel : decode cS_isEmpty 5 = .ok (.ifCond .ne 7, 3)) (tgt := 12) (by decide) (fun h => ?_) (fun h => ?_)
  · rw [if_neg (fun q => h (hz.mpr q))]
    refine lv_iconst hx hb (by decide +kernel : decode cS_isEmpty 12 = .ok (.iconst 0, 1)) rfl ?_
    exact W.zret hx hb hr rfl (fun t ht _ => ⟨rfl, ht⟩) (fun q hq => nomatch hq) (by decide +kernel : decode cS_isEmpty 13 = .ok (.ireturn, 1)) hlk
  · rw [if_pos (hz.mp h)]
    refine lv_iconst hx hb (by decide +kernel : decode cS_isEmpty 8 = .ok (.iconst 1, 1)) rfl ?_
    refine lv_goto hx hb (by decide +kernel : decode cS_isEmpty 9 = .ok (.goto 4, 3)) (tgt := 13) (by decide) ?_
    exact W.zret hx hb hr rfl (fun t ht _ => ⟨rfl, ht⟩) (fun q hq => nomatch hq) (by decide +kernel : decode cS_isEmpty 13 = .ok (.ireturn, 1)) hlk
theorem mw_lengthS (hi : i < 6) : mw_Pu l yS_length cS_length 1 (some .int) 2 60 sa base mw_T0 [.ref (sa (i + 1))] (some (.int (nI (mw_len i)))) := by
  refine mw_Pu_of (by decide +kernel) (Nat.le_refl 1) ?_
  intro p e s m below meth c ls ⟨hx, hb, hml, hown, hts, hE, hbs, hr, hlk⟩ hPs hl
  obtain ⟨⟨adV, h1, -⟩, -⟩ := id hE
  obtain ⟨hO, -, hva, hT⟩ := h1 i hi
  obtain ⟨hle, hlt⟩ := mw_len_ok i hi
  rw [hle] at hT
  refine lv_aload_n hx hb (by decide +kernel : decode cS_length 0 = .ok (.aload_n 0, 1)) rfl (lv_at hl 0 rfl) ?_
  refine vk_getf hx hb hva mw_S0 hown (hts _ (mw_in (w := .fieldLink "java/lang/String" 9 "java/lang/String" "value" "[B") 1584 (by decide +kernel) (by decide +kernel))) (fun _ h => h) (by decide +kernel : decode cS_length 1 = .ok (.getfield 9, 3)) ?_
  refine va_tlen hx hb hT mw_S0 rfl (by decide +kernel : decode cS_length 4 = .ok (.arraylength, 1)) ?_
  refine lv_aload_n hx hb (by decide +kernel : decode cS_length 5 = .ok (.aload_n 0, 1)) rfl (lv_at hl 0 rfl) ?_
  obtain ⟨cell, g1, g2, g3, -⟩ := hO
  refine mw_puV (as := []) (np := 0) (mw_coder l hi) mw_T0b mw_T0c hx hb hml hown hts hE hbs (mw_in (w := .methodLink "java/lang/String" 335 yS_coder) 441 (by decide +kernel) (by decide +kernel)) (mw_in 444 (by decide +kernel) (by decide +kernel)) (mw_in 442 (by decide +kernel) (by decide +kernel)) (mw_in 443 (by decide +kernel) (by decide +kernel)) (mw_in 83 (by decide +kernel) (by decide +kernel)) (by decide +kernel) rfl ⟨cell, g1, g2, g3⟩ mw_S0 hl.1 (by simp [Value.category]) (by decide) ⟨Nat.le_refl _, Nat.le_refl _⟩ (by decide +kernel : decode cS_length 6 = .ok (.invokevirtual 335, 3)) ?_
  refine lv_ishr hx hb (by decide +kernel : decode cS_length 9 = .ok (.ishr, 1)) ?_
  have e9 : Int32.ofNat (mw_len i) >>> ((0 : Int32) &&& 31) = nI (mw_len i) := by
    have h9 : ∀ i, i < 6 → Int32.ofNat (mw_len i) >>> ((0 : Int32) &&& 31) = nI (mw_len i) := by decide +kernel
    exact h9 i hi
  rw [e9]
  exact W.zret hx hb hr rfl (fun t ht _ => ⟨rfl, ht⟩) (fun q hq => nomatch hq) (by decide +kernel : decode cS_length 10 = .ok (.ireturn, 1)) hlk
theorem mw_preS {j n : Int32} {v : Value} (hv : v.category = 1) (h0 : ¬ j < 0) (h1 : j < n) : mw_Pu l yS_pre cS_pre 3 (some .int) 1 30 sa base mw_T0 [.int j, .int n, v] (some (.int j)) := by
  refine mw_Pu_of (by decide +kernel) (by simp only [lg_sl, List.flatMap_cons, hv]; exact Nat.le_refl 3) ?_
  intro p e s m below meth c ls ⟨hx, hb, hml, hown, hts, hE, hbs, hr, hlk⟩ hPs hl
  refine lv_iload_n hx hb (by decide +kernel : decode cS_pre 0 = .ok (.iload_n 0, 1)) rfl (lv_at hl 0 rfl) ?_
  refine lv_if_lt hx hb (by decide +kernel : decode cS_pre 1 = .ok (.ifCond .lt 8, 3)) (tgt := 9) (by decide) (fun h => absurd h h0) (fun _ => ?_)
  refine lv_iload_n hx hb (by decide +kernel : decode cS_pre 4 = .ok (.iload_n 0, 1)) rfl (lv_at hl 0 rfl) ?_
  refine lv_iload_n hx hb (by decide +kernel : decode cS_pre 5 = .ok (.iload_n 1, 1)) rfl (lv_at hl 1 rfl) ?_
  refine lv_icmp_lt hx hb (by decide +kernel : decode cS_pre 6 = .ok (.if_icmp .lt 10, 3)) (tgt := 16) (by decide) (fun _ => ?_) (fun h => absurd h1 h)
  refine lv_iload_n hx hb (by decide +kernel : decode cS_pre 16 = .ok (.iload_n 0, 1)) rfl (lv_at hl 0 rfl) ?_
  exact W.zret hx hb hr rfl (fun t ht _ => ⟨rfl, ht⟩) (fun q hq => nomatch hq) (by decide +kernel : decode cS_pre 17 = .ok (.ireturn, 1)) hlk
theorem mw_checkS {j n : Int32} (h0 : ¬ j < 0) (h1 : j < n) : mw_Pu l yS_check cS_check 2 none 2 60 sa base mw_T0 [.int j, .int n] none := by
  refine mw_Pu_of (by decide +kernel) (Nat.le_refl 2) ?_
  intro p e s m below meth c ls ⟨hx, hb, hml, hown, hts, hE, hbs, hr, hlk⟩ hPs hl
  obtain ⟨-, -, -, -, -, -, -, -, -, ⟨-, hZ⟩, -⟩ := id hE
  refine lv_iload_n hx hb (by decide +kernel : decode cS_check 0 = .ok (.iload_n 0, 1)) rfl (lv_at hl 0 rfl) ?_
  refine lv_iload_n hx hb (by decide +kernel : decode cS_check 1 = .ok (.iload_n 1, 1)) rfl (lv_at hl 1 rfl) ?_
  have key : ∀ v : Value, v.category = 1 → va_Z "jdk/internal/util/Preconditions" "SIOOBE_FORMATTER" "Ljava/util/function/BiFunction;" v (fun q => base ≤ q) s s.heap → W p l e { frames := 2, cells := 0, slots := 0, locals := 60 } s m ([.int j, .int n] : List Value).toArray below meth c s.heap [] 0 0 (MQ below (fun _ st o t => o = .returned none ∧ t.heap = st.heap) ([.int j, .int n] : List Value).toArray s 0 0 (fun _ => False)) (F0 m 2 ls [.int n, .int j]) := by
    intro v hv hZ
    refine va_gets hx hb hZ mw_S0 hown (hts _ (mw_in (w := .fieldLink "java/lang/String" 1053 "jdk/internal/util/Preconditions" "SIOOBE_FORMATTER" "Ljava/util/function/BiFunction;") 461 (by decide +kernel) (by decide +kernel))) (fun _ h => h) (by decide +kernel : decode cS_check 2 = .ok (.getstatic 1053, 3)) ?_
    refine mw_puS (as := [.int j, .int n, v]) (rest := []) (np := 3) (mw_preS l hv h0 h1) mw_T0b mw_T0c hx hb hml hown hts hE hbs (mw_in (w := .methodLink "java/lang/String" 1059 yS_pre) 463 (by decide +kernel) (by decide +kernel)) (mw_in 465 (by decide +kernel) (by decide +kernel)) (mw_in 464 (by decide +kernel) (by decide +kernel)) (mw_in 85 (by decide +kernel) (by decide +kernel)) (by decide +kernel) rfl mw_S0 hl.1 (by decide) (by decide) ⟨Nat.le_refl _, Nat.le_refl _⟩ (by decide +kernel : decode cS_check 5 = .ok (.invokestatic 1059, 3)) ?_
    refine lv_pop hx hb (by decide +kernel : decode cS_check 8 = .ok (.pop, 1)) rfl ?_
    exact W.vret hx hb hr (fun t ht _ => ⟨rfl, ht⟩) (fun q hq => nomatch hq) (by decide +kernel : decode cS_check 9 = .ok (.return_, 1)) hlk
  rcases hZ with hZ | ⟨t, hZ⟩
  · exact key .null rfl hZ
  · exact key (.ref t) rfl hZ
theorem mw_chr : ∀ i, i < 6 → ∀ k, k < mw_len i → (((((mv_str (i + 1)).map fun x => nI x).getD k 0 &&& 255).toUInt32 % 65536).toInt32 = nI ((mv_str (i + 1)).getD k 0) ∧ ((nI ((mv_str (i + 1)).getD k 0)).toUInt32 % 65536).toInt32 = nI ((mv_str (i + 1)).getD k 0)) := by decide +kernel
theorem mw_ltS {j : Int32} {n : Nat} (hn : n < 100) (h0 : ¬ j < 0) (h1 : j.toNatClampNeg < n) : j < Int32.ofNat n := by
  have h2 : (0 : Int) ≤ j.toInt := by
    have := Int32.not_lt.mp h0
    simpa using Int32.le_iff_toInt_le.mp this
  rw [Int32.lt_iff_toInt_lt, Int32.toInt_ofNat_of_lt (by omega)]
  have h3 : j.toInt = (j.toNatClampNeg : Int) := by
    show j.toInt = ((j.toInt.toNat : Nat) : Int)
    omega
  omega
def mw_PB (base i q : Nat) : State → Prop := fun U => va_T .byte q (mw_len i) (fun k => .int (((mv_str (i + 1)).map fun x => nI x).getD k 0)) (fun q => base ≤ q) U U.heap
theorem mw_at1S {q : Nat} {j : Int32} (hi : i < 6) (h0 : ¬ j < 0) (h1 : j.toNatClampNeg < mw_len i) : mw_Pu l yS_at1 cS_at1 2 (some .char) 3 90 sa base (mw_PB base i q) [.ref q, .int j] (some (.int (nI ((mv_str (i + 1)).getD j.toNatClampNeg 0)))) := by
  refine mw_Pu_of (by decide +kernel) (Nat.le_refl 2) ?_
  intro p e s m below meth c ls ⟨hx, hb, hml, hown, hts, hE, hbs, hr, hlk⟩ hT hl
  obtain ⟨hle, hlt⟩ := mw_len_ok i hi
  obtain ⟨c1, c2⟩ := mw_chr i hi _ h1
  refine lv_iload_n hx hb (by decide +kernel : decode cS_at1 0 = .ok (.iload_n 1, 1)) rfl (lv_at hl 1 rfl) ?_
  refine lv_aload_n hx hb (by decide +kernel : decode cS_at1 1 = .ok (.aload_n 0, 1)) rfl (lv_at hl 0 rfl) ?_
  refine va_tlen hx hb hT mw_S0 rfl (by decide +kernel : decode cS_at1 2 = .ok (.arraylength, 1)) ?_
  refine mw_puS (as := [.int j, .int (Int32.ofNat (mw_len i))]) (rest := []) (np := 2) (mw_checkS l h0 (mw_ltS hlt h0 h1)) mw_T0b mw_T0c hx hb hml hown hts hE hbs (mw_in (w := .methodLink "java/lang/StringLatin1" 9 yS_check) 458 (by decide +kernel) (by decide +kernel)) (mw_in 460 (by decide +kernel) (by decide +kernel)) (mw_in 459 (by decide +kernel) (by decide +kernel)) (mw_in 83 (by decide +kernel) (by decide +kernel)) (by decide +kernel) rfl mw_S0 hl.1 (by decide) (by decide) ⟨Nat.le_refl _, Nat.le_refl _⟩ (by decide +kernel : decode cS_at1 3 = .ok (.invokestatic 9, 3)) ?_
  refine lv_aload_n hx hb (by decide +kernel : decode cS_at1 6 = .ok (.aload_n 0, 1)) rfl (lv_at hl 0 rfl) ?_
  refine lv_iload_n hx hb (by decide +kernel : decode cS_at1 7 = .ok (.iload_n 1, 1)) rfl (lv_at hl 1 rfl) ?_
  refine va_tb hx hb hT mw_S0 (fun h => h.elim h0 (fun h => absurd h1 (Nat.not_lt.mpr h))) rfl (by decide +kernel : decode cS_at1 8 = .ok (.baload, 1)) ?_
  refine lv_sipush hx hb (by decide +kernel : decode cS_at1 9 = .ok (.sipush 255, 3)) rfl ?_
  refine lv_iand hx hb (by decide +kernel : decode cS_at1 12 = .ok (.iand, 1)) ?_
  refine lv_i2c hx hb (by decide +kernel : decode cS_at1 13 = .ok (.i2c, 1)) c1 ?_
  exact W.zret hx hb hr (congrArg Value.int c2) (fun t ht _ => ⟨rfl, ht⟩) (fun q hq => nomatch hq) (by decide +kernel : decode cS_at1 14 = .ok (.ireturn, 1)) hlk
theorem mw_charAtS {j : Int32} (hi : i < 6) (h0 : ¬ j < 0) (h1 : j.toNatClampNeg < mw_len i) : mw_Pu l yS_charAt cS_charAt 2 (some .char) 4 120 sa base mw_T0 [.ref (sa (i + 1)), .int j] (some (.int (nI ((mv_str (i + 1)).getD j.toNatClampNeg 0)))) := by
  refine mw_Pu_of (by decide +kernel) (Nat.le_refl 2) ?_
  intro p e s m below meth c ls ⟨hx, hb, hml, hown, hts, hE, hbs, hr, hlk⟩ hPs hl
  obtain ⟨⟨adV, h2, -⟩, -⟩ := id hE
  obtain ⟨⟨cell, g1, g2, g3, -⟩, -, hva, hT⟩ := h2 i hi
  obtain ⟨hle, hlt⟩ := mw_len_ok i hi
  obtain ⟨c1, c2⟩ := mw_chr i hi _ h1
  rw [hle, mw_byt_ok i hi] at hT
  refine lv_aload_n hx hb (by decide +kernel : decode cS_charAt 0 = .ok (.aload_n 0, 1)) rfl (lv_at hl 0 rfl) ?_
  refine mw_puV (as := []) (np := 0) (mw_latin l hi) mw_T0b mw_T0c hx hb hml hown hts hE hbs (mw_in (w := .methodLink "java/lang/String" 492 yS_latin) 451 (by decide +kernel) (by decide +kernel)) (mw_in 454 (by decide +kernel) (by decide +kernel)) (mw_in 452 (by decide +kernel) (by decide +kernel)) (mw_in 453 (by decide +kernel) (by decide +kernel)) (mw_in 83 (by decide +kernel) (by decide +kernel)) (by decide +kernel) rfl ⟨cell, g1, g2, g3⟩ mw_S0 hl.1 (by decide) (by decide) ⟨Nat.le_refl _, Nat.le_refl _⟩ (by decide +kernel : decode cS_charAt 1 = .ok (.invokevirtual 492, 3)) ?_
  refine lv_if_eq hx hb (by decide +kernel : decode cS_charAt 4 = .ok (.ifCond .eq 12, 3)) (tgt := 16) (by decide) (fun h => absurd h (by decide)) (fun _ => ?_)
  refine lv_aload_n hx hb (by decide +kernel : decode cS_charAt 7 = .ok (.aload_n 0, 1)) rfl (lv_at hl 0 rfl) ?_
  refine vk_getf hx hb hva mw_S0 hown (hts _ (mw_in (w := .fieldLink "java/lang/String" 9 "java/lang/String" "value" "[B") 1584 (by decide +kernel) (by decide +kernel))) (fun _ h => h) (by decide +kernel : decode cS_charAt 8 = .ok (.getfield 9, 3)) ?_
  refine lv_iload_n hx hb (by decide +kernel : decode cS_charAt 11 = .ok (.iload_n 1, 1)) rfl (lv_at hl 1 rfl) ?_
  refine mw_puS (as := [.ref (adV i), .int j]) (rest := []) (np := 2) (mw_at1S l (q := adV i) hi h0 h1) (fun U g mk a h => va_T.moved (u := U) (U := U.calling g mk a) (Vm.Alike.refl U.vm) h) (fun U hU hW => ?_) hx hb hml hown hts hE hbs (mw_in (w := .methodLink "java/lang/String" 495 yS_at1) 455 (by decide +kernel) (by decide +kernel)) (mw_in 457 (by decide +kernel) (by decide +kernel)) (mw_in 456 (by decide +kernel) (by decide +kernel)) (mw_in 84 (by decide +kernel) (by decide +kernel)) (by decide +kernel) rfl mw_S0 hl.1 (by decide) (by decide) ⟨Nat.le_refl _, Nat.le_refl _⟩ (by decide +kernel : decode cS_charAt 12 = .ok (.invokestatic 495, 3)) ?_
  · show va_T _ _ _ _ _ U U.heap
    rw [hU]
    exact hT.moved hW.alike
  · exact W.zret hx hb hr (congrArg Value.int c2) (fun t ht _ => ⟨rfl, ht⟩) (fun q hq => nomatch hq) (by decide +kernel : decode cS_charAt 15 = .ok (.ireturn, 1)) hlk
end STR
section MSTR
variable {p : Program} {l : Launch} {e : Env} {R : Room} {s : State} {m : MethodId} {args : Array Value} {below : List Frame} {meth : Method} {c : Code} {own : String} {cc : ByteArray} {nL rt : Nat} {D : va_G} {ac sa : Nat → Nat} {b L : Nat} {xs : Nat → Int32} {base n0 s0 : Nat} {Q : State → Prop}
variable {cl : Nat → List mv_V → mv_S → mv_O} {lk : Nat → mv_K} {k : Nat → mv_L → List mv_V → mv_S → mv_O} {pc len : Nat} {lv : mv_L} {st : List mv_V} {σ σF : mv_S} {r0 : Option mv_V} {d i : Nat}
theorem mo_str_inv {a : Nat} {k : List Nat → mv_O} {q : Option mv_V × mv_S} (h : mo_str a k = some q) : 1 ≤ a ∧ a ≤ 6 ∧ k (mv_str a) = some q := by
  unfold mo_str at h
  split at h
  · rename_i g
    exact ⟨g.1, g.2, h⟩
  · cases h
theorem mw_cellS {H : Heap} {locs : List Loc} {a : Nat} (X : mw_X p l R s m args meth c own cc nL rt D ac sa b L xs base) (hS : va_S (fun q => base ≤ q) s.heap H locs) (h1 : 1 ≤ a) (h6 : a ≤ 6) : mw_ad b sa base a = sa (a - 1 + 1) ∧ ∃ cell : Cell, H[sa (a - 1 + 1)]? = some cell ∧ cell.vm.isStatics = false ∧ s.vm.findClass "java/lang/String" = some cell.cls := by
  obtain ⟨-, -, -, -, -, -, -, -, -, -, ⟨adV, h2, -⟩, -⟩ := X
  obtain ⟨cell, g1, g2, g3, -⟩ := (h2 (a - 1) (by omega)).1.kept hS.2.1
  refine ⟨?_, cell, g1, g2, g3⟩
  unfold mw_ad
  rw [if_neg (by omega), if_pos (by omega), show a - 1 + 1 = a by omega]
theorem mq_c10 (X : mw_X p l R s m args meth c own cc nL rt D ac sa b L xs base) (hB : σF.1.length ≤ R.cells + n0 ∧ mw_sz σF.1 ≤ R.slots + s0) (hd : decode cc pc = .ok (.invokevirtual i, 3)) {M n c0 : Nat} {z : Int} (hL : mw_okL own i (10, M, n, c0, z)) (hst : mv_call cl (10, M, n, c0, z) st σ (fun st' σ' => k (pc + 3) lv st' σ') = some (r0, σF)) (hk : ∀ pc' lv' st' σ', k pc' lv' st' σ' = some (r0, σF) → σ'.1 <+: σF.1 ∧ mw_G p l e R s m args below meth c nL D ac (mw_ad b sa base) base L xs n0 s0 Q pc' lv' st' σ') : σ.1 <+: σF.1 ∧ mw_G p l e R s m args below meth c nL D ac (mw_ad b sa base) base L xs n0 s0 Q pc lv st σ := by
  have hst : (match (generalizing := false) st with
    | .inr (.inr o) :: r => mo_rf o fun a => mo_str a fun s => if mv_wd r ≤ 8 then k (pc + 3) lv (.inl (if s.length = 0 then 1 else 0) :: r) σ else none
    | _ => none) = some (r0, σF) := hst
  split at hst
  · rename_i o r hz
    obtain ⟨a, ho9, hs9⟩ := mo_rf_inv hst
    clear hst
    subst ho9
    obtain ⟨a1, a6, hst⟩ := mo_str_inv hs9
    clear hs9
    split at hst
    · rename_i hwd
      obtain ⟨h1, h2⟩ := hk _ _ _ _ hst
      have h3 := mw_sz_le h1
      refine ⟨h1, fun H locs ls cells slots hl hR hS hc hs => ?_⟩
      obtain ⟨e1, hcell⟩ := mw_cellS X hS a1 a6
      have h9 := h2 H locs ls cells slots hl hR hS hc hs
      have hRm := X.2.2.2.2.2.2.2.2.2.1
      have e2 : mw_len (a - 1) = (mv_str a).length := by unfold mw_len; rw [show a - 1 + 1 = a by omega]
      show W p l e R s m args below meth c H locs cells slots Q (F0 m pc ls (.ref (mw_ad b sa base a) :: r.map (mw_v (mw_ad b sa base))))
      rw [e1]
      refine mw_puV (as := []) (np := 0) (mw_isEmptyS l (i := a - 1) (by omega)) mw_T0b mw_T0c X.1 X.2.1 X.2.2.1 X.2.2.2.1 X.2.2.2.2.1 X.2.2.2.2.2.2.2.2.2.2 X.2.2.2.2.2.2.1 hL (mw_in (w := .code yS_isEmpty cS_isEmpty 1 (some .boolean)) 436 (by decide +kernel) (by decide +kernel)) (mw_in (w := .instanceMethod yS_isEmpty) 434 (by decide +kernel) (by decide +kernel)) (mw_in (w := .selects yS_isEmpty.cls yS_isEmpty yS_isEmpty) 435 (by decide +kernel) (by decide +kernel)) (mw_in (w := .initialized "java/lang/String") 83 (by decide +kernel) (by decide +kernel)) (by decide +kernel) rfl hcell hS hl.1 (by rw [mw_wd]; exact hwd) ⟨by omega, by omega⟩ ⟨by omega, by omega⟩ hd ?_
      rw [e2]
      exact h9
    · cases hst
  · cases hst
theorem mq_c11 (X : mw_X p l R s m args meth c own cc nL rt D ac sa b L xs base) (hB : σF.1.length ≤ R.cells + n0 ∧ mw_sz σF.1 ≤ R.slots + s0) (hd : decode cc pc = .ok (.invokevirtual i, 3)) {M n c0 : Nat} {z : Int} (hL : mw_okL own i (11, M, n, c0, z)) (hst : mv_call cl (11, M, n, c0, z) st σ (fun st' σ' => k (pc + 3) lv st' σ') = some (r0, σF)) (hk : ∀ pc' lv' st' σ', k pc' lv' st' σ' = some (r0, σF) → σ'.1 <+: σF.1 ∧ mw_G p l e R s m args below meth c nL D ac (mw_ad b sa base) base L xs n0 s0 Q pc' lv' st' σ') : σ.1 <+: σF.1 ∧ mw_G p l e R s m args below meth c nL D ac (mw_ad b sa base) base L xs n0 s0 Q pc lv st σ := by
  have hst : (match (generalizing := false) st with
    | .inr (.inr o) :: r => mo_rf o fun a => mo_str a fun s => if mv_wd r ≤ 8 then k (pc + 3) lv (.inl (nI s.length) :: r) σ else none
    | _ => none) = some (r0, σF) := hst
  split at hst
  · rename_i o r hz
    obtain ⟨a, ho9, hs9⟩ := mo_rf_inv hst
    clear hst
    subst ho9
    obtain ⟨a1, a6, hst⟩ := mo_str_inv hs9
    clear hs9
    split at hst
    · rename_i hwd
      obtain ⟨h1, h2⟩ := hk _ _ _ _ hst
      have h3 := mw_sz_le h1
      refine ⟨h1, fun H locs ls cells slots hl hR hS hc hs => ?_⟩
      obtain ⟨e1, hcell⟩ := mw_cellS X hS a1 a6
      have h9 := h2 H locs ls cells slots hl hR hS hc hs
      have hRm := X.2.2.2.2.2.2.2.2.2.1
      have e2 : mw_len (a - 1) = (mv_str a).length := by unfold mw_len; rw [show a - 1 + 1 = a by omega]
      show W p l e R s m args below meth c H locs cells slots Q (F0 m pc ls (.ref (mw_ad b sa base a) :: r.map (mw_v (mw_ad b sa base))))
      rw [e1]
      refine mw_puV (as := []) (np := 0) (mw_lengthS l (i := a - 1) (by omega)) mw_T0b mw_T0c X.1 X.2.1 X.2.2.1 X.2.2.2.1 X.2.2.2.2.1 X.2.2.2.2.2.2.2.2.2.2 X.2.2.2.2.2.2.1 hL (mw_in (w := .code yS_length cS_length 1 (some .int)) 440 (by decide +kernel) (by decide +kernel)) (mw_in (w := .instanceMethod yS_length) 438 (by decide +kernel) (by decide +kernel)) (mw_in (w := .selects yS_length.cls yS_length yS_length) 439 (by decide +kernel) (by decide +kernel)) (mw_in (w := .initialized "java/lang/String") 83 (by decide +kernel) (by decide +kernel)) (by decide +kernel) rfl hcell hS hl.1 (by rw [mw_wd]; exact hwd) ⟨by omega, by omega⟩ ⟨by omega, by omega⟩ hd ?_
      rw [e2]
      exact h9
    · cases hst
  · cases hst
theorem mq_c12 (X : mw_X p l R s m args meth c own cc nL rt D ac sa b L xs base) (hB : σF.1.length ≤ R.cells + n0 ∧ mw_sz σF.1 ≤ R.slots + s0) (hd : decode cc pc = .ok (.invokevirtual i, 3)) {M n c0 : Nat} {z : Int} (hL : mw_okL own i (12, M, n, c0, z)) (hst : mv_call cl (12, M, n, c0, z) st σ (fun st' σ' => k (pc + 3) lv st' σ') = some (r0, σF)) (hk : ∀ pc' lv' st' σ', k pc' lv' st' σ' = some (r0, σF) → σ'.1 <+: σF.1 ∧ mw_G p l e R s m args below meth c nL D ac (mw_ad b sa base) base L xs n0 s0 Q pc' lv' st' σ') : σ.1 <+: σF.1 ∧ mw_G p l e R s m args below meth c nL D ac (mw_ad b sa base) base L xs n0 s0 Q pc lv st σ := by
  have hst : (match (generalizing := false) st with
    | .inl i :: .inr (.inr o) :: r => mo_rf o fun a => mo_str a fun s => if mv_wd r ≤ 8 then mo_ix i s.length fun j => k (pc + 3) lv (.inl (nI (s.getD j 0)) :: r) σ else none
    | _ => none) = some (r0, σF) := hst
  split at hst
  · rename_i j o r hz
    obtain ⟨a, ho9, hs9⟩ := mo_rf_inv hst
    clear hst
    subst ho9
    obtain ⟨a1, a6, hst⟩ := mo_str_inv hs9
    clear hs9
    split at hst
    · rename_i hwd
      obtain ⟨hin, hst⟩ := mo_ix_inv hst
      obtain ⟨h1, h2⟩ := hk _ _ _ _ hst
      have h3 := mw_sz_le h1
      refine ⟨h1, fun H locs ls cells slots hl hR hS hc hs => ?_⟩
      obtain ⟨e1, hcell⟩ := mw_cellS X hS a1 a6
      have h9 := h2 H locs ls cells slots hl hR hS hc hs
      have hRm := X.2.2.2.2.2.2.2.2.2.1
      have e2 : mw_len (a - 1) = (mv_str a).length := by unfold mw_len; rw [show a - 1 + 1 = a by omega]
      have e3 : a - 1 + 1 = a := by omega
      show W p l e R s m args below meth c H locs cells slots Q (F0 m pc ls (.int j :: .ref (mw_ad b sa base a) :: r.map (mw_v (mw_ad b sa base))))
      rw [e1]
      refine mw_puV (as := [.int j]) (np := 1) (mw_charAtS l (i := a - 1) (by omega) (fun h => hin (Or.inl h)) (by rw [e2]; exact Nat.not_le.mp fun h => hin (Or.inr h))) mw_T0b mw_T0c X.1 X.2.1 X.2.2.1 X.2.2.2.1 X.2.2.2.2.1 X.2.2.2.2.2.2.2.2.2.2 X.2.2.2.2.2.2.1 hL (mw_in (w := .code yS_charAt cS_charAt 2 (some .char)) 450 (by decide +kernel) (by decide +kernel)) (mw_in (w := .instanceMethod yS_charAt) 448 (by decide +kernel) (by decide +kernel)) (mw_in (w := .selects yS_charAt.cls yS_charAt yS_charAt) 449 (by decide +kernel) (by decide +kernel)) (mw_in (w := .initialized "java/lang/String") 83 (by decide +kernel) (by decide +kernel)) (by decide +kernel) rfl hcell hS hl.1 (by rw [mw_wd]; exact hwd) ⟨by omega, by omega⟩ ⟨by omega, by omega⟩ hd ?_
      rw [e3]
      exact h9
    · cases hst
  · cases hst
end MSTR
