/-! SOUNDNESS of the small machine, 6: contracts, calls -/
theorem mw_AOA_moved {u U : State} (hvm : u.vm.Alike U.vm) (h : mw_AA u) : mw_AA U := by
  obtain ⟨cI, cA, k, h1, h2, h3, h4⟩ := h
  obtain ⟨k', hk', he⟩ := hvm.2.2 _ _ h2
  exact ⟨cI, cA, k', by rw [hvm.findClass]; exact h1, hk', by rw [he]; exact h3, by rw [hvm.findClass]; exact h4⟩
theorem mw_AA_of {A : Array Value} {U : State} (h : (Cond.arrayOver (.array .int)).before A U = true) : mw_AA U := by
  have e : (FieldType.array .int).toString = "[I" := by decide +kernel
  have e2 : ("[" ++ (FieldType.array .int).toString) = "[[I" := by decide +kernel
  unfold Cond.before at h
  simp only [Cond.holds, Cond.value, beq_iff_eq] at h
  rw [e] at h
  cases h1 : U.vm.findClass "[I" with
  | none => rw [h1] at h; simp at h
  | some cI =>
    rw [h1] at h
    simp only [Option.bind_some, Option.bind_eq_some_iff, Option.map_eq_some_iff] at h
    obtain ⟨cA, hi, k, hk, hb⟩ := h
    obtain ⟨hlt, hp, -⟩ := Array.findIdx?_eq_some_iff_getElem.mp hi
    have hkk : U.vm.classes[cA] = k := (Array.getElem?_eq_some_iff.mp hk).2
    rw [hkk] at hp
    cases hkind : k.kind with
    | array comp ty =>
      rw [hkind] at hb hp
      simp only [Bool.and_eq_true, decide_eq_true_eq, beq_iff_eq] at hb hp
      exact ⟨cI, cA, k, h1, hk, by rw [hkind, hp, hb.1], hb.2⟩
    | _ => rw [hkind] at hb; simp at hb
theorem mw_E2_warm {sa : Nat → Nat} {base : Nat} {s U : State} {H : Heap} {locs : List Loc} (hW : s.WarmedH U.vm) (hH : U.heap = H) (hS : va_S (fun q => base ≤ q) s.heap H locs) (h : mw_E2 sa base s) : mw_E2 sa base U := by
  obtain ⟨⟨adV, h1⟩, h2, ⟨h3, h4⟩, h5, h6, h7, h8, ⟨h9, h10⟩, h11, ⟨h12, h13⟩, h14⟩ := h
  have hk : ∀ a : Nat, a < s.heap.size → ¬ (base ≤ a) → U.heap[a]? = s.heap[a]? := fun a g1 g2 => by rw [hH]; exact hS.2.1 a g1 g2
  refine ⟨⟨adV, vk_S.moved hW.alike (h1.kept hk)⟩, fun i hi => (h2 i hi).warm hW, ⟨h3.moved hW.alike, h4.moved hW.alike⟩, fun q hq => (h5 q hq).warmM hW, fun x hx => (h6 x hx).warmC hW, fun y hy => (h7 y hy).warmD hW, fun x hx y hy hn => (h8 x hx y hy hn).moved hW.alike, ⟨vx_Zq.moved hW.alike (h9.kept hk), vx_Zq.moved hW.alike (h10.kept hk)⟩, fun q hq => ?_, ⟨va_Z.moved hW.alike (h12.kept hk), va_Zq.moved hW.alike (h13.kept hk)⟩, mw_AOA_moved hW.alike h14⟩
  obtain ⟨a, ha⟩ := h11 q hq
  exact ⟨a, ha.warm hW⟩
theorem mw_E2_call {sa : Nat → Nat} {base : Nat} {U : State} {g : JFrame} {mk : MethodId} {a : Array Value} (h : mw_E2 sa base U) : mw_E2 sa base (U.calling g mk a) := by
  obtain ⟨⟨adV, h1⟩, h2, ⟨h3, h4⟩, h5, h6, h7, h8, ⟨h9, h10⟩, h11, ⟨h12, h13⟩, h14⟩ := h
  refine ⟨⟨adV, vk_S.moved (U := U.calling g mk a) (Vm.Alike.refl U.vm) h1⟩, fun i hi => vk_R.same (U := U.calling g mk a) rfl (h2 i hi), ⟨h3.moved (U := U.calling g mk a) (Vm.Alike.refl U.vm), h4.moved (U := U.calling g mk a) (Vm.Alike.refl U.vm)⟩, fun q hq => va_Nw.same (U := U.calling g mk a) rfl rfl (h5 q hq), fun x hx => va_Nw.same (U := U.calling g mk a) rfl rfl (h6 x hx), fun y hy => va_Nw.same (U := U.calling g mk a) rfl rfl (h7 y hy), fun x hx y hy hn => (h8 x hx y hy hn).moved (U := U.calling g mk a) (Vm.Alike.refl U.vm), ⟨vx_Zq.moved (U := U.calling g mk a) (Vm.Alike.refl U.vm) h9, vx_Zq.moved (U := U.calling g mk a) (Vm.Alike.refl U.vm) h10⟩, fun q hq => ?_, ⟨va_Z.moved (U := U.calling g mk a) (Vm.Alike.refl U.vm) h12, va_Zq.moved (U := U.calling g mk a) (Vm.Alike.refl U.vm) h13⟩, mw_AOA_moved (U := U.calling g mk a) (Vm.Alike.refl U.vm) h14⟩
  obtain ⟨x, hx⟩ := h11 q hq
  exact ⟨x, vk_R.same (U := U.calling g mk a) rfl hx⟩
section ME
variable {D : va_G} {ac sa : Nat → Nat} {b L : Nat} {xs : Nat → Int32} {base : Nat}
theorem mw_E_warm {s U : State} {H : Heap} {locs : List Loc} (hW : s.WarmedH U.vm) (hH : U.heap = H) (hS : va_S (fun q => base ≤ q) s.heap H locs) (h : mw_E D ac sa b L xs base s) : mw_E D ac sa b L xs base U := by
  obtain ⟨h1, h2, h3, h4, h5⟩ := h
  refine ⟨h1.moved hW.alike, by rw [hH]; exact Nat.le_trans h2 hS.1, (h3.kept ?_).moved hW.alike, h4, mw_E2_warm hW hH hS h5⟩
  rw [hH]
  exact hS.2.1 b (Nat.lt_of_lt_of_le h4 h2) (Nat.not_le.mpr h4)
theorem mw_E_call {U : State} {g : JFrame} {mk : MethodId} {a : Array Value} (h : mw_E D ac sa b L xs base U) : mw_E D ac sa b L xs base (U.calling g mk a) := by
  obtain ⟨h1, h2, h3, h4, h5⟩ := h
  exact ⟨h1.moved (U := U.calling g mk a) (Vm.Alike.refl U.vm), h2, h3.moved (U := U.calling g mk a) (Vm.Alike.refl U.vm), h4, mw_E2_call h5⟩
theorem mw_X_E {p : Program} {l : Launch} {R : Room} {s : State} {m : MethodId} {args : Array Value} {meth : Method} {c : Code} {own : String} {cc : ByteArray} {nL rt : Nat} (X : mw_X p l R s m args meth c own cc nL rt D ac sa b L xs base) : mw_E D ac sa b L xs base s := by
  obtain ⟨-, -, -, -, -, h1, h2, h3, h4, -, h5⟩ := X
  exact ⟨h1, h2, h3, h4, h5⟩
/-- a method's start: its arguments, the memory -/
def mw_Pc (D : va_G) (ac sa : Nat → Nat) (b L : Nat) (xs : Nat → Int32) (base : Nat) (as : List mv_V) (σ : mv_S) : Array Value → State → Prop := va_Pc (as.map (mw_v (mw_ad b sa base))) (fun U => mw_R (mw_ad b sa base) D ac base L xs σ U.heap ∧ mw_E D ac sa b L xs base U)
/-- its end: its answer, the memory then -/
def mw_Qc (D : va_G) (ac sa : Nat → Nat) (b L : Nat) (xs : Nat → Int32) (base : Nat) (r : Option mv_V) (σ : mv_S) : Array Value → State → Outcome → State → Prop := fun _ st o t => o = .returned (r.map (mw_v (mw_ad b sa base))) ∧ mw_R (mw_ad b sa base) D ac base L xs σ t.heap ∧ va_F (fun q => base ≤ q) st t
theorem mw_blind {as : List mv_V} {σ : mv_S} : FrameBlind (mw_Pc D ac sa b L xs base as σ) := fun _ _ _ _ h => ⟨h.1, h.2.1, mw_E_call h.2.2⟩
abbrev mw_I : Type := MethodName × ByteArray × Nat × Option FieldType × Nat × Nat
/-- the room of a method at depth d that makes these cells -/
def mw_rm (d : Nat) (σ σ' : mv_S) : Room := { frames := d + 8, cells := σ'.1.length - σ.1.length, slots := mw_sz σ'.1 - mw_sz σ.1, locals := 64 * d + 500 }
/-- what a call at depth d means -/
def mw_Ok (l : Launch) (D : va_G) (ac sa : Nat → Nat) (b L : Nat) (xs : Nat → Int32) (base : Nat) (I : mw_I) (d : Nat) (as : List mv_V) (σ : mv_S) (r : Option mv_V) (σ' : mv_S) : Prop :=
  Met l I.1 (Cond.code I.1 I.2.1 I.2.2.1 I.2.2.2.1 :: lw_good) (mw_rm d σ σ') (mw_Pc D ac sa b L xs base as σ) (mw_Qc D ac sa b L xs base r σ') (σ'.1.length - σ.1.length) (mw_sz σ'.1 - mw_sz σ.1) (fun q => base ≤ q)
/-- what the tables say of a method: kind 1 virtual, 2 static, 3 a constructor -/
def mw_okM (I : mw_I) : Prop := Cond.code I.1 I.2.1 I.2.2.1 I.2.2.2.1 ∈ lw_good ∧ Cond.initialized I.1.cls ∈ lw_good ∧ (I.1.cls ≠ "java/lang/invoke/MethodHandle" ∧ I.1.cls ≠ "java/lang/invoke/VarHandle") ∧ (parseMethodDescriptor I.1.desc).map (fun d => d.parameters.length) = some I.2.2.2.2.2 ∧ I.2.2.1 ≤ 20 ∧
  ((I.2.2.2.2.1 = 1 ∧ Cond.instanceMethod I.1 ∈ lw_good ∧ Cond.selects I.1.cls I.1 I.1 ∈ lw_good) ∨ (I.2.2.2.2.1 = 2 ∧ Cond.static I.1 ∈ lw_good) ∨ (I.2.2.2.2.1 = 3 ∧ Cond.instanceMethod I.1 ∈ lw_good ∧ I.1.name = "<init>" ∧ I.2.2.2.1 = none))
end ME
theorem mw_goodIn : ∀ w ∈ lw_good, w ∈ lw_good ∧ ((w.onTables && w.keeps) = true ∨ ∃ ty, w = .arrayClass ty) := fun w hw => ⟨hw, good_of_word (List.mem_filter.mp hw).2⟩
theorem mw_goodC {w : Cond} (h : w ∈ lw_good) : GoodIn lw_good (w :: lw_good) := fun x hx => by
  rcases List.mem_cons.mp hx with rfl | hx
  · exact mw_goodIn _ h
  · exact mw_goodIn _ hx
section MC
variable {p : Program} {l : Launch} {e : Env} {R : Room} {s : State} {m : MethodId} {args : Array Value} {below : List Frame} {meth : Method} {c : Code} {own : String} {cc : ByteArray} {nL rt : Nat} {D : va_G} {ac sa : Nat → Nat} {b L : Nat} {xs : Nat → Int32} {base : Nat} {Q : State → Prop}
variable {H : Heap} {locs : List Loc} {ls : Array Slot} {cells slots pc d index : Nat} {σ σ' : mv_S} {rest st0 : List Value} {a : Nat} {r : Option mv_V} {as : List mv_V} {I : mw_I}
/-- behind a call -/
theorem mw_goC {aa : Array Value} {mc ms : Nat} (hr : va_Run p l e R s m args below meth c H locs cells slots mc ms (F0 m pc ls st0) rest (mw_Qc D ac sa b L xs base r σ' aa) (fun q => base ≤ q)) (hS : va_S (fun q => base ≤ q) s.heap H locs)
    (kk : ∀ (H1 : Heap) (locs1 : List Loc), mw_R (mw_ad b sa base) D ac base L xs σ' H1 → va_S (fun q => base ≤ q) s.heap H1 locs1 → W p l e R s m args below meth c H1 locs1 (cells + mc) (slots + ms) Q (F0 m (pc + 3) ls ((r.map (mw_v (mw_ad b sa base))).toList ++ rest))) : W p l e R s m args below meth c H locs cells slots Q (F0 m pc ls st0) := by
  intro T hT X
  obtain ⟨v, st₀, t, T', L0, h0, X', hL, e1, e2, ⟨hv, hR', hz, hk⟩, st⟩ := hr T hT X
  cases hv
  rw [h0] at hz hk
  rw [← e1] at hR'
  obtain ⟨t2, a1, b1⟩ := kk T'.heap (locs ++ L0) hR' ⟨Nat.le_trans hS.1 (by rw [e1]; exact hz), fun q h1 h2 => by rw [e1, hk q (Nat.lt_of_lt_of_le h1 hS.1) h2]; exact hS.2.1 q h1 h2, fun q hq => by
      rcases List.mem_append.mp hq with h | h
      · exact hS.2.2 q h
      · exact hL q h⟩ T' rfl X'
  exact ⟨t2, st t2 a1, b1⟩
theorem mw_pre (X : mw_X p l R s m args meth c own cc nL rt D ac sa b L xs base) (hR : mw_R (mw_ad b sa base) D ac base L xs σ H) (hS : va_S (fun q => base ≤ q) s.heap H locs) : ∀ U : State, U.heap = H → s.WarmedH U.vm → mw_Pc D ac sa b L xs base as σ (as.map (mw_v (mw_ad b sa base))).toArray U :=
  fun U hU hW => ⟨rfl, by rw [hU]; exact hR, mw_E_warm hW hU hS (mw_X_E X)⟩
theorem mw_fix (X : mw_X p l R s m args meth c own cc nL rt D ac sa b L xs base) : CallFix p m c cc nL s args lw_good own := ⟨X.1, X.2.1, X.2.2.1, X.2.2.2.1, X.2.2.2.2.1⟩
theorem mw_roomC (h : I.2.2.1 ≤ 20) (hd : d + 9 ≤ R.frames ∧ 64 * d + 564 ≤ R.locals) : (mw_rm d σ σ').frames + 1 ≤ R.frames ∧ 8 + (I.2.2.1 + 11) + (mw_rm d σ σ').locals ≤ R.locals := by
  unfold mw_rm
  constructor
  · exact hd.1
  · show 8 + (I.2.2.1 + 11) + (64 * d + 500) ≤ R.locals
    omega
theorem mw_invV (X : mw_X p l R s m args meth c own cc nL rt D ac sa b L xs base) (hM : mw_Ok l D ac sa b L xs base I d (.inr (.inr (some a)) :: as) σ r σ') (hI : mw_okM I) (hk : I.2.2.2.2.1 = 1) (hlink : Cond.methodLink own index I.1 ∈ lw_good) (hn : as.length = I.2.2.2.2.2) {ci : Nat} {rc : vw_C} (hty : σ.1[a]? = some (.inl ci)) (hrc : vwCl[ci]? = some rc) (hcl : rc.1 = I.1.cls)
    (hsz : ls.size = nL) (hR : mw_R (mw_ad b sa base) D ac base L xs σ H) (hS : va_S (fun q => base ≤ q) s.heap H locs) (hw : (rest.map fun v => v.category).sum ≤ 8) (hd : d + 9 ≤ R.frames ∧ 64 * d + 564 ≤ R.locals) (hf : cells + (σ'.1.length - σ.1.length) ≤ R.cells ∧ slots + (mw_sz σ'.1 - mw_sz σ.1) ≤ R.slots) (hdg : decode cc pc = .ok (.invokevirtual index, 3))
    (kk : ∀ (H1 : Heap) (locs1 : List Loc), mw_R (mw_ad b sa base) D ac base L xs σ' H1 → va_S (fun q => base ≤ q) s.heap H1 locs1 → W p l e R s m args below meth c H1 locs1 (cells + (σ'.1.length - σ.1.length)) (slots + (mw_sz σ'.1 - mw_sz σ.1)) Q (F0 m (pc + 3) ls ((r.map (mw_v (mw_ad b sa base))).toList ++ rest))) :
    W p l e R s m args below meth c H locs cells slots Q (F0 m pc ls ((as.map (mw_v (mw_ad b sa base))).reverse ++ .ref (mw_ad b sa base a) :: rest)) := by
  obtain ⟨h1, h2, h3, h4, h5, h6⟩ := hI
  rcases h6 with ⟨-, h7, h8⟩ | ⟨h9, -⟩ | ⟨h9, -⟩
  · obtain ⟨rc', hrc', cell, q1, q2, q3, -⟩ := mw_at_obj (hR.1 a (mw_16 hR hty)) hty
    cases hrc.symm.trans hrc'
    have hK := X.2.2.2.2.2.1
    refine mw_goC (va_runV (As := as.map (mw_v (mw_ad b sa base))) (rest := rest) (C := I.1.cls) (mw_fix X) hM (cwV I.2.2.2.2.2 X.2.2.2.2.1 ?_ rfl rfl rfl ⟨rfl, h3.1, h3.2, h4⟩ (mw_roomC h5 hd)) ⟨mw_blind, ⟨cell, q1, by rw [q3]; rfl, ?_⟩, mw_pre (as := .inr (.inr (some a)) :: as) X hR hS⟩ rfl ?_ hsz rfl (lv_room hw) hdg hf) hS kk
    · intro w hw
      unfold wsV at hw
      rcases List.mem_append.mp hw with hw | hw
      · simp only [List.mem_cons, List.not_mem_nil, or_false] at hw
        rcases hw with rfl | rfl | rfl | rfl
        · exact mw_goodIn _ hlink
        · exact mw_goodIn _ h7
        · exact mw_goodIn _ h8
        · exact mw_goodIn _ h2
      · exact mw_goodC h1 w hw
    · rw [← hcl, q2]
      exact (hK.1 ci _ hrc).2.1
    · rw [List.length_map]
      exact hn
  · rw [h9] at hk; cases hk
  · rw [h9] at hk; cases hk
theorem mw_invS (X : mw_X p l R s m args meth c own cc nL rt D ac sa b L xs base) (hM : mw_Ok l D ac sa b L xs base I d as σ r σ') (hI : mw_okM I) (hk : I.2.2.2.2.1 = 2) (hlink : Cond.methodLink own index I.1 ∈ lw_good) (hn : as.length = I.2.2.2.2.2)
    (hsz : ls.size = nL) (hR : mw_R (mw_ad b sa base) D ac base L xs σ H) (hS : va_S (fun q => base ≤ q) s.heap H locs) (hw : (rest.map fun v => v.category).sum ≤ 8) (hd : d + 9 ≤ R.frames ∧ 64 * d + 564 ≤ R.locals) (hf : cells + (σ'.1.length - σ.1.length) ≤ R.cells ∧ slots + (mw_sz σ'.1 - mw_sz σ.1) ≤ R.slots) (hdg : decode cc pc = .ok (.invokestatic index, 3))
    (kk : ∀ (H1 : Heap) (locs1 : List Loc), mw_R (mw_ad b sa base) D ac base L xs σ' H1 → va_S (fun q => base ≤ q) s.heap H1 locs1 → W p l e R s m args below meth c H1 locs1 (cells + (σ'.1.length - σ.1.length)) (slots + (mw_sz σ'.1 - mw_sz σ.1)) Q (F0 m (pc + 3) ls ((r.map (mw_v (mw_ad b sa base))).toList ++ rest))) :
    W p l e R s m args below meth c H locs cells slots Q (F0 m pc ls ((as.map (mw_v (mw_ad b sa base))).reverse ++ rest)) := by
  obtain ⟨h1, h2, h3, h4, h5, h6⟩ := hI
  rcases h6 with ⟨h9, -⟩ | ⟨-, h7⟩ | ⟨h9, -⟩
  · rw [h9] at hk; cases hk
  · refine mw_goC (va_runS (As := as.map (mw_v (mw_ad b sa base))) (rest := rest) (mw_fix X) hM (va_cwS I.2.2.2.2.2 X.2.2.2.2.1 ?_ rfl rfl rfl ⟨h3.1, h3.2, h4⟩ (mw_roomC h5 hd)) ⟨mw_blind, mw_pre X hR hS⟩ rfl ?_ hsz rfl (lv_room hw) hdg hf) hS kk
    · intro w hw
      unfold va_wsS at hw
      rcases List.mem_append.mp hw with hw | hw
      · simp only [List.mem_cons, List.not_mem_nil, or_false] at hw
        rcases hw with rfl | rfl | rfl
        · exact mw_goodIn _ hlink
        · exact mw_goodIn _ h7
        · exact mw_goodIn _ h2
      · exact mw_goodC h1 w hw
    · rw [List.length_map]
      exact hn
  · rw [h9] at hk; cases hk
theorem mw_invI (X : mw_X p l R s m args meth c own cc nL rt D ac sa b L xs base) (hM : mw_Ok l D ac sa b L xs base I d (.inr (.inr (some a)) :: as) σ r σ') (hI : mw_okM I) (hk : I.2.2.2.2.1 = 3) (hlink : Cond.methodLink own index I.1 ∈ lw_good) (hn : as.length = I.2.2.2.2.2)
    (hsz : ls.size = nL) (hR : mw_R (mw_ad b sa base) D ac base L xs σ H) (hS : va_S (fun q => base ≤ q) s.heap H locs) (hw : (rest.map fun v => v.category).sum ≤ 8) (hd : d + 9 ≤ R.frames ∧ 64 * d + 564 ≤ R.locals) (hf : cells + (σ'.1.length - σ.1.length) ≤ R.cells ∧ slots + (mw_sz σ'.1 - mw_sz σ.1) ≤ R.slots) (hdg : decode cc pc = .ok (.invokespecial index, 3))
    (kk : ∀ (H1 : Heap) (locs1 : List Loc), mw_R (mw_ad b sa base) D ac base L xs σ' H1 → va_S (fun q => base ≤ q) s.heap H1 locs1 → W p l e R s m args below meth c H1 locs1 (cells + (σ'.1.length - σ.1.length)) (slots + (mw_sz σ'.1 - mw_sz σ.1)) Q (F0 m (pc + 3) ls ((r.map (mw_v (mw_ad b sa base))).toList ++ rest))) :
    W p l e R s m args below meth c H locs cells slots Q (F0 m pc ls ((as.map (mw_v (mw_ad b sa base))).reverse ++ .ref (mw_ad b sa base a) :: rest)) := by
  obtain ⟨h1, h2, h3, h4, h5, h6⟩ := hI
  rcases h6 with ⟨h9, -⟩ | ⟨h9, -⟩ | ⟨-, h7, h8, h9⟩
  · rw [h9] at hk; cases hk
  · rw [h9] at hk; cases hk
  · obtain ⟨y, bytes, maxL, ret, kd, np⟩ := I
    dsimp only at hM h1 h2 h3 h4 h5 h7 h8 h9 hlink hn
    subst h9
    have hts := X.2.2.2.2.1
    refine mw_goC (va_runI (As := as.map (mw_v (mw_ad b sa base))) (rest := rest) (mw_fix X) hM (cwI np hts (mw_goodC h1) rfl rfl rfl (hts _ h2) (hts _ hlink) (hts _ h7) h8 ⟨h3.1, h3.2, h4⟩ (mw_roomC (I := (y, bytes, maxL, none, kd, np)) h5 hd)) ⟨mw_blind, mw_pre (as := .inr (.inr (some a)) :: as) X hR hS⟩ rfl ?_ hsz rfl (lv_room hw) hdg hf) hS kk
    rw [List.length_map]
    exact hn
theorem mw_invN (X : mw_X p l R s m args meth c own cc nL rt D ac sa b L xs base) (hM : mw_Ok l D ac sa b L xs base I d (.inr (.inr (some a)) :: as) σ r σ') (hI : mw_okM I) (hk : I.2.2.2.2.1 = 3) (hown : own = RX6) (hlink : (index, I.1) ∈ mw_nest) (hn : as.length = I.2.2.2.2.2)
    (hsz : ls.size = nL) (hR : mw_R (mw_ad b sa base) D ac base L xs σ H) (hS : va_S (fun q => base ≤ q) s.heap H locs) (hw : (rest.map fun v => v.category).sum ≤ 8) (hd : d + 9 ≤ R.frames ∧ 64 * d + 564 ≤ R.locals) (hf : cells + (σ'.1.length - σ.1.length) ≤ R.cells ∧ slots + (mw_sz σ'.1 - mw_sz σ.1) ≤ R.slots) (hdg : decode cc pc = .ok (.invokespecial index, 3))
    (kk : ∀ (H1 : Heap) (locs1 : List Loc), mw_R (mw_ad b sa base) D ac base L xs σ' H1 → va_S (fun q => base ≤ q) s.heap H1 locs1 → W p l e R s m args below meth c H1 locs1 (cells + (σ'.1.length - σ.1.length)) (slots + (mw_sz σ'.1 - mw_sz σ.1)) Q (F0 m (pc + 3) ls ((r.map (mw_v (mw_ad b sa base))).toList ++ rest))) :
    W p l e R s m args below meth c H locs cells slots Q (F0 m pc ls ((as.map (mw_v (mw_ad b sa base))).reverse ++ .ref (mw_ad b sa base a) :: rest)) := by
  obtain ⟨h1, h2, h3, h4, h5, h6⟩ := hI
  rcases h6 with ⟨h9, -⟩ | ⟨h9, -⟩ | ⟨-, h7, h8, h9⟩
  · rw [h9] at hk; cases hk
  · rw [h9] at hk; cases hk
  · obtain ⟨y, bytes, maxL, ret, kd, np⟩ := I
    dsimp only at hM h1 h2 h3 h4 h5 h7 h8 h9 hlink hn
    subst h9
    have hts := X.2.2.2.2.1
    obtain ⟨-, -, -, -, -, -, -, -, -, -, -, -, -, hnest, -⟩ := id X
    have hl := hnest _ hlink
    rw [← hown] at hl
    refine mw_goC (va_runIN (host := own) (As := as.map (mw_v (mw_ad b sa base))) (rest := rest) (mw_fix X) hM ⟨va_cnB np hts (mw_goodC h1) rfl rfl rfl hl (hts _ h2) ⟨h3.1, h3.2, h4⟩ (mw_roomC (I := (y, bytes, maxL, none, kd, np)) h5 hd), h8, hts _ h7⟩ ⟨mw_blind, mw_pre (as := .inr (.inr (some a)) :: as) X hR hS⟩ rfl ?_ hsz rfl (lv_room hw) hdg hf) hS kk
    rw [List.length_map]
    exact hn
end MC
