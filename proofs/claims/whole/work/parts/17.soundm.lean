/-! SOUNDNESS of the small machine, 13: any instruction (by program: wip/whole/gen/gen_sound17.py) -/
def mw_finB (own nm : String) (q : mv_K) : Bool := match q with
  | (0, ci, f, _, _) => (match vwCl[ci]? with
    | some r => !(r.2.1 f).2.2.2 || (nm == "<init>" && r.1 == own)
    | none => true)
  | _ => true
theorem mw_finP {own nm : String} {q : mv_K} (h : mw_finB own nm q = true) : match (generalizing := false) q with | (0, ci, f, _, _) => ∀ r : vw_C, vwCl[ci]? = some r → ((r.2.1 f).2.2.2 = false ∨ (nm = "<init>" ∧ r.1 = own)) | _ => True := by
  split
  · rename_i ci f _ _
    intro r hr
    have h : (match (generalizing := false) vwCl[ci]? with
      | some r => !(r.2.1 f).2.2.2 || (nm == "<init>" && r.1 == own)
      | none => true) = true := h
    rw [hr] at h
    have h : (!(r.2.1 f).2.2.2 || (nm == "<init>" && r.1 == own)) = true := h
    rcases Bool.or_eq_true _ _ |>.mp h with h | h
    · exact Or.inl (by simpa using h)
    · exact Or.inr (by simpa using h)
  · trivial
def mw_ancB (q : mv_K) : Bool := match q with
  | (32, c, _, _, _) => c == 2 || c == 4
  | _ => true
theorem mw_ancP {q : mv_K} (h : mw_ancB q = true) : ∀ (rc : vw_C) {c0 x y : Nat} (z : Int), q = (32, c0, x, y, z) → vwCl[c0]? = some rc → (c0 = 2 ∧ rc.1 = "LandByMap$Drawer") ∨ (c0 = 4 ∧ rc.1 = "LandByMap$Shelf") := by
  intro rc c0 x y z e hr
  subst e
  have h : (c0 == 2 || c0 == 4) = true := h
  rcases Bool.or_eq_true _ _ |>.mp h with h | h
  · have : c0 = 2 := by simpa using h
    subst this
    cases hr
    exact Or.inl ⟨rfl, rfl⟩
  · have : c0 = 4 := by simpa using h
    subst this
    cases hr
    exact Or.inr ⟨rfl, rfl⟩
/-- what is asked of an instruction at its place -/
def mw_okI (ths : List Nat) (ct : Option Nat) (own nm : String) (nL : Nat) (lk : Nat → mv_K) (pc : Nat) (ins : Instr) (len : Nat) : Bool := match ins with
  | .aaload => len == 1
  | .aastore => len == 1
  | .aconst_null => len == 1
  | .arraylength => len == 1
  | .baload => len == 1
  | .bastore => len == 1
  | .dup => len == 1
  | .dup2 => len == 1
  | .i2b => len == 1
  | .i2l => len == 1
  | .i2s => len == 1
  | .iadd => len == 1
  | .iaload => len == 1
  | .iand => len == 1
  | .iastore => len == 1
  | .idiv => len == 1
  | .imul => len == 1
  | .ineg => len == 1
  | .ior => len == 1
  | .irem => len == 1
  | .ishl => len == 1
  | .ishr => len == 1
  | .isub => len == 1
  | .laload => len == 1
  | .lastore => len == 1
  | .lcmp => len == 1
  | .pop => len == 1
  | .areturn => len == 1
  | .ireturn => len == 1
  | .lreturn => len == 1
  | .return_ => len == 1
  | .iconst _ => len == 1
  | .lconst _ => len == 1
  | .bipush n => len == 2 && decide ((Int8.ofInt n).toInt32 = mv_c n)
  | .sipush n => len == 3 && decide ((Int16.ofInt n).toInt32 = mv_c n)
  | .iload_n _ => len == 1
  | .lload_n _ => len == 1
  | .aload_n _ => len == 1
  | .iload _ => len == 2
  | .lload _ => len == 2
  | .aload _ => len == 2
  | .istore_n i => len == 1 && decide (i.val < nL)
  | .astore_n i => len == 1 && decide (i.val < nL)
  | .istore i => len == 2 && decide (i < nL)
  | .astore i => len == 2 && decide (i < nL)
  | .lstore i => len == 2 && decide (i + 1 < nL)
  | .iinc i _ => len == 3 && decide (i < nL)
  | .goto off => len == 3 && decide (0 ≤ (pc : Int) + off)
  | .ifCond _ off => len == 3 && decide (0 ≤ (pc : Int) + off)
  | .if_icmp _ off => len == 3 && decide (0 ≤ (pc : Int) + off)
  | .ifnull off => len == 3 && decide (0 ≤ (pc : Int) + off)
  | .ifnonnull off => len == 3 && decide (0 ≤ (pc : Int) + off)
  | .getfield _ => len == 3
  | .putfield i => len == 3 && mw_finB own nm (lk i)
  | .newarray t => len == 2 && (match t with | .int => true | .boolean => true | .long => true | _ => false)
  | .anewarray i => len == 3 && mw_ancB (lk i)
  | .multianewarray _ z => len == 4 && z == 2
  | .new i => len == 3 && ((lk i).1 == 32 || ths.contains pc)
  | .ldc _ => len == 2
  | .ldc_w _ => len == 3
  | .ldc2_w _ => len == 3
  | .tableswitch df lo hi offs => decide (hi + 1 = lo + offs.size) && (List.range offs.toList.length).all (fun j => decide ((mv_c (lo + (j : Nat))).toInt = lo + (j : Nat))) && decide (0 ≤ (pc : Int) + df) && offs.toList.all (fun o => decide (0 ≤ (pc : Int) + o))
  | .lookupswitch df ps => (ps.toList.zip (ps.toList.drop 1)).all (fun (a, next) => a.1 < next.1) && ps.toList.all (fun q => decide ((mv_c q.1).toInt = q.1)) && decide (0 ≤ (pc : Int) + df) && ps.toList.all (fun q => decide (0 ≤ (pc : Int) + q.2))
  | .invokevirtual i => len == 3 && ((lk i).1 == 1 || (lk i).1 == 10 || (lk i).1 == 11 || (lk i).1 == 12 || (lk i).1 == 40 || ((lk i).1 == 42 && some pc == ct))
  | .invokestatic i => len == 3 && ((lk i).1 == 2 || (lk i).1 == 5 || (lk i).1 == 6 || (lk i).1 == 7 || (lk i).1 == 8 || (lk i).1 == 41)
  | .invokespecial i => len == 3 && ((lk i).1 == 3 || (lk i).1 == 4 || (lk i).1 == 9)
  | _ => false
theorem mw_arrW : Cond.arrayClass (mw_kty 0) ∈ lw_good ∧ Cond.arrayClass (mw_kty 1) ∈ lw_good ∧ Cond.arrayClass (mw_kty 2) ∈ lw_good := ⟨mw_in 218 (by decide +kernel) (by decide +kernel), mw_in 219 (by decide +kernel) (by decide +kernel), mw_in 1582 (by decide +kernel) (by decide +kernel)⟩
section MSTEP
variable {p : Program} {l : Launch} {e : Env} {R : Room} {s : State} {m : MethodId} {args : Array Value} {below : List Frame} {meth : Method} {c : Code} {own : String} {cc : ByteArray} {nL rt : Nat} {D : va_G} {ac sa : Nat → Nat} {b L : Nat} {xs : Nat → Int32} {base n0 s0 : Nat} {Q : State → Prop}
variable {cl : Nat → List mv_V → mv_S → mv_O} {lk : Nat → mv_K} {k : Nat → mv_L → List mv_V → mv_S → mv_O} {pc len : Nat} {lv : mv_L} {st : List mv_V} {σ σF : mv_S} {r0 : Option mv_V} {d : Nat} {ths : List Nat} {ct : Option Nat}
theorem mw_b1 {a b : Bool} (h : (a && b) = true) : a = true ∧ b = true := by simpa using h
theorem mw_n1 {a b : Nat} (h : (a == b) = true) : a = b := by simpa using h
theorem ms_step (X : mw_X p l R s m args meth c own cc nL rt D ac sa b L xs base) (hC : mw_CC l D ac sa b L xs base d cl) (hRd : d + 9 ≤ R.frames ∧ 64 * d + 564 ≤ R.locals) (hB : σF.1.length ≤ R.cells + n0 ∧ mw_sz σF.1 ≤ R.slots + s0) (hLK : ∀ i, mw_okL own i (lk i) ∧ mw_okX own i (lk i))
    (hRt : mw_Ret p l e R s m args below meth c cc nL rt D ac (mw_ad b sa base) base L xs n0 s0 Q r0 σF) (hT : mw_Thr p l e R s m args below meth c cc nL D ac (mw_ad b sa base) base L xs n0 s0 Q lk r0 σF ths) (hCat : mw_Cat p l e R s m args below meth c cc nL (mw_ad b sa base) Q lk ct) {nm : String} (hnm : meth.name = nm)
    {ins : Instr} (hd : decode cc pc = .ok (ins, len)) (hok : mw_okI ths ct own nm nL lk pc ins len = true) (hst : mv_step cl lk rt k ins pc lv st σ = some (r0, σF)) (hk : ∀ pc' lv' st' σ', k pc' lv' st' σ' = some (r0, σF) → σ'.1 <+: σF.1 ∧ mw_G p l e R s m args below meth c nL D ac (mw_ad b sa base) base L xs n0 s0 Q pc' lv' st' σ') : σ.1 <+: σF.1 ∧ mw_G p l e R s m args below meth c nL D ac (mw_ad b sa base) base L xs n0 s0 Q pc lv st σ := by
  cases ins with
  | aaload =>
    obtain rfl : len = 1 := mw_n1 hok
    exact ms_aaload X hd hst hk
  | aastore =>
    obtain rfl : len = 1 := mw_n1 hok
    exact ms_aastore X hd hst hk
  | aconst_null =>
    obtain rfl : len = 1 := mw_n1 hok
    exact ms_aconst_null X hd hst hk
  | arraylength =>
    obtain rfl : len = 1 := mw_n1 hok
    exact ms_arraylength X hd hst hk
  | baload =>
    obtain rfl : len = 1 := mw_n1 hok
    exact ms_baload X hd hst hk
  | bastore =>
    obtain rfl : len = 1 := mw_n1 hok
    exact ms_bastore X hd hst hk
  | dup =>
    obtain rfl : len = 1 := mw_n1 hok
    exact ms_dup X hd hst hk
  | dup2 =>
    obtain rfl : len = 1 := mw_n1 hok
    exact ms_dup2 X hd hst hk
  | i2b =>
    obtain rfl : len = 1 := mw_n1 hok
    exact ms_i2b X hd hst hk
  | i2l =>
    obtain rfl : len = 1 := mw_n1 hok
    exact ms_i2l X hd hst hk
  | i2s =>
    obtain rfl : len = 1 := mw_n1 hok
    exact ms_i2s X hd hst hk
  | iadd =>
    obtain rfl : len = 1 := mw_n1 hok
    exact ms_iadd X hd hst hk
  | iaload =>
    obtain rfl : len = 1 := mw_n1 hok
    exact ms_iaload X hd hst hk
  | iand =>
    obtain rfl : len = 1 := mw_n1 hok
    exact ms_iand X hd hst hk
  | iastore =>
    obtain rfl : len = 1 := mw_n1 hok
    exact ms_iastore X hd hst hk
  | idiv =>
    obtain rfl : len = 1 := mw_n1 hok
    exact ms_idiv X hd hst hk
  | imul =>
    obtain rfl : len = 1 := mw_n1 hok
    exact ms_imul X hd hst hk
  | ineg =>
    obtain rfl : len = 1 := mw_n1 hok
    exact ms_ineg X hd hst hk
  | ior =>
    obtain rfl : len = 1 := mw_n1 hok
    exact ms_ior X hd hst hk
  | irem =>
    obtain rfl : len = 1 := mw_n1 hok
    exact ms_irem X hd hst hk
  | ishl =>
    obtain rfl : len = 1 := mw_n1 hok
    exact ms_ishl X hd hst hk
  | ishr =>
    obtain rfl : len = 1 := mw_n1 hok
    exact ms_ishr X hd hst hk
  | isub =>
    obtain rfl : len = 1 := mw_n1 hok
    exact ms_isub X hd hst hk
  | laload =>
    obtain rfl : len = 1 := mw_n1 hok
    exact ms_laload X hd hst hk
  | lastore =>
    obtain rfl : len = 1 := mw_n1 hok
    exact ms_lastore X hd hst hk
  | lcmp =>
    obtain rfl : len = 1 := mw_n1 hok
    exact ms_lcmp X hd hst hk
  | pop =>
    obtain rfl : len = 1 := mw_n1 hok
    exact ms_pop X hd hst hk
  | areturn =>
    obtain rfl : len = 1 := mw_n1 hok
    exact ms_areturn hd hRt hst
  | ireturn =>
    obtain rfl : len = 1 := mw_n1 hok
    exact ms_ireturn hd hRt hst
  | lreturn =>
    obtain rfl : len = 1 := mw_n1 hok
    exact ms_lreturn hd hRt hst
  | return_ =>
    obtain rfl : len = 1 := mw_n1 hok
    exact ms_return hd hRt hst
  | iconst n =>
    obtain rfl : len = 1 := mw_n1 hok
    exact ms_iconst X hd hst hk
  | lconst n =>
    obtain rfl : len = 1 := mw_n1 hok
    exact ms_lconst X hd hst hk
  | bipush n =>
    obtain ⟨h1, h2⟩ := mw_b1 hok
    obtain rfl : len = 2 := mw_n1 h1
    exact ms_bipush X hd (by simpa using h2) hst hk
  | sipush n =>
    obtain ⟨h1, h2⟩ := mw_b1 hok
    obtain rfl : len = 3 := mw_n1 h1
    exact ms_sipush X hd (by simpa using h2) hst hk
  | iload_n i =>
    obtain rfl : len = 1 := mw_n1 hok
    exact ms_iload_n X hd hst hk
  | lload_n i =>
    obtain rfl : len = 1 := mw_n1 hok
    exact ms_lload_n X hd hst hk
  | aload_n i =>
    obtain rfl : len = 1 := mw_n1 hok
    exact ms_aload_n X hd hst hk
  | iload i =>
    obtain rfl : len = 2 := mw_n1 hok
    exact ms_iload X hd hst hk
  | lload i =>
    obtain rfl : len = 2 := mw_n1 hok
    exact ms_lload X hd hst hk
  | aload i =>
    obtain rfl : len = 2 := mw_n1 hok
    exact ms_aload X hd hst hk
  | istore_n i =>
    obtain ⟨h1, h2⟩ := mw_b1 hok
    obtain rfl : len = 1 := mw_n1 h1
    exact ms_istore_n X hd (by simpa using h2) hst hk
  | astore_n i =>
    obtain ⟨h1, h2⟩ := mw_b1 hok
    obtain rfl : len = 1 := mw_n1 h1
    exact ms_astore_n X hd (by simpa using h2) hst hk
  | istore i =>
    obtain ⟨h1, h2⟩ := mw_b1 hok
    obtain rfl : len = 2 := mw_n1 h1
    exact ms_istore X hd (by simpa using h2) hst hk
  | astore i =>
    obtain ⟨h1, h2⟩ := mw_b1 hok
    obtain rfl : len = 2 := mw_n1 h1
    exact ms_astore X hd (by simpa using h2) hst hk
  | lstore i =>
    obtain ⟨h1, h2⟩ := mw_b1 hok
    obtain rfl : len = 2 := mw_n1 h1
    exact ms_lstore X hd (by simpa using h2) hst hk
  | iinc i n =>
    obtain ⟨h1, h2⟩ := mw_b1 hok
    obtain rfl : len = 3 := mw_n1 h1
    exact ms_iinc X hd (by simpa using h2) hst hk
  | goto off =>
    obtain ⟨h1, h2⟩ := mw_b1 hok
    obtain rfl : len = 3 := mw_n1 h1
    exact ms_goto X hd (of_decide_eq_true h2) hst hk
  | ifCond q off =>
    obtain ⟨h1, h2⟩ := mw_b1 hok
    obtain rfl : len = 3 := mw_n1 h1
    have h3 := of_decide_eq_true h2
    cases q with
    | eq => exact ms_if_eq X hd h3 hst hk
    | ne => exact ms_if_ne X hd h3 hst hk
    | lt => exact ms_if_lt X hd h3 hst hk
    | ge => exact ms_if_ge X hd h3 hst hk
    | gt => exact ms_if_gt X hd h3 hst hk
    | le => exact ms_if_le X hd h3 hst hk
  | if_icmp q off =>
    obtain ⟨h1, h2⟩ := mw_b1 hok
    obtain rfl : len = 3 := mw_n1 h1
    have h3 := of_decide_eq_true h2
    cases q with
    | eq => exact ms_icmp_eq X hd h3 hst hk
    | ne => exact ms_icmp_ne X hd h3 hst hk
    | lt => exact ms_icmp_lt X hd h3 hst hk
    | ge => exact ms_icmp_ge X hd h3 hst hk
    | gt => exact ms_icmp_gt X hd h3 hst hk
    | le => exact ms_icmp_le X hd h3 hst hk
  | ifnull off =>
    obtain ⟨h1, h2⟩ := mw_b1 hok
    obtain rfl : len = 3 := mw_n1 h1
    exact ms_ifnull X hd (of_decide_eq_true h2) hst hk
  | ifnonnull off =>
    obtain ⟨h1, h2⟩ := mw_b1 hok
    obtain rfl : len = 3 := mw_n1 h1
    exact ms_ifnonnull X hd (of_decide_eq_true h2) hst hk
  | getfield i =>
    obtain rfl : len = 3 := mw_n1 hok
    exact ms_getfield X hd (hLK i).1 hst hk
  | putfield i =>
    obtain ⟨h1, h2⟩ := mw_b1 hok
    obtain rfl : len = 3 := mw_n1 h1
    exact ms_putfield X hd (hLK i).1 (by rw [hnm]; exact mw_finP h2) hst hk
  | newarray t =>
    obtain ⟨h1, h2⟩ := mw_b1 hok
    obtain rfl : len = 2 := mw_n1 h1
    cases t with
    | int => exact ms_newI X hd hB mw_arrW.1 hst hk
    | boolean => exact ms_newZ X hd hB mw_arrW.2.1 hst hk
    | long => exact ms_newL X hd hB mw_arrW.2.2 hst hk
    | _ => cases h2
  | anewarray i =>
    obtain ⟨h1, h2⟩ := mw_b1 hok
    obtain rfl : len = 3 := mw_n1 h1
    exact ms_anewarray X hd hB (hLK i).1 (mw_ancP h2) hst hk
  | multianewarray i z =>
    obtain ⟨h1, h2⟩ := mw_b1 hok
    obtain rfl : len = 4 := mw_n1 h1
    exact ms_multianewarray X hd (mw_n1 h2) hB (hLK i).1 mw_arrW.1 hst hk
  | new i =>
    obtain ⟨h1, h2⟩ := mw_b1 hok
    obtain rfl : len = 3 := mw_n1 h1
    exact ms_new X hB hd (hLK i).1 (fun h3 => by rw [h3] at h2; simpa using h2) hT hst hk
  | ldc i =>
    obtain rfl : len = 2 := mw_n1 hok
    exact ms_ldc X hd (hLK i).1 hst hk
  | ldc_w i =>
    obtain rfl : len = 3 := mw_n1 hok
    exact ms_ldc_w X hd (hLK i).1 hst hk
  | ldc2_w i =>
    obtain rfl : len = 3 := mw_n1 hok
    exact ms_ldc2_w X hd (hLK i).1 hst hk
  | tableswitch df lo hi offs =>
    obtain ⟨h1, h4⟩ := mw_b1 hok
    obtain ⟨h1, h3⟩ := mw_b1 h1
    obtain ⟨h1, h2⟩ := mw_b1 h1
    exact ms_tableswitch X hd (of_decide_eq_true h1) (fun j hj => of_decide_eq_true (List.all_eq_true.mp h2 j (List.mem_range.mpr hj))) (of_decide_eq_true h3) (fun o ho => of_decide_eq_true (List.all_eq_true.mp h4 o ho)) hst hk
  | lookupswitch df ps =>
    obtain ⟨h1, h4⟩ := mw_b1 hok
    obtain ⟨h1, h3⟩ := mw_b1 h1
    obtain ⟨h1, h2⟩ := mw_b1 h1
    exact ms_lookupswitch X hd h1 (fun q hq => of_decide_eq_true (List.all_eq_true.mp h2 q hq)) (of_decide_eq_true h3) (fun q hq => of_decide_eq_true (List.all_eq_true.mp h4 q hq)) hst hk
  | invokevirtual i =>
    obtain ⟨h1, h2⟩ := mw_b1 hok
    obtain rfl : len = 3 := mw_n1 h1
    have hl := hLK i
    have hst : (match (generalizing := false) lk i with
      | (42, m, n, c, z) => mv_try cl m n c z st σ (fun st' σ' => k (pc + 3) lv st' σ') (fun h σ' => k h (mv_drop4 lv) [] σ')
      | q => mv_call cl q st σ fun st' σ' => k (pc + 3) lv st' σ') = some (r0, σF) := hst
    obtain ⟨⟨kd, M, n, c0, z⟩, hq⟩ : ∃ q, q = lk i := ⟨_, rfl⟩
    rw [← hq] at hst hl h2
    have h2 : (kd == 1 || kd == 10 || kd == 11 || kd == 12 || kd == 40 || (kd == 42 && some pc == ct)) = true := h2
    simp only [Bool.or_eq_true, Bool.and_eq_true, beq_iff_eq] at h2
    rcases h2 with ((((rfl | rfl) | rfl) | rfl) | rfl) | ⟨rfl, hct⟩
    · exact mq_c1 X hC hRd hB hd hl.1 hst hk
    · exact mq_c10 X hB hd hl.1 hst hk
    · exact mq_c11 X hB hd hl.1 hst hk
    · exact mq_c12 X hB hd hl.1 hst hk
    · exact mq_c40 X hC hRd hB hd hl.2 hst hk
    · exact ms_try X hC hRd hB hd hq.symm hl.2 hct hCat hst hk
  | invokestatic i =>
    obtain ⟨h1, h2⟩ := mw_b1 hok
    obtain rfl : len = 3 := mw_n1 h1
    have hl := hLK i
    have hst : mv_call cl (lk i) st σ (fun st' σ' => k (pc + 3) lv st' σ') = some (r0, σF) := hst
    obtain ⟨⟨kd, M, n, c0, z⟩, hq⟩ : ∃ q, q = lk i := ⟨_, rfl⟩
    rw [← hq] at hst hl h2
    have h2 : (kd == 2 || kd == 5 || kd == 6 || kd == 7 || kd == 8 || kd == 41) = true := h2
    simp only [Bool.or_eq_true, Bool.and_eq_true, beq_iff_eq] at h2
    rcases h2 with ((((rfl | rfl) | rfl) | rfl) | rfl) | rfl
    · exact mq_c2 X hC hRd hB hd hl.1 hst hk
    · exact mq_c5 X hC hRd hB hd hl.1 hst hk
    · exact mq_c6 X hC hRd hB hd hl.1 hst hk
    · exact mq_c7 X hC hRd hB hd hl.1 hst hk
    · exact mq_c8 X hC hRd hB hd hl.1 hst hk
    · exact mq_c41 X hC hRd hB hd hl.2 hst hk
  | invokespecial i =>
    obtain ⟨h1, h2⟩ := mw_b1 hok
    obtain rfl : len = 3 := mw_n1 h1
    have hl := hLK i
    have hst : mv_call cl (lk i) st σ (fun st' σ' => k (pc + 3) lv st' σ') = some (r0, σF) := hst
    obtain ⟨⟨kd, M, n, c0, z⟩, hq⟩ : ∃ q, q = lk i := ⟨_, rfl⟩
    rw [← hq] at hst hl h2
    have h2 : (kd == 3 || kd == 4 || kd == 9) = true := h2
    simp only [Bool.or_eq_true, Bool.and_eq_true, beq_iff_eq] at h2
    rcases h2 with (rfl | rfl) | rfl
    · exact mq_c3 X hC hRd hB hd hl.1 hst hk
    · exact mq_c4 X hC hRd hB hd hl.1 hst hk
    · exact mq_c9 X hC hRd hB hd hl.1 hst hk
  | _ => exact absurd (show false = true from hok) Bool.false_ne_true
end MSTEP
