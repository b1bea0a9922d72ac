/-! SOUNDNESS of the small machine, 5: what is made anew -/
theorem mw_sz_app (a b : List mv_T) : mw_sz (a ++ b) = mw_sz a + mw_sz b := by
  simp [mw_sz, List.map_append, List.sum_append]
theorem mw_sz_le {a b : List mv_T} (h : a <+: b) : mw_sz a ≤ mw_sz b ∧ a.length ≤ b.length := by
  obtain ⟨t, rfl⟩ := h
  rw [mw_sz_app, List.length_append]
  omega
section MN
variable {sa : Nat → Nat} {D : va_G} {ac : Nat → ClassId} {base b L : Nat} {xs : Nat → Int32} {σ σ' : mv_S} {H H' : Heap} {x : mv_T}
theorem mw_ad_len (h : mw_R (mw_ad b sa base) D ac base L xs σ H) : mw_ad b sa base σ.1.length = H.size := by
  rw [mw_ad_ge h.2.1, h.2.2.1]
/-- a cell more -/
theorem mw_R_push (h : mw_R (mw_ad b sa base) D ac base L xs σ H) (hT : σ'.1 = σ.1 ++ [x]) (h1 : ∀ q, q ≠ σ.1.length → σ'.2.1 q = σ.2.1 q) (h2 : ∀ q, q ≠ σ.1.length → σ'.2.2.1 q = σ.2.2.1 q) (h3 : ∀ q, q ≠ σ.1.length → σ'.2.2.2 q = σ.2.2.2 q) (hz : H'.size = H.size + 1) (ho : ∀ q : Nat, q < H.size → H'[q]? = H[q]?) (hn : mw_at (mw_ad b sa base) D ac σ' H' σ.1.length) : mw_R (mw_ad b sa base) D ac base L xs σ' H' := by
  obtain ⟨g1, g2, g3, g4, g5⟩ := h
  have hl : σ'.1.length = σ.1.length + 1 := by rw [hT, List.length_append]; rfl
  have hT' : ∀ k, k < σ.1.length → σ'.1[k]? = σ.1[k]? := fun k hk => by rw [hT, List.getElem?_append_left hk]
  refine ⟨fun k hk => ?_, by omega, by omega, ⟨by rw [hT' 0 (by omega)]; exact g4.1, fun j hj => ?_⟩, fun k h5 h6 => by rw [hT' k (by omega)]; exact g5 k h5 h6⟩
  · rcases Nat.lt_trichotomy k σ.1.length with e | e | e
    · exact mw_at_keep (g1 k hk) (hT' k e) (h1 k (by omega)) (h2 k (by omega)) (h3 k (by omega)) (ho _ (by rw [mw_ad_ge hk, g3]; omega))
    · subst e
      exact hn
    · unfold mw_at
      rw [List.getElem?_eq_none (by omega)]
      trivial
  · rw [h1 0 (by omega)]
    exact g4.2 j hj
end MN
section MO
variable {p : Program} {l : Launch} {e : Env} {R : Room} {s : State} {m : MethodId} {args : Array Value} {below : List Frame} {meth : Method} {c : Code} {own : String} {cc : ByteArray} {nL rt : Nat} {D : va_G} {ac sa : Nat → Nat} {b L : Nat} {xs : Nat → Int32} {base : Nat} {Q : State → Prop}
variable {H : Heap} {locs : List Loc} {ls : Array Slot} {cells slots pc : Nat} {σ : mv_S} {rest : List Value} {a t n : Nat} {i : Int32}
theorem mw_S_push {H' : Heap} (hS : va_S (fun q => base ≤ q) s.heap H locs) (hz : H'.size = H.size + 1) (ho : ∀ q : Nat, q < H.size → H'[q]? = H[q]?) : va_S (fun q => base ≤ q) s.heap H' locs :=
  ⟨Nat.le_trans hS.1 (by omega), fun x h1 h2 => (ho x (Nat.lt_of_lt_of_le h1 hS.1)).trans (hS.2.1 x h1 h2), hS.2.2⟩
theorem mw_acI (X : mw_X p l R s m args meth c own cc nL rt D ac sa b L xs base) {t : Nat} (ht : t < 3) {cA : ClassId} (h : s.vm.findClass ("[" ++ (mw_kty t).toString) = some cA) : cA = ac t := by
  obtain ⟨-, -, -, -, -, hK, -⟩ := X
  obtain ⟨-, hA⟩ := hK.2 t (ac t, mw_kty t) (mw_tysG (by omega))
  match t, ht with
  | 0, _ => exact Option.some.inj (h.symm.trans hA)
  | 1, _ => exact Option.some.inj (h.symm.trans hA)
  | 2, _ => exact Option.some.inj (h.symm.trans hA)
theorem mw_av0 {ad : Nat → Nat} {σ : mv_S} {t n : Nat} (ht : t < 3) : mw_av ad (mv_na σ t n) t σ.1.length = fun _ => defaultValue (mw_kty t) := by
  funext y
  match t, ht with
  | 0, _ => simp [mw_av, mv_na, mv_uf, mw_kty]; rfl
  | 1, _ => simp [mw_av, mv_na, mv_uf, mw_kty]; rfl
  | 2, _ => simp [mw_av, mv_na, mv_uf, mw_kty]; rfl
theorem mw_avR {ad : Nat → Nat} {σ : mv_S} {t n : Nat} (ht : 3 ≤ t) : mw_av ad (mv_na σ t n) t σ.1.length = fun _ => Value.null := by
  funext y
  simp only [mw_av, mv_na, mv_uf]
  rw [if_neg (by omega), if_neg (by omega)]
  simp [va_rf]
theorem mw_R_na {H' : Heap} (hR : mw_R (mw_ad b sa base) D ac base L xs σ H) (e1 : H'[H.size]? = some (arrV (ac t) n (mw_av (mw_ad b sa base) (mv_na σ t n) t σ.1.length))) (hz : H'.size = H.size + 1) (ho : ∀ q : Nat, q < H.size → H'[q]? = H[q]?) : mw_R (mw_ad b sa base) D ac base L xs (mv_na σ t n) H' := by
  refine mw_R_push hR (x := .inr (t, n)) rfl (fun q hq => mv_uf_ne hq) (fun q hq => mv_uf_ne hq) (fun q hq => mv_uf_ne hq) hz ho ?_
  unfold mw_at
  rw [show (mv_na σ t n).1[σ.1.length]? = some (.inr (t, n)) by simp [mv_na]]
  intro _
  show H'[mw_ad b sa base σ.1.length]? = _
  rw [mw_ad_len hR]
  exact e1
theorem mw_newa (X : mw_X p l R s m args meth c own cc nL rt D ac sa b L xs base) {at' : ArrayType} (ht : t < 3) (hty : newarray.typeOf at' = mw_kty t) (harr : Cond.arrayClass (mw_kty t) ∈ lw_good) (hR : mw_R (mw_ad b sa base) D ac base L xs σ H) (hS : va_S (fun q => base ≤ q) s.heap H locs) (hin : ¬ (i < 0 ∨ 1000 ≤ i.toNatClampNeg)) (hd : decode cc pc = .ok (.newarray at', 2)) (hcells : cells + 1 ≤ R.cells) (hslots : slots + i.toNatClampNeg ≤ R.slots)
    (kk : ∀ (H1 : Heap) (locs1 : List Loc), mw_R (mw_ad b sa base) D ac base L xs (mv_na σ t i.toNatClampNeg) H1 → va_S (fun q => base ≤ q) s.heap H1 locs1 → W p l e R s m args below meth c H1 locs1 (cells + 1) (slots + i.toNatClampNeg) Q (F0 m (pc + 2) ls (.ref (mw_ad b sa base σ.1.length) :: rest))) : W p l e R s m args below meth c H locs cells slots Q (F0 m pc ls (.int i :: rest)) := by
  refine va_newaK X.1 X.2.1 (atype := at') (by rw [hty]; exact X.2.2.2.2.1 _ harr) rfl hd rfl (fun h => hin (Or.inl h)) rfl ?_ hcells hslots rfl fun H1 cA e1 z1 o1 hAr hNm => ?_
  · have h1 : i.toNatClampNeg ≤ 1000 := by omega
    have h2 : componentBytes (newarray.typeOf at') ≤ 8 := by cases at' <;> decide
    exact Nat.le_trans (Nat.mul_le_mul h1 h2) (by decide)
  · rw [hty] at e1 hNm
    have hc := mw_acI X ht hNm
    subst hc
    have k2 := kk H1 locs (mw_R_na hR (by rw [mw_av0 ht]; exact e1) z1 o1) (mw_S_push hS z1 o1)
    rw [mw_ad_len hR] at k2
    exact k2
/-- new of an array of objects -/
theorem mw_anew (X : mw_X p l R s m args meth c own cc nL rt D ac sa b L xs base) {C : String} {index : Nat} (h3 : 3 ≤ t) (h4 : t ≤ 4) (hC : mw_kty t = .object C) (hlink : Cond.classLink own index C ∈ lw_good) (hover : va_AO C s) (hR : mw_R (mw_ad b sa base) D ac base L xs σ H) (hS : va_S (fun q => base ≤ q) s.heap H locs) (hin : ¬ (i < 0 ∨ 1000 ≤ i.toNatClampNeg)) (hd : decode cc pc = .ok (.anewarray index, 3)) (hcells : cells + 1 ≤ R.cells) (hslots : slots + i.toNatClampNeg ≤ R.slots)
    (kk : ∀ (H1 : Heap) (locs1 : List Loc), mw_R (mw_ad b sa base) D ac base L xs (mv_na σ t i.toNatClampNeg) H1 → va_S (fun q => base ≤ q) s.heap H1 locs1 → W p l e R s m args below meth c H1 locs1 (cells + 1) (slots + i.toNatClampNeg) Q (F0 m (pc + 3) ls (.ref (mw_ad b sa base σ.1.length) :: rest))) : W p l e R s m args below meth c H locs cells slots Q (F0 m pc ls (.int i :: rest)) := by
  refine W.anew X.1 X.2.1 X.2.2.2.1 (X.2.2.2.2.1 _ hlink) (va_AO.use hover) rfl hd rfl (fun h => hin (Or.inl h)) (by omega) hcells hslots fun cA kA comp f1 f2 f3 f4 => ?_
  have hc : cA = ac t := by
    obtain ⟨-, -, -, -, -, hK, -⟩ := X
    obtain ⟨-, hA⟩ := hK.2 t (ac t, mw_kty t) (mw_tysG (by omega))
    rw [hC] at hA
    obtain ⟨_, _, -, -, -, q⟩ := hA
    exact Option.some.inj (f1.symm.trans q)
  subst hc
  generalize hH1 : H.push ({ cls := ac t, slots := Array.replicate i.toNatClampNeg .null, vm := .none } : Cell) = H1
  have z1 : H1.size = H.size + 1 := by rw [← hH1, Array.size_push]
  have e1 : H1[H.size]? = some (arrV (ac t) i.toNatClampNeg (fun _ => .null)) := by rw [← hH1, Array.getElem?_push_size, ← arrV_new]
  have o1 : ∀ q : Nat, q < H.size → H1[q]? = H[q]? := fun q hq => by rw [← hH1, Array.getElem?_push, if_neg (Nat.ne_of_lt hq)]
  have k2 := kk H1 locs (mw_R_na hR (by rw [mw_avR h3]; exact e1) z1 o1) (mw_S_push hS z1 o1)
  rw [mw_ad_len hR] at k2
  exact k2
theorem mw_fv0 {ad : Nat → Nat} {σ : mv_S} {ci k : Nat} {ty : FieldType} (h : mw_okT (mw_fk ci k) ty = true) : defaultValue ty = mw_fv ad (mv_no σ ci) ci σ.1.length k := by
  unfold mw_fv mv_no mv_uf
  generalize mw_fk ci k = q at h
  simp only [if_pos]
  match q, ty, h with
  | 0, .int, _ => rfl
  | 1, .boolean, _ => rfl
  | 2, .object _, _ => rfl
  | 2, .array _, _ => rfl
theorem mw_new (X : mw_X p l R s m args meth c own cc nL rt D ac sa b L xs base) {ci index : Nat} {r : vw_C} (hr : vwCl[ci]? = some r) (h1 : Cond.classLink own index r.1 ∈ lw_good) (h2 : Cond.instantiable r.1 r.2.2 ∈ lw_good) (h3 : Cond.initialized r.1 ∈ lw_good) (hR : mw_R (mw_ad b sa base) D ac base L xs σ H) (hS : va_S (fun q => base ≤ q) s.heap H locs) (hd : decode cc pc = .ok (.new index, 3)) (hcells : cells + 1 ≤ R.cells) (hslots : slots + r.2.2 ≤ R.slots)
    (kk : ∀ (H1 : Heap) (locs1 : List Loc), mw_R (mw_ad b sa base) D ac base L xs (mv_no σ ci) H1 → va_S (fun q => base ≤ q) s.heap H1 locs1 → W p l e R s m args below meth c H1 locs1 (cells + 1) (slots + r.2.2) Q (F0 m (pc + 3) ls (.ref (mw_ad b sa base σ.1.length) :: rest))) : W p l e R s m args below meth c H locs cells slots Q (F0 m pc ls rest) := by
  obtain ⟨hx, hb, -, hown, hts, hK, -⟩ := X
  obtain ⟨hin, hpt, -, hokT, -⟩ := mw_clsA hr
  have hKn := hK.1 ci _ hr
  refine W.newcK hx hb hown (hts _ h1) (hts _ h2) (hts _ h3) rfl hd hcells hslots hKn.2.1 rfl fun H1 kC hkC e1 z1 o1 => ?_
  have k2 := kk H1 locs (mw_R_push hR (x := .inl ci) rfl (fun q hq => mv_uf_ne hq) (fun q hq => mv_uf_ne hq) (fun q hq => rfl) z1 o1 ?_) (mw_S_push hS z1 o1)
  · rw [mw_ad_len hR] at k2
    exact k2
  · unfold mw_at
    rw [show (mv_no σ ci).1[σ.1.length]? = some (.inl ci) by simp [mv_no]]
    refine ⟨r, hr, ?_⟩
    rw [mw_ad_len hR]
    exact (u_born (mw_fty ci) hts hin hKn hkC e1 hpt).to fun k hk => mw_fv0 (hokT k hk)
theorem mw_acopy (X : mw_X p l R s m args meth c own cc nL rt D ac sa b L xs base) {index : Nat} (h1 : Cond.methodLink own index arraycopyName ∈ lw_good) (h2 : Cond.native arraycopyName ∈ lw_good) (h3 : Cond.static arraycopyName ∈ lw_good) (h4 : Cond.initialized "java/lang/System" ∈ lw_good) (hsz : ls.size = nL) (hR : mw_R (mw_ad b sa base) D ac base L xs σ H) (hS : va_S (fun q => base ≤ q) s.heap H locs)
    {a0 a1 n0 n1 : Nat} {sp dp n : Int32} (ha0 : 16 ≤ a0) (ha1 : 16 ≤ a1) (q0 : σ.1[a0]? = some (.inr (0, n0))) (q1 : σ.1[a1]? = some (.inr (0, n1))) (g1 : ¬ sp < 0) (g2 : ¬ dp < 0) (g3 : ¬ n < 0) (g4 : sp.toNatClampNeg + n.toNatClampNeg ≤ n0) (g5 : dp.toNatClampNeg + n.toNatClampNeg ≤ n1) (hw : (rest.map fun v => v.category).sum ≤ 8) (hd : decode cc pc = .ok (.invokestatic index, 3))
    (kk : ∀ (H1 : Heap) (locs1 : List Loc), mw_R (mw_ad b sa base) D ac base L xs (ms_i σ (mv_uf σ.2.1 a1 (va_cpy (σ.2.1 a0) (σ.2.1 a1) sp.toNatClampNeg dp.toNatClampNeg n.toNatClampNeg))) H1 → va_S (fun q => base ≤ q) s.heap H1 locs1 → W p l e R s m args below meth c H1 locs1 cells slots Q (F0 m (pc + 3) ls rest)) : W p l e R s m args below meth c H locs cells slots Q (F0 m pc ls (.int n :: .int dp :: .ref (mw_ad b sa base a1) :: .int sp :: .ref (mw_ad b sa base a0) :: rest)) := by
  obtain ⟨hx, hb, hml, hown, hts, hK, -, -, -, ⟨hf, hlo⟩, -⟩ := id X
  have c0 := mw_at_arr (hR.1 a0 ha0) q0 (by omega)
  have c1 := mw_at_arr (hR.1 a1 ha1) q1 (by omega)
  have e0 : mw_av (mw_ad b sa base) σ 0 a0 = fun j => .int (σ.2.1 a0 j) := by funext j; simp [mw_av]
  have e1 : mw_av (mw_ad b sa base) σ 0 a1 = fun j => .int (σ.2.1 a1 j) := by funext j; simp [mw_av]
  rw [e0] at c0
  rw [e1] at c1
  have nn : ∀ z : Int32, ¬ z < 0 → z.toInt = (z.toNatClampNeg : Int) := by
    intro z hz
    have hz0 : (0 : Int) ≤ z.toInt := by
      have := Int32.not_lt.mp hz
      simpa using Int32.le_iff_toInt_le.mp this
    show z.toInt = ((z.toInt.toNat : Nat) : Int)
    omega
  obtain ⟨hs6, k0, hk0, cm0, hkk0⟩ := mw_isA X (t := 0) (by omega) n0 (fun j => .int (σ.2.1 a0 j))
  obtain ⟨hs7, k1, hk1, cm1, hkk1⟩ := mw_isA X (t := 0) (by omega) n1 (fun j => .int (σ.2.1 a1 j))
  have hsl : ∀ j, j < n0 → (arrV (ac 0) n0 (fun j => .int (σ.2.1 a0 j))).slots[j]? = some (.int (σ.2.1 a0 j)) := fun j hj => arrV_read _ _ hj
  intro T hT Xs
  obtain ⟨vm', X', step⟩ := Xs.arraycopy hx hown (hts _ h1) (hts _ h2) (hts _ h3) (hts _ h4) (src := mw_ad b sa base a0) (dst := mw_ad b sa base a1) (cs := arrV (ac 0) n0 (fun j => .int (σ.2.1 a0 j))) (cd := arrV (ac 0) n1 (fun j => .int (σ.2.1 a1 j))) (srcPos := sp) (destPos := dp) (n := n) (by rw [hT]; exact c0) (by rw [hT]; exact c1)
    hs6 (fun _ h => by cases h) (fun h => by cases h) (fun h => by cases h) hk0 hk1 hkk0 hkk1 (by simp [refKind, mw_kty]) g1 g2 g3
    (by rw [nn sp g1, nn n g3, arrV_size]; omega)
    (by rw [nn dp g2, nn n g3, arrV_size]; omega)
    (fun vm₁ _ i hi => by
      have e : (arrV (ac 0) n0 (fun j => .int (σ.2.1 a0 j))).slots.getD (sp.toNatClampNeg + i) .null = .int (σ.2.1 a0 (sp.toNatClampNeg + i)) := by
        rw [Array.getD_eq_getD_getElem?, hsl _ (by omega)]
        rfl
      refine ⟨?_, ?_⟩
      · rw [e]
        rfl
      · rw [e]
        exact trivial)
    (g := F0 m pc ls (.int n :: .int dp :: .ref (mw_ad b sa base a1) :: .int sp :: .ref (mw_ad b sa base a0) :: rest)) rfl (by rw [hml]; exact hsz) (rest := rest) rfl (by rw [hb]; exact hd) (Nat.le_trans (by decide) hf) (by
      have hnw : nativeFrameWords "java/lang/System" "arraycopy" 5 ≤ 40 := by decide +kernel
      show 2 * 0 + _ + _ ≤ _
      omega)
  have ec : copied (arrV (ac 0) n0 (fun j => .int (σ.2.1 a0 j))) (arrV (ac 0) n1 (fun j => .int (σ.2.1 a1 j))) sp dp n = arrV (ac 0) n1 (fun j => .int (va_cpy (σ.2.1 a0) (σ.2.1 a1) sp.toNatClampNeg dp.toNatClampNeg n.toNatClampNeg j)) := va_copiedX (fun z => .int z) _ (ac 0) (σ.2.1 a0) (σ.2.1 a1) hsl g4
  rw [ec] at X' step
  generalize hcd : arrV (ac 0) n1 (fun j => .int (va_cpy (σ.2.1 a0) (σ.2.1 a1) sp.toNatClampNeg dp.toNatClampNeg n.toNatClampNeg j)) = cd at X' step
  have hl : mw_ad b sa base a1 < H.size := (Array.getElem?_eq_some_iff.mp c1).1
  have hheap : ((T.setVm vm').setCell (mw_ad b sa base a1) cd).heap = H.setIfInBounds (mw_ad b sa base a1) cd := by rw [← hT]; rfl
  have oq : ∀ q : Nat, q ≠ mw_ad b sa base a1 → (H.setIfInBounds (mw_ad b sa base a1) cd)[q]? = H[q]? := fun q hq => by simp [Array.getElem?_setIfInBounds, Ne.symm hq]
  have z1 : (H.setIfInBounds (mw_ad b sa base a1) cd).size = H.size := by simp
  obtain ⟨t, s1, s2⟩ := kk _ _ (mw_R_set hR ha1 rfl (fun q hq => mv_uf_ne hq) (fun _ _ => rfl) (fun _ _ => rfl) z1 oq (by
      unfold mw_at
      rw [show (ms_i σ (mv_uf σ.2.1 a1 (va_cpy (σ.2.1 a0) (σ.2.1 a1) sp.toNatClampNeg dp.toNatClampNeg n.toNatClampNeg))).1[a1]? = σ.1[a1]? from rfl, q1]
      intro _
      rw [show (H.setIfInBounds (mw_ad b sa base a1) cd)[mw_ad b sa base a1]? = some cd by simp [Array.getElem?_setIfInBounds, hl], ← hcd]
      refine congrArg (fun f => some (arrV (ac 0) n1 f)) (funext fun j => ?_)
      simp only [mw_av, mv_uf_self]
      rfl)) ⟨by rw [z1]; exact hS.1, fun q g1 g2 => by
      rw [oq q (fun e => g2 (by rw [e, mw_ad_ge ha1]; exact Nat.le_add_right _ _))]
      exact hS.2.1 q g1 g2, fun q hq => by
      rcases List.mem_append.mp hq with h | h
      · exact hS.2.2 q h
      · obtain ⟨z, -, hz⟩ := List.mem_map.mp h
        rw [← hz, mw_ad_ge ha1]
        exact Nat.le_add_right _ _⟩ _ hheap X'
  exact ⟨t, step t s1, s2⟩
end MO
