/-! SOUNDNESS of the small machine, 11: arrays of int arrays -/
def mz_g (h0 i : Nat) : Nat → Value := fun j => if j < i then .ref (h0 + 1 + j) else .null
theorem mz_gs (cA : ClassId) (N h0 i : Nat) : (arrV cA N (mz_g h0 i)).setSlot i (.ref (h0 + 1 + i)) = arrV cA N (mz_g h0 (i + 1)) := by
  rw [arrV_store]
  congr 1
  funext j
  unfold updV mz_g
  by_cases h : j = i
  · subst h
    simp
  · by_cases h2 : j < i
    · simp [h, h2, show j < i + 1 by omega]
    · simp [h, h2, show ¬ j < i + 1 by omega]
/-- the state behind the outer array and i rows -/
def mz_F (T : State) (cA cI : ClassId) (N M : Nat) : Nat → State
  | 0 => T.pushCell (arrV cA N (mz_g T.heap.size 0))
  | i + 1 => ((mz_F T cA cI N M i).pushCell (arrV cI M fun _ => .int 0)).setCell T.heap.size (arrV cA N (mz_g T.heap.size (i + 1)))
theorem mz_facts (T : State) (cA cI : ClassId) (N M : Nat) : ∀ i, (mz_F T cA cI N M i).heap.size = T.heap.size + 1 + i ∧ (mz_F T cA cI N M i).heap[T.heap.size]? = some (arrV cA N (mz_g T.heap.size i)) ∧ (mz_F T cA cI N M i).vm = T.vm ∧ (mz_F T cA cI N M i).slotsUsed = T.slotsUsed + N + i * M ∧
    (∀ a : Nat, a < T.heap.size → (mz_F T cA cI N M i).heap[a]? = T.heap[a]?) ∧ ∀ j : Nat, j < i → (mz_F T cA cI N M i).heap[T.heap.size + 1 + j]? = some (arrV cI M fun _ => .int 0)
  | 0 => ⟨by simp [mz_F], by simp [mz_F], rfl, by simp [mz_F, arrV_size], fun a ha => State.heap_pushCell_of_lt _ _ ha, fun j hj => absurd hj (Nat.not_lt_zero _)⟩
  | i + 1 => by
    obtain ⟨f1, f2, f3, f4, f5, f6⟩ := mz_facts T cA cI N M i
    have hlt : T.heap.size < (mz_F T cA cI N M i).heap.size := by omega
    have hb : ((mz_F T cA cI N M i).pushCell (arrV cI M fun _ => .int 0)).heap[T.heap.size]? = some (arrV cA N (mz_g T.heap.size i)) := by
      rw [State.heap_pushCell_of_lt (h := hlt)]
      exact f2
    refine ⟨?_, State.heap_setCell_self hb, by simp [mz_F, f3], ?_, fun a ha => ?_, fun j hj => ?_⟩
    · simp [mz_F, State.setCell, f1]
      omega
    · simp [mz_F, f4, arrV_size, Nat.succ_mul]
      omega
    · show (((mz_F T cA cI N M i).pushCell (arrV cI M fun _ => .int 0)).setCell T.heap.size _).heap[a]? = _
      rw [State.heap_setCell_other (Nat.ne_of_gt ha), State.heap_pushCell_of_lt (h := Nat.lt_trans ha hlt)]
      exact f5 a ha
    · show (((mz_F T cA cI N M i).pushCell (arrV cI M fun _ => .int 0)).setCell T.heap.size _).heap[T.heap.size + 1 + j]? = _
      rw [State.heap_setCell_other (show T.heap.size ≠ T.heap.size + 1 + j by omega)]
      by_cases e : j = i
      · subst e
        rw [← f1]
        exact State.heap_pushCell_size _ _
      · have h9 : T.heap.size + 1 + j < (mz_F T cA cI N M i).heap.size := by rw [f1]; omega
        rw [State.heap_pushCell_of_lt (h := h9)]
        exact f6 j (by omega)
theorem mz_top (T : State) (f : JFrame) (cA cI : ClassId) (N M : Nat) : ∀ i, mz_F (T.setTop f) cA cI N M i = (mz_F T cA cI N M i).setTop f
  | 0 => rfl
  | i + 1 => by simp only [mz_F, mz_top T f cA cI N M i, State.heap_setTop, State.pushCell_setTop, State.setCell_setTop]
section MZ
variable {p : Program} {l : Launch} {e : Env} {R : Room} {s : State} {m : MethodId} {args : Array Value} {below : List Frame} {meth : Method} {c : Code} {locs : List Loc} {cells slots : Nat}
theorem mz_stand {T : State} (X : Stand p l e R s m args below meth c T locs cells slots) (cA cI : ClassId) (N M : Nat) : ∀ i, ∃ locs' : List Loc, Stand p l e R s m args below meth c (mz_F T cA cI N M i) locs' (cells + 1 + i) (slots + N + i * M) ∧ ∀ q ∈ locs', q ∈ locs ∨ q.base = T.heap.size
  | 0 => by
    have h := X.pushed (arrV cA N (mz_g T.heap.size 0))
    rw [arrV_size] at h
    exact ⟨locs, by simpa [mz_F] using h, fun q hq => Or.inl hq⟩
  | i + 1 => by
    obtain ⟨l1, Xi, hl⟩ := mz_stand X cA cI N M i
    obtain ⟨f1, f2, f3, f4, f5, f6⟩ := mz_facts T cA cI N M i
    have hlt : T.heap.size < (mz_F T cA cI N M i).heap.size := by omega
    have hb : ((mz_F T cA cI N M i).pushCell (arrV cI M fun _ => .int 0)).heap[T.heap.size]? = some (arrV cA N (mz_g T.heap.size i)) := by
      rw [State.heap_pushCell_of_lt (h := hlt)]
      exact f2
    have h := (Xi.pushed (arrV cI M fun _ => .int 0)).stored hb i (.ref (T.heap.size + 1 + i))
    rw [arrV_size, mz_gs] at h
    refine ⟨l1 ++ [⟨T.heap.size, i⟩], ?_, fun q hq => ?_⟩
    · rw [show slots + N + (i + 1) * M = slots + N + i * M + M by rw [Nat.succ_mul]; omega]
      exact h
    · rcases List.mem_append.mp hq with h | h
      · exact hl q h
      · rw [List.mem_singleton] at h
        rw [h]
        exact Or.inr rfl
end MZ
section MW
variable {E : CtlPost} {e : Env} {d : Bool} {acts : List Action} {s : State}
/-- one array of default values -/
theorem mz_new {c comp : ClassId} {k : Class} {type : FieldType} {len : Nat} (hk : s.vm.classes[c]? = some k) (hkind : k.kind = .array comp type) {v : Value}
    (hl : ¬ len > e.platform.arrayLengthLimit) (hh : ¬ len * componentBytes type > e.platform.maxHeapBytes) (hf : fits type v = true) (hd : v.isDefault = true) {Q : Addr → Pre}
    (h1 : s.heap.size < e.platform.maxCells) (h2 : s.slotsUsed + len ≤ e.platform.maxSlots) (hq : Q s.heap.size d acts (s.pushCell (arrV c len fun _ => v))) : wp (Jvm.newArray c len v) Q E e d acts s := by
  have h3 : ∀ (i : Nat) (x : Value), (Array.replicate len v)[i]? = some x → s.fitsSlot c .none i x = true := by
    intro i x hx
    rw [Array.getElem?_replicate] at hx
    split at hx
    · cases hx
      simp [State.fitsSlot, State.slotType?, hk, hkind, hf]
    · cases hx
  have h4 : allocActs (Array.replicate len v) s.heap.size acts = acts := by
    have h5 : ((Array.replicate len v).all (·.isDefault)) = true := by
      rw [Array.all_replicate]
      split
      · rfl
      · exact hd
    unfold allocActs
    rw [if_pos h5]
  rw [← arrV_new] at hq
  simp only [Jvm.newArray, Jvm.arrayFits, wp_bind', W.ask, W.ite, hl, if_false, wp_pure', W.theClass, hk, hkind, hh, W.alloc, W.stop, Option.some.injEq, exists_eq_left', Array.size_replicate, h4]
  rw [if_neg (by omega)]
  exact ⟨h1, h2, h3, hq⟩
theorem mz_row {cI cc : ClassId} {kc : Class} {m : Int32} (hk : s.vm.classes[cI]? = some kc) (hkind : kc.kind = .array cc .int) (hm : ¬ m < 0) (hl : ¬ m.toNatClampNeg > e.platform.arrayLengthLimit) (hh : ¬ m.toNatClampNeg * 4 > e.platform.maxHeapBytes)
    (h1 : s.heap.size < e.platform.maxCells) (h2 : s.slotsUsed + m.toNatClampNeg ≤ e.platform.maxSlots) {Q : Addr → Pre} (hq : Q s.heap.size d acts (s.pushCell (arrV cI m.toNatClampNeg fun _ => .int 0))) : wp (multianewarray.make cI [m]) Q E e d acts s := by
  rw [multianewarray.make]
  simp only [wp_bind', W.ite, hm, if_false, wp_pure', W.theClass, hk, hkind, Option.some.injEq, exists_eq_left']
  exact mz_new hk hkind hl hh rfl rfl h1 h2 hq
theorem mz_make {cA cI cc : ClassId} {k kc : Class} {n m : Int32} (hk : s.vm.classes[cA]? = some k) (hkind : k.kind = .array cI (.array .int)) (hkc : s.vm.classes[cI]? = some kc) (hkindc : kc.kind = .array cc .int) (hn : ¬ n < 0) (hm : ¬ m < 0)
    (hl1 : ¬ n.toNatClampNeg > e.platform.arrayLengthLimit) (hh1 : ¬ n.toNatClampNeg * 4 > e.platform.maxHeapBytes) (hl2 : ¬ m.toNatClampNeg > e.platform.arrayLengthLimit) (hh2 : ¬ m.toNatClampNeg * 4 > e.platform.maxHeapBytes)
    (hc : s.heap.size + 1 + n.toNatClampNeg ≤ e.platform.maxCells) (hs : s.slotsUsed + n.toNatClampNeg + n.toNatClampNeg * m.toNatClampNeg ≤ e.platform.maxSlots)
    {Q : Addr → Pre} (hq : ∀ d' acts', Q s.heap.size d' acts' (mz_F s cA cI n.toNatClampNeg m.toNatClampNeg n.toNatClampNeg)) : wp (multianewarray.make cA [n, m]) Q E e d acts s := by
  have hfind : ([m].find? (· < 0)) = none := by simp [hm]
  rw [multianewarray.make]
  simp only [wp_bind', W.ite, hn, if_false, wp_pure', W.theClass, hk, hkind, Option.some.injEq, exists_eq_left']
  refine mz_new hk hkind hl1 hh1 rfl rfl (by omega) (by have := Nat.zero_le (n.toNatClampNeg * m.toNatClampNeg); omega) ?_
  simp only [hfind]
  rw [ite_self, wp_bind', Std.Legacy.Range.forIn_eq_forIn_range']
  rw [show ([:n.toNatClampNeg] : Std.Legacy.Range).size = n.toNatClampNeg by simp [Std.Legacy.Range.size]]
  show wp (forIn (List.range' 0 n.toNatClampNeg 1) PUnit.unit _) _ E e d acts _
  have e0 : s.pushCell (arrV cA n.toNatClampNeg fun _ => Value.null) = mz_F s cA cI n.toNatClampNeg m.toNatClampNeg 0 := by
    unfold mz_F
    congr 2
  rw [e0]
  refine wp_forIn_inv (fun rest s' => ∃ i, i ≤ n.toNatClampNeg ∧ rest = List.range' i (n.toNatClampNeg - i) ∧ s' = mz_F s cA cI n.toNatClampNeg m.toNatClampNeg i) _ _ ⟨0, Nat.zero_le _, rfl, rfl⟩ ?_ ?_
  · rintro x rest s' d' acts' Q' ⟨i, hi, hl, rfl⟩ hnext
    have hlt : i < n.toNatClampNeg := by
      rcases Nat.lt_or_ge i n.toNatClampNeg with h | h
      · exact h
      · rw [show n.toNatClampNeg - i = 0 by omega] at hl
        cases hl
    rw [show n.toNatClampNeg - i = (n.toNatClampNeg - (i + 1)) + 1 by omega, List.range'_succ] at hl
    obtain ⟨rfl, hrest⟩ := List.cons.inj hl
    obtain ⟨f1, f2, f3, f4, f5, f6⟩ := mz_facts s cA cI n.toNatClampNeg m.toNatClampNeg x
    have hmul : x * m.toNatClampNeg + m.toNatClampNeg ≤ n.toNatClampNeg * m.toNatClampNeg := by
      have h := Nat.mul_le_mul_right m.toNatClampNeg (show x + 1 ≤ n.toNatClampNeg from hlt)
      rw [Nat.succ_mul] at h
      exact h
    simp only [wp_bind']
    refine mz_row (by rw [f3]; exact hkc) hkindc hm hl2 hh2 (by rw [f1]; omega) (by rw [f4]; omega) ?_
    have hlt0 : s.heap.size < (mz_F s cA cI n.toNatClampNeg m.toNatClampNeg x).heap.size := by rw [f1]; omega
    simp only [wp_bind', W.writeLoc, wp_pure']
    refine ⟨arrV cA n.toNatClampNeg (mz_g s.heap.size x), by rw [State.heap_pushCell_of_lt (h := hlt0)]; exact f2, by simp [arrV], by rw [arrV_size]; exact hlt, ?_, hnext _ _ _ ⟨x + 1, hlt, hrest, ?_⟩⟩
    · show State.fitsSlot _ cA .none x _ = true
      simp [State.fitsSlot, State.slotType?, f3, hk, hkind, fits]
    · rw [f1, mz_gs]
      rfl
  · rintro s' d' acts' ⟨i, hi, hl, rfl⟩
    have hiN : i = n.toNatClampNeg := by
      rcases Nat.lt_or_ge i n.toNatClampNeg with h | h
      · rw [show n.toNatClampNeg - i = (n.toNatClampNeg - (i + 1)) + 1 by omega, List.range'_succ] at hl
        cases hl
      · omega
    subst hiN
    simp only [wp_pure']
    exact hq _ _
end MW
theorem mw_sz_ma (σ : mv_S) (n k : Nat) : mw_sz (mv_ma σ n k).1 = mw_sz σ.1 + n + n * k := by
  show mw_sz (σ.1 ++ (.inr (5, n) :: List.replicate n (.inr (0, k)))) = _
  rw [mw_sz_app]
  unfold mw_sz
  rw [List.map_cons, List.sum_cons, List.map_replicate]
  simp [mw_szT, List.sum_replicate_nat]
  omega
theorem mw_len_ma (σ : mv_S) (n k : Nat) : (mv_ma σ n k).1.length = σ.1.length + 1 + n := by
  show (σ.1 ++ ((.inr (5, n) : mv_T) :: List.replicate n (.inr (0, k)))).length = _
  simp
  omega
section MZW
variable {p : Program} {l : Launch} {e : Env} {R : Room} {s : State} {m : MethodId} {args : Array Value} {below : List Frame} {meth : Method} {c : Code} {own : String} {cc : ByteArray} {nL rt : Nat} {D : va_G} {ac sa : Nat → Nat} {b L : Nat} {xs : Nat → Int32} {base n0 s0 : Nat} {Q : State → Prop}
variable {cl : Nat → List mv_V → mv_S → mv_O} {lk : Nat → mv_K} {k : Nat → mv_L → List mv_V → mv_S → mv_O} {pc len : Nat} {lv : mv_L} {st : List mv_V} {σ σF : mv_S} {r0 : Option mv_V} {d i : Nat}
theorem mw_R_ma {H H' : Heap} {n k : Nat} (hR : mw_R (mw_ad b sa base) D ac base L xs σ H) (hz : H'.size = H.size + 1 + n) (e1 : H'[H.size]? = some (arrV (ac 5) n (mz_g H.size n))) (ho : ∀ q : Nat, q < H.size → H'[q]? = H[q]?) (hr : ∀ j : Nat, j < n → H'[H.size + 1 + j]? = some (arrV (ac 0) k fun _ => .int 0)) : mw_R (mw_ad b sa base) D ac base L xs (mv_ma σ n k) H' := by
  have hA := mw_ad_len hR
  obtain ⟨g1, g2, g3, g4, g5⟩ := hR
  have hl := mw_len_ma σ n k
  have hT' : ∀ j, j < σ.1.length → (mv_ma σ n k).1[j]? = σ.1[j]? := fun j hj => List.getElem?_append_left hj
  have hT0 : (mv_ma σ n k).1[σ.1.length]? = some (.inr (5, n)) := by
    show (σ.1 ++ ((.inr (5, n) : mv_T) :: List.replicate n (.inr (0, k))))[σ.1.length]? = _
    simp
  have hT1 : ∀ j, j < n → (mv_ma σ n k).1[σ.1.length + 1 + j]? = some (.inr (0, k)) := fun j hj => by
    show (σ.1 ++ ((.inr (5, n) : mv_T) :: List.replicate n (.inr (0, k))))[σ.1.length + 1 + j]? = _
    rw [List.getElem?_append_right (by omega), show σ.1.length + 1 + j - σ.1.length = j + 1 by omega, List.getElem?_cons_succ, List.getElem?_replicate, if_pos hj]
  have hN : ∀ q, q < σ.1.length → (mv_ma σ n k).2.1 q = σ.2.1 q := fun q hq => by
    funext y
    show (if σ.1.length ≤ q then 0 else σ.2.1 q y) = _
    rw [if_neg (by omega)]
  have hN1 : ∀ q y, σ.1.length ≤ q → (mv_ma σ n k).2.1 q y = 0 := fun q y hq => by
    show (if σ.1.length ≤ q then 0 else σ.2.1 q y) = _
    rw [if_pos hq]
  have hF : ∀ q, q < σ.1.length → (mv_ma σ n k).2.2.1 q = σ.2.2.1 q := fun q hq => by
    funext y
    show (if q = σ.1.length then (if y < n then some (σ.1.length + 1 + y) else none) else if σ.1.length ≤ q then none else σ.2.2.1 q y) = _
    rw [if_neg (by omega), if_neg (by omega)]
  have hF0 : ∀ y, (mv_ma σ n k).2.2.1 σ.1.length y = if y < n then some (σ.1.length + 1 + y) else none := fun y => by
    show (if σ.1.length = σ.1.length then (if y < n then some (σ.1.length + 1 + y) else none) else if σ.1.length ≤ σ.1.length then none else σ.2.2.1 σ.1.length y) = _
    rw [if_pos rfl]
  refine ⟨fun q hq => ?_, by omega, by omega, ⟨by rw [hT' 0 (by omega)]; exact g4.1, fun j hj => ?_⟩, fun q h5 h6 => by rw [hT' q (by omega)]; exact g5 q h5 h6⟩
  · rcases Nat.lt_trichotomy q σ.1.length with e | e | e
    · exact mw_at_keep (g1 q hq) (hT' q e) (hN q e) (hF q e) rfl (ho _ (by rw [mw_ad_ge hq, g3]; omega))
    · subst e
      unfold mw_at
      rw [hT0]
      intro _
      show H'[mw_ad b sa base σ.1.length]? = _
      rw [hA, e1]
      congr 2
      funext y
      show mz_g H.size n y = va_rf (((mv_ma σ n k).2.2.1 σ.1.length y).map (mw_ad b sa base))
      rw [hF0]
      unfold mz_g
      by_cases hy : y < n
      · rw [if_pos hy, if_pos hy]
        show Value.ref _ = Value.ref (mw_ad b sa base (σ.1.length + 1 + y))
        rw [mw_ad_ge (by omega)]
        refine congrArg Value.ref ?_
        show (H.size + 1 + y : Nat) = base + (σ.1.length + 1 + y - 16)
        omega
      · rw [if_neg hy, if_neg hy]
        rfl
    · by_cases hq2 : q < σ.1.length + 1 + n
      · obtain ⟨j, rfl⟩ : ∃ j, q = σ.1.length + 1 + j := ⟨q - (σ.1.length + 1), by omega⟩
        unfold mw_at
        rw [hT1 j (by omega)]
        intro _
        show H'[mw_ad b sa base (σ.1.length + 1 + j)]? = _
        rw [mw_ad_ge (by omega), show base + (σ.1.length + 1 + j - 16) = H.size + 1 + j by omega, hr j (by omega)]
        congr 2
        funext y
        show _ = Value.int ((mv_ma σ n k).2.1 (σ.1.length + 1 + j) y)
        rw [hN1 _ _ (by omega)]
      · unfold mw_at
        rw [List.getElem?_eq_none (by omega)]
        trivial
  · rw [hN 0 (by omega)]
    exact g4.2 j hj
theorem mw_mna {H : Heap} {locs : List Loc} {ls : Array Slot} {cells slots index : Nat} {rest : List Value} {x y : Int32} (X : mw_X p l R s m args meth c own cc nL rt D ac sa b L xs base) (hlink : Cond.classLink own index "[[I" ∈ lw_good) (harr : Cond.arrayClass .int ∈ lw_good) (hR : mw_R (mw_ad b sa base) D ac base L xs σ H) (hS : va_S (fun q => base ≤ q) s.heap H locs) (hx : ¬ (x < 0 ∨ 1000 ≤ x.toNatClampNeg)) (hy : ¬ (y < 0 ∨ 1000 ≤ y.toNatClampNeg)) (hd : decode cc pc = .ok (.multianewarray index 2, 4))
    (hcells : cells + (1 + x.toNatClampNeg) ≤ R.cells) (hslots : slots + (x.toNatClampNeg + x.toNatClampNeg * y.toNatClampNeg) ≤ R.slots)
    (kk : ∀ (H1 : Heap) (locs1 : List Loc), mw_R (mw_ad b sa base) D ac base L xs (mv_ma σ x.toNatClampNeg y.toNatClampNeg) H1 → va_S (fun q => base ≤ q) s.heap H1 locs1 → W p l e R s m args below meth c H1 locs1 (cells + 1 + x.toNatClampNeg) (slots + x.toNatClampNeg + x.toNatClampNeg * y.toNatClampNeg) Q (F0 m (pc + 4) ls (.ref (mw_ad b sa base σ.1.length) :: rest))) : W p l e R s m args below meth c H locs cells slots Q (F0 m pc ls (.int y :: .int x :: rest)) := by
  obtain ⟨hexec, hb, -, hown, hts, hK, hbase, -, -, -, hE2⟩ := X
  obtain ⟨-, -, -, -, -, -, -, -, -, -, hAA⟩ := hE2
  obtain ⟨cI, cA, kA, h1, h2, h3, h4⟩ := hAA
  intro T hT Xs
  have hpl : e.platform.magicAccessors = ({} : Platform).magicAccessors := by rw [Xs.admits.platform]
  obtain ⟨cI', kC, cc', g1, g2, g3⟩ := Cond.arrayClass_spec (hts _ harr)
  have eI : ("[" ++ FieldType.int.toString) = "[I" := by decide +kernel
  rw [eI] at g1
  cases h1.symm.trans g1
  have a0 : cI = ac 0 := by
    obtain ⟨-, hA⟩ := hK.2 0 (ac 0, mw_kty 0) (mw_tysG (by omega))
    exact Option.some.inj (g1.symm.trans hA)
  have a5 : cA = ac 5 := by
    obtain ⟨-, hA⟩ := hK.2 5 (ac 5, mw_kty 5) (mw_tysG (by omega))
    exact Option.some.inj (h4.symm.trans hA)
  subst a0 a5
  obtain ⟨c0, hfc0, hcl⟩ := Cond.classLink_spec hown (hts _ hlink) e.platform hpl
  cases h4.symm.trans hfc0
  obtain ⟨hg₁, hw₁, -⟩ := State.classEntry (e := e) Xs.warmed hcl
  generalize T.vm.noted m.cls index (.cls (ac 5)) = vm₁ at hg₁ hw₁
  obtain ⟨kA₁, hkA₁, heA⟩ := hw₁.alike.2.2 _ _ h2
  obtain ⟨kC₁, hkC₁, heC⟩ := hw₁.alike.2.2 _ _ g2
  have X₁ := Xs.noted hw₁
  obtain ⟨hr1, hr2⟩ := Xs.roomAbove hcells hslots
  obtain ⟨l1, XF, hl1⟩ := mz_stand X₁ (ac 5) (ac 0) x.toNatClampNeg y.toNatClampNeg x.toNatClampNeg
  obtain ⟨f1, f2, f3, f4, f5, f6⟩ := mz_facts (T.setVm vm₁) (ac 5) (ac 0) x.toNatClampNeg y.toNatClampNeg x.toNatClampNeg
  have hTh : (T.setVm vm₁).heap = H := hT
  rw [hTh] at f1 f2 f5 f6
  have hTz : T.heap.size = H.size := by rw [hT]
  obtain ⟨t, t1, t2⟩ := kk _ l1 (mw_R_ma hR f1 f2 f5 f6) ⟨Nat.le_trans hS.1 (by rw [f1]; omega), fun q q1 q2 => (f5 q (Nat.lt_of_lt_of_le q1 hS.1)).trans (hS.2.1 q q1 q2), fun q hq => by
    rcases hl1 q hq with h | h
    · exact hS.2.2 q h
    · rw [hTh] at h
      show base ≤ q.base
      rw [h]
      have := hR.2.2.1
      omega⟩ (mz_F (T.setVm vm₁) (ac 5) (ac 0) x.toNatClampNeg y.toNatClampNeg x.toNatClampNeg) rfl XF
  refine ⟨t, ?_, t2⟩
  rw [mw_ad_len hR, ← hTz] at t1
  have hkindA₁ : kA₁.kind = .array (ac 0) (.array .int) := by rw [heA]; exact h3
  have hkindC₁ : kC₁.kind = .array cc' .int := by rw [heC]; exact g3
  have q1 : ¬ x.toNatClampNeg > e.platform.arrayLengthLimit := by rw [Launch.admits_arrayLengthLimit Xs.admits]; omega
  have q2 : ¬ x.toNatClampNeg * 4 > e.platform.maxHeapBytes := by rw [Launch.admits_maxHeapBytes Xs.admits]; omega
  have q3 : ¬ y.toNatClampNeg > e.platform.arrayLengthLimit := by rw [Launch.admits_arrayLengthLimit Xs.admits]; omega
  have q4 : ¬ y.toNatClampNeg * 4 > e.platform.maxHeapBytes := by rw [Launch.admits_maxHeapBytes Xs.admits]; omega
  jvm_step Xs.here [Xs.here.top, hexec, hb, hd]
  have hg₂ : (resolveClass (F0 m pc ls (.int y :: .int x :: rest)).method.cls index).Gives e.toSetting (T.setTop (F0 m pc ls (.int y :: .int x :: rest))).vm (Except.ok (ac 5)) vm₁ := hg₁
  simp only [multianewarray.sem, wp_bind', W.resolveClassAt_links (State.method?_setTop (F0 m pc ls (.int y :: .int x :: rest)) Xs.here.top) hg₂]
  rw [W.popN, if_neg (by decide)]
  refine ⟨_, State.topJava?_setTop' (s := T.setVm vm₁) _ Xs.here.top, [.int x, .int y], rest, rfl, rfl, ?_⟩
  simp only [List.mapM_cons, List.mapM_nil, wp_bind', wp_pure']
  refine mz_make (k := kA₁) (kc := kC₁) (cI := ac 0) (cc := cc') hkA₁ hkindA₁ hkC₁ hkindC₁ (fun h => hx (Or.inl h)) (fun h => hy (Or.inl h)) q1 q2 q3 q4 (by show T.heap.size + 1 + _ ≤ _; omega) (by show T.slotsUsed + _ + _ ≤ _; omega) (fun d' acts' => ?_)
  have eS : ((T.setTop (F0 m pc ls (.int y :: .int x :: rest))).setVm vm₁).setTop { (F0 m pc ls (.int y :: .int x :: rest)) with stack := rest } = (T.setVm vm₁).setTop { (F0 m pc ls (.int y :: .int x :: rest)) with stack := rest } := by
    show ((T.setVm vm₁).setTop _).setTop _ = _
    rw [State.setTop_setTop]
  rw [eS, mz_top]
  simp only [wp_bind', W.mark, W.pushRef, State.topJava?_setTop' _ XF.here.top, Option.some.injEq, exists_eq_left', State.setTop_setTop, State.heap_setTop]
  intro acts
  simp [jvm, XF.here.top]
  exact t1
theorem ms_multianewarray {z0 : Nat} (X : mw_X p l R s m args meth c own cc nL rt D ac sa b L xs base) (hd : decode cc pc = .ok (.multianewarray i z0, 4)) (hz0 : z0 = 2) (hB : σF.1.length ≤ R.cells + n0 ∧ mw_sz σF.1 ≤ R.slots + s0) (hL : mw_okL own i (lk i)) (hA : Cond.arrayClass .int ∈ lw_good) (hst : mv_step cl lk rt k (.multianewarray i z0) pc lv st σ = some (r0, σF)) (hk : ∀ pc' lv' st' σ', k pc' lv' st' σ' = some (r0, σF) → σ'.1 <+: σF.1 ∧ mw_G p l e R s m args below meth c nL D ac (mw_ad b sa base) base L xs n0 s0 Q pc' lv' st' σ') : σ.1 <+: σF.1 ∧ mw_G p l e R s m args below meth c nL D ac (mw_ad b sa base) base L xs n0 s0 Q pc lv st σ := by
  subst hz0
  have hst : (match (generalizing := false) lk i with
    | (31, _, _, _, _) => (match (generalizing := false) st with
      | .inl m :: .inl n :: r => mo_ma σ n m fun o σ' => k (pc + 4) lv (.inr (.inr o) :: r) σ'
      | _ => none)
    | _ => none) = some (r0, σF) := hst
  split at hst
  · rename_i hlk
    rw [hlk] at hL
    split at hst
    · rename_i y x r hz
      unfold mo_ma at hst
      obtain ⟨hin1, hst⟩ := mo_ix_inv hst
      obtain ⟨hin2, hst⟩ := mo_ix_inv hst
      obtain ⟨h1, h2⟩ := hk _ _ _ _ hst
      have h3 := mw_sz_le h1
      rw [mw_sz_ma, mw_len_ma] at h3
      refine ⟨List.IsPrefix.trans (List.prefix_append _ _) h1, fun H locs ls cells slots hl hR hS hc hs => ?_⟩
      refine mw_mna X hL hA hR hS hin1 hin2 hd (by omega) (by omega) (fun H1 locs1 hR1 hS1 => h2 H1 locs1 ls _ _ hl hR1 hS1 ?_ ?_)
      · rw [mw_len_ma]; omega
      · rw [mw_sz_ma]; omega
    · cases hst
  · cases hst
end MZW
