/-! SOUNDNESS of the small machine, 1: what it means, locals -/
def lw_good : List Cond := lw_tbl.filter goodWord
theorem mw_in {w : Cond} (i : Nat) (h : lw_tbl[i]? = some w) (g : goodWord w = true) : w ∈ lw_good := List.mem_filter.mpr ⟨List.mem_of_getElem? h, g⟩
theorem mw_inl {l : List Cond} (h : ∀ w ∈ l, w ∈ lw_tbl) (g : l.all goodWord = true) : ∀ w ∈ l, w ∈ lw_good := fun w hw => List.mem_filter.mpr ⟨h w hw, List.all_eq_true.mp g w hw⟩
def mw_ad (b : Nat) (sa : Nat → Nat) (base : Nat) (k : Nat) : Nat := if k = 0 then b else if k < 16 then sa k else base + (k - 16)
def mw_v (ad : Nat → Nat) (v : mv_V) : Value := match v with
  | .inl x => .int x
  | .inr (.inl x) => .long x
  | .inr (.inr o) => va_rf (o.map ad)
def mw_kty (t : Nat) : FieldType := match t with
  | 0 => .int
  | 1 => .boolean
  | 2 => .long
  | 3 => .object "LandByMap$Drawer"
  | 4 => .object "LandByMap$Shelf"
  | _ => .array .int
def mw_fks : List (List Nat) := [[2, 2, 2, 2, 0, 0], [0, 0, 2, 0, 0, 2, 2, 2, 2, 2, 2, 2, 2, 2], [0, 0, 0], [0, 0, 0, 0, 0, 0, 0, 0, 2, 2, 2, 2, 2, 2, 2, 2, 2, 2, 2, 2], [2, 1, 0, 0, 2], [2, 0, 0, 0, 2], [2, 2, 2, 2, 1, 2, 2, 2, 2, 2, 2, 2, 2], [2, 2, 2, 2, 2, 2, 2, 2, 2, 1, 0, 0, 0, 0, 0, 2, 0, 0, 2, 2, 2, 2, 2, 0, 2, 0, 0, 2, 2, 0, 0, 2, 2, 2, 2, 2]]
def mw_fk (c f : Nat) : Nat := (mw_fks.getD c []).getD f 0
def mw_fv (ad : Nat → Nat) (σ : mv_S) (c a : Nat) (f : Nat) : Value := if mw_fk c f = 2 then va_rf ((σ.2.2.1 a f).map ad) else .int (σ.2.1 a f)
def mw_av (ad : Nat → Nat) (σ : mv_S) (t a i : Nat) : Value := if t ≤ 1 then .int (σ.2.1 a i) else if t = 2 then .long (σ.2.2.2 a i) else va_rf ((σ.2.2.1 a i).map ad)
/-- cell k of the memory lies in the heap -/
def mw_at (ad : Nat → Nat) (D : va_G) (ac : Nat → ClassId) (σ : mv_S) (H : Heap) (k : Nat) : Prop := match σ.1[k]? with
  | some (.inl c) => ∃ r : vw_C, vwCl[c]? = some r ∧ t_OB (ad k) (D.1 c) r.2.2 (D.2 c) H (mw_fv ad σ c k)
  | some (.inr (t, n)) => t < 6 → H[ad k]? = some (arrV (ac t) n (mw_av ad σ t k))
  | none => True
def mw_R (ad : Nat → Nat) (D : va_G) (ac : Nat → ClassId) (base L : Nat) (xs : Nat → Int32) (σ : mv_S) (H : Heap) : Prop :=
  (∀ k, 16 ≤ k → mw_at ad D ac σ H k) ∧ 16 ≤ σ.1.length ∧ H.size = base + (σ.1.length - 16) ∧ (σ.1[0]? = some (.inr (0, L)) ∧ ∀ j, j < L → σ.2.1 0 j = xs j) ∧ ∀ k, 0 < k → k < 16 → σ.1[k]? = some (.inr (99, 0))
def mw_tys (ac : Nat → ClassId) : List (ClassId × FieldType) := (List.range 6).map fun t => (ac t, mw_kty t)
def mw_szT (t : mv_T) : Nat := match t with
  | .inl c => (mw_fks.getD c []).length
  | .inr (_, n) => n
def mw_sz (l : List mv_T) : Nat := (l.map mw_szT).sum
def mw_strs : List String := ["DD;", "N D;", "N;", "D;", "DN DN;", ""]
def mw_idx : List Nat := [42, 44, 46, 48, 50, 52]
def mw_exc : List String := ["java/lang/IllegalStateException", "java/lang/UnsupportedOperationException", "java/lang/IllegalArgumentException"]
def mw_decl : List MethodName := [⟨"java/lang/RuntimeException", "<init>", "()V"⟩, ⟨"java/lang/RuntimeException", "<init>", "(Ljava/lang/String;)V"⟩, ⟨"java/lang/Exception", "<init>", "()V"⟩, ⟨"java/lang/Exception", "<init>", "(Ljava/lang/String;)V"⟩, ⟨"java/lang/Throwable", "<init>", "()V"⟩, ⟨"java/lang/Throwable", "<init>", "(Ljava/lang/String;)V"⟩]
def mw_nest : List (Nat × MethodName) := [(37, yX5_init), (44, yX0_init), (51, yX1_init), (71, yX4_init)]
def mw_xst : List (String × Nat × String) := [(RX2, 23, "a blot"), (RX2, 30, "one that looks ahead"), (RX2, 35, "a drawer"), (RX6, 312, "no such shelf"), (RX6, 322, "no row, or no such place in it")]
/-- the class of arrays of int arrays is there -/
def mw_AA (U : State) : Prop := ∃ (cI cA : ClassId) (k : Class), U.vm.findClass "[I" = some cI ∧ U.vm.classes[cA]? = some k ∧ k.kind = .array cI (.array .int) ∧ U.vm.findClass "[[I" = some cA
/-- what the machine's tables and the old heap say, beside the classes -/
def mw_E2 (sa : Nat → Nat) (base : Nat) (U : State) : Prop :=
  (∃ adV : Nat → Nat, vk_S 6 (mw_strs.map fun t => t.length) ((List.range 6).map fun i => (mv_str (i + 1)).map fun x => nI x) (fun i => sa (i + 1)) adV (fun q => base ≤ q) U U.heap) ∧ (∀ i, i < 6 → vk_R RX5 (mw_idx.getD i 0) (mw_strs.getD i "") (sa (i + 1)) U) ∧
  (va_AO "LandByMap$Drawer" U ∧ va_AO "LandByMap$Shelf" U) ∧ (∀ q ∈ mw_nest, va_Nw (.methodLinkNest RX6 q.1 q.2 RX6) U) ∧ (∀ x ∈ mw_exc, va_Nw (.castable x x) U) ∧ (∀ y ∈ mw_decl, va_Nw (.declares y) U) ∧ (∀ x ∈ mw_exc, ∀ y ∈ mw_exc, x ≠ y → va_Nc x y U) ∧
  (vx_Zq Bundle.tN "UNASSIGNED_STACK" Bundle.steD (fun q => base ≤ q) U U.heap ∧ vx_Zq Bundle.tN "SUPPRESSED_SENTINEL" Bundle.listD (fun q => base ≤ q) U U.heap) ∧ (∀ q ∈ mw_xst, ∃ a, vk_R q.1 q.2.1 q.2.2 a U) ∧
  (va_Z "java/lang/String" "COMPACT_STRINGS" "Z" (.int 1) (fun q => base ≤ q) U U.heap ∧ va_Zq "jdk/internal/util/Preconditions" "SIOOBE_FORMATTER" "Ljava/util/function/BiFunction;" (fun q => base ≤ q) U U.heap) ∧ mw_AA U
/-- what holds at a method's start -/
def mw_E (D : va_G) (ac sa : Nat → Nat) (b L : Nat) (xs : Nat → Int32) (base : Nat) (U : State) : Prop := va_K D vwCl (mw_tys ac) U ∧ base ≤ U.heap.size ∧ va_X b L xs U U.heap ∧ b < base ∧ mw_E2 sa base U
/-- what holds all through a method's walk -/
def mw_X (p : Program) (l : Launch) (R : Room) (s : State) (m : MethodId) (args : Array Value) (meth : Method) (c : Code) (own : String) (cc : ByteArray) (nL rt : Nat) (D : va_G) (ac sa : Nat → Nat) (b L : Nat) (xs : Nat → Int32) (base : Nat) : Prop :=
  p.tables.exec = Jvm.exec ∧ c.code = cc ∧ c.maxLocals = nL ∧ s.vm.findClass own = some m.cls ∧ (∀ w ∈ lw_good, w.before args s = true) ∧ va_K D vwCl (mw_tys ac) s ∧ base ≤ s.heap.size ∧ va_X b L xs s s.heap ∧ b < base ∧ (8 ≤ R.frames ∧ 500 ≤ R.locals) ∧ mw_E2 sa base s
/-- from these locals, this stack, this memory the machine comes to Q -/
def mw_G (p : Program) (l : Launch) (e : Env) (R : Room) (s : State) (m : MethodId) (args : Array Value) (below : List Frame) (meth : Method) (c : Code) (nL : Nat) (D : va_G) (ac : Nat → Nat) (ad : Nat → Nat) (base L : Nat) (xs : Nat → Int32) (n0 s0 : Nat) (Q : State → Prop) (pc : Nat) (lv : mv_L) (st : List mv_V) (σ : mv_S) : Prop :=
  ∀ (H : Heap) (locs : List Loc) (ls : Array Slot) (cells slots : Nat), lv_has ls nL (lv.map fun q => (q.1, mw_v ad q.2)) → mw_R ad D ac base L xs σ H → va_S (fun q => base ≤ q) s.heap H locs → cells + n0 = σ.1.length → slots + s0 = mw_sz σ.1 →
    W p l e R s m args below meth c H locs cells slots Q (F0 m pc ls (st.map (mw_v ad)))
theorem mw_cat (ad : Nat → Nat) (v : mv_V) : ((mw_v ad v).category == 2) = mv_lg v := by
  match v with
  | .inl x => rfl
  | .inr (.inl x) => rfl
  | .inr (.inr none) => rfl
  | .inr (.inr (some a)) => rfl
theorem mw_ld {ad : Nat → Nat} {ls : Array Slot} {nL : Nat} : ∀ {lv : mv_L} {i : Nat} {v : mv_V}, lv_has ls nL (lv.map fun q => (q.1, mw_v ad q.2)) → lv.lookup i = some v → ls[i]? = some (.val (mw_v ad v)) := by
  intro lv i v h hv
  refine h.2.2 (i, mw_v ad v) (List.mem_map.mpr ⟨(i, v), ?_, rfl⟩)
  clear h
  induction lv with
  | nil => simp at hv
  | cons q r ih =>
    obtain ⟨j, w⟩ := q
    rw [List.lookup_cons] at hv
    by_cases e : i = j
    · subst e
      simp at hv
      subst hv
      exact List.mem_cons_self
    · have e2 : (i == j) = false := by simpa using e
      rw [e2] at hv
      exact List.mem_cons_of_mem _ (ih hv)
theorem mw_pick {ad : Nat → Nat} {ls : Array Slot} {nL : Nat} {lv : mv_L} {ks : List Nat} (h : lv_has ls nL (lv.map fun q => (q.1, mw_v ad q.2))) : lv_has ls nL ((mv_pick lv ks).map fun q => (q.1, mw_v ad q.2)) := by
  refine ⟨h.1, h.2.1, fun q hq => ?_⟩
  obtain ⟨z, hz, rfl⟩ := List.mem_map.mp hq
  obtain ⟨i, -, hi⟩ := List.mem_filterMap.mp hz
  cases hv : lv.lookup i with
  | none => rw [hv] at hi; cases hi
  | some v =>
    rw [hv] at hi
    cases hi
    exact mw_ld h hv
theorem mw_put1 (ad : Nat → Nat) (lv : mv_L) (i : Nat) (v : mv_V) : (i, mw_v ad v) :: (lv.map fun q => (q.1, mw_v ad q.2)).filter (fun q => !(q.1 == i) && !(q.1 + 1 == i && q.2.category == 2)) = (mv_put1 lv i v).map fun q => (q.1, mw_v ad q.2) := by
  unfold mv_put1
  rw [List.map_cons, List.filter_map]
  congr 2
  refine congrArg (fun f => List.filter f lv) (funext fun q => ?_)
  show (!(q.1 == i) && !(q.1 + 1 == i && (mw_v ad q.2).category == 2)) = _
  rw [mw_cat]
theorem mw_put2 (ad : Nat → Nat) (lv : mv_L) (i : Nat) (v : mv_V) : (i, mw_v ad v) :: (lv.map fun q => (q.1, mw_v ad q.2)).filter (fun q => !(q.1 == i) && (!(q.1 == i + 1) && !(q.1 + 1 == i && q.2.category == 2))) = (mv_put2 lv i v).map fun q => (q.1, mw_v ad q.2) := by
  unfold mv_put2
  rw [List.map_cons, List.filter_map]
  congr 2
  refine congrArg (fun f => List.filter f lv) (funext fun q => ?_)
  show (!(q.1 == i) && (!(q.1 == i + 1) && !(q.1 + 1 == i && (mw_v ad q.2).category == 2))) = _
  rw [mw_cat]
