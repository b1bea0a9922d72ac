/-! SOUNDNESS of the small machine, 20: the law's start -/
def mw_S00 (L : Nat) (xs : Nat → Int32) : mv_S := (.inr (0, L) :: List.replicate 15 (.inr (99, 0)), fun k j => if k = 0 then xs j else 0, fun _ _ => none, fun _ _ => 0)
theorem mw_chunk {α : Type} {P : α → Prop} (l : List α) (s n : Nat) (hs : 0 < s) (hn : l.length ≤ s * n) (h : ∀ k, k < n → ∀ q ∈ (l.drop (s * k)).take s, P q) : ∀ q ∈ l, P q := by
  intro q hq
  obtain ⟨i, hi, rfl⟩ := List.mem_iff_getElem.mp hq
  have h1 : i / s < n := Nat.div_lt_of_lt_mul (Nat.lt_of_lt_of_le hi hn)
  refine h (i / s) h1 _ ?_
  have h2 : s * (i / s) + i % s = i := Nat.div_add_mod i s
  have h3 : i % s < s := Nat.mod_lt _ hs
  have h4 : i % s < ((l.drop (s * (i / s))).take s).length := by
    rw [List.length_take, List.length_drop]
    omega
  have h5 : ((l.drop (s * (i / s))).take s)[i % s] = l[i] := by
    rw [List.getElem_take, List.getElem_drop]
    congr 1
  rw [← h5]
  exact List.getElem_mem h4
theorem mw_lawC : mw_okC [] none RL "" code mm_219 ∧ ∀ q ∈ mc_219, ∀ i, q.2.1 ≠ .putfield i := by
  constructor
  · refine mw_chunk (P := mw_q1) mc_219 42 20 (by decide) (by decide +kernel) ?_
    intro k hk
    match k, hk with
    | 0, _ => exact mw_lawC0
    | 1, _ => exact mw_lawC1
    | 2, _ => exact mw_lawC2
    | 3, _ => exact mw_lawC3
    | 4, _ => exact mw_lawC4
    | 5, _ => exact mw_lawC5
    | 6, _ => exact mw_lawC6
    | 7, _ => exact mw_lawC7
    | 8, _ => exact mw_lawC8
    | 9, _ => exact mw_lawC9
    | 10, _ => exact mw_lawC10
    | 11, _ => exact mw_lawC11
    | 12, _ => exact mw_lawC12
    | 13, _ => exact mw_lawC13
    | 14, _ => exact mw_lawC14
    | 15, _ => exact mw_lawC15
    | 16, _ => exact mw_lawC16
    | 17, _ => exact mw_lawC17
    | 18, _ => exact mw_lawC18
    | 19, _ => exact mw_lawC19
    | k + 20, h => exact absurd h (by omega)
  · have h : (mc_219.all fun q => match q.2.1 with | .putfield _ => false | _ => true) = true := by decide +kernel
    intro q hq i e
    have := List.all_eq_true.mp h q hq
    rw [e] at this
    cases this
section MLAW
variable {s : State} {b L : Nat} {xs : Nat → Int32}
theorem mw_getK (hts : ∀ w ∈ lw_tbl, w.before #[Value.ref b] s = true) : ∃ (D : va_G) (ac : Nat → Nat), va_K D vwCl (mw_tys ac) s := by
  have h1 : ∀ c : Nat, ∃ q : ClassId × (Nat → Nat), ∀ r, vwCl[c]? = some r → u_Kn s r.1 r.2.1 r.2.2 q.1 q.2 := by
    intro c
    have key : ∀ r, vwCl[c]? = some r → Cond.instantiable r.1 r.2.2 ∈ lw_tbl := by
      match c with
      | 0 => intro r h; cases h; decide +kernel
      | 1 => intro r h; cases h; decide +kernel
      | 2 => intro r h; cases h; decide +kernel
      | 3 => intro r h; cases h; decide +kernel
      | 4 => intro r h; cases h; decide +kernel
      | 5 => intro r h; cases h; decide +kernel
      | 6 => intro r h; cases h; decide +kernel
      | 7 => intro r h; cases h; decide +kernel
      | n + 8 => intro r h; cases h
    cases e : vwCl[c]? with
    | none => exact ⟨(0, fun _ => 0), fun r h => by cases h⟩
    | some r =>
      obtain ⟨cC, iS, hK⟩ := u_known (C := r.1) (T := r.2.1) (N := r.2.2) (n := r.2.2) hts (fun w hw => (List.mem_filter.mp ((mw_clsA e).1 w hw)).1) (hts _ (key r e))
      exact ⟨(cC, iS), fun r' h => by cases h; exact hK⟩
  have h2 : ∀ t : Nat, ∃ cA : ClassId, t < 6 → ArrOfT s cA (mw_kty t) ∧ va_RA s cA (mw_kty t) := by
    have prim : ∀ ty : FieldType, (Cond.arrayClass ty).before #[Value.ref b] s = true → ∃ cA, ArrOfT s cA ty ∧ s.vm.findClass ("[" ++ ty.toString) = some cA := by
      intro ty h
      obtain ⟨cA, k, comp, g1, g2, g3⟩ := Cond.arrayClass_spec h
      exact ⟨cA, fun n z => ⟨(fun q hq => by cases hq), k, g2, comp, g3⟩, g1⟩
    have obj : ∀ C : String, (Cond.arrayOver (.object C)).before #[Value.ref b] s = true → ∃ cA, ArrOfT s cA (.object C) ∧ va_RA s cA (.object C) := by
      intro C h
      obtain ⟨comp, cA, k, g1, g2, g3, g4, g5⟩ := Cond.arrayOver_spec h
      exact ⟨cA, fun n z => ⟨(fun q hq => by cases hq), k, g3, comp, g4⟩, k, comp, g3, g4, g1, g5⟩
    intro t
    match t with
    | 0 =>
      obtain ⟨cA, g1, g2⟩ := prim .int (hts _ (by decide +kernel))
      exact ⟨cA, fun _ => ⟨g1, g2⟩⟩
    | 1 =>
      obtain ⟨cA, g1, g2⟩ := prim .boolean (hts _ (by decide +kernel))
      exact ⟨cA, fun _ => ⟨g1, g2⟩⟩
    | 2 =>
      obtain ⟨cA, g1, g2⟩ := prim .long (hts _ (by decide +kernel))
      exact ⟨cA, fun _ => ⟨g1, g2⟩⟩
    | 3 =>
      obtain ⟨cA, g1, g2⟩ := obj "LandByMap$Drawer" (hts _ (by decide +kernel))
      exact ⟨cA, fun _ => ⟨g1, g2⟩⟩
    | 4 =>
      obtain ⟨cA, g1, g2⟩ := obj "LandByMap$Shelf" (hts _ (by decide +kernel))
      exact ⟨cA, fun _ => ⟨g1, g2⟩⟩
    | 5 =>
      obtain ⟨cI, cA, k, g1, g2, g3, g4⟩ := mw_AA_of (hts (.arrayOver (.array .int)) (by decide +kernel))
      refine ⟨cA, fun _ => ⟨fun n z => ⟨(fun q hq => by cases hq), k, g2, cI, g3⟩, ?_⟩⟩
      show s.vm.findClass ("[" ++ (FieldType.array .int).toString) = some cA
      rw [show ("[" ++ (FieldType.array .int).toString) = "[[I" by decide +kernel]
      exact g4
    | n + 6 => exact ⟨0, fun h => by omega⟩
  obtain ⟨f, hf⟩ := Classical.axiomOfChoice h1
  obtain ⟨ac, hac⟩ := Classical.axiomOfChoice h2
  refine ⟨(fun c => (f c).1, fun c => (f c).2), ac, fun c r h => hf c r h, fun k q h => ?_⟩
  have hk : k < 6 := by
    have := (List.getElem?_eq_some_iff.mp h).1
    simpa [mw_tys] using this
  rw [mw_tysG hk] at h
  cases h
  exact hac k hk
theorem mw_getE (hts : ∀ w ∈ lw_tbl, w.before #[Value.ref b] s = true) (hgv : (Jvm.Cond.and given_1 narrow_1).before #[Value.ref b] s = true) : ∃ sa : Nat → Nat, mw_E2 sa s.heap.size s := by
  have hg : ∀ w ∈ flatC (Jvm.Cond.and given_1 narrow_1), w.before #[Value.ref b] s = true := flat_of_before _ hgv
  have hA : ∀ a : Nat, a < s.heap.size → ¬ (fun q => s.heap.size ≤ q) a := fun a h q => absurd h (Nat.not_lt.mpr q)
  obtain ⟨adK, adV, hS, hev⟩ := vk_Sof (args := #[Value.ref b]) (s := s) (N := 6) (tm := fun i => .string RX5 (mw_idx.getD i 0)) (len := mw_strs.map fun t => t.length) (byt := (List.range 6).map fun i => (mv_str (i + 1)).map fun x => nI x) (A := fun q => s.heap.size ≤ q)
    (by decide) (by
      intro i hi
      exact hg _ (by revert i; decide +kernel)) (by
      intro i hi
      exact hg _ (by revert i; decide +kernel)) (by
      intro i hi
      exact hg _ (by revert i; decide +kernel)) (by
      intro i hi
      exact hg _ (by revert i; decide +kernel)) (by
      intro i hi j hj
      exact hg _ (by revert j; revert i; decide +kernel)) (by
      have h : ∀ i, i < 6 → ∀ j, j < 6 → i ≠ j → (Cond.not (Cond.eq (Term.string RX5 (mw_idx.getD i 0)) (Term.string RX5 (mw_idx.getD j 0)))) ∈ flatC (Jvm.Cond.and given_1 narrow_1) ∨ (Cond.not (Cond.eq (Term.string RX5 (mw_idx.getD j 0)) (Term.string RX5 (mw_idx.getD i 0)))) ∈ flatC (Jvm.Cond.and given_1 narrow_1) := by decide +kernel
      intro i j hi hj hij
      rcases h i hi j hj hij with h | h
      · exact Or.inl (hg _ h)
      · exact Or.inr (hg _ h)) hA
  refine ⟨fun k => adK (k - 1), ⟨adV, hS⟩, fun i hi => ?_, ⟨va_AO.of (hts (.arrayOver (.object "LandByMap$Drawer")) (by decide +kernel)), va_AO.of (hts (.arrayOver (.object "LandByMap$Shelf")) (by decide +kernel))⟩, ?_, ?_, ?_, ?_, ⟨?_, ?_⟩, ?_, ⟨?_, ?_⟩, mw_AA_of (hts (.arrayOver (.array .int)) (by decide +kernel))⟩
  · refine vk_R.of (A := #[Value.ref b]) (hts _ (by revert i; decide +kernel)) (hev i hi)
  · intro q hq
    exact va_Nw.of rfl (hts _ (by revert q; decide +kernel))
  · intro x hx
    exact va_Nw.of rfl (hts _ (by revert x; decide +kernel))
  · intro y hy
    exact va_Nw.of rfl (hts _ (by revert y; decide +kernel))
  · intro x hx y hy hne
    exact va_Nc.of (hg _ (by revert y; revert x; decide +kernel))
  · exact vx_Zqof (hts (.laysStatic Bundle.tN "UNASSIGNED_STACK" Bundle.steD) (by decide +kernel)) (hts (.initialized Bundle.tN) (by decide +kernel)) (hg (.isRef (.static Bundle.tN "UNASSIGNED_STACK" Bundle.steD)) (by decide +kernel)) hA
  · exact vx_Zqof (hts (.laysStatic Bundle.tN "SUPPRESSED_SENTINEL" Bundle.listD) (by decide +kernel)) (hts (.initialized Bundle.tN) (by decide +kernel)) (hg (.isRef (.static Bundle.tN "SUPPRESSED_SENTINEL" Bundle.listD)) (by decide +kernel)) hA
  · have hh : ∀ q ∈ mw_xst, Cond.stringRef q.1 q.2.1 q.2.2 ∈ lw_tbl := by decide +kernel
    intro q hq
    obtain ⟨a, c, cA, kA, q1, -⟩ := Cond.exactly_spec (args := #[Value.ref b]) (first := s) (o := none) (s := s) (idx := []) (t := .string q.1 q.2.1) (cls := "java/lang/String") (hg (.exactly (.string q.1 q.2.1) "java/lang/String") (by revert q; decide +kernel))
    exact ⟨a, vk_R.of (A := #[Value.ref b]) (hts _ (hh q hq)) q1⟩
  · exact va_Zof (hts (.laysStatic "java/lang/String" "COMPACT_STRINGS" "Z") (by decide +kernel)) (hts (.initialized "java/lang/String") (by decide +kernel)) (va_eqt (hg (.eq (.static "java/lang/String" "COMPACT_STRINGS" "Z") (.int 1)) (by decide +kernel))) hA
  · exact va_Zqof (hts (.laysStatic "jdk/internal/util/Preconditions" "SIOOBE_FORMATTER" "Ljava/util/function/BiFunction;") (by decide +kernel)) (hts (.initialized "jdk/internal/util/Preconditions") (by decide +kernel)) (hg (.isRef (.static "jdk/internal/util/Preconditions" "SIOOBE_FORMATTER" "Ljava/util/function/BiFunction;")) (by decide +kernel)) hA
theorem mw_R00 {D : va_G} {ac sa : Nat → Nat} {H : Heap} : mw_R (mw_ad b sa H.size) D ac H.size L xs (mw_S00 L xs) H := by
  refine ⟨fun k hk => ?_, by simp [mw_S00], by simp [mw_S00], ⟨rfl, fun j hj => rfl⟩, fun k h1 h2 => ?_⟩
  · unfold mw_at
    rw [List.getElem?_eq_none (by simp [mw_S00]; omega)]
    trivial
  · obtain ⟨j, rfl⟩ : ∃ j, k = j + 1 := ⟨k - 1, by omega⟩
    show (List.replicate 15 (.inr (99, 0) : mv_T))[j]? = _
    rw [List.getElem?_replicate, if_pos (by omega)]
/-- THE LAW: where its walk over the small memory ends with 1, the machine's does -/
theorem mw_law {p : Program} {e : Env} {m : MethodId} {below : List Frame} {meth : Method} {c : Code} {l : Launch} (hflags : l.flags = flags0) (C0 : lw_At p s m meth c b L xs) {n : Nat} {σF : mv_S} (hrun : mv_run (mv_cax 40) mm_219 n 0 [(0, .inr (.inr (some 0)))] [] (mw_S00 L xs) = some (some (.inl 1), σF)) (h1 : σF.1.length ≤ 601040) (h2 : mw_sz σF.1 ≤ 7293034 + L) :
    W p l e room_1 s m #[Value.ref b] below meth c s.heap [] 0 0 (lw_Z below #[Value.ref b] s) (entryFrame m ([Value.ref b] : List Value).toArray 8) := by
  obtain ⟨hx, hb, hr, hml, hown, hts, hX, hbl, hlocks, hgv⟩ := C0
  have hl : l.stackTraces = false := by
    unfold Launch.stackTraces
    rw [hflags]
    decide
  obtain ⟨D, ac, hK⟩ := mw_getK hts
  obtain ⟨sa, hE⟩ := mw_getE hts hgv
  have X : mw_X p l room_1 s m #[Value.ref b] meth c RL code mm_219.1 mm_219.2.1 D ac sa b L xs s.heap.size := ⟨hx, hb, hml, hown, fun w hw => hts w (List.mem_filter.mp hw).1, hK, Nat.le_refl _, hX, hbl, ⟨by decide, by decide⟩, hE⟩
  have hRt : mw_Ret p l e room_1 s m #[Value.ref b] below meth c code mm_219.1 mm_219.2.1 D ac (mw_ad b sa s.heap.size) s.heap.size L xs 16 L (lw_Z below #[Value.ref b] s) (some (.inl 1)) σF := by
    intro H locs ls cells slots pc st hsz hR hS hc hs hret
    rcases hret with ⟨hd, x, rfl, hr0, -⟩ | ⟨-, x, -, hr0, -⟩ | ⟨-, x, -, hr0, -⟩ | ⟨-, -, hr0, -⟩
    · cases hr0
      exact W.forget (locs := []) (L := locs) (fun q hq => hS.2.2 q hq) (W.widen (k := 601024) (n := 7293034) (by omega) (by omega) (lw_ret hx hb hr hlocks hd))
    · cases hr0
    · cases hr0
    · cases hr0
  have key := mw_run (M := mm_219) (e := e) (below := below) (n0 := 16) (s0 := L) (ths := []) (ct := none) (nm := meth.name) (own := RL) (cc := code) X (mw_CCd hl 40) ⟨by decide, by decide⟩ ⟨by show σF.1.length ≤ 601024 + 16; omega, by show mw_sz σF.1 ≤ 7293034 + L; exact h2⟩ (mw_lkok lk_RL_ok) hRt (fun H locs ls cells slots pc i x n y z σ' _ h => nomatch h) (fun H locs ls cells slots pc i M n y x h z lv rest q ce _ h9 => nomatch h9) rfl (fun q hq => ⟨(mw_lawC.1 q hq).1, mw_okI_nm (mw_lawC.1 q hq).2 (mw_lawC.2 q hq)⟩) n 0 _ _ _ hrun
  rw [lg_entry_eq]
  refine key.2 s.heap [] _ 0 0 ?_ mw_R00 mw_S0 rfl ?_
  · exact lv_entry ([.ref b]) (n := 8) (Nat.le_of_ble_eq_true rfl)
  · show 0 + L = mw_sz ((.inr (0, L) : mv_T) :: List.replicate 15 (.inr (99, 0)))
    simp [mw_sz, mw_szT, List.sum_replicate_nat]
end MLAW
