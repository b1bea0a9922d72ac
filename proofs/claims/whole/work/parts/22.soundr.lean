/-! SOUNDNESS of the small machine, 18: throws, catches, all methods -/
def mw_nms : List String := ["java/lang/RuntimeException", "java/lang/Exception"]
def mw_exB (X : String) : List Cond := [.castable X X, .declares ⟨"java/lang/RuntimeException", "<init>", "()V"⟩, .declares ⟨"java/lang/RuntimeException", "<init>", "(Ljava/lang/String;)V"⟩, .declares ⟨"java/lang/Exception", "<init>", "()V"⟩, .declares ⟨"java/lang/Exception", "<init>", "(Ljava/lang/String;)V"⟩, .declares ⟨"java/lang/Throwable", "<init>", "()V"⟩, .declares ⟨"java/lang/Throwable", "<init>", "(Ljava/lang/String;)V"⟩]
/-- what the tables say of a place where an exception is made: its class's link, its text, its constructor's link -/
def mw_okTh (own : String) (x ik is ic : Nat) : Prop := Cond.classLink own ik (mw_ex x) ∈ lw_good ∧ Cond.initialized (mw_ex x) ∈ lw_good ∧ (∀ w ∈ (vx_atS own ic (mw_ex x) mw_nms).filter goodWord, w ∈ lw_good) ∧ (∀ w ∈ (vx_atS own ic (mw_ex x) mw_nms).filter (fun w => !goodWord w), w ∈ mw_exB (mw_ex x)) ∧ (∀ w ∈ Cond.classLink own ik (mw_ex x) :: Cond.initialized (mw_ex x) :: vx_atS own ic (mw_ex x) mw_nms, vx_ot w = true) ∧ Bundle.fit (mw_ex x) = true ∧ mw_ex x ∈ mw_exc
theorem mw_nmsF : ∀ n ∈ mw_nms, Bundle.fit n = true := by decide +kernel
section MTHR
variable {p : Program} {l : Launch} {e : Env} {R : Room} {s : State} {m : MethodId} {args : Array Value} {below : List Frame} {meth : Method} {c : Code} {own : String} {cc : ByteArray} {nL rt : Nat} {D : va_G} {ac sa : Nat → Nat} {b L : Nat} {xs : Nat → Int32} {base : Nat}
variable {H : Heap} {locs : List Loc} {ls : Array Slot} {cells slots pc mc ms x ik is ic : Nat} {σ : mv_S} {Qc : Array Value → State → Outcome → State → Prop} {text : String}
theorem mw_atOf (hx : mw_okTh own x ik is ic) (X : mw_X p l R s m args meth c own cc nL rt D ac sa b L xs base) : ∀ w ∈ vx_atS own ic (mw_ex x) mw_nms, w.before args s = true := by
  obtain ⟨-, -, h1, h2, -, -, h5⟩ := hx
  have hts := X.2.2.2.2.1
  have hE := X.2.2.2.2.2.2.2.2.2.2
  obtain ⟨-, -, -, -, hca, hde, -⟩ := hE
  have hd : ∀ y ∈ mw_decl, (Cond.declares y).before args s = true := fun y hy => va_Nw.use rfl (hde y hy)
  refine vx_hat (fun w hw => hts w (h1 w hw)) h2 ?_
  exact vx_c (va_Nw.use rfl (hca _ h5)) (vx_c (hd _ (by decide +kernel)) (vx_c (hd _ (by decide +kernel)) (vx_c (hd _ (by decide +kernel)) (vx_c (hd _ (by decide +kernel)) (vx_c (hd _ (by decide +kernel)) (vx_c (hd _ (by decide +kernel)) vx_n))))))
theorem mw_xcOf (h1 : 1 ≤ x) (h3 : x ≤ 3) (hR : mw_R (mw_ad b sa base) D ac base L xs σ H) (hS : va_S (fun q => base ≤ q) s.heap H locs) : ∀ t : State, s.vm.Alike t.vm → t.heap.size = H.size + 1 → (∀ q : Nat, q < H.size → t.heap[q]? = H[q]?) → mw_XC D ac sa b L xs base (some (.inl (nI x))) (mv_opq σ 6) (mw_ex x) s t := by
  intro t _ hz ho
  refine ⟨x, h1, h3, rfl, rfl, ?_, by rw [hz]; exact Nat.le_trans hS.1 (Nat.le_succ _), fun q hq hA => by rw [ho q (Nat.lt_of_lt_of_le hq hS.1)]; exact hS.2.1 q hq hA⟩
  refine mw_R_push hR (x := .inr (98, 6)) rfl (fun _ _ => rfl) (fun _ _ => rfl) (fun _ _ => rfl) hz ho ?_
  unfold mw_at
  rw [show (mv_opq σ 6).1[σ.1.length]? = some (.inr (98, 6)) by simp [mv_opq]]
  intro h
  omega
theorem mw_throwS (X : mw_X p l R s m args meth c own cc nL rt D ac sa b L xs base) (hl : l.stackTraces = false) (hlk : meth.locks = false) (hout : ∀ x ∈ c.exceptionTable.toList, False) (h1 : 1 ≤ x) (h3 : x ≤ 3) (hx : mw_okTh own x ik is ic) (hstr : (own, is, text) ∈ mw_xst)
    (d0 : decode cc pc = .ok (.new ik, 3)) (d3 : decode cc (pc + 3) = .ok (.dup, 1)) (d4 : decode cc (pc + 4) = .ok (.ldc is, 2)) (d6 : decode cc (pc + 6) = .ok (.invokespecial ic, 3)) (d9 : decode cc (pc + 9) = .ok (.athrow, 1))
    (hsz : ls.size = nL) (hR : mw_R (mw_ad b sa base) D ac base L xs σ H) (hS : va_S (fun q => base ≤ q) s.heap H locs) (hc : cells + 1 ≤ mc) (hs : slots + 6 ≤ ms) (hmc : mc ≤ R.cells) (hms : ms ≤ R.slots) :
    W p l e R s m args below meth c H locs cells slots (vx_MQ below Qc (mw_XC D ac sa b L xs base (some (.inl (nI x))) (mv_opq σ 6)) args s mc ms (fun q => base ≤ q)) (F0 m pc ls []) := by
  have hat := mw_atOf hx X
  obtain ⟨g1, g2, -, -, g5, g6, -⟩ := hx
  obtain ⟨e1, e2, e3, e4, hts, -, -, -, -, ⟨r1, r2⟩, hE⟩ := X
  obtain ⟨-, -, -, -, -, -, -, ⟨hU, hN⟩, hst, -⟩ := hE
  obtain ⟨a0, ha0⟩ := hst _ hstr
  exact vx_throwS e1 e2 hl e4 g6 mw_nmsF (hts _ g1) (hts _ g2) ha0 hat g5 hU hN hS (hsz.trans e3.symm) d0 d3 d4 d6 d9 (fun z hz => absurd (hout z hz) (fun h => h)) (by show 2 + 3 < R.frames; omega) (by show 0 + (13 * 3 + 43) ≤ R.locals; omega) (Nat.le_trans hc hmc) (Nat.le_trans hs hms) hlk (mw_xcOf h1 h3 hR hS) hS.2.2 hc hs
theorem mw_throwSW (X : mw_X p l R s m args meth c own cc nL rt D ac sa b L xs base) (hl : l.stackTraces = false) (hlk : meth.locks = false) (hout : ∀ x ∈ c.exceptionTable.toList, False) (h1 : 1 ≤ x) (h3 : x ≤ 3) (hx : mw_okTh own x ik is ic) (hstr : (own, is, text) ∈ mw_xst)
    (d0 : decode cc pc = .ok (.new ik, 3)) (d3 : decode cc (pc + 3) = .ok (.dup, 1)) (d4 : decode cc (pc + 4) = .ok (.ldc_w is, 3)) (d7 : decode cc (pc + 7) = .ok (.invokespecial ic, 3)) (d10 : decode cc (pc + 10) = .ok (.athrow, 1))
    (hsz : ls.size = nL) (hR : mw_R (mw_ad b sa base) D ac base L xs σ H) (hS : va_S (fun q => base ≤ q) s.heap H locs) (hc : cells + 1 ≤ mc) (hs : slots + 6 ≤ ms) (hmc : mc ≤ R.cells) (hms : ms ≤ R.slots) :
    W p l e R s m args below meth c H locs cells slots (vx_MQ below Qc (mw_XC D ac sa b L xs base (some (.inl (nI x))) (mv_opq σ 6)) args s mc ms (fun q => base ≤ q)) (F0 m pc ls []) := by
  have hat := mw_atOf hx X
  obtain ⟨g1, g2, -, -, g5, g6, -⟩ := hx
  obtain ⟨e1, e2, e3, e4, hts, -, -, -, -, ⟨r1, r2⟩, hE⟩ := X
  obtain ⟨-, -, -, -, -, -, -, ⟨hU, hN⟩, hst, -⟩ := hE
  obtain ⟨a0, ha0⟩ := hst _ hstr
  exact vx_throwSW e1 e2 hl e4 g6 mw_nmsF (hts _ g1) (hts _ g2) ha0 hat g5 hU hN hS (hsz.trans e3.symm) d0 d3 d4 d7 d10 (fun z hz => absurd (hout z hz) (fun h => h)) (by show 2 + 3 < R.frames; omega) (by show 0 + (13 * 3 + 43) ≤ R.locals; omega) (Nat.le_trans hc hmc) (Nat.le_trans hs hms) hlk (mw_xcOf h1 h3 hR hS) hS.2.2 hc hs
end MTHR
theorem mw_t28a : mw_okTh RX2 3 21 23 25 := ⟨mw_in 1004 (by decide +kernel) (by decide +kernel), mw_in 92 (by decide +kernel) (by decide +kernel), mw_inl (by decide +kernel) (by decide +kernel), by decide +kernel, by decide +kernel, by decide +kernel, by decide +kernel⟩
theorem mw_t28b : mw_okTh RX2 2 28 30 32 := ⟨mw_in 1071 (by decide +kernel) (by decide +kernel), mw_in 94 (by decide +kernel) (by decide +kernel), mw_inl (by decide +kernel) (by decide +kernel), by decide +kernel, by decide +kernel, by decide +kernel, by decide +kernel⟩
theorem mw_t28c : mw_okTh RX2 1 33 35 37 := ⟨mw_in 1087 (by decide +kernel) (by decide +kernel), mw_in 93 (by decide +kernel) (by decide +kernel), mw_inl (by decide +kernel) (by decide +kernel), by decide +kernel, by decide +kernel, by decide +kernel, by decide +kernel⟩
theorem mw_t122a : mw_okTh RX6 3 310 312 314 := ⟨mw_in 999 (by decide +kernel) (by decide +kernel), mw_in 92 (by decide +kernel) (by decide +kernel), mw_inl (by decide +kernel) (by decide +kernel), by decide +kernel, by decide +kernel, by decide +kernel, by decide +kernel⟩
theorem mw_t122b : mw_okTh RX6 1 320 322 324 := ⟨mw_in 997 (by decide +kernel) (by decide +kernel), mw_in 93 (by decide +kernel) (by decide +kernel), mw_inl (by decide +kernel) (by decide +kernel), by decide +kernel, by decide +kernel, by decide +kernel, by decide +kernel⟩
