/-! SOUNDNESS of the small machine, 3: the memory -/
def mw_fty (c k : Nat) : FieldType := match c with
  | 0 => tyX0 k
  | 1 => tyX1 k
  | 2 => tyX2 k
  | 3 => tyX3 k
  | 4 => tyX4 k
  | 5 => tyX5 k
  | 6 => tyX6 k
  | _ => tyX7 k
/-- does a field of this kind have this type -/
def mw_okT (k : Nat) (ty : FieldType) : Bool := match k, ty with
  | 0, .int => true
  | 1, .boolean => true
  | 2, .object _ => true
  | 2, .array _ => true
  | _, _ => false
def mw_cls (c : Nat) (r : vw_C) : Prop := (∀ w ∈ u_ws r.1 r.2.1 r.2.2, w ∈ lw_good) ∧ (∀ k, k < r.2.2 → parseFieldDescriptor (r.2.1 k).2.2.1 = some (mw_fty c k)) ∧ (∀ a, a < r.2.2 → ∀ b, b < r.2.2 → a ≠ b → (r.2.1 a).2.1 ≠ (r.2.1 b).2.1) ∧ (∀ k, k < r.2.2 → mw_okT (mw_fk c k) (mw_fty c k) = true) ∧ (mw_fks.getD c []).length = r.2.2
theorem mw_cls0 : mw_cls 0 (RX0, TX0, 6) := ⟨mw_inl (by decide +kernel) (by decide +kernel), tyX0_ok, nmX0, by decide +kernel, by decide +kernel⟩
theorem mw_cls1 : mw_cls 1 (RX1, TX1, 14) := ⟨mw_inl (by decide +kernel) (by decide +kernel), tyX1_ok, nmX1, by decide +kernel, by decide +kernel⟩
theorem mw_cls2 : mw_cls 2 (RX2, TX2, 3) := ⟨mw_inl (by decide +kernel) (by decide +kernel), tyX2_ok, nmX2, by decide +kernel, by decide +kernel⟩
theorem mw_cls3 : mw_cls 3 (RX3, TX3, 20) := ⟨mw_inl (by decide +kernel) (by decide +kernel), tyX3_ok, nmX3, by decide +kernel, by decide +kernel⟩
theorem mw_cls4 : mw_cls 4 (RX4, TX4, 5) := ⟨mw_inl (by decide +kernel) (by decide +kernel), tyX4_ok, nmX4, by decide +kernel, by decide +kernel⟩
theorem mw_cls5 : mw_cls 5 (RX5, TX5, 5) := ⟨mw_inl (by decide +kernel) (by decide +kernel), tyX5_ok, nmX5, by decide +kernel, by decide +kernel⟩
theorem mw_cls6 : mw_cls 6 (RX6, TX6, 13) := ⟨mw_inl (by decide +kernel) (by decide +kernel), tyX6_ok, nmX6, by decide +kernel, by decide +kernel⟩
theorem mw_cls7 : mw_cls 7 (RX7, TX7, 36) := ⟨mw_inl (by decide +kernel) (by decide +kernel), tyX7_ok, nmX7, by decide +kernel, by decide +kernel⟩
theorem mw_clsA {c : Nat} {r : vw_C} (h : vwCl[c]? = some r) : mw_cls c r := by
  match c, h with
  | 0, h => cases h; exact mw_cls0
  | 1, h => cases h; exact mw_cls1
  | 2, h => cases h; exact mw_cls2
  | 3, h => cases h; exact mw_cls3
  | 4, h => cases h; exact mw_cls4
  | 5, h => cases h; exact mw_cls5
  | 6, h => cases h; exact mw_cls6
  | 7, h => cases h; exact mw_cls7
  | c + 8, h => simp [vwCl] at h
theorem mw_ad_ge {b : Nat} {sa : Nat → Nat} {base k : Nat} (h : 16 ≤ k) : mw_ad b sa base k = base + (k - 16) := by
  unfold mw_ad
  rw [if_neg (by omega), if_neg (by omega)]
theorem mw_ad_ne {b : Nat} {sa : Nat → Nat} {base k a : Nat} (h : 16 ≤ k) (h2 : 16 ≤ a) (hn : k ≠ a) : mw_ad b sa base k ≠ mw_ad b sa base a := by
  rw [mw_ad_ge h, mw_ad_ge h2]
  omega
section MH
variable {ad sa : Nat → Nat} {D : va_G} {ac : Nat → ClassId} {base b L : Nat} {xs : Nat → Int32} {σ σ' : mv_S} {H H' : Heap} {a k c t n : Nat}
theorem mw_at_keep (h : mw_at ad D ac σ H k) (hT : σ'.1[k]? = σ.1[k]?) (h1 : σ'.2.1 k = σ.2.1 k) (h2 : σ'.2.2.1 k = σ.2.2.1 k) (h3 : σ'.2.2.2 k = σ.2.2.2 k) (hH : H'[ad k]? = H[ad k]?) : mw_at ad D ac σ' H' k := by
  have ef : ∀ c : Nat, mw_fv ad σ' c k = mw_fv ad σ c k := fun c => by
    funext f
    simp [mw_fv, h1, h2]
  have ea : ∀ t : Nat, mw_av ad σ' t k = mw_av ad σ t k := fun t => by
    funext f
    simp [mw_av, h1, h2, h3]
  unfold mw_at at h ⊢
  rw [hT]
  match hq : σ.1[k]?, h with
  | none, h => trivial
  | some (.inl c), h =>
    obtain ⟨r, g1, g2⟩ := h
    refine ⟨r, g1, ?_⟩
    rw [ef]
    exact g2.kept hH
  | some (.inr (t, n)), h =>
    intro ht
    show H'[ad k]? = _
    rw [hH, ea]
    exact h ht
theorem mw_at_obj (h : mw_at ad D ac σ H k) (hq : σ.1[k]? = some (.inl c)) : ∃ r : vw_C, vwCl[c]? = some r ∧ t_OB (ad k) (D.1 c) r.2.2 (D.2 c) H (mw_fv ad σ c k) := by
  unfold mw_at at h
  rw [hq] at h
  exact h
theorem mw_at_arr (h : mw_at ad D ac σ H k) (hq : σ.1[k]? = some (.inr (t, n))) (ht : t < 6) : H[ad k]? = some (arrV (ac t) n (mw_av ad σ t k)) := by
  unfold mw_at at h
  rw [hq] at h
  exact h ht
theorem mw_16 (h : mw_R ad D ac base L xs σ H) (hq : σ.1[k]? = some (.inl c)) : 16 ≤ k := by
  obtain ⟨-, -, -, ⟨h0, -⟩, h1⟩ := h
  rcases Nat.lt_or_ge k 16 with g | g
  · rcases Nat.eq_zero_or_pos k with z | z
    · subst z
      rw [h0] at hq
      cases hq
    · rw [h1 k z g] at hq
      cases hq
  · exact g
theorem mw_16a (h : mw_R ad D ac base L xs σ H) (hq : σ.1[k]? = some (.inr (t, n))) (ht : t < 6) : k = 0 ∧ t = 0 ∧ n = L ∨ 16 ≤ k := by
  obtain ⟨-, -, -, ⟨h0, -⟩, h1⟩ := h
  rcases Nat.lt_or_ge k 16 with g | g
  · rcases Nat.eq_zero_or_pos k with z | z
    · subst z
      rw [h0] at hq
      cases hq
      exact Or.inl ⟨rfl, rfl, rfl⟩
    · rw [h1 k z g] at hq
      cases hq
      omega
  · exact Or.inr g
/-- a cell is written, the others stay -/
theorem mw_R_set (h : mw_R (mw_ad b sa base) D ac base L xs σ H) (ha : 16 ≤ a) (hT : σ'.1 = σ.1) (h1 : ∀ q, q ≠ a → σ'.2.1 q = σ.2.1 q) (h2 : ∀ q, q ≠ a → σ'.2.2.1 q = σ.2.2.1 q) (h3 : ∀ q, q ≠ a → σ'.2.2.2 q = σ.2.2.2 q) (hz : H'.size = H.size) (ho : ∀ q : Nat, q ≠ mw_ad b sa base a → H'[q]? = H[q]?) (hn : mw_at (mw_ad b sa base) D ac σ' H' a) : mw_R (mw_ad b sa base) D ac base L xs σ' H' := by
  obtain ⟨g1, g2, g3, g4, g5⟩ := h
  refine ⟨fun k hk => ?_, by rw [hT]; exact g2, by rw [hT, hz]; exact g3, ⟨by rw [hT]; exact g4.1, fun j hj => ?_⟩, fun k h5 h6 => by rw [hT]; exact g5 k h5 h6⟩
  · by_cases e : k = a
    · subst e
      exact hn
    · exact mw_at_keep (g1 k hk) (by rw [hT]) (h1 k e) (h2 k e) (h3 k e) (ho _ (mw_ad_ne hk ha e))
  · rw [h1 0 (by omega)]
    exact g4.2 j hj
theorem mv_up_ne {α : Type} {f : Nat → Nat → α} {x : Nat} {v : α} (hn : k ≠ a) : mv_up f a x v k = f k := by
  funext y
  simp [mv_up, hn]
theorem mv_uf_ne {α : Type} {f : Nat → Nat → α} {g : Nat → α} (hn : k ≠ a) : mv_uf f a g k = f k := by
  funext y
  simp [mv_uf, hn]
theorem mv_uf_self {α : Type} {f : Nat → Nat → α} {g : Nat → α} : mv_uf f a g a = g := by
  funext y
  simp [mv_uf]
end MH
section MF
variable {p : Program} {l : Launch} {e : Env} {R : Room} {s : State} {m : MethodId} {args : Array Value} {below : List Frame} {meth : Method} {c : Code} {own : String} {cc : ByteArray} {nL rt : Nat} {D : va_G} {ac sa : Nat → Nat} {b L : Nat} {xs : Nat → Int32} {base : Nat} {Q : State → Prop}
variable {H : Heap} {locs : List Loc} {ls : Array Slot} {cells slots pc : Nat} {σ : mv_S} {rest : List Value} {a : Nat}
theorem mw_fits {ci f : Nat} {v : Value} {ty : FieldType} (h : mw_okT (mw_fk ci f) ty = true) (hv : (mw_fk ci f = 0 ∧ ∃ x, v = .int x) ∨ (mw_fk ci f = 1 ∧ (v = .int 0 ∨ v = .int 1)) ∨ (mw_fk ci f = 2 ∧ ∃ o, v = va_rf o)) : narrow ty v = v ∧ fits ty v = true := by
  generalize mw_fk ci f = q at h hv
  rcases hv with ⟨rfl, x, rfl⟩ | ⟨rfl, rfl | rfl⟩ | ⟨rfl, o, rfl⟩
  · cases ty <;> simp [mw_okT] at h
    exact ⟨rfl, rfl⟩
  · cases ty <;> simp [mw_okT] at h
    exact ⟨by decide, by decide⟩
  · cases ty <;> simp [mw_okT] at h
    exact ⟨by decide, by decide⟩
  · cases ty <;> simp [mw_okT] at h <;> cases o <;> exact ⟨rfl, rfl⟩
theorem mw_gf (X : mw_X p l R s m args meth c own cc nL rt D ac sa b L xs base) {ci f index : Nat} {r : vw_C} (hr : vwCl[ci]? = some r) (hf : f < r.2.2) (hlink : Cond.fieldLink own index r.1 (r.2.1 f).2.1 (r.2.1 f).2.2.1 ∈ lw_good) (hsame : (r.2.1 f).1 = r.1) (hd : decode cc pc = .ok (.getfield index, 3))
    (hR : mw_R (mw_ad b sa base) D ac base L xs σ H) (hty : σ.1[a]? = some (.inl ci))
    (kk : W p l e R s m args below meth c H locs cells slots Q (F0 m (pc + 3) ls (mw_fv (mw_ad b sa base) σ ci a f :: rest))) : W p l e R s m args below meth c H locs cells slots Q (F0 m pc ls (.ref (mw_ad b sa base a) :: rest)) := by
  obtain ⟨hx, hb, -, hown, hts, hK, -⟩ := X
  obtain ⟨r', hr', cell, q1, q2, q3, q4⟩ := mw_at_obj (hR.1 a (mw_16 hR hty)) hty
  cases hr.symm.trans hr'
  have hin := (mw_clsA hr).1
  obtain ⟨hS, hfc, kC, hkC, hkind⟩ := hK.1 ci _ hr
  obtain ⟨cf, kf, fi, fd, hi, hsl⟩ := hS f hf
  refine W.getf hx hb hown (hts _ hlink) (by rw [← hsame]; exact hi) (u_facts hfc hkC (u_lays hts hin hf) hi).1 q1 (by rw [q3]; exact fun h => by cases h) (v := mw_fv (mw_ad b sa base) σ ci a f) ?_ rfl rfl hd kk
  rw [hsl]
  exact q4 f hf
theorem mw_pf (X : mw_X p l R s m args meth c own cc nL rt D ac sa b L xs base) {ci f index : Nat} {r : vw_C} {v : Value} (hr : vwCl[ci]? = some r) (hf : f < r.2.2) (hlink : Cond.fieldLink own index r.1 (r.2.1 f).2.1 (r.2.1 f).2.2.1 ∈ lw_good) (hsame : (r.2.1 f).1 = r.1) (hfin : (r.2.1 f).2.2.2 = false ∨ (meth.name = "<init>" ∧ r.1 = own))
    (hd : decode cc pc = .ok (.putfield index, 3)) (hv : (mw_fk ci f = 0 ∧ ∃ x, v = .int x) ∨ (mw_fk ci f = 1 ∧ (v = .int 0 ∨ v = .int 1)) ∨ (mw_fk ci f = 2 ∧ ∃ o, v = va_rf o))
    (hR : mw_R (mw_ad b sa base) D ac base L xs σ H) (hS : va_S (fun q => base ≤ q) s.heap H locs) (hty : σ.1[a]? = some (.inl ci)) {σ' : mv_S} (hT : σ'.1 = σ.1) (h1 : ∀ q, q ≠ a → σ'.2.1 q = σ.2.1 q) (h2 : ∀ q, q ≠ a → σ'.2.2.1 q = σ.2.2.1 q) (h3 : σ'.2.2.2 = σ.2.2.2) (hs : ∀ j, updV (mw_fv (mw_ad b sa base) σ ci a) f v j = mw_fv (mw_ad b sa base) σ' ci a j)
    (kk : ∀ (H1 : Heap) (locs1 : List Loc), mw_R (mw_ad b sa base) D ac base L xs σ' H1 → va_S (fun q => base ≤ q) s.heap H1 locs1 → W p l e R s m args below meth c H1 locs1 cells slots Q (F0 m (pc + 3) ls rest)) : W p l e R s m args below meth c H locs cells slots Q (F0 m pc ls (v :: .ref (mw_ad b sa base a) :: rest)) := by
  obtain ⟨hx, hb, -, hown, hts, hK, -⟩ := X
  have h16 := mw_16 hR hty
  obtain ⟨r', hr', cell, q1, q2, q3, q4⟩ := mw_at_obj (hR.1 a h16) hty
  cases hr.symm.trans hr'
  obtain ⟨hin, hpt, hnm, hokT, -⟩ := mw_clsA hr
  have hap := va_apart (own := own) hts hin (mw_fty ci) hpt hnm hK hr
  obtain ⟨hSl, hfc, kC, hkC, hkind⟩ := hK.1 ci _ hr
  obtain ⟨cf, kf, fi, fd, hi, hsl⟩ := hSl f hf
  have hlay := hts _ (hin _ (u_in_lay hf))
  obtain ⟨hn, hfit⟩ := mw_fits (hokT f hf) hv
  have hst := (u_facts hfc hkC (u_lays hts hin hf) hi).1
  have hi' : s.fieldFound? r.1 (r.2.1 f).2.1 (r.2.1 f).2.2.1 = some (cf, kf, fi, fd) := by rw [← hsame]; exact hi
  have fin : ∀ H' : Heap, H'[mw_ad b sa base a]? = some (cell.setSlot fd.slot v) → H'.size = H.size → (∀ q, q ≠ mw_ad b sa base a → H'[q]? = H[q]?) → W p l e R s m args below meth c H' (locs ++ [⟨mw_ad b sa base a, fd.slot⟩]) cells slots Q (F0 m (pc + 3) ls rest) := by
    intro H' e1 e2 e3
    rw [hsl] at e1
    refine kk H' _ (mw_R_set hR h16 hT h1 h2 (fun q _ => by rw [h3]) e2 e3 ?_) (hS.put e2 e3 (by rw [mw_ad_ge h16]; exact Nat.le_add_right _ _))
    unfold mw_at
    rw [hT, hty]
    exact ⟨_, hr, t_OB.to (V := updV (mw_fv (mw_ad b sa base) σ ci a) f v) ⟨_, e1, q2, q3, t_set q4 hap hf v⟩ (fun j _ => hs j)⟩
  unfold u_lay at hlay
  rcases hfin with hfin | ⟨hini, hdecl⟩
  · rw [if_neg (by rw [hfin]; decide)] at hlay
    have h6 := u_store hfc hkC hkind hlay hi (hpt f hf) hn hfit
    exact W.putK hx hb (f := fd) ⟨hown, hts _ hlink, ⟨_, _, _, hi'⟩, hst⟩ (by rw [q2]; exact h6) q1 q3 (by rw [hsl]; exact k2_hasslot (q4 f hf)) rfl rfl hd fin
  · by_cases hfin : (r.2.1 f).2.2.2 = true
    · rw [if_pos hfin] at hlay
      have hcf : m.cls = cf := by
        obtain ⟨_, _, c', _, _, _, -, -, hf', -, -, -, hown2, -⟩ := Cond.laysFinal_spec hlay
        have e1 : c' = cf := by have := hi.symm.trans hf'; simp at this; exact this.1.symm
        rw [hsame, hdecl] at hown2
        rw [← e1]; exact Option.some.inj (hown.symm.trans hown2)
      have h6 := u_fits hfc hkC hkind (Or.inr hlay) hi (hpt f hf) hn hfit
      exact W.putFinK hx hb hown (hts _ hlink) hi' hst hcf hini (by rw [q2]; exact h6) q1 q3 (by rw [hsl]; exact k2_hasslot (q4 f hf)) rfl rfl hd fin
    · rw [if_neg hfin] at hlay
      have h6 := u_store hfc hkC hkind hlay hi (hpt f hf) hn hfit
      exact W.putK hx hb (f := fd) ⟨hown, hts _ hlink, ⟨_, _, _, hi'⟩, hst⟩ (by rw [q2]; exact h6) q1 q3 (by rw [hsl]; exact k2_hasslot (q4 f hf)) rfl rfl hd fin
end MF
