/-! PURE LAYER, 1: the memory in whole numbers, the rules of walks -/
def zz_S (T : List mv_T) (J : Nat → Int → Int) (R : Nat → Nat → Option Nat) (G : Nat → Nat → Int64) : mv_S := (T, fun a k => mv_c (J a (k : Int)), R, G)
def zz_u (J : Nat → Int → Int) (a : Nat) (k v : Int) : Nat → Int → Int := fun x y => if x = a ∧ y = k then v else J x y
def zz_cp (J : Nat → Int → Int) (a : Nat) (sp : Int) (b : Nat) (dp n : Int) : Nat → Int → Int := fun x y => if x = b ∧ dp ≤ y ∧ y < dp + n then J a (sp + (y - dp)) else J x y
noncomputable def zz_b (P : Prop) : Int := @ite _ P (Classical.propDecidable P) 1 0
theorem zz_b_t {P : Prop} (h : P) : zz_b P = 1 := if_pos h
theorem zz_b_f {P : Prop} (h : ¬P) : zz_b P = 0 := if_neg h
theorem zz_b_c (P : Prop) : zz_b P = 0 ∧ ¬P ∨ zz_b P = 1 ∧ P := by
  by_cases h : P
  · exact Or.inr ⟨zz_b_t h, h⟩
  · exact Or.inl ⟨zz_b_f h, h⟩
section ZARI
variable {a b : Int}
theorem zz_mn : Int32.minValue.toInt = -2147483648 := by decide
theorem zz_mx : Int32.maxValue.toInt = 2147483647 := by decide
theorem zz_mn6 : Int64.minValue.toInt = -9223372036854775808 := by decide
theorem zz_mx6 : Int64.maxValue.toInt = 9223372036854775807 := by decide
theorem zz_ti (h1 : -2147483648 ≤ a) (h2 : a ≤ 2147483647) : (mv_c a).toInt = a := Int32.toInt_ofInt_of_le (by omega) (by omega)
theorem zz_lt (h1 : -2147483648 ≤ a) (h2 : a ≤ 2147483647) (h3 : -2147483648 ≤ b) (h4 : b ≤ 2147483647) : (mv_c a < mv_c b) = (a < b) :=
  propext (Int32.ofInt_lt_iff_lt (by rw [zz_mn]; exact h1) (by rw [zz_mx]; exact h2) (by rw [zz_mn]; exact h3) (by rw [zz_mx]; exact h4))
theorem zz_le (h1 : -2147483648 ≤ a) (h2 : a ≤ 2147483647) (h3 : -2147483648 ≤ b) (h4 : b ≤ 2147483647) : (mv_c a ≤ mv_c b) = (a ≤ b) :=
  propext (Int32.ofInt_le_iff_le (by rw [zz_mn]; exact h1) (by rw [zz_mx]; exact h2) (by rw [zz_mn]; exact h3) (by rw [zz_mx]; exact h4))
theorem zz_eq (h1 : -2147483648 ≤ a) (h2 : a ≤ 2147483647) (h3 : -2147483648 ≤ b) (h4 : b ≤ 2147483647) : (mv_c a = mv_c b) = (a = b) := by
  refine propext ⟨fun h => ?_, fun h => by rw [h]⟩
  have := congrArg Int32.toInt h
  rwa [zz_ti h1 h2, zz_ti h3 h4] at this
theorem zz_add : mv_c a + mv_c b = mv_c (a + b) := (Int32.ofInt_add a b).symm
theorem zz_sub : mv_c a - mv_c b = mv_c (a - b) := (Int32.ofInt_sub a b).symm
theorem zz_mul : mv_c a * mv_c b = mv_c (a * b) := (Int32.ofInt_mul a b).symm
theorem zz_neg : -mv_c a = mv_c (-a) := (Int32.ofInt_neg a).symm
theorem zz_0 : (0 : Int32) = mv_c 0 := by decide
theorem zz_nI {n : Nat} : nI n = mv_c (n : Int) := by
  show Int32.ofNat n = Int32.ofInt (n : Int)
  rw [Int32.ofInt_eq_ofNat]
theorem zz_div (h1 : 0 ≤ a) (h2 : a ≤ 2147483647) (h3 : 0 < b) (h4 : b ≤ 2147483647) : mv_c a / mv_c b = mv_c (a / b) := by
  show Int32.ofInt a / Int32.ofInt b = Int32.ofInt (a / b)
  rw [← Int32.ofInt_tdiv (by rw [zz_mn]; omega) (by rw [zz_mx]; exact h2) (by rw [zz_mn]; omega) (by rw [zz_mx]; exact h4), Int.tdiv_eq_ediv_of_nonneg h1]
theorem zz_md : a - a / b * b = a % b := by
  rw [Int.emod_def, Int.mul_comm]
theorem zz_dv {k : mv_O} (h1 : -2147483648 ≤ b) (h2 : b ≤ 2147483647) (h : b ≠ 0) : mo_dv (mv_c b) k = k := by
  unfold mo_dv
  rw [zz_0, if_neg]
  rw [zz_eq h1 h2 (by omega) (by omega)]
  exact h
theorem zz_abs (h1 : -2147483647 ≤ a) (h2 : a ≤ 2147483647) : mv_abs (mv_c a) = mv_c (a.natAbs : Int) := by
  unfold mv_abs
  simp only [zz_0, zz_le (by omega : -2147483648 ≤ (0:Int)) (by omega) (by omega : -2147483648 ≤ a) h2, zz_sub]
  split
  · congr 1
    omega
  · congr 1
    omega
theorem zz_max (h1 : -2147483648 ≤ a) (h2 : a ≤ 2147483647) (h3 : -2147483648 ≤ b) (h4 : b ≤ 2147483647) : mv_max (mv_c a) (mv_c b) = mv_c (max a b) := by
  unfold mv_max
  simp only [zz_lt h1 h2 h3 h4]
  split
  · congr 1
    omega
  · congr 1
    omega
theorem zz_min (h1 : -2147483648 ≤ a) (h2 : a ≤ 2147483647) (h3 : -2147483648 ≤ b) (h4 : b ≤ 2147483647) : mv_min (mv_c a) (mv_c b) = mv_c (min a b) := by
  unfold mv_min
  simp only [zz_lt h3 h4 h1 h2]
  split
  · congr 1
    omega
  · congr 1
    omega
theorem zz_l (h1 : -2147483648 ≤ a) (h2 : a ≤ 2147483647) : (mv_c a).toInt64 = mv_cl a := by
  refine Int64.toInt_inj.mp ?_
  rw [Int32.toInt_toInt64, zz_ti h1 h2]
  exact (Int64.toInt_ofInt_of_le (by omega) (by omega)).symm
theorem zz_lcmp (h1 : -2147483648 ≤ a) (h2 : a ≤ 2147483647) (h3 : -2147483648 ≤ b) (h4 : b ≤ 2147483647) : lg_cmp (mv_cl a) (mv_cl b) = mv_c (if b < a then 1 else if a = b then 0 else -1) := by
  have e1 : (mv_cl a > mv_cl b) = (b < a) := propext (Int64.ofInt_lt_iff_lt (by rw [zz_mn6]; omega) (by rw [zz_mx6]; omega) (by rw [zz_mn6]; omega) (by rw [zz_mx6]; omega))
  have e2 : (mv_cl a = mv_cl b) = (a = b) := by
    refine propext ⟨fun h => ?_, fun h => by rw [h]⟩
    have := congrArg Int64.toInt h
    have q1 : (mv_cl a).toInt = a := Int64.toInt_ofInt_of_le (by omega) (by omega)
    have q2 : (mv_cl b).toInt = b := Int64.toInt_ofInt_of_le (by omega) (by omega)
    rwa [q1, q2] at this
  unfold lg_cmp
  simp only [e1, e2]
  split
  · decide
  · split
    · decide
    · decide
/-- a condition's number -/
theorem zz_be0 {P : Prop} : (mv_c (zz_b P) = mv_c 0) = ¬P := by
  rcases zz_b_c P with ⟨h, h'⟩ | ⟨h, h'⟩
  · rw [h]; simp [h']
  · rw [h]; simp [h']; decide
theorem zz_be1 {P : Prop} : (mv_c (zz_b P) = mv_c 1) = P := by
  rcases zz_b_c P with ⟨h, h'⟩ | ⟨h, h'⟩
  · rw [h]; simp [h']; decide
  · rw [h]; simp [h']
theorem zz_zb {P : Prop} {k : mv_O} : mo_z (mv_c (zz_b P)) k = k := by
  unfold mo_z
  rw [if_pos]
  rcases zz_b_c P with ⟨h, -⟩ | ⟨h, -⟩
  · left; rw [h]; decide
  · right; rw [h]; decide
theorem zz_z {v : Int} {k : mv_O} (hv : v = 0 ∨ v = 1) : mo_z (mv_c v) k = k := by
  unfold mo_z
  rw [if_pos]
  rcases hv with rfl | rfl
  · left; decide
  · right; decide
end ZARI
section ZMEM
variable {T : List mv_T} {J : Nat → Int → Int} {R : Nat → Nat → Option Nat} {G : Nat → Nat → Int64} {a c f n t : Nat} {i v : Int}
theorem zz_gI {k : Int32 → mv_O} (h : T[a]? = some (.inl c)) : mo_gI (zz_S T J R G) a c f k = k (mv_c (J a (f : Int))) := by
  unfold mo_gI
  exact if_pos h
theorem zz_uS {k : Nat} : mv_up (fun a k => mv_c (J a (k : Int))) a k (mv_c v) = fun (x y : Nat) => mv_c (zz_u J a (k : Int) v x (y : Int)) := by
  funext x y
  unfold mv_up zz_u
  by_cases h1 : x = a
  · by_cases h2 : y = k
    · rw [if_pos h1, if_pos h2, if_pos ⟨h1, by rw [h2]⟩]
    · rw [if_pos h1, if_neg h2, if_neg (fun h => h2 (by omega))]
  · rw [if_neg h1, if_neg (fun h => h1 h.1)]
theorem zz_pI {k : mv_S → mv_O} (h : T[a]? = some (.inl c)) : mo_pI (zz_S T J R G) a c f (mv_c v) k = k (zz_S T (zz_u J a (f : Int) v) R G) := by
  unfold mo_pI
  rw [if_pos (show (zz_S T J R G).1[a]? = _ from h)]
  show k (T, mv_up (fun a k => mv_c (J a (k : Int))) a f (mv_c v), R, G) = _
  rw [zz_uS]
  rfl
theorem zz_gRv {k : Option Nat → mv_O} (h : T[a]? = some (.inl c)) : mo_gR (zz_S T J R G) a c f k = k (R a f) := by
  unfold mo_gR
  exact if_pos h
theorem zz_gR {k : Option Nat → mv_O} {b : Nat} (h : T[a]? = some (.inl c)) (hr : R a f = some b) : mo_gR (zz_S T J R G) a c f k = k (some b) := by
  rw [zz_gRv h, hr]
theorem zz_pR {k : mv_S → mv_O} {o : Option Nat} (h : T[a]? = some (.inl c)) : mo_pR (zz_S T J R G) a c f o k = k (zz_S T J (mv_up R a f o) G) := by
  unfold mo_pR
  exact if_pos h
theorem zz_is {k : mv_O} (h : T[a]? = some (.inl c)) : mo_is (zz_S T J R G) a c k = k := by
  unfold mo_is
  exact if_pos h
theorem zz_ix {k : Nat → mv_O} (h0 : 0 ≤ i) (h1 : i < n) (hn : n ≤ 1000) : mo_ix (mv_c i) n k = k i.toNat := by
  have e : (mv_c i).toNatClampNeg = i.toNat := by
    rw [← Int32.toNat_toInt, zz_ti (by omega) (by omega)]
  unfold mo_ix
  rw [if_neg, e]
  rw [e, zz_0, zz_lt (by omega) (by omega) (by omega) (by omega)]
  omega
theorem zz_ty {k : Nat → mv_O} (h : T[a]? = some (.inr (t, n))) : mo_ty (zz_S T J R G) a t k = k n := by
  unfold mo_ty
  rw [show (zz_S T J R G).1[a]? = _ from h]
  exact if_pos rfl
theorem zz_aI {k : Int32 → mv_O} (h : T[a]? = some (.inr (0, n))) (h0 : 0 ≤ i) (h1 : i < n) (hn : n ≤ 1000) : mo_aI (zz_S T J R G) a (mv_c i) k = k (mv_c (J a i)) := by
  unfold mo_aI
  rw [zz_ty h, zz_ix h0 h1 hn]
  show k (mv_c (J a (i.toNat : Int))) = _
  rw [Int.toNat_of_nonneg h0]
theorem zz_aZ {k : Int32 → mv_O} (h : T[a]? = some (.inr (1, n))) (h0 : 0 ≤ i) (h1 : i < n) (hn : n ≤ 1000) : mo_aZ (zz_S T J R G) a (mv_c i) k = k (mv_c (J a i)) := by
  unfold mo_aZ
  rw [zz_ty h, zz_ix h0 h1 hn]
  show k (mv_c (J a (i.toNat : Int))) = _
  rw [Int.toNat_of_nonneg h0]
theorem zz_aR {k : Option Nat → mv_O} (h : T[a]? = some (.inr (t, n))) (ht : 3 ≤ t ∧ t ≤ 5) (h0 : 0 ≤ i) (h1 : i < n) (hn : n ≤ 1000) : mo_aR (zz_S T J R G) a (mv_c i) k = k (R a i.toNat) := by
  unfold mo_aR mo_tr
  rw [show (zz_S T J R G).1[a]? = _ from h]
  show (if 3 ≤ t ∧ t ≤ 5 then _ else _) = _
  rw [if_pos ht]
  exact zz_ix (k := fun j => k (R a j)) h0 h1 hn
theorem zz_sI {k : mv_S → mv_O} (ha : 16 ≤ a) (h : T[a]? = some (.inr (0, n))) (h0 : 0 ≤ i) (h1 : i < n) (hn : n ≤ 1000) : mo_sI (zz_S T J R G) a (mv_c i) (mv_c v) k = k (zz_S T (zz_u J a i v) R G) := by
  unfold mo_sI mo_own
  rw [if_pos ha, zz_ty h, zz_ix h0 h1 hn]
  show k (T, mv_up (fun a k => mv_c (J a (k : Int))) a i.toNat (mv_c v), R, G) = _
  rw [zz_uS, Int.toNat_of_nonneg h0]
  rfl
theorem zz_sZ {k : mv_S → mv_O} (ha : 16 ≤ a) (h : T[a]? = some (.inr (1, n))) (h0 : 0 ≤ i) (h1 : i < n) (hn : n ≤ 1000) (hv : v = 0 ∨ v = 1) : mo_sZ (zz_S T J R G) a (mv_c i) (mv_c v) k = k (zz_S T (zz_u J a i v) R G) := by
  unfold mo_sZ mo_own
  rw [if_pos ha, zz_ty h, zz_ix h0 h1 hn, zz_z hv]
  show k (T, mv_up (fun a k => mv_c (J a (k : Int))) a i.toNat (mv_c v), R, G) = _
  rw [zz_uS, Int.toNat_of_nonneg h0]
  rfl
theorem zz_sR {k : mv_S → mv_O} {o : Option Nat} (ha : 16 ≤ a) (h : T[a]? = some (.inr (t, n))) (ht : t = 3 ∨ t = 4) (h0 : 0 ≤ i) (h1 : i < n) (hn : n ≤ 1000) (ho : ∀ b, o = some b → T[b]? = some (.inl (mv_el t))) : mo_sR (zz_S T J R G) a (mv_c i) o k = k (zz_S T J (mv_up R a i.toNat o) G) := by
  unfold mo_sR mo_own mo_tr
  rw [if_pos ha, show (zz_S T J R G).1[a]? = _ from h]
  show (if 3 ≤ t ∧ t ≤ 5 then _ else _) = _
  rw [if_pos (by omega)]
  show (if t = 5 then none else _) = _
  rw [if_neg (by omega), zz_ix h0 h1 hn]
  cases o with
  | none => rfl
  | some b => exact if_pos (ho b rfl)
theorem zz_al {k : Int32 → mv_O} (h : T[a]? = some (.inr (t, n))) (ht : t < 6) : mo_al (zz_S T J R G) a k = k (mv_c (n : Int)) := by
  unfold mo_al
  rw [show (zz_S T J R G).1[a]? = _ from h]
  show (if t < 6 then k (nI n) else none) = _
  rw [if_pos ht, zz_nI]
theorem zz_cpy {k : mv_S → mv_O} {b m : Nat} {sp dp q : Int} (ha : 16 ≤ a) (hb : 16 ≤ b) (h : T[a]? = some (.inr (0, n))) (h' : T[b]? = some (.inr (0, m))) (s0 : 0 ≤ sp) (d0 : 0 ≤ dp) (q0 : 0 ≤ q) (s1 : sp + q ≤ n) (d1 : dp + q ≤ m) (hn : n ≤ 1000) (hm : m ≤ 1000) : mo_cp (zz_S T J R G) a (mv_c sp) b (mv_c dp) (mv_c q) k = k (zz_S T (zz_cp J a sp b dp q) R G) := by
  have e : ∀ x : Int, 0 ≤ x → x ≤ 1000 → (mv_c x).toNatClampNeg = x.toNat := by
    intro x h1 h2
    rw [← Int32.toNat_toInt, zz_ti (by omega) (by omega)]
  unfold mo_cp mo_own
  rw [if_pos ha, if_pos hb, zz_ty h, zz_ty h', e _ s0 (by omega), e _ d0 (by omega), e _ q0 (by omega), if_neg, if_neg (by omega)]
  · show k (T, mv_uf (fun a k => mv_c (J a (k : Int))) b (va_cpy (fun k => mv_c (J a (k : Int))) (fun k => mv_c (J b (k : Int))) sp.toNat dp.toNat q.toNat), R, G) = _
    congr 1
    show _ = (T, (fun (x y : Nat) => mv_c (zz_cp J a sp b dp q x (y : Int))), R, G)
    congr 2
    funext x y
    unfold mv_uf va_cpy zz_cp
    by_cases h1 : x = b
    · rw [if_pos h1]
      by_cases h2 : dp ≤ (y : Int) ∧ (y : Int) < dp + q
      · rw [if_pos (by omega), if_pos ⟨h1, h2⟩]
        have e2 : ((sp.toNat + (y - dp.toNat) : Nat) : Int) = sp + (y - dp) := by omega
        show mv_c (J a ((sp.toNat + (y - dp.toNat) : Nat) : Int)) = mv_c (J a (sp + (y - dp)))
        rw [e2]
      · rw [if_neg (by omega), if_neg (fun h => h2 h.2), h1]
    · rw [if_neg h1, if_neg (fun h => h1 h.1)]
  · rw [zz_0, zz_lt (by omega) (by omega) (by omega) (by omega), zz_lt (by omega) (by omega) (by omega) (by omega), zz_lt (by omega) (by omega) (by omega) (by omega)]
    omega
end ZMEM
section ZOPS
variable {k : Nat → mv_O} {kI : Int32 → mv_S → mv_O} {kL : Int64 → mv_S → mv_O} {kR : Option Nat → mv_S → mv_O} {kV : mv_S → mv_O} {σ : mv_S}
theorem zo_rf {a : Nat} : mo_rf (some a) k = k a := rfl
theorem zo_nl {a : Nat} {t e : mv_O} : mo_nl (some a) t e = e := rfl
theorem zo_nn {t e : mv_O} : mo_nl none t e = t := rfl
theorem zo_rI {x : Int32} : mo_rI (some (some (.inl x), σ)) kI = kI x σ := rfl
theorem zo_rL {x : Int64} : mo_rL (some (some (.inr (.inl x)), σ)) kL = kL x σ := rfl
theorem zo_rR {x : Option Nat} : mo_rR (some (some (.inr (.inr x)), σ)) kR = kR x σ := rfl
theorem zo_rV : mo_rV (some (none, σ)) kV = kV σ := rfl
end ZOPS
section ZHOA
variable {T : List mv_T} {R : Nat → Nat → Option Nat} {G : Nat → Nat → Int64} {Q : Option mv_V × mv_S → Prop}
/-- a walk, given fuel enough, comes to what Q says -/
def zz_E (f : Nat → mv_O) (Q : Option mv_V × mv_S → Prop) : Prop := ∃ r, Q r ∧ ∃ n0, ∀ n, n0 ≤ n → f n = some r
theorem zz_Er {r : Option mv_V × mv_S} (h : Q r) : zz_E (fun _ => some r) Q := ⟨r, h, 0, fun _ _ => rfl⟩
theorem zz_Es {f g : Nat → mv_O} (h : ∀ n, f (n + 1) = g n) (k : zz_E g Q) : zz_E f Q := by
  obtain ⟨r, hr, n0, hn⟩ := k
  refine ⟨r, hr, n0 + 1, fun n hle => ?_⟩
  obtain ⟨m, rfl⟩ : ∃ m, n = m + 1 := ⟨n - 1, by omega⟩
  rw [h]
  exact hn m (by omega)
theorem zz_Em {f : Nat → mv_O} {Q' : Option mv_V × mv_S → Prop} (k : zz_E f Q') (h : ∀ r, Q' r → Q r) : zz_E f Q := by
  obtain ⟨r, hr, hn⟩ := k
  exact ⟨r, h r hr, hn⟩
theorem zz_Ei {P : Prop} {inst : Decidable P} {f g : Nat → mv_O} (h1 : P → zz_E f Q) (h2 : ¬P → zz_E g Q) : zz_E (fun n => @ite mv_O P inst (f n) (g n)) Q := by
  by_cases h : P
  · have e : (fun n => @ite mv_O P inst (f n) (g n)) = f := by
      funext n
      exact if_pos h
    rw [e]
    exact h1 h
  · have e : (fun n => @ite mv_O P inst (f n) (g n)) = g := by
      funext n
      exact if_neg h
    rw [e]
    exact h2 h
/-- what a call says: a number and the numbers behind it; nothing and the numbers behind it -/
def zz_I (o : mv_O) (T : List mv_T) (R : Nat → Nat → Option Nat) (G : Nat → Nat → Int64) (P : Int → (Nat → Int → Int) → Prop) : Prop := ∃ x J, o = some (some (.inl (mv_c x)), zz_S T J R G) ∧ P x J
def zz_V (o : mv_O) (T : List mv_T) (R : Nat → Nat → Option Nat) (G : Nat → Nat → Int64) (P : (Nat → Int → Int) → Prop) : Prop := ∃ J, o = some (none, zz_S T J R G) ∧ P J
theorem zz_EI {o : mv_O} {P : Int → (Nat → Int → Int) → Prop} {k : Nat → Int32 → mv_S → mv_O} (h : zz_I o T R G P) (h2 : ∀ x J, P x J → zz_E (fun n => k n (mv_c x) (zz_S T J R G)) Q) : zz_E (fun n => mo_rI o (k n)) Q := by
  obtain ⟨x, J, rfl, hp⟩ := h
  exact h2 x J hp
theorem zz_EV {o : mv_O} {P : (Nat → Int → Int) → Prop} {k : Nat → mv_S → mv_O} (h : zz_V o T R G P) (h2 : ∀ J, P J → zz_E (fun n => k n (zz_S T J R G)) Q) : zz_E (fun n => mo_rV o (k n)) Q := by
  obtain ⟨J, rfl, hp⟩ := h
  exact h2 J hp
theorem zz_call {d M : Nat} {MM : mv_M} {as : List mv_V} {σ : mv_S} {g : Nat → mv_O} (hd : 1 ≤ d) (hM : mv_tab M = some MM) (hw : Nat.ble (mv_wd as) MM.1 = true) (he : ∀ n, mv_run (mv_cax (d - 1)) MM (n + 1) 0 (mv_args 0 as) [] σ = g n) (h : zz_E g Q) : ∃ r, mv_cax d M as σ = some r ∧ Q r := by
  obtain ⟨d, rfl⟩ : ∃ e, d = e + 1 := ⟨d - 1, by omega⟩
  obtain ⟨r, hr, hn⟩ := zz_Es (f := fun n => mv_run (mv_cax d) MM n 0 (mv_args 0 as) [] σ) he h
  refine ⟨r, ?_, hr⟩
  unfold mv_cax
  rw [hM]
  show (if mv_wd as ≤ MM.1 then _ else _) = _
  rw [if_pos (Nat.le_of_ble_eq_true hw)]
  exact mv_lim_ev hn
theorem zz_c {o : mv_O} {r : Option mv_V × mv_S} (h : ∃ r', o = some r' ∧ r' = r) : o = some r := by
  obtain ⟨r', h1, rfl⟩ := h
  exact h1
theorem zz_cI {o : mv_O} {P : Int → (Nat → Int → Int) → Prop} (h : ∃ r, o = some r ∧ ∃ x J, r = (some (.inl (mv_c x)), zz_S T J R G) ∧ P x J) : zz_I o T R G P := by
  obtain ⟨r, h1, x, J, rfl, hp⟩ := h
  exact ⟨x, J, h1, hp⟩
theorem zz_cV {o : mv_O} {P : (Nat → Int → Int) → Prop} (h : ∃ r, o = some r ∧ ∃ J, r = (none, zz_S T J R G) ∧ P J) : zz_V o T R G P := by
  obtain ⟨r, h1, J, rfl, hp⟩ := h
  exact ⟨J, h1, hp⟩
end ZHOA
section ZUPD
variable {J : Nat → Int → Int} {a x : Nat} {k v y : Int}
theorem zu_s : zz_u J a k v a k = v := if_pos ⟨rfl, rfl⟩
theorem zu_a (h : x ≠ a) : zz_u J a k v x y = J x y := if_neg (fun q => h q.1)
theorem zu_k (h : y ≠ k) : zz_u J a k v x y = J x y := if_neg (fun q => h q.2)
theorem zu_A (h : x ≠ a) : zz_u J a k v x = J x := by
  funext y
  exact zu_a h
end ZUPD
/-- what lies at 16 and on, when all constructors are through -/
def zz_lay : List mv_T := [.inl 6, .inl 3, .inr (0, 16), .inr (0, 256), .inr (0, 64), .inr (0, 16), .inr (0, 16), .inr (1, 16), .inr (3, 6), .inr (0, 6), .inr (0, 24), .inr (0, 24), .inr (0, 24), .inr (0, 10), .inl 3, .inr (0, 16), .inr (0, 256), .inr (0, 64), .inr (0, 16), .inr (0, 16), .inr (1, 16), .inr (3, 6), .inr (0, 6), .inr (0, 24), .inr (0, 24), .inr (0, 24), .inr (0, 10), .inl 3, .inr (0, 16), .inr (0, 256), .inr (0, 64), .inr (0, 16), .inr (0, 16), .inr (1, 16), .inr (3, 6), .inr (0, 6), .inr (0, 24), .inr (0, 24), .inr (0, 24), .inr (0, 10), .inl 3, .inr (0, 16), .inr (0, 256), .inr (0, 64), .inr (0, 16), .inr (0, 16), .inr (1, 16), .inr (3, 6), .inr (0, 6), .inr (0, 24), .inr (0, 24), .inr (0, 24), .inr (0, 10), .inr (4, 8), .inl 5, .inr (0, 0), .inr (0, 4), .inl 0, .inr (0, 160), .inr (0, 160), .inr (0, 16), .inr (0, 16), .inl 1, .inr (0, 16), .inr (0, 16), .inr (0, 16), .inr (0, 16), .inr (0, 16), .inr (5, 16), .inr (0, 16), .inr (0, 16), .inr (0, 16), .inr (0, 16), .inr (0, 16), .inr (0, 16), .inr (0, 16), .inr (0, 16), .inr (0, 16), .inr (0, 16), .inr (0, 16), .inr (0, 16), .inr (0, 16), .inr (0, 16), .inr (0, 16), .inr (0, 16), .inr (0, 16), .inr (0, 16), .inr (0, 16), .inr (0, 16), .inr (0, 16), .inr (0, 16), .inr (5, 6), .inr (0, 16), .inr (0, 16), .inr (0, 16), .inr (0, 16), .inr (0, 16), .inr (0, 16), .inr (0, 6), .inl 4, .inr (0, 100), .inl 4, .inr (0, 100), .inl 4, .inr (0, 100), .inl 4, .inr (0, 100), .inl 4, .inr (0, 100), .inl 4, .inr (0, 100), .inl 4, .inr (0, 100), .inl 4, .inr (0, 100), .inl 7, .inr (0, 130), .inr (0, 130), .inr (0, 130), .inr (0, 8), .inr (0, 8), .inr (0, 8), .inr (0, 800), .inr (0, 8), .inr (0, 8), .inr (0, 4), .inr (0, 8), .inr (0, 16), .inr (0, 256), .inr (0, 32), .inr (0, 32), .inr (0, 130), .inr (1, 256), .inr (0, 130), .inr (0, 16), .inr (0, 16), .inr (0, 16), .inr (0, 130), .inr (0, 36), .inr (2, 1)]
def zz_ref : List (Nat × Nat × Nat) := [(17, 8, 18), (17, 9, 19), (17, 10, 20), (17, 11, 21), (17, 12, 22), (17, 13, 23), (17, 14, 24), (17, 15, 25), (17, 16, 26), (17, 17, 27), (17, 18, 28), (17, 19, 29), (16, 0, 17), (30, 8, 31), (30, 9, 32), (30, 10, 33), (30, 11, 34), (30, 12, 35), (30, 13, 36), (30, 14, 37), (30, 15, 38), (30, 16, 39), (30, 17, 40), (30, 18, 41), (30, 19, 42), (16, 1, 30), (43, 8, 44), (43, 9, 45), (43, 10, 46), (43, 11, 47), (43, 12, 48), (43, 13, 49), (43, 14, 50), (43, 15, 51), (43, 16, 52), (43, 17, 53), (43, 18, 54), (43, 19, 55), (16, 2, 43), (56, 8, 57), (56, 9, 58), (56, 10, 59), (56, 11, 60), (56, 12, 61), (56, 13, 62), (56, 14, 63), (56, 15, 64), (56, 16, 65), (56, 17, 66), (56, 18, 67), (56, 19, 68), (16, 3, 56), (16, 5, 69), (16, 6, 70), (70, 4, 72), (16, 7, 73), (73, 0, 74), (73, 1, 75), (73, 2, 76), (73, 3, 77), (16, 8, 78), (78, 2, 79), (78, 5, 80), (78, 6, 81), (78, 7, 82), (78, 8, 83), (78, 9, 84), (84, 0, 85), (84, 1, 86), (84, 2, 87), (84, 3, 88), (84, 4, 89), (84, 5, 90), (84, 6, 91), (84, 7, 92), (84, 8, 93), (84, 9, 94), (84, 10, 95), (84, 11, 96), (84, 12, 97), (84, 13, 98), (84, 14, 99), (84, 15, 100), (78, 10, 101), (78, 11, 102), (78, 12, 103), (78, 13, 104), (16, 9, 105), (16, 10, 106), (16, 11, 107), (107, 0, 108), (107, 1, 109), (107, 2, 110), (107, 3, 111), (107, 4, 112), (107, 5, 113), (16, 12, 114), (115, 4, 116), (69, 0, 115), (117, 4, 118), (69, 1, 117), (119, 4, 120), (69, 2, 119), (121, 4, 122), (69, 3, 121), (123, 4, 124), (69, 4, 123), (125, 4, 126), (69, 5, 125), (127, 4, 128), (69, 6, 127), (129, 4, 130), (69, 7, 129), (131, 0, 132), (131, 1, 133), (131, 2, 134), (131, 3, 135), (131, 4, 136), (131, 5, 137), (131, 6, 138), (131, 7, 139), (131, 8, 140), (131, 15, 141), (131, 18, 142), (131, 19, 143), (131, 20, 144), (131, 21, 145), (131, 22, 146), (131, 24, 147), (131, 27, 148), (131, 28, 149), (131, 31, 150), (131, 32, 151), (131, 33, 152), (131, 34, 153), (131, 35, 154)]
def ZL (T : List mv_T) (R : Nat → Nat → Option Nat) : Prop := (∀ k q, zz_lay[k]? = some q → T[k + 16]? = some q) ∧ ∀ q ∈ zz_ref, R q.1 q.2.1 = some q.2.2
abbrev Lnd (p : Nat) : Prop := p = 17 ∨ p = 30 ∨ p = 43 ∨ p = 56
section ZLAY
variable {T : List mv_T} {J : Nat → Int → Int} {R : Nat → Nat → Option Nat} {G : Nat → Nat → Int64} {p : Nat} {i v : Int}
theorem ZL.at (h : ZL T R) (k : Nat) {q : mv_T} (e : zz_lay[k]? = some q) : T[k + 16]? = some q := h.1 k q e
theorem ZL.rf (h : ZL T R) (i : Nat) {q : Nat × Nat × Nat} (e : zz_ref[i]? = some q) : R q.1 q.2.1 = some q.2.2 := h.2 q (List.mem_of_getElem? e)
theorem zr_16_0 {k : Option Nat → mv_O} (hL : ZL T R) : mo_gR (zz_S T J R G) 16 6 0 k = k (some 17) := zz_gR (a := 16) (f := 0) (show T[16]? = _ from hL.at 0 (by rfl)) (hL.rf 12 (by rfl))
theorem zr_16_1 {k : Option Nat → mv_O} (hL : ZL T R) : mo_gR (zz_S T J R G) 16 6 1 k = k (some 30) := zz_gR (a := 16) (f := 1) (show T[16]? = _ from hL.at 0 (by rfl)) (hL.rf 25 (by rfl))
theorem zr_16_2 {k : Option Nat → mv_O} (hL : ZL T R) : mo_gR (zz_S T J R G) 16 6 2 k = k (some 43) := zz_gR (a := 16) (f := 2) (show T[16]? = _ from hL.at 0 (by rfl)) (hL.rf 38 (by rfl))
theorem zr_16_3 {k : Option Nat → mv_O} (hL : ZL T R) : mo_gR (zz_S T J R G) 16 6 3 k = k (some 56) := zz_gR (a := 16) (f := 3) (show T[16]? = _ from hL.at 0 (by rfl)) (hL.rf 51 (by rfl))
theorem zg_16_4 {k : Int32 → mv_O} (hL : ZL T R) : mo_gI (zz_S T J R G) 16 6 4 k = k (mv_c (J 16 4)) := zz_gI (a := 16) (f := 4) (show T[16]? = _ from hL.at 0 (by rfl))
theorem zp_16_4 {k : mv_S → mv_O} (hL : ZL T R) : mo_pI (zz_S T J R G) 16 6 4 (mv_c v) k = k (zz_S T (zz_u J 16 4 v) R G) := zz_pI (a := 16) (f := 4) (show T[16]? = _ from hL.at 0 (by rfl))
theorem zr_16_5 {k : Option Nat → mv_O} (hL : ZL T R) : mo_gR (zz_S T J R G) 16 6 5 k = k (some 69) := zz_gR (a := 16) (f := 5) (show T[16]? = _ from hL.at 0 (by rfl)) (hL.rf 52 (by rfl))
theorem zr_16_6 {k : Option Nat → mv_O} (hL : ZL T R) : mo_gR (zz_S T J R G) 16 6 6 k = k (some 70) := zz_gR (a := 16) (f := 6) (show T[16]? = _ from hL.at 0 (by rfl)) (hL.rf 53 (by rfl))
theorem zr_16_7 {k : Option Nat → mv_O} (hL : ZL T R) : mo_gR (zz_S T J R G) 16 6 7 k = k (some 73) := zz_gR (a := 16) (f := 7) (show T[16]? = _ from hL.at 0 (by rfl)) (hL.rf 55 (by rfl))
theorem zr_16_8 {k : Option Nat → mv_O} (hL : ZL T R) : mo_gR (zz_S T J R G) 16 6 8 k = k (some 78) := zz_gR (a := 16) (f := 8) (show T[16]? = _ from hL.at 0 (by rfl)) (hL.rf 60 (by rfl))
theorem zr_16_9 {k : Option Nat → mv_O} (hL : ZL T R) : mo_gR (zz_S T J R G) 16 6 9 k = k (some 105) := zz_gR (a := 16) (f := 9) (show T[16]? = _ from hL.at 0 (by rfl)) (hL.rf 87 (by rfl))
theorem zr_16_10 {k : Option Nat → mv_O} (hL : ZL T R) : mo_gR (zz_S T J R G) 16 6 10 k = k (some 106) := zz_gR (a := 16) (f := 10) (show T[16]? = _ from hL.at 0 (by rfl)) (hL.rf 88 (by rfl))
theorem zr_16_11 {k : Option Nat → mv_O} (hL : ZL T R) : mo_gR (zz_S T J R G) 16 6 11 k = k (some 107) := zz_gR (a := 16) (f := 11) (show T[16]? = _ from hL.at 0 (by rfl)) (hL.rf 89 (by rfl))
theorem zr_16_12 {k : Option Nat → mv_O} (hL : ZL T R) : mo_gR (zz_S T J R G) 16 6 12 k = k (some 114) := zz_gR (a := 16) (f := 12) (show T[16]? = _ from hL.at 0 (by rfl)) (hL.rf 96 (by rfl))
theorem zi_16 {k : mv_O} (hL : ZL T R) : mo_is (zz_S T J R G) 16 6 k = k := zz_is (a := 16) (show T[16]? = _ from hL.at 0 (by rfl))
theorem zr_70_0 {k : Option Nat → mv_O} (hL : ZL T R) : mo_gR (zz_S T J R G) 70 5 0 k = k (R 70 0) := zz_gRv (a := 70) (f := 0) (show T[70]? = _ from hL.at 54 (by rfl))
theorem zq_70_0 {k : mv_S → mv_O} {o : Option Nat} (hL : ZL T R) : mo_pR (zz_S T J R G) 70 5 0 o k = k (zz_S T J (mv_up R 70 0 o) G) := zz_pR (a := 70) (f := 0) (show T[70]? = _ from hL.at 54 (by rfl))
theorem zg_70_1 {k : Int32 → mv_O} (hL : ZL T R) : mo_gI (zz_S T J R G) 70 5 1 k = k (mv_c (J 70 1)) := zz_gI (a := 70) (f := 1) (show T[70]? = _ from hL.at 54 (by rfl))
theorem zp_70_1 {k : mv_S → mv_O} (hL : ZL T R) : mo_pI (zz_S T J R G) 70 5 1 (mv_c v) k = k (zz_S T (zz_u J 70 1 v) R G) := zz_pI (a := 70) (f := 1) (show T[70]? = _ from hL.at 54 (by rfl))
theorem zg_70_2 {k : Int32 → mv_O} (hL : ZL T R) : mo_gI (zz_S T J R G) 70 5 2 k = k (mv_c (J 70 2)) := zz_gI (a := 70) (f := 2) (show T[70]? = _ from hL.at 54 (by rfl))
theorem zp_70_2 {k : mv_S → mv_O} (hL : ZL T R) : mo_pI (zz_S T J R G) 70 5 2 (mv_c v) k = k (zz_S T (zz_u J 70 2 v) R G) := zz_pI (a := 70) (f := 2) (show T[70]? = _ from hL.at 54 (by rfl))
theorem zg_70_3 {k : Int32 → mv_O} (hL : ZL T R) : mo_gI (zz_S T J R G) 70 5 3 k = k (mv_c (J 70 3)) := zz_gI (a := 70) (f := 3) (show T[70]? = _ from hL.at 54 (by rfl))
theorem zp_70_3 {k : mv_S → mv_O} (hL : ZL T R) : mo_pI (zz_S T J R G) 70 5 3 (mv_c v) k = k (zz_S T (zz_u J 70 3 v) R G) := zz_pI (a := 70) (f := 3) (show T[70]? = _ from hL.at 54 (by rfl))
theorem zr_70_4 {k : Option Nat → mv_O} (hL : ZL T R) : mo_gR (zz_S T J R G) 70 5 4 k = k (some 72) := zz_gR (a := 70) (f := 4) (show T[70]? = _ from hL.at 54 (by rfl)) (hL.rf 54 (by rfl))
theorem zi_70 {k : mv_O} (hL : ZL T R) : mo_is (zz_S T J R G) 70 5 k = k := zz_is (a := 70) (show T[70]? = _ from hL.at 54 (by rfl))
theorem zr_73_0 {k : Option Nat → mv_O} (hL : ZL T R) : mo_gR (zz_S T J R G) 73 0 0 k = k (some 74) := zz_gR (a := 73) (f := 0) (show T[73]? = _ from hL.at 57 (by rfl)) (hL.rf 56 (by rfl))
theorem zr_73_1 {k : Option Nat → mv_O} (hL : ZL T R) : mo_gR (zz_S T J R G) 73 0 1 k = k (some 75) := zz_gR (a := 73) (f := 1) (show T[73]? = _ from hL.at 57 (by rfl)) (hL.rf 57 (by rfl))
theorem zr_73_2 {k : Option Nat → mv_O} (hL : ZL T R) : mo_gR (zz_S T J R G) 73 0 2 k = k (some 76) := zz_gR (a := 73) (f := 2) (show T[73]? = _ from hL.at 57 (by rfl)) (hL.rf 58 (by rfl))
theorem zr_73_3 {k : Option Nat → mv_O} (hL : ZL T R) : mo_gR (zz_S T J R G) 73 0 3 k = k (some 77) := zz_gR (a := 73) (f := 3) (show T[73]? = _ from hL.at 57 (by rfl)) (hL.rf 59 (by rfl))
theorem zg_73_4 {k : Int32 → mv_O} (hL : ZL T R) : mo_gI (zz_S T J R G) 73 0 4 k = k (mv_c (J 73 4)) := zz_gI (a := 73) (f := 4) (show T[73]? = _ from hL.at 57 (by rfl))
theorem zp_73_4 {k : mv_S → mv_O} (hL : ZL T R) : mo_pI (zz_S T J R G) 73 0 4 (mv_c v) k = k (zz_S T (zz_u J 73 4 v) R G) := zz_pI (a := 73) (f := 4) (show T[73]? = _ from hL.at 57 (by rfl))
theorem zg_73_5 {k : Int32 → mv_O} (hL : ZL T R) : mo_gI (zz_S T J R G) 73 0 5 k = k (mv_c (J 73 5)) := zz_gI (a := 73) (f := 5) (show T[73]? = _ from hL.at 57 (by rfl))
theorem zp_73_5 {k : mv_S → mv_O} (hL : ZL T R) : mo_pI (zz_S T J R G) 73 0 5 (mv_c v) k = k (zz_S T (zz_u J 73 5 v) R G) := zz_pI (a := 73) (f := 5) (show T[73]? = _ from hL.at 57 (by rfl))
theorem zi_73 {k : mv_O} (hL : ZL T R) : mo_is (zz_S T J R G) 73 0 k = k := zz_is (a := 73) (show T[73]? = _ from hL.at 57 (by rfl))
theorem zg_78_0 {k : Int32 → mv_O} (hL : ZL T R) : mo_gI (zz_S T J R G) 78 1 0 k = k (mv_c (J 78 0)) := zz_gI (a := 78) (f := 0) (show T[78]? = _ from hL.at 62 (by rfl))
theorem zp_78_0 {k : mv_S → mv_O} (hL : ZL T R) : mo_pI (zz_S T J R G) 78 1 0 (mv_c v) k = k (zz_S T (zz_u J 78 0 v) R G) := zz_pI (a := 78) (f := 0) (show T[78]? = _ from hL.at 62 (by rfl))
theorem zg_78_1 {k : Int32 → mv_O} (hL : ZL T R) : mo_gI (zz_S T J R G) 78 1 1 k = k (mv_c (J 78 1)) := zz_gI (a := 78) (f := 1) (show T[78]? = _ from hL.at 62 (by rfl))
theorem zp_78_1 {k : mv_S → mv_O} (hL : ZL T R) : mo_pI (zz_S T J R G) 78 1 1 (mv_c v) k = k (zz_S T (zz_u J 78 1 v) R G) := zz_pI (a := 78) (f := 1) (show T[78]? = _ from hL.at 62 (by rfl))
theorem zr_78_2 {k : Option Nat → mv_O} (hL : ZL T R) : mo_gR (zz_S T J R G) 78 1 2 k = k (some 79) := zz_gR (a := 78) (f := 2) (show T[78]? = _ from hL.at 62 (by rfl)) (hL.rf 61 (by rfl))
theorem zg_78_3 {k : Int32 → mv_O} (hL : ZL T R) : mo_gI (zz_S T J R G) 78 1 3 k = k (mv_c (J 78 3)) := zz_gI (a := 78) (f := 3) (show T[78]? = _ from hL.at 62 (by rfl))
theorem zp_78_3 {k : mv_S → mv_O} (hL : ZL T R) : mo_pI (zz_S T J R G) 78 1 3 (mv_c v) k = k (zz_S T (zz_u J 78 3 v) R G) := zz_pI (a := 78) (f := 3) (show T[78]? = _ from hL.at 62 (by rfl))
theorem zg_78_4 {k : Int32 → mv_O} (hL : ZL T R) : mo_gI (zz_S T J R G) 78 1 4 k = k (mv_c (J 78 4)) := zz_gI (a := 78) (f := 4) (show T[78]? = _ from hL.at 62 (by rfl))
theorem zp_78_4 {k : mv_S → mv_O} (hL : ZL T R) : mo_pI (zz_S T J R G) 78 1 4 (mv_c v) k = k (zz_S T (zz_u J 78 4 v) R G) := zz_pI (a := 78) (f := 4) (show T[78]? = _ from hL.at 62 (by rfl))
theorem zr_78_5 {k : Option Nat → mv_O} (hL : ZL T R) : mo_gR (zz_S T J R G) 78 1 5 k = k (some 80) := zz_gR (a := 78) (f := 5) (show T[78]? = _ from hL.at 62 (by rfl)) (hL.rf 62 (by rfl))
theorem zr_78_6 {k : Option Nat → mv_O} (hL : ZL T R) : mo_gR (zz_S T J R G) 78 1 6 k = k (some 81) := zz_gR (a := 78) (f := 6) (show T[78]? = _ from hL.at 62 (by rfl)) (hL.rf 63 (by rfl))
theorem zr_78_7 {k : Option Nat → mv_O} (hL : ZL T R) : mo_gR (zz_S T J R G) 78 1 7 k = k (some 82) := zz_gR (a := 78) (f := 7) (show T[78]? = _ from hL.at 62 (by rfl)) (hL.rf 64 (by rfl))
theorem zr_78_8 {k : Option Nat → mv_O} (hL : ZL T R) : mo_gR (zz_S T J R G) 78 1 8 k = k (some 83) := zz_gR (a := 78) (f := 8) (show T[78]? = _ from hL.at 62 (by rfl)) (hL.rf 65 (by rfl))
theorem zr_78_9 {k : Option Nat → mv_O} (hL : ZL T R) : mo_gR (zz_S T J R G) 78 1 9 k = k (some 84) := zz_gR (a := 78) (f := 9) (show T[78]? = _ from hL.at 62 (by rfl)) (hL.rf 66 (by rfl))
theorem zr_78_10 {k : Option Nat → mv_O} (hL : ZL T R) : mo_gR (zz_S T J R G) 78 1 10 k = k (some 101) := zz_gR (a := 78) (f := 10) (show T[78]? = _ from hL.at 62 (by rfl)) (hL.rf 83 (by rfl))
theorem zr_78_11 {k : Option Nat → mv_O} (hL : ZL T R) : mo_gR (zz_S T J R G) 78 1 11 k = k (some 102) := zz_gR (a := 78) (f := 11) (show T[78]? = _ from hL.at 62 (by rfl)) (hL.rf 84 (by rfl))
theorem zr_78_12 {k : Option Nat → mv_O} (hL : ZL T R) : mo_gR (zz_S T J R G) 78 1 12 k = k (some 103) := zz_gR (a := 78) (f := 12) (show T[78]? = _ from hL.at 62 (by rfl)) (hL.rf 85 (by rfl))
theorem zr_78_13 {k : Option Nat → mv_O} (hL : ZL T R) : mo_gR (zz_S T J R G) 78 1 13 k = k (some 104) := zz_gR (a := 78) (f := 13) (show T[78]? = _ from hL.at 62 (by rfl)) (hL.rf 86 (by rfl))
theorem zi_78 {k : mv_O} (hL : ZL T R) : mo_is (zz_S T J R G) 78 1 k = k := zz_is (a := 78) (show T[78]? = _ from hL.at 62 (by rfl))
theorem zr_131_0 {k : Option Nat → mv_O} (hL : ZL T R) : mo_gR (zz_S T J R G) 131 7 0 k = k (some 132) := zz_gR (a := 131) (f := 0) (show T[131]? = _ from hL.at 115 (by rfl)) (hL.rf 113 (by rfl))
theorem zr_131_1 {k : Option Nat → mv_O} (hL : ZL T R) : mo_gR (zz_S T J R G) 131 7 1 k = k (some 133) := zz_gR (a := 131) (f := 1) (show T[131]? = _ from hL.at 115 (by rfl)) (hL.rf 114 (by rfl))
theorem zr_131_2 {k : Option Nat → mv_O} (hL : ZL T R) : mo_gR (zz_S T J R G) 131 7 2 k = k (some 134) := zz_gR (a := 131) (f := 2) (show T[131]? = _ from hL.at 115 (by rfl)) (hL.rf 115 (by rfl))
theorem zr_131_3 {k : Option Nat → mv_O} (hL : ZL T R) : mo_gR (zz_S T J R G) 131 7 3 k = k (some 135) := zz_gR (a := 131) (f := 3) (show T[131]? = _ from hL.at 115 (by rfl)) (hL.rf 116 (by rfl))
theorem zr_131_4 {k : Option Nat → mv_O} (hL : ZL T R) : mo_gR (zz_S T J R G) 131 7 4 k = k (some 136) := zz_gR (a := 131) (f := 4) (show T[131]? = _ from hL.at 115 (by rfl)) (hL.rf 117 (by rfl))
theorem zr_131_5 {k : Option Nat → mv_O} (hL : ZL T R) : mo_gR (zz_S T J R G) 131 7 5 k = k (some 137) := zz_gR (a := 131) (f := 5) (show T[131]? = _ from hL.at 115 (by rfl)) (hL.rf 118 (by rfl))
theorem zr_131_6 {k : Option Nat → mv_O} (hL : ZL T R) : mo_gR (zz_S T J R G) 131 7 6 k = k (some 138) := zz_gR (a := 131) (f := 6) (show T[131]? = _ from hL.at 115 (by rfl)) (hL.rf 119 (by rfl))
theorem zr_131_7 {k : Option Nat → mv_O} (hL : ZL T R) : mo_gR (zz_S T J R G) 131 7 7 k = k (some 139) := zz_gR (a := 131) (f := 7) (show T[131]? = _ from hL.at 115 (by rfl)) (hL.rf 120 (by rfl))
theorem zr_131_8 {k : Option Nat → mv_O} (hL : ZL T R) : mo_gR (zz_S T J R G) 131 7 8 k = k (some 140) := zz_gR (a := 131) (f := 8) (show T[131]? = _ from hL.at 115 (by rfl)) (hL.rf 121 (by rfl))
theorem zg_131_9 {k : Int32 → mv_O} (hL : ZL T R) : mo_gI (zz_S T J R G) 131 7 9 k = k (mv_c (J 131 9)) := zz_gI (a := 131) (f := 9) (show T[131]? = _ from hL.at 115 (by rfl))
theorem zp_131_9 {k : mv_S → mv_O} (hL : ZL T R) : mo_pI (zz_S T J R G) 131 7 9 (mv_c v) k = k (zz_S T (zz_u J 131 9 v) R G) := zz_pI (a := 131) (f := 9) (show T[131]? = _ from hL.at 115 (by rfl))
theorem zg_131_10 {k : Int32 → mv_O} (hL : ZL T R) : mo_gI (zz_S T J R G) 131 7 10 k = k (mv_c (J 131 10)) := zz_gI (a := 131) (f := 10) (show T[131]? = _ from hL.at 115 (by rfl))
theorem zp_131_10 {k : mv_S → mv_O} (hL : ZL T R) : mo_pI (zz_S T J R G) 131 7 10 (mv_c v) k = k (zz_S T (zz_u J 131 10 v) R G) := zz_pI (a := 131) (f := 10) (show T[131]? = _ from hL.at 115 (by rfl))
theorem zg_131_11 {k : Int32 → mv_O} (hL : ZL T R) : mo_gI (zz_S T J R G) 131 7 11 k = k (mv_c (J 131 11)) := zz_gI (a := 131) (f := 11) (show T[131]? = _ from hL.at 115 (by rfl))
theorem zp_131_11 {k : mv_S → mv_O} (hL : ZL T R) : mo_pI (zz_S T J R G) 131 7 11 (mv_c v) k = k (zz_S T (zz_u J 131 11 v) R G) := zz_pI (a := 131) (f := 11) (show T[131]? = _ from hL.at 115 (by rfl))
theorem zg_131_12 {k : Int32 → mv_O} (hL : ZL T R) : mo_gI (zz_S T J R G) 131 7 12 k = k (mv_c (J 131 12)) := zz_gI (a := 131) (f := 12) (show T[131]? = _ from hL.at 115 (by rfl))
theorem zp_131_12 {k : mv_S → mv_O} (hL : ZL T R) : mo_pI (zz_S T J R G) 131 7 12 (mv_c v) k = k (zz_S T (zz_u J 131 12 v) R G) := zz_pI (a := 131) (f := 12) (show T[131]? = _ from hL.at 115 (by rfl))
theorem zg_131_13 {k : Int32 → mv_O} (hL : ZL T R) : mo_gI (zz_S T J R G) 131 7 13 k = k (mv_c (J 131 13)) := zz_gI (a := 131) (f := 13) (show T[131]? = _ from hL.at 115 (by rfl))
theorem zp_131_13 {k : mv_S → mv_O} (hL : ZL T R) : mo_pI (zz_S T J R G) 131 7 13 (mv_c v) k = k (zz_S T (zz_u J 131 13 v) R G) := zz_pI (a := 131) (f := 13) (show T[131]? = _ from hL.at 115 (by rfl))
theorem zg_131_14 {k : Int32 → mv_O} (hL : ZL T R) : mo_gI (zz_S T J R G) 131 7 14 k = k (mv_c (J 131 14)) := zz_gI (a := 131) (f := 14) (show T[131]? = _ from hL.at 115 (by rfl))
theorem zp_131_14 {k : mv_S → mv_O} (hL : ZL T R) : mo_pI (zz_S T J R G) 131 7 14 (mv_c v) k = k (zz_S T (zz_u J 131 14 v) R G) := zz_pI (a := 131) (f := 14) (show T[131]? = _ from hL.at 115 (by rfl))
theorem zr_131_15 {k : Option Nat → mv_O} (hL : ZL T R) : mo_gR (zz_S T J R G) 131 7 15 k = k (some 141) := zz_gR (a := 131) (f := 15) (show T[131]? = _ from hL.at 115 (by rfl)) (hL.rf 122 (by rfl))
theorem zg_131_16 {k : Int32 → mv_O} (hL : ZL T R) : mo_gI (zz_S T J R G) 131 7 16 k = k (mv_c (J 131 16)) := zz_gI (a := 131) (f := 16) (show T[131]? = _ from hL.at 115 (by rfl))
theorem zp_131_16 {k : mv_S → mv_O} (hL : ZL T R) : mo_pI (zz_S T J R G) 131 7 16 (mv_c v) k = k (zz_S T (zz_u J 131 16 v) R G) := zz_pI (a := 131) (f := 16) (show T[131]? = _ from hL.at 115 (by rfl))
theorem zg_131_17 {k : Int32 → mv_O} (hL : ZL T R) : mo_gI (zz_S T J R G) 131 7 17 k = k (mv_c (J 131 17)) := zz_gI (a := 131) (f := 17) (show T[131]? = _ from hL.at 115 (by rfl))
theorem zp_131_17 {k : mv_S → mv_O} (hL : ZL T R) : mo_pI (zz_S T J R G) 131 7 17 (mv_c v) k = k (zz_S T (zz_u J 131 17 v) R G) := zz_pI (a := 131) (f := 17) (show T[131]? = _ from hL.at 115 (by rfl))
theorem zr_131_18 {k : Option Nat → mv_O} (hL : ZL T R) : mo_gR (zz_S T J R G) 131 7 18 k = k (some 142) := zz_gR (a := 131) (f := 18) (show T[131]? = _ from hL.at 115 (by rfl)) (hL.rf 123 (by rfl))
theorem zr_131_19 {k : Option Nat → mv_O} (hL : ZL T R) : mo_gR (zz_S T J R G) 131 7 19 k = k (some 143) := zz_gR (a := 131) (f := 19) (show T[131]? = _ from hL.at 115 (by rfl)) (hL.rf 124 (by rfl))
theorem zr_131_20 {k : Option Nat → mv_O} (hL : ZL T R) : mo_gR (zz_S T J R G) 131 7 20 k = k (some 144) := zz_gR (a := 131) (f := 20) (show T[131]? = _ from hL.at 115 (by rfl)) (hL.rf 125 (by rfl))
theorem zr_131_21 {k : Option Nat → mv_O} (hL : ZL T R) : mo_gR (zz_S T J R G) 131 7 21 k = k (some 145) := zz_gR (a := 131) (f := 21) (show T[131]? = _ from hL.at 115 (by rfl)) (hL.rf 126 (by rfl))
theorem zr_131_22 {k : Option Nat → mv_O} (hL : ZL T R) : mo_gR (zz_S T J R G) 131 7 22 k = k (some 146) := zz_gR (a := 131) (f := 22) (show T[131]? = _ from hL.at 115 (by rfl)) (hL.rf 127 (by rfl))
theorem zg_131_23 {k : Int32 → mv_O} (hL : ZL T R) : mo_gI (zz_S T J R G) 131 7 23 k = k (mv_c (J 131 23)) := zz_gI (a := 131) (f := 23) (show T[131]? = _ from hL.at 115 (by rfl))
theorem zp_131_23 {k : mv_S → mv_O} (hL : ZL T R) : mo_pI (zz_S T J R G) 131 7 23 (mv_c v) k = k (zz_S T (zz_u J 131 23 v) R G) := zz_pI (a := 131) (f := 23) (show T[131]? = _ from hL.at 115 (by rfl))
theorem zr_131_24 {k : Option Nat → mv_O} (hL : ZL T R) : mo_gR (zz_S T J R G) 131 7 24 k = k (some 147) := zz_gR (a := 131) (f := 24) (show T[131]? = _ from hL.at 115 (by rfl)) (hL.rf 128 (by rfl))
theorem zg_131_25 {k : Int32 → mv_O} (hL : ZL T R) : mo_gI (zz_S T J R G) 131 7 25 k = k (mv_c (J 131 25)) := zz_gI (a := 131) (f := 25) (show T[131]? = _ from hL.at 115 (by rfl))
theorem zp_131_25 {k : mv_S → mv_O} (hL : ZL T R) : mo_pI (zz_S T J R G) 131 7 25 (mv_c v) k = k (zz_S T (zz_u J 131 25 v) R G) := zz_pI (a := 131) (f := 25) (show T[131]? = _ from hL.at 115 (by rfl))
theorem zg_131_26 {k : Int32 → mv_O} (hL : ZL T R) : mo_gI (zz_S T J R G) 131 7 26 k = k (mv_c (J 131 26)) := zz_gI (a := 131) (f := 26) (show T[131]? = _ from hL.at 115 (by rfl))
theorem zp_131_26 {k : mv_S → mv_O} (hL : ZL T R) : mo_pI (zz_S T J R G) 131 7 26 (mv_c v) k = k (zz_S T (zz_u J 131 26 v) R G) := zz_pI (a := 131) (f := 26) (show T[131]? = _ from hL.at 115 (by rfl))
theorem zr_131_27 {k : Option Nat → mv_O} (hL : ZL T R) : mo_gR (zz_S T J R G) 131 7 27 k = k (some 148) := zz_gR (a := 131) (f := 27) (show T[131]? = _ from hL.at 115 (by rfl)) (hL.rf 129 (by rfl))
theorem zr_131_28 {k : Option Nat → mv_O} (hL : ZL T R) : mo_gR (zz_S T J R G) 131 7 28 k = k (some 149) := zz_gR (a := 131) (f := 28) (show T[131]? = _ from hL.at 115 (by rfl)) (hL.rf 130 (by rfl))
theorem zg_131_29 {k : Int32 → mv_O} (hL : ZL T R) : mo_gI (zz_S T J R G) 131 7 29 k = k (mv_c (J 131 29)) := zz_gI (a := 131) (f := 29) (show T[131]? = _ from hL.at 115 (by rfl))
theorem zp_131_29 {k : mv_S → mv_O} (hL : ZL T R) : mo_pI (zz_S T J R G) 131 7 29 (mv_c v) k = k (zz_S T (zz_u J 131 29 v) R G) := zz_pI (a := 131) (f := 29) (show T[131]? = _ from hL.at 115 (by rfl))
theorem zg_131_30 {k : Int32 → mv_O} (hL : ZL T R) : mo_gI (zz_S T J R G) 131 7 30 k = k (mv_c (J 131 30)) := zz_gI (a := 131) (f := 30) (show T[131]? = _ from hL.at 115 (by rfl))
theorem zp_131_30 {k : mv_S → mv_O} (hL : ZL T R) : mo_pI (zz_S T J R G) 131 7 30 (mv_c v) k = k (zz_S T (zz_u J 131 30 v) R G) := zz_pI (a := 131) (f := 30) (show T[131]? = _ from hL.at 115 (by rfl))
theorem zr_131_31 {k : Option Nat → mv_O} (hL : ZL T R) : mo_gR (zz_S T J R G) 131 7 31 k = k (some 150) := zz_gR (a := 131) (f := 31) (show T[131]? = _ from hL.at 115 (by rfl)) (hL.rf 131 (by rfl))
theorem zr_131_32 {k : Option Nat → mv_O} (hL : ZL T R) : mo_gR (zz_S T J R G) 131 7 32 k = k (some 151) := zz_gR (a := 131) (f := 32) (show T[131]? = _ from hL.at 115 (by rfl)) (hL.rf 132 (by rfl))
theorem zr_131_33 {k : Option Nat → mv_O} (hL : ZL T R) : mo_gR (zz_S T J R G) 131 7 33 k = k (some 152) := zz_gR (a := 131) (f := 33) (show T[131]? = _ from hL.at 115 (by rfl)) (hL.rf 133 (by rfl))
theorem zr_131_34 {k : Option Nat → mv_O} (hL : ZL T R) : mo_gR (zz_S T J R G) 131 7 34 k = k (some 153) := zz_gR (a := 131) (f := 34) (show T[131]? = _ from hL.at 115 (by rfl)) (hL.rf 134 (by rfl))
theorem zr_131_35 {k : Option Nat → mv_O} (hL : ZL T R) : mo_gR (zz_S T J R G) 131 7 35 k = k (some 154) := zz_gR (a := 131) (f := 35) (show T[131]? = _ from hL.at 115 (by rfl)) (hL.rf 135 (by rfl))
theorem zi_131 {k : mv_O} (hL : ZL T R) : mo_is (zz_S T J R G) 131 7 k = k := zz_is (a := 131) (show T[131]? = _ from hL.at 115 (by rfl))
theorem zl_69 {k : Int32 → mv_O} (hL : ZL T R) : mo_al (zz_S T J R G) 69 k = k (mv_c 8) := zz_al (a := 69) (n := 8) (t := 4) (show T[69]? = _ from hL.at 53 (by rfl)) (by decide)
theorem za_71 {k : Int32 → mv_O} (hL : ZL T R) (h0 : 0 ≤ i) (h1 : i < 0) : mo_aI (zz_S T J R G) 71 (mv_c i) k = k (mv_c (J 71 i)) := zz_aI (a := 71) (show T[71]? = _ from hL.at 55 (by rfl)) h0 h1 (by decide)
theorem zs_71 {k : mv_S → mv_O} (hL : ZL T R) (h0 : 0 ≤ i) (h1 : i < 0) : mo_sI (zz_S T J R G) 71 (mv_c i) (mv_c v) k = k (zz_S T (zz_u J 71 i v) R G) := zz_sI (a := 71) (by decide) (show T[71]? = _ from hL.at 55 (by rfl)) h0 h1 (by decide)
theorem zl_71 {k : Int32 → mv_O} (hL : ZL T R) : mo_al (zz_S T J R G) 71 k = k (mv_c 0) := zz_al (a := 71) (n := 0) (t := 0) (show T[71]? = _ from hL.at 55 (by rfl)) (by decide)
theorem za_72 {k : Int32 → mv_O} (hL : ZL T R) (h0 : 0 ≤ i) (h1 : i < 4) : mo_aI (zz_S T J R G) 72 (mv_c i) k = k (mv_c (J 72 i)) := zz_aI (a := 72) (show T[72]? = _ from hL.at 56 (by rfl)) h0 h1 (by decide)
theorem zs_72 {k : mv_S → mv_O} (hL : ZL T R) (h0 : 0 ≤ i) (h1 : i < 4) : mo_sI (zz_S T J R G) 72 (mv_c i) (mv_c v) k = k (zz_S T (zz_u J 72 i v) R G) := zz_sI (a := 72) (by decide) (show T[72]? = _ from hL.at 56 (by rfl)) h0 h1 (by decide)
theorem zl_72 {k : Int32 → mv_O} (hL : ZL T R) : mo_al (zz_S T J R G) 72 k = k (mv_c 4) := zz_al (a := 72) (n := 4) (t := 0) (show T[72]? = _ from hL.at 56 (by rfl)) (by decide)
theorem za_74 {k : Int32 → mv_O} (hL : ZL T R) (h0 : 0 ≤ i) (h1 : i < 160) : mo_aI (zz_S T J R G) 74 (mv_c i) k = k (mv_c (J 74 i)) := zz_aI (a := 74) (show T[74]? = _ from hL.at 58 (by rfl)) h0 h1 (by decide)
theorem zs_74 {k : mv_S → mv_O} (hL : ZL T R) (h0 : 0 ≤ i) (h1 : i < 160) : mo_sI (zz_S T J R G) 74 (mv_c i) (mv_c v) k = k (zz_S T (zz_u J 74 i v) R G) := zz_sI (a := 74) (by decide) (show T[74]? = _ from hL.at 58 (by rfl)) h0 h1 (by decide)
theorem zl_74 {k : Int32 → mv_O} (hL : ZL T R) : mo_al (zz_S T J R G) 74 k = k (mv_c 160) := zz_al (a := 74) (n := 160) (t := 0) (show T[74]? = _ from hL.at 58 (by rfl)) (by decide)
theorem za_75 {k : Int32 → mv_O} (hL : ZL T R) (h0 : 0 ≤ i) (h1 : i < 160) : mo_aI (zz_S T J R G) 75 (mv_c i) k = k (mv_c (J 75 i)) := zz_aI (a := 75) (show T[75]? = _ from hL.at 59 (by rfl)) h0 h1 (by decide)
theorem zs_75 {k : mv_S → mv_O} (hL : ZL T R) (h0 : 0 ≤ i) (h1 : i < 160) : mo_sI (zz_S T J R G) 75 (mv_c i) (mv_c v) k = k (zz_S T (zz_u J 75 i v) R G) := zz_sI (a := 75) (by decide) (show T[75]? = _ from hL.at 59 (by rfl)) h0 h1 (by decide)
theorem zl_75 {k : Int32 → mv_O} (hL : ZL T R) : mo_al (zz_S T J R G) 75 k = k (mv_c 160) := zz_al (a := 75) (n := 160) (t := 0) (show T[75]? = _ from hL.at 59 (by rfl)) (by decide)
theorem za_76 {k : Int32 → mv_O} (hL : ZL T R) (h0 : 0 ≤ i) (h1 : i < 16) : mo_aI (zz_S T J R G) 76 (mv_c i) k = k (mv_c (J 76 i)) := zz_aI (a := 76) (show T[76]? = _ from hL.at 60 (by rfl)) h0 h1 (by decide)
theorem zs_76 {k : mv_S → mv_O} (hL : ZL T R) (h0 : 0 ≤ i) (h1 : i < 16) : mo_sI (zz_S T J R G) 76 (mv_c i) (mv_c v) k = k (zz_S T (zz_u J 76 i v) R G) := zz_sI (a := 76) (by decide) (show T[76]? = _ from hL.at 60 (by rfl)) h0 h1 (by decide)
theorem zl_76 {k : Int32 → mv_O} (hL : ZL T R) : mo_al (zz_S T J R G) 76 k = k (mv_c 16) := zz_al (a := 76) (n := 16) (t := 0) (show T[76]? = _ from hL.at 60 (by rfl)) (by decide)
theorem za_77 {k : Int32 → mv_O} (hL : ZL T R) (h0 : 0 ≤ i) (h1 : i < 16) : mo_aI (zz_S T J R G) 77 (mv_c i) k = k (mv_c (J 77 i)) := zz_aI (a := 77) (show T[77]? = _ from hL.at 61 (by rfl)) h0 h1 (by decide)
theorem zs_77 {k : mv_S → mv_O} (hL : ZL T R) (h0 : 0 ≤ i) (h1 : i < 16) : mo_sI (zz_S T J R G) 77 (mv_c i) (mv_c v) k = k (zz_S T (zz_u J 77 i v) R G) := zz_sI (a := 77) (by decide) (show T[77]? = _ from hL.at 61 (by rfl)) h0 h1 (by decide)
theorem zl_77 {k : Int32 → mv_O} (hL : ZL T R) : mo_al (zz_S T J R G) 77 k = k (mv_c 16) := zz_al (a := 77) (n := 16) (t := 0) (show T[77]? = _ from hL.at 61 (by rfl)) (by decide)
theorem za_79 {k : Int32 → mv_O} (hL : ZL T R) (h0 : 0 ≤ i) (h1 : i < 16) : mo_aI (zz_S T J R G) 79 (mv_c i) k = k (mv_c (J 79 i)) := zz_aI (a := 79) (show T[79]? = _ from hL.at 63 (by rfl)) h0 h1 (by decide)
theorem zs_79 {k : mv_S → mv_O} (hL : ZL T R) (h0 : 0 ≤ i) (h1 : i < 16) : mo_sI (zz_S T J R G) 79 (mv_c i) (mv_c v) k = k (zz_S T (zz_u J 79 i v) R G) := zz_sI (a := 79) (by decide) (show T[79]? = _ from hL.at 63 (by rfl)) h0 h1 (by decide)
theorem zl_79 {k : Int32 → mv_O} (hL : ZL T R) : mo_al (zz_S T J R G) 79 k = k (mv_c 16) := zz_al (a := 79) (n := 16) (t := 0) (show T[79]? = _ from hL.at 63 (by rfl)) (by decide)
theorem za_80 {k : Int32 → mv_O} (hL : ZL T R) (h0 : 0 ≤ i) (h1 : i < 16) : mo_aI (zz_S T J R G) 80 (mv_c i) k = k (mv_c (J 80 i)) := zz_aI (a := 80) (show T[80]? = _ from hL.at 64 (by rfl)) h0 h1 (by decide)
theorem zs_80 {k : mv_S → mv_O} (hL : ZL T R) (h0 : 0 ≤ i) (h1 : i < 16) : mo_sI (zz_S T J R G) 80 (mv_c i) (mv_c v) k = k (zz_S T (zz_u J 80 i v) R G) := zz_sI (a := 80) (by decide) (show T[80]? = _ from hL.at 64 (by rfl)) h0 h1 (by decide)
theorem zl_80 {k : Int32 → mv_O} (hL : ZL T R) : mo_al (zz_S T J R G) 80 k = k (mv_c 16) := zz_al (a := 80) (n := 16) (t := 0) (show T[80]? = _ from hL.at 64 (by rfl)) (by decide)
theorem za_81 {k : Int32 → mv_O} (hL : ZL T R) (h0 : 0 ≤ i) (h1 : i < 16) : mo_aI (zz_S T J R G) 81 (mv_c i) k = k (mv_c (J 81 i)) := zz_aI (a := 81) (show T[81]? = _ from hL.at 65 (by rfl)) h0 h1 (by decide)
theorem zs_81 {k : mv_S → mv_O} (hL : ZL T R) (h0 : 0 ≤ i) (h1 : i < 16) : mo_sI (zz_S T J R G) 81 (mv_c i) (mv_c v) k = k (zz_S T (zz_u J 81 i v) R G) := zz_sI (a := 81) (by decide) (show T[81]? = _ from hL.at 65 (by rfl)) h0 h1 (by decide)
theorem zl_81 {k : Int32 → mv_O} (hL : ZL T R) : mo_al (zz_S T J R G) 81 k = k (mv_c 16) := zz_al (a := 81) (n := 16) (t := 0) (show T[81]? = _ from hL.at 65 (by rfl)) (by decide)
theorem za_82 {k : Int32 → mv_O} (hL : ZL T R) (h0 : 0 ≤ i) (h1 : i < 16) : mo_aI (zz_S T J R G) 82 (mv_c i) k = k (mv_c (J 82 i)) := zz_aI (a := 82) (show T[82]? = _ from hL.at 66 (by rfl)) h0 h1 (by decide)
theorem zs_82 {k : mv_S → mv_O} (hL : ZL T R) (h0 : 0 ≤ i) (h1 : i < 16) : mo_sI (zz_S T J R G) 82 (mv_c i) (mv_c v) k = k (zz_S T (zz_u J 82 i v) R G) := zz_sI (a := 82) (by decide) (show T[82]? = _ from hL.at 66 (by rfl)) h0 h1 (by decide)
theorem zl_82 {k : Int32 → mv_O} (hL : ZL T R) : mo_al (zz_S T J R G) 82 k = k (mv_c 16) := zz_al (a := 82) (n := 16) (t := 0) (show T[82]? = _ from hL.at 66 (by rfl)) (by decide)
theorem za_83 {k : Int32 → mv_O} (hL : ZL T R) (h0 : 0 ≤ i) (h1 : i < 16) : mo_aI (zz_S T J R G) 83 (mv_c i) k = k (mv_c (J 83 i)) := zz_aI (a := 83) (show T[83]? = _ from hL.at 67 (by rfl)) h0 h1 (by decide)
theorem zs_83 {k : mv_S → mv_O} (hL : ZL T R) (h0 : 0 ≤ i) (h1 : i < 16) : mo_sI (zz_S T J R G) 83 (mv_c i) (mv_c v) k = k (zz_S T (zz_u J 83 i v) R G) := zz_sI (a := 83) (by decide) (show T[83]? = _ from hL.at 67 (by rfl)) h0 h1 (by decide)
theorem zl_83 {k : Int32 → mv_O} (hL : ZL T R) : mo_al (zz_S T J R G) 83 k = k (mv_c 16) := zz_al (a := 83) (n := 16) (t := 0) (show T[83]? = _ from hL.at 67 (by rfl)) (by decide)
theorem zl_84 {k : Int32 → mv_O} (hL : ZL T R) : mo_al (zz_S T J R G) 84 k = k (mv_c 16) := zz_al (a := 84) (n := 16) (t := 5) (show T[84]? = _ from hL.at 68 (by rfl)) (by decide)
theorem za_101 {k : Int32 → mv_O} (hL : ZL T R) (h0 : 0 ≤ i) (h1 : i < 16) : mo_aI (zz_S T J R G) 101 (mv_c i) k = k (mv_c (J 101 i)) := zz_aI (a := 101) (show T[101]? = _ from hL.at 85 (by rfl)) h0 h1 (by decide)
theorem zs_101 {k : mv_S → mv_O} (hL : ZL T R) (h0 : 0 ≤ i) (h1 : i < 16) : mo_sI (zz_S T J R G) 101 (mv_c i) (mv_c v) k = k (zz_S T (zz_u J 101 i v) R G) := zz_sI (a := 101) (by decide) (show T[101]? = _ from hL.at 85 (by rfl)) h0 h1 (by decide)
theorem zl_101 {k : Int32 → mv_O} (hL : ZL T R) : mo_al (zz_S T J R G) 101 k = k (mv_c 16) := zz_al (a := 101) (n := 16) (t := 0) (show T[101]? = _ from hL.at 85 (by rfl)) (by decide)
theorem za_102 {k : Int32 → mv_O} (hL : ZL T R) (h0 : 0 ≤ i) (h1 : i < 16) : mo_aI (zz_S T J R G) 102 (mv_c i) k = k (mv_c (J 102 i)) := zz_aI (a := 102) (show T[102]? = _ from hL.at 86 (by rfl)) h0 h1 (by decide)
theorem zs_102 {k : mv_S → mv_O} (hL : ZL T R) (h0 : 0 ≤ i) (h1 : i < 16) : mo_sI (zz_S T J R G) 102 (mv_c i) (mv_c v) k = k (zz_S T (zz_u J 102 i v) R G) := zz_sI (a := 102) (by decide) (show T[102]? = _ from hL.at 86 (by rfl)) h0 h1 (by decide)
theorem zl_102 {k : Int32 → mv_O} (hL : ZL T R) : mo_al (zz_S T J R G) 102 k = k (mv_c 16) := zz_al (a := 102) (n := 16) (t := 0) (show T[102]? = _ from hL.at 86 (by rfl)) (by decide)
theorem za_103 {k : Int32 → mv_O} (hL : ZL T R) (h0 : 0 ≤ i) (h1 : i < 16) : mo_aI (zz_S T J R G) 103 (mv_c i) k = k (mv_c (J 103 i)) := zz_aI (a := 103) (show T[103]? = _ from hL.at 87 (by rfl)) h0 h1 (by decide)
theorem zs_103 {k : mv_S → mv_O} (hL : ZL T R) (h0 : 0 ≤ i) (h1 : i < 16) : mo_sI (zz_S T J R G) 103 (mv_c i) (mv_c v) k = k (zz_S T (zz_u J 103 i v) R G) := zz_sI (a := 103) (by decide) (show T[103]? = _ from hL.at 87 (by rfl)) h0 h1 (by decide)
theorem zl_103 {k : Int32 → mv_O} (hL : ZL T R) : mo_al (zz_S T J R G) 103 k = k (mv_c 16) := zz_al (a := 103) (n := 16) (t := 0) (show T[103]? = _ from hL.at 87 (by rfl)) (by decide)
theorem za_104 {k : Int32 → mv_O} (hL : ZL T R) (h0 : 0 ≤ i) (h1 : i < 16) : mo_aI (zz_S T J R G) 104 (mv_c i) k = k (mv_c (J 104 i)) := zz_aI (a := 104) (show T[104]? = _ from hL.at 88 (by rfl)) h0 h1 (by decide)
theorem zs_104 {k : mv_S → mv_O} (hL : ZL T R) (h0 : 0 ≤ i) (h1 : i < 16) : mo_sI (zz_S T J R G) 104 (mv_c i) (mv_c v) k = k (zz_S T (zz_u J 104 i v) R G) := zz_sI (a := 104) (by decide) (show T[104]? = _ from hL.at 88 (by rfl)) h0 h1 (by decide)
theorem zl_104 {k : Int32 → mv_O} (hL : ZL T R) : mo_al (zz_S T J R G) 104 k = k (mv_c 16) := zz_al (a := 104) (n := 16) (t := 0) (show T[104]? = _ from hL.at 88 (by rfl)) (by decide)
theorem za_105 {k : Int32 → mv_O} (hL : ZL T R) (h0 : 0 ≤ i) (h1 : i < 16) : mo_aI (zz_S T J R G) 105 (mv_c i) k = k (mv_c (J 105 i)) := zz_aI (a := 105) (show T[105]? = _ from hL.at 89 (by rfl)) h0 h1 (by decide)
theorem zs_105 {k : mv_S → mv_O} (hL : ZL T R) (h0 : 0 ≤ i) (h1 : i < 16) : mo_sI (zz_S T J R G) 105 (mv_c i) (mv_c v) k = k (zz_S T (zz_u J 105 i v) R G) := zz_sI (a := 105) (by decide) (show T[105]? = _ from hL.at 89 (by rfl)) h0 h1 (by decide)
theorem zl_105 {k : Int32 → mv_O} (hL : ZL T R) : mo_al (zz_S T J R G) 105 k = k (mv_c 16) := zz_al (a := 105) (n := 16) (t := 0) (show T[105]? = _ from hL.at 89 (by rfl)) (by decide)
theorem za_106 {k : Int32 → mv_O} (hL : ZL T R) (h0 : 0 ≤ i) (h1 : i < 16) : mo_aI (zz_S T J R G) 106 (mv_c i) k = k (mv_c (J 106 i)) := zz_aI (a := 106) (show T[106]? = _ from hL.at 90 (by rfl)) h0 h1 (by decide)
theorem zs_106 {k : mv_S → mv_O} (hL : ZL T R) (h0 : 0 ≤ i) (h1 : i < 16) : mo_sI (zz_S T J R G) 106 (mv_c i) (mv_c v) k = k (zz_S T (zz_u J 106 i v) R G) := zz_sI (a := 106) (by decide) (show T[106]? = _ from hL.at 90 (by rfl)) h0 h1 (by decide)
theorem zl_106 {k : Int32 → mv_O} (hL : ZL T R) : mo_al (zz_S T J R G) 106 k = k (mv_c 16) := zz_al (a := 106) (n := 16) (t := 0) (show T[106]? = _ from hL.at 90 (by rfl)) (by decide)
theorem zl_107 {k : Int32 → mv_O} (hL : ZL T R) : mo_al (zz_S T J R G) 107 k = k (mv_c 6) := zz_al (a := 107) (n := 6) (t := 5) (show T[107]? = _ from hL.at 91 (by rfl)) (by decide)
theorem za_114 {k : Int32 → mv_O} (hL : ZL T R) (h0 : 0 ≤ i) (h1 : i < 6) : mo_aI (zz_S T J R G) 114 (mv_c i) k = k (mv_c (J 114 i)) := zz_aI (a := 114) (show T[114]? = _ from hL.at 98 (by rfl)) h0 h1 (by decide)
theorem zs_114 {k : mv_S → mv_O} (hL : ZL T R) (h0 : 0 ≤ i) (h1 : i < 6) : mo_sI (zz_S T J R G) 114 (mv_c i) (mv_c v) k = k (zz_S T (zz_u J 114 i v) R G) := zz_sI (a := 114) (by decide) (show T[114]? = _ from hL.at 98 (by rfl)) h0 h1 (by decide)
theorem zl_114 {k : Int32 → mv_O} (hL : ZL T R) : mo_al (zz_S T J R G) 114 k = k (mv_c 6) := zz_al (a := 114) (n := 6) (t := 0) (show T[114]? = _ from hL.at 98 (by rfl)) (by decide)
theorem za_132 {k : Int32 → mv_O} (hL : ZL T R) (h0 : 0 ≤ i) (h1 : i < 130) : mo_aI (zz_S T J R G) 132 (mv_c i) k = k (mv_c (J 132 i)) := zz_aI (a := 132) (show T[132]? = _ from hL.at 116 (by rfl)) h0 h1 (by decide)
theorem zs_132 {k : mv_S → mv_O} (hL : ZL T R) (h0 : 0 ≤ i) (h1 : i < 130) : mo_sI (zz_S T J R G) 132 (mv_c i) (mv_c v) k = k (zz_S T (zz_u J 132 i v) R G) := zz_sI (a := 132) (by decide) (show T[132]? = _ from hL.at 116 (by rfl)) h0 h1 (by decide)
theorem zl_132 {k : Int32 → mv_O} (hL : ZL T R) : mo_al (zz_S T J R G) 132 k = k (mv_c 130) := zz_al (a := 132) (n := 130) (t := 0) (show T[132]? = _ from hL.at 116 (by rfl)) (by decide)
theorem za_133 {k : Int32 → mv_O} (hL : ZL T R) (h0 : 0 ≤ i) (h1 : i < 130) : mo_aI (zz_S T J R G) 133 (mv_c i) k = k (mv_c (J 133 i)) := zz_aI (a := 133) (show T[133]? = _ from hL.at 117 (by rfl)) h0 h1 (by decide)
theorem zs_133 {k : mv_S → mv_O} (hL : ZL T R) (h0 : 0 ≤ i) (h1 : i < 130) : mo_sI (zz_S T J R G) 133 (mv_c i) (mv_c v) k = k (zz_S T (zz_u J 133 i v) R G) := zz_sI (a := 133) (by decide) (show T[133]? = _ from hL.at 117 (by rfl)) h0 h1 (by decide)
theorem zl_133 {k : Int32 → mv_O} (hL : ZL T R) : mo_al (zz_S T J R G) 133 k = k (mv_c 130) := zz_al (a := 133) (n := 130) (t := 0) (show T[133]? = _ from hL.at 117 (by rfl)) (by decide)
theorem za_134 {k : Int32 → mv_O} (hL : ZL T R) (h0 : 0 ≤ i) (h1 : i < 130) : mo_aI (zz_S T J R G) 134 (mv_c i) k = k (mv_c (J 134 i)) := zz_aI (a := 134) (show T[134]? = _ from hL.at 118 (by rfl)) h0 h1 (by decide)
theorem zs_134 {k : mv_S → mv_O} (hL : ZL T R) (h0 : 0 ≤ i) (h1 : i < 130) : mo_sI (zz_S T J R G) 134 (mv_c i) (mv_c v) k = k (zz_S T (zz_u J 134 i v) R G) := zz_sI (a := 134) (by decide) (show T[134]? = _ from hL.at 118 (by rfl)) h0 h1 (by decide)
theorem zl_134 {k : Int32 → mv_O} (hL : ZL T R) : mo_al (zz_S T J R G) 134 k = k (mv_c 130) := zz_al (a := 134) (n := 130) (t := 0) (show T[134]? = _ from hL.at 118 (by rfl)) (by decide)
theorem za_135 {k : Int32 → mv_O} (hL : ZL T R) (h0 : 0 ≤ i) (h1 : i < 8) : mo_aI (zz_S T J R G) 135 (mv_c i) k = k (mv_c (J 135 i)) := zz_aI (a := 135) (show T[135]? = _ from hL.at 119 (by rfl)) h0 h1 (by decide)
theorem zs_135 {k : mv_S → mv_O} (hL : ZL T R) (h0 : 0 ≤ i) (h1 : i < 8) : mo_sI (zz_S T J R G) 135 (mv_c i) (mv_c v) k = k (zz_S T (zz_u J 135 i v) R G) := zz_sI (a := 135) (by decide) (show T[135]? = _ from hL.at 119 (by rfl)) h0 h1 (by decide)
theorem zl_135 {k : Int32 → mv_O} (hL : ZL T R) : mo_al (zz_S T J R G) 135 k = k (mv_c 8) := zz_al (a := 135) (n := 8) (t := 0) (show T[135]? = _ from hL.at 119 (by rfl)) (by decide)
theorem za_136 {k : Int32 → mv_O} (hL : ZL T R) (h0 : 0 ≤ i) (h1 : i < 8) : mo_aI (zz_S T J R G) 136 (mv_c i) k = k (mv_c (J 136 i)) := zz_aI (a := 136) (show T[136]? = _ from hL.at 120 (by rfl)) h0 h1 (by decide)
theorem zs_136 {k : mv_S → mv_O} (hL : ZL T R) (h0 : 0 ≤ i) (h1 : i < 8) : mo_sI (zz_S T J R G) 136 (mv_c i) (mv_c v) k = k (zz_S T (zz_u J 136 i v) R G) := zz_sI (a := 136) (by decide) (show T[136]? = _ from hL.at 120 (by rfl)) h0 h1 (by decide)
theorem zl_136 {k : Int32 → mv_O} (hL : ZL T R) : mo_al (zz_S T J R G) 136 k = k (mv_c 8) := zz_al (a := 136) (n := 8) (t := 0) (show T[136]? = _ from hL.at 120 (by rfl)) (by decide)
theorem za_137 {k : Int32 → mv_O} (hL : ZL T R) (h0 : 0 ≤ i) (h1 : i < 8) : mo_aI (zz_S T J R G) 137 (mv_c i) k = k (mv_c (J 137 i)) := zz_aI (a := 137) (show T[137]? = _ from hL.at 121 (by rfl)) h0 h1 (by decide)
theorem zs_137 {k : mv_S → mv_O} (hL : ZL T R) (h0 : 0 ≤ i) (h1 : i < 8) : mo_sI (zz_S T J R G) 137 (mv_c i) (mv_c v) k = k (zz_S T (zz_u J 137 i v) R G) := zz_sI (a := 137) (by decide) (show T[137]? = _ from hL.at 121 (by rfl)) h0 h1 (by decide)
theorem zl_137 {k : Int32 → mv_O} (hL : ZL T R) : mo_al (zz_S T J R G) 137 k = k (mv_c 8) := zz_al (a := 137) (n := 8) (t := 0) (show T[137]? = _ from hL.at 121 (by rfl)) (by decide)
theorem za_138 {k : Int32 → mv_O} (hL : ZL T R) (h0 : 0 ≤ i) (h1 : i < 800) : mo_aI (zz_S T J R G) 138 (mv_c i) k = k (mv_c (J 138 i)) := zz_aI (a := 138) (show T[138]? = _ from hL.at 122 (by rfl)) h0 h1 (by decide)
theorem zs_138 {k : mv_S → mv_O} (hL : ZL T R) (h0 : 0 ≤ i) (h1 : i < 800) : mo_sI (zz_S T J R G) 138 (mv_c i) (mv_c v) k = k (zz_S T (zz_u J 138 i v) R G) := zz_sI (a := 138) (by decide) (show T[138]? = _ from hL.at 122 (by rfl)) h0 h1 (by decide)
theorem zl_138 {k : Int32 → mv_O} (hL : ZL T R) : mo_al (zz_S T J R G) 138 k = k (mv_c 800) := zz_al (a := 138) (n := 800) (t := 0) (show T[138]? = _ from hL.at 122 (by rfl)) (by decide)
theorem za_139 {k : Int32 → mv_O} (hL : ZL T R) (h0 : 0 ≤ i) (h1 : i < 8) : mo_aI (zz_S T J R G) 139 (mv_c i) k = k (mv_c (J 139 i)) := zz_aI (a := 139) (show T[139]? = _ from hL.at 123 (by rfl)) h0 h1 (by decide)
theorem zs_139 {k : mv_S → mv_O} (hL : ZL T R) (h0 : 0 ≤ i) (h1 : i < 8) : mo_sI (zz_S T J R G) 139 (mv_c i) (mv_c v) k = k (zz_S T (zz_u J 139 i v) R G) := zz_sI (a := 139) (by decide) (show T[139]? = _ from hL.at 123 (by rfl)) h0 h1 (by decide)
theorem zl_139 {k : Int32 → mv_O} (hL : ZL T R) : mo_al (zz_S T J R G) 139 k = k (mv_c 8) := zz_al (a := 139) (n := 8) (t := 0) (show T[139]? = _ from hL.at 123 (by rfl)) (by decide)
theorem za_140 {k : Int32 → mv_O} (hL : ZL T R) (h0 : 0 ≤ i) (h1 : i < 8) : mo_aI (zz_S T J R G) 140 (mv_c i) k = k (mv_c (J 140 i)) := zz_aI (a := 140) (show T[140]? = _ from hL.at 124 (by rfl)) h0 h1 (by decide)
theorem zs_140 {k : mv_S → mv_O} (hL : ZL T R) (h0 : 0 ≤ i) (h1 : i < 8) : mo_sI (zz_S T J R G) 140 (mv_c i) (mv_c v) k = k (zz_S T (zz_u J 140 i v) R G) := zz_sI (a := 140) (by decide) (show T[140]? = _ from hL.at 124 (by rfl)) h0 h1 (by decide)
theorem zl_140 {k : Int32 → mv_O} (hL : ZL T R) : mo_al (zz_S T J R G) 140 k = k (mv_c 8) := zz_al (a := 140) (n := 8) (t := 0) (show T[140]? = _ from hL.at 124 (by rfl)) (by decide)
theorem za_141 {k : Int32 → mv_O} (hL : ZL T R) (h0 : 0 ≤ i) (h1 : i < 4) : mo_aI (zz_S T J R G) 141 (mv_c i) k = k (mv_c (J 141 i)) := zz_aI (a := 141) (show T[141]? = _ from hL.at 125 (by rfl)) h0 h1 (by decide)
theorem zs_141 {k : mv_S → mv_O} (hL : ZL T R) (h0 : 0 ≤ i) (h1 : i < 4) : mo_sI (zz_S T J R G) 141 (mv_c i) (mv_c v) k = k (zz_S T (zz_u J 141 i v) R G) := zz_sI (a := 141) (by decide) (show T[141]? = _ from hL.at 125 (by rfl)) h0 h1 (by decide)
theorem zl_141 {k : Int32 → mv_O} (hL : ZL T R) : mo_al (zz_S T J R G) 141 k = k (mv_c 4) := zz_al (a := 141) (n := 4) (t := 0) (show T[141]? = _ from hL.at 125 (by rfl)) (by decide)
theorem za_142 {k : Int32 → mv_O} (hL : ZL T R) (h0 : 0 ≤ i) (h1 : i < 8) : mo_aI (zz_S T J R G) 142 (mv_c i) k = k (mv_c (J 142 i)) := zz_aI (a := 142) (show T[142]? = _ from hL.at 126 (by rfl)) h0 h1 (by decide)
theorem zs_142 {k : mv_S → mv_O} (hL : ZL T R) (h0 : 0 ≤ i) (h1 : i < 8) : mo_sI (zz_S T J R G) 142 (mv_c i) (mv_c v) k = k (zz_S T (zz_u J 142 i v) R G) := zz_sI (a := 142) (by decide) (show T[142]? = _ from hL.at 126 (by rfl)) h0 h1 (by decide)
theorem zl_142 {k : Int32 → mv_O} (hL : ZL T R) : mo_al (zz_S T J R G) 142 k = k (mv_c 8) := zz_al (a := 142) (n := 8) (t := 0) (show T[142]? = _ from hL.at 126 (by rfl)) (by decide)
theorem za_143 {k : Int32 → mv_O} (hL : ZL T R) (h0 : 0 ≤ i) (h1 : i < 16) : mo_aI (zz_S T J R G) 143 (mv_c i) k = k (mv_c (J 143 i)) := zz_aI (a := 143) (show T[143]? = _ from hL.at 127 (by rfl)) h0 h1 (by decide)
theorem zs_143 {k : mv_S → mv_O} (hL : ZL T R) (h0 : 0 ≤ i) (h1 : i < 16) : mo_sI (zz_S T J R G) 143 (mv_c i) (mv_c v) k = k (zz_S T (zz_u J 143 i v) R G) := zz_sI (a := 143) (by decide) (show T[143]? = _ from hL.at 127 (by rfl)) h0 h1 (by decide)
theorem zl_143 {k : Int32 → mv_O} (hL : ZL T R) : mo_al (zz_S T J R G) 143 k = k (mv_c 16) := zz_al (a := 143) (n := 16) (t := 0) (show T[143]? = _ from hL.at 127 (by rfl)) (by decide)
theorem za_144 {k : Int32 → mv_O} (hL : ZL T R) (h0 : 0 ≤ i) (h1 : i < 256) : mo_aI (zz_S T J R G) 144 (mv_c i) k = k (mv_c (J 144 i)) := zz_aI (a := 144) (show T[144]? = _ from hL.at 128 (by rfl)) h0 h1 (by decide)
theorem zs_144 {k : mv_S → mv_O} (hL : ZL T R) (h0 : 0 ≤ i) (h1 : i < 256) : mo_sI (zz_S T J R G) 144 (mv_c i) (mv_c v) k = k (zz_S T (zz_u J 144 i v) R G) := zz_sI (a := 144) (by decide) (show T[144]? = _ from hL.at 128 (by rfl)) h0 h1 (by decide)
theorem zl_144 {k : Int32 → mv_O} (hL : ZL T R) : mo_al (zz_S T J R G) 144 k = k (mv_c 256) := zz_al (a := 144) (n := 256) (t := 0) (show T[144]? = _ from hL.at 128 (by rfl)) (by decide)
theorem za_145 {k : Int32 → mv_O} (hL : ZL T R) (h0 : 0 ≤ i) (h1 : i < 32) : mo_aI (zz_S T J R G) 145 (mv_c i) k = k (mv_c (J 145 i)) := zz_aI (a := 145) (show T[145]? = _ from hL.at 129 (by rfl)) h0 h1 (by decide)
theorem zs_145 {k : mv_S → mv_O} (hL : ZL T R) (h0 : 0 ≤ i) (h1 : i < 32) : mo_sI (zz_S T J R G) 145 (mv_c i) (mv_c v) k = k (zz_S T (zz_u J 145 i v) R G) := zz_sI (a := 145) (by decide) (show T[145]? = _ from hL.at 129 (by rfl)) h0 h1 (by decide)
theorem zl_145 {k : Int32 → mv_O} (hL : ZL T R) : mo_al (zz_S T J R G) 145 k = k (mv_c 32) := zz_al (a := 145) (n := 32) (t := 0) (show T[145]? = _ from hL.at 129 (by rfl)) (by decide)
theorem za_146 {k : Int32 → mv_O} (hL : ZL T R) (h0 : 0 ≤ i) (h1 : i < 32) : mo_aI (zz_S T J R G) 146 (mv_c i) k = k (mv_c (J 146 i)) := zz_aI (a := 146) (show T[146]? = _ from hL.at 130 (by rfl)) h0 h1 (by decide)
theorem zs_146 {k : mv_S → mv_O} (hL : ZL T R) (h0 : 0 ≤ i) (h1 : i < 32) : mo_sI (zz_S T J R G) 146 (mv_c i) (mv_c v) k = k (zz_S T (zz_u J 146 i v) R G) := zz_sI (a := 146) (by decide) (show T[146]? = _ from hL.at 130 (by rfl)) h0 h1 (by decide)
theorem zl_146 {k : Int32 → mv_O} (hL : ZL T R) : mo_al (zz_S T J R G) 146 k = k (mv_c 32) := zz_al (a := 146) (n := 32) (t := 0) (show T[146]? = _ from hL.at 130 (by rfl)) (by decide)
theorem za_147 {k : Int32 → mv_O} (hL : ZL T R) (h0 : 0 ≤ i) (h1 : i < 130) : mo_aI (zz_S T J R G) 147 (mv_c i) k = k (mv_c (J 147 i)) := zz_aI (a := 147) (show T[147]? = _ from hL.at 131 (by rfl)) h0 h1 (by decide)
theorem zs_147 {k : mv_S → mv_O} (hL : ZL T R) (h0 : 0 ≤ i) (h1 : i < 130) : mo_sI (zz_S T J R G) 147 (mv_c i) (mv_c v) k = k (zz_S T (zz_u J 147 i v) R G) := zz_sI (a := 147) (by decide) (show T[147]? = _ from hL.at 131 (by rfl)) h0 h1 (by decide)
theorem zl_147 {k : Int32 → mv_O} (hL : ZL T R) : mo_al (zz_S T J R G) 147 k = k (mv_c 130) := zz_al (a := 147) (n := 130) (t := 0) (show T[147]? = _ from hL.at 131 (by rfl)) (by decide)
theorem za_148 {k : Int32 → mv_O} (hL : ZL T R) (h0 : 0 ≤ i) (h1 : i < 256) : mo_aZ (zz_S T J R G) 148 (mv_c i) k = k (mv_c (J 148 i)) := zz_aZ (a := 148) (show T[148]? = _ from hL.at 132 (by rfl)) h0 h1 (by decide)
theorem zs_148 {k : mv_S → mv_O} (hL : ZL T R) (h0 : 0 ≤ i) (h1 : i < 256) (hv : v = 0 ∨ v = 1) : mo_sZ (zz_S T J R G) 148 (mv_c i) (mv_c v) k = k (zz_S T (zz_u J 148 i v) R G) := zz_sZ (a := 148) (by decide) (show T[148]? = _ from hL.at 132 (by rfl)) h0 h1 (by decide) hv
theorem zl_148 {k : Int32 → mv_O} (hL : ZL T R) : mo_al (zz_S T J R G) 148 k = k (mv_c 256) := zz_al (a := 148) (n := 256) (t := 1) (show T[148]? = _ from hL.at 132 (by rfl)) (by decide)
theorem za_149 {k : Int32 → mv_O} (hL : ZL T R) (h0 : 0 ≤ i) (h1 : i < 130) : mo_aI (zz_S T J R G) 149 (mv_c i) k = k (mv_c (J 149 i)) := zz_aI (a := 149) (show T[149]? = _ from hL.at 133 (by rfl)) h0 h1 (by decide)
theorem zs_149 {k : mv_S → mv_O} (hL : ZL T R) (h0 : 0 ≤ i) (h1 : i < 130) : mo_sI (zz_S T J R G) 149 (mv_c i) (mv_c v) k = k (zz_S T (zz_u J 149 i v) R G) := zz_sI (a := 149) (by decide) (show T[149]? = _ from hL.at 133 (by rfl)) h0 h1 (by decide)
theorem zl_149 {k : Int32 → mv_O} (hL : ZL T R) : mo_al (zz_S T J R G) 149 k = k (mv_c 130) := zz_al (a := 149) (n := 130) (t := 0) (show T[149]? = _ from hL.at 133 (by rfl)) (by decide)
theorem za_150 {k : Int32 → mv_O} (hL : ZL T R) (h0 : 0 ≤ i) (h1 : i < 16) : mo_aI (zz_S T J R G) 150 (mv_c i) k = k (mv_c (J 150 i)) := zz_aI (a := 150) (show T[150]? = _ from hL.at 134 (by rfl)) h0 h1 (by decide)
theorem zs_150 {k : mv_S → mv_O} (hL : ZL T R) (h0 : 0 ≤ i) (h1 : i < 16) : mo_sI (zz_S T J R G) 150 (mv_c i) (mv_c v) k = k (zz_S T (zz_u J 150 i v) R G) := zz_sI (a := 150) (by decide) (show T[150]? = _ from hL.at 134 (by rfl)) h0 h1 (by decide)
theorem zl_150 {k : Int32 → mv_O} (hL : ZL T R) : mo_al (zz_S T J R G) 150 k = k (mv_c 16) := zz_al (a := 150) (n := 16) (t := 0) (show T[150]? = _ from hL.at 134 (by rfl)) (by decide)
theorem za_151 {k : Int32 → mv_O} (hL : ZL T R) (h0 : 0 ≤ i) (h1 : i < 16) : mo_aI (zz_S T J R G) 151 (mv_c i) k = k (mv_c (J 151 i)) := zz_aI (a := 151) (show T[151]? = _ from hL.at 135 (by rfl)) h0 h1 (by decide)
theorem zs_151 {k : mv_S → mv_O} (hL : ZL T R) (h0 : 0 ≤ i) (h1 : i < 16) : mo_sI (zz_S T J R G) 151 (mv_c i) (mv_c v) k = k (zz_S T (zz_u J 151 i v) R G) := zz_sI (a := 151) (by decide) (show T[151]? = _ from hL.at 135 (by rfl)) h0 h1 (by decide)
theorem zl_151 {k : Int32 → mv_O} (hL : ZL T R) : mo_al (zz_S T J R G) 151 k = k (mv_c 16) := zz_al (a := 151) (n := 16) (t := 0) (show T[151]? = _ from hL.at 135 (by rfl)) (by decide)
theorem za_152 {k : Int32 → mv_O} (hL : ZL T R) (h0 : 0 ≤ i) (h1 : i < 16) : mo_aI (zz_S T J R G) 152 (mv_c i) k = k (mv_c (J 152 i)) := zz_aI (a := 152) (show T[152]? = _ from hL.at 136 (by rfl)) h0 h1 (by decide)
theorem zs_152 {k : mv_S → mv_O} (hL : ZL T R) (h0 : 0 ≤ i) (h1 : i < 16) : mo_sI (zz_S T J R G) 152 (mv_c i) (mv_c v) k = k (zz_S T (zz_u J 152 i v) R G) := zz_sI (a := 152) (by decide) (show T[152]? = _ from hL.at 136 (by rfl)) h0 h1 (by decide)
theorem zl_152 {k : Int32 → mv_O} (hL : ZL T R) : mo_al (zz_S T J R G) 152 k = k (mv_c 16) := zz_al (a := 152) (n := 16) (t := 0) (show T[152]? = _ from hL.at 136 (by rfl)) (by decide)
theorem za_153 {k : Int32 → mv_O} (hL : ZL T R) (h0 : 0 ≤ i) (h1 : i < 130) : mo_aI (zz_S T J R G) 153 (mv_c i) k = k (mv_c (J 153 i)) := zz_aI (a := 153) (show T[153]? = _ from hL.at 137 (by rfl)) h0 h1 (by decide)
theorem zs_153 {k : mv_S → mv_O} (hL : ZL T R) (h0 : 0 ≤ i) (h1 : i < 130) : mo_sI (zz_S T J R G) 153 (mv_c i) (mv_c v) k = k (zz_S T (zz_u J 153 i v) R G) := zz_sI (a := 153) (by decide) (show T[153]? = _ from hL.at 137 (by rfl)) h0 h1 (by decide)
theorem zl_153 {k : Int32 → mv_O} (hL : ZL T R) : mo_al (zz_S T J R G) 153 k = k (mv_c 130) := zz_al (a := 153) (n := 130) (t := 0) (show T[153]? = _ from hL.at 137 (by rfl)) (by decide)
theorem za_154 {k : Int32 → mv_O} (hL : ZL T R) (h0 : 0 ≤ i) (h1 : i < 36) : mo_aI (zz_S T J R G) 154 (mv_c i) k = k (mv_c (J 154 i)) := zz_aI (a := 154) (show T[154]? = _ from hL.at 138 (by rfl)) h0 h1 (by decide)
theorem zs_154 {k : mv_S → mv_O} (hL : ZL T R) (h0 : 0 ≤ i) (h1 : i < 36) : mo_sI (zz_S T J R G) 154 (mv_c i) (mv_c v) k = k (zz_S T (zz_u J 154 i v) R G) := zz_sI (a := 154) (by decide) (show T[154]? = _ from hL.at 138 (by rfl)) h0 h1 (by decide)
theorem zl_154 {k : Int32 → mv_O} (hL : ZL T R) : mo_al (zz_S T J R G) 154 k = k (mv_c 36) := zz_al (a := 154) (n := 36) (t := 0) (show T[154]? = _ from hL.at 138 (by rfl)) (by decide)
theorem zl_155 {k : Int32 → mv_O} (hL : ZL T R) : mo_al (zz_S T J R G) 155 k = k (mv_c 1) := zz_al (a := 155) (n := 1) (t := 2) (show T[155]? = _ from hL.at 139 (by rfl)) (by decide)
theorem zz_Lt (hL : ZL T R) (hp : Lnd p) : T[p]? = some (.inl 3) := by
  rcases hp with rfl | rfl | rfl | rfl
  · exact hL.at 1 (by rfl)
  · exact hL.at 14 (by rfl)
  · exact hL.at 27 (by rfl)
  · exact hL.at 40 (by rfl)
theorem zz_Lt1 (hL : ZL T R) (hp : Lnd p) : T[p + 1]? = some (.inr (0, 16)) := by
  rcases hp with rfl | rfl | rfl | rfl
  · exact hL.at 2 (by rfl)
  · exact hL.at 15 (by rfl)
  · exact hL.at 28 (by rfl)
  · exact hL.at 41 (by rfl)
theorem zz_Lr1 (hL : ZL T R) (hp : Lnd p) : R p 8 = some (p + 1) := by
  rcases hp with rfl | rfl | rfl | rfl
  · exact hL.rf 0 (by rfl)
  · exact hL.rf 13 (by rfl)
  · exact hL.rf 26 (by rfl)
  · exact hL.rf 39 (by rfl)
theorem zz_Lt2 (hL : ZL T R) (hp : Lnd p) : T[p + 2]? = some (.inr (0, 256)) := by
  rcases hp with rfl | rfl | rfl | rfl
  · exact hL.at 3 (by rfl)
  · exact hL.at 16 (by rfl)
  · exact hL.at 29 (by rfl)
  · exact hL.at 42 (by rfl)
theorem zz_Lr2 (hL : ZL T R) (hp : Lnd p) : R p 9 = some (p + 2) := by
  rcases hp with rfl | rfl | rfl | rfl
  · exact hL.rf 1 (by rfl)
  · exact hL.rf 14 (by rfl)
  · exact hL.rf 27 (by rfl)
  · exact hL.rf 40 (by rfl)
theorem zz_Lt3 (hL : ZL T R) (hp : Lnd p) : T[p + 3]? = some (.inr (0, 64)) := by
  rcases hp with rfl | rfl | rfl | rfl
  · exact hL.at 4 (by rfl)
  · exact hL.at 17 (by rfl)
  · exact hL.at 30 (by rfl)
  · exact hL.at 43 (by rfl)
theorem zz_Lr3 (hL : ZL T R) (hp : Lnd p) : R p 10 = some (p + 3) := by
  rcases hp with rfl | rfl | rfl | rfl
  · exact hL.rf 2 (by rfl)
  · exact hL.rf 15 (by rfl)
  · exact hL.rf 28 (by rfl)
  · exact hL.rf 41 (by rfl)
theorem zz_Lt4 (hL : ZL T R) (hp : Lnd p) : T[p + 4]? = some (.inr (0, 16)) := by
  rcases hp with rfl | rfl | rfl | rfl
  · exact hL.at 5 (by rfl)
  · exact hL.at 18 (by rfl)
  · exact hL.at 31 (by rfl)
  · exact hL.at 44 (by rfl)
theorem zz_Lr4 (hL : ZL T R) (hp : Lnd p) : R p 11 = some (p + 4) := by
  rcases hp with rfl | rfl | rfl | rfl
  · exact hL.rf 3 (by rfl)
  · exact hL.rf 16 (by rfl)
  · exact hL.rf 29 (by rfl)
  · exact hL.rf 42 (by rfl)
theorem zz_Lt5 (hL : ZL T R) (hp : Lnd p) : T[p + 5]? = some (.inr (0, 16)) := by
  rcases hp with rfl | rfl | rfl | rfl
  · exact hL.at 6 (by rfl)
  · exact hL.at 19 (by rfl)
  · exact hL.at 32 (by rfl)
  · exact hL.at 45 (by rfl)
theorem zz_Lr5 (hL : ZL T R) (hp : Lnd p) : R p 12 = some (p + 5) := by
  rcases hp with rfl | rfl | rfl | rfl
  · exact hL.rf 4 (by rfl)
  · exact hL.rf 17 (by rfl)
  · exact hL.rf 30 (by rfl)
  · exact hL.rf 43 (by rfl)
theorem zz_Lt6 (hL : ZL T R) (hp : Lnd p) : T[p + 6]? = some (.inr (1, 16)) := by
  rcases hp with rfl | rfl | rfl | rfl
  · exact hL.at 7 (by rfl)
  · exact hL.at 20 (by rfl)
  · exact hL.at 33 (by rfl)
  · exact hL.at 46 (by rfl)
theorem zz_Lr6 (hL : ZL T R) (hp : Lnd p) : R p 13 = some (p + 6) := by
  rcases hp with rfl | rfl | rfl | rfl
  · exact hL.rf 5 (by rfl)
  · exact hL.rf 18 (by rfl)
  · exact hL.rf 31 (by rfl)
  · exact hL.rf 44 (by rfl)
theorem zz_Lt7 (hL : ZL T R) (hp : Lnd p) : T[p + 7]? = some (.inr (3, 6)) := by
  rcases hp with rfl | rfl | rfl | rfl
  · exact hL.at 8 (by rfl)
  · exact hL.at 21 (by rfl)
  · exact hL.at 34 (by rfl)
  · exact hL.at 47 (by rfl)
theorem zz_Lr7 (hL : ZL T R) (hp : Lnd p) : R p 14 = some (p + 7) := by
  rcases hp with rfl | rfl | rfl | rfl
  · exact hL.rf 6 (by rfl)
  · exact hL.rf 19 (by rfl)
  · exact hL.rf 32 (by rfl)
  · exact hL.rf 45 (by rfl)
theorem zz_Lt8 (hL : ZL T R) (hp : Lnd p) : T[p + 8]? = some (.inr (0, 6)) := by
  rcases hp with rfl | rfl | rfl | rfl
  · exact hL.at 9 (by rfl)
  · exact hL.at 22 (by rfl)
  · exact hL.at 35 (by rfl)
  · exact hL.at 48 (by rfl)
theorem zz_Lr8 (hL : ZL T R) (hp : Lnd p) : R p 15 = some (p + 8) := by
  rcases hp with rfl | rfl | rfl | rfl
  · exact hL.rf 7 (by rfl)
  · exact hL.rf 20 (by rfl)
  · exact hL.rf 33 (by rfl)
  · exact hL.rf 46 (by rfl)
theorem zz_Lt9 (hL : ZL T R) (hp : Lnd p) : T[p + 9]? = some (.inr (0, 24)) := by
  rcases hp with rfl | rfl | rfl | rfl
  · exact hL.at 10 (by rfl)
  · exact hL.at 23 (by rfl)
  · exact hL.at 36 (by rfl)
  · exact hL.at 49 (by rfl)
theorem zz_Lr9 (hL : ZL T R) (hp : Lnd p) : R p 16 = some (p + 9) := by
  rcases hp with rfl | rfl | rfl | rfl
  · exact hL.rf 8 (by rfl)
  · exact hL.rf 21 (by rfl)
  · exact hL.rf 34 (by rfl)
  · exact hL.rf 47 (by rfl)
theorem zz_Lt10 (hL : ZL T R) (hp : Lnd p) : T[p + 10]? = some (.inr (0, 24)) := by
  rcases hp with rfl | rfl | rfl | rfl
  · exact hL.at 11 (by rfl)
  · exact hL.at 24 (by rfl)
  · exact hL.at 37 (by rfl)
  · exact hL.at 50 (by rfl)
theorem zz_Lr10 (hL : ZL T R) (hp : Lnd p) : R p 17 = some (p + 10) := by
  rcases hp with rfl | rfl | rfl | rfl
  · exact hL.rf 9 (by rfl)
  · exact hL.rf 22 (by rfl)
  · exact hL.rf 35 (by rfl)
  · exact hL.rf 48 (by rfl)
theorem zz_Lt11 (hL : ZL T R) (hp : Lnd p) : T[p + 11]? = some (.inr (0, 24)) := by
  rcases hp with rfl | rfl | rfl | rfl
  · exact hL.at 12 (by rfl)
  · exact hL.at 25 (by rfl)
  · exact hL.at 38 (by rfl)
  · exact hL.at 51 (by rfl)
theorem zz_Lr11 (hL : ZL T R) (hp : Lnd p) : R p 18 = some (p + 11) := by
  rcases hp with rfl | rfl | rfl | rfl
  · exact hL.rf 10 (by rfl)
  · exact hL.rf 23 (by rfl)
  · exact hL.rf 36 (by rfl)
  · exact hL.rf 49 (by rfl)
theorem zz_Lt12 (hL : ZL T R) (hp : Lnd p) : T[p + 12]? = some (.inr (0, 10)) := by
  rcases hp with rfl | rfl | rfl | rfl
  · exact hL.at 13 (by rfl)
  · exact hL.at 26 (by rfl)
  · exact hL.at 39 (by rfl)
  · exact hL.at 52 (by rfl)
theorem zz_Lr12 (hL : ZL T R) (hp : Lnd p) : R p 19 = some (p + 12) := by
  rcases hp with rfl | rfl | rfl | rfl
  · exact hL.rf 11 (by rfl)
  · exact hL.rf 24 (by rfl)
  · exact hL.rf 37 (by rfl)
  · exact hL.rf 50 (by rfl)
theorem zz_Lo (hp : Lnd p) (n : Nat) : 16 ≤ p + n := by rcases hp with rfl | rfl | rfl | rfl <;> omega
theorem zg_L_0 {k : Int32 → mv_O} (hL : ZL T R) (hp : Lnd p) : mo_gI (zz_S T J R G) p 3 0 k = k (mv_c (J p 0)) := zz_gI (f := 0) (zz_Lt hL hp)
theorem zp_L_0 {k : mv_S → mv_O} (hL : ZL T R) (hp : Lnd p) : mo_pI (zz_S T J R G) p 3 0 (mv_c v) k = k (zz_S T (zz_u J p 0 v) R G) := zz_pI (f := 0) (zz_Lt hL hp)
theorem zg_L_1 {k : Int32 → mv_O} (hL : ZL T R) (hp : Lnd p) : mo_gI (zz_S T J R G) p 3 1 k = k (mv_c (J p 1)) := zz_gI (f := 1) (zz_Lt hL hp)
theorem zp_L_1 {k : mv_S → mv_O} (hL : ZL T R) (hp : Lnd p) : mo_pI (zz_S T J R G) p 3 1 (mv_c v) k = k (zz_S T (zz_u J p 1 v) R G) := zz_pI (f := 1) (zz_Lt hL hp)
theorem zg_L_2 {k : Int32 → mv_O} (hL : ZL T R) (hp : Lnd p) : mo_gI (zz_S T J R G) p 3 2 k = k (mv_c (J p 2)) := zz_gI (f := 2) (zz_Lt hL hp)
theorem zp_L_2 {k : mv_S → mv_O} (hL : ZL T R) (hp : Lnd p) : mo_pI (zz_S T J R G) p 3 2 (mv_c v) k = k (zz_S T (zz_u J p 2 v) R G) := zz_pI (f := 2) (zz_Lt hL hp)
theorem zg_L_3 {k : Int32 → mv_O} (hL : ZL T R) (hp : Lnd p) : mo_gI (zz_S T J R G) p 3 3 k = k (mv_c (J p 3)) := zz_gI (f := 3) (zz_Lt hL hp)
theorem zp_L_3 {k : mv_S → mv_O} (hL : ZL T R) (hp : Lnd p) : mo_pI (zz_S T J R G) p 3 3 (mv_c v) k = k (zz_S T (zz_u J p 3 v) R G) := zz_pI (f := 3) (zz_Lt hL hp)
theorem zg_L_4 {k : Int32 → mv_O} (hL : ZL T R) (hp : Lnd p) : mo_gI (zz_S T J R G) p 3 4 k = k (mv_c (J p 4)) := zz_gI (f := 4) (zz_Lt hL hp)
theorem zp_L_4 {k : mv_S → mv_O} (hL : ZL T R) (hp : Lnd p) : mo_pI (zz_S T J R G) p 3 4 (mv_c v) k = k (zz_S T (zz_u J p 4 v) R G) := zz_pI (f := 4) (zz_Lt hL hp)
theorem zg_L_5 {k : Int32 → mv_O} (hL : ZL T R) (hp : Lnd p) : mo_gI (zz_S T J R G) p 3 5 k = k (mv_c (J p 5)) := zz_gI (f := 5) (zz_Lt hL hp)
theorem zp_L_5 {k : mv_S → mv_O} (hL : ZL T R) (hp : Lnd p) : mo_pI (zz_S T J R G) p 3 5 (mv_c v) k = k (zz_S T (zz_u J p 5 v) R G) := zz_pI (f := 5) (zz_Lt hL hp)
theorem zg_L_6 {k : Int32 → mv_O} (hL : ZL T R) (hp : Lnd p) : mo_gI (zz_S T J R G) p 3 6 k = k (mv_c (J p 6)) := zz_gI (f := 6) (zz_Lt hL hp)
theorem zp_L_6 {k : mv_S → mv_O} (hL : ZL T R) (hp : Lnd p) : mo_pI (zz_S T J R G) p 3 6 (mv_c v) k = k (zz_S T (zz_u J p 6 v) R G) := zz_pI (f := 6) (zz_Lt hL hp)
theorem zg_L_7 {k : Int32 → mv_O} (hL : ZL T R) (hp : Lnd p) : mo_gI (zz_S T J R G) p 3 7 k = k (mv_c (J p 7)) := zz_gI (f := 7) (zz_Lt hL hp)
theorem zp_L_7 {k : mv_S → mv_O} (hL : ZL T R) (hp : Lnd p) : mo_pI (zz_S T J R G) p 3 7 (mv_c v) k = k (zz_S T (zz_u J p 7 v) R G) := zz_pI (f := 7) (zz_Lt hL hp)
theorem zi_L {k : mv_O} (hL : ZL T R) (hp : Lnd p) : mo_is (zz_S T J R G) p 3 k = k := zz_is (zz_Lt hL hp)
theorem zr_L_8 {k : Option Nat → mv_O} (hL : ZL T R) (hp : Lnd p) : mo_gR (zz_S T J R G) p 3 8 k = k (some (p + 1)) := zz_gR (f := 8) (zz_Lt hL hp) (zz_Lr1 hL hp)
theorem za_L_1 {k : Int32 → mv_O} (hL : ZL T R) (hp : Lnd p) (h0 : 0 ≤ i) (h1 : i < 16) : mo_aI (zz_S T J R G) (p + 1) (mv_c i) k = k (mv_c (J (p + 1) i)) := zz_aI (zz_Lt1 hL hp) h0 h1 (by decide)
theorem zs_L_1 {k : mv_S → mv_O} (hL : ZL T R) (hp : Lnd p) (h0 : 0 ≤ i) (h1 : i < 16) : mo_sI (zz_S T J R G) (p + 1) (mv_c i) (mv_c v) k = k (zz_S T (zz_u J (p + 1) i v) R G) := zz_sI (zz_Lo hp 1) (zz_Lt1 hL hp) h0 h1 (by decide)
theorem zr_L_9 {k : Option Nat → mv_O} (hL : ZL T R) (hp : Lnd p) : mo_gR (zz_S T J R G) p 3 9 k = k (some (p + 2)) := zz_gR (f := 9) (zz_Lt hL hp) (zz_Lr2 hL hp)
theorem za_L_2 {k : Int32 → mv_O} (hL : ZL T R) (hp : Lnd p) (h0 : 0 ≤ i) (h1 : i < 256) : mo_aI (zz_S T J R G) (p + 2) (mv_c i) k = k (mv_c (J (p + 2) i)) := zz_aI (zz_Lt2 hL hp) h0 h1 (by decide)
theorem zs_L_2 {k : mv_S → mv_O} (hL : ZL T R) (hp : Lnd p) (h0 : 0 ≤ i) (h1 : i < 256) : mo_sI (zz_S T J R G) (p + 2) (mv_c i) (mv_c v) k = k (zz_S T (zz_u J (p + 2) i v) R G) := zz_sI (zz_Lo hp 2) (zz_Lt2 hL hp) h0 h1 (by decide)
theorem zr_L_10 {k : Option Nat → mv_O} (hL : ZL T R) (hp : Lnd p) : mo_gR (zz_S T J R G) p 3 10 k = k (some (p + 3)) := zz_gR (f := 10) (zz_Lt hL hp) (zz_Lr3 hL hp)
theorem za_L_3 {k : Int32 → mv_O} (hL : ZL T R) (hp : Lnd p) (h0 : 0 ≤ i) (h1 : i < 64) : mo_aI (zz_S T J R G) (p + 3) (mv_c i) k = k (mv_c (J (p + 3) i)) := zz_aI (zz_Lt3 hL hp) h0 h1 (by decide)
theorem zs_L_3 {k : mv_S → mv_O} (hL : ZL T R) (hp : Lnd p) (h0 : 0 ≤ i) (h1 : i < 64) : mo_sI (zz_S T J R G) (p + 3) (mv_c i) (mv_c v) k = k (zz_S T (zz_u J (p + 3) i v) R G) := zz_sI (zz_Lo hp 3) (zz_Lt3 hL hp) h0 h1 (by decide)
theorem zr_L_11 {k : Option Nat → mv_O} (hL : ZL T R) (hp : Lnd p) : mo_gR (zz_S T J R G) p 3 11 k = k (some (p + 4)) := zz_gR (f := 11) (zz_Lt hL hp) (zz_Lr4 hL hp)
theorem za_L_4 {k : Int32 → mv_O} (hL : ZL T R) (hp : Lnd p) (h0 : 0 ≤ i) (h1 : i < 16) : mo_aI (zz_S T J R G) (p + 4) (mv_c i) k = k (mv_c (J (p + 4) i)) := zz_aI (zz_Lt4 hL hp) h0 h1 (by decide)
theorem zs_L_4 {k : mv_S → mv_O} (hL : ZL T R) (hp : Lnd p) (h0 : 0 ≤ i) (h1 : i < 16) : mo_sI (zz_S T J R G) (p + 4) (mv_c i) (mv_c v) k = k (zz_S T (zz_u J (p + 4) i v) R G) := zz_sI (zz_Lo hp 4) (zz_Lt4 hL hp) h0 h1 (by decide)
theorem zr_L_12 {k : Option Nat → mv_O} (hL : ZL T R) (hp : Lnd p) : mo_gR (zz_S T J R G) p 3 12 k = k (some (p + 5)) := zz_gR (f := 12) (zz_Lt hL hp) (zz_Lr5 hL hp)
theorem za_L_5 {k : Int32 → mv_O} (hL : ZL T R) (hp : Lnd p) (h0 : 0 ≤ i) (h1 : i < 16) : mo_aI (zz_S T J R G) (p + 5) (mv_c i) k = k (mv_c (J (p + 5) i)) := zz_aI (zz_Lt5 hL hp) h0 h1 (by decide)
theorem zs_L_5 {k : mv_S → mv_O} (hL : ZL T R) (hp : Lnd p) (h0 : 0 ≤ i) (h1 : i < 16) : mo_sI (zz_S T J R G) (p + 5) (mv_c i) (mv_c v) k = k (zz_S T (zz_u J (p + 5) i v) R G) := zz_sI (zz_Lo hp 5) (zz_Lt5 hL hp) h0 h1 (by decide)
theorem zr_L_13 {k : Option Nat → mv_O} (hL : ZL T R) (hp : Lnd p) : mo_gR (zz_S T J R G) p 3 13 k = k (some (p + 6)) := zz_gR (f := 13) (zz_Lt hL hp) (zz_Lr6 hL hp)
theorem za_L_6 {k : Int32 → mv_O} (hL : ZL T R) (hp : Lnd p) (h0 : 0 ≤ i) (h1 : i < 16) : mo_aZ (zz_S T J R G) (p + 6) (mv_c i) k = k (mv_c (J (p + 6) i)) := zz_aZ (zz_Lt6 hL hp) h0 h1 (by decide)
theorem zs_L_6 {k : mv_S → mv_O} (hL : ZL T R) (hp : Lnd p) (h0 : 0 ≤ i) (h1 : i < 16) (hv : v = 0 ∨ v = 1) : mo_sZ (zz_S T J R G) (p + 6) (mv_c i) (mv_c v) k = k (zz_S T (zz_u J (p + 6) i v) R G) := zz_sZ (zz_Lo hp 6) (zz_Lt6 hL hp) h0 h1 (by decide) hv
theorem zr_L_14 {k : Option Nat → mv_O} (hL : ZL T R) (hp : Lnd p) : mo_gR (zz_S T J R G) p 3 14 k = k (some (p + 7)) := zz_gR (f := 14) (zz_Lt hL hp) (zz_Lr7 hL hp)
theorem za_L_7 {k : Option Nat → mv_O} (hL : ZL T R) (hp : Lnd p) (h0 : 0 ≤ i) (h1 : i < 6) : mo_aR (zz_S T J R G) (p + 7) (mv_c i) k = k (R (p + 7) i.toNat) := zz_aR (zz_Lt7 hL hp) (by decide) h0 h1 (by decide)
theorem zs_L_7 {k : mv_S → mv_O} {o : Option Nat} (hL : ZL T R) (hp : Lnd p) (h0 : 0 ≤ i) (h1 : i < 6) (ho : ∀ a, o = some a → T[a]? = some (.inl 2)) : mo_sR (zz_S T J R G) (p + 7) (mv_c i) o k = k (zz_S T J (mv_up R (p + 7) i.toNat o) G) := zz_sR (zz_Lo hp 7) (zz_Lt7 hL hp) (Or.inl rfl) h0 h1 (by decide) ho
theorem zr_L_15 {k : Option Nat → mv_O} (hL : ZL T R) (hp : Lnd p) : mo_gR (zz_S T J R G) p 3 15 k = k (some (p + 8)) := zz_gR (f := 15) (zz_Lt hL hp) (zz_Lr8 hL hp)
theorem za_L_8 {k : Int32 → mv_O} (hL : ZL T R) (hp : Lnd p) (h0 : 0 ≤ i) (h1 : i < 6) : mo_aI (zz_S T J R G) (p + 8) (mv_c i) k = k (mv_c (J (p + 8) i)) := zz_aI (zz_Lt8 hL hp) h0 h1 (by decide)
theorem zs_L_8 {k : mv_S → mv_O} (hL : ZL T R) (hp : Lnd p) (h0 : 0 ≤ i) (h1 : i < 6) : mo_sI (zz_S T J R G) (p + 8) (mv_c i) (mv_c v) k = k (zz_S T (zz_u J (p + 8) i v) R G) := zz_sI (zz_Lo hp 8) (zz_Lt8 hL hp) h0 h1 (by decide)
theorem zr_L_16 {k : Option Nat → mv_O} (hL : ZL T R) (hp : Lnd p) : mo_gR (zz_S T J R G) p 3 16 k = k (some (p + 9)) := zz_gR (f := 16) (zz_Lt hL hp) (zz_Lr9 hL hp)
theorem za_L_9 {k : Int32 → mv_O} (hL : ZL T R) (hp : Lnd p) (h0 : 0 ≤ i) (h1 : i < 24) : mo_aI (zz_S T J R G) (p + 9) (mv_c i) k = k (mv_c (J (p + 9) i)) := zz_aI (zz_Lt9 hL hp) h0 h1 (by decide)
theorem zs_L_9 {k : mv_S → mv_O} (hL : ZL T R) (hp : Lnd p) (h0 : 0 ≤ i) (h1 : i < 24) : mo_sI (zz_S T J R G) (p + 9) (mv_c i) (mv_c v) k = k (zz_S T (zz_u J (p + 9) i v) R G) := zz_sI (zz_Lo hp 9) (zz_Lt9 hL hp) h0 h1 (by decide)
theorem zr_L_17 {k : Option Nat → mv_O} (hL : ZL T R) (hp : Lnd p) : mo_gR (zz_S T J R G) p 3 17 k = k (some (p + 10)) := zz_gR (f := 17) (zz_Lt hL hp) (zz_Lr10 hL hp)
theorem za_L_10 {k : Int32 → mv_O} (hL : ZL T R) (hp : Lnd p) (h0 : 0 ≤ i) (h1 : i < 24) : mo_aI (zz_S T J R G) (p + 10) (mv_c i) k = k (mv_c (J (p + 10) i)) := zz_aI (zz_Lt10 hL hp) h0 h1 (by decide)
theorem zs_L_10 {k : mv_S → mv_O} (hL : ZL T R) (hp : Lnd p) (h0 : 0 ≤ i) (h1 : i < 24) : mo_sI (zz_S T J R G) (p + 10) (mv_c i) (mv_c v) k = k (zz_S T (zz_u J (p + 10) i v) R G) := zz_sI (zz_Lo hp 10) (zz_Lt10 hL hp) h0 h1 (by decide)
theorem zr_L_18 {k : Option Nat → mv_O} (hL : ZL T R) (hp : Lnd p) : mo_gR (zz_S T J R G) p 3 18 k = k (some (p + 11)) := zz_gR (f := 18) (zz_Lt hL hp) (zz_Lr11 hL hp)
theorem za_L_11 {k : Int32 → mv_O} (hL : ZL T R) (hp : Lnd p) (h0 : 0 ≤ i) (h1 : i < 24) : mo_aI (zz_S T J R G) (p + 11) (mv_c i) k = k (mv_c (J (p + 11) i)) := zz_aI (zz_Lt11 hL hp) h0 h1 (by decide)
theorem zs_L_11 {k : mv_S → mv_O} (hL : ZL T R) (hp : Lnd p) (h0 : 0 ≤ i) (h1 : i < 24) : mo_sI (zz_S T J R G) (p + 11) (mv_c i) (mv_c v) k = k (zz_S T (zz_u J (p + 11) i v) R G) := zz_sI (zz_Lo hp 11) (zz_Lt11 hL hp) h0 h1 (by decide)
theorem zr_L_19 {k : Option Nat → mv_O} (hL : ZL T R) (hp : Lnd p) : mo_gR (zz_S T J R G) p 3 19 k = k (some (p + 12)) := zz_gR (f := 19) (zz_Lt hL hp) (zz_Lr12 hL hp)
theorem za_L_12 {k : Int32 → mv_O} (hL : ZL T R) (hp : Lnd p) (h0 : 0 ≤ i) (h1 : i < 10) : mo_aI (zz_S T J R G) (p + 12) (mv_c i) k = k (mv_c (J (p + 12) i)) := zz_aI (zz_Lt12 hL hp) h0 h1 (by decide)
theorem zs_L_12 {k : mv_S → mv_O} (hL : ZL T R) (hp : Lnd p) (h0 : 0 ≤ i) (h1 : i < 10) : mo_sI (zz_S T J R G) (p + 12) (mv_c i) (mv_c v) k = k (zz_S T (zz_u J (p + 12) i v) R G) := zz_sI (zz_Lo hp 12) (zz_Lt12 hL hp) h0 h1 (by decide)
theorem zz_mvt (hL : ZL T R) : ∀ k : Nat, k < 16 → T[85 + k]? = some (.inr (0, 16)) := by
  intro k hk
  match k, hk with
  | 0, _ => exact hL.at 69 (by rfl)
  | 1, _ => exact hL.at 70 (by rfl)
  | 2, _ => exact hL.at 71 (by rfl)
  | 3, _ => exact hL.at 72 (by rfl)
  | 4, _ => exact hL.at 73 (by rfl)
  | 5, _ => exact hL.at 74 (by rfl)
  | 6, _ => exact hL.at 75 (by rfl)
  | 7, _ => exact hL.at 76 (by rfl)
  | 8, _ => exact hL.at 77 (by rfl)
  | 9, _ => exact hL.at 78 (by rfl)
  | 10, _ => exact hL.at 79 (by rfl)
  | 11, _ => exact hL.at 80 (by rfl)
  | 12, _ => exact hL.at 81 (by rfl)
  | 13, _ => exact hL.at 82 (by rfl)
  | 14, _ => exact hL.at 83 (by rfl)
  | 15, _ => exact hL.at 84 (by rfl)
  | k + 16, h => exact absurd h (by omega)
theorem zz_mvr (hL : ZL T R) : ∀ k : Nat, k < 16 → R 84 k = some (85 + k) := by
  intro k hk
  match k, hk with
  | 0, _ => exact hL.rf 67 (by rfl)
  | 1, _ => exact hL.rf 68 (by rfl)
  | 2, _ => exact hL.rf 69 (by rfl)
  | 3, _ => exact hL.rf 70 (by rfl)
  | 4, _ => exact hL.rf 71 (by rfl)
  | 5, _ => exact hL.rf 72 (by rfl)
  | 6, _ => exact hL.rf 73 (by rfl)
  | 7, _ => exact hL.rf 74 (by rfl)
  | 8, _ => exact hL.rf 75 (by rfl)
  | 9, _ => exact hL.rf 76 (by rfl)
  | 10, _ => exact hL.rf 77 (by rfl)
  | 11, _ => exact hL.rf 78 (by rfl)
  | 12, _ => exact hL.rf 79 (by rfl)
  | 13, _ => exact hL.rf 80 (by rfl)
  | 14, _ => exact hL.rf 81 (by rfl)
  | 15, _ => exact hL.rf 82 (by rfl)
  | k + 16, h => exact absurd h (by omega)
theorem zr_mv {k : Option Nat → mv_O} (hL : ZL T R) (h0 : 0 ≤ i) (h1 : i < 16) : mo_aR (zz_S T J R G) 84 (mv_c i) k = k (some (85 + i.toNat)) := by
  rw [zz_aR (a := 84) (n := 16) (t := 5) (show T[84]? = _ from hL.at 68 (by rfl)) (by decide) h0 h1 (by decide), zz_mvr hL _ (by omega)]
theorem za_mv {k : Int32 → mv_O} {r : Int} (hL : ZL T R) (r0 : 0 ≤ r) (r1 : r < 16) (h0 : 0 ≤ i) (h1 : i < 16) : mo_aI (zz_S T J R G) (85 + r.toNat) (mv_c i) k = k (mv_c (J (85 + r.toNat) i)) := zz_aI (zz_mvt hL _ (by omega)) h0 h1 (by decide)
theorem zs_mv {k : mv_S → mv_O} {r : Int} (hL : ZL T R) (r0 : 0 ≤ r) (r1 : r < 16) (h0 : 0 ≤ i) (h1 : i < 16) : mo_sI (zz_S T J R G) (85 + r.toNat) (mv_c i) (mv_c v) k = k (zz_S T (zz_u J (85 + r.toNat) i v) R G) := zz_sI (by omega) (zz_mvt hL _ (by omega)) h0 h1 (by decide)
theorem zl_mv {k : Int32 → mv_O} {r : Int} (hL : ZL T R) (r0 : 0 ≤ r) (r1 : r < 16) : mo_al (zz_S T J R G) (85 + r.toNat) k = k (mv_c 16) := zz_al (zz_mvt hL _ (by omega)) (by decide)
theorem zz_plt (hL : ZL T R) : ∀ k : Nat, k < 6 → T[108 + k]? = some (.inr (0, 16)) := by
  intro k hk
  match k, hk with
  | 0, _ => exact hL.at 92 (by rfl)
  | 1, _ => exact hL.at 93 (by rfl)
  | 2, _ => exact hL.at 94 (by rfl)
  | 3, _ => exact hL.at 95 (by rfl)
  | 4, _ => exact hL.at 96 (by rfl)
  | 5, _ => exact hL.at 97 (by rfl)
theorem zz_plr (hL : ZL T R) : ∀ k : Nat, k < 6 → R 107 k = some (108 + k) := by
  intro k hk
  match k, hk with
  | 0, _ => exact hL.rf 90 (by rfl)
  | 1, _ => exact hL.rf 91 (by rfl)
  | 2, _ => exact hL.rf 92 (by rfl)
  | 3, _ => exact hL.rf 93 (by rfl)
  | 4, _ => exact hL.rf 94 (by rfl)
  | 5, _ => exact hL.rf 95 (by rfl)
theorem zr_pl {k : Option Nat → mv_O} (hL : ZL T R) (h0 : 0 ≤ i) (h1 : i < 6) : mo_aR (zz_S T J R G) 107 (mv_c i) k = k (some (108 + i.toNat)) := by
  rw [zz_aR (a := 107) (n := 6) (t := 5) (show T[107]? = _ from hL.at 91 (by rfl)) (by decide) h0 h1 (by decide), zz_plr hL _ (by omega)]
theorem za_pl {k : Int32 → mv_O} {r : Int} (hL : ZL T R) (r0 : 0 ≤ r) (r1 : r < 6) (h0 : 0 ≤ i) (h1 : i < 16) : mo_aI (zz_S T J R G) (108 + r.toNat) (mv_c i) k = k (mv_c (J (108 + r.toNat) i)) := zz_aI (zz_plt hL _ (by omega)) h0 h1 (by decide)
theorem zs_pl {k : mv_S → mv_O} {r : Int} (hL : ZL T R) (r0 : 0 ≤ r) (r1 : r < 6) (h0 : 0 ≤ i) (h1 : i < 16) : mo_sI (zz_S T J R G) (108 + r.toNat) (mv_c i) (mv_c v) k = k (zz_S T (zz_u J (108 + r.toNat) i v) R G) := zz_sI (by omega) (zz_plt hL _ (by omega)) h0 h1 (by decide)
theorem zl_pl {k : Int32 → mv_O} {r : Int} (hL : ZL T R) (r0 : 0 ≤ r) (r1 : r < 6) : mo_al (zz_S T J R G) (108 + r.toNat) k = k (mv_c 16) := zz_al (zz_plt hL _ (by omega)) (by decide)
abbrev Shf (q : Nat) : Prop := q = 115 ∨ q = 117 ∨ q = 119 ∨ q = 121 ∨ q = 123 ∨ q = 125 ∨ q = 127 ∨ q = 129
theorem zz_Ht (hL : ZL T R) (hp : Shf p) : T[p]? = some (.inl 4) := by
  rcases hp with rfl | rfl | rfl | rfl | rfl | rfl | rfl | rfl
  · exact hL.at 99 (by rfl)
  · exact hL.at 101 (by rfl)
  · exact hL.at 103 (by rfl)
  · exact hL.at 105 (by rfl)
  · exact hL.at 107 (by rfl)
  · exact hL.at 109 (by rfl)
  · exact hL.at 111 (by rfl)
  · exact hL.at 113 (by rfl)
theorem zz_Ht1 (hL : ZL T R) (hp : Shf p) : T[p + 1]? = some (.inr (0, 100)) := by
  rcases hp with rfl | rfl | rfl | rfl | rfl | rfl | rfl | rfl
  · exact hL.at 100 (by rfl)
  · exact hL.at 102 (by rfl)
  · exact hL.at 104 (by rfl)
  · exact hL.at 106 (by rfl)
  · exact hL.at 108 (by rfl)
  · exact hL.at 110 (by rfl)
  · exact hL.at 112 (by rfl)
  · exact hL.at 114 (by rfl)
theorem zz_Hr (hL : ZL T R) (hp : Shf p) : R p 4 = some (p + 1) := by
  rcases hp with rfl | rfl | rfl | rfl | rfl | rfl | rfl | rfl
  · exact hL.rf 97 (by rfl)
  · exact hL.rf 99 (by rfl)
  · exact hL.rf 101 (by rfl)
  · exact hL.rf 103 (by rfl)
  · exact hL.rf 105 (by rfl)
  · exact hL.rf 107 (by rfl)
  · exact hL.rf 109 (by rfl)
  · exact hL.rf 111 (by rfl)
theorem zz_Hs (hL : ZL T R) : ∀ k : Nat, k < 8 → R 69 k = some (115 + 2 * k) := by
  intro k hk
  match k, hk with
  | 0, _ => exact hL.rf 98 (by rfl)
  | 1, _ => exact hL.rf 100 (by rfl)
  | 2, _ => exact hL.rf 102 (by rfl)
  | 3, _ => exact hL.rf 104 (by rfl)
  | 4, _ => exact hL.rf 106 (by rfl)
  | 5, _ => exact hL.rf 108 (by rfl)
  | 6, _ => exact hL.rf 110 (by rfl)
  | 7, _ => exact hL.rf 112 (by rfl)
theorem zr_sh {k : Option Nat → mv_O} (hL : ZL T R) (h0 : 0 ≤ i) (h1 : i < 8) : mo_aR (zz_S T J R G) 69 (mv_c i) k = k (some (115 + 2 * i.toNat)) := by
  rw [zz_aR (a := 69) (n := 8) (t := 4) (show T[69]? = _ from hL.at 53 (by rfl)) (by decide) h0 h1 (by decide), zz_Hs hL _ (by omega)]
theorem zg_H_1 {k : Int32 → mv_O} (hL : ZL T R) (hp : Shf p) : mo_gI (zz_S T J R G) p 4 1 k = k (mv_c (J p 1)) := zz_gI (f := 1) (zz_Ht hL hp)
theorem zp_H_1 {k : mv_S → mv_O} (hL : ZL T R) (hp : Shf p) : mo_pI (zz_S T J R G) p 4 1 (mv_c v) k = k (zz_S T (zz_u J p 1 v) R G) := zz_pI (f := 1) (zz_Ht hL hp)
theorem zg_H_2 {k : Int32 → mv_O} (hL : ZL T R) (hp : Shf p) : mo_gI (zz_S T J R G) p 4 2 k = k (mv_c (J p 2)) := zz_gI (f := 2) (zz_Ht hL hp)
theorem zp_H_2 {k : mv_S → mv_O} (hL : ZL T R) (hp : Shf p) : mo_pI (zz_S T J R G) p 4 2 (mv_c v) k = k (zz_S T (zz_u J p 2 v) R G) := zz_pI (f := 2) (zz_Ht hL hp)
theorem zg_H_3 {k : Int32 → mv_O} (hL : ZL T R) (hp : Shf p) : mo_gI (zz_S T J R G) p 4 3 k = k (mv_c (J p 3)) := zz_gI (f := 3) (zz_Ht hL hp)
theorem zp_H_3 {k : mv_S → mv_O} (hL : ZL T R) (hp : Shf p) : mo_pI (zz_S T J R G) p 4 3 (mv_c v) k = k (zz_S T (zz_u J p 3 v) R G) := zz_pI (f := 3) (zz_Ht hL hp)
theorem zr_H_0 {k : Option Nat → mv_O} (hL : ZL T R) (hp : Shf p) : mo_gR (zz_S T J R G) p 4 0 k = k (R p 0) := zz_gRv (f := 0) (zz_Ht hL hp)
theorem zq_H_0 {k : mv_S → mv_O} {o : Option Nat} (hL : ZL T R) (hp : Shf p) : mo_pR (zz_S T J R G) p 4 0 o k = k (zz_S T J (mv_up R p 0 o) G) := zz_pR (f := 0) (zz_Ht hL hp)
theorem zr_H_4 {k : Option Nat → mv_O} (hL : ZL T R) (hp : Shf p) : mo_gR (zz_S T J R G) p 4 4 k = k (some (p + 1)) := zz_gR (f := 4) (zz_Ht hL hp) (zz_Hr hL hp)
theorem zi_H {k : mv_O} (hL : ZL T R) (hp : Shf p) : mo_is (zz_S T J R G) p 4 k = k := zz_is (zz_Ht hL hp)
theorem za_H {k : Int32 → mv_O} (hL : ZL T R) (hp : Shf p) (h0 : 0 ≤ i) (h1 : i < 100) : mo_aI (zz_S T J R G) (p + 1) (mv_c i) k = k (mv_c (J (p + 1) i)) := zz_aI (zz_Ht1 hL hp) h0 h1 (by decide)
theorem zs_H {k : mv_S → mv_O} (hL : ZL T R) (hp : Shf p) (h0 : 0 ≤ i) (h1 : i < 100) : mo_sI (zz_S T J R G) (p + 1) (mv_c i) (mv_c v) k = k (zz_S T (zz_u J (p + 1) i v) R G) := zz_sI (by omega) (zz_Ht1 hL hp) h0 h1 (by decide)
theorem zl_H {k : Int32 → mv_O} (hL : ZL T R) (hp : Shf p) : mo_al (zz_S T J R G) (p + 1) k = k (mv_c 100) := zz_al (zz_Ht1 hL hp) (by decide)
theorem zg_D_0 {k : Int32 → mv_O} (hp : T[p]? = some (.inl 2)) : mo_gI (zz_S T J R G) p 2 0 k = k (mv_c (J p 0)) := zz_gI (f := 0) hp
theorem zp_D_0 {k : mv_S → mv_O} (hp : T[p]? = some (.inl 2)) : mo_pI (zz_S T J R G) p 2 0 (mv_c v) k = k (zz_S T (zz_u J p 0 v) R G) := zz_pI (f := 0) hp
theorem zg_D_1 {k : Int32 → mv_O} (hp : T[p]? = some (.inl 2)) : mo_gI (zz_S T J R G) p 2 1 k = k (mv_c (J p 1)) := zz_gI (f := 1) hp
theorem zp_D_1 {k : mv_S → mv_O} (hp : T[p]? = some (.inl 2)) : mo_pI (zz_S T J R G) p 2 1 (mv_c v) k = k (zz_S T (zz_u J p 1 v) R G) := zz_pI (f := 1) hp
theorem zg_D_2 {k : Int32 → mv_O} (hp : T[p]? = some (.inl 2)) : mo_gI (zz_S T J R G) p 2 2 k = k (mv_c (J p 2)) := zz_gI (f := 2) hp
theorem zp_D_2 {k : mv_S → mv_O} (hp : T[p]? = some (.inl 2)) : mo_pI (zz_S T J R G) p 2 2 (mv_c v) k = k (zz_S T (zz_u J p 2 v) R G) := zz_pI (f := 2) hp
theorem zi_D {k : mv_O} (hp : T[p]? = some (.inl 2)) : mo_is (zz_S T J R G) p 2 k = k := zz_is hp
end ZLAY
