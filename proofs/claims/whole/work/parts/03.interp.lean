/-! THE SMALL MACHINE: values, a memory of numbered cells, one function a method by fuel and depth -/
abbrev mv_T : Type := Nat ⊕ (Nat × Nat)
abbrev mv_V : Type := Int32 ⊕ (Int64 ⊕ Option Nat)
abbrev mv_S : Type := List mv_T × (Nat → Nat → Int32) × (Nat → Nat → Option Nat) × (Nat → Nat → Int64)
abbrev mv_O : Type := Option (Option mv_V × mv_S)
abbrev mv_L : Type := List (Nat × mv_V)
abbrev mv_K : Type := Nat × Nat × Nat × Nat × Int
def mv_c (n : Int) : Int32 := Int32.ofInt n
def mv_cl (n : Int) : Int64 := Int64.ofInt n
def mv_up {α : Type} (f : Nat → Nat → α) (a k : Nat) (v : α) : Nat → Nat → α := fun x y => if x = a then (if y = k then v else f x y) else f x y
def mv_uf {α : Type} (f : Nat → Nat → α) (a : Nat) (g : Nat → α) : Nat → Nat → α := fun x y => if x = a then g y else f x y
/-- the numbers changed, the rest as it is -/
abbrev ms_i (σ : mv_S) (f : Nat → Nat → Int32) : mv_S := (σ.1, f, σ.2.2.1, σ.2.2.2)
abbrev ms_r (σ : mv_S) (f : Nat → Nat → Option Nat) : mv_S := (σ.1, σ.2.1, f, σ.2.2.2)
abbrev ms_l (σ : mv_S) (f : Nat → Nat → Int64) : mv_S := (σ.1, σ.2.1, σ.2.2.1, f)
def mo_gI (σ : mv_S) (a c f : Nat) (k : Int32 → mv_O) : mv_O := if σ.1[a]? = some (.inl c) then k (σ.2.1 a f) else none
def mo_gR (σ : mv_S) (a c f : Nat) (k : Option Nat → mv_O) : mv_O := if σ.1[a]? = some (.inl c) then k (σ.2.2.1 a f) else none
def mo_pI (σ : mv_S) (a c f : Nat) (x : Int32) (k : mv_S → mv_O) : mv_O := if σ.1[a]? = some (.inl c) then k (ms_i σ (mv_up σ.2.1 a f x)) else none
def mo_z (x : Int32) (k : mv_O) : mv_O := if x = 0 ∨ x = 1 then k else none
def mo_pR (σ : mv_S) (a c f : Nat) (o : Option Nat) (k : mv_S → mv_O) : mv_O := if σ.1[a]? = some (.inl c) then k (ms_r σ (mv_up σ.2.2.1 a f o)) else none
def mo_rf (o : Option Nat) (k : Nat → mv_O) : mv_O := match o with
  | some a => k a
  | none => none
def mo_nl (o : Option Nat) (t e : mv_O) : mv_O := match o with
  | none => t
  | some _ => e
def mo_ix (i : Int32) (n : Nat) (k : Nat → mv_O) : mv_O := if i < 0 ∨ n ≤ i.toNatClampNeg then none else k i.toNatClampNeg
def mo_ty (σ : mv_S) (a t : Nat) (k : Nat → mv_O) : mv_O := match σ.1[a]? with
  | some (.inr (t', n)) => if t' = t then k n else none
  | _ => none
def mo_tr (σ : mv_S) (a : Nat) (k : Nat → Nat → mv_O) : mv_O := match σ.1[a]? with
  | some (.inr (t, n)) => if 3 ≤ t ∧ t ≤ 5 then k t n else none
  | _ => none
def mo_aI (σ : mv_S) (a : Nat) (i : Int32) (k : Int32 → mv_O) : mv_O := mo_ty σ a 0 fun n => mo_ix i n fun j => k (σ.2.1 a j)
def mo_aZ (σ : mv_S) (a : Nat) (i : Int32) (k : Int32 → mv_O) : mv_O := mo_ty σ a 1 fun n => mo_ix i n fun j => k (σ.2.1 a j)
def mo_aL (σ : mv_S) (a : Nat) (i : Int32) (k : Int64 → mv_O) : mv_O := mo_ty σ a 2 fun n => mo_ix i n fun j => k (σ.2.2.2 a j)
def mo_aR (σ : mv_S) (a : Nat) (i : Int32) (k : Option Nat → mv_O) : mv_O := mo_tr σ a fun _ n => mo_ix i n fun j => k (σ.2.2.1 a j)
def mo_al (σ : mv_S) (a : Nat) (k : Int32 → mv_O) : mv_O := match σ.1[a]? with
  | some (.inr (t, n)) => if t < 6 then k (nI n) else none
  | _ => none
def mo_own (a : Nat) (k : mv_O) : mv_O := if 16 ≤ a then k else none
def mo_sI (σ : mv_S) (a : Nat) (i x : Int32) (k : mv_S → mv_O) : mv_O := mo_own a (mo_ty σ a 0 fun n => mo_ix i n fun j => k (ms_i σ (mv_up σ.2.1 a j x)))
def mo_sZ (σ : mv_S) (a : Nat) (i x : Int32) (k : mv_S → mv_O) : mv_O := mo_own a (mo_ty σ a 1 fun n => mo_ix i n fun j => mo_z x (k (ms_i σ (mv_up σ.2.1 a j x))))
def mo_sL (σ : mv_S) (a : Nat) (i : Int32) (x : Int64) (k : mv_S → mv_O) : mv_O := mo_own a (mo_ty σ a 2 fun n => mo_ix i n fun j => k (ms_l σ (mv_up σ.2.2.2 a j x)))
/-- the class of what an array of kind t holds: drawers, shelves -/
def mv_el (t : Nat) : Nat := if t = 3 then 2 else 4
def mo_sR (σ : mv_S) (a : Nat) (i : Int32) (o : Option Nat) (k : mv_S → mv_O) : mv_O := mo_own a (mo_tr σ a fun t n => if t = 5 then none else mo_ix i n fun j =>
  match o with
  | none => k (ms_r σ (mv_up σ.2.2.1 a j none))
  | some b => if σ.1[b]? = some (.inl (mv_el t)) then k (ms_r σ (mv_up σ.2.2.1 a j (some b))) else none)
/-- a new array of kind t, of n places, all 0 -/
def mv_na (σ : mv_S) (t n : Nat) : mv_S := (σ.1 ++ [.inr (t, n)], mv_uf σ.2.1 σ.1.length (fun _ => 0), mv_uf σ.2.2.1 σ.1.length (fun _ => none), mv_uf σ.2.2.2 σ.1.length (fun _ => 0))
def mo_na (σ : mv_S) (t : Nat) (i : Int32) (k : Option Nat → mv_S → mv_O) : mv_O := mo_ix i 1000 fun n => k (some σ.1.length) (mv_na σ t n)
/-- a new object of class c -/
def mv_no (σ : mv_S) (c : Nat) : mv_S := (σ.1 ++ [.inl c], mv_uf σ.2.1 σ.1.length (fun _ => 0), mv_uf σ.2.2.1 σ.1.length (fun _ => none), σ.2.2.2)
def mo_no (σ : mv_S) (c : Nat) (k : Option Nat → mv_S → mv_O) : mv_O := k (some σ.1.length) (mv_no σ c)
/-- n rows of m ints behind an outer array -/
def mv_ma (σ : mv_S) (n m : Nat) : mv_S := (σ.1 ++ (.inr (5, n) :: List.replicate n (.inr (0, m))), (fun x y => if σ.1.length ≤ x then 0 else σ.2.1 x y),
  (fun x y => if x = σ.1.length then (if y < n then some (σ.1.length + 1 + y) else none) else if σ.1.length ≤ x then none else σ.2.2.1 x y), σ.2.2.2)
def mo_ma (σ : mv_S) (n m : Int32) (k : Option Nat → mv_S → mv_O) : mv_O := mo_ix n 1000 fun n' => mo_ix m 1000 fun m' => k (some σ.1.length) (mv_ma σ n' m')
/-- System.arraycopy between int arrays -/
def mo_cp (σ : mv_S) (a : Nat) (sp : Int32) (b : Nat) (dp n : Int32) (k : mv_S → mv_O) : mv_O :=
  mo_own a (mo_own b (mo_ty σ a 0 fun na => mo_ty σ b 0 fun nb =>
    if sp < 0 ∨ dp < 0 ∨ n < 0 then none else if na < sp.toNatClampNeg + n.toNatClampNeg ∨ nb < dp.toNatClampNeg + n.toNatClampNeg then none else
      k (ms_i σ (mv_uf σ.2.1 b (va_cpy (σ.2.1 a) (σ.2.1 b) sp.toNatClampNeg dp.toNatClampNeg n.toNatClampNeg)))))
def mo_rI (o : mv_O) (k : Int32 → mv_S → mv_O) : mv_O := match o with
  | some (some (.inl x), σ) => k x σ
  | _ => none
def mo_rL (o : mv_O) (k : Int64 → mv_S → mv_O) : mv_O := match o with
  | some (some (.inr (.inl x)), σ) => k x σ
  | _ => none
def mo_rR (o : mv_O) (k : Option Nat → mv_S → mv_O) : mv_O := match o with
  | some (some (.inr (.inr x)), σ) => k x σ
  | _ => none
def mo_rV (o : mv_O) (k : mv_S → mv_O) : mv_O := match o with
  | some (none, σ) => k σ
  | _ => none
def mo_dv (y : Int32) (k : mv_O) : mv_O := if y = 0 then none else k
def mv_abs (x : Int32) : Int32 := if 0 ≤ x then x else 0 - x
def mv_max (x y : Int32) : Int32 := if x < y then y else x
def mv_min (x y : Int32) : Int32 := if y < x then y else x
def mv_lg (v : mv_V) : Bool := match v with
  | .inr (.inl _) => true
  | _ => false
def mv_put1 (lv : mv_L) (i : Nat) (v : mv_V) : mv_L := (i, v) :: lv.filter (fun q => !(q.1 == i) && !(q.1 + 1 == i && mv_lg q.2))
def mv_put2 (lv : mv_L) (i : Nat) (v : mv_V) : mv_L := (i, v) :: lv.filter (fun q => !(q.1 == i) && (!(q.1 == i + 1) && !(q.1 + 1 == i && mv_lg q.2)))
def mv_jmp (pc : Nat) (off : Int) : Nat := ((pc : Int) + off).toNat
/-- what a switch does: the pairs one behind the other -/
def mv_sw (k : Nat → mv_O) (pc : Nat) (d : Int) (x : Int32) : List (Int × Int) → mv_O
  | [] => k (mv_jmp pc d)
  | (m, o) :: r => if x = mv_c m then k (mv_jmp pc o) else mv_sw k pc d x r
def mv_pairs (lo : Int) : List Int → List (Int × Int)
  | [] => []
  | o :: r => (lo, o) :: mv_pairs (lo + 1) r
/-- a call: what comes back, by the kind of answer (0 none, 1 an int, 2 a reference, 3 a long) -/
def mv_back (c : Nat) (o : mv_O) (k : List mv_V → mv_S → mv_O) : mv_O := match c with
  | 0 => mo_rV o (fun σ => k [] σ)
  | 1 => mo_rI o (fun x σ => k [.inl x] σ)
  | 2 => mo_rR o (fun x σ => k [.inr (.inr x)] σ)
  | _ => mo_rL o (fun x σ => k [.inr (.inl x)] σ)
/-- the strings that the class's text knows, by their numbers: 1 DD; 2 N D; 3 N; 4 D; 5 DN DN; 6 none -/
def mv_str (a : Nat) : List Nat := match a with
  | 1 => [68, 68, 59]
  | 2 => [78, 32, 68, 59]
  | 3 => [78, 59]
  | 4 => [68, 59]
  | 5 => [68, 78, 32, 68, 78, 59]
  | _ => []
def mo_str (a : Nat) (k : List Nat → mv_O) : mv_O := if 1 ≤ a ∧ a ≤ 6 then k (mv_str a) else none
def mv_wd (st : List mv_V) : Nat := (st.map fun v => if mv_lg v then 2 else 1).sum
def mo_is (σ : mv_S) (a c : Nat) (k : mv_O) : mv_O := if σ.1[a]? = some (.inl c) then k else none
/-- calls by their links: kind 1 virtual, 2 static, 3 a constructor, 4 a nest mate's constructor; 5.. members of the JDK -/
def mv_call (cl : Nat → List mv_V → mv_S → mv_O) (q : mv_K) (st : List mv_V) (σ : mv_S) (k : List mv_V → mv_S → mv_O) : mv_O := match q with
  | (1, m, n, c, z) => (match st.drop n with
    | .inr (.inr o) :: r => mo_rf o fun a => mo_is σ a z.toNat (if mv_wd r ≤ 8 then mv_back c (cl m (.inr (.inr (some a)) :: (st.take n).reverse) σ) (fun v σ' => k (v ++ r) σ') else none)
    | _ => none)
  | (40, m, n, c, z) => (match st.drop n with
    | .inr (.inr o) :: r => mo_rf o fun a => mo_is σ a z.toNat (if mv_wd r ≤ 8 then mv_back c (cl m (.inr (.inr (some a)) :: (st.take n).reverse) σ) (fun v σ' => k (v ++ r) σ') else none)
    | _ => none)
  | (41, m, n, c, _) => if n ≤ st.length ∧ mv_wd (st.drop n) ≤ 8 then mv_back c (cl m (st.take n).reverse σ) (fun v σ' => k (v ++ st.drop n) σ') else none
  | (2, m, n, c, _) => if n ≤ st.length ∧ mv_wd (st.drop n) ≤ 8 then mv_back c (cl m (st.take n).reverse σ) (fun v σ' => k (v ++ st.drop n) σ') else none
  | (3, m, n, _, _) => (match st.drop n with
    | .inr (.inr o) :: r => mo_rf o fun a => if mv_wd r ≤ 8 then mo_rV (cl m (.inr (.inr (some a)) :: (st.take n).reverse) σ) (fun σ' => k r σ') else none
    | _ => none)
  | (4, m, n, _, _) => (match st.drop n with
    | .inr (.inr o) :: r => mo_rf o fun a => if mv_wd r ≤ 8 then mo_rV (cl m (.inr (.inr (some a)) :: (st.take n).reverse) σ) (fun σ' => k r σ') else none
    | _ => none)
  | (5, _, _, _, _) => (match st with
    | .inl x :: r => if mv_wd r ≤ 8 then k (.inl (mv_abs x) :: r) σ else none
    | _ => none)
  | (6, _, _, _, _) => (match st with
    | .inl y :: .inl x :: r => if mv_wd r ≤ 8 then k (.inl (mv_max x y) :: r) σ else none
    | _ => none)
  | (7, _, _, _, _) => (match st with
    | .inl y :: .inl x :: r => if mv_wd r ≤ 8 then k (.inl (mv_min x y) :: r) σ else none
    | _ => none)
  | (8, _, _, _, _) => (match st with
    | .inl n :: .inl dp :: .inr (.inr ob) :: .inl sp :: .inr (.inr oa) :: r => mo_rf oa fun a => mo_rf ob fun b => if mv_wd r ≤ 8 then mo_cp σ a sp b dp n fun σ' => k r σ' else none
    | _ => none)
  | (9, _, _, _, _) => (match st with
    | .inr (.inr o) :: r => mo_rf o fun _ => if mv_wd r ≤ 8 then k r σ else none
    | _ => none)
  | (10, _, _, _, _) => (match st with
    | .inr (.inr o) :: r => mo_rf o fun a => mo_str a fun s => if mv_wd r ≤ 8 then k (.inl (if s.length = 0 then 1 else 0) :: r) σ else none
    | _ => none)
  | (11, _, _, _, _) => (match st with
    | .inr (.inr o) :: r => mo_rf o fun a => mo_str a fun s => if mv_wd r ≤ 8 then k (.inl (nI s.length) :: r) σ else none
    | _ => none)
  | (12, _, _, _, _) => (match st with
    | .inl i :: .inr (.inr o) :: r => mo_rf o fun a => mo_str a fun s => if mv_wd r ≤ 8 then mo_ix i s.length fun j => k (.inl (nI (s.getD j 0)) :: r) σ else none
    | _ => none)
  | _ => none
/-- a cell more of which nothing is said -/
def mv_opq (σ : mv_S) (n : Nat) : mv_S := (σ.1 ++ [.inr (98, n)], σ.2.1, σ.2.2.1, σ.2.2.2)
/-- a call that may throw: it says none or a long, or which exception (1 state, 2 unsupported, 3 argument) -/
def mo_t0 (o : mv_O) (k : mv_S → mv_O) (t : Int32 → mv_S → mv_O) : mv_O := match o with
  | some (none, σ) => k σ
  | some (some (.inl x), σ) => t x σ
  | _ => none
def mo_t3 (o : mv_O) (k : Int64 → mv_S → mv_O) (t : Int32 → mv_S → mv_O) : mv_O := match o with
  | some (some (.inr (.inl y)), σ) => k y σ
  | some (some (.inl x), σ) => t x σ
  | _ => none
/-- where a caller catches: which exception, the place behind the handler's first instruction, which lays the exception into local 4 -/
def mv_hl (m : Nat) : List (Nat × Nat) := if m = 28 then [(1, 43), (2, 50), (3, 60)] else [(3, 14), (1, 18)]
def mv_drop4 (lv : mv_L) : mv_L := lv.filter (fun q => !(q.1 == 4) && !(q.1 + 1 == 4 && mv_lg q.2))
def mv_hs (x : Int32) (t : Nat → mv_O) : List (Nat × Nat) → mv_O
  | [] => none
  | (c, h) :: r => if x = nI c then t h else mv_hs x t r
def mv_try (cl : Nat → List mv_V → mv_S → mv_O) (m n c : Nat) (z : Int) (st : List mv_V) (σ : mv_S) (k : List mv_V → mv_S → mv_O) (t : Nat → mv_S → mv_O) : mv_O := match st.drop n with
  | .inr (.inr o) :: r => mo_rf o fun a => mo_is σ a z.toNat (if mv_wd r ≤ 8 then (match c with
    | 0 => mo_t0 (cl m (.inr (.inr (some a)) :: (st.take n).reverse) σ) (fun σ' => k r σ') (fun x σ' => mv_hs x (fun h => t h σ') (mv_hl m))
    | _ => mo_t3 (cl m (.inr (.inr (some a)) :: (st.take n).reverse) σ) (fun y σ' => k (.inr (.inl y) :: r) σ') (fun x σ' => mv_hs x (fun h => t h σ') (mv_hl m))) else none)
  | _ => none
/-- what an ldc puts on the stack: kind 20 a number, 21 a long, 22 a text -/
def mv_ldc (q : mv_K) (k : mv_V → mv_O) : mv_O := match q with
  | (20, _, _, _, n) => k (.inl (mv_c n))
  | (22, a, _, _, _) => k (.inr (.inr (some a)))
  | _ => none
/-- one instruction -/
def mv_step (cl : Nat → List mv_V → mv_S → mv_O) (lk : Nat → mv_K) (rt : Nat) (k : Nat → mv_L → List mv_V → mv_S → mv_O) (ins : Instr) (pc : Nat) (lv : mv_L) (st : List mv_V) (σ : mv_S) : mv_O := match ins with
  | .iconst n => k (pc + 1) lv (.inl (mv_c n) :: st) σ
  | .bipush n => k (pc + 2) lv (.inl (mv_c n) :: st) σ
  | .sipush n => k (pc + 3) lv (.inl (mv_c n) :: st) σ
  | .lconst n => k (pc + 1) lv (.inr (.inl (Int64.ofNat n)) :: st) σ
  | .aconst_null => k (pc + 1) lv (.inr (.inr none) :: st) σ
  | .ldc i => mv_ldc (lk i) fun v => k (pc + 2) lv (v :: st) σ
  | .ldc_w i => (match lk i with
    | (20, _, _, _, n) => k (pc + 3) lv (.inl (mv_c n) :: st) σ
    | _ => none)
  | .ldc2_w i => (match lk i with
    | (21, _, _, _, n) => k (pc + 3) lv (.inr (.inl (mv_cl n)) :: st) σ
    | _ => none)
  | .iload_n i => (match lv.lookup i.val with
    | some (.inl x) => k (pc + 1) lv (.inl x :: st) σ
    | _ => none)
  | .iload i => (match lv.lookup i with
    | some (.inl x) => k (pc + 2) lv (.inl x :: st) σ
    | _ => none)
  | .lload_n i => (match lv.lookup i.val with
    | some (.inr (.inl x)) => k (pc + 1) lv (.inr (.inl x) :: st) σ
    | _ => none)
  | .lload i => (match lv.lookup i with
    | some (.inr (.inl x)) => k (pc + 2) lv (.inr (.inl x) :: st) σ
    | _ => none)
  | .aload_n i => (match lv.lookup i.val with
    | some (.inr (.inr x)) => k (pc + 1) lv (.inr (.inr x) :: st) σ
    | _ => none)
  | .aload i => (match lv.lookup i with
    | some (.inr (.inr x)) => k (pc + 2) lv (.inr (.inr x) :: st) σ
    | _ => none)
  | .istore_n i => (match st with
    | .inl x :: r => k (pc + 1) (mv_put1 lv i.val (.inl x)) r σ
    | _ => none)
  | .istore i => (match st with
    | .inl x :: r => k (pc + 2) (mv_put1 lv i (.inl x)) r σ
    | _ => none)
  | .lstore i => (match st with
    | .inr (.inl x) :: r => k (pc + 2) (mv_put2 lv i (.inr (.inl x))) r σ
    | _ => none)
  | .astore_n i => (match st with
    | .inr (.inr x) :: r => k (pc + 1) (mv_put1 lv i.val (.inr (.inr x))) r σ
    | _ => none)
  | .astore i => (match st with
    | .inr (.inr x) :: r => k (pc + 2) (mv_put1 lv i (.inr (.inr x))) r σ
    | _ => none)
  | .iinc i n => (match lv.lookup i with
    | some (.inl x) => k (pc + 3) (mv_put1 lv i (.inl (x + mv_c n))) st σ
    | _ => none)
  | .iadd => (match st with
    | .inl y :: .inl x :: r => k (pc + 1) lv (.inl (x + y) :: r) σ
    | _ => none)
  | .isub => (match st with
    | .inl y :: .inl x :: r => k (pc + 1) lv (.inl (x - y) :: r) σ
    | _ => none)
  | .imul => (match st with
    | .inl y :: .inl x :: r => k (pc + 1) lv (.inl (x * y) :: r) σ
    | _ => none)
  | .iand => (match st with
    | .inl y :: .inl x :: r => k (pc + 1) lv (.inl (x &&& y) :: r) σ
    | _ => none)
  | .ior => (match st with
    | .inl y :: .inl x :: r => k (pc + 1) lv (.inl (x ||| y) :: r) σ
    | _ => none)
  | .idiv => (match st with
    | .inl y :: .inl x :: r => mo_dv y (k (pc + 1) lv (.inl (x / y) :: r) σ)
    | _ => none)
  | .irem => (match st with
    | .inl y :: .inl x :: r => mo_dv y (k (pc + 1) lv (.inl (x - x / y * y) :: r) σ)
    | _ => none)
  | .ineg => (match st with
    | .inl x :: r => k (pc + 1) lv (.inl (-x) :: r) σ
    | _ => none)
  | .ishl => (match st with
    | .inl y :: .inl x :: r => k (pc + 1) lv (.inl (x <<< (y &&& 31)) :: r) σ
    | _ => none)
  | .ishr => (match st with
    | .inl y :: .inl x :: r => k (pc + 1) lv (.inl (x >>> (y &&& 31)) :: r) σ
    | _ => none)
  | .i2l => (match st with
    | .inl x :: r => k (pc + 1) lv (.inr (.inl x.toInt64) :: r) σ
    | _ => none)
  | .i2b => (match st with
    | .inl x :: r => k (pc + 1) lv (.inl x.toInt8.toInt32 :: r) σ
    | _ => none)
  | .i2s => (match st with
    | .inl x :: r => k (pc + 1) lv (.inl x.toInt16.toInt32 :: r) σ
    | _ => none)
  | .lcmp => (match st with
    | .inr (.inl y) :: .inr (.inl x) :: r => k (pc + 1) lv (.inl (lg_cmp x y) :: r) σ
    | _ => none)
  | .dup => (match st with
    | .inl x :: r => k (pc + 1) lv (.inl x :: .inl x :: r) σ
    | .inr (.inr x) :: r => k (pc + 1) lv (.inr (.inr x) :: .inr (.inr x) :: r) σ
    | _ => none)
  | .dup2 => (match st with
    | .inl x :: .inr (.inr y) :: r => k (pc + 1) lv (.inl x :: .inr (.inr y) :: .inl x :: .inr (.inr y) :: r) σ
    | _ => none)
  | .pop => (match st with
    | .inl _ :: r => k (pc + 1) lv r σ
    | .inr (.inr _) :: r => k (pc + 1) lv r σ
    | _ => none)
  | .goto off => k (mv_jmp pc off) lv st σ
  | .ifCond .eq off => (match st with
    | .inl x :: r => if x = 0 then k (mv_jmp pc off) lv r σ else k (pc + 3) lv r σ
    | _ => none)
  | .ifCond .ne off => (match st with
    | .inl x :: r => if x = 0 then k (pc + 3) lv r σ else k (mv_jmp pc off) lv r σ
    | _ => none)
  | .ifCond .lt off => (match st with
    | .inl x :: r => if x < 0 then k (mv_jmp pc off) lv r σ else k (pc + 3) lv r σ
    | _ => none)
  | .ifCond .ge off => (match st with
    | .inl x :: r => if 0 ≤ x then k (mv_jmp pc off) lv r σ else k (pc + 3) lv r σ
    | _ => none)
  | .ifCond .gt off => (match st with
    | .inl x :: r => if 0 < x then k (mv_jmp pc off) lv r σ else k (pc + 3) lv r σ
    | _ => none)
  | .ifCond .le off => (match st with
    | .inl x :: r => if x ≤ 0 then k (mv_jmp pc off) lv r σ else k (pc + 3) lv r σ
    | _ => none)
  | .if_icmp .eq off => (match st with
    | .inl y :: .inl x :: r => if x = y then k (mv_jmp pc off) lv r σ else k (pc + 3) lv r σ
    | _ => none)
  | .if_icmp .ne off => (match st with
    | .inl y :: .inl x :: r => if x = y then k (pc + 3) lv r σ else k (mv_jmp pc off) lv r σ
    | _ => none)
  | .if_icmp .lt off => (match st with
    | .inl y :: .inl x :: r => if x < y then k (mv_jmp pc off) lv r σ else k (pc + 3) lv r σ
    | _ => none)
  | .if_icmp .ge off => (match st with
    | .inl y :: .inl x :: r => if y ≤ x then k (mv_jmp pc off) lv r σ else k (pc + 3) lv r σ
    | _ => none)
  | .if_icmp .gt off => (match st with
    | .inl y :: .inl x :: r => if y < x then k (mv_jmp pc off) lv r σ else k (pc + 3) lv r σ
    | _ => none)
  | .if_icmp .le off => (match st with
    | .inl y :: .inl x :: r => if x ≤ y then k (mv_jmp pc off) lv r σ else k (pc + 3) lv r σ
    | _ => none)
  | .ifnull off => (match st with
    | .inr (.inr o) :: r => mo_nl o (k (mv_jmp pc off) lv r σ) (k (pc + 3) lv r σ)
    | _ => none)
  | .ifnonnull off => (match st with
    | .inr (.inr o) :: r => mo_nl o (k (pc + 3) lv r σ) (k (mv_jmp pc off) lv r σ)
    | _ => none)
  | .tableswitch d lo _ offs => (match st with
    | .inl x :: r => mv_sw (fun t => k t lv r σ) pc d x (mv_pairs lo offs.toList)
    | _ => none)
  | .lookupswitch d ps => (match st with
    | .inl x :: r => mv_sw (fun t => k t lv r σ) pc d x ps.toList
    | _ => none)
  | .getfield i => (match st with
    | .inr (.inr o) :: r => (match lk i with
      | (0, c, f, 0, _) => mo_rf o fun a => mo_gI σ a c f fun x => k (pc + 3) lv (.inl x :: r) σ
      | (0, c, f, 1, _) => mo_rf o fun a => mo_gI σ a c f fun x => k (pc + 3) lv (.inl x :: r) σ
      | (0, c, f, 2, _) => mo_rf o fun a => mo_gR σ a c f fun x => k (pc + 3) lv (.inr (.inr x) :: r) σ
      | _ => none)
    | _ => none)
  | .putfield i => (match lk i with
    | (0, c, f, 0, _) => (match st with
      | .inl x :: .inr (.inr o) :: r => mo_rf o fun a => mo_pI σ a c f x fun σ' => k (pc + 3) lv r σ'
      | _ => none)
    | (0, c, f, 1, _) => (match st with
      | .inl x :: .inr (.inr o) :: r => mo_rf o fun a => mo_z x (mo_pI σ a c f x fun σ' => k (pc + 3) lv r σ')
      | _ => none)
    | (0, c, f, 2, _) => (match st with
      | .inr (.inr x) :: .inr (.inr o) :: r => mo_rf o fun a => mo_pR σ a c f x fun σ' => k (pc + 3) lv r σ'
      | _ => none)
    | _ => none)
  | .iaload => (match st with
    | .inl i :: .inr (.inr o) :: r => mo_rf o fun a => mo_aI σ a i fun x => k (pc + 1) lv (.inl x :: r) σ
    | _ => none)
  | .baload => (match st with
    | .inl i :: .inr (.inr o) :: r => mo_rf o fun a => mo_aZ σ a i fun x => k (pc + 1) lv (.inl x :: r) σ
    | _ => none)
  | .laload => (match st with
    | .inl i :: .inr (.inr o) :: r => mo_rf o fun a => mo_aL σ a i fun x => k (pc + 1) lv (.inr (.inl x) :: r) σ
    | _ => none)
  | .aaload => (match st with
    | .inl i :: .inr (.inr o) :: r => mo_rf o fun a => mo_aR σ a i fun x => k (pc + 1) lv (.inr (.inr x) :: r) σ
    | _ => none)
  | .iastore => (match st with
    | .inl x :: .inl i :: .inr (.inr o) :: r => mo_rf o fun a => mo_sI σ a i x fun σ' => k (pc + 1) lv r σ'
    | _ => none)
  | .bastore => (match st with
    | .inl x :: .inl i :: .inr (.inr o) :: r => mo_rf o fun a => mo_sZ σ a i x fun σ' => k (pc + 1) lv r σ'
    | _ => none)
  | .lastore => (match st with
    | .inr (.inl x) :: .inl i :: .inr (.inr o) :: r => mo_rf o fun a => mo_sL σ a i x fun σ' => k (pc + 1) lv r σ'
    | _ => none)
  | .aastore => (match st with
    | .inr (.inr x) :: .inl i :: .inr (.inr o) :: r => mo_rf o fun a => mo_sR σ a i x fun σ' => k (pc + 1) lv r σ'
    | _ => none)
  | .arraylength => (match st with
    | .inr (.inr o) :: r => mo_rf o fun a => mo_al σ a fun x => k (pc + 1) lv (.inl x :: r) σ
    | _ => none)
  | .newarray .int => (match st with
    | .inl n :: r => mo_na σ 0 n fun o σ' => k (pc + 2) lv (.inr (.inr o) :: r) σ'
    | _ => none)
  | .newarray .boolean => (match st with
    | .inl n :: r => mo_na σ 1 n fun o σ' => k (pc + 2) lv (.inr (.inr o) :: r) σ'
    | _ => none)
  | .newarray .long => (match st with
    | .inl n :: r => mo_na σ 2 n fun o σ' => k (pc + 2) lv (.inr (.inr o) :: r) σ'
    | _ => none)
  | .anewarray i => (match lk i with
    | (32, c, _, _, _) => (match st with
      | .inl n :: r => mo_na σ (if c = 2 then 3 else 4) n fun o σ' => k (pc + 3) lv (.inr (.inr o) :: r) σ'
      | _ => none)
    | _ => none)
  | .multianewarray i _ => (match lk i with
    | (31, _, _, _, _) => (match st with
      | .inl m :: .inl n :: r => mo_ma σ n m fun o σ' => k (pc + 4) lv (.inr (.inr o) :: r) σ'
      | _ => none)
    | _ => none)
  | .new i => (match lk i with
    | (32, c, _, _, _) => mo_no σ c fun o σ' => k (pc + 3) lv (.inr (.inr o) :: st) σ'
    | (33, x, n, _, _) => (match st with
      | [] => some (some (.inl (nI x)), mv_opq σ n)
      | _ => none)
    | _ => none)
  | .invokevirtual i => (match lk i with
    | (42, m, n, c, z) => mv_try cl m n c z st σ (fun st' σ' => k (pc + 3) lv st' σ') (fun h σ' => k h (mv_drop4 lv) [] σ')
    | q => mv_call cl q st σ fun st' σ' => k (pc + 3) lv st' σ')
  | .invokestatic i => mv_call cl (lk i) st σ fun st' σ' => k (pc + 3) lv st' σ'
  | .invokespecial i => mv_call cl (lk i) st σ fun st' σ' => k (pc + 3) lv st' σ'
  | .ireturn => (match st with
    | [.inl x] => if rt = 0 then some (some (.inl x), σ) else if rt = 1 then mo_z x (some (some (.inl x), σ)) else none
    | _ => none)
  | .areturn => (match st with
    | [.inr (.inr x)] => if rt = 2 then some (some (.inr (.inr x)), σ) else none
    | _ => none)
  | .lreturn => (match st with
    | [.inr (.inl x)] => if rt = 3 then some (some (.inr (.inl x)), σ) else none
    | _ => none)
  | .return_ => (match st with
    | [] => if rt = 4 then some (none, σ) else none
    | _ => none)
  | _ => none
/-- the listed locals alone, in the list's order -/
def mv_pick (lv : mv_L) (ks : List Nat) : mv_L := ks.filterMap fun i => (lv.lookup i).map fun v => (i, v)
/-- a method: its number of locals, the kind of its answer, its code, its class's links, where its walk is cut -/
abbrev mv_M : Type := Nat × Nat × List (Nat × Instr × Nat) × List (Nat × mv_K) × List (Nat × List Nat)
def mv_lk (l : List (Nat × mv_K)) (i : Nat) : mv_K := (l.lookup i).getD (99, 0, 0, 0, 0)
/-- a stretch: to the method's end or the next cut -/
def mv_ev (cl : Nat → List mv_V → mv_S → mv_O) (M : mv_M) (K : Nat → mv_L → List mv_V → mv_S → mv_O) : Nat → Nat → mv_L → List mv_V → mv_S → mv_O
  | 0, _, _, _, _ => none
  | n + 1, pc, lv, st, σ => match M.2.2.1.lookup pc with
    | none => none
    | some (ins, _) => mv_step cl (mv_lk M.2.2.2.1) M.2.1 (fun pc' lv' st' σ' => match M.2.2.2.2.lookup pc' with
      | some ks => K pc' (mv_pick lv' ks) st' σ'
      | none => mv_ev cl M K n pc' lv' st' σ') ins pc lv st σ
/-- a method's walk from a cut on -/
def mv_run (cl : Nat → List mv_V → mv_S → mv_O) (M : mv_M) : Nat → Nat → mv_L → List mv_V → mv_S → mv_O
  | 0, _, _, _, _ => none
  | n + 1, pc, lv, st, σ => mv_ev cl M (mv_run cl M n) 900 pc lv st σ
def mv_args : Nat → List mv_V → mv_L
  | _, [] => []
  | i, v :: r => (i, v) :: mv_args (if mv_lg v then i + 2 else i + 1) r
