/-! the law's code, in pieces -/
theorem mw_okI_nm {ths : List Nat} {ct : Option Nat} {own nm nm' : String} {nL pc len : Nat} {lk : Nat → mv_K} {ins : Instr} (h : mw_okI ths ct own nm nL lk pc ins len = true) (hp : ∀ i, ins ≠ .putfield i) : mw_okI ths ct own nm' nL lk pc ins len = true := by
  cases ins with
  | putfield i => exact absurd rfl (hp i)
  | _ => exact h
def mw_q1 (q : Nat × Instr × Nat) : Prop := decode code q.1 = .ok (q.2.1, q.2.2) ∧ mw_okI [] none RL "" 8 (mv_lk lk_RL) q.1 q.2.1 q.2.2 = true
theorem mw_lawC0 : ∀ q ∈ (mc_219.drop 0).take 42, mw_q1 q := by
  unfold mw_q1
  decide +kernel
theorem mw_lawC1 : ∀ q ∈ (mc_219.drop 42).take 42, mw_q1 q := by
  unfold mw_q1
  decide +kernel
theorem mw_lawC2 : ∀ q ∈ (mc_219.drop 84).take 42, mw_q1 q := by
  unfold mw_q1
  decide +kernel
theorem mw_lawC3 : ∀ q ∈ (mc_219.drop 126).take 42, mw_q1 q := by
  unfold mw_q1
  decide +kernel
theorem mw_lawC4 : ∀ q ∈ (mc_219.drop 168).take 42, mw_q1 q := by
  unfold mw_q1
  decide +kernel
theorem mw_lawC5 : ∀ q ∈ (mc_219.drop 210).take 42, mw_q1 q := by
  unfold mw_q1
  decide +kernel
theorem mw_lawC6 : ∀ q ∈ (mc_219.drop 252).take 42, mw_q1 q := by
  unfold mw_q1
  decide +kernel
theorem mw_lawC7 : ∀ q ∈ (mc_219.drop 294).take 42, mw_q1 q := by
  unfold mw_q1
  decide +kernel
theorem mw_lawC8 : ∀ q ∈ (mc_219.drop 336).take 42, mw_q1 q := by
  unfold mw_q1
  decide +kernel
theorem mw_lawC9 : ∀ q ∈ (mc_219.drop 378).take 42, mw_q1 q := by
  unfold mw_q1
  decide +kernel
theorem mw_lawC10 : ∀ q ∈ (mc_219.drop 420).take 42, mw_q1 q := by
  unfold mw_q1
  decide +kernel
theorem mw_lawC11 : ∀ q ∈ (mc_219.drop 462).take 42, mw_q1 q := by
  unfold mw_q1
  decide +kernel
theorem mw_lawC12 : ∀ q ∈ (mc_219.drop 504).take 42, mw_q1 q := by
  unfold mw_q1
  decide +kernel
theorem mw_lawC13 : ∀ q ∈ (mc_219.drop 546).take 42, mw_q1 q := by
  unfold mw_q1
  decide +kernel
theorem mw_lawC14 : ∀ q ∈ (mc_219.drop 588).take 42, mw_q1 q := by
  unfold mw_q1
  decide +kernel
theorem mw_lawC15 : ∀ q ∈ (mc_219.drop 630).take 42, mw_q1 q := by
  unfold mw_q1
  decide +kernel
theorem mw_lawC16 : ∀ q ∈ (mc_219.drop 672).take 42, mw_q1 q := by
  unfold mw_q1
  decide +kernel
theorem mw_lawC17 : ∀ q ∈ (mc_219.drop 714).take 42, mw_q1 q := by
  unfold mw_q1
  decide +kernel
theorem mw_lawC18 : ∀ q ∈ (mc_219.drop 756).take 42, mw_q1 q := by
  unfold mw_q1
  decide +kernel
theorem mw_lawC19 : ∀ q ∈ (mc_219.drop 798).take 42, mw_q1 q := by
  unfold mw_q1
  decide +kernel
