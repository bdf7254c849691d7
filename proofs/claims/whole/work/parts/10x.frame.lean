/-! ===== THE MODEL: what its acts leave alone ===== -/
section Mo24
variable {d r i k g s l t q : Nat} {m : zM} {Q : zQ} {v w a b c e f x y : Int32}
def mFrm (M N : zS) : Prop := (∀ k i f, k ≠ 22 → k ≠ 32 → ¬ (k = 6 ∧ f = 15) → z_I N k i f = z_I M k i f) ∧ ∀ k i f, k ≠ 23 → z_J N k i f = z_J M k i f
theorem mFrm.rf {M : zS} : mFrm M M := ⟨fun _ _ _ _ _ _ => rfl, fun _ _ _ _ => rfl⟩
theorem mFrm.tr {M N P : zS} (h : mFrm M N) (g : mFrm N P) : mFrm M P := ⟨fun k i f a b c => (g.1 k i f a b c).trans (h.1 k i f a b c), fun k i f a => (g.2 k i f a).trans (h.2 k i f a)⟩
theorem mFrm.u22 {M : zS} {i f : Nat} : mFrm M (z_uI M 22 i f v) := ⟨fun _ _ _ h _ _ => z_I_o h, fun _ _ _ _ => z_J_uI ..⟩
theorem mFrm.u32 {M : zS} {i f : Nat} : mFrm M (z_uI M 32 i f v) := ⟨fun _ _ _ _ h _ => z_I_o h, fun _ _ _ _ => z_J_uI ..⟩
theorem mFrm.u15 {M : zS} {i : Nat} : mFrm M (z_uI M 6 i 15 v) := ⟨fun _ _ _ _ _ h => by rw [z_I_u, if_neg fun q => h ⟨q.1, q.2.2⟩], fun _ _ _ _ => z_J_uI ..⟩
theorem mFrm.uJ {M : zS} {i f : Nat} {p : Int64} : mFrm M (z_uJ M 23 i f p) := ⟨fun _ _ _ _ _ _ => z_I_uJ .., fun _ _ _ h => by rw [z_J_u, if_neg fun q => h q.1]⟩
theorem mFrm.it {α : Type} {F : Nat → α → α} {π : α → zS} (h : ∀ j p, mFrm (π p) (π (F j p))) : ∀ (n i : Nat) (p : α), mFrm (π p) (π (z_it F n i p))
  | 0, _, _ => .rf
  | n + 1, i, p => .tr (h i p) (mFrm.it h n (i + 1) (F i p))
theorem mFrm.hold {M : zS} : mFrm M (mHold M l s a) := by
  have h : ∀ j (p : Int32 × zS), mFrm p.2 (mHoS l s j p).2 := fun j p => by
    unfold mHoS
    split
    · exact .rf
    · split
      · exact .rf
      · exact .tr .u22 .u22
  exact .tr (mFrm.it (π := fun p : Int32 × zS => p.2) h 3 0 (a, M)) .uJ
theorem mFrm.l2 : ∀ (n i z : Nat) (M : zS), mFrm M (mL2 s n i z M)
  | 0, _, _, _ => .rf
  | n + 1, i, z, M => by
    unfold mL2
    split
    · exact .rf
    · split
      · exact .tr .u32 (mFrm.l2 n _ _ _)
      · exact mFrm.l2 n _ _ _
theorem mFrm.line {M : zS} : mFrm M (mLine M s) := by
  have h : ∀ j (p : Nat × zS), mFrm p.2 (mL1S s j p).2 := fun j p => by
    unfold mL1S
    split
    · exact .rf
    · exact .u32
  exact .tr (mFrm.it (π := fun p : Nat × zS => p.2) h 3 0 (0, M)) (mFrm.l2 _ _ _ _)
theorem mFrm.reS {o : Option Nat} {p : Int32 × zS} : mFrm p.2 (mReS l o k p).2 := by
  cases o with
  | none => exact .tr .u22 .u22
  | some n => exact .tr .u22 .u22
theorem mFrm.reG {o : Option Nat} : ∀ (n : Nat) (p : Int32 × zS), mFrm p.2 (mReG l o n p).2
  | 0, _ => .rf
  | n + 1, p => .tr .reS (mFrm.reG n _)
theorem mFrm.rel {M : zS} {o : Option Nat} : mFrm M (mRel M l s o a) := .tr (.tr .line (mFrm.reG 4 (a, mLine M s))) .uJ
theorem mFrm.owes {M : zS} : mFrm M (mOwes M g v) := .tr .u22 .uJ
theorem mFrm.due {M : zS} : mFrm M (mDue M l s a) := by
  have h : ∀ j (p : Int32 × zS), mFrm p.2 (mDuS l j p).2 := fun j p => .tr (.tr .u22 .u22) .owes
  exact .tr .line (mFrm.it (π := fun p : Int32 × zS => p.2) h 4 0 (a, mLine M s))
theorem mFrm.adj {M : zS} : mFrm M (mAdj M l s).2 := by
  unfold mAdj
  split
  · split
    · exact .rf
    · split
      · exact .hold
      · exact .rf
  · exact .rel
theorem mFrm.comes {M : zS} : mFrm M (mComes M l s v) := .tr (.tr .u22 .u22) .adj
theorem mFrm.ends {M : zS} : mFrm M (mEnds M l s x y v) := .tr (.tr (.tr (.tr (.tr .u22 .u22) .u22) .due) .rel) .u22
theorem mFrm.go {M : zS} : mFrm M (mGo M l) := .tr (.tr .hold .u22) .u22
theorem mFrm.tuL {ρ : Nat} : ∀ (n i : Nat) (b : Bool) (M : zS), mFrm M (mTuL ρ n i b M).2
  | 0, _, _, _ => .rf
  | n + 1, i, b, M => by
    unfold mTuL
    split
    · exact .rf
    · split
      · split
        · exact .tr .go (mFrm.tuL n _ _ _)
        · exact mFrm.tuL n _ _ _
      · exact mFrm.tuL n _ _ _
theorem mFrm.tuR : ∀ (n ρ : Nat) (b : Bool) (M : zS), mFrm M (mTuR n ρ b M)
  | 0, _, _, _ => .rf
  | n + 1, ρ, b, M => .tr (mFrm.tuL _ _ _ _) (mFrm.tuR n _ _ _)
theorem mFrm.turns {M : zS} : mFrm M (mTurns M) := mFrm.tuR 10 0 false M
theorem mFrm.daL : ∀ (n i : Nat) (M : zS), mFrm M (mDaL n i M)
  | 0, _, _ => .rf
  | n + 1, i, M => by
    unfold mDaL
    split
    · exact .tr (.tr .ends .u15) (mFrm.daL n _ _)
    · exact mFrm.daL n _ _
theorem mFrm.day {M : zS} : mFrm M (mDay M) := .tr .u22 (.tr (mFrm.daL _ _ _) .turns)
theorem mFrm.daysG : ∀ (n : Nat) (M : zS), mFrm M (mDaysG n M)
  | 0, _ => .rf
  | n + 1, M => .tr .day (mFrm.daysG n _)
theorem mFrm.days {M : zS} : mFrm M (mDays M t) := .tr .u15 (mFrm.daysG _ _)
theorem mFrm.aaG : ∀ (n i : Nat) (b : Bool) (M : zS), mFrm M (mAaG v n i b M).2
  | 0, _, _, _ => .rf
  | n + 1, i, b, M => by
    unfold mAaG
    split
    · split
      · exact .tr .adj (mFrm.aaG n _ _ _)
      · exact mFrm.aaG n _ _ _
    · exact .rf
theorem mFrm.all {M : zS} : mFrm M (mAll M v).2 := mFrm.aaG _ _ _ _
theorem mFrm.layO {M : zS} : mFrm M (mLayO M s a b c) := by
  have h : ∀ j (p : Nat × zS), mFrm p.2 (mLoS s a b c j p).2 := fun j p => by
    unfold mLoS
    split
    · exact .u22
    · exact .tr .u22 .u22
  exact mFrm.it (π := fun p : Nat × zS => p.2) h 3 0 (0, M)
theorem mSk.aaG : ∀ (n i : Nat) (b : Bool) (M : zS), i + n = mN M → mBok M → mSk M (mAaG v n i b M).2
  | 0, _, _, _, _, _ => .rf
  | n + 1, i, b, M, hi, hB => by
    have hi : i + (n + 1) = (z_I M 22 0 3).toNatClampNeg := hi
    unfold mAaG
    split
    · split
      · have h4 := mSk.adj (hB.2 i (by omega))
        exact .tr h4 (mSk.aaG n _ _ _ (by show i + 1 + n = (z_I _ 22 0 3).toNatClampNeg; rw [h4.n3]; omega) (h4.bok hB))
      · exact mSk.aaG n _ _ _ (by show i + 1 + n = (z_I M 22 0 3).toNatClampNeg; omega) hB
    · exact .rf
theorem mSk.all {M : zS} (hB : mBok M) : mSk M (mAll M v).2 := mSk.aaG _ _ _ _ (Nat.zero_add _) hB
end Mo24
