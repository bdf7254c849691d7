/-! ===== CLASS AND MODEL: the model's rates, both alike ===== -/
section Re3
variable {d i k g s l t q n : Nat} {v w a b c e f x y : Int32}
theorem mRtS_is {M : zS} (h0 : ∀ j, j < t → 0 ≤ z_I M 22 0 (66 + 29 * k + 3 + 2 * j)) : ∀ (n i : Nat) (p : Int32 × Int32), i + n = t → ((p = (-1, 0) ∧ ∀ j, j < i → ¬ z_I M 22 0 (66 + 29 * k + 3 + 2 * j) ≤ x) ∨ (∃ j, j < i ∧ p = (z_I M 22 0 (66 + 29 * k + 3 + 2 * j), z_I M 22 0 (66 + 29 * k + 3 + 2 * j + 1)) ∧ p.1 ≤ x ∧ ∀ j', j' < i → z_I M 22 0 (66 + 29 * k + 3 + 2 * j') ≤ x → z_I M 22 0 (66 + 29 * k + 3 + 2 * j') ≤ p.1)) → isRt (pM (rR M) k t) x (z_it (mRtS M k x) n i p).2 := by
  intro n
  induction n with
  | zero =>
    intro i p hi h
    have e : i = t := by omega
    subst e
    show isRt _ x p.2
    rcases h with ⟨h1, h2⟩ | ⟨j, hj, h1, h2, h3⟩
    · refine .inr ⟨?_, by rw [h1]⟩
      rintro a b ⟨j, hj, e1, -⟩
      rw [← e1]; exact h2 j hj
    · refine .inl ⟨p.1, ⟨j, hj, by rw [h1]; rfl, by rw [h1]; rfl⟩, h2, ?_⟩
      rintro a' b' ⟨j', hj', e1, -⟩ z
      rw [← e1] at z ⊢
      exact h3 j' hj' z
  | succ n ih =>
    intro i p hi h
    show isRt _ x (z_it (mRtS M k x) n (i + 1) (mRtS M k x i p)).2
    refine ih (i + 1) _ (by omega) ?_
    unfold mRtS
    by_cases q : x < z_I M 22 0 (66 + 29 * k + 3 + 2 * i)
    · rw [if_neg fun z => z.1 q]
      have qn := Int32.not_le.mpr q
      rcases h with ⟨h1, h2⟩ | ⟨j, hj, h1, h2, h3⟩
      · refine .inl ⟨h1, fun j hj => ?_⟩
        rcases Nat.lt_or_ge j i with u | u
        · exact h2 j u
        · rw [show j = i by omega]; exact qn
      · refine .inr ⟨j, by omega, h1, h2, fun j' hj' z => ?_⟩
        rcases Nat.lt_or_ge j' i with u | u
        · exact h3 j' u z
        · rw [show j' = i by omega] at z; exact absurd z qn
    · have ql := Int32.not_lt.mp q
      by_cases q2 : z_I M 22 0 (66 + 29 * k + 3 + 2 * i) ≤ p.1
      · rw [if_neg fun z => z.2 q2]
        rcases h with ⟨h1, h2⟩ | ⟨j, hj, h1, h2, h3⟩
        · rw [h1] at q2
          have := Int32.le_trans (h0 i (by omega)) q2
          exact absurd this (by decide)
        · refine .inr ⟨j, by omega, h1, h2, fun j' hj' z => ?_⟩
          rcases Nat.lt_or_ge j' i with u | u
          · exact h3 j' u z
          · rw [show j' = i by omega]; exact q2
      · rw [if_pos ⟨q, q2⟩]
        have q3 := Int32.not_le.mp q2
        refine .inr ⟨i, by omega, rfl, ql, fun j' hj' z => ?_⟩
        show _ ≤ z_I M 22 0 (66 + 29 * k + 3 + 2 * i)
        rcases Nat.lt_or_ge j' i with u | u
        · rcases h with ⟨h1, h2⟩ | ⟨j, hj, h1, h2, h3⟩
          · exact absurd z (h2 j' u)
          · exact Int32.le_of_lt (Int32.lt_of_le_of_lt (h3 j' u z) q3)
        · rw [show j' = i by omega]; exact Int32.le_refl _
theorem mRate_is {M : zS} (h0 : ∀ j, j < (z_I M 22 0 (66 + 29 * k)).toNatClampNeg → 0 ≤ z_I M 22 0 (66 + 29 * k + 3 + 2 * j)) : isRt (pM (rR M) k (z_I M 22 0 (66 + 29 * k)).toNatClampNeg) x (mRate M k x) := mRtS_is h0 _ 0 (-1, 0) (by omega) (.inl ⟨rfl, fun j hj => absurd hj (Nat.not_lt_zero _)⟩)
-- the rates of a kind, both sides
def rRt (S : zS) (r : Nat → Int32) (k : Nat) : Prop := r (66 + 29 * k) = z_I S 2 k 2 ∧ cSrt S k (cTold S k) ∧ (∀ i, i < cTold S k → 0 ≤ z_I S 12 k i) ∧ ∀ a b, pC S k (cTold S k) a b ↔ pM r k (cTold S k) a b
theorem rRt.told {S M : zS} (h : rRt S (rR M) k) : (z_I M 22 0 (66 + 29 * k)).toNatClampNeg = cTold S k := congrArg Int32.toNatClampNeg h.1
theorem rRt.day0 {S M : zS} (h : rRt S (rR M) k) : ∀ j, j < (z_I M 22 0 (66 + 29 * k)).toNatClampNeg → 0 ≤ z_I M 22 0 (66 + 29 * k + 3 + 2 * j) := fun j hj => by
  rw [h.told] at hj
  obtain ⟨i, hi, e, -⟩ := (h.2.2.2 _ _).mpr ⟨j, hj, rfl, rfl⟩
  have := h.2.2.1 i hi
  rw [e] at this
  exact this
theorem rRt.rate {S M : zS} (h : rRt S (rR M) k) : mRate M k x = cRate S k x := by
  have h1 := mRate_is (M := M) (k := k) (x := x) h.day0
  have h2 := cRate_is (S := S) (k := k) (x := x) h.2.1
  rw [h.told] at h1
  have e : pM (rR M) k (cTold S k) = pC S k (cTold S k) := funext fun a => funext fun b => propext (h.2.2.2 a b).symm
  rw [e] at h1
  exact isRt_u h.2.1.fn h1 h2
end Re3
