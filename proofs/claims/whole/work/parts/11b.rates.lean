/-! ===== CLASS AND MODEL: rates ===== -/
section Re2
variable {d i k g s l t q n : Nat} {v w a b c e f x y : Int32}
def pC (S : zS) (k : Nat) (t : Nat) (a b : Int32) : Prop := ∃ i, i < t ∧ z_I S 12 k i = a ∧ z_I S 13 k i = b
def pM (r : Nat → Int32) (k : Nat) (t : Nat) (a b : Int32) : Prop := ∃ j, j < t ∧ r (66 + 29 * k + 3 + 2 * j) = a ∧ r (66 + 29 * k + 3 + 2 * j + 1) = b
-- the rate on a day: of the latest day told that is not behind it
def isRt (P : Int32 → Int32 → Prop) (x y : Int32) : Prop := (∃ a, P a y ∧ a ≤ x ∧ ∀ a' b', P a' b' → a' ≤ x → a' ≤ a) ∨ ((∀ a b, P a b → ¬ a ≤ x) ∧ y = 0)
def isFn (P : Int32 → Int32 → Prop) : Prop := ∀ a b b', P a b → P a b' → b = b'
theorem isRt_u {P : Int32 → Int32 → Prop} (hf : isFn P) (h : isRt P x y) (h' : isRt P x w) : y = w := by
  rcases h with ⟨a, p, l, g⟩ | ⟨g, e⟩
  · rcases h' with ⟨a', p', l', g'⟩ | ⟨g', -⟩
    · have e : a = a' := Int32.le_antisymm (g' _ _ p l) (g _ _ p' l')
      subst e
      exact hf _ _ _ p p'
    · exact absurd l (g' _ _ p)
  · rcases h' with ⟨a', p', l', -⟩ | ⟨-, e'⟩
    · exact absurd l' (g _ _ p')
    · rw [e, e']
def cSrt (S : zS) (k t : Nat) : Prop := ∀ i j, i < j → j < t → z_I S 12 k i < z_I S 12 k j
theorem cSrt.fn {S : zS} (h : cSrt S k t) : isFn (pC S k t) := by
  rintro a b b' ⟨i, hi, e1, e2⟩ ⟨j, hj, e3, e4⟩
  rcases Nat.lt_trichotomy i j with z | z | z
  · have := h i j z hj
    rw [e1, e3] at this
    exact (Int32.lt_irrefl this).elim
  · subst z; rw [← e2, ← e4]
  · have := h j i z hi
    rw [e1, e3] at this
    exact (Int32.lt_irrefl this).elim
theorem cRateGo_is {S : zS} (hs : cSrt S k t) : ∀ (n i : Nat) (a : Int32), i + n = t → (∀ j, j < i → z_I S 12 k j ≤ x) → ((i = 0 ∧ a = 0) ∨ (0 < i ∧ a = z_I S 13 k (i - 1))) → isRt (pC S k t) x (cRateGo S k x n i a) := by
  intro n
  induction n with
  | zero =>
    intro i a hi hl ha
    show isRt _ x a
    have e : i = t := by omega
    subst e
    rcases ha with ⟨h0, h1⟩ | ⟨h0, h1⟩
    · subst h0
      exact .inr ⟨fun a b p => by obtain ⟨j, hj, -⟩ := p; omega, h1⟩
    · refine .inl ⟨z_I S 12 k (i - 1), ⟨i - 1, by omega, rfl, h1.symm⟩, hl _ (by omega), ?_⟩
      rintro a' b' ⟨j, hj, e1, -⟩ -
      rw [← e1]
      rcases Nat.lt_or_ge j (i - 1) with z | z
      · exact Int32.le_of_lt (hs j (i - 1) z (by omega))
      · rw [show j = i - 1 by omega]; exact Int32.le_refl _
  | succ n ih =>
    intro i a hi hl ha
    unfold cRateGo
    by_cases q : x < z_I S 12 k i
    · rw [if_pos q]
      rcases ha with ⟨h0, h1⟩ | ⟨h0, h1⟩
      · subst h0
        refine .inr ⟨?_, h1⟩
        rintro a b ⟨j, hj, e1, -⟩ z
        rw [← e1] at z
        rcases Nat.eq_zero_or_pos j with w | w
        · subst w; exact absurd z (Int32.not_le.mpr q)
        · exact absurd z (Int32.not_le.mpr (Int32.lt_trans q (hs 0 j w hj)))
      · refine .inl ⟨z_I S 12 k (i - 1), ⟨i - 1, by omega, rfl, h1.symm⟩, hl _ (by omega), ?_⟩
        rintro a' b' ⟨j, hj, e1, -⟩ z
        rw [← e1] at z ⊢
        rcases Nat.lt_or_ge j i with w | w
        · rcases Nat.lt_or_ge j (i - 1) with u | u
          · exact Int32.le_of_lt (hs j (i - 1) u (by omega))
          · rw [show j = i - 1 by omega]; exact Int32.le_refl _
        · refine absurd z (Int32.not_le.mpr ?_)
          rcases Nat.eq_or_lt_of_le w with u | u
          · rw [← u]; exact q
          · exact Int32.lt_trans q (hs i j u hj)
    · rw [if_neg q]
      refine ih (i + 1) _ (by omega) (fun j hj => ?_) (.inr ⟨by omega, by rw [Nat.add_sub_cancel]⟩)
      rcases Nat.lt_or_ge j i with w | w
      · exact hl j w
      · rw [show j = i by omega]; exact Int32.not_lt.mp q
theorem cRate_is {S : zS} (hs : cSrt S k (cTold S k)) : isRt (pC S k (cTold S k)) x (cRate S k x) := cRateGo_is hs _ 0 0 (by omega) (fun j hj => absurd hj (Nat.not_lt_zero _)) (.inl ⟨rfl, rfl⟩)
end Re2
