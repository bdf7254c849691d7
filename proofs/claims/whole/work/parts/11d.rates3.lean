/-! ===== CLASS AND MODEL: the greatest rates ===== -/
section Re4
variable {d i k g s l t q n p : Nat} {v w a b c e f x y z ρ : Int32}
def isGr (P : Int32 → Int32 → Prop) (ρ x y z : Int32) : Prop := ρ ≤ z ∧ (∀ a b, P a b → x < a → a ≤ y → b ≤ z) ∧ (z = ρ ∨ ∃ a, P a z ∧ x < a ∧ a ≤ y)
theorem isGr_u {P : Int32 → Int32 → Prop} (h : isGr P ρ x y z) (h' : isGr P ρ x y w) : z = w := by
  obtain ⟨h1, h2, h3⟩ := h
  obtain ⟨g1, g2, g3⟩ := h'
  apply Int32.le_antisymm
  · rcases h3 with e | ⟨a, pa, l1, l2⟩
    · rw [e]; exact g1
    · exact g2 a z pa l1 l2
  · rcases g3 with e | ⟨a, pa, l1, l2⟩
    · rw [e]; exact h1
    · exact h2 a w pa l1 l2
theorem z_mx {a b : Int32} : a ≤ (if a < b then b else a) ∧ b ≤ (if a < b then b else a) ∧ ((if a < b then b else a) = a ∨ (if a < b then b else a) = b) := by
  by_cases h : a < b
  · rw [if_pos h]; exact ⟨Int32.le_of_lt h, Int32.le_refl _, .inr rfl⟩
  · rw [if_neg h]; exact ⟨Int32.le_refl _, Int32.not_lt.mp h, .inl rfl⟩
theorem cGrGo_is {S : zS} (hs : cSrt S k t) (hxy : x ≤ y) (hρ : isRt (pC S k t) x ρ) : ∀ (n i p : Nat) (a σ : Int32), i + n = t → p ≤ i → (∀ j, j < p → z_I S 12 k j ≤ x) → (∀ j, p ≤ j → j < i → x < z_I S 12 k j ∧ z_I S 12 k j ≤ y) → ((p = 0 ∧ σ = 0) ∨ (0 < p ∧ σ = z_I S 13 k (p - 1))) → σ ≤ a → (∀ j, p ≤ j → j < i → z_I S 13 k j ≤ a) → (a = σ ∨ ∃ j, p ≤ j ∧ j < i ∧ a = z_I S 13 k j) → isGr (pC S k t) ρ x y (cGrGo S k x y n i a) := by
  have fin : ∀ (i p : Nat) (a σ : Int32), i ≤ t → p ≤ i → (∀ j, j < p → z_I S 12 k j ≤ x) → (∀ j, p ≤ j → j < i → x < z_I S 12 k j ∧ z_I S 12 k j ≤ y) → (∀ j, i ≤ j → j < t → y < z_I S 12 k j) → ((p = 0 ∧ σ = 0) ∨ (0 < p ∧ σ = z_I S 13 k (p - 1))) → σ ≤ a → (∀ j, p ≤ j → j < i → z_I S 13 k j ≤ a) → (a = σ ∨ ∃ j, p ≤ j ∧ j < i ∧ a = z_I S 13 k j) → isGr (pC S k t) ρ x y a := by
    intro i p a σ hi hp h1 h2 h3 h4 h5 h6 h7
    have e : ρ = σ := by
      refine isRt_u hs.fn hρ ?_
      have hgt : ∀ j, p ≤ j → j < t → ¬ z_I S 12 k j ≤ x := fun j u1 u2 => by
        rcases Nat.lt_or_ge j i with u | u
        · exact Int32.not_le.mpr (h2 j u1 u).1
        · exact Int32.not_le.mpr (Int32.lt_of_le_of_lt hxy (h3 j u u2))
      rcases h4 with ⟨u1, u2⟩ | ⟨u1, u2⟩
      · refine .inr ⟨?_, u2⟩
        rintro a b ⟨j, hj, e1, -⟩
        rw [← e1]; exact hgt j (by omega) hj
      · refine .inl ⟨z_I S 12 k (p - 1), ⟨p - 1, by omega, rfl, u2.symm⟩, h1 _ (by omega), ?_⟩
        rintro a' b' ⟨j, hj, e1, -⟩ u3
        rw [← e1] at u3 ⊢
        rcases Nat.lt_or_ge j p with u | u
        · rcases Nat.lt_or_ge j (p - 1) with u4 | u4
          · exact Int32.le_of_lt (hs j (p - 1) u4 (by omega))
          · rw [show j = p - 1 by omega]; exact Int32.le_refl _
        · exact absurd u3 (hgt j u hj)
    rw [e]
    refine ⟨h5, ?_, ?_⟩
    · rintro a' b' ⟨j, hj, e1, e2⟩ l1 l2
      rw [← e1] at l1 l2
      rw [← e2]
      refine h6 j ?_ ?_
      · exact Nat.le_of_not_lt fun u => absurd (h1 j u) (Int32.not_le.mpr l1)
      · exact Nat.lt_of_not_le fun u => absurd l2 (Int32.not_le.mpr (h3 j u hj))
    · rcases h7 with h7 | ⟨j, u1, u2, u3⟩
      · exact .inl h7
      · exact .inr ⟨z_I S 12 k j, ⟨j, by omega, rfl, u3.symm⟩, h2 j u1 u2⟩
  intro n
  induction n with
  | zero =>
    intro i p a σ hi hp h1 h2 h4 h5 h6 h7
    exact fin i p a σ (by omega) hp h1 h2 (fun j u1 u2 => by omega) h4 h5 h6 h7
  | succ n ih =>
    intro i p a σ hi hp h1 h2 h4 h5 h6 h7
    unfold cGrGo
    by_cases q : y < z_I S 12 k i
    · rw [if_pos q]
      refine fin i p a σ (by omega) hp h1 h2 (fun j u1 u2 => ?_) h4 h5 h6 h7
      rcases Nat.eq_or_lt_of_le u1 with u | u
      · rw [← u]; exact q
      · exact Int32.lt_trans q (hs i j u u2)
    · rw [if_neg q]
      have qy := Int32.not_lt.mp q
      by_cases q2 : x < z_I S 12 k i
      · rw [if_pos q2]
        obtain ⟨m1, m2, m3⟩ := z_mx (a := a) (b := z_I S 13 k i)
        refine ih (i + 1) p _ σ (by omega) (by omega) h1 (fun j u1 u2 => ?_) h4 (Int32.le_trans h5 m1) (fun j u1 u2 => ?_) ?_
        · rcases Nat.lt_or_ge j i with u | u
          · exact h2 j u1 u
          · rw [show j = i by omega]; exact ⟨q2, qy⟩
        · rcases Nat.lt_or_ge j i with u | u
          · exact Int32.le_trans (h6 j u1 u) m1
          · rw [show j = i by omega]; exact m2
        · rcases m3 with m3 | m3
          · rw [m3]
            rcases h7 with h7 | ⟨j, u1, u2, u3⟩
            · exact .inl h7
            · exact .inr ⟨j, u1, by omega, u3⟩
          · exact .inr ⟨i, hp, by omega, m3⟩
      · rw [if_neg q2]
        have qx := Int32.not_lt.mp q2
        have hpi : ∀ j, j < i → z_I S 12 k j ≤ x := fun j hj => Int32.le_trans (Int32.le_of_lt (hs j i hj (by omega))) qx
        refine ih (i + 1) (i + 1) _ (z_I S 13 k i) (by omega) (Nat.le_refl _) (fun j hj => ?_) (fun j u1 u2 => by omega) (.inr ⟨by omega, by rw [Nat.add_sub_cancel]⟩) (Int32.le_refl _) (fun j u1 u2 => by omega) (.inl rfl)
        rcases Nat.lt_or_ge j i with u | u
        · exact hpi j u
        · rw [show j = i by omega]; exact qx
theorem cGr_is {S : zS} (hs : cSrt S k (cTold S k)) (hxy : x ≤ y) : isGr (pC S k (cTold S k)) (cRate S k x) x y (cGr S k x y) := cGrGo_is hs hxy (cRate_is hs) _ 0 0 0 0 (by omega) (Nat.le_refl _) (fun j hj => absurd hj (Nat.not_lt_zero _)) (fun j _ hj => absurd hj (Nat.not_lt_zero _)) (.inl ⟨rfl, rfl⟩) (Int32.le_refl _) (fun j _ hj => absurd hj (Nat.not_lt_zero _)) (.inl rfl)
end Re4
