/-! ===== CLASS AND MODEL: the greatest rates alike ===== -/
section Re5
variable {d i k g s l t q n p : Nat} {v w a b c e f x y z ρ : Int32}
theorem z_my {a b : Int32} : a ≤ (if a ≤ b then b else a) ∧ b ≤ (if a ≤ b then b else a) ∧ ((if a ≤ b then b else a) = a ∨ (if a ≤ b then b else a) = b) := by
  by_cases h : a ≤ b
  · rw [if_pos h]; exact ⟨h, Int32.le_refl _, .inr rfl⟩
  · rw [if_neg h]; exact ⟨Int32.le_refl _, Int32.le_of_lt (Int32.not_le.mp h), .inl rfl⟩
theorem mGrS_is {M : zS} (hf : isFn (pM (rR M) k t)) (hρ : isRt (pM (rR M) k t) x ρ) : ∀ (n i : Nat) (a : Int32), i + n = t → ρ ≤ a → (∀ j, j < i → x < rR M (66 + 29 * k + 3 + 2 * j) → rR M (66 + 29 * k + 3 + 2 * j) ≤ y → rR M (66 + 29 * k + 3 + 2 * j + 1) ≤ a) → (a = ρ ∨ ∃ j, j < i ∧ x < rR M (66 + 29 * k + 3 + 2 * j) ∧ rR M (66 + 29 * k + 3 + 2 * j) ≤ y ∧ a = rR M (66 + 29 * k + 3 + 2 * j + 1)) → isGr (pM (rR M) k t) ρ x y (z_it (mGrS M k x y) n i a) := by
  intro n
  induction n with
  | zero =>
    intro i a hi h1 h2 h3
    have e : i = t := by omega
    subst e
    show isGr _ ρ x y a
    refine ⟨h1, ?_, ?_⟩
    · rintro a' b' ⟨j, hj, e1, e2⟩ l1 l2
      rw [← e1] at l1 l2
      rw [← e2]; exact h2 j hj l1 l2
    · rcases h3 with h3 | ⟨j, hj, l1, l2, h3⟩
      · exact .inl h3
      · exact .inr ⟨_, ⟨j, hj, rfl, h3.symm⟩, l1, l2⟩
  | succ n ih =>
    intro i a hi h1 h2 h3
    show isGr _ ρ x y (z_it (mGrS M k x y) n (i + 1) (mGrS M k x y i a))
    have keep : ∀ a', a ≤ a' → (x < rR M (66 + 29 * k + 3 + 2 * i) → rR M (66 + 29 * k + 3 + 2 * i) ≤ y → rR M (66 + 29 * k + 3 + 2 * i + 1) ≤ a') → ∀ j, j < i + 1 → x < rR M (66 + 29 * k + 3 + 2 * j) → rR M (66 + 29 * k + 3 + 2 * j) ≤ y → rR M (66 + 29 * k + 3 + 2 * j + 1) ≤ a' := fun a' u1 u2 j hj l1 l2 => by
      rcases Nat.lt_or_ge j i with u | u
      · exact Int32.le_trans (h2 j u l1 l2) u1
      · rw [show j = i by omega] at l1 l2 ⊢; exact u2 l1 l2
    have up : (a = ρ ∨ ∃ j, j < i + 1 ∧ x < rR M (66 + 29 * k + 3 + 2 * j) ∧ rR M (66 + 29 * k + 3 + 2 * j) ≤ y ∧ a = rR M (66 + 29 * k + 3 + 2 * j + 1)) := by
      rcases h3 with h3 | ⟨j, hj, u⟩
      · exact .inl h3
      · exact .inr ⟨j, by omega, u⟩
    unfold mGrS
    change isGr _ ρ x y (z_it (mGrS M k x y) n (i + 1) (if ¬ (rR M (66 + 29 * k + 3 + 2 * i) < x ∨ y < rR M (66 + 29 * k + 3 + 2 * i)) then (if a ≤ rR M (66 + 29 * k + 3 + 2 * i + 1) then rR M (66 + 29 * k + 3 + 2 * i + 1) else a) else a))
    by_cases q : rR M (66 + 29 * k + 3 + 2 * i) < x ∨ y < rR M (66 + 29 * k + 3 + 2 * i)
    · rw [if_neg fun u => u q]
      refine ih (i + 1) a (by omega) h1 (keep a (Int32.le_refl _) fun l1 l2 => ?_) up
      rcases q with q | q
      · exact (Int32.lt_irrefl (Int32.lt_trans l1 q)).elim
      · exact absurd l2 (Int32.not_le.mpr q)
    · rw [if_pos q]
      obtain ⟨m1, m2, m3⟩ := z_my (a := a) (b := rR M (66 + 29 * k + 3 + 2 * i + 1))
      refine ih (i + 1) _ (by omega) (Int32.le_trans h1 m1) (keep _ m1 fun _ _ => m2) ?_
      rcases m3 with m3 | m3
      · rw [m3]; exact up
      · rw [m3]
        have l2 := Int32.not_lt.mp fun u => q (.inr u)
        have l1 := Int32.not_lt.mp fun u => q (.inl u)
        rcases Classical.em (rR M (66 + 29 * k + 3 + 2 * i) = x) with u | u
        · refine .inl (isRt_u hf (.inl ⟨x, ⟨i, by omega, u, rfl⟩, Int32.le_refl _, fun a' b' _ z => z⟩) hρ)
        · exact .inr ⟨i, by omega, Int32.lt_of_le_of_ne l1 (fun e => u e.symm), l2, rfl⟩
theorem rRt.gr {S M : zS} (h : rRt S (rR M) k) (hxy : x ≤ y) : mGr M k x y = cGr S k x y := by
  have e : pM (rR M) k (cTold S k) = pC S k (cTold S k) := funext fun a => funext fun b => propext (h.2.2.2 a b).symm
  have h1 := mRate_is (M := M) (k := k) (x := x) h.day0
  have h2 := mGrS_is (M := M) (k := k) (t := cTold S k) (x := x) (y := y) (ρ := mRate M k x) (by rw [e]; exact h.2.1.fn) (by rw [h.told] at h1; exact h1) (cTold S k) 0 (mRate M k x) (by omega) (Int32.le_refl _) (fun j hj => absurd hj (Nat.not_lt_zero _)) (.inl rfl)
  rw [e, h.rate] at h2
  have h3 := cGr_is (S := S) (k := k) (x := x) (y := y) h.2.1 hxy
  unfold mGr
  rw [h.told, h.rate]
  exact isGr_u h2 h3
end Re5
