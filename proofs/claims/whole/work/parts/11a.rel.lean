/-! ===== CLASS AND MODEL: places, the relation of numbers ===== -/
section Re1
variable {d i k g s l t q G N L : Nat} {v w a b c e f x y : Int32}
-- the class's place (k, i, f) and the model's place j
def rP (k i f j : Nat) : Prop :=
  (k = 0 ∧ i = 0 ∧ ((f = 0 ∧ j = 0) ∨ (f = 1 ∧ j = 4) ∨ (f = 2 ∧ j = 5) ∨ (f = 3 ∧ j = 1) ∨ (f = 4 ∧ j = 2) ∨ (f = 5 ∧ j = 3))) ∨
  (k = 1 ∧ i < 4 ∧ f < 3 ∧ j = 6 + 3 * i + f) ∨
  (k = 15 ∧ i < 6 ∧ f < 5 ∧ j = 18 + 8 * i + f) ∨
  (k = 2 ∧ i < 5 ∧ ((f = 3 ∧ j = 66 + 29 * i + 1) ∨ (f = 4 ∧ j = 66 + 29 * i + 2))) ∨
  (k = 3 ∧ i < 40 ∧ ((f = 0 ∧ j = 211 + 17 * i + 6) ∨ (1 ≤ f ∧ f ≤ 6 ∧ j = 211 + 17 * i + (f - 1)) ∨ (8 ≤ f ∧ f ≤ 12 ∧ j = 211 + 17 * i + f))) ∨
  (k = 14 ∧ i < 40 ∧ f < 4 ∧ j = 211 + 17 * i + 13 + f)
theorem rP_inj {k i f j k' i' f' j' : Nat} (h : rP k i f j) (h' : rP k' i' f' j') : (j' = j) ↔ (k' = k ∧ i' = i ∧ f' = f) := by
  unfold rP at h h'
  rcases h with h | h | h | h | h | h <;> rcases h' with h' | h' | h' | h' | h' | h' <;> omega
def rLv (G N L k i : Nat) : Prop := (k = 1 → i < G) ∧ (k = 15 → i < N) ∧ (k = 3 → i < L) ∧ (k = 14 → i < L)
def rEq (G N L : Nat) (S : zS) (r : Nat → Int32) : Prop := ∀ k i f j, rP k i f j → rLv G N L k i → r j = z_I S k i f
def rR (M : zS) (j : Nat) : Int32 := z_I M 22 0 j
theorem rEq.up {S M : zS} {k i f j : Nat} (h : rEq G N L S (rR M)) (p : rP k i f j) : rEq G N L (z_uI S k i f v) (rR (z_uI M 22 0 j v)) := by
  intro k' i' f' j' p' lv
  have e := rP_inj p p'
  unfold rR
  rw [z_I_u, z_I_u]
  by_cases q : j' = j
  · rw [if_pos ⟨rfl, rfl, q⟩, if_pos (e.mp q)]
  · rw [if_neg fun z => q z.2.2, if_neg fun z => q (e.mpr z)]
    exact h k' i' f' j' p' lv
-- places that are in no relation
theorem rEq.cl {S : zS} {r : Nat → Int32} {k i f : Nat} (h : rEq G N L S r) (p : ∀ j, ¬ rP k i f j) : rEq G N L (z_uI S k i f v) r := by
  intro k' i' f' j' p' lv
  rw [z_I_u, if_neg]
  · exact h k' i' f' j' p' lv
  · rintro ⟨rfl, rfl, rfl⟩
    exact p _ p'
theorem rEq.mo {S M : zS} {j : Nat} (h : rEq G N L S (rR M)) (p : ∀ k i f, ¬ rP k i f j) : rEq G N L S (rR (z_uI M 22 0 j v)) := by
  intro k' i' f' j' p' lv
  unfold rR
  rw [z_I_u, if_neg]
  · exact h k' i' f' j' p' lv
  · rintro ⟨-, -, rfl⟩
    exact p _ _ _ p'
theorem rEq.co {S S' : zS} {r r' : Nat → Int32} (h : rEq G N L S r) (hS : ∀ k i f, rLv G N L k i → (∃ j, rP k i f j) → z_I S' k i f = z_I S k i f) (hr : ∀ j, j < 891 → r' j = r j) : rEq G N L S' r' := by
  intro k i f j p lv
  have hj : j < 891 := by unfold rP at p; omega
  rw [hr j hj, hS k i f lv ⟨j, p⟩]
  exact h k i f j p lv
-- longs
def rPJ (k i f j : Nat) : Prop := (k = 1 ∧ i < 4 ∧ (f = 3 ∨ f = 4) ∧ j = 2 * i + (f - 3)) ∨ (k = 3 ∧ i < 40 ∧ (f = 13 ∨ f = 14) ∧ j = 8 + 2 * i + (f - 13))
theorem rPJ_inj {k i f j k' i' f' j' : Nat} (h : rPJ k i f j) (h' : rPJ k' i' f' j') : (j' = j) ↔ (k' = k ∧ i' = i ∧ f' = f) := by
  unfold rPJ at h h'
  rcases h with h | h <;> rcases h' with h' | h' <;> omega
def rEJ (G L : Nat) (S : zS) (r : Nat → Int64) : Prop := ∀ k i f j, rPJ k i f j → (k = 1 → i < G) → (k = 3 → i < L) → r j = z_J S k i f
def rRJ (M : zS) (j : Nat) : Int64 := z_J M 23 0 j
theorem rEJ.up {S M : zS} {k i f j : Nat} {p : Int64} (h : rEJ G L S (rRJ M)) (hp : rPJ k i f j) : rEJ G L (z_uJ S k i f p) (rRJ (z_uJ M 23 0 j p)) := by
  intro k' i' f' j' p' l1 l2
  have e := rPJ_inj hp p'
  unfold rRJ
  rw [z_J_u, z_J_u]
  by_cases q : j' = j
  · rw [if_pos ⟨rfl, rfl, q⟩, if_pos (e.mp q)]
  · rw [if_neg fun z => q z.2.2, if_neg fun z => q (e.mpr z)]
    exact h k' i' f' j' p' l1 l2
theorem rEJ.co {S S' : zS} {r r' : Nat → Int64} (h : rEJ G L S r) (hS : ∀ k i f, (k = 1 → i < G) → (k = 3 → i < L) → (∃ j, rPJ k i f j) → z_J S' k i f = z_J S k i f) (hr : ∀ j, j < 88 → r' j = r j) : rEJ G L S' r' := by
  intro k i f j p l1 l2
  have hj : j < 88 := by unfold rPJ at p; omega
  rw [hr j hj, hS k i f l1 l2 ⟨j, p⟩]
  exact h k i f j p l1 l2
end Re1
