/-! ===== CLASS AND MODEL: rates told ===== -/
section Re16
variable {d i k g s l t q n p T j : Nat} {v w a b c e f x y z : Int32} {S S' M : zS} {B : Int}
theorem pig : ∀ (n : Nat) (F : Nat → Nat), ¬ ∀ i, i < n + 1 → ∃ j, j < n ∧ F j = i
  | 0, F, h => by obtain ⟨j, hj, -⟩ := h 0 (by omega); omega
  | n + 1, F, h => by
    refine pig n (fun j => if F n < F j then F j - 1 else F j) fun i hi => ?_
    by_cases u : i < F n
    · obtain ⟨j, hj, e⟩ := h i (by omega)
      have : j ≠ n := by rintro rfl; omega
      exact ⟨j, by omega, by show (if F n < F j then F j - 1 else F j) = i; rw [if_neg (by omega)]; exact e⟩
    · obtain ⟨j, hj, e⟩ := h (i + 1) (by omega)
      have : j ≠ n := by rintro rfl; omega
      exact ⟨j, by omega, by show (if F n < F j then F j - 1 else F j) = i; rw [if_pos (by omega)]; omega⟩
theorem pig2 {D H : Nat → Int32} (hD : ∀ i j, i < j → j < t → D i < D j) (hs : ∀ i, i < t → ∃ j, j < t ∧ H j = D i) : ∀ a b, a < b → b < t → H a ≠ H b := fun a b hab hb he => by
  have inj : ∀ i j, i < t → j < t → D i = D j → i = j := fun i j h1 h2 e => by
    rcases Nat.lt_trichotomy i j with u | u | u
    · have := hD i j u h2; rw [e] at this; rw [i_lt] at this; omega
    · exact u
    · have := hD j i u h1; rw [e] at this; rw [i_lt] at this; omega
  have hc : ∀ j, ∃ i, (∃ i', i' < t ∧ D i' = H (if j < b then j else j + 1)) → i < t ∧ D i = H (if j < b then j else j + 1) := fun j => by
    by_cases u : ∃ i', i' < t ∧ D i' = H (if j < b then j else j + 1)
    · obtain ⟨i, hi⟩ := u; exact ⟨i, fun _ => hi⟩
    · exact ⟨0, fun h => absurd h u⟩
  refine pig (t - 1) (fun j => (hc j).choose) fun i hi => ?_
  have key : ∀ j, j < t - 1 → H (if j < b then j else j + 1) = D i → ∃ j, j < t - 1 ∧ (hc j).choose = i := fun j hj e => by
    have := (hc j).choose_spec ⟨i, by omega, e.symm⟩
    exact ⟨j, hj, inj _ _ this.1 (by omega) (this.2.trans e)⟩
  obtain ⟨j, hj, e⟩ := hs i (by omega)
  rcases Nat.lt_trichotomy j b with u | u | u
  · exact key j (by omega) (by rw [if_pos u]; exact e)
  · exact key a (by omega) (by rw [if_pos hab, he, ← u]; exact e)
  · exact key (j - 1) (by omega) (by rw [if_neg (by omega), show j - 1 + 1 = j by omega]; exact e)
theorem cMkGo_in : ∀ (n : Nat) (S : zS) (j : Nat), (p < j → j ≤ p + n → z_I (cMkGo k p n S) 12 k j = z_I S 12 k (j - 1) ∧ z_I (cMkGo k p n S) 13 k j = z_I S 13 k (j - 1)) ∧ (¬ (p < j ∧ j ≤ p + n) → z_I (cMkGo k p n S) 12 k j = z_I S 12 k j ∧ z_I (cMkGo k p n S) 13 k j = z_I S 13 k j)
  | 0, S, j => ⟨fun h1 h2 => by omega, fun _ => ⟨rfl, rfl⟩⟩
  | n + 1, S, j => by
    have ih := cMkGo_in n (z_uI (z_uI S 12 k (p + n + 1) (z_I S 12 k (p + n))) 13 k (p + n + 1) (z_I S 13 k (p + n))) j
    have e12 : ∀ i, z_I (z_uI (z_uI S 12 k (p + n + 1) (z_I S 12 k (p + n))) 13 k (p + n + 1) (z_I S 13 k (p + n))) 12 k i = if i = p + n + 1 then z_I S 12 k (p + n) else z_I S 12 k i := fun i => by
      rw [z_I_u, if_neg (by omega), z_I_u]
      by_cases u : i = p + n + 1
      · rw [if_pos ⟨rfl, rfl, u⟩, if_pos u]
      · rw [if_neg (by omega), if_neg u]
    have e13 : ∀ i, z_I (z_uI (z_uI S 12 k (p + n + 1) (z_I S 12 k (p + n))) 13 k (p + n + 1) (z_I S 13 k (p + n))) 13 k i = if i = p + n + 1 then z_I S 13 k (p + n) else z_I S 13 k i := fun i => by
      rw [z_I_u]
      by_cases u : i = p + n + 1
      · rw [if_pos ⟨rfl, rfl, u⟩, if_pos u]
      · rw [if_neg (by omega), if_neg u, z_I_u, if_neg (by omega)]
    unfold cMkGo
    refine ⟨fun h1 h2 => ?_, fun h => ?_⟩
    · by_cases u : j = p + n + 1
      · have := ih.2 (by omega)
        rw [this.1, this.2, e12, e13, if_pos u, if_pos u, u]; exact ⟨rfl, rfl⟩
      · have := ih.1 h1 (by omega)
        rw [this.1, this.2, e12, e13, if_neg (by omega), if_neg (by omega)]; exact ⟨rfl, rfl⟩
    · have := ih.2 (by omega)
      rw [this.1, this.2, e12, e13, if_neg (by omega), if_neg (by omega)]; exact ⟨rfl, rfl⟩
theorem cMkGo_k {k' : Nat} (h : k' ≠ k) (hx : q = 12 ∨ q = 13) : ∀ (n : Nat) (S : zS), z_I (cMkGo k p n S) q k' j = z_I S q k' j
  | 0, _ => rfl
  | n + 1, S => by
    unfold cMkGo
    rw [cMkGo_k h hx n, z_I_u, if_neg (by omega), z_I_u, if_neg (by omega)]
theorem cMkGo_J : ∀ (n : Nat) (S : zS) (k' i' f' : Nat), z_J (cMkGo k p n S) k' i' f' = z_J S k' i' f'
  | 0, _, _, _, _ => rfl
  | n + 1, S, _, _, _ => by unfold cMkGo; rw [cMkGo_J n]; rfl
theorem cPlace_is (x : Int32) : ∀ (n i : Nat), i ≤ cPlace S k x n i ∧ cPlace S k x n i ≤ i + n ∧ (∀ j, i ≤ j → j < cPlace S k x n i → z_I S 12 k j < x) ∧ (cPlace S k x n i < i + n → x ≤ z_I S 12 k (cPlace S k x n i))
  | 0, i => ⟨Nat.le_refl _, Nat.le_refl _, fun j h1 h2 => by unfold cPlace at h2; omega, fun h => by unfold cPlace at h; omega⟩
  | n + 1, i => by
    unfold cPlace
    by_cases h : x ≤ z_I S 12 k i
    · rw [if_pos h]
      exact ⟨Nat.le_refl _, by omega, fun j h1 h2 => by omega, fun _ => h⟩
    · rw [if_neg h]
      obtain ⟨h1, h2, h3, h4⟩ := cPlace_is x n (i + 1)
      refine ⟨by omega, by omega, fun j h5 h6 => ?_, fun u => h4 (by omega)⟩
      by_cases u : j = i
      · rw [u, i_lt]; rw [i_le] at h; omega
      · exact h3 j (by omega) h6
end Re16
