/-! ===== CLASS AND MODEL: rates told (2) ===== -/
section Re17
variable {d i k g s l t q n p T j : Nat} {v w a b c e f x y z : Int32} {S S' M : zS} {B : Int}
theorem z_nn1 (h : z_nn a n) (hn : n ≤ 1000) : (a + 1).toNatClampNeg = a.toNatClampNeg + 1 ∧ z_nn (a + 1) (n + 1) ∧ (a + 1).toInt = a.toInt + 1 ∧ 0 ≤ a.toInt ∧ a.toInt = a.toNatClampNeg := by
  have h0 : 0 ≤ a.toInt := i_le.mp h.1
  have h1 : (a.toNatClampNeg : Int) = a.toInt := by rw [i_nat, if_pos h0]
  have h2 := h.2
  have o1 : (1 : Int32).toInt = 1 := rfl
  have h3 : (a + 1).toInt = a.toInt + 1 := i_add (by omega) (by omega)
  have h4 : ((a + 1).toNatClampNeg : Int) = a.toInt + 1 := by rw [i_nat, h3, if_pos (by omega)]
  exact ⟨by omega, ⟨i_le.mpr (by rw [h3]; show (0 : Int) ≤ _; omega), by omega⟩, h3, h0, h1.symm⟩
theorem cTell_is (hs : cSrt S k (cTold S k)) (hn : z_nn (z_I S 2 k 2) 12) :
    (((∃ i, i < cTold S k ∧ z_I S 12 k i = x) ∧ z_I (cTell S k x v) 2 k 2 = z_I S 2 k 2) ∨ ((∀ i, i < cTold S k → z_I S 12 k i ≠ x) ∧ z_I (cTell S k x v) 2 k 2 = z_I S 2 k 2 + 1)) ∧
    cSrt (cTell S k x v) k (cTold (cTell S k x v) k) ∧ ∀ a b, pC (cTell S k x v) k (cTold (cTell S k x v) k) a b ↔ (a = x ∧ b = v) ∨ (a ≠ x ∧ pC S k (cTold S k) a b) := by
  obtain ⟨-, p1, p2, p3⟩ := cPlace_is (S := S) (k := k) x (cTold S k) 0
  rw [Nat.zero_add] at p1 p3
  have e : cTell S k x v = z_uI (z_uI (if cPlace S k x (cTold S k) 0 = cTold S k ∨ ¬ z_I S 12 k (cPlace S k x (cTold S k) 0) = x then cMake S k (cPlace S k x (cTold S k) 0) else S) 12 k (cPlace S k x (cTold S k) 0) x) 13 k (cPlace S k x (cTold S k) 0) v := rfl
  generalize cPlace S k x (cTold S k) 0 = p at *
  rw [e]
  have d12 : ∀ (X : zS) j, z_I (z_uI (z_uI X 12 k p x) 13 k p v) 12 k j = if j = p then x else z_I X 12 k j := fun X j => by
    rw [z_I_u, if_neg (by omega), z_I_u]
    by_cases u : j = p
    · rw [if_pos ⟨rfl, rfl, u⟩, if_pos u]
    · rw [if_neg (by omega), if_neg u]
  have d13 : ∀ (X : zS) j, z_I (z_uI (z_uI X 12 k p x) 13 k p v) 13 k j = if j = p then v else z_I X 13 k j := fun X j => by
    rw [z_I_u]
    by_cases u : j = p
    · rw [if_pos ⟨rfl, rfl, u⟩, if_pos u]
    · rw [if_neg (by omega), if_neg u, z_I_u, if_neg (by omega)]
  by_cases hc : p = cTold S k ∨ ¬ z_I S 12 k p = x
  · rw [if_pos hc]
    have up : ∀ j, p ≤ j → j < cTold S k → x < z_I S 12 k j := fun j h1 h2 => by
      have h3 := p3 (by omega)
      have h4 : z_I S 12 k p ≠ x := hc.resolve_left (by omega)
      rw [i_le] at h3
      rw [Ne, i_eq] at h4
      by_cases u : j = p
      · rw [u, i_lt]; omega
      · have := hs p j (by omega) h2
        rw [i_lt] at this ⊢; omega
    have hno : ∀ i, i < cTold S k → z_I S 12 k i ≠ x := fun i hi he => by
      by_cases u : i < p
      · have := p2 i (by omega) u; rw [he, i_lt] at this; omega
      · have := up i (by omega) hi; rw [he, i_lt] at this; omega
    have t1 : z_I (z_uI (z_uI (cMake S k p) 12 k p x) 13 k p v) 2 k 2 = z_I S 2 k 2 + 1 := by
      rw [z_I_u, if_neg (by omega), z_I_u, if_neg (by omega)]
      unfold cMake
      rw [z_I_u, if_pos ⟨rfl, rfl, rfl⟩]
    have t2 : cTold (z_uI (z_uI (cMake S k p) 12 k p x) 13 k p v) k = cTold S k + 1 := by
      unfold cTold; rw [t1]; exact (z_nn1 hn (by omega)).1
    have m12 : ∀ j, z_I (cMake S k p) 12 k j = z_I (cMkGo k p (cTold S k - p) S) 12 k j := fun j => by unfold cMake; rw [z_I_u, if_neg (by omega)]
    have m13 : ∀ j, z_I (cMake S k p) 13 k j = z_I (cMkGo k p (cTold S k - p) S) 13 k j := fun j => by unfold cMake; rw [z_I_u, if_neg (by omega)]
    have f12 : ∀ j, j < cTold S k + 1 → z_I (z_uI (z_uI (cMake S k p) 12 k p x) 13 k p v) 12 k j = if j < p then z_I S 12 k j else if j = p then x else z_I S 12 k (j - 1) := fun j hj => by
      rw [d12, m12]
      have g := cMkGo_in (k := k) (p := p) (cTold S k - p) S j
      by_cases u1 : j < p
      · rw [if_neg (by omega), if_pos u1]; exact (g.2 (by omega)).1
      · by_cases u2 : j = p
        · rw [if_pos u2, if_neg u1, if_pos u2]
        · rw [if_neg u2, if_neg u1, if_neg u2]; exact (g.1 (by omega) (by omega)).1
    have f13 : ∀ j, j < cTold S k + 1 → z_I (z_uI (z_uI (cMake S k p) 12 k p x) 13 k p v) 13 k j = if j < p then z_I S 13 k j else if j = p then v else z_I S 13 k (j - 1) := fun j hj => by
      rw [d13, m13]
      have g := cMkGo_in (k := k) (p := p) (cTold S k - p) S j
      by_cases u1 : j < p
      · rw [if_neg (by omega), if_pos u1]; exact (g.2 (by omega)).2
      · by_cases u2 : j = p
        · rw [if_pos u2, if_neg u1, if_pos u2]
        · rw [if_neg u2, if_neg u1, if_neg u2]; exact (g.1 (by omega) (by omega)).2
    refine ⟨.inr ⟨hno, t1⟩, fun i j hij hj => ?_, fun a b => ?_⟩
    · rw [t2] at hj
      rw [f12 i (by omega), f12 j hj]
      by_cases u1 : j < p
      · rw [if_pos u1, if_pos (by omega)]; exact hs i j hij (by omega)
      · rw [if_neg u1]
        by_cases u2 : j = p
        · rw [if_pos u2, if_pos (by omega)]; exact p2 i (by omega) (by omega)
        · rw [if_neg u2]
          by_cases u3 : i < p
          · rw [if_pos u3]; exact hs i (j - 1) (by omega) (by omega)
          · rw [if_neg u3]
            by_cases u4 : i = p
            · rw [if_pos u4]; exact up _ (by omega) (by omega)
            · rw [if_neg u4]; exact hs _ _ (by omega) (by omega)
    · rw [t2]
      constructor
      · rintro ⟨j, hj, e1, e2⟩
        rw [f12 j hj] at e1; rw [f13 j hj] at e2
        by_cases u1 : j < p
        · rw [if_pos u1] at e1 e2
          exact .inr ⟨fun h => hno j (by omega) (e1.trans h), j, by omega, e1, e2⟩
        · rw [if_neg u1] at e1 e2
          by_cases u2 : j = p
          · rw [if_pos u2] at e1 e2; exact .inl ⟨e1.symm, e2.symm⟩
          · rw [if_neg u2] at e1 e2
            exact .inr ⟨fun h => hno (j - 1) (by omega) (e1.trans h), j - 1, by omega, e1, e2⟩
      · rintro (⟨rfl, rfl⟩ | ⟨hne, j, hj, e1, e2⟩)
        · refine ⟨p, by omega, ?_, ?_⟩
          · rw [f12 p (by omega), if_neg (by omega), if_pos rfl]
          · rw [f13 p (by omega), if_neg (by omega), if_pos rfl]
        · by_cases u : j < p
          · exact ⟨j, by omega, by rw [f12 j (by omega), if_pos u]; exact e1, by rw [f13 j (by omega), if_pos u]; exact e2⟩
          · exact ⟨j + 1, by omega, by rw [f12 _ (by omega), if_neg (by omega), if_neg (by omega)]; exact e1, by rw [f13 _ (by omega), if_neg (by omega), if_neg (by omega)]; exact e2⟩
  · rw [if_neg hc]
    have hp : p < cTold S k := by omega
    have hx : z_I S 12 k p = x := Classical.byContradiction fun u => hc (.inr u)
    have t1 : z_I (z_uI (z_uI S 12 k p x) 13 k p v) 2 k 2 = z_I S 2 k 2 := by rw [z_I_u, if_neg (by omega), z_I_u, if_neg (by omega)]
    have t2 : cTold (z_uI (z_uI S 12 k p x) 13 k p v) k = cTold S k := cTold.co t1
    have inj : ∀ j, j < cTold S k → z_I S 12 k j = x → j = p := fun j hj he => by
      rcases Nat.lt_trichotomy j p with u | u | u
      · have := hs j p u hp; rw [he, hx, i_lt] at this; omega
      · exact u
      · have := hs p j u hj; rw [he, hx, i_lt] at this; omega
    have f12 : ∀ j, z_I (z_uI (z_uI S 12 k p x) 13 k p v) 12 k j = z_I S 12 k j := fun j => by
      rw [d12]
      by_cases u : j = p
      · rw [if_pos u, u]; exact hx.symm
      · rw [if_neg u]
    refine ⟨.inl ⟨⟨p, hp, hx⟩, t1⟩, fun i j hij hj => ?_, fun a b => ?_⟩
    · rw [t2] at hj; rw [f12, f12]; exact hs i j hij hj
    · rw [t2]
      constructor
      · rintro ⟨j, hj, e1, e2⟩
        rw [f12] at e1; rw [d13] at e2
        by_cases u : j = p
        · rw [if_pos u] at e2; rw [u, hx] at e1; exact .inl ⟨e1.symm, e2.symm⟩
        · rw [if_neg u] at e2; exact .inr ⟨fun h => u (inj j hj (e1.trans h)), j, hj, e1, e2⟩
      · rintro (⟨rfl, rfl⟩ | ⟨hne, j, hj, e1, e2⟩)
        · exact ⟨p, hp, by rw [f12]; exact hx, by rw [d13, if_pos rfl]⟩
        · have u : j ≠ p := fun u => hne (by rw [← e1, u]; exact hx)
          exact ⟨j, hj, by rw [f12]; exact e1, by rw [d13, if_neg u]; exact e2⟩
end Re17
