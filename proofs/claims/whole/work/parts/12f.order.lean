set_option maxHeartbeats 200000
/-! ===== CLASS AND MODEL: orders ===== -/
section Re26
variable {d i k g s l l' t q n p T j : Nat} {v w a b c e f x y z : Int32} {S S' M M' N : zS} {B : Int}
def apA (L : List Int32) (g : Int32) : List Int32 := if g = -1 then L else if L.length < 4 then L ++ [g] else L
def oIs (L : List Int32) (g : Int32) : Nat → Nat → Bool
  | 0, _ => false
  | n + 1, i => if L.getD i 0 = g then true else oIs L g n (i + 1)
def ln0 (a b c : Int32) : List Int32 := apA (apA (apA [] a) b) c
def lnS (n : Nat) (L : List Int32) (g : Int32) : List Int32 := if oIs L g n 0 = true then L else apA L g
def lnA (a b c : Int32) : List Int32 := lnS (ln0 a b c).length (lnS (ln0 a b c).length (lnS (ln0 a b c).length (lnS (ln0 a b c).length (ln0 a b c) 0) 1) 2) 3
theorem lnA_all : ∀ o p q : Fin 5, (oNum o = oNum p → oNum o = -1) → (oNum o = oNum q → oNum o = -1) → (oNum p = oNum q → oNum p = -1) →
    (lnA (oNum o) (oNum p) (oNum q) = oLine ((ln0 (oNum o) (oNum p) (oNum q)).getD 0 (-1)) ((ln0 (oNum o) (oNum p) (oNum q)).getD 1 (-1)) ((ln0 (oNum o) (oNum p) (oNum q)).getD 2 (-1)) ∧ (lnA (oNum o) (oNum p) (oNum q)).length = 4) ∧
    (((ln0 (oNum o) (oNum p) (oNum q)).getD 0 (-1) = (ln0 (oNum o) (oNum p) (oNum q)).getD 1 (-1) → (ln0 (oNum o) (oNum p) (oNum q)).getD 0 (-1) = -1) ∧ ((ln0 (oNum o) (oNum p) (oNum q)).getD 0 (-1) = (ln0 (oNum o) (oNum p) (oNum q)).getD 2 (-1) → (ln0 (oNum o) (oNum p) (oNum q)).getD 0 (-1) = -1) ∧ ((ln0 (oNum o) (oNum p) (oNum q)).getD 1 (-1) = (ln0 (oNum o) (oNum p) (oNum q)).getD 2 (-1) → (ln0 (oNum o) (oNum p) (oNum q)).getD 1 (-1) = -1)) ∧
    (((ln0 (oNum o) (oNum p) (oNum q)).getD 0 (-1) = -1 → (ln0 (oNum o) (oNum p) (oNum q)).getD 1 (-1) = -1) ∧ ((ln0 (oNum o) (oNum p) (oNum q)).getD 1 (-1) = -1 → (ln0 (oNum o) (oNum p) (oNum q)).getD 2 (-1) = -1)) ∧
    (∀ j : Fin 3, (ln0 (oNum o) (oNum p) (oNum q)).getD j.val (-1) = -1 ∨ (ln0 (oNum o) (oNum p) (oNum q)).getD j.val (-1) = oNum o ∨ (ln0 (oNum o) (oNum p) (oNum q)).getD j.val (-1) = oNum p ∨ (ln0 (oNum o) (oNum p) (oNum q)).getD j.val (-1) = oNum q) ∧
    nI (ln0 (oNum o) (oNum p) (oNum q)).length = (if (ln0 (oNum o) (oNum p) (oNum q)).getD 0 (-1) = -1 then nI 0 else if (ln0 (oNum o) (oNum p) (oNum q)).getD 1 (-1) = -1 then nI 1 else if (ln0 (oNum o) (oNum p) (oNum q)).getD 2 (-1) = -1 then nI 2 else nI 3) := by decide +kernel
-- the class's line
def hasL (S0 S : zS) (s : Nat) (n : Int32) (L : List Int32) : Prop := n = nI L.length ∧ L.length ≤ 4 ∧ (∀ j, j < L.length → z_I S 16 s j = L.getD j 0) ∧ (∀ k i f, ¬ (k = 16 ∧ i = s) → ¬ (k = 4 ∧ i = s ∧ f = 2) → z_I S k i f = z_I S0 k i f) ∧ ∀ k i f, z_J S k i f = z_J S0 k i f
theorem hasL.ap {L : List Int32} {S0 : zS} (h : hasL S0 S s v L) : hasL S0 (cAppend S s w v).2 s (cAppend S s w v).1 (apA L w) ∧ z_I (cAppend S s w v).2 4 s 2 = z_I S 4 s 2 ∧ (∀ j, j < L.length → (apA L w).getD j 0 = L.getD j 0) ∧ L.length ≤ (apA L w).length := by
  obtain ⟨h1, h2, h3, h4, h5⟩ := h
  unfold cAppend apA
  by_cases u : w = -1
  · rw [if_pos u, if_pos u]; exact ⟨⟨h1, h2, h3, h4, h5⟩, rfl, fun _ _ => rfl, Nat.le_refl _⟩
  · rw [if_neg u, if_neg u]
    have e4 : (4 : Int32).toInt = 4 := rfl
    by_cases u4 : L.length < 4
    · have v4 : v < 4 := by rw [i_lt, h1, i_nI (by omega), e4]; omega
      have vn : v.toNatClampNeg = L.length := by rw [h1]; exact z_nIc (by omega)
      rw [if_pos v4, if_pos u4, vn]
      refine ⟨⟨?_, ?_, fun j hj => ?_, fun k i f n1 n2 => ?_, fun k i f => h5 k i f⟩, rfl, fun j hj => ?_, ?_⟩
      · rw [List.length_append, List.length_singleton, h1, i_eq, i_nI (by omega), i_add (by rw [i_nI (by omega)]; show _ ≤ _ + (1 : Int); omega) (by rw [i_nI (by omega)]; show _ + (1 : Int) < _; omega), i_nI (by omega)]; rfl
      · rw [List.length_append, List.length_singleton]; omega
      · rw [List.length_append, List.length_singleton] at hj
        show z_I (z_uI S 16 s L.length w) 16 s j = _
        rw [z_I_u]
        by_cases uj : j = L.length
        · rw [if_pos ⟨rfl, rfl, uj⟩, uj, List.getD_eq_getElem?_getD, List.getElem?_append_right (Nat.le_refl _), Nat.sub_self]; rfl
        · rw [if_neg (by omega), h3 j (by omega), List.getD_eq_getElem?_getD, List.getD_eq_getElem?_getD, List.getElem?_append_left (by omega)]
      · show z_I (z_uI S 16 s L.length w) k i f = _
        rw [z_I_u, if_neg (by omega)]; exact h4 k i f n1 n2
      · rw [List.getD_eq_getElem?_getD, List.getD_eq_getElem?_getD, List.getElem?_append_left (by omega)]
      · rw [List.length_append]; omega
    · have v4 : ¬ v < 4 := by rw [i_lt, h1, i_nI (by omega), e4]; omega
      rw [if_neg v4, if_neg u4]; exact ⟨⟨h1, h2, h3, h4, h5⟩, rfl, fun _ _ => rfl, Nat.le_refl _⟩
theorem oIs_co {L : List Int32} : ∀ (n i : Nat), (∀ j, j < i + n → z_I S 16 s j = L.getD j 0) → cIsOrd S s w n i = oIs L w n i
  | 0, _, _ => rfl
  | n + 1, i, h => by
    unfold cIsOrd oIs
    rw [h i (by omega), oIs_co n (i + 1) fun j hj => h j (by omega)]
theorem hasL.st {L : List Int32} {S0 : zS} {p : Int32 × zS} (h : hasL S0 p.2 s p.1 L) (ho : z_I p.2 4 s 2 = nI n) (hn : n ≤ L.length) : hasL S0 (cLineSt s w p).2 s (cLineSt s w p).1 (lnS n L w) ∧ z_I (cLineSt s w p).2 4 s 2 = nI n ∧ n ≤ (lnS n L w).length := by
  have h2 := h.2.1
  have e : cOrd p.2 s = n := by unfold cOrd; rw [ho]; exact z_nIc (by omega)
  unfold cLineSt lnS
  rw [e, oIs_co n 0 fun j hj => h.2.2.1 j (by omega)]
  by_cases u : oIs L w n 0 = true
  · rw [if_pos u, if_pos u]; exact ⟨h, ho, hn⟩
  · rw [if_neg u, if_neg u]
    have := h.ap (w := w)
    exact ⟨this.1, this.2.1.trans ho, by omega⟩
theorem cLineUp_is : ∃ n, hasL S (cLineUp S s a b c) s n (lnA a b c) ∧ z_I (cLineUp S s a b c) 4 s 2 = nI (ln0 a b c).length := by
  have h0 : hasL S S s 0 [] := ⟨rfl, by decide, fun j hj => absurd hj (Nat.not_lt_zero _), fun _ _ _ _ _ => rfl, fun _ _ _ => rfl⟩
  have h1 := (h0.ap (w := a)).1
  have h2 := (h1.ap (w := b)).1
  have h3 := (h2.ap (w := c)).1
  have e1 : (cLine0 S s a b c).1 = nI (ln0 a b c).length := h3.1
  have h4 : hasL S (z_uI (cLine0 S s a b c).2 4 s 2 (cLine0 S s a b c).1) s (cLine0 S s a b c).1 (ln0 a b c) := by
    refine ⟨h3.1, h3.2.1, fun j hj => h3.2.2.1 j hj, fun k i f n1 n2 => ?_, h3.2.2.2.2⟩
    rw [z_I_u, if_neg n2]; exact h3.2.2.2.1 k i f n1 n2
  have e4 : z_I (z_uI (cLine0 S s a b c).2 4 s 2 (cLine0 S s a b c).1) 4 s 2 = nI (ln0 a b c).length := by rw [z_I_u, if_pos ⟨rfl, rfl, rfl⟩, e1]
  have g0 := hasL.st (p := ((cLine0 S s a b c).1, z_uI (cLine0 S s a b c).2 4 s 2 (cLine0 S s a b c).1)) (w := 0) h4 e4 (Nat.le_refl _)
  have g1 := hasL.st (w := 1) g0.1 g0.2.1 g0.2.2
  have g2 := hasL.st (w := 2) g1.1 g1.2.1 g1.2.2
  have g3 := hasL.st (w := 3) g2.1 g2.2.1 g2.2.2
  unfold cLineUp lnA
  exact ⟨_, g3.1, g3.2.1⟩
theorem mLoS_n {p : Nat × zS} (h : mLoG a b c i = -1) : mLoS s a b c i p = (p.1, z_uI p.2 22 0 (18 + 8 * s + 5 + i) (-1)) := if_pos h
theorem mLoS_y {p : Nat × zS} (h : ¬ mLoG a b c i = -1) : mLoS s a b c i p = (p.1 + 1, z_uI (z_uI p.2 22 0 (18 + 8 * s + 5 + i) (-1)) 22 0 (18 + 8 * s + 5 + p.1) (mLoG a b c i)) := if_neg h
theorem mLayO_in (hj : j < 3) : rR (mLayO M s a b c) (18 + 8 * s + 5 + j) = (ln0 a b c).getD j (-1) := by
  have e : mLayO M s a b c = (mLoS s a b c 2 (mLoS s a b c 1 (mLoS s a b c 0 (0, M)))).2 := rfl
  have hjj : j = 0 ∨ j = 1 ∨ j = 2 := by omega
  have l0 : mLoG a b c 0 = a := rfl
  have l1 : mLoG a b c 1 = b := rfl
  have l2 : mLoG a b c 2 = c := rfl
  rw [e]
  unfold ln0 apA
  by_cases ua : a = -1
  · rw [mLoS_n (i := 0) (by rw [l0]; exact ua), if_pos ua]
    by_cases ub : b = -1
    · rw [mLoS_n (i := 1) (by rw [l1]; exact ub), if_pos ub]
      by_cases uc : c = -1
      · rw [mLoS_n (i := 2) (by rw [l2]; exact uc), if_pos uc]
        rcases hjj with rfl | rfl | rfl <;> simp [rR_u]
      · rw [mLoS_y (i := 2) (by rw [l2]; exact uc), if_neg uc, l2]
        rcases hjj with rfl | rfl | rfl <;> simp [rR_u]
    · rw [mLoS_y (i := 1) (by rw [l1]; exact ub), if_neg ub, l1]
      by_cases uc : c = -1
      · rw [mLoS_n (i := 2) (by rw [l2]; exact uc), if_pos uc]
        rcases hjj with rfl | rfl | rfl <;> simp [rR_u]
      · rw [mLoS_y (i := 2) (by rw [l2]; exact uc), if_neg uc, l2]
        rcases hjj with rfl | rfl | rfl <;> simp [rR_u]
  · rw [mLoS_y (i := 0) (by rw [l0]; exact ua), if_neg ua, l0]
    by_cases ub : b = -1
    · rw [mLoS_n (i := 1) (by rw [l1]; exact ub), if_pos ub]
      by_cases uc : c = -1
      · rw [mLoS_n (i := 2) (by rw [l2]; exact uc), if_pos uc]
        rcases hjj with rfl | rfl | rfl <;> simp [rR_u]
      · rw [mLoS_y (i := 2) (by rw [l2]; exact uc), if_neg uc, l2]
        rcases hjj with rfl | rfl | rfl <;> simp [rR_u]
    · rw [mLoS_y (i := 1) (by rw [l1]; exact ub), if_neg ub, l1]
      by_cases uc : c = -1
      · rw [mLoS_n (i := 2) (by rw [l2]; exact uc), if_pos uc]
        rcases hjj with rfl | rfl | rfl <;> simp [rR_u]
      · rw [mLoS_y (i := 2) (by rw [l2]; exact uc), if_neg uc, l2]
        rcases hjj with rfl | rfl | rfl <;> simp [rR_u]
end Re26
