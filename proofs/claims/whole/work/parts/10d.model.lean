/-! ===== THE MODEL: the line, as a list ===== -/
section Mo4
variable {d r i k g s l t : Nat} {m : zM} {Q : zQ} {v w a b c e f x y : Int32}
def oAdd (o : Int32) (L : List Int32) : List Int32 := if o = -1 then L else L ++ [o]
def oL1 (a b c : Int32) : List Int32 := oAdd c (oAdd b (oAdd a []))
def oL2 (a b c : Int32) : Nat → Nat → List Int32 → List Int32
  | 0, _, L => L
  | n + 1, i, L => if 4 ≤ L.length then L else if ¬ a = nI i ∧ ¬ b = nI i ∧ ¬ c = nI i then oL2 a b c n (i + 1) (L ++ [nI i]) else oL2 a b c n (i + 1) L
def oLine (a b c : Int32) : List Int32 := oL2 a b c 4 0 (oL1 a b c)
def oOk (a b c : Int32) : Prop := (a = -1 ∨ ∃ g, g < 4 ∧ a = nI g) ∧ (b = -1 ∨ ∃ g, g < 4 ∧ b = nI g) ∧ (c = -1 ∨ ∃ g, g < 4 ∧ c = nI g) ∧ (a = b → a = -1) ∧ (a = c → a = -1) ∧ (b = c → b = -1)
def oNum (o : Fin 5) : Int32 := if o.val = 4 then -1 else nI o.val
theorem oNum_of (h : v = -1 ∨ ∃ g, g < 4 ∧ v = nI g) : ∃ o : Fin 5, v = oNum o := by
  rcases h with h | ⟨g, hg, h⟩
  · exact ⟨4, h⟩
  · refine ⟨⟨g, by omega⟩, ?_⟩
    unfold oNum
    rw [if_neg (show ¬ g = 4 by omega)]
    exact h
theorem oLine_all : ∀ o p q : Fin 5, (oNum o = oNum p → oNum o = -1) → (oNum o = oNum q → oNum o = -1) → (oNum p = oNum q → oNum p = -1) → (oLine (oNum o) (oNum p) (oNum q)).length = 4 ∧ (∀ g ∈ oLine (oNum o) (oNum p) (oNum q), g = 0 ∨ g = 1 ∨ g = 2 ∨ g = 3) ∧ (oLine (oNum o) (oNum p) (oNum q)).Nodup := by
  decide +kernel
theorem oLine_ok (h : oOk a b c) : (oLine a b c).length = 4 ∧ (∀ g ∈ oLine a b c, g = 0 ∨ g = 1 ∨ g = 2 ∨ g = 3) ∧ (oLine a b c).Nodup := by
  obtain ⟨o, rfl⟩ := oNum_of h.1
  obtain ⟨p, rfl⟩ := oNum_of h.2.1
  obtain ⟨q, rfl⟩ := oNum_of h.2.2.1
  exact oLine_all o p q h.2.2.2.1 h.2.2.2.2.1 h.2.2.2.2.2
theorem oLine_g (h : oOk a b c) {k : Nat} (hk : k < 4) : ∃ g, g < 4 ∧ (oLine a b c).getD k 0 = nI g := by
  have h1 := oLine_ok h
  have hk2 : k < (oLine a b c).length := by rw [h1.1]; exact hk
  have h2 : (oLine a b c).getD k 0 = (oLine a b c)[k] := by
    rw [List.getD_eq_getElem?_getD, List.getElem?_eq_getElem hk2]; rfl
  rcases h1.2.1 _ (List.getElem_mem hk2) with h | h | h | h
  · exact ⟨0, by decide, h2.trans h⟩
  · exact ⟨1, by decide, h2.trans h⟩
  · exact ⟨2, by decide, h2.trans h⟩
  · exact ⟨3, by decide, h2.trans h⟩
-- a slice holds a list in its line
def mHas (M N : zS) (z : Nat) (L : List Int32) : Prop := z = L.length ∧ (∀ j, z_I N 22 0 j = z_I M 22 0 j) ∧ (∀ j, j < L.length → z_I N 32 0 j = L.getD j 0)
theorem mHas.add {M N : zS} {z : Nat} {L : List Int32} (h : mHas M N z L) (o : Int32) : mHas M (z_uI N 32 0 z o) (z + 1) (L ++ [o]) := by
  refine ⟨by rw [List.length_append, h.1]; rfl, fun j => zn_u22.trans (h.2.1 j), fun j hj => ?_⟩
  rw [List.length_append] at hj
  have hj : j < L.length + 1 := hj
  rw [z_I_u]
  by_cases e : j = z
  · rw [if_pos ⟨rfl, rfl, e⟩, e, h.1]
    simp
  · rw [if_neg fun q => e q.2.2, h.2.2 j (by have := h.1; omega), List.getD_eq_getElem?_getD, List.getD_eq_getElem?_getD, List.getElem?_append_left (by have := h.1; omega)]
abbrev mO (M : zS) (s j : Nat) : Int32 := z_I M 22 0 (18 + 8 * s + 5 + j)
theorem mL1_has {M : zS} {p : Nat × zS} {L : List Int32} {j : Nat} (h : mHas M p.2 p.1 L) : mHas M (mL1S s j p).2 (mL1S s j p).1 (oAdd (mO M s j) L) := by
  unfold mL1S oAdd
  have e : z_I p.2 22 0 (18 + 8 * s + 5 + j) = mO M s j := h.2.1 _
  rw [e]
  split
  · exact h
  · exact h.add _
theorem mL2_has {M : zS} : ∀ (n i z : Nat) (N : zS) (L : List Int32), mHas M N z L → mHas M (mL2 s n i z N) (oL2 (mO M s 0) (mO M s 1) (mO M s 2) n i L).length (oL2 (mO M s 0) (mO M s 1) (mO M s 2) n i L)
  | 0, _, z, N, L, h => ⟨rfl, h.2⟩
  | n + 1, i, z, N, L, h => by
    unfold mL2 oL2
    rw [h.1]
    split
    · exact ⟨rfl, h.2⟩
    · have e : mOth N s i ↔ (¬ mO M s 0 = nI i ∧ ¬ mO M s 1 = nI i ∧ ¬ mO M s 2 = nI i) := by
        unfold mOth
        rw [h.2.1, h.2.1, h.2.1]
      by_cases q : mOth N s i
      · rw [if_pos q, if_pos (e.mp q)]
        have := h.add (nI i)
        rw [h.1] at this
        exact mL2_has n (i + 1) _ _ _ this
      · rw [if_neg q, if_neg (mt e.mpr q)]
        have := h
        rw [h.1] at this
        exact mL2_has n (i + 1) _ _ _ this
theorem mLine_has {M : zS} : mHas M (mLine M s) (oLine (mO M s 0) (mO M s 1) (mO M s 2)).length (oLine (mO M s 0) (mO M s 1) (mO M s 2)) := by
  have h0 : mHas M M 0 [] := ⟨rfl, fun _ => rfl, fun j hj => absurd hj (Nat.not_lt_zero _)⟩
  have h1 := mL1_has (s := s) (j := 0) (p := (0, M)) h0
  have h2 := mL1_has (s := s) (j := 1) h1
  have h3 := mL1_has (s := s) (j := 2) h2
  exact mL2_has 4 0 _ _ _ h3
def mOok (M : zS) (s : Nat) : Prop := oOk (mO M s 0) (mO M s 1) (mO M s 2)
theorem mLine_k {M : zS} (h : mOok M s) {k : Nat} (hk : k < 4) : z_I (mLine M s) 32 0 k = (oLine (mO M s 0) (mO M s 1) (mO M s 2)).getD k 0 := mLine_has.2.2 k (by rw [(oLine_ok h).1]; exact hk)
theorem mLine_r {M : zS} {j : Nat} : z_I (mLine M s) 22 0 j = z_I M 22 0 j := mLine_has.2.1 j
theorem mOok.ord {M : zS} (h : mOok M s) : mOrd M s := fun j hj => by
  match j, hj with
  | 0, _ => exact h.1
  | 1, _ => exact h.2.1
  | 2, _ => exact h.2.2.1
-- only the line was changed
theorem mL1S_j {p : Nat × zS} {j q : Nat} : z_J (mL1S s j p).2 23 0 q = z_J p.2 23 0 q := by
  unfold mL1S
  split
  · rfl
  · exact z_J_uI ..
end Mo4
