/-! ===== CLASS AND MODEL: numbers, the relation ===== -/
section Re6
variable {d i k g s l t q n p : Nat} {v w a b c e f x y z : Int32}
theorem i_add {a b : Int32} (h1 : -2147483648 ≤ a.toInt + b.toInt) (h2 : a.toInt + b.toInt < 2147483648) : (a + b).toInt = a.toInt + b.toInt := by
  rw [Int32.toInt_add, Int.bmod_eq_of_le] <;> omega
theorem i_sub {a b : Int32} (h1 : -2147483648 ≤ a.toInt - b.toInt) (h2 : a.toInt - b.toInt < 2147483648) : (a - b).toInt = a.toInt - b.toInt := by
  rw [Int32.toInt_sub, Int.bmod_eq_of_le] <;> omega
theorem i_mul {a b : Int32} (h1 : -2147483648 ≤ a.toInt * b.toInt) (h2 : a.toInt * b.toInt < 2147483648) : (a * b).toInt = a.toInt * b.toInt := by
  rw [Int32.toInt_mul, Int.bmod_eq_of_le] <;> omega
theorem i_neg {a : Int32} (h1 : -2147483648 < a.toInt) : (-a).toInt = -a.toInt := by
  have := Int32.toInt_lt a
  rw [Int32.toInt_neg, Int.bmod_eq_of_le] <;> omega
theorem i_le : a ≤ b ↔ a.toInt ≤ b.toInt := Int32.le_iff_toInt_le
theorem i_lt : a < b ↔ a.toInt < b.toInt := Int32.lt_iff_toInt_lt
theorem i_eq : a = b ↔ a.toInt = b.toInt := Int32.toInt_inj.symm
theorem i_nat : (a.toNatClampNeg : Int) = if 0 ≤ a.toInt then a.toInt else 0 := by
  show ((a.toInt.toNat : Nat) : Int) = _
  split <;> omega
theorem i_nI (h : n < 2147483648) : (nI n).toInt = n := nI_toInt h
theorem i_cm : (cMin x y).toInt = if y.toInt < x.toInt then y.toInt else x.toInt := by
  unfold cMin
  by_cases h : y < x
  · rw [if_pos h, if_pos (i_lt.mp h)]
  · rw [if_neg h, if_neg fun q => h (i_lt.mpr q)]
theorem mMin_c : mMin x y = cMin x y := by
  unfold mMin cMin
  by_cases h : y < x
  · rw [if_pos h, if_pos (Int32.le_of_lt h)]
  · rw [if_neg h]
    by_cases h2 : y ≤ x
    · rw [if_pos h2]; exact Int32.le_antisymm h2 (Int32.not_lt.mp h)
    · rw [if_neg h2]
theorem z_it_add {α : Type} {F : Nat → α → α} : ∀ (a b i : Nat) (x : α), z_it F (a + b) i x = z_it F b (i + a) (z_it F a i x)
  | 0, b, i, x => by rw [Nat.zero_add]; rfl
  | a + 1, b, i, x => by
    rw [show a + 1 + b = (a + b) + 1 by omega]
    show z_it F (a + b) (i + 1) (F i x) = z_it F b (i + (a + 1)) (z_it F a (i + 1) (F i x))
    rw [z_it_add a b (i + 1), show i + 1 + a = i + (a + 1) by omega]
theorem z_it_ext {α : Type} {F H : Nat → α → α} : ∀ (n i : Nat) (x : α), (∀ j y, i ≤ j → j < i + n → F j y = H j y) → z_it F n i x = z_it H n i x
  | 0, _, _, _ => rfl
  | n + 1, i, x, h => by
    show z_it F n (i + 1) (F i x) = z_it H n (i + 1) (H i x)
    rw [h i x (Nat.le_refl _) (by omega)]
    exact z_it_ext n (i + 1) _ fun j y h1 h2 => h j y (by omega) (by omega)
theorem z_it_idd {α : Type} {F : Nat → α → α} (P : α → Prop) : ∀ (n i : Nat) (x : α), P x → (∀ j y, P y → i ≤ j → j < i + n → F j y = y) → z_it F n i x = x
  | 0, _, _, _, _ => rfl
  | n + 1, i, x, hp, h => by
    show z_it F n (i + 1) (F i x) = x
    rw [h i x hp (Nat.le_refl _) (by omega)]
    exact z_it_idd P n (i + 1) x hp fun j y hy h1 h2 => h j y hy (by omega) (by omega)
-- orders
theorem oPre_all : ∀ o p q : Fin 5, (oNum o = oNum p → oNum o = -1) → (oNum o = oNum q → oNum o = -1) → (oNum p = oNum q → oNum p = -1) → (oNum o = -1 → oNum p = -1) → (oNum p = -1 → oNum q = -1) → (oNum o ≠ -1 → (oLine (oNum o) (oNum p) (oNum q)).getD 0 0 = oNum o) ∧ (oNum p ≠ -1 → (oLine (oNum o) (oNum p) (oNum q)).getD 1 0 = oNum p) ∧ (oNum q ≠ -1 → (oLine (oNum o) (oNum p) (oNum q)).getD 2 0 = oNum q) := by decide
def rOr (S : zS) (r : Nat → Int32) (s : Nat) : Prop :=
  oOk (r (18 + 8 * s + 5 + 0)) (r (18 + 8 * s + 5 + 1)) (r (18 + 8 * s + 5 + 2)) ∧
  ((r (18 + 8 * s + 5 + 0) = -1 → r (18 + 8 * s + 5 + 1) = -1) ∧ (r (18 + 8 * s + 5 + 1) = -1 → r (18 + 8 * s + 5 + 2) = -1)) ∧
  (∀ j, j < 3 → r (18 + 8 * s + 5 + j) = -1 ∨ ∃ g, g < cG S ∧ g < 4 ∧ r (18 + 8 * s + 5 + j) = nI g) ∧
  z_I S 4 s 2 = (if r (18 + 8 * s + 5 + 0) = -1 then nI 0 else if r (18 + 8 * s + 5 + 1) = -1 then nI 1 else if r (18 + 8 * s + 5 + 2) = -1 then nI 2 else nI 3) ∧
  ∀ i, i < 4 → z_I S 16 s i = (oLine (r (18 + 8 * s + 5 + 0)) (r (18 + 8 * s + 5 + 1)) (r (18 + 8 * s + 5 + 2))).getD i 0
theorem rOr.pre {S : zS} {r : Nat → Int32} (h : rOr S r s) : ∀ i, i < 3 → r (18 + 8 * s + 5 + i) ≠ -1 → z_I S 16 s i = r (18 + 8 * s + 5 + i) := by
  obtain ⟨⟨h1, h2, h3, h4, h5, h6⟩, ⟨g1, g2⟩, -, -, g3⟩ := h
  obtain ⟨o, eo⟩ := oNum_of h1
  obtain ⟨p, ep⟩ := oNum_of h2
  obtain ⟨q, eq⟩ := oNum_of h3
  rw [eo, ep, eq] at g3
  rw [eo, ep] at h4 g1
  rw [eo, eq] at h5
  rw [ep, eq] at h6 g2
  obtain ⟨a1, a2, a3⟩ := oPre_all o p q h4 h5 h6 g1 g2
  intro i hi hn
  rcases Nat.lt_or_ge i 1 with u | u
  · have : i = 0 := by omega
    subst this
    rw [g3 0 (by omega), eo]; rw [eo] at hn; exact a1 hn
  rcases Nat.lt_or_ge i 2 with u2 | u2
  · have : i = 1 := by omega
    subst this
    rw [g3 1 (by omega), ep]; rw [ep] at hn; exact a2 hn
  · have : i = 2 := by omega
    subst this
    rw [g3 2 (by omega), eq]; rw [eq] at hn; exact a3 hn
theorem z_nIc (h : n < 2147483648) : (nI n).toNatClampNeg = n := nI_clamp h
theorem rOr.ord {S : zS} {r : Nat → Int32} (h : rOr S r s) : cOrd S s ≤ 3 ∧ z_I S 4 s 2 = nI (cOrd S s) ∧ (∀ i, i < cOrd S s → r (18 + 8 * s + 5 + i) ≠ -1) ∧ ∀ i, cOrd S s ≤ i → i < 3 → r (18 + 8 * s + 5 + i) = -1 := by
  obtain ⟨-, ⟨g1, g2⟩, -, g3, -⟩ := h
  unfold cOrd
  by_cases u0 : r (18 + 8 * s + 5 + 0) = -1
  · rw [if_pos u0] at g3
    rw [g3, z_nIc (by decide)]
    refine ⟨by omega, rfl, fun i hi => absurd hi (Nat.not_lt_zero _), fun i _ hi => ?_⟩
    have : i = 0 ∨ i = 1 ∨ i = 2 := by omega
    rcases this with rfl | rfl | rfl
    · exact u0
    · exact g1 u0
    · exact g2 (g1 u0)
  rw [if_neg u0] at g3
  by_cases u1 : r (18 + 8 * s + 5 + 1) = -1
  · rw [if_pos u1] at g3
    rw [g3, z_nIc (by decide)]
    refine ⟨by omega, rfl, fun i hi => ?_, fun i h1 hi => ?_⟩
    · rw [show i = 0 by omega]; exact u0
    · have : i = 1 ∨ i = 2 := by omega
      rcases this with rfl | rfl
      · exact u1
      · exact g2 u1
  rw [if_neg u1] at g3
  by_cases u2 : r (18 + 8 * s + 5 + 2) = -1
  · rw [if_pos u2] at g3
    rw [g3, z_nIc (by decide)]
    refine ⟨by omega, rfl, fun i hi => ?_, fun i h1 hi => ?_⟩
    · have : i = 0 ∨ i = 1 := by omega
      rcases this with rfl | rfl
      · exact u0
      · exact u1
    · rw [show i = 2 by omega]; exact u2
  rw [if_neg u2] at g3
  rw [g3, z_nIc (by decide)]
  refine ⟨by omega, rfl, fun i hi => ?_, fun i h1 hi => by omega⟩
  have : i = 0 ∨ i = 1 ∨ i = 2 := by omega
  rcases this with rfl | rfl | rfl
  · exact u0
  · exact u1
  · exact u2
theorem rOr.lo {S : zS} {r : Nat → Int32} (h : rOr S r s) (hi : i < cOrd S s) : cLn S s i < cG S ∧ cLn S s i < 4 ∧ r (18 + 8 * s + 5 + i) = nI (cLn S s i) := by
  obtain ⟨o1, o2, o3, o4⟩ := h.ord
  have hp := h.pre i (by omega) (o3 i hi)
  rcases h.2.2.1 i (by omega) with u | ⟨g, h1, h2, h3⟩
  · exact absurd u (o3 i hi)
  · have e : cLn S s i = g := by unfold cLn; rw [hp, h3, z_nIc (by omega)]
    rw [e]; exact ⟨h1, h2, h3⟩
theorem rOr.hi {S : zS} {r : Nat → Int32} (h : rOr S r s) (hi : cOrd S s ≤ i) (h3 : i < 3) : r (18 + 8 * s + 5 + i) = -1 := h.ord.2.2.2 i hi h3
theorem rOr.at {S : zS} {r : Nat → Int32} (h : rOr S r s) (hi : i < 4) : cLn S s i < 4 ∧ z_I S 16 s i = nI (cLn S s i) ∧ (oLine (r (18 + 8 * s + 5 + 0)) (r (18 + 8 * s + 5 + 1)) (r (18 + 8 * s + 5 + 2))).getD i 0 = nI (cLn S s i) := by
  obtain ⟨g, hg, e⟩ := oLine_g h.1 hi
  have e2 := h.2.2.2.2 i hi
  have e3 : cLn S s i = g := by unfold cLn; rw [e2, e, z_nIc (by omega)]
  rw [e3]
  exact ⟨hg, by rw [e2, e], e⟩
theorem rOr.inj {S : zS} {r : Nat → Int32} {j : Nat} (h : rOr S r s) (hi : i < 4) (hj : j < 4) (he : cLn S s i = cLn S s j) : i = j := by
  obtain ⟨l1, -, l2⟩ := oLine_ok h.1
  have e1 := (h.at hi).2.2
  have e2 := (h.at hj).2.2
  rw [he, ← e2] at e1
  rw [List.getD_eq_getElem?_getD, List.getElem?_eq_getElem (by omega), List.getD_eq_getElem?_getD, List.getElem?_eq_getElem (by omega)] at e1
  exact (List.getElem_inj l2).mp e1
theorem rOr.sur {S : zS} {r : Nat → Int32} (h : rOr S r s) (hg : g < 4) : ∃ i, i < 4 ∧ cLn S s i = g := by
  have a0 := (h.at (show 0 < 4 by omega)).1
  have a1 := (h.at (show 1 < 4 by omega)).1
  have a2 := (h.at (show 2 < 4 by omega)).1
  have a3 := (h.at (show 3 < 4 by omega)).1
  have d01 : cLn S s 0 ≠ cLn S s 1 := fun e => absurd (h.inj (by omega) (by omega) e) (by omega)
  have d02 : cLn S s 0 ≠ cLn S s 2 := fun e => absurd (h.inj (by omega) (by omega) e) (by omega)
  have d03 : cLn S s 0 ≠ cLn S s 3 := fun e => absurd (h.inj (by omega) (by omega) e) (by omega)
  have d12 : cLn S s 1 ≠ cLn S s 2 := fun e => absurd (h.inj (by omega) (by omega) e) (by omega)
  have d13 : cLn S s 1 ≠ cLn S s 3 := fun e => absurd (h.inj (by omega) (by omega) e) (by omega)
  have d23 : cLn S s 2 ≠ cLn S s 3 := fun e => absurd (h.inj (by omega) (by omega) e) (by omega)
  have : cLn S s 0 = g ∨ cLn S s 1 = g ∨ cLn S s 2 = g ∨ cLn S s 3 = g := by omega
  rcases this with u | u | u | u
  · exact ⟨0, by omega, u⟩
  · exact ⟨1, by omega, u⟩
  · exact ⟨2, by omega, u⟩
  · exact ⟨3, by omega, u⟩
def rBg (S : zS) (r : Nat → Int32) (l : Nat) : Prop := (z_I S 3 l 0 = 1 ∨ z_I S 3 l 0 = 2 ∨ z_I S 3 l 0 = 3 → r (211 + 17 * l + 7) = z_I S 3 l 7) ∧ (z_I S 3 l 0 = 0 ∨ z_I S 3 l 0 = 4 → z_I S 3 l 7 = -1)
def rZe (S : zS) (r : Nat → Int32) (s : Nat → Int64) : Prop := (∀ g, cG S ≤ g → g < 4 → (∀ f, f < 3 → r (6 + 3 * g + f) = 0) ∧ s (2 * g) = 0 ∧ s (2 * g + 1) = 0) ∧ ∀ i, cS S ≤ i → i < 6 → ∀ k, k < 5 → r (18 + 8 * i + k) = 0
def Rel (S : zS) (r : Nat → Int32) (s : Nat → Int64) : Prop :=
  cCnts S ∧ rEq (cG S) (cS S) (cL S) S r ∧ rEJ (cG S) (cL S) S s ∧ (∀ k, k < 5 → rRt S r k ∧ cTold S k ≤ 13) ∧ (∀ i, i < cS S → rOr S r i) ∧ (∀ l, l < cL S → rBg S r l) ∧ rZe S r s
abbrev RM (S M : zS) : Prop := Rel S (rR M) (rRJ M)
section
variable {S : zS} {r : Nat → Int32} {s : Nat → Int64}
theorem Rel.cn (h : Rel S r s) : cCnts S := h.1
theorem Rel.eq (h : Rel S r s) : rEq (cG S) (cS S) (cL S) S r := h.2.1
theorem Rel.ej (h : Rel S r s) : rEJ (cG S) (cL S) S s := h.2.2.1
theorem Rel.rt (h : Rel S r s) (hk : k < 5) : rRt S r k := (h.2.2.2.1 k hk).1
theorem Rel.t13 (h : Rel S r s) (hk : k < 5) : cTold S k ≤ 13 := (h.2.2.2.1 k hk).2
theorem Rel.or (h : Rel S r s) (hi : i < cS S) : rOr S r i := h.2.2.2.2.1 i hi
theorem Rel.bg (h : Rel S r s) (hl : l < cL S) : rBg S r l := h.2.2.2.2.2.1 l hl
theorem Rel.ze (h : Rel S r s) : rZe S r s := h.2.2.2.2.2.2
theorem Rel.G4 (h : Rel S r s) : cG S ≤ 4 := h.1.1.2
theorem Rel.S6 (h : Rel S r s) : cS S ≤ 6 := h.1.2.1.2
theorem Rel.L40 (h : Rel S r s) : cL S ≤ 40 := h.1.2.2.2
end
end Re6
