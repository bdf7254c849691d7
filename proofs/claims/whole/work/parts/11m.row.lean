/-! ===== THE CLASS'S ROW ===== -/
section Re13
variable {d i k g s l l' t q n p T j L : Nat} {v w a b c e f x y z τ : Int32} {S S' S0 X M M' : zS} {B c0 : Int} {P : Nat → Prop} {E : Nat → Int} {K : Nat → Nat}
-- entering
theorem cEntGo_is (e : Int32) : ∀ (n : Nat) (S : zS), ∃ p, p ≤ n ∧ (∀ j, j < p → z_I (cEntGo e n S) 11 0 j = z_I S 11 0 j) ∧ z_I (cEntGo e n S) 11 0 p = e ∧ (∀ j, p < j → j ≤ n → z_I (cEntGo e n S) 11 0 j = z_I S 11 0 (j - 1)) ∧ (∀ j, n < j → z_I (cEntGo e n S) 11 0 j = z_I S 11 0 j) ∧ (p = 0 ∨ ¬ e < z_I S 11 0 (p - 1)) ∧ ∀ j, p ≤ j → j < n → e < z_I S 11 0 j
  | 0, S => by
    refine ⟨0, Nat.le_refl _, fun j hj => absurd hj (Nat.not_lt_zero _), ?_, fun j h1 h2 => by omega, fun j hj => ?_, .inl rfl, fun j h1 h2 => by omega⟩
    · show z_I (z_uI S 11 0 0 e) 11 0 0 = e
      rw [z_I_u, if_pos ⟨rfl, rfl, rfl⟩]
    · show z_I (z_uI S 11 0 0 e) 11 0 j = _
      rw [z_I_u, if_neg (by omega)]
  | n + 1, S => by
    unfold cEntGo
    by_cases u : e < z_I S 11 0 n
    · rw [if_pos u]
      obtain ⟨p, h1, h2, h3, h4, h5, h6, h7⟩ := cEntGo_is e n (z_uI S 11 0 (n + 1) (z_I S 11 0 n))
      have un : ∀ j, j ≠ n + 1 → z_I (z_uI S 11 0 (n + 1) (z_I S 11 0 n)) 11 0 j = z_I S 11 0 j := fun j hj => by rw [z_I_u, if_neg (by omega)]
      refine ⟨p, by omega, fun j hj => by rw [h2 j hj, un j (by omega)], h3, fun j a1 a2 => ?_, fun j hj => by rw [h5 j (by omega), un j (by omega)], ?_, fun j a1 a2 => ?_⟩
      · rcases Nat.lt_or_ge n j with w | w
        · have : j = n + 1 := by omega
          subst this
          rw [h5 _ (by omega), z_I_u, if_pos ⟨rfl, rfl, rfl⟩]; rfl
        · rw [h4 j a1 w, un _ (by omega)]
      · rcases h6 with w | w
        · exact .inl w
        · exact .inr (by rw [un _ (by omega)] at w; exact w)
      · rcases Nat.lt_or_ge j n with w | w
        · have := h7 j a1 w
          rw [un j (by omega)] at this; exact this
        · rw [show j = n by omega]; exact u
    · rw [if_neg u]
      refine ⟨n + 1, Nat.le_refl _, fun j hj => by rw [z_I_u, if_neg (by omega)], by rw [z_I_u, if_pos ⟨rfl, rfl, rfl⟩], fun j h1 h2 => by omega, fun j hj => by rw [z_I_u, if_neg (by omega)], .inr u, fun j h1 h2 => by omega⟩
def rowIs (S : zS) (E : Nat → Int) (P : Nat → Prop) (L n : Nat) (K : Nat → Nat) : Prop :=
  z_I S 0 0 11 = nI n ∧ n ≤ L ∧ (∀ j, j < n → (z_I S 11 0 j).toInt = E (K j)) ∧ (∀ a b, a < b → b < n → E (K a) < E (K b)) ∧ (∀ j, j < n → K j < L ∧ P (K j)) ∧ ∀ l, l < L → P l → ∃ j, j < n ∧ K j = l
theorem rowIs.enter (h : rowIs X E P i n K) (hi : i < 40) (hp : P i) (hv : (v * 40 + nI i).toInt = E i) (hE : ∀ j, j < n → E (K j) ≠ E i) : ∃ K', rowIs (cEnter X v i) E P (i + 1) (n + 1) K' := by
  obtain ⟨h1, h2, h3, h4, h5, h6⟩ := h
  have eN : (z_I X 0 0 11).toNatClampNeg = n := by rw [h1, z_nIc (by omega)]
  have hlt : z_I X 0 0 11 < 40 := by rw [h1, i_lt, i_nI (by omega)]; show (n : Int) < 40; omega
  unfold cEnter
  rw [if_pos hlt, eN]
  obtain ⟨p, p1, p2, p3, p4, p5, p6, p7⟩ := cEntGo_is (v * 40 + nI i) n X
  generalize hX : cEntGo (v * 40 + nI i) n X = X1 at *
  have r11 : ∀ j, z_I (z_uI X1 0 0 11 (z_I X 0 0 11 + 1)) 11 0 j = z_I X1 11 0 j := fun j => rfl
  refine ⟨fun j => if j < p then K j else if j = p then i else K (j - 1), ?_, by omega, fun j hj => ?_, fun a b hab hb => ?_, fun j hj => ?_, fun l hl hP => ?_⟩
  · rw [z_I_u, if_pos ⟨rfl, rfl, rfl⟩, h1]; exact nI_add n 1
  · show _ = E (if j < p then K j else if j = p then i else K (j - 1))
    rw [r11]
    by_cases u : j < p
    · rw [if_pos u, p2 j u]; exact h3 j (by omega)
    · rw [if_neg u]
      by_cases u2 : j = p
      · rw [if_pos u2, u2, p3, hv]
      · rw [if_neg u2, p4 j (by omega) (by omega)]; exact h3 _ (by omega)
  · show E (if a < p then K a else if a = p then i else K (a - 1)) < E (if b < p then K b else if b = p then i else K (b - 1))
    have lo : ∀ j, j < p → E (K j) < E i := fun j hj => by
      rcases p6 with w | w
      · omega
      · rw [i_lt, hv, h3 _ (by omega)] at w
        have := hE (p - 1) (by omega)
        rcases Nat.lt_or_ge j (p - 1) with z | z
        · have := h4 j (p - 1) z (by omega); omega
        · rw [show j = p - 1 by omega]; omega
    have hi' : ∀ j, p ≤ j → j < n → E i < E (K j) := fun j a1 a2 => by
      have := p7 j a1 a2
      rw [i_lt, hv, h3 _ a2] at this; exact this
    by_cases u : a < p
    · rw [if_pos u]
      by_cases w : b < p
      · rw [if_pos w]; exact h4 a b hab (by omega)
      · rw [if_neg w]
        by_cases w2 : b = p
        · rw [if_pos w2]; exact lo a u
        · rw [if_neg w2]; exact h4 a (b - 1) (by omega) (by omega)
    · rw [if_neg u, if_neg (by omega : ¬ b < p), if_neg (by omega : ¬ b = p)]
      by_cases u2 : a = p
      · rw [if_pos u2]; exact hi' (b - 1) (by omega) (by omega)
      · rw [if_neg u2]; exact h4 (a - 1) (b - 1) (by omega) (by omega)
  · show (if j < p then K j else if j = p then i else K (j - 1)) < i + 1 ∧ P (if j < p then K j else if j = p then i else K (j - 1))
    by_cases u : j < p
    · rw [if_pos u]; have := h5 j (by omega); exact ⟨by omega, this.2⟩
    · rw [if_neg u]
      by_cases u2 : j = p
      · rw [if_pos u2]; exact ⟨by omega, hp⟩
      · rw [if_neg u2]; have := h5 (j - 1) (by omega); exact ⟨by omega, this.2⟩
  · show ∃ j, j < n + 1 ∧ (if j < p then K j else if j = p then i else K (j - 1)) = l
    by_cases u : l = i
    · exact ⟨p, by omega, by rw [if_neg (by omega), if_pos rfl, u]⟩
    · obtain ⟨j, a1, a2⟩ := h6 l (by omega) hP
      by_cases w : j < p
      · exact ⟨j, by omega, by rw [if_pos w]; exact a2⟩
      · exact ⟨j + 1, by omega, by rw [if_neg (by omega), if_neg (by omega), Nat.add_sub_cancel]; exact a2⟩
-- a slice that differs in the row alone
def Rw0 (S X : zS) : Prop := (∀ k i f, k ≠ 11 → ¬ (k = 0 ∧ i = 0 ∧ f = 11) → z_I X k i f = z_I S k i f) ∧ ∀ k i f, z_J X k i f = z_J S k i f
theorem Rw0.rf : Rw0 S S := ⟨fun _ _ _ _ _ => rfl, fun _ _ _ => rfl⟩
theorem Rw0.tr {S2 : zS} (h : Rw0 S S') (g : Rw0 S' S2) : Rw0 S S2 := ⟨fun k i f a b => (g.1 k i f a b).trans (h.1 k i f a b), fun k i f => (g.2 k i f).trans (h.2 k i f)⟩
theorem Rw0.en : Rw0 S (cEnter S v i) := ⟨fun _ _ _ h1 h2 => cEnter_o h1 h2, fun _ _ _ => cEnter_J⟩
theorem Rw0.alk (h : Rw0 S X) : Alk S X := ⟨fun k i f u => h.1 k i f (by unfold lvI at u; omega) (by unfold lvI at u; omega), fun k i f _ => h.2 k i f⟩
theorem row_go (F : Nat → zS → zS) (kv : Nat → Int32) (hF : ∀ i X, Rw0 S X → i < L → (P i ∧ F i X = cEnter X (kv i) i) ∨ (¬ P i ∧ F i X = X)) (hE : ∀ i, i < L → P i → (kv i * 40 + nI i).toInt = E i) (hE2 : ∀ i j, i < L → j < L → E i = E j → i = j) (hL : L ≤ 40) : ∀ (m i : Nat) (X : zS) (n : Nat) (K : Nat → Nat), i + m = L → Rw0 S X → rowIs X E P i n K → ∃ n K, Rw0 S (z_it F m i X) ∧ rowIs (z_it F m i X) E P L n K
  | 0, i, X, n, K, hi, hr, h => ⟨n, K, hr, by rw [show L = i by omega]; exact h⟩
  | m + 1, i, X, n, K, hi, hr, h => by
    show ∃ n K, Rw0 S (z_it F m (i + 1) (F i X)) ∧ rowIs (z_it F m (i + 1) (F i X)) E P L n K
    rcases hF i X hr (by omega) with ⟨hp, e⟩ | ⟨hp, e⟩
    · obtain ⟨K', h'⟩ := h.enter (by omega) hp (hE i (by omega) hp) fun j hj u => by
        have := (h.2.2.2.2.1 j hj).1
        have := hE2 _ _ (by omega) (by omega) u
        omega
      rw [e]
      exact row_go F kv hF hE hE2 hL m (i + 1) _ _ _ (by omega) (.tr hr .en) h'
    · rw [e]
      obtain ⟨h1, h2, h3, h4, h5, h6⟩ := h
      refine row_go F kv hF hE hE2 hL m (i + 1) _ n K (by omega) hr ⟨h1, by omega, h3, h4, fun j hj => ⟨by have := (h5 j hj).1; omega, (h5 j hj).2⟩, fun l hl hP => h6 l ?_ hP⟩
      rcases Nat.lt_or_ge l i with u | u
      · exact u
      · exact absurd (show P i by rw [show i = l by omega]; exact hP) hp
theorem row_up (F : Nat → zS → zS) (kv : Nat → Int32) (hF : ∀ i X, Rw0 S X → i < cL S → (P i ∧ F i X = cEnter X (kv i) i) ∨ (¬ P i ∧ F i X = X)) (hE : ∀ i, i < cL S → P i → (kv i * 40 + nI i).toInt = E i) (hE2 : ∀ i j, i < cL S → j < cL S → E i = E j → i = j) (hL : cL S ≤ 40) : ∃ n K, Rw0 S (cLUp F S) ∧ rowIs (cLUp F S) E P (cL S) n K := by
  refine row_go F kv hF hE hE2 hL (cL S) 0 (z_uI S 0 0 11 0) 0 (fun _ => 0) (by omega) ⟨fun k i f h1 h2 => by rw [z_I_u, if_neg h2], fun _ _ _ => rfl⟩ ⟨by rw [z_I_u, if_pos ⟨rfl, rfl, rfl⟩]; rfl, by omega, ?_, ?_, ?_, ?_⟩ <;> intros <;> omega
-- what stands in the row
theorem i_div40 (h0 : 0 ≤ a.toInt) (h1 : a.toInt ≤ 1000000) : (a / 40).toInt = a.toInt / 40 := by
  rw [Int32.toInt_div, Int.bmod_eq_of_le]
  · show a.toInt.tdiv 40 = _
    rw [Int.tdiv_eq_ediv_of_nonneg h0]
  · have := Int.tdiv_nonneg h0 (show (0 : Int) ≤ (40 : Int32).toInt by decide)
    omega
  · have := Int.tdiv_le_self (a := a.toInt) (40 : Int32).toInt h0
    omega
theorem rowIs.rw (h : rowIs X E P L n K) (hL : L ≤ 40) (hE : ∀ l, l < L → P l → ∃ ρ : Int, E l = ρ * 40 + l ∧ 0 ≤ ρ ∧ ρ ≤ 20000) (hj : j < n) : cInRow X (nI j) = nI (K j) ∧ cRw X j = K j := by
  obtain ⟨h1, h2, h3, h4, h5, h6⟩ := h
  have h5' := h5 j hj
  obtain ⟨ρ, e1, e2, e3⟩ := hE _ h5'.1 h5'.2
  have e4 := h3 j hj
  have e : cInRow X (nI j) = nI (K j) := by
    unfold cInRow
    rw [if_pos ⟨by rw [i_le, i_nI (by omega)]; show (0 : Int) ≤ _; omega, by rw [h1, i_lt, i_nI (by omega), i_nI (by omega)]; omega⟩, z_nIc (by omega)]
    have e5 : (z_I X 11 0 j / 40).toInt = ρ := by rw [i_div40 (by omega) (by omega)]; omega
    have z40 : (40 : Int32).toInt = 40 := rfl
    have e6 : (z_I X 11 0 j / 40 * 40).toInt = ρ * 40 := by
      rw [i_mul (by rw [e5, z40]; omega) (by rw [e5, z40]; omega), e5, z40]
    rw [i_eq, i_sub (by omega) (by omega), e6, e4, e1, i_nI (by omega)]; omega
  exact ⟨e, by unfold cRw; rw [e, z_nIc (by omega)]⟩
end Re13
