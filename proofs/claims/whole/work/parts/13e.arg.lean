set_option maxHeartbeats 400000
/-! ===== CLASS AND MODEL: the first day that is least ===== -/
section Re37
variable {d i k g s l l' t q n p T j L m D : Nat} {v w a b c e x y z : Int32} {S S' M M' N S0 X : zS} {B : Int} {f : Nat → Int}
def argm (f : Nat → Int) (n y : Nat) : Prop := y ≤ n ∧ (∀ x, x ≤ n → f y ≤ f x) ∧ ∀ x, x < y → f y < f x
theorem argm_u {y y' : Nat} (h : argm f n y) (h' : argm f n y') : y = y' := by
  rcases Nat.lt_trichotomy y y' with u | u | u
  · have := h'.2.2 y u; have := h.2.1 y' h'.1; omega
  · exact u
  · have := h.2.2 y' u; have := h'.2.1 y h.1; omega
theorem argm_st {y : Nat} (h : argm f n y) : (f (n + 1) < f y → argm f (n + 1) (n + 1)) ∧ (¬ f (n + 1) < f y → argm f (n + 1) y) := by
  refine ⟨fun u => ⟨Nat.le_refl _, fun x hx => ?_, fun x hx => ?_⟩, fun u => ⟨by have := h.1; omega, fun x hx => ?_, h.2.2⟩⟩
  · by_cases e : x = n + 1
    · rw [e]; exact Int.le_refl _
    · have := h.2.1 x (by omega); omega
  · have := h.2.1 x (by omega); omega
  · by_cases e : x = n + 1
    · rw [e]; omega
    · exact h.2.1 x (by omega)
-- told days, D + c with 0 < c
def tdC (S : zS) (k D t c : Nat) : Prop := ∃ j, j < t ∧ z_I S 12 k j = nI (D + c)
theorem argm_of {y : Nat} {C : Nat → Prop} (hy : y ≤ n) (h0 : f y ≤ f 0 ∧ (0 < y → f y < f 0)) (hC : ∀ c, 0 < c → c ≤ n → C c → f y ≤ f c ∧ (c < y → f y < f c)) (hN : ∀ c, c < n → ¬ C (c + 1) → f c ≤ f (c + 1)) : argm f n y := by
  have key : ∀ x, x ≤ n → ∃ c, c ≤ x ∧ (c = 0 ∨ (0 < c ∧ C c)) ∧ f c ≤ f x := fun x => by
    induction x with
    | zero => exact fun _ => ⟨0, Nat.le_refl _, .inl rfl, Int.le_refl _⟩
    | succ x ih =>
      intro hx
      by_cases u : C (x + 1)
      · exact ⟨x + 1, Nat.le_refl _, .inr ⟨by omega, u⟩, Int.le_refl _⟩
      · obtain ⟨c, h1, h2, h3⟩ := ih (by omega)
        exact ⟨c, by omega, h2, Int.le_trans h3 (hN x (by omega) u)⟩
  refine ⟨hy, fun x hx => ?_, fun x hx => ?_⟩
  · obtain ⟨c, h1, h2, h3⟩ := key x hx
    rcases h2 with rfl | ⟨h4, h5⟩
    · have := h0.1; omega
    · have := (hC c h4 (by omega) h5).1; omega
  · obtain ⟨c, h1, h2, h3⟩ := key x (by omega)
    rcases h2 with rfl | ⟨h4, h5⟩
    · have := h0.2 (by omega); omega
    · have := (hC c h4 (by omega) h5).2 (by omega); omega
-- the class's walk over the told days: the best of the first day and those told before i
def CE (S : zS) (k D n : Nat) (f : Nat → Int) (i y : Nat) : Prop := y ≤ n ∧ (y = 0 ∨ ∃ j, j < i ∧ z_I S 12 k j = nI (D + y)) ∧ (f y ≤ f 0 ∧ (0 < y → f y < f 0)) ∧ ∀ c, 0 < c → c ≤ n → tdC S k D i c → f y ≤ f c ∧ (c < y → f y < f c)
theorem CE.i0 : CE S k D n f 0 0 := ⟨Nat.zero_le _, .inl rfl, ⟨Int.le_refl _, fun u => by omega⟩, fun c _ _ ⟨j, hj, _⟩ => absurd hj (Nat.not_lt_zero _)⟩
theorem nI_inj {u u' : Nat} (h1 : u < 100000) (h2 : u' < 100000) (h : nI u = nI u') : u = u' := by
  have := congrArg Int32.toInt h
  rw [i_nI (by omega), i_nI (by omega)] at this; omega
theorem CE.st {y : Nat} (h : CE S k D n f i y) (hD : D + n < 100000) (hs : ∀ j, j < i → z_I S 12 k j < z_I S 12 k i) : (∀ c, 0 < c → c ≤ n → z_I S 12 k i = nI (D + c) → f c < f y → CE S k D n f (i + 1) c) ∧ ((∀ c, 0 < c → c ≤ n → z_I S 12 k i = nI (D + c) → ¬ f c < f y) → CE S k D n f (i + 1) y) := by
  obtain ⟨h1, h2, h3, h4⟩ := h
  refine ⟨fun c c0 cn hc hlt => ⟨cn, .inr ⟨i, by omega, hc⟩, ⟨by omega, fun _ => by omega⟩, fun c' c0' cn' ⟨j, hj, e⟩ => ?_⟩, fun hno => ⟨h1, ?_, h3, fun c' c0' cn' ⟨j, hj, e⟩ => ?_⟩⟩
  · by_cases u : j = i
    · rw [u, hc] at e
      have := nI_inj (by omega) (by omega) e
      have : c = c' := by omega
      rw [this]; exact ⟨Int.le_refl _, fun u => by omega⟩
    · have := (h4 c' c0' cn' ⟨j, by omega, e⟩).1
      exact ⟨by omega, fun _ => by omega⟩
  · rcases h2 with u | ⟨j, hj, e⟩
    · exact .inl u
    · exact .inr ⟨j, by omega, e⟩
  · by_cases u : j = i
    · rw [u] at e
      have hno' := hno c' c0' cn' e
      refine ⟨by omega, fun hlt => ?_⟩
      exfalso
      rcases h2 with u0 | ⟨j', hj', e'⟩
      · omega
      · have := hs j' hj'
        rw [e, e', i_lt, i_nI (by omega), i_nI (by omega)] at this
        omega
    · exact h4 c' c0' cn' ⟨j, by omega, e⟩
-- rates
theorem rate_told (hs : cSrt S k (cTold S k)) (hj : j < cTold S k) : cRate S k (z_I S 12 k j) = z_I S 13 k j := by
  refine isRt_u hs.fn (cRate_is hs) (.inl ⟨z_I S 12 k j, ⟨j, hj, rfl, rfl⟩, Int32.le_refl _, fun a' b' ⟨j', hj', e1, e2⟩ hle => hle⟩)
theorem rate_same (hs : cSrt S k (cTold S k)) (hm : m + 1 < 100000) (hn : ∀ j, j < cTold S k → z_I S 12 k j ≠ nI (m + 1)) : cRate S k (nI (m + 1)) = cRate S k (nI m) := by
  have key : ∀ a b, pC S k (cTold S k) a b → (a ≤ nI (m + 1) ↔ a ≤ nI m) := fun a b ⟨j, hj, e1, e2⟩ => by
    have := hn j hj
    rw [e1, Ne, i_eq, i_nI (by omega)] at this
    rw [i_le, i_le, i_nI (by omega), i_nI (by omega)]
    omega
  refine isRt_u hs.fn (cRate_is hs) ?_
  rcases cRate_is (x := nI m) hs with ⟨a, h1, h2, h3⟩ | ⟨h1, h2⟩
  · exact .inl ⟨a, h1, (key _ _ h1).mpr h2, fun a' b' hp hle => h3 a' b' hp ((key _ _ hp).mp hle)⟩
  · exact .inr ⟨fun a b hp hle => h1 a b hp ((key _ _ hp).mp hle), h2⟩
theorem gr_same (hs : cSrt S k (cTold S k)) (hm : m + 1 < 100000) (hw : 0 ≤ w.toInt ∧ w.toInt ≤ 1000) (hn : ∀ j, j < cTold S k → z_I S 12 k j ≠ nI (m + 1)) : (cGr S k (nI m) (nI m + w)).toInt ≤ (cGr S k (nI (m + 1)) (nI (m + 1) + w)).toInt := by
  have e1 : (nI m + w).toInt = m + w.toInt := by rw [i_add (by rw [i_nI (by omega)]; omega) (by rw [i_nI (by omega)]; omega), i_nI (by omega)]
  have e2 : (nI (m + 1) + w).toInt = m + 1 + w.toInt := by rw [i_add (by rw [i_nI (by omega)]; omega) (by rw [i_nI (by omega)]; omega), i_nI (by omega)]; omega
  obtain ⟨a1, a2, a3⟩ := cGr_is (x := nI m) (y := nI m + w) hs (by rw [i_le, i_nI (by omega), e1]; omega)
  obtain ⟨b1, b2, b3⟩ := cGr_is (x := nI (m + 1)) (y := nI (m + 1) + w) hs (by rw [i_le, i_nI (by omega), e2]; omega)
  rw [rate_same hs hm hn] at b1
  rcases a3 with u | ⟨a, ⟨j, hj, e3, e4⟩, h2, h3⟩
  · rw [u]; exact i_le.mp b1
  · refine i_le.mp (b2 a _ ⟨j, hj, e3, e4⟩ ?_ ?_)
    · have := hn j hj
      rw [e3, Ne, i_eq, i_nI (by omega)] at this
      rw [i_lt, i_nI (by omega)] at h2
      rw [i_lt, i_nI (by omega)]; omega
    · rw [i_le, e1] at h3
      rw [i_le, e2]; omega
end Re37
