set_option maxHeartbeats 400000
/-! ===== CLASS AND MODEL: listed, lacks ===== -/
section Re40
variable {d i k g s l l' t q n p T j L m D ρ : Nat} {v w a b c e x y z : Int32} {S S' M M' N S0 X F : zS} {B : Int} {K : Nat → Nat} {E : Nat → Int} {P : Nat → Prop}
-- how many of the row lie below θ
def WP (E : Nat → Int) (K : Nat → Nat) (n : Nat) (c : Nat) (θ : Int) : Prop := c ≤ n ∧ (∀ j, j < c → E (K j) < θ) ∧ ∀ j, c ≤ j → j < n → θ ≤ E (K j)
def wPr (K : Nat → Nat) (j c : Nat) (p : Int32 × Int32) : Prop := p.1 = nI c ∧ p.2 = if j < c then nI (K j) else -1
theorem WP.yes {c : Nat} {θ : Int} (h : WP E K n c θ) (hs : ∀ a b, a < b → b < n → E (K a) < E (K b)) (hj : j < n) (he : E (K j) = θ) : j = c ∧ WP E K n (c + 1) (θ + 1) := by
  have jc : j = c := by
    rcases Nat.lt_trichotomy j c with u | u | u
    · have := h.2.1 j u; omega
    · exact u
    · have := h.2.2 c (Nat.le_refl _) (by omega); have := hs c j u hj; omega
  refine ⟨jc, by omega, fun i hi => ?_, fun i h1 h2 => ?_⟩
  · by_cases u : i = c
    · rw [u, ← jc]; omega
    · have := h.2.1 i (by omega); omega
  · have := hs c i (by omega) h2
    rw [← jc] at this; omega
theorem WP.no {c : Nat} {θ : Int} (h : WP E K n c θ) (hn : ∀ j, j < n → E (K j) ≠ θ) : WP E K n c (θ + 1) :=
  ⟨h.1, fun j hj => by have := h.2.1 j hj; omega, fun j h1 h2 => by have := h.2.2 j h1 h2; have := hn j h2; omega⟩
theorem wPr.yes {c j0 : Nat} {p : Int32 × Int32} (h : wPr K j0 c p) (hc : c < 1000) (hj : j0 < 2147483648) : wPr K j0 (c + 1) (p.1 + 1, if p.1 = nI j0 then nI (K c) else p.2) := by
  obtain ⟨h1, h2⟩ := h
  refine ⟨?_, ?_⟩
  · show p.1 + 1 = _
    have o1 : (1 : Int32).toInt = 1 := rfl
    rw [h1, i_eq, i_add (by rw [i_nI (by omega)]; omega) (by rw [i_nI (by omega)]; omega), i_nI (by omega), i_nI (by omega)]; omega
  · show (if p.1 = nI j0 then nI (K c) else p.2) = _
    rw [h1, h2]
    by_cases u : j0 = c
    · rw [u, if_pos rfl, if_pos (by omega)]
    · rw [if_neg (fun e => by rw [i_eq, i_nI (by omega), i_nI (by omega)] at e; omega)]
      by_cases u2 : j0 < c
      · rw [if_pos u2, if_pos (by omega)]
      · rw [if_neg u2, if_neg (by omega)]
theorem wait_L (h : RM S M) (hr : rowIs X (Ek S) (fun l => z_I S 3 l 0 = 0) (cL S) n K) (hrk : ∀ l, l < cL S → 0 ≤ (z_I S 3 l 6).toInt ∧ (z_I S 3 l 6).toInt ≤ 9) (hρ : ρ < 10) {j0 : Nat} (hj0 : j0 < 2147483648) : ∀ (m i c : Nat) (p : Int32 × Int32), i + m = cL S → WP (Ek S) K n c (ρ * 40 + i) → wPr K j0 c p → ∃ c', WP (Ek S) K n c' (ρ * 40 + (cL S : Nat)) ∧ wPr K j0 c' (z_it (mWaS M (nI j0) ρ) m i p)
  | 0, i, c, p, hi, h1, h2 => ⟨c, by rw [show cL S = i by omega]; exact h1, h2⟩
  | m + 1, i, c, p, hi, h1, h2 => by
    have hl : i < cL S := by omega
    have hL := h.L40
    show ∃ c', WP (Ek S) K n c' (ρ * 40 + (cL S : Nat)) ∧ wPr K j0 c' (z_it (mWaS M (nI j0) ρ) m (i + 1) (mWaS M (nI j0) ρ i p))
    have hn : n ≤ cL S := hr.2.1
    unfold mWaS
    rw [RM.st h hl, RM.lrk h hl]
    have rk := hrk i hl
    by_cases u : z_I S 3 i 0 = 0 ∧ z_I S 3 i 6 = nI ρ
    · rw [if_pos u]
      obtain ⟨j, hj, ej⟩ := hr.2.2.2.2.2 i hl u.1
      have eE : Ek S (K j) = ρ * 40 + i := by unfold Ek; rw [ej, u.2, i_nI (by omega)]
      obtain ⟨jc, w'⟩ := h1.yes hr.2.2.2.1 hj eE
      have e1 : (ρ * 40 + i : Int) + 1 = ρ * 40 + ((i + 1 : Nat) : Int) := by omega
      rw [e1] at w'
      have := h2.yes (j0 := j0) (by have := h1.1; omega) hj0
      rw [← jc, ej] at this
      rw [← jc] at w'
      exact wait_L h hr hrk hρ hj0 m (i + 1) (j + 1) _ (by omega) w' this
    · rw [if_neg u]
      have w' := h1.no fun j hj e => u (by
        have hk := hr.2.2.2.2.1 j hj
        have rk' := hrk _ hk.1
        unfold Ek at e
        have : K j = i := by omega
        rw [this] at hk e
        exact ⟨hk.2, by rw [i_eq, i_nI (by omega)]; omega⟩)
      have e1 : (ρ * 40 + i : Int) + 1 = ρ * 40 + ((i + 1 : Nat) : Int) := by omega
      rw [e1] at w'
      exact wait_L h hr hrk hρ hj0 m (i + 1) c p (by omega) w' h2
theorem wait_R (h : RM S M) (hr : rowIs X (Ek S) (fun l => z_I S 3 l 0 = 0) (cL S) n K) (hrk : ∀ l, l < cL S → 0 ≤ (z_I S 3 l 6).toInt ∧ (z_I S 3 l 6).toInt ≤ 9) {j0 : Nat} (hj0 : j0 < 2147483648) : ∀ (m ρ c : Nat) (p : Int32 × Int32), ρ + m = 10 → WP (Ek S) K n c ((ρ * 40 : Nat) : Int) → wPr K j0 c p → ∃ c', WP (Ek S) K n c' 400 ∧ wPr K j0 c' (z_it (mWaR M (nI j0)) m ρ p)
  | 0, ρ, c, p, hm, h1, h2 => ⟨c, by rw [show ρ = 10 by omega] at h1; exact h1, h2⟩
  | m + 1, ρ, c, p, hm, h1, h2 => by
    have hL := h.L40
    show ∃ c', WP (Ek S) K n c' 400 ∧ wPr K j0 c' (z_it (mWaR M (nI j0)) m (ρ + 1) (mWaR M (nI j0) ρ p))
    obtain ⟨c', q1, q2⟩ := wait_L h hr hrk (ρ := ρ) (by omega) hj0 (cL S) 0 c p (by omega) (by rw [show ((ρ : Int) * 40 + ((0 : Nat) : Int)) = ((ρ * 40 : Nat) : Int) by omega]; exact h1) h2
    have e : mWaR M (nI j0) ρ p = z_it (mWaS M (nI j0) ρ) (cL S) 0 p := by unfold mWaR; rw [RM.mN h]
    rw [e]
    refine wait_R h hr hrk hj0 m (ρ + 1) c' _ (by omega) ⟨q1.1, fun j hj => by have := q1.2.1 j hj; omega, fun j h3 h4 => ?_⟩ q2
    have := q1.2.2 j h3 h4
    have hk := (hr.2.2.2.2.1 j h4).1
    have rk := hrk _ hk
    unfold Ek at this ⊢
    omega
theorem wait_is (h : RM S M) (hi : InvA B T S) (hr : rowIs X (Ek S) (fun l => z_I S 3 l 0 = 0) (cL S) n K) {j0 : Nat} (hj0 : j0 < 2147483648) : mWait M (nI j0) = if j0 < n then nI (K j0) else -1 := by
  have hrk : ∀ l, l < cL S → 0 ≤ (z_I S 3 l 6).toInt ∧ (z_I S 3 l 6).toInt ≤ 9 := fun l hl => (hi.ld hl).2.2.2.2.2.1
  have hL := h.L40
  obtain ⟨c, q1, q2⟩ := wait_R h hr hrk hj0 10 0 0 (0, -1) (by omega) ⟨Nat.zero_le _, fun j hj => absurd hj (Nat.not_lt_zero _), fun j _ hj => by
    have hk := (hr.2.2.2.2.1 j hj).1
    have rk := hrk _ hk
    unfold Ek; omega⟩ ⟨rfl, by rw [if_neg (by omega)]⟩
  have cn : c = n := by
    have c1 := q1.1
    rcases Nat.lt_or_ge c n with u | u
    · have := q1.2.2 c (Nat.le_refl _) u
      have hk := (hr.2.2.2.2.1 c u).1
      have rk := hrk _ hk
      unfold Ek at this
      omega
    · omega
  unfold mWait
  rw [q2.2, cn]
-- those that are late
theorem late_go (h : RM S M) (hr : rowIs X (fun l => (l : Int)) (fun l => z_I S 3 l 0 = 1 ∧ cLatest S l < z_I S 0 0 0) (cL S) n K) {j0 : Nat} (hj0 : j0 < 2147483648) : ∀ (m i c : Nat) (p : Int32 × Int32), i + m = cL S → WP (fun l => (l : Int)) K n c i → wPr K j0 c p → ∃ c', WP (fun l => (l : Int)) K n c' (cL S : Nat) ∧ wPr K j0 c' (z_it (mLtS M (nI j0)) m i p)
  | 0, i, c, p, hi, h1, h2 => ⟨c, by rw [show cL S = i by omega]; exact h1, h2⟩
  | m + 1, i, c, p, hi, h1, h2 => by
    have hl : i < cL S := by omega
    have hL := h.L40
    have hn : n ≤ cL S := hr.2.1
    show ∃ c', WP (fun l => (l : Int)) K n c' (cL S : Nat) ∧ wPr K j0 c' (z_it (mLtS M (nI j0)) m (i + 1) (mLtS M (nI j0) i p))
    have e1 : (i : Int) + 1 = ((i + 1 : Nat) : Int) := by omega
    have hc : (mSt M i = 1 ∧ ¬ z_I M 22 0 0 ≤ mLat M i) ↔ (z_I S 3 i 0 = 1 ∧ cLatest S i < z_I S 0 0 0) := by
      rw [RM.st h hl, RM.day h]
      constructor
      · intro u; rw [RM.lat h hl u.1] at u; exact ⟨u.1, Int32.not_le.mp u.2⟩
      · intro u; rw [RM.lat h hl u.1]; exact ⟨u.1, Int32.not_le.mpr u.2⟩
    unfold mLtS
    by_cases u : mSt M i = 1 ∧ ¬ z_I M 22 0 0 ≤ mLat M i
    · rw [if_pos u]
      obtain ⟨j, hj, ej⟩ := hr.2.2.2.2.2 i hl (hc.mp u)
      obtain ⟨jc, w'⟩ := h1.yes hr.2.2.2.1 hj (by show (K j : Int) = i; omega)
      rw [e1] at w'
      have := h2.yes (j0 := j0) (by have := h1.1; omega) hj0
      rw [← jc, ej] at this
      rw [← jc] at w'
      exact late_go h hr hj0 m (i + 1) (j + 1) _ (by omega) w' this
    · rw [if_neg u]
      have w' := h1.no fun j hj e => u (by
        have hk := hr.2.2.2.2.1 j hj
        have : K j = i := by have : (K j : Int) = i := e; omega
        rw [this] at hk
        exact hc.mpr hk.2)
      rw [e1] at w'
      exact late_go h hr hj0 m (i + 1) c p (by omega) w' h2
theorem late_is (h : RM S M) (hr : rowIs X (fun l => (l : Int)) (fun l => z_I S 3 l 0 = 1 ∧ cLatest S l < z_I S 0 0 0) (cL S) n K) {j0 : Nat} (hj0 : j0 < 2147483648) : mLate M (nI j0) = if j0 < n then nI (K j0) else -1 := by
  obtain ⟨c, q1, q2⟩ := late_go h hr hj0 (cL S) 0 0 (0, -1) (by omega) ⟨Nat.zero_le _, fun j hj => absurd hj (Nat.not_lt_zero _), fun j _ hj => by show (0 : Int) ≤ (K j : Int); omega⟩ ⟨rfl, by rw [if_neg (by omega)]⟩
  have cn : c = n := by
    have c1 := q1.1
    rcases Nat.lt_or_ge c n with u | u
    · have : ((cL S : Nat) : Int) ≤ (K c : Int) := q1.2.2 c (Nat.le_refl _) u
      have hk := (hr.2.2.2.2.1 c u).1
      omega
    · omega
  unfold mLate
  rw [RM.mN h, q2.2, cn]
-- those that go
theorem going_none : ∀ m, mGoing M m none = none
  | 0 => rfl
  | _ + 1 => rfl
theorem going_is (hr : rowIs X E P L n K) (hN : mN M = L) (hL : L ≤ 40) (hP : ∀ l, l < L → (mNxI M (-1) 0 l ↔ P l)) (hE : ∀ l, l < L → P l → E l = Kp M l) : ∀ (m j : Nat) (o : Option Nat), o = (if j < n then some (K j) else none) → mGoing M m o = if j + m < n then some (K (j + m)) else none
  | 0, j, o, ho => ho
  | m + 1, j, o, ho => by
    by_cases u : j < n
    · rw [if_pos u] at ho
      rw [ho]
      show mGoing M m (mNext M (-1) 0 (some (K j))) = _
      rw [going_is hr hN hL hP hE m (j + 1) _ (next_some hr u hN hL (fun l hl _ => hP l hl) hE), show j + 1 + m = j + (m + 1) by omega]
    · rw [if_neg u] at ho
      rw [ho, going_none, if_neg (by omega)]
theorem row_ask {θ : Int} (hr : rowIs X E P L n K) (hL : L ≤ 40) (hE : ∀ l, l < L → P l → ∃ ρ : Int, E l = ρ * 40 + l ∧ 0 ≤ ρ ∧ ρ ≤ 20000) : (if w < 0 ∨ z_I X 0 0 11 - 1 < w then -1 else cInRow X w) = if w < 0 then -1 else if w.toNatClampNeg < n then nI (K w.toNatClampNeg) else -1 := by
  have z0 : (0 : Int32).toInt = 0 := rfl
  have o1 : (1 : Int32).toInt = 1 := rfl
  have hn : n ≤ L := hr.2.1
  have e : (z_I X 0 0 11 - 1).toInt = n - 1 := by rw [hr.1, i_sub (by rw [i_nI (by omega)]; omega) (by rw [i_nI (by omega)]; omega), i_nI (by omega)]; omega
  by_cases u : w < 0
  · rw [if_pos (.inl u), if_pos u]
  · rw [if_neg u]
    rw [i_lt] at u
    obtain ⟨e1, e2⟩ := nI_is (v := w) (by omega)
    by_cases u2 : w.toNatClampNeg < n
    · rw [if_pos u2, if_neg (fun w' => by rcases w' with w1 | w1 <;> (rw [i_lt] at w1; omega))]
      have := (hr.rw hL hE u2).1
      rw [← e1] at this; exact this
    · rw [if_neg u2, if_pos (.inr (by rw [i_lt]; omega))]
theorem ask_listed (h : Ok B T S M) : mLst M v w = qListed S v w ∧ z_nn (z_I (qRowS S v) 0 0 11) 40 ∨ ¬ (v = 0 ∨ v = 1 ∨ v = 2) ∧ mLst M v w = qListed S v w := by
  have hL := h.r.L40
  have z0 : (0 : Int32).toInt = 0 := rfl
  have nn : ∀ {X : zS} {E : Nat → Int} {P : Nat → Prop} {n : Nat} {K : Nat → Nat}, rowIs X E P (cL S) n K → z_nn (z_I X 0 0 11) 40 := fun hr => by
    have := hr.2.1
    rw [hr.1]
    exact ⟨by rw [i_le, i_nI (by omega)]; show (0 : Int) ≤ _; omega, by rw [z_nIc (by omega)]; omega⟩
  unfold mLst qListed qRowN qRowS
  by_cases v0 : v = 0
  · left
    rw [if_pos v0, if_pos v0, if_pos v0]
    obtain ⟨n, K, h1, hr⟩ := row_W hL h.ia
    refine ⟨?_, nn hr⟩
    rw [row_ask (θ := 0) hr hL (fun l hl _ => ⟨(z_I S 3 l 6).toInt, rfl, (h.ia.ld hl).2.2.2.2.2.1.1, by have := (h.ia.ld hl).2.2.2.2.2.1.2; omega⟩)]
    by_cases u : w < 0
    · rw [if_pos u, if_pos u]
    · rw [if_neg u, if_neg u]
      rw [i_lt] at u
      obtain ⟨e1, e2⟩ := nI_is (v := w) (by omega)
      have w2 := Int32.toInt_lt w
      have := wait_is h.r h.ia hr (j0 := w.toNatClampNeg) (by omega)
      rw [← e1] at this; exact this
  · rw [if_neg v0, if_neg v0, if_neg v0]
    by_cases v1 : v = 1
    · left
      rw [if_pos v1, if_pos v1, if_pos v1]
      obtain ⟨n, K, h1, hr⟩ := row_G hL h.ia
      refine ⟨?_, nn hr⟩
      rw [row_ask (θ := 0) hr hL (fun l hl hp => ⟨(cLatest S l).toInt, rfl, by have := h.ia.lat hl hp; omega⟩)]
      by_cases u : w < 0
      · rw [if_pos u, if_pos u]
      · rw [if_neg u, if_neg u]
        have hP : ∀ l, l < cL S → (mNxI M (-1) 0 l ↔ z_I S 3 l 0 = 1) := fun l hl => by
          unfold mNxI; rw [RM.st h.r hl]; exact ⟨fun u => u.1, fun u => ⟨u, .inl rfl⟩⟩
        have hE : ∀ l, l < cL S → z_I S 3 l 0 = 1 → El S l = Kp M l := fun l hl hp => by unfold El Kp; rw [RM.lat h.r hl hp]
        rw [going_is hr (RM.mN h.r) hL hP hE w.toNatClampNeg 0 _ (next_none hr (RM.mN h.r) hL hP hE), Nat.zero_add]
        by_cases u2 : w.toNatClampNeg < n
        · rw [if_pos u2, if_pos u2]; rfl
        · rw [if_neg u2, if_neg u2]; rfl
    · rw [if_neg v1, if_neg v1, if_neg v1]
      by_cases v2 : v = 2
      · left
        rw [if_pos v2, if_pos v2, if_pos v2]
        obtain ⟨n, K, h1, hr⟩ := row_L hL
        refine ⟨?_, nn hr⟩
        rw [row_ask (θ := 0) hr hL (fun l hl hp => ⟨0, by omega, by omega, by omega⟩)]
        by_cases u : w < 0
        · rw [if_pos u, if_pos u]
        · rw [if_neg u, if_neg u]
          rw [i_lt] at u
          obtain ⟨e1, e2⟩ := nI_is (v := w) (by omega)
          have w2 := Int32.toInt_lt w
          have := late_is h.r hr (j0 := w.toNatClampNeg) (by omega)
          rw [← e1] at this; exact this
      · right
        refine ⟨fun u => by rcases u with u | u | u <;> contradiction, ?_⟩
        rw [if_neg v2, if_neg v2, if_neg v2]
        by_cases u : w < 0
        · rw [if_pos u, if_pos (.inl u)]
        · have hx : (0 - 1 : Int32) < w := by
            rw [i_lt] at u
            rw [i_lt]
            have : (0 - 1 : Int32).toInt = -1 := rfl
            omega
          rw [if_neg u, if_pos (.inr hx)]
end Re40
