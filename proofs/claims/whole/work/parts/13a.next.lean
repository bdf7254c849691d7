set_option maxHeartbeats 400000
/-! ===== CLASS AND MODEL: loads that go, by their latest day ===== -/
section Re33
variable {d i k g s l l' t q n p T j L : Nat} {v w a b c e f x y z : Int32} {S S' M M' N S0 X : zS} {B : Int} {K : Nat → Nat} {E : Nat → Int} {P : Nat → Prop}
def Kp (M : zS) (l : Nat) : Int := (mLat M l).toInt * 40 + l
def nxQ (M : zS) (v w : Int32) (o : Option Nat) (l : Nat) : Prop := mNxI M v w l ∧ ∀ b, o = some b → Kp M b < Kp M l
theorem nxB_is {o : Option Nat} (hl : l < 40) (ho : ∀ b, o = some b → b < 40) : mNxB M o l = true ↔ ∀ b, o = some b → Kp M b < Kp M l := by
  cases o with
  | none => exact ⟨fun _ b u => (by cases u), fun _ => rfl⟩
  | some b =>
    have hb := ho b rfl
    unfold mNxB Kp
    rw [decide_eq_true_iff, i_lt, i_eq, i_le, i_nI (by omega), i_nI (by omega)]
    constructor
    · intro u b' hb'; cases hb'; omega
    · intro u; have := u b rfl; omega
theorem nxt_go {o : Option Nat} (ho : ∀ b, o = some b → b < 40) : ∀ (m i : Nat) (r : Option Nat), i + m ≤ 40 → ((r = none ∧ ∀ l, l < i → ¬ nxQ M v w o l) ∨ ∃ j, r = some j ∧ j < i ∧ nxQ M v w o j ∧ ∀ l, l < i → nxQ M v w o l → Kp M j ≤ Kp M l) →
    ((z_it (mNxS M v w o) m i r = none ∧ ∀ l, l < i + m → ¬ nxQ M v w o l) ∨ ∃ j, z_it (mNxS M v w o) m i r = some j ∧ j < i + m ∧ nxQ M v w o j ∧ ∀ l, l < i + m → nxQ M v w o l → Kp M j ≤ Kp M l)
  | 0, _, _, _, h => h
  | m + 1, i, r, hi, h => by
    have key := nxt_go ho m (i + 1) (mNxS M v w o i r) (by omega) ?_
    · rw [show i + (m + 1) = i + 1 + m by omega]; exact key
    have hB := nxB_is (M := M) (l := i) (by omega) ho
    unfold mNxS
    by_cases hc : mNxI M v w i ∧ mNxB M o i = true ∧ mNxL M r i = true
    · rw [if_pos hc]
      have hq : nxQ M v w o i := ⟨hc.1, hB.mp hc.2.1⟩
      refine .inr ⟨i, rfl, by omega, hq, fun l hl hlq => ?_⟩
      by_cases u : l = i
      · rw [u]; exact Int.le_refl _
      rcases h with ⟨-, h2⟩ | ⟨j, rfl, h2, h3, h4⟩
      · exact absurd hlq (h2 l (by omega))
      · have hL := hc.2.2
        unfold mNxL at hL
        rw [decide_eq_true_iff, i_le] at hL
        have := h4 l (by omega) hlq
        unfold Kp at this ⊢
        omega
    · rw [if_neg hc]
      rcases h with ⟨h1, h2⟩ | ⟨j, rfl, h2, h3, h4⟩
      · refine .inl ⟨h1, fun l hl hq => ?_⟩
        by_cases u : l = i
        · rw [u] at hq
          exact hc ⟨hq.1, hB.mpr hq.2, by rw [h1]; rfl⟩
        · exact h2 l (by omega) hq
      · refine .inr ⟨j, rfl, by omega, h3, fun l hl hq => ?_⟩
        by_cases u : l = i
        · rw [u] at hq ⊢
          have : ¬ mNxL M (some j) i = true := fun u => hc ⟨hq.1, hB.mpr hq.2, u⟩
          unfold mNxL at this
          rw [decide_eq_true_iff, i_le] at this
          unfold Kp
          omega
        · exact h4 l (by omega) hq
theorem nxt_is {o : Option Nat} (ho : ∀ b, o = some b → b < 40) (hN : mN M ≤ 40) : (mNext M v w o = none ∧ ∀ l, l < mN M → ¬ nxQ M v w o l) ∨ ∃ j, mNext M v w o = some j ∧ j < mN M ∧ nxQ M v w o j ∧ ∀ l, l < mN M → nxQ M v w o l → Kp M j ≤ Kp M l := by
  have := nxt_go (M := M) (v := v) (w := w) ho (mN M) 0 none (by omega) (.inl ⟨rfl, fun l hl => absurd hl (Nat.not_lt_zero _)⟩)
  rw [Nat.zero_add] at this
  exact this
theorem next_none (hr : rowIs X E P L n K) (hN : mN M = L) (hL : L ≤ 40) (hP : ∀ l, l < L → (mNxI M v w l ↔ P l)) (hE : ∀ l, l < L → P l → E l = Kp M l) : mNext M v w none = if 0 < n then some (K 0) else none := by
  obtain ⟨-, h2, -, h4, h5, h6⟩ := hr
  rcases nxt_is (M := M) (v := v) (w := w) (o := none) (fun b u => by cases u) (by omega) with ⟨e, h⟩ | ⟨j, e, h7, h8, h9⟩
  · rw [e]
    by_cases u : 0 < n
    · exfalso
      have := h5 0 u
      exact h (K 0) (by omega) ⟨(hP _ this.1).mpr this.2, fun b u => by cases u⟩
    · rw [if_neg u]
  · rw [e]
    obtain ⟨i, hi, rfl⟩ := h6 j (by omega) ((hP j (by omega)).mp h8.1)
    rw [if_pos (by omega)]
    have h0 := h5 0 (by omega)
    have hi5 := h5 i hi
    have := h9 (K 0) (by omega) ⟨(hP _ h0.1).mpr h0.2, fun b u => by cases u⟩
    by_cases u : i = 0
    · rw [u]
    · have := h4 0 i (by omega) hi
      rw [hE _ h0.1 h0.2, hE _ hi5.1 hi5.2] at this
      omega
theorem next_some (hr : rowIs X E P L n K) (hj : j < n) (hN : mN M = L) (hL : L ≤ 40) (hP : ∀ l, l < L → Kp M (K j) < Kp M l → (mNxI M v w l ↔ P l)) (hE : ∀ l, l < L → P l → E l = Kp M l) : mNext M v w (some (K j)) = if j + 1 < n then some (K (j + 1)) else none := by
  obtain ⟨-, h2, -, h4, h5, h6⟩ := hr
  have hj5 := h5 j hj
  have ej := hE _ hj5.1 hj5.2
  have cand : ∀ i, j < i → i < n → nxQ M v w (some (K j)) (K i) := fun i h1 h3 => by
    have h7 := h5 i h3
    have h8 : Kp M (K j) < Kp M (K i) := by
      have := h4 j i h1 h3
      rw [ej, hE _ h7.1 h7.2] at this; exact this
    exact ⟨(hP _ h7.1 h8).mpr h7.2, fun b u => by cases u; exact h8⟩
  rcases nxt_is (M := M) (v := v) (w := w) (o := some (K j)) (fun b u => by cases u; omega) (by omega) with ⟨e, h⟩ | ⟨r, e, h7, h8, h9⟩
  · rw [e]
    by_cases u : j + 1 < n
    · exfalso
      have := h5 _ u
      exact h (K (j + 1)) (by omega) (cand (j + 1) (by omega) u)
    · rw [if_neg u]
  · rw [e]
    have hk := h8.2 _ rfl
    obtain ⟨i, hi, rfl⟩ := h6 r (by omega) ((hP r (by omega) hk).mp h8.1)
    have hi5 := h5 i hi
    have hlt : j < i := by
      rcases Nat.lt_trichotomy i j with u | u | u
      · have := h4 i j u hj
        rw [ej, hE _ hi5.1 hi5.2] at this; omega
      · rw [u] at hk; omega
      · exact u
    rw [if_pos (by omega)]
    by_cases u : i = j + 1
    · rw [u]
    · have u1 : j + 1 < n := by omega
      have h1 := h5 (j + 1) u1
      have := h9 (K (j + 1)) (by omega) (cand (j + 1) (by omega) u1)
      have q := h4 (j + 1) i (by omega) hi
      rw [hE _ h1.1 h1.2, hE _ hi5.1 hi5.2] at q
      omega
-- the row as a list
def lsK (K : Nat → Nat) : Nat → Nat → List Nat
  | _, 0 => []
  | j, m + 1 => K j :: lsK K (j + 1) m
theorem lsK_hd : (lsK K j t).head? = if 0 < t then some (K j) else none := by
  cases t with
  | zero => rfl
  | succ m => rfl
theorem lsK_mem : ∀ (m j : Nat), ∀ l ∈ lsK K j m, ∃ i, j ≤ i ∧ i < j + m ∧ K i = l
  | 0, j, l, h => by cases h
  | m + 1, j, l, h => by
    rcases List.mem_cons.mp h with u | u
    · exact ⟨j, by omega, by omega, u.symm⟩
    · obtain ⟨i, h1, h2, h3⟩ := lsK_mem m (j + 1) l u
      exact ⟨i, by omega, by omega, h3⟩
theorem lsK_len : ∀ (m j : Nat), (lsK K j m).length = m
  | 0, _ => rfl
  | m + 1, j => by show (lsK K (j + 1) m).length + 1 = _; rw [lsK_len m]
theorem lsK_get : ∀ (m j i : Nat), (lsK K j m)[i]? = if i < m then some (K (j + i)) else none
  | 0, j, i => by rw [if_neg (by omega)]; rfl
  | m + 1, j, i => by
    cases i with
    | zero => rfl
    | succ i =>
      show (lsK K (j + 1) m)[i]? = _
      rw [lsK_get m (j + 1) i, show j + 1 + i = j + (i + 1) by omega]
      by_cases u : i < m
      · rw [if_pos u, if_pos (by omega)]
      · rw [if_neg u, if_neg (by omega)]
theorem chs_row (hr : rowIs X E P L n K) (hN : mN M = L) (hL : L ≤ 40) (hP : ∀ l, l < L → (mNxI M v w l ↔ P l)) (hE : ∀ l, l < L → P l → E l = Kp M l) : mChs M v w (mNext M v w none) (lsK K 0 n) := by
  have go : ∀ m j, j + m = n → ∀ o, o = (if 0 < m then some (K j) else none) → mChs M v w o (lsK K j m) := fun m => by
    induction m with
    | zero => intro j hj o ho; rw [if_neg (by omega)] at ho; exact ho
    | succ m ih =>
      intro j hj o ho
      rw [if_pos (by omega)] at ho
      refine ⟨ho, ih (j + 1) (by omega) _ ?_⟩
      rw [next_some hr (by omega) hN hL (fun l hl _ => hP l hl) hE]
      by_cases u : 0 < m
      · rw [if_pos (by omega), if_pos u]
      · rw [if_neg (by omega), if_neg u]
  exact go n 0 (by omega) _ (next_none hr hN hL hP hE)
end Re33
