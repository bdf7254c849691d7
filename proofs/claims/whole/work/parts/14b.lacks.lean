set_option maxHeartbeats 400000
/-! ===== CLASS AND MODEL: lacks ===== -/
section Re41
variable {d i k g s l l' t q n p T j L m : Nat} {v w a b c e x y z : Int32} {S S' M M' N X : zS} {B : Int} {K : Nat → Nat} {E : Nat → Int} {P : Nat → Prop}
theorem ord_ex : ∀ (n i : Nat), cIsOrd S s v n i = true ↔ ∃ j, i ≤ j ∧ j < i + n ∧ z_I S 16 s j = v
  | 0, i => ⟨fun h => (by cases h), fun ⟨j, h1, h2, _⟩ => by omega⟩
  | n + 1, i => by
    unfold cIsOrd
    by_cases u : z_I S 16 s i = v
    · rw [if_pos u]; exact ⟨fun _ => ⟨i, by omega, by omega, u⟩, fun _ => rfl⟩
    · rw [if_neg u, ord_ex n (i + 1)]
      refine ⟨fun ⟨j, h1, h2, h3⟩ => ⟨j, by omega, by omega, h3⟩, fun ⟨j, h1, h2, h3⟩ => ⟨j, ?_, by omega, h3⟩⟩
      rcases Nat.lt_or_ge i j with z | z
      · omega
      · have : j = i := by omega
        rw [this] at h3; exact absurd h3 u
theorem RM.isord (h : RM S M) (hs : s < cS S) (hv : v ≠ -1) : cIsOrd S s v (cOrd S s) 0 = true ↔ (mO M s 0 = v ∨ mO M s 1 = v ∨ mO M s 2 = v) := by
  have ho := h.or hs
  obtain ⟨h3, e, hne, hme⟩ := ho.ord
  rw [ord_ex]
  have key : ∀ j, j < 3 → (mO M s j = v ↔ j < cOrd S s ∧ z_I S 16 s j = v) := fun j hj => by
    show rR M (18 + 8 * s + 5 + j) = v ↔ _
    by_cases u : j < cOrd S s
    · rw [ho.pre j hj (hne j u)]; exact ⟨fun q => ⟨u, q⟩, fun q => q.2⟩
    · rw [hme j (by omega) hj]; exact ⟨fun q => absurd q.symm hv, fun q => absurd q.1 u⟩
  constructor
  · rintro ⟨j, -, hj, e⟩
    have hj3 : j = 0 ∨ j = 1 ∨ j = 2 := by omega
    rcases hj3 with rfl | rfl | rfl
    · exact .inl ((key 0 (by omega)).mpr ⟨by omega, e⟩)
    · exact .inr (.inl ((key 1 (by omega)).mpr ⟨by omega, e⟩))
    · exact .inr (.inr ((key 2 (by omega)).mpr ⟨by omega, e⟩))
  · rintro (e | e | e)
    · obtain ⟨a, b⟩ := (key 0 (by omega)).mp e; exact ⟨0, by omega, by omega, b⟩
    · obtain ⟨a, b⟩ := (key 1 (by omega)).mp e; exact ⟨1, by omega, by omega, b⟩
    · obtain ⟨a, b⟩ := (key 2 (by omega)).mp e; exact ⟨2, by omega, by omega, b⟩
theorem i_m1 (h : 0 ≤ v) : v ≠ -1 := fun q => by
  rw [q, i_le] at h
  exact absurd h (by decide)
theorem rowW_E (h : Ok B T S M) : ∀ l, l < cL S → z_I S 3 l 0 = 0 → ∃ ρ : Int, Ek S l = ρ * 40 + l ∧ 0 ≤ ρ ∧ ρ ≤ 20000 := fun l hl _ => ⟨(z_I S 3 l 6).toInt, rfl, (h.ia.ld hl).2.2.2.2.2.1.1, by have := (h.ia.ld hl).2.2.2.2.2.1.2; omega⟩
theorem ask_lacks (h : Ok B T S M) (hv : 0 ≤ v) : ∃ o, mWait M 0 = oI o ∧ (∀ l, o = some l → l < mN M) ∧ mLkO M o v = qLacks S v ∧ (¬ z_I (qLk S) 0 0 11 = 0 → vp_in (cInRow (qLk S) 0) 40 ∧ cWL (qLk S) (qLkL S)) := by
  have hL := h.r.L40
  have hvn : v ≠ -1 := i_m1 hv
  obtain ⟨n, K, h1, hr⟩ := row_W hL h.ia
  have hnL := hr.2.1
  have hX := h.alk h1.alk
  have w0 := wait_is h.r h.ia hr (j0 := 0) (by omega)
  by_cases hn : 0 < n
  · rw [if_pos hn] at w0
    obtain ⟨e1, e2⟩ := hr.rw hL (rowW_E h) hn
    have hK := hr.2.2.2.2.1 0 hn
    have eX : ¬ z_I (qLk S) 0 0 11 = 0 := fun q => by
      have q := hr.1.symm.trans q
      have q := congrArg Int32.toInt q
      rw [i_nI (by omega)] at q
      have z0 : (0 : Int32).toInt = 0 := rfl
      omega
    have e1' : cInRow (qLk S) 0 = nI (K 0) := e1
    have eL : qLkL S = K 0 := e2
    have KX : K 0 < cL (qLk S) := by rw [h1.alk.L]; exact hK.1
    refine ⟨some (K 0), w0, fun l hl => by cases hl; rw [RM.mN h.r]; exact hK.1, ?_, fun _ => ⟨by rw [e1']; exact nI_in (by omega) (by decide), by rw [eL]; exact hX.wl _ KX⟩⟩
    show mLk M (K 0) v = _
    have e0 : z_I (qLk S) 3 (K 0) 0 = 0 := by rw [h1.1 3 (K 0) 0 (by decide) (fun u => absurd u.1 (by decide))]; exact hK.2
    have hfr := hX.ia.fr KX
    have hi := RM.isord hX.r hfr hvn
    have em : qMiss S = cNeed (qLk S) (K 0) - cFF (qLk S) (cFr (qLk S) (K 0)) := by
      show cNeed (qLk S) (qLkL S) - cFF (qLk S) (cFr (qLk S) (qLkL S)) = _
      rw [eL]
    unfold qLacks mLk
    rw [if_neg eX, em, eL, RM.need hX.r hX.ia KX (.inl e0), RM.fr hX.r KX, RM.ff hX.r hfr]
    generalize cNeed (qLk S) (K 0) - cFF (qLk S) (cFr (qLk S) (K 0)) = x
    by_cases u : 0 < x
    · rw [if_pos u, if_neg (fun q => absurd u (Int32.not_lt.mpr q))]
      by_cases u2 : cIsOrd (qLk S) (cFr (qLk S) (K 0)) v (cOrd (qLk S) (cFr (qLk S) (K 0))) 0 = true ∧ ¬ 9999999 < x
      · rw [if_pos u2, if_pos ⟨hi.mp u2.1, Int32.not_lt.mp u2.2⟩]
      · rw [if_neg u2, if_neg (fun q => u2 ⟨hi.mpr q.1, Int32.not_lt.mpr q.2⟩)]
    · rw [if_neg u, if_pos (Int32.not_lt.mp u)]
  · rw [if_neg hn] at w0
    have eX : z_I (qLk S) 0 0 11 = 0 := hr.1.trans (by rw [show n = 0 by omega]; rfl)
    refine ⟨none, w0, fun l hl => (by cases hl), ?_, fun q => absurd eX q⟩
    unfold qLacks
    rw [if_pos eX]; rfl
end Re41
