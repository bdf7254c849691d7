/-! ===== CLASS AND MODEL: rates told (3) ===== -/
section Re18
variable {d i k g s l t q n p T j : Nat} {v w a b c e f x y z : Int32} {S S' M : zS} {B : Int}
theorem mAt_go : ∀ (n i : Nat) (o : Option Nat), (z_it (mAtS M k x) n i o = none → o = none ∧ ∀ j, i ≤ j → j < i + n → z_I M 22 0 (66 + 29 * k + 3 + 2 * j) ≠ x) ∧ ∀ q, z_it (mAtS M k x) n i o = some q → o = some q ∨ (i ≤ q ∧ q < i + n ∧ z_I M 22 0 (66 + 29 * k + 3 + 2 * q) = x)
  | 0, i, o => ⟨fun h => ⟨h, fun j h1 h2 => by omega⟩, fun q h => .inl h⟩
  | n + 1, i, o => by
    have ih := mAt_go n (i + 1) (mAtS M k x i o)
    unfold z_it
    refine ⟨fun h => ?_, fun q h => ?_⟩
    · have := ih.1 h
      have h1 := this.1
      unfold mAtS at h1
      by_cases u : z_I M 22 0 (66 + 29 * k + 3 + 2 * i) = x
      · rw [if_pos u] at h1; cases h1
      · rw [if_neg u] at h1
        refine ⟨h1, fun j h2 h3 => ?_⟩
        by_cases u2 : j = i
        · rw [u2]; exact u
        · exact this.2 j (by omega) (by omega)
    · rcases ih.2 q h with h1 | h1
      · unfold mAtS at h1
        by_cases u : z_I M 22 0 (66 + 29 * k + 3 + 2 * i) = x
        · rw [if_pos u] at h1; cases h1; exact .inr ⟨Nat.le_refl _, by omega, u⟩
        · rw [if_neg u] at h1; exact .inl h1
      · exact .inr ⟨by omega, by omega, h1.2.2⟩
theorem mRa3_at {J : Nat} (hJ : mRaJ M k x = J) (hj : j ≠ 66 + 29 * k) : rR (mRa3 M k x v) j = if j = 66 + 29 * k + 3 + 2 * J + 1 then v else if j = 66 + 29 * k + 3 + 2 * J then x else rR M j := by
  unfold mRa3
  rw [rR_u, rR_u, hJ, show rR (mRa1 M k x) j = rR M j from mRa1_o hj]
theorem mRa3_n : rR (mRa3 M k x v) (66 + 29 * k) = if mAt M k x = none then nI (mRaN M k + 1) else rR M (66 + 29 * k) := by
  unfold mRa3
  rw [rR_u, if_neg (by omega), rR_u, if_neg (by omega)]
  unfold mRa1
  by_cases h : mAt M k x = none
  · rw [if_pos h, if_pos h, rR_u, if_pos rfl]
  · rw [if_neg h, if_neg h]; exact (mLay_o (by decide)).trans mTh_r
theorem rRt.tell (h : rRt S (rR M) k) (hn : z_nn (z_I S 2 k 2) 12) (hx : 0 ≤ x) : rRt (cTell S k x v) (rR (mRa3 M k x v)) k ∧ (mAt M k x = none ↔ ∀ i, i < cTold S k → z_I S 12 k i ≠ x) ∧ mRaJ M k x ≤ 12 := by
  have ht := h.told
  obtain ⟨h1, hs, h0, hp⟩ := h
  obtain ⟨c1, c2, c3⟩ := cTell_is (x := x) (v := v) hs hn
  have hu : ∀ a b, a < b → b < cTold S k → rR M (66 + 29 * k + 3 + 2 * a) ≠ rR M (66 + 29 * k + 3 + 2 * b) := pig2 (D := fun i => z_I S 12 k i) (H := fun j => rR M (66 + 29 * k + 3 + 2 * j)) hs fun i hi => by
    obtain ⟨j, hj, e, -⟩ := (hp _ _).mp ⟨i, hi, rfl, rfl⟩
    exact ⟨j, hj, e⟩
  have hat := mAt_go (M := M) (k := k) (x := x) (cTold S k) 0 none
  have eat : z_it (mAtS M k x) (cTold S k) 0 none = mAt M k x := by unfold mAt; rw [ht]
  rw [eat] at hat
  have hiff : mAt M k x = none ↔ ∀ i, i < cTold S k → z_I S 12 k i ≠ x := by
    constructor
    · intro hN i hi he
      obtain ⟨j, hj, e, -⟩ := (hp _ _).mp ⟨i, hi, rfl, rfl⟩
      exact (hat.1 hN).2 j (by omega) (by omega) (e.trans he)
    · intro hN
      cases hm : mAt M k x with
      | none => rfl
      | some q =>
        rcases hat.2 q hm with u | ⟨-, u2, u3⟩
        · cases u
        · obtain ⟨i, hi, e, -⟩ := (hp _ _).mpr ⟨q, by omega, rfl, rfl⟩
          exact absurd (e.trans u3) (hN i hi)
  have z1 := z_nn1 hn (by omega)
  have ht12 : cTold S k ≤ 12 := hn.2
  have pos : ∀ i, i < cTold (cTell S k x v) k → 0 ≤ z_I (cTell S k x v) 12 k i := fun i hi => by
    rcases (c3 _ _).mp ⟨i, hi, rfl, rfl⟩ with u | ⟨-, j, hj, e, -⟩
    · rw [u.1]; exact hx
    · rw [← e]; exact h0 j hj
  have hmn : mRaN M k = cTold S k := ht
  cases hm : mAt M k x with
  | none =>
    have hN := hiff.mp hm
    have hJ : mRaJ M k x = cTold S k := by unfold mRaJ; rw [hm]; exact hmn
    have c1' : z_I (cTell S k x v) 2 k 2 = z_I S 2 k 2 + 1 := by
      rcases c1 with u | u
      · obtain ⟨⟨i, hi, he⟩, -⟩ := u; exact absurd he (hN i hi)
      · exact u.2
    have ct : cTold (cTell S k x v) k = cTold S k + 1 := by unfold cTold; rw [c1']; exact z1.1
    refine ⟨⟨?_, c2, pos, fun a b => ?_⟩, ⟨fun _ => hN, fun _ => rfl⟩, by rw [hJ]; exact ht12⟩
    · rw [mRa3_n, if_pos hm, hmn, c1', i_eq, z1.2.2.1, i_nI (by omega), z1.2.2.2.2]; show _ = ((cTold S k : Nat) : Int) + 1; omega
    · rw [c3 a b, ct]
      have g1 : ∀ j, j < cTold S k → rR (mRa3 M k x v) (66 + 29 * k + 3 + 2 * j) = rR M (66 + 29 * k + 3 + 2 * j) ∧ rR (mRa3 M k x v) (66 + 29 * k + 3 + 2 * j + 1) = rR M (66 + 29 * k + 3 + 2 * j + 1) := fun j hj => by
        rw [mRa3_at hJ (by omega), if_neg (by omega), if_neg (by omega), mRa3_at hJ (by omega), if_neg (by omega), if_neg (by omega)]; exact ⟨rfl, rfl⟩
      constructor
      · rintro (⟨rfl, rfl⟩ | ⟨hne, hq⟩)
        · refine ⟨cTold S k, by omega, ?_, ?_⟩
          · rw [mRa3_at hJ (by omega), if_neg (by omega), if_pos rfl]
          · rw [mRa3_at hJ (by omega), if_pos rfl]
        · obtain ⟨j, hj, e1, e2⟩ := (hp a b).mp hq
          exact ⟨j, by omega, by rw [(g1 j hj).1]; exact e1, by rw [(g1 j hj).2]; exact e2⟩
      · rintro ⟨j, hj, e1, e2⟩
        by_cases u : j = cTold S k
        · rw [u, mRa3_at hJ (by omega), if_neg (by omega), if_pos rfl] at e1
          rw [u, mRa3_at hJ (by omega), if_pos rfl] at e2
          exact .inl ⟨e1.symm, e2.symm⟩
        · rw [(g1 j (by omega)).1] at e1
          rw [(g1 j (by omega)).2] at e2
          have hq := (hp a b).mpr ⟨j, by omega, e1, e2⟩
          refine .inr ⟨?_, hq⟩
          obtain ⟨i, hi, u1, -⟩ := hq
          intro hax
          exact hN i hi (u1.trans hax)
  | some J =>
    have hJ : mRaJ M k x = J := by unfold mRaJ; rw [hm]; rfl
    obtain ⟨-, j2, j3⟩ : 0 ≤ J ∧ J < 0 + cTold S k ∧ z_I M 22 0 (66 + 29 * k + 3 + 2 * J) = x := by
      rcases hat.2 J hm with u | u
      · cases u
      · exact u
    have hmn0 : ¬ mAt M k x = none := by rw [hm]; exact fun u => by cases u
    have c1' : z_I (cTell S k x v) 2 k 2 = z_I S 2 k 2 := by
      rcases c1 with u | u
      · exact u.2
      · exact absurd (hiff.mpr u.1) hmn0
    have ct : cTold (cTell S k x v) k = cTold S k := cTold.co c1'
    refine ⟨⟨?_, c2, pos, fun a b => ?_⟩, ⟨fun u => (by cases u), fun u => absurd (hiff.mpr u) hmn0⟩, by omega⟩
    · rw [mRa3_n, if_neg hmn0, c1', h1]
    · rw [c3 a b, ct]
      have g1 : ∀ j, j ≠ J → rR (mRa3 M k x v) (66 + 29 * k + 3 + 2 * j) = rR M (66 + 29 * k + 3 + 2 * j) ∧ rR (mRa3 M k x v) (66 + 29 * k + 3 + 2 * j + 1) = rR M (66 + 29 * k + 3 + 2 * j + 1) := fun j hj => by
        rw [mRa3_at hJ (by omega), if_neg (by omega), if_neg (by omega), mRa3_at hJ (by omega), if_neg (by omega), if_neg (by omega)]; exact ⟨rfl, rfl⟩
      have uniq : ∀ j, j < cTold S k → rR M (66 + 29 * k + 3 + 2 * j) = x → j = J := fun j hj he => by
        rcases Nat.lt_trichotomy j J with u | u | u
        · exact absurd (he.trans j3.symm) (hu j J u (by omega))
        · exact u
        · exact absurd (Eq.trans (show rR M (66 + 29 * k + 3 + 2 * J) = x from j3) he.symm) (hu J j u hj)
      constructor
      · rintro (⟨rfl, rfl⟩ | ⟨hne, hq⟩)
        · refine ⟨J, by omega, ?_, ?_⟩
          · rw [mRa3_at hJ (by omega), if_neg (by omega), if_pos rfl]
          · rw [mRa3_at hJ (by omega), if_pos rfl]
        · obtain ⟨j, hj, e1, e2⟩ := (hp a b).mp hq
          have u : j ≠ J := fun u => hne (by rw [← e1, u]; exact j3)
          exact ⟨j, hj, by rw [(g1 j u).1]; exact e1, by rw [(g1 j u).2]; exact e2⟩
      · rintro ⟨j, hj, e1, e2⟩
        by_cases u : j = J
        · rw [u, mRa3_at hJ (by omega), if_neg (by omega), if_pos rfl] at e1
          rw [u, mRa3_at hJ (by omega), if_pos rfl] at e2
          exact .inl ⟨e1.symm, e2.symm⟩
        · rw [(g1 j u).1] at e1
          rw [(g1 j u).2] at e2
          exact .inr ⟨fun hax => u (uniq j hj (e1.trans hax)), (hp a b).mpr ⟨j, hj, e1, e2⟩⟩
end Re18
