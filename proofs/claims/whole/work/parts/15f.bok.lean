set_option maxHeartbeats 400000
/-! ===== THE MODEL: what its specs ask, kept ===== -/
section Bo1
variable {d i k g s l t q n p j : Nat} {v w a b c e f x y : Int32} {M N X : zS}
def mSkj (j : Nat) : Prop := j = 3 ∨ (18 ≤ j ∧ j < 66 ∧ 5 ≤ (j - 18) % 8) ∨ (66 ≤ j ∧ j < 211 ∧ (j - 66) % 29 = 0) ∨ (211 ≤ j ∧ ((j - 211) % 17 = 0 ∨ (j - 211) % 17 = 2))
theorem mWl_co (h : ∀ j, mSkj j → j < 891 → ¬ (66 ≤ j ∧ j < 211) → z_I N 22 0 j = z_I M 22 0 j) (hk : ∀ k, k < 5 → z_nn (z_I M 22 0 (66 + 29 * k)) 13 → z_nn (z_I N 22 0 (66 + 29 * k)) 13) (w : mWl M l s) : mWl N l s := by
  have hl := w.hl
  have hs := w.hs
  have e2 : z_I N 22 0 (211 + 17 * l + 2) = z_I M 22 0 (211 + 17 * l + 2) := h _ (by unfold mSkj; omega) (by omega) (by omega)
  have hk2 := w.hK.1.2
  have e0 : ∀ j, j < 3 → mO N s j = mO M s j := fun j hj => h _ (by unfold mSkj; omega) (by omega) (by omega)
  refine ⟨hl, hs, (h _ (by unfold mSkj; omega) (by omega) (by omega)).trans w.hf, ?_, ?_⟩
  · unfold mOok
    rw [e0 0 (by decide), e0 1 (by decide), e0 2 (by decide)]
    exact w.hO
  · unfold mKok mKd
    rw [e2]
    exact ⟨w.hK.1, hk _ (by omega) w.hK.2⟩
theorem mBok_k (h : ∀ j, mSkj j → j < 891 → ¬ (66 ≤ j ∧ j < 211) → z_I N 22 0 j = z_I M 22 0 j) (hk : ∀ k, k < 5 → z_nn (z_I M 22 0 (66 + 29 * k)) 13 → z_nn (z_I N 22 0 (66 + 29 * k)) 13) (b : mBok M) : mBok N := by
  have e3 : z_I N 22 0 3 = z_I M 22 0 3 := h 3 (.inl rfl) (by omega) (by omega)
  unfold mBok
  rw [e3]
  refine ⟨b.1, fun l hl => ?_⟩
  have w := b.2 l hl
  have := w.hl
  rw [show mFr N l = mFr M l from congrArg Int32.toNatClampNeg (h _ (by unfold mSkj; omega) (by omega) (by omega))]
  exact mWl_co h hk w
theorem mBok_co (h : ∀ j, mSkj j → j < 891 → z_I N 22 0 j = z_I M 22 0 j) (b : mBok M) : mBok N :=
  mBok_k (fun j h1 h2 _ => h j h1 h2) (fun k hk hn => by rw [h _ (by unfold mSkj; omega) (by omega)]; exact hn) b
theorem mBok_up (hj : ¬ mSkj j) (b : mBok M) : mBok (z_uI M 22 0 j v) := mBok_co (fun i h1 _ => by rw [z_I_u, if_neg]; rintro ⟨-, -, rfl⟩; exact hj h1) b
theorem mBok_rt (b : mBok M) : mBok (mRem (mTh M) v) := mBok_co (fun _ _ _ => mRT_r) b
theorem mBok_sr (h : sR N M) (b : mBok M) : mBok N := mBok_co (fun j _ hj => h.1 j hj) b
theorem mBok_add (b : mBok M) (hN : mN M < 40) (e3 : z_I N 22 0 3 = nI (mN M + 1)) (ho : ∀ j, mSkj j → j < 891 → j ≠ 3 → ¬ (211 + 17 * mN M ≤ j ∧ j < 211 + 17 * mN M + 17) → z_I N 22 0 j = z_I M 22 0 j) (hn : ∃ s, s < 6 ∧ z_I N 22 0 (211 + 17 * mN M) = nI s ∧ mOok N s ∧ mKok N (mN M)) : mBok N := by
  refine ⟨by rw [e3]; exact nn_nI (by omega) (by omega), fun l hl => ?_⟩
  rw [e3, z_nIc (by omega)] at hl
  by_cases u : l < mN M
  · have w := b.2 l u
    have e : ∀ q, q = 0 ∨ q = 2 → z_I N 22 0 (211 + 17 * l + q) = z_I M 22 0 (211 + 17 * l + q) := fun q hq => ho _ (by unfold mSkj; omega) (by omega) (by omega) (by omega)
    have hs := w.hs
    have hk2 := w.hK.1.2
    have e0 : ∀ j, j < 3 → mO N (mFr M l) j = mO M (mFr M l) j := fun j hj => ho _ (by unfold mSkj; omega) (by omega) (by omega) (by omega)
    rw [show mFr N l = mFr M l from congrArg Int32.toNatClampNeg (e 0 (.inl rfl))]
    refine ⟨w.hl, hs, (e 0 (.inl rfl)).trans w.hf, ?_, ?_⟩
    · unfold mOok
      rw [e0 0 (by decide), e0 1 (by decide), e0 2 (by decide)]
      exact w.hO
    · unfold mKok mKd
      rw [e 2 (.inr rfl), ho (66 + 29 * (z_I M 22 0 (211 + 17 * l + 2)).toNatClampNeg) (by unfold mSkj; omega) (by omega) (by omega) (by omega)]
      exact w.hK
  · have e : l = mN M := by omega
    subst e
    obtain ⟨s, h1, h2, h3, h4⟩ := hn
    have es : mFr N (mN M) = s := by
      show (z_I N 22 0 (211 + 17 * mN M)).toNatClampNeg = s
      rw [h2]; exact z_nIc (by omega)
    rw [es]
    exact ⟨hN, h1, h2, h3, h4⟩
end Bo1
