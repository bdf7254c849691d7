set_option maxHeartbeats 400000
/-! ===== THE MODEL: what is laid aside, what is brought ===== -/
section Me1
variable {d i g s l t q p j x : Nat} {v w : Int32} {M N : zS}
theorem shfI {k D : Nat} (hD : 0 < D) : ∀ (n i : Nat) (M : zS) (x : Nat), z_I (z_it (fun j M => z_uI M k 0 j (z_I M k 0 (j + D))) n i M) k 0 x = if i ≤ x ∧ x < i + n then z_I M k 0 (x + D) else z_I M k 0 x
  | 0, i, M, x => by rw [if_neg (by omega)]; rfl
  | n + 1, i, M, x => by
    show z_I (z_it (fun j M => z_uI M k 0 j (z_I M k 0 (j + D))) n (i + 1) (z_uI M k 0 i (z_I M k 0 (i + D)))) k 0 x = _
    rw [shfI hD n (i + 1) _ x, z_I_u, z_I_u]
    by_cases w : i + 1 ≤ x ∧ x < i + 1 + n
    · rw [if_pos w, if_neg (fun q => by omega), if_pos (by omega)]
    · rw [if_neg w]
      by_cases u : x = i
      · rw [if_pos ⟨rfl, rfl, u⟩, if_pos (by omega), u]
      · rw [if_neg (fun q => u q.2.2), if_neg (by omega)]
theorem shfJ {k D : Nat} (hD : 0 < D) : ∀ (n i : Nat) (M : zS) (x : Nat), z_J (z_it (fun j M => z_uJ M k 0 j (z_J M k 0 (j + D))) n i M) k 0 x = if i ≤ x ∧ x < i + n then z_J M k 0 (x + D) else z_J M k 0 x
  | 0, i, M, x => by rw [if_neg (by omega)]; rfl
  | n + 1, i, M, x => by
    show z_J (z_it (fun j M => z_uJ M k 0 j (z_J M k 0 (j + D))) n (i + 1) (z_uJ M k 0 i (z_J M k 0 (i + D)))) k 0 x = _
    rw [shfJ hD n (i + 1) _ x, z_J_u, z_J_u]
    by_cases w : i + 1 ≤ x ∧ x < i + 1 + n
    · rw [if_pos w, if_neg (fun q => by omega), if_pos (by omega)]
    · rw [if_neg w]
      by_cases u : x = i
      · rw [if_pos ⟨rfl, rfl, u⟩, if_pos (by omega), u]
      · rw [if_neg (fun q => u q.2.2), if_neg (by omega)]
theorem mSf1_at (n i : Nat) (M : zS) (x : Nat) : z_I (mSf1 n i M) 24 0 x = if i ≤ x ∧ x < i + n then z_I M 24 0 (x + 891) else z_I M 24 0 x := shfI (k := 24) (D := 891) (by decide) n i M x
theorem mSf2_at (n i : Nat) (M : zS) (x : Nat) : z_J (mSf2 n i M) 25 0 x = if i ≤ x ∧ x < i + n then z_J M 25 0 (x + 88) else z_J M 25 0 x := shfJ (k := 25) (D := 88) (by decide) n i M x
theorem mSf3_at (n i : Nat) (M : zS) (x : Nat) : z_I (mSf3 n i M) 26 0 x = if i ≤ x ∧ x < i + n then z_I M 26 0 (x + 1) else z_I M 26 0 x := shfI (k := 26) (D := 1) (by decide) n i M x
theorem mShift_24 (h : x < 6237) : z_I (mShift M) 24 0 x = z_I M 24 0 (x + 891) := by
  unfold mShift
  rw [mSf3_o (by decide), mSf2_o, mSf1_at, if_pos (by omega)]
theorem mShift_26 (h : x < 7) : z_I (mShift M) 26 0 x = z_I M 26 0 (x + 1) := by
  unfold mShift
  rw [mSf3_at, if_pos (by omega), mSf2_o, mSf1_o (by decide)]
theorem mShift_25 (h : x < 616) : z_J (mShift M) 25 0 x = z_J M 25 0 (x + 88) := by
  unfold mShift
  rw [mSf3_J, mSf2_at, if_pos (by omega), mSf1_J]
theorem mLyI_at {ka : Nat} (hk : ka ≠ 22) : ∀ (n i : Nat) (M : zS) (x : Nat), z_I (mLyI ka q n i M) ka 0 x = if 891 * q + i ≤ x ∧ x < 891 * q + i + n then z_I M 22 0 (x - 891 * q) else z_I M ka 0 x
  | 0, i, M, x => by rw [if_neg (by omega)]; rfl
  | n + 1, i, M, x => by
    show z_I (mLyI ka q n (i + 1) (z_uI M ka 0 (891 * q + i) (z_I M 22 0 i))) ka 0 x = _
    rw [mLyI_at hk n (i + 1) _ x, z_I_o (Ne.symm hk), z_I_u]
    by_cases w : 891 * q + (i + 1) ≤ x ∧ x < 891 * q + (i + 1) + n
    · rw [if_pos w, if_pos (by omega)]
    · rw [if_neg w]
      by_cases u : x = 891 * q + i
      · rw [if_pos ⟨rfl, rfl, u⟩, if_pos (by omega), show x - 891 * q = i by omega]
      · rw [if_neg (fun q => u q.2.2), if_neg (by omega)]
theorem z_J_o {M : zS} {k i f k' i' f' : Nat} {o : Int64} (h : k' ≠ k) : z_J (z_uJ M k i f o) k' i' f' = z_J M k' i' f' := by
  rw [z_J_u, if_neg fun u => h u.1]
theorem mLyJ_at {kb : Nat} (hk : kb ≠ 23) : ∀ (n i : Nat) (M : zS) (x : Nat), z_J (mLyJ kb q n i M) kb 0 x = if 88 * q + i ≤ x ∧ x < 88 * q + i + n then z_J M 23 0 (x - 88 * q) else z_J M kb 0 x
  | 0, i, M, x => by rw [if_neg (by omega)]; rfl
  | n + 1, i, M, x => by
    show z_J (mLyJ kb q n (i + 1) (z_uJ M kb 0 (88 * q + i) (z_J M 23 0 i))) kb 0 x = _
    rw [mLyJ_at hk n (i + 1) _ x, z_J_o (Ne.symm hk), z_J_u]
    by_cases w : 88 * q + (i + 1) ≤ x ∧ x < 88 * q + (i + 1) + n
    · rw [if_pos w, if_pos (by omega)]
    · rw [if_neg w]
      by_cases u : x = 88 * q + i
      · rw [if_pos ⟨rfl, rfl, u⟩, if_pos (by omega), show x - 88 * q = i by omega]
      · rw [if_neg (fun q => u q.2.2), if_neg (by omega)]
theorem mLay_I {ka kb : Nat} (hk : ka ≠ 22) : z_I (mLay ka kb q M) ka 0 x = if 891 * q ≤ x ∧ x < 891 * q + 891 then z_I M 22 0 (x - 891 * q) else z_I M ka 0 x := by
  unfold mLay
  rw [mLyJ_o, mLyI_at hk, Nat.add_zero]
theorem mLay_K {ka kb : Nat} (hk : kb ≠ 23) : z_J (mLay ka kb q M) kb 0 x = if 88 * q ≤ x ∧ x < 88 * q + 88 then z_J M 23 0 (x - 88 * q) else z_J M kb 0 x := by
  unfold mLay
  rw [mLyJ_at hk, mLyI_J, mLyI_J, Nat.add_zero]
theorem mBrI_at {ka : Nat} (hk : ka ≠ 22) : ∀ (n i : Nat) (M : zS) (x : Nat), z_I (mBrI ka q n i M) 22 0 x = if i ≤ x ∧ x < i + n then z_I M ka 0 (891 * q + x) else z_I M 22 0 x
  | 0, i, M, x => by rw [if_neg (by omega)]; rfl
  | n + 1, i, M, x => by
    show z_I (mBrI ka q n (i + 1) (z_uI M 22 0 i (z_I M ka 0 (891 * q + i)))) 22 0 x = _
    rw [mBrI_at hk n (i + 1) _ x, z_I_o hk, z_I_u]
    by_cases w : i + 1 ≤ x ∧ x < i + 1 + n
    · rw [if_pos w, if_pos (by omega)]
    · rw [if_neg w]
      by_cases u : x = i
      · rw [if_pos ⟨rfl, rfl, u⟩, if_pos (by omega), u]
      · rw [if_neg (fun q => u q.2.2), if_neg (by omega)]
theorem mBrJ_at {kb : Nat} (hk : kb ≠ 23) : ∀ (n i : Nat) (M : zS) (x : Nat), z_J (mBrJ kb q n i M) 23 0 x = if i ≤ x ∧ x < i + n then z_J M kb 0 (88 * q + x) else z_J M 23 0 x
  | 0, i, M, x => by rw [if_neg (by omega)]; rfl
  | n + 1, i, M, x => by
    show z_J (mBrJ kb q n (i + 1) (z_uJ M 23 0 i (z_J M kb 0 (88 * q + i)))) 23 0 x = _
    rw [mBrJ_at hk n (i + 1) _ x, z_J_o hk, z_J_u]
    by_cases w : i + 1 ≤ x ∧ x < i + 1 + n
    · rw [if_pos w, if_pos (by omega)]
    · rw [if_neg w]
      by_cases u : x = i
      · rw [if_pos ⟨rfl, rfl, u⟩, if_pos (by omega), u]
      · rw [if_neg (fun q => u q.2.2), if_neg (by omega)]
theorem mBrJ_I {kb k i' f : Nat} : ∀ (n i : Nat) (M : zS), z_I (mBrJ kb q n i M) k i' f = z_I M k i' f
  | 0, _, _ => rfl
  | n + 1, i, M => by
    show z_I (mBrJ kb q n (i + 1) (z_uJ M 23 0 i (z_J M kb 0 (88 * q + i)))) k i' f = _
    rw [mBrJ_I n]; rfl
theorem mBrI_J {ka k i' f : Nat} : ∀ (n i : Nat) (M : zS), z_J (mBrI ka q n i M) k i' f = z_J M k i' f
  | 0, _, _ => rfl
  | n + 1, i, M => by
    show z_J (mBrI ka q n (i + 1) (z_uI M 22 0 i (z_I M ka 0 (891 * q + i)))) k i' f = _
    rw [mBrI_J n]; rfl
theorem mBrJ_oJ {kb k i' f : Nat} (h : k ≠ 23) : ∀ (n i : Nat) (M : zS), z_J (mBrJ kb q n i M) k i' f = z_J M k i' f
  | 0, _, _ => rfl
  | n + 1, i, M => by
    show z_J (mBrJ kb q n (i + 1) (z_uJ M 23 0 i (z_J M kb 0 (88 * q + i)))) k i' f = _
    rw [mBrJ_oJ h n, z_J_o h]
theorem mBring_r {ka kb : Nat} (hk : ka ≠ 22) (h : x < 891) : z_I (mBring ka kb q M) 22 0 x = z_I M ka 0 (891 * q + x) := by
  unfold mBring
  rw [mBrJ_I, mBrI_at hk, if_pos (by omega)]
theorem mBring_s {ka kb : Nat} (hk : kb ≠ 23) (h : x < 88) : z_J (mBring ka kb q M) 23 0 x = z_J M kb 0 (88 * q + x) := by
  unfold mBring
  rw [mBrJ_at hk, if_pos (by omega), mBrI_J]
theorem mBring_oJ {ka kb k i f : Nat} (h : k ≠ 23) : z_J (mBring ka kb q M) k i f = z_J M k i f := by
  unfold mBring
  rw [mBrJ_oJ h, mBrI_J]
-- what is laid in an undo's place, in an image's
def mUd (M : zS) (j : Nat) : zS := (fun _ _ f => z_I M 24 0 (891 * j + f), fun _ _ f => z_J M 25 0 (88 * j + f))
def mIm (M : zS) (j : Nat) : zS := (fun _ _ f => z_I M 27 0 (891 * j + f), fun _ _ f => z_J M 28 0 (88 * j + f))
def sR (A B : zS) : Prop := (∀ j, j < 891 → z_I A 22 0 j = z_I B 22 0 j) ∧ ∀ j, j < 88 → z_J A 23 0 j = z_J B 23 0 j
theorem sR.tr {A C D : zS} (h : sR A C) (g : sR C D) : sR A D := ⟨fun j hj => (h.1 j hj).trans (g.1 j hj), fun j hj => (h.2 j hj).trans (g.2 j hj)⟩
theorem sR.sy {A C : zS} (h : sR A C) : sR C A := ⟨fun j hj => (h.1 j hj).symm, fun j hj => (h.2 j hj).symm⟩
theorem mUd_I {j f : Nat} : z_I (mUd M j) 22 0 f = z_I M 24 0 (891 * j + f) := id rfl
theorem mUd_J {j f : Nat} : z_J (mUd M j) 23 0 f = z_J M 25 0 (88 * j + f) := id rfl
theorem mIm_I {j f : Nat} : z_I (mIm M j) 22 0 f = z_I M 27 0 (891 * j + f) := id rfl
theorem mIm_J {j f : Nat} : z_J (mIm M j) 23 0 f = z_J M 28 0 (88 * j + f) := id rfl
theorem sR_ud (h : ∀ f, f < 891 → z_I N 24 0 (891 * i + f) = z_I M 24 0 (891 * j + f)) (h2 : ∀ f, f < 88 → z_J N 25 0 (88 * i + f) = z_J M 25 0 (88 * j + f)) : sR (mUd N i) (mUd M j) := ⟨fun f hf => by rw [mUd_I, mUd_I]; exact h f hf, fun f hf => by rw [mUd_J, mUd_J]; exact h2 f hf⟩
theorem sR_u1 (h : ∀ f, f < 891 → z_I N 24 0 (891 * i + f) = z_I M 22 0 f) (h2 : ∀ f, f < 88 → z_J N 25 0 (88 * i + f) = z_J M 23 0 f) : sR (mUd N i) M := ⟨fun f hf => by rw [mUd_I]; exact h f hf, fun f hf => by rw [mUd_J]; exact h2 f hf⟩
theorem sR_1u (h : ∀ f, f < 891 → z_I N 22 0 f = z_I M 24 0 (891 * j + f)) (h2 : ∀ f, f < 88 → z_J N 23 0 f = z_J M 25 0 (88 * j + f)) : sR N (mUd M j) := ⟨fun f hf => by rw [mUd_I]; exact h f hf, fun f hf => by rw [mUd_J]; exact h2 f hf⟩
theorem sR_im (h : ∀ f, f < 891 → z_I N 27 0 (891 * i + f) = z_I M 27 0 (891 * j + f)) (h2 : ∀ f, f < 88 → z_J N 28 0 (88 * i + f) = z_J M 28 0 (88 * j + f)) : sR (mIm N i) (mIm M j) := ⟨fun f hf => by rw [mIm_I, mIm_I]; exact h f hf, fun f hf => by rw [mIm_J, mIm_J]; exact h2 f hf⟩
theorem sR_i1 (h : ∀ f, f < 891 → z_I N 27 0 (891 * i + f) = z_I M 22 0 f) (h2 : ∀ f, f < 88 → z_J N 28 0 (88 * i + f) = z_J M 23 0 f) : sR (mIm N i) M := ⟨fun f hf => by rw [mIm_I]; exact h f hf, fun f hf => by rw [mIm_J]; exact h2 f hf⟩
theorem sR_1i (h : ∀ f, f < 891 → z_I N 22 0 f = z_I M 27 0 (891 * j + f)) (h2 : ∀ f, f < 88 → z_J N 23 0 f = z_J M 28 0 (88 * j + f)) : sR N (mIm M j) := ⟨fun f hf => by rw [mIm_I]; exact h f hf, fun f hf => by rw [mIm_J]; exact h2 f hf⟩
theorem Ok.sr {B : Int} {T : Nat} {S : zS} (h : Ok B T S M) (hs : sR N M) : Ok B T S N := h.mo hs.1 hs.2
abbrev mFl (M : zS) : Nat := if mNu M = 8 then 1 else 0
theorem mFull (h : z_nn (z_I M 6 0 8) 8) : z_I M 6 0 8 = 8 ↔ mNu M = 8 := by
  constructor
  · intro e
    show (z_I M 6 0 8).toNatClampNeg = 8
    rw [e]; rfl
  · intro e
    rw [h.eq, show (z_I M 6 0 8).toNatClampNeg = 8 from e]; rfl
theorem mRem0_n (h : z_nn (z_I M 6 0 8) 8) : z_I (mRem0 M) 6 0 8 = nI (mNu M - mFl M) := by
  unfold mRem0 mFl
  by_cases u : z_I M 6 0 8 = 8
  · rw [if_pos u, z_I_u, if_pos ⟨rfl, rfl, rfl⟩, mShift_o (by decide) (by decide), u, if_pos ((mFull h).mp u), (mFull h).mp u]; rfl
  · rw [if_neg u, if_neg (fun e => u ((mFull h).mpr e))]; exact h.eq
theorem mRem0_u (h : z_nn (z_I M 6 0 8) 8) (hj : j < mNu M - mFl M) : sR (mUd (mRem0 M) j) (mUd M (j + mFl M)) ∧ z_I (mRem0 M) 26 0 j = z_I M 26 0 (j + mFl M) := by
  have h8 : mNu M ≤ 8 := h.2
  unfold mFl at hj ⊢
  by_cases e : mNu M = 8
  · have u := (mFull h).mpr e
    rw [if_pos e] at hj ⊢
    unfold mRem0
    rw [if_pos u]
    refine ⟨sR_ud (fun f hf => ?_) (fun f hf => ?_), ?_⟩
    · rw [z_I_o (by decide), mShift_24 (by omega), show 891 * j + f + 891 = 891 * (j + 1) + f by omega]
    · rw [z_J_uI, mShift_25 (by omega), show 88 * j + f + 88 = 88 * (j + 1) + f by omega]
    · rw [z_I_o (by decide), mShift_26 (by omega)]
  · have u : ¬ z_I M 6 0 8 = 8 := fun q => e ((mFull h).mp q)
    rw [if_neg e] at hj ⊢
    unfold mRem0
    rw [if_neg u]
    exact ⟨sR_ud (fun _ _ => rfl) (fun _ _ => rfl), rfl⟩
theorem mRem0_o {k i f : Nat} (h1 : k ≠ 24) (h2 : k ≠ 26) (h3 : ¬ (k = 6 ∧ f = 8)) : z_I (mRem0 M) k i f = z_I M k i f := by
  unfold mRem0
  split
  · rw [z_I_u, if_neg (fun u => h3 ⟨u.1, u.2.2⟩), mShift_o h1 h2]
  · rfl
theorem mRem0_J {k i f : Nat} (h1 : k ≠ 25) : z_J (mRem0 M) k i f = z_J M k i f := by
  unfold mRem0
  split
  · rw [z_J_uI, mShift_J h1]
  · rfl
theorem mNu0 (h : z_nn (z_I M 6 0 8) 8) : mNu (mRem0 M) = mNu M - mFl M := by
  show (z_I (mRem0 M) 6 0 8).toNatClampNeg = _
  have h8 : mNu M ≤ 8 := h.2
  rw [mRem0_n h]; exact z_nIc (by omega)
theorem mRem_n (h : z_nn (z_I M 6 0 8) 8) : z_I (mRem M v) 6 0 8 = nI (mNu M - mFl M + 1) := by
  unfold mRem
  rw [z_I_u, if_pos ⟨rfl, rfl, rfl⟩, mNu0 h]
theorem mRem_o {k i f : Nat} (h1 : k ≠ 24) (h2 : k ≠ 26) (h3 : ¬ (k = 6 ∧ f = 8)) : z_I (mRem M v) k i f = z_I M k i f := by
  unfold mRem mRem1
  rw [z_I_u, if_neg (fun u => h3 ⟨u.1, u.2.2⟩), z_I_o h2, mLay_o h1, mRem0_o h1 h2 h3]
theorem mRem_u (h : z_nn (z_I M 6 0 8) 8) (hj : j < mNu M - mFl M) : sR (mUd (mRem M v) j) (mUd M (j + mFl M)) ∧ z_I (mRem M v) 26 0 j = z_I M 26 0 (j + mFl M) := by
  obtain ⟨h1, h2⟩ := mRem0_u h hj
  have e := mNu0 h
  refine ⟨sR.tr (sR_ud (fun f hf => ?_) (fun f hf => ?_)) h1, ?_⟩
  · unfold mRem mRem1
    rw [z_I_o (by decide), z_I_o (by decide), mLay_I (by decide), e, if_neg (by omega)]
  · unfold mRem mRem1
    rw [z_J_uI, z_J_uI, mLay_K (by decide), e, if_neg (by omega)]
  · rw [← h2]
    unfold mRem mRem1
    rw [z_I_o (by decide), e, z_I_u, if_neg (fun u => by omega), mLay_o (by decide)]
theorem mRem_c (h : z_nn (z_I M 6 0 8) 8) : sR (mUd (mRem M v) (mNu M - mFl M)) M ∧ z_I (mRem M v) 26 0 (mNu M - mFl M) = v := by
  have e := mNu0 h
  refine ⟨sR_u1 (fun f hf => ?_) (fun f hf => ?_), ?_⟩
  · unfold mRem mRem1
    rw [z_I_o (by decide), z_I_o (by decide), mLay_I (by decide), e, if_pos (by omega), Nat.add_sub_cancel_left, mRem0_o (by decide) (by decide) (by omega)]
  · unfold mRem mRem1
    rw [z_J_uI, z_J_uI, mLay_K (by decide), e, if_pos (by omega), Nat.add_sub_cancel_left, mRem0_J (by decide)]
  · unfold mRem mRem1
    rw [z_I_o (by decide), e, z_I_u, if_pos ⟨rfl, rfl, rfl⟩]
end Me1
