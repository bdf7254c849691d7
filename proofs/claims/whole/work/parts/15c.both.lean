set_option maxHeartbeats 400000
/-! ===== THE MODEL: what stays, what is kept ===== -/
section Me3
variable {i j q r J k t n x : Nat} {v w : Int32} {m m' : zM} {S S' M M' N X Y : zS}
-- what is laid aside, told of refusals, stays
def mF2 (M N : zS) : Prop := (∀ k f, (k = 24 ∨ k = 26 ∨ k = 27 ∨ k = 29 ∨ k = 21 ∨ (k = 6 ∧ f = 8)) → z_I N k 0 f = z_I M k 0 f) ∧ ∀ k f, (k = 25 ∨ k = 28) → z_J N k 0 f = z_J M k 0 f
theorem mF2.rf : mF2 M M := ⟨fun _ _ _ => rfl, fun _ _ _ => rfl⟩
theorem mF2.tr (h : mF2 M N) (g : mF2 N X) : mF2 M X := ⟨fun k f hk => (g.1 k f hk).trans (h.1 k f hk), fun k f hk => (g.2 k f hk).trans (h.2 k f hk)⟩
theorem mF2.th : mF2 M (mTh M) := ⟨fun k f hk => by
  show z_I (z_uI M 6 0 0 0) k 0 f = _
  rw [z_I_u, if_neg (by omega)], fun _ _ _ => rfl⟩
theorem mF2.lay : mF2 M (mLay 30 31 0 M) := ⟨fun k f hk => mLay_o (by omega), fun k f hk => mLay_J (by omega)⟩
theorem mF2.bring {ka kb : Nat} : mF2 M (mBring ka kb q M) := ⟨fun k f hk => mBring_o (by omega), fun k f hk => mBring_oJ (by omega)⟩
theorem mF2.u22 : mF2 M (z_uI M 22 0 j v) := ⟨fun k f hk => by rw [z_I_u, if_neg (by omega)], fun _ _ _ => rfl⟩
theorem mFrm.f2 (h : mFrm M N) : mF2 M N := ⟨fun k f hk => h.1 k 0 f (by omega) (by omega) (by omega), fun k f hk => h.2 k 0 f (by omega)⟩
theorem sR.rf : sR M M := ⟨fun _ _ => rfl, fun _ _ => rfl⟩
theorem sR.th : sR (mTh M) M := ⟨fun _ _ => mTh_r, fun _ _ => rfl⟩
theorem mF2.ud (h : mF2 M N) : sR (mUd N j) (mUd M j) := sR_ud (fun f _ => h.1 24 _ (by omega)) (fun f _ => h.2 25 _ (by omega))
theorem mF2.im (h : mF2 M N) : sR (mIm N j) (mIm M j) := sR_im (fun f _ => h.1 27 _ (by omega)) (fun f _ => h.2 28 _ (by omega))
-- the swap
theorem mSw1_22 : ∀ (n i : Nat) (M : zS), z_I (mSw1 n i M) 22 0 x = if i ≤ x ∧ x < i + n then z_I M 30 0 x else z_I M 22 0 x
  | 0, i, M => by rw [if_neg (by omega)]; rfl
  | n + 1, i, M => by
    show z_I (mSw1 n (i + 1) (z_uI (z_uI M 22 0 i (z_I M 30 0 i)) 30 0 i (z_I M 22 0 i))) 22 0 x = _
    rw [mSw1_22 n (i + 1), z_I_u, z_I_o (k := 22) (k' := 30) (by decide), z_I_o (k := 30) (k' := 22) (by decide), z_I_u]
    by_cases w : i + 1 ≤ x ∧ x < i + 1 + n
    · rw [if_pos w, if_neg (fun q => by omega), if_pos (by omega)]
    · rw [if_neg w]
      by_cases u : x = i
      · rw [if_pos ⟨rfl, rfl, u⟩, if_pos (by omega), u]
      · rw [if_neg (fun q => u q.2.2), if_neg (by omega)]
theorem mSw1_30 : ∀ (n i : Nat) (M : zS), z_I (mSw1 n i M) 30 0 x = if i ≤ x ∧ x < i + n then z_I M 22 0 x else z_I M 30 0 x
  | 0, i, M => by rw [if_neg (by omega)]; rfl
  | n + 1, i, M => by
    show z_I (mSw1 n (i + 1) (z_uI (z_uI M 22 0 i (z_I M 30 0 i)) 30 0 i (z_I M 22 0 i))) 30 0 x = _
    rw [mSw1_30 n (i + 1), z_I_o (k := 30) (k' := 22) (by decide), z_I_u, z_I_u, z_I_o (k := 22) (k' := 30) (by decide)]
    by_cases w : i + 1 ≤ x ∧ x < i + 1 + n
    · rw [if_pos w, if_neg (fun q => by omega), if_pos (by omega)]
    · rw [if_neg w]
      by_cases u : x = i
      · rw [if_pos ⟨rfl, rfl, u⟩, if_pos (by omega), u]
      · rw [if_neg (fun q => u q.2.2), if_neg (by omega)]
theorem mSw2_23 : ∀ (n i : Nat) (M : zS), z_J (mSw2 n i M) 23 0 x = if i ≤ x ∧ x < i + n then z_J M 31 0 x else z_J M 23 0 x
  | 0, i, M => by rw [if_neg (by omega)]; rfl
  | n + 1, i, M => by
    show z_J (mSw2 n (i + 1) (z_uJ (z_uJ M 23 0 i (z_J M 31 0 i)) 31 0 i (z_J M 23 0 i))) 23 0 x = _
    rw [mSw2_23 n (i + 1), z_J_u, z_J_o (k := 23) (k' := 31) (by decide), z_J_o (k := 31) (k' := 23) (by decide), z_J_u]
    by_cases w : i + 1 ≤ x ∧ x < i + 1 + n
    · rw [if_pos w, if_neg (fun q => by omega), if_pos (by omega)]
    · rw [if_neg w]
      by_cases u : x = i
      · rw [if_pos ⟨rfl, rfl, u⟩, if_pos (by omega), u]
      · rw [if_neg (fun q => u q.2.2), if_neg (by omega)]
theorem mSw2_31 : ∀ (n i : Nat) (M : zS), z_J (mSw2 n i M) 31 0 x = if i ≤ x ∧ x < i + n then z_J M 23 0 x else z_J M 31 0 x
  | 0, i, M => by rw [if_neg (by omega)]; rfl
  | n + 1, i, M => by
    show z_J (mSw2 n (i + 1) (z_uJ (z_uJ M 23 0 i (z_J M 31 0 i)) 31 0 i (z_J M 23 0 i))) 31 0 x = _
    rw [mSw2_31 n (i + 1), z_J_o (k := 31) (k' := 23) (by decide), z_J_u, z_J_u, z_J_o (k := 23) (k' := 31) (by decide)]
    by_cases w : i + 1 ≤ x ∧ x < i + 1 + n
    · rw [if_pos w, if_neg (fun q => by omega), if_pos (by omega)]
    · rw [if_neg w]
      by_cases u : x = i
      · rw [if_pos ⟨rfl, rfl, u⟩, if_pos (by omega), u]
      · rw [if_neg (fun q => u q.2.2), if_neg (by omega)]
theorem mSw1_J {i' f : Nat} : ∀ (n i : Nat) (M : zS), z_J (mSw1 n i M) k i' f = z_J M k i' f
  | 0, _, _ => rfl
  | n + 1, i, M => by
    show z_J (mSw1 n (i + 1) (z_uI (z_uI M 22 0 i (z_I M 30 0 i)) 30 0 i (z_I M 22 0 i))) k i' f = _
    rw [mSw1_J n]; rfl
theorem mSw2_I {i' f : Nat} : ∀ (n i : Nat) (M : zS), z_I (mSw2 n i M) k i' f = z_I M k i' f
  | 0, _, _ => rfl
  | n + 1, i, M => by
    show z_I (mSw2 n (i + 1) (z_uJ (z_uJ M 23 0 i (z_J M 31 0 i)) 31 0 i (z_J M 23 0 i))) k i' f = _
    rw [mSw2_I n]; rfl
theorem mSw1_o {i' f : Nat} (h : k ≠ 22) (h2 : k ≠ 30) : ∀ (n i : Nat) (M : zS), z_I (mSw1 n i M) k i' f = z_I M k i' f
  | 0, _, _ => rfl
  | n + 1, i, M => by
    show z_I (mSw1 n (i + 1) (z_uI (z_uI M 22 0 i (z_I M 30 0 i)) 30 0 i (z_I M 22 0 i))) k i' f = _
    rw [mSw1_o h h2 n, z_I_o h2, z_I_o h]
theorem mSw2_o {i' f : Nat} (h : k ≠ 23) (h2 : k ≠ 31) : ∀ (n i : Nat) (M : zS), z_J (mSw2 n i M) k i' f = z_J M k i' f
  | 0, _, _ => rfl
  | n + 1, i, M => by
    show z_J (mSw2 n (i + 1) (z_uJ (z_uJ M 23 0 i (z_J M 31 0 i)) 31 0 i (z_J M 23 0 i))) k i' f = _
    rw [mSw2_o h h2 n, z_J_o h2, z_J_o h]
theorem mF2.swap : mF2 M (mSwap M) := by
  refine ⟨fun k f hk => ?_, fun k f hk => ?_⟩
  · unfold mSwap; rw [mSw2_I, mSw1_o (by omega) (by omega)]
  · unfold mSwap; rw [mSw2_o (by omega) (by omega), mSw1_J]
theorem mSwap_22 (h : x < 891) : z_I (mSwap M) 22 0 x = z_I M 30 0 x := by
  unfold mSwap; rw [mSw2_I, mSw1_22, if_pos (by omega)]
theorem mSwap_30 (h : x < 891) : z_I (mSwap M) 30 0 x = z_I M 22 0 x := by
  unfold mSwap; rw [mSw2_I, mSw1_30, if_pos (by omega)]
theorem mSwap_23 (h : x < 88) : z_J (mSwap M) 23 0 x = z_J M 31 0 x := by
  unfold mSwap; rw [mSw2_23, if_pos (by omega), mSw1_J]
theorem mSwap_31 (h : x < 88) : z_J (mSwap M) 31 0 x = z_J M 23 0 x := by
  unfold mSwap; rw [mSw2_31, if_pos (by omega), mSw1_J]
-- an undo more
def kU (M N : zS) (v : Int32) : Prop := z_I N 6 0 8 = nI (mNu M - mFl M + 1) ∧ (∀ j, j < mNu M - mFl M → sR (mUd N j) (mUd M (j + mFl M)) ∧ z_I N 26 0 j = z_I M 26 0 (j + mFl M)) ∧ (sR (mUd N (mNu M - mFl M)) M ∧ z_I N 26 0 (mNu M - mFl M) = v) ∧ (∀ k, sR (mIm N k) (mIm M k) ∧ z_I N 29 0 k = z_I M 29 0 k) ∧ ∀ f, z_I N 21 0 f = z_I M 21 0 f
theorem kU.rem (hn : z_nn (z_I M 6 0 8) 8) (hf : mF2 M Y) (hr : sR Y M) : kU M (mRem Y v) v := by
  have e8 : z_I Y 6 0 8 = z_I M 6 0 8 := hf.1 6 8 (by omega)
  have hn' : z_nn (z_I Y 6 0 8) 8 := by rw [e8]; exact hn
  have eN : mNu Y = mNu M := congrArg Int32.toNatClampNeg e8
  have eF : mFl Y = mFl M := by unfold mFl; rw [eN]
  have u := fun j => mRem_u (v := v) (j := j) hn'
  have c := mRem_c (v := v) hn'
  have n := mRem_n (v := v) hn'
  rw [eN, eF] at u c n
  refine ⟨n, fun j hj => ?_, ⟨c.1.tr hr, c.2⟩, fun k => ⟨sR_im (fun f _ => ?_) (fun f _ => ?_), ?_⟩, fun f => ?_⟩
  · obtain ⟨u1, u2⟩ := u j hj
    exact ⟨u1.tr hf.ud, u2.trans (hf.1 26 _ (by omega))⟩
  · exact (mRem_o (by decide) (by decide) (by omega)).trans (hf.1 27 _ (by omega))
  · exact (mRem_J (by decide)).trans (hf.2 28 _ (by omega))
  · exact (mRem_o (by decide) (by decide) (by omega)).trans (hf.1 29 _ (by omega))
  · exact (mRem_o (by decide) (by decide) (by omega)).trans (hf.1 21 _ (by omega))
theorem kU.f2 (h : kU M N v) (hf : mF2 N X) : kU M X v := by
  refine ⟨(hf.1 6 8 (by omega)).trans h.1, fun j hj => ?_, ⟨hf.ud.tr h.2.2.1.1, (hf.1 26 _ (by omega)).trans h.2.2.1.2⟩, fun k => ⟨hf.im.tr (h.2.2.2.1 k).1, (hf.1 29 _ (by omega)).trans (h.2.2.2.1 k).2⟩, fun f => (hf.1 21 _ (by omega)).trans (h.2.2.2.2 f)⟩
  obtain ⟨u1, u2⟩ := h.2.1 j hj
  exact ⟨hf.ud.tr u1, (hf.1 26 _ (by omega)).trans u2⟩
theorem kU.act (hn : z_nn (z_I M 6 0 8) 8) (hF : mFrm (mRem (mTh M) v) N) : kU M N v := (kU.rem hn .th .th).f2 hF.f2
-- what was tried
theorem tried_r (hF : mFrm (mLay 30 31 0 (mTh M)) X) (h : x < 891) : z_I X 30 0 x = z_I M 22 0 x := by
  rw [hF.1 30 0 x (by decide) (by decide) (by omega), mLay_I (by decide), if_pos (by omega), Nat.mul_zero, Nat.sub_zero]; exact mTh_r
theorem tried_s (hF : mFrm (mLay 30 31 0 (mTh M)) X) (h : x < 88) : z_J X 31 0 x = z_J M 23 0 x := by
  rw [hF.2 31 0 x (by decide), mLay_K (by decide), if_pos (by omega), Nat.mul_zero, Nat.sub_zero]; rfl
theorem tried_f2 (hF : mFrm (mLay 30 31 0 (mTh M)) X) : mF2 M X := (mF2.th.tr .lay).tr hF.f2
theorem kU.keepT (hn : z_nn (z_I M 6 0 8) 8) (hF : mFrm (mLay 30 31 0 (mTh M)) X) : kU M (mKeepT X v) v := by
  unfold mKeepT
  exact kU.f2 (kU.rem hn ((tried_f2 hF).tr .swap) ⟨fun j hj => (mSwap_22 hj).trans (tried_r hF hj), fun j hj => (mSwap_23 hj).trans (tried_s hF hj)⟩) .bring
theorem keepT_r : sR (mKeepT X v) X := by
  unfold mKeepT
  refine ⟨fun j hj => ?_, fun j hj => ?_⟩
  · rw [mBring_r (by decide) hj, Nat.mul_zero, Nat.zero_add, mRem_o (by decide) (by decide) (by omega), mSwap_30 hj]
  · rw [mBring_s (by decide) hj, Nat.mul_zero, Nat.zero_add, mRem_J (by decide), mSwap_31 hj]
-- nothing but what is between calls
def kS (M N : zS) : Prop := sR N M ∧ mF2 M N ∧ z_I N 6 0 1 = z_I M 6 0 1
theorem mTh_1 : z_I (mTh M) 6 0 1 = z_I M 6 0 1 := by
  show z_I (z_uI M 6 0 0 0) 6 0 1 = _
  rw [z_I_u, if_neg (by omega)]
theorem kS.th : kS M (mTh M) := ⟨.th, .th, mTh_1⟩
theorem kS.back (hF : mFrm (mLay 30 31 0 (mTh M)) X) : kS M (mBring 30 31 0 X) := by
  refine ⟨⟨fun j hj => ?_, fun j hj => ?_⟩, (tried_f2 hF).tr .bring, ?_⟩
  · rw [mBring_r (by decide) hj, Nat.mul_zero, Nat.zero_add, tried_r hF hj]
  · rw [mBring_s (by decide) hj, Nat.mul_zero, Nat.zero_add, tried_s hF hj]
  · rw [mBring_o (by decide), hF.1 6 0 1 (by decide) (by decide) (by omega), mLay_o (by decide)]; exact mTh_1
end Me3
