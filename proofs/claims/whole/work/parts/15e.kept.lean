set_option maxHeartbeats 400000
/-! ===== CLASS AND MODEL: an act kept, an undo, images ===== -/
section Me5
variable {i j q r J k t n x : Nat} {v w : Int32} {m m' : zM} {S S' M M' N X Y : zS}
theorem Iv.keep (h : Iv m M) (hU : kU M N v) : KB (mKeep m v) N ∧ IB (mKeep m v) N ∧ RB (z_g (mKeep m v) 0) N := by
  have b6 : cKc m ≤ 8 := h.kb.1.2.2
  have eN := h.eN
  have eF := h.eF
  unfold kU at hU
  rw [eN, eF] at hU
  obtain ⟨u1, u2, ⟨u3, u4⟩, u5, u6⟩ := hU
  obtain ⟨k1, k2, k3⟩ := mKeep_ring (v := v) h.kb.1 h.dy
  obtain ⟨b1, b2, ⟨S0, b3⟩, b4⟩ := mKeep_b (v := v) h.dy
  have g0 := mKeep_0 (v := v) h.dy
  have hsl := cSlot_is h.kb.1
  have hfl : cFl m ≤ 1 := by
    unfold cFl
    split <;> omega
  have hsl8 : cSlot m < 8 := cSlot_lt
  have hcf : cKc m - cFl m ≤ 7 := by
    unfold cFl
    split <;> omega
  generalize hs : cFl m = s at *
  generalize hc : cKc m - s = c at *
  have hgq : ∀ j q, j ≠ 3 + cSlot m → z_d m j = some q → z_g (mKeep m v) q = z_g m q := fun j q hj hq => by
    have := h.dy.2.1 j q hq
    exact b4 q (by omega) (b2 j q hj hq)
  refine ⟨⟨k1, ?_, fun i hi => ?_⟩, ?_, ?_⟩
  · rw [u1, k1.2.eq, show (z_I (z_g (mKeep m v) 0) 5 0 6).toNatClampNeg = cKc (mKeep m v) from rfl, k3]
  · rw [k3] at hi
    rw [k2]
    by_cases hic : i < c
    · obtain ⟨e1, e2⟩ := u2 i hic
      have hm : ((cKf m + s) % 8 + i) % 8 = (cKf m + (i + s)) % 8 := by omega
      have hne : (cKf m + (i + s)) % 8 ≠ cSlot m := by omega
      obtain ⟨⟨q, h1, h2⟩, h3⟩ := h.kb.2.2 (i + s) (by omega)
      rw [hm]
      refine ⟨⟨q, by rw [mKeep_d, if_neg (by omega)]; exact h1, by rw [hgq _ q (by omega) h1]; exact h2.sr e1⟩, ?_⟩
      rw [g0, z_I_u, if_neg (by omega), cKeepX_o (by omega), h3, e2]
    · have hic : i = c := by omega
      subst hic
      have hm : ((cKf m + s) % 8 + i) % 8 = cSlot m := by omega
      rw [hm]
      refine ⟨⟨mKb m, by rw [mKeep_d, if_pos rfl], ?_⟩, ?_⟩
      · rw [b3]; exact (h.ok.alk .cp).sr u3
      · rw [g0, z_I_u, if_pos ⟨rfl, rfl, rfl⟩, u4]
  · exact h.ib.co (fun k hk => by rw [mKeep_d, if_neg (by omega)]) (fun k q hk hq => hgq _ q (by omega) hq) u5
  · rw [g0]
    exact h.sb.2.co (fun f hf => by rw [z_I_o (by decide), cKeepX_o (by omega)]) u6
theorem Iv.act2 (h : Iv m M) (hU : kU M N v) (hd : ∀ j, z_d m' j = z_d (mKeep m v) j) (hn : z_nb m' = z_nb (mKeep m v)) (hg : ∀ r, r ≠ 0 → r ≠ 2 → z_g m' r = z_g (mKeep m v) r) (h0 : z_g m' 0 = z_uI (z_g (mKeep m v) 0) 5 0 7 0) (hO : OK (z_g m' 2) N) : Iv m' (z_uI N 6 0 1 0) := by
  obtain ⟨k1, k2, k3⟩ := h.keep hU
  have dy := mKeep_dy (v := v) h.dy
  have c : cSm (mKeep m v) m' := ⟨fun j _ => hd j, fun j q _ hq => hg q (by have := dy.2.1 j q hq; omega) (by have := dy.2.1 j q hq; omega)⟩
  refine ⟨dy.co hd hn, k1.co c (by rw [h0]; exact .u7) .u1, k2.c2 c .u1, ⟨?_, ?_⟩, hO.sr .u1⟩
  · rw [h0, z_I_u, if_pos ⟨rfl, rfl, rfl⟩, z_I_u, if_pos ⟨rfl, rfl, rfl⟩]
  · rw [h0]
    exact k3.co (fun f hf => by rw [z_I_u, if_neg (by omega)]) fun f => by rw [z_I_u, if_neg (by omega)]
-- an act, then the turns
theorem Iv.actU (h : Iv m M) (hU : kU M N v) (hO : OK S' N) : Iv (mAct (z_s (mKeep m v) 2 S')) (mActd N) := by
  have e2 : z_g (mAct (z_s (mKeep m v) 2 S')) 2 = cTurns S' := by
    unfold mAct
    rw [z_g_20, z_g_ss, z_g_ss]
  refine h.act2 (v := v) (N := mTurns N) (hU.f2 mFrm.turns.f2) (fun _ => rfl) rfl (fun r h0 h2 => ?_) ?_ (by rw [e2]; exact (sim_turns hO).1)
  · unfold mAct
    rw [z_g_sn h0, z_g_sn h2, z_g_sn h2]
  · unfold mAct
    rw [z_g_ss, z_g_02]
theorem Iv.act (h : Iv m M) (hF : mFrm (mRem (mTh M) v) N) (hO : OK S' N) : Iv (mAct (z_s (mKeep m v) 2 S')) (mActd N) := h.actU (kU.act h.nu hF) hO
theorem act_1 (h : cMok m) : z_g (mAct (z_s (mKeep m v) 2 S')) 1 = z_g m 1 := by
  unfold mAct
  rw [z_g_sn (by decide), z_g_sn (by decide), z_g_sn (by decide), mKeep_1 h]
theorem ref_1 : z_g (mRef m v) 1 = z_g m 1 := z_g_sn (by decide)
-- undo
theorem Iv.undo (h : Iv m M) (hc : ¬ z_I (z_g m 0) 5 0 6 = 0) : z_I (z_g m 0) 19 0 (cUSlot m) = z_I M 26 0 (mNu M - 1) ∧ Iv (mUndo m) (mUn M) ∧ (∀ q, z_d m (3 + cUSlot m) = some q → cCnts (z_g m q)) ∧ z_g (mUndo m) 1 = z_g m 1 := by
  have b6 : cKc m ≤ 8 := h.kb.1.2.2
  have eN := h.eN
  have c0 : 0 < cKc m := by
    rcases Nat.eq_zero_or_pos (cKc m) with q | q
    · exact absurd (by rw [h.kb.1.2.eq, show (z_I (z_g m 0) 5 0 6).toNatClampNeg = cKc m from rfl, q]; rfl) hc
    · exact q
  obtain ⟨⟨q, h1, h2⟩, h3⟩ := h.kb.2.2 (cKc m - 1) (by omega)
  have h1 : z_d m (3 + cUSlot m) = some q := h1
  have h3 : z_I (z_g m 0) 19 0 (cUSlot m) = z_I M 26 0 (cKc m - 1) := h3
  have hq := h.dy.2.1 _ q h1
  have e : mUndo2 m = z_s (mUndo1 m) 2 (cpBk (z_g m 2) (z_g m q)) := by unfold mUndo2; rw [h1]
  have em : mUndo m = z_s (z_s (mUndo1 m) 2 (cpBk (z_g m 2) (z_g m q))) 0 (z_uI (z_g (z_s (mUndo1 m) 2 (cpBk (z_g m 2) (z_g m q))) 0) 5 0 7 0) := by unfold mUndo; rw [e]
  have g0 : z_g (mUndo m) 0 = z_uI (z_uI (z_g m 0) 5 0 6 (nI (cKc m - 1))) 5 0 7 0 := by
    rw [em, z_g_ss, z_g_02]
    unfold mUndo1
    rw [z_g_ss]
  have g2 : z_g (mUndo m) 2 = cpBk (z_g m 2) (z_g m q) := by rw [em, z_g_20, z_g_ss]
  have gr : ∀ r, r ≠ 0 → r ≠ 2 → z_g (mUndo m) r = z_g m r := fun r r0 r2 => by
    rw [em, z_g_sn r0, z_g_sn r2]
    exact z_g_sn r0
  have hd : ∀ j, z_d (mUndo m) j = z_d m j := fun j => by rw [em]; rfl
  have hn : z_nb (mUndo m) = z_nb m := by rw [em]; rfl
  have r6 : z_I (z_g (mUndo m) 0) 5 0 6 = nI (cKc m - 1) := by rw [g0, z_I_u, if_neg (by omega), z_I_u, if_pos ⟨rfl, rfl, rfl⟩]
  have r5 : z_I (z_g (mUndo m) 0) 5 0 5 = z_I (z_g m 0) 5 0 5 := by rw [g0, z_I_u, if_neg (by omega), z_I_u, if_neg (by omega)]
  have e5 : cKf (mUndo m) = cKf m := congrArg Int32.toNatClampNeg r5
  have e6 : cKc (mUndo m) = cKc m - 1 := by
    show (z_I (z_g (mUndo m) 0) 5 0 6).toNatClampNeg = _
    rw [r6]; exact z_nIc (by omega)
  have fo : ∀ k f, k ≠ 22 → k ≠ 6 → z_I (mUn M) k 0 f = z_I M k 0 f := fun k f h22 h6 => by
    unfold mUn
    rw [z_I_o h6, mBring_o h22, z_I_o h6, z_I_o h6]
  have fj : ∀ k f, k ≠ 23 → z_J (mUn M) k 0 f = z_J M k 0 f := fun k f h23 => by
    unfold mUn
    rw [z_J_uI, mBring_oJ h23, z_J_uI, z_J_uI]
  have f8 : z_I (mUn M) 6 0 8 = nI (cKc m - 1) := by
    unfold mUn
    rw [z_I_u, if_neg (by omega), mBring_o (by decide), z_I_u, if_pos ⟨rfl, rfl, rfl⟩, eN]
  have sr : sR (mUn M) (mUd M (cKc m - 1)) := by
    refine sR_1u (fun f hf => ?_) (fun f hf => ?_)
    · unfold mUn
      rw [z_I_o (by decide), mBring_r (by decide) hf, eN, z_I_o (by decide), z_I_o (by decide)]
    · unfold mUn
      rw [z_J_uI, mBring_s (by decide) hf, eN, z_J_uI, z_J_uI]
  refine ⟨by rw [eN]; exact h3, ⟨h.dy.co hd hn, ⟨⟨by rw [r5]; exact h.kb.1.1, by rw [r6]; exact nn_nI (by omega) (by omega)⟩, by rw [f8, r6], fun i hi => ?_⟩, ?_, ⟨?_, ?_⟩, ?_⟩, fun q' hq' => ?_, gr 1 (by decide) (by decide)⟩
  · rw [e6] at hi
    obtain ⟨⟨q', i1, i2⟩, i3⟩ := h.kb.2.2 i (by omega)
    have hq' := h.dy.2.1 _ q' i1
    rw [e5]
    refine ⟨⟨q', by rw [hd]; exact i1, ?_⟩, ?_⟩
    · rw [gr q' (by omega) (by omega)]
      exact i2.sr (sR_ud (fun f _ => fo 24 _ (by decide) (by decide)) (fun f _ => fj 25 _ (by decide)))
    · rw [g0, z_I_u, if_neg (by omega), z_I_u, if_neg (by omega), fo 26 i (by decide) (by decide)]; exact i3
  · exact h.ib.co (fun k _ => hd _) (fun k q' _ hq' => gr q' (by have := h.dy.2.1 _ q' hq'; omega) (by have := h.dy.2.1 _ q' hq'; omega)) fun k => ⟨sR_im (fun f _ => fo 27 _ (by decide) (by decide)) (fun f _ => fj 28 _ (by decide)), fo 29 k (by decide) (by decide)⟩
  · rw [g0, z_I_u, if_pos ⟨rfl, rfl, rfl⟩]
    unfold mUn
    rw [z_I_u, if_pos ⟨rfl, rfl, rfl⟩]
  · rw [g0]
    exact h.sb.2.co (fun f hf => by rw [z_I_u, if_neg (by omega), z_I_u, if_neg (by omega)]) fun f => fo 21 f (by decide) (by decide)
  · rw [g2]
    exact (h2.alk .cp).sr sr
  · rw [h1] at hq'
    cases hq'
    exact h2.cn
-- image
theorem Iv.image (h : Iv m M) (hk : k < 2) : Iv (mImage m k) (mImg M k) ∧ z_g (mImage m k) 1 = z_g m 1 := by
  obtain ⟨b1, b2, b3, b4, ⟨S0, b5⟩, b6⟩ := mCz_b h.dy (1 + k)
  have em : mImage m k = z_s (mCz m (1 + k)) 0 (z_uI (z_g (mCz m (1 + k)) 0) 5 0 7 0) := rfl
  have g0 : z_g (mImage m k) 0 = z_uI (z_g m 0) 5 0 7 0 := by rw [em, z_g_ss, b6 0 (by omega)]
  have gr : ∀ r, r ≠ 0 → r ≠ mCb m (1 + k) → z_g (mImage m k) r = z_g m r := fun r r0 rb => by rw [em, z_g_sn r0, b6 r rb]
  have b0 : mCb m (1 + k) ≠ 0 := by omega
  have gb : z_g (mImage m k) (mCb m (1 + k)) = cpBk S0 (z_g m 2) := by rw [em, z_g_sn b0, b5]
  have hd : ∀ j, z_d (mImage m k) j = if j = 1 + k then some (mCb m (1 + k)) else z_d m j := fun j => mCz_d m (1 + k) j
  have hgq : ∀ j q, j ≠ 1 + k → z_d m j = some q → z_g (mImage m k) q = z_g m q := fun j q hj hq => gr q (by have := h.dy.2.1 j q hq; omega) (b4 j q hj hq)
  have fo : ∀ k' f, k' ≠ 27 → k' ≠ 29 → k' ≠ 6 → z_I (mImg M k) k' 0 f = z_I M k' 0 f := fun k' f h1 h2 h3 => by
    unfold mImg
    rw [z_I_o h3, z_I_o h2, mLay_o h1, z_I_o h3]
  have fj : ∀ k' f, k' ≠ 28 → z_J (mImg M k) k' 0 f = z_J M k' 0 f := fun k' f h1 => by
    unfold mImg
    rw [z_J_uI, z_J_uI, mLay_J h1, z_J_uI]
  have f8 : z_I (mImg M k) 6 0 8 = z_I M 6 0 8 := by
    unfold mImg
    rw [z_I_u, if_neg (by omega), z_I_o (by decide), mLay_o (by decide), z_I_u, if_neg (by omega)]
  have f27 : ∀ f, z_I (mImg M k) 27 0 f = if 891 * k ≤ f ∧ f < 891 * k + 891 then z_I M 22 0 (f - 891 * k) else z_I M 27 0 f := fun f => by
    unfold mImg
    rw [z_I_o (by decide), z_I_o (by decide), mLay_I (by decide), z_I_o (by decide), z_I_o (by decide)]
  have f28 : ∀ f, z_J (mImg M k) 28 0 f = if 88 * k ≤ f ∧ f < 88 * k + 88 then z_J M 23 0 (f - 88 * k) else z_J M 28 0 f := fun f => by
    unfold mImg
    rw [z_J_uI, z_J_uI, mLay_K (by decide), z_J_uI, z_J_uI]
  have f29 : ∀ f, z_I (mImg M k) 29 0 f = if f = k then 1 else z_I M 29 0 f := fun f => by
    unfold mImg
    rw [z_I_o (by decide), z_I_u]
    by_cases u : f = k
    · rw [if_pos u, if_pos ⟨rfl, rfl, u⟩]
    · rw [if_neg u, if_neg (fun q => u q.2.2), mLay_o (by decide), z_I_o (by decide)]
  refine ⟨⟨(mCz_dy h.dy (1 + k)).co (fun _ => rfl) rfl, ?_, fun k' hk' => ?_, ⟨?_, ?_⟩, ?_⟩, gr 1 (by decide) (by omega)⟩
  · refine ⟨⟨by rw [g0, cRg.u7.1]; exact h.kb.1.1, by rw [g0, cRg.u7.2.1]; exact h.kb.1.2⟩, ?_, fun i hi => ?_⟩
    · rw [f8, g0]; exact h.kb.2.1
    · rw [show cKc (mImage m k) = cKc m from congrArg Int32.toNatClampNeg (show z_I (z_g (mImage m k) 0) 5 0 6 = z_I (z_g m 0) 5 0 6 by rw [g0]; exact cRg.u7.2.1)] at hi
      rw [show cKf (mImage m k) = cKf m from congrArg Int32.toNatClampNeg (show z_I (z_g (mImage m k) 0) 5 0 5 = z_I (z_g m 0) 5 0 5 by rw [g0]; exact cRg.u7.1)]
      obtain ⟨⟨q', i1, i2⟩, i3⟩ := h.kb.2.2 i hi
      refine ⟨⟨q', by rw [hd, if_neg (by omega)]; exact i1, ?_⟩, ?_⟩
      · rw [hgq _ q' (by omega) i1]
        exact i2.sr (sR_ud (fun f _ => fo 24 _ (by decide) (by decide) (by decide)) (fun f _ => fj 25 _ (by decide)))
      · rw [g0, z_I_o (by decide), fo 26 i (by decide) (by decide) (by decide)]; exact i3
  · rw [hd, f29]
    by_cases u : k' = k
    · right
      subst u
      refine ⟨mCb m (1 + k'), if_pos rfl, by rw [if_pos rfl]; decide, ?_⟩
      rw [gb]
      refine (h.ok.alk .cp).sr (sR_i1 (fun f hf => ?_) (fun f hf => ?_))
      · rw [f27, if_pos (by omega), Nat.add_sub_cancel_left]
      · rw [f28, if_pos (by omega), Nat.add_sub_cancel_left]
    · rw [if_neg (by omega), if_neg u]
      rcases h.ib k' hk' with u1 | ⟨q, u1, u2, u3⟩
      · exact .inl u1
      · refine .inr ⟨q, u1, u2, ?_⟩
        rw [hgq _ q (by omega) u1]
        refine u3.sr (sR_im (fun f hf => ?_) (fun f hf => ?_))
        · rw [f27, if_neg (by omega)]
        · rw [f28, if_neg (by omega)]
  · rw [g0, z_I_u, if_pos ⟨rfl, rfl, rfl⟩]
    unfold mImg
    rw [z_I_u, if_pos ⟨rfl, rfl, rfl⟩]
  · rw [g0]
    exact h.sb.2.co (fun f hf => by rw [z_I_u, if_neg (by omega)]) fun f => fo 21 f (by decide) (by decide) (by decide)
  · rw [gr 2 (by decide) (by omega)]
    exact h.ok.sr ⟨fun f _ => fo 22 f (by decide) (by decide) (by decide), fun f _ => fj 23 f (by decide)⟩
-- back
theorem Iv.back (h : Iv m M) (hk : k < 2) (hq : z_d m (1 + k) = some q) : ¬ z_I M 29 0 k = 0 ∧ cCnts (z_g m q) ∧ z_I (cpBk (z_g m 2) (z_g m q)) 0 0 0 = z_I (mBring 27 28 k (mTh M)) 22 0 0 ∧ Iv (mBack m q) (mBk M k) ∧ z_g (mBack m q) 1 = z_g m 1 := by
  rcases h.ib k hk with ⟨u1, -⟩ | ⟨q', u1, u2, u3⟩
  · rw [u1] at hq; cases hq
  · rw [u1] at hq
    cases hq
    have hb := h.dy.2.1 _ q u1
    have g0 : z_g (mBack m q) 0 = z_uI (z_uI (z_g m 0) 5 0 6 0) 5 0 7 0 := z_g_ss _ _ _
    have g2 : z_g (mBack m q) 2 = cpBk (z_g m 2) (z_g m q) := by
      unfold mBack
      rw [z_g_20, z_g_ss]
    have gr : ∀ r, r ≠ 0 → r ≠ 2 → z_g (mBack m q) r = z_g m r := fun r r0 r2 => by
      unfold mBack
      rw [z_g_sn r0, z_g_sn r2]
    have fo : ∀ k' f, k' ≠ 22 → k' ≠ 6 → z_I (mBk M k) k' 0 f = z_I M k' 0 f := fun k' f h22 h6 => by
      unfold mBk
      rw [z_I_o h6, z_I_o h6, mBring_o h22, z_I_o h6]
    have fj : ∀ k' f, k' ≠ 23 → z_J (mBk M k) k' 0 f = z_J M k' 0 f := fun k' f h23 => by
      unfold mBk
      rw [z_J_uI, z_J_uI, mBring_oJ h23, z_J_uI]
    have sr : sR (mBk M k) (mIm M k) := by
      refine sR_1i (fun f hf => ?_) (fun f hf => ?_)
      · unfold mBk
        rw [z_I_o (by decide), z_I_o (by decide), mBring_r (by decide) hf, z_I_o (by decide)]
      · unfold mBk
        rw [z_J_uI, z_J_uI, mBring_s (by decide) hf, z_J_uI]
    have hO : OK (cpBk (z_g m 2) (z_g m q)) (mBk M k) := (u3.alk .cp).sr sr
    have r6 : z_I (z_g (mBack m q) 0) 5 0 6 = 0 := by rw [g0, z_I_u, if_neg (by omega), z_I_u, if_pos ⟨rfl, rfl, rfl⟩]
    have r5 : z_I (z_g (mBack m q) 0) 5 0 5 = z_I (z_g m 0) 5 0 5 := by rw [g0, z_I_u, if_neg (by omega), z_I_u, if_neg (by omega)]
    refine ⟨u2, u3.cn, ?_, ⟨h.dy.co (fun _ => rfl) rfl, ⟨⟨by rw [r5]; exact h.kb.1.1, by rw [r6]; exact nn_nI (n := 0) (by omega) (by omega)⟩, ?_, fun i hi => ?_⟩, ?_, ⟨?_, ?_⟩, by rw [g2]; exact hO⟩, gr 1 (by decide) (by decide)⟩
    · have := RM.day hO.r
      rw [← this]
      unfold mBk
      rw [z_I_o (by decide), z_I_o (by decide)]
    · rw [r6]
      unfold mBk
      rw [z_I_u, if_neg (by omega), z_I_u, if_pos ⟨rfl, rfl, rfl⟩]
    · have hi : i < (z_I (z_g (mBack m q) 0) 5 0 6).toNatClampNeg := hi
      rw [r6] at hi
      exact absurd hi (by rw [show (0 : Int32).toNatClampNeg = 0 from rfl]; omega)
    · exact h.ib.co (fun k _ => rfl) (fun k q' _ hq' => gr q' (by have := h.dy.2.1 _ q' hq'; omega) (by have := h.dy.2.1 _ q' hq'; omega)) fun k => ⟨sR_im (fun f _ => fo 27 _ (by decide) (by decide)) (fun f _ => fj 28 _ (by decide)), fo 29 k (by decide) (by decide)⟩
    · rw [g0, z_I_u, if_pos ⟨rfl, rfl, rfl⟩]
      unfold mBk
      rw [z_I_u, if_pos ⟨rfl, rfl, rfl⟩]
    · rw [g0]
      exact h.sb.2.co (fun f hf => by rw [z_I_u, if_neg (by omega), z_I_u, if_neg (by omega)]) fun f => fo 21 f (by decide) (by decide)
end Me5
