set_option maxHeartbeats 400000
/-! ===== A CALL OF BOTH: withdraw, divert, shift, use, arrive ===== -/
section St3
variable {d i k g s l t q n p j : Nat} {v w a b c e f x y : Int32} {m m1 : zM} {M M' S S' N X : zS}
theorem cLUpW_rw : Rw0 S (cLUp cLuW S) := by
  have key : ∀ (n i : Nat) (X : zS), Rw0 S X → Rw0 S (z_it cLuW n i X) := by
    intro n
    induction n with
    | zero => exact fun _ _ h => h
    | succ n ih =>
      intro i X h
      show Rw0 S (z_it cLuW n (i + 1) (cLuW i X))
      refine ih (i + 1) _ ?_
      unfold cLuW
      split
      · exact h.tr .en
      · exact h
  exact key _ _ _ ⟨fun k i f _ h2 => by rw [z_I_u, if_neg h2], fun _ _ _ => rfl⟩
theorem cTurnGo_5 : ∀ (n i : Nat) (S : zS), z_I (cTurnGo n i S) 0 0 5 = z_I S 0 0 5
  | 0, _, _ => rfl
  | n + 1, i, S => by
    unfold cTurnGo
    split
    · split
      · rfl
      · exact cTurnGo_5 n (i + 1) S
    · rw [cTurnGo_5 n (i + 1)]
      exact cSk.go.2.2.2.2.1
theorem cTurns_5 : z_I (cTurns S) 0 0 5 = z_I S 0 0 5 := by
  unfold cTurns
  rw [cTurnGo_5]
  exact cLUpW_rw.1 0 0 5 (by decide) (by omega)
-- 12 withdraw
theorem st_87 (h : Iv m M) (hM : z_g m 1 = M) : Both 87 173 [zi v] m := by
  have hok := h.ok
  have eL := RM.nL hok.r
  have s6 := hok.r.S6
  have hN : z_nn (z_I (cTurns (aWith (z_g m 2) v.toNatClampNeg)) 0 0 5) 40 := by
    rw [cTurns_5]
    unfold aWith
    rw [z_I_o (by decide), z_I_o (by decide)]; exact hok.cn.2.2
  have sim : (0 ≤ v ∧ v < z_I (z_g m 2) 0 0 5) → z_I (z_g m 2) 3 v.toNatClampNeg 0 = 0 → OK (aWith (z_g m 2) v.toNatClampNeg) (mWi M v.toNatClampNeg) := fun q1 q2 => sim_with hok (idx_lt q1) q2
  have hc := fun Q => zs_87 (d := 3) (m := m) (v := v) (Q := Q) h.cmok hok.bok hN fun q1 q2 => (sim q1 q2.1).tok
  have hm := fun (m1 : zM) (e : z_g m1 1 = M) (Q : zQ) => zs_173 (d := 3) (m := m1) (v := v) (Q := Q) (by rw [e]; exact h.mok) (by
    rw [e, eL]
    intro q
    have hl : v.toNatClampNeg < cL (z_g m 2) := idx_lt q
    have h1 := hok.ia.fr hl
    have h2 := hok.ia.k5 hl
    have e1 := RM.fr hok.r hl
    have e2 := RM.kd hok.r hl
    exact mBok_up (j := 211 + 17 * v.toNatClampNeg + 6) (by unfold mSkj; omega) (mBok_up (j := 18 + 8 * mFr M v.toNatClampNeg + mKd M v.toNatClampNeg) (by unfold mSkj; omega) (mBok_rt hok.mbok)))
  by_cases c0 : 0 ≤ v ∧ v < z_I (z_g m 2) 0 0 5
  · have hl : v.toNatClampNeg < cL (z_g m 2) := idx_lt c0
    have E : ((z_I M 22 0 (211 + 17 * v.toNatClampNeg + 6) = 0) ∧ (z_I M 22 0 (18 + 8 * mFr M v.toNatClampNeg + mKd M v.toNatClampNeg) + z_I M 22 0 (211 + 17 * v.toNatClampNeg + 3) ≤ 99999)) = ((z_I (z_g m 2) 3 v.toNatClampNeg 0 = 0) ∧ (z_I (z_g m 2) 15 (cFr (z_g m 2) v.toNatClampNeg) (cKd (z_g m 2) v.toNatClampNeg) + z_I (z_g m 2) 3 v.toNatClampNeg 4 ≤ 99999)) := by
      rw [RM.sta hok.r hl, RM.fr hok.r hl, RM.kd hok.r hl, RM.lqu hok.r hl, RM.stk hok.r (hok.ia.fr hl) (hok.ia.k5 hl)]
    by_cases c1 : (z_I (z_g m 2) 3 v.toNatClampNeg 0 = 0) ∧ (z_I (z_g m 2) 15 (cFr (z_g m 2) v.toNatClampNeg) (cKd (z_g m 2) v.toNatClampNeg) + z_I (z_g m 2) 3 v.toNatClampNeg 4 ≤ 99999)
    · have ht := (sim_turns (sim c0 c1.1)).1
      exact b_act h hM (mWi M v.toNatClampNeg) (.tr .u22 .u22) (sim c0 c1.1) (fun Q => (hc Q).trans (by rw [if_pos c0, if_pos c1])) fun m1 e Q => (hm m1 e Q).trans (by rw [e, eL, if_pos c0, if_pos (E.mpr c1), cCnt_is ht.r])
    · exact b_ref h hM r4 (fun Q => (hc Q).trans (by rw [if_pos c0, if_neg c1])) fun m1 e Q => (hm m1 e Q).trans (by rw [e, eL, if_pos c0, if_neg (fun u => c1 (E.mp u))])
  · exact b_ref h hM r2 (fun Q => (hc Q).trans (by rw [if_neg c0])) fun m1 e Q => (hm m1 e Q).trans (by rw [e, eL, if_neg c0])
-- 19 divert
theorem st_95 (h : Iv m M) (hM : z_g m 1 = M) : Both 95 194 [zi v, zi w] m := by
  have hok := h.ok
  have eL := RM.nL hok.r
  have eS := RM.nS hok.r
  have sim : ((0 ≤ v ∧ v < z_I (z_g m 2) 0 0 5) ∧ (0 ≤ w ∧ w < z_I (z_g m 2) 0 0 4)) → OK (z_uI (z_g m 2) 3 v.toNatClampNeg 2 w) (z_uI (mRem (mTh M) 18) 22 0 (211 + 17 * v.toNatClampNeg + 1) w) := fun q1 => sim_divert hok.rt (idx_lt q1.1) (idx_i q1.2)
  have hc := fun Q => zs_95 (d := 3) (m := m) (v := v) (w := w) (Q := Q) h.cmok fun q1 _ => (sim q1).tok
  have hm := fun (m1 : zM) (e : z_g m1 1 = M) (Q : zQ) => zs_194 (d := 1) (m := m1) (v := v) (w := w) (Q := Q) (by rw [e]; exact h.mok) (by rw [e]; exact fun _ _ => mBok_up (j := 211 + 17 * v.toNatClampNeg + 1) (by unfold mSkj; omega) (mBok_rt hok.mbok))
  by_cases c0 : (0 ≤ v ∧ v < z_I (z_g m 2) 0 0 5) ∧ (0 ≤ w ∧ w < z_I (z_g m 2) 0 0 4)
  · have hl : v.toNatClampNeg < cL (z_g m 2) := idx_lt c0.1
    by_cases c1 : z_I (z_g m 2) 3 v.toNatClampNeg 0 = 1 ∧ ¬ w = z_I (z_g m 2) 3 v.toNatClampNeg 1 ∧ ¬ w = z_I (z_g m 2) 3 v.toNatClampNeg 2
    · exact b_act h hM _ .u22 (sim c0) (fun Q => (hc Q).trans (by rw [if_pos c0, if_pos c1])) fun m1 e Q => (hm m1 e Q).trans (by rw [e, eL, eS, if_pos c0, RM.st hok.r hl, RM.lfr hok.r hl, RM.lto hok.r hl, if_pos c1]; rfl)
    · exact b_ref h hM r4 (fun Q => (hc Q).trans (by rw [if_pos c0, if_neg c1])) fun m1 e Q => (hm m1 e Q).trans (by rw [e, eL, eS, if_pos c0, RM.st hok.r hl, RM.lfr hok.r hl, RM.lto hok.r hl, if_neg c1])
  · exact b_ref h hM r2 (fun Q => (hc Q).trans (by rw [if_neg c0])) fun m1 e Q => (hm m1 e Q).trans (by rw [e, eL, eS, if_neg c0])
-- 17 shift
theorem st_93 (h : Iv m M) (hM : z_g m 1 = M) : Both 93 192 [zi a, zi b, zi c] m := by
  have hok := h.ok
  have eL := RM.nL hok.r
  have eG := RM.nG hok.r
  have g4 := hok.r.G4
  have sim : ((0 ≤ a ∧ a < z_I (z_g m 2) 0 0 5) ∧ (0 ≤ b ∧ b < z_I (z_g m 2) 0 0 3) ∧ (0 ≤ c ∧ c < z_I (z_g m 2) 0 0 3)) → (¬ (b = c) ∧ (z_I (z_g m 2) 3 a.toNatClampNeg 0 = 1) ∧ ¬ (z_I (z_g m 2) 14 a.toNatClampNeg b.toNatClampNeg = 0) ∧ (z_I (z_g m 2) 14 a.toNatClampNeg b.toNatClampNeg ≤ cFree (z_g m 2) c.toNatClampNeg)) → OK (aShift (z_g m 2) a.toNatClampNeg b.toNatClampNeg c.toNatClampNeg (z_I (z_g m 2) 14 a.toNatClampNeg b.toNatClampNeg)) (mShi M a.toNatClampNeg b.toNatClampNeg c.toNatClampNeg) := fun q1 q2 => sim_shift hok (idx_lt q1.1) (idx_lt q1.2.1) (idx_lt q1.2.2) (fun u => q2.1 (by rw [z_nn_eq q1.2.1.1, z_nn_eq q1.2.2.1, u])) (i_le.mp q2.2.2.2)
  have hc := fun Q => zs_93 (d := 3) (m := m) (a := a) (b := b) (c := c) (Q := Q) h.cmok fun q1 q2 => (sim q1 q2).tok
  have hm := fun (m1 : zM) (e : z_g m1 1 = M) (Q : zQ) => zs_192 (d := 2) (m := m1) (v := a) (a := b) (b := c) (Q := Q) (by rw [e]; exact h.mok) (by
    rw [e, eG]
    intro _ q2 q3
    have h2 : b.toNatClampNeg < cG (z_g m 2) := idx_lt q2
    have h3 : c.toNatClampNeg < cG (z_g m 2) := idx_lt q3
    exact mBok_up (j := 6 + 3 * c.toNatClampNeg + 1) (by unfold mSkj; omega) (mBok_up (j := 6 + 3 * b.toNatClampNeg + 1) (by unfold mSkj; omega) (mBok_up (j := 211 + 17 * a.toNatClampNeg + 13 + c.toNatClampNeg) (by unfold mSkj; omega) (mBok_up (j := 211 + 17 * a.toNatClampNeg + 13 + b.toNatClampNeg) (by unfold mSkj; omega) (mBok_rt hok.mbok)))))
  by_cases c0 : (0 ≤ a ∧ a < z_I (z_g m 2) 0 0 5) ∧ (0 ≤ b ∧ b < z_I (z_g m 2) 0 0 3) ∧ (0 ≤ c ∧ c < z_I (z_g m 2) 0 0 3)
  · have hl : a.toNatClampNeg < cL (z_g m 2) := idx_lt c0.1
    have h2 : b.toNatClampNeg < cG (z_g m 2) := idx_lt c0.2.1
    have h3 : c.toNatClampNeg < cG (z_g m 2) := idx_lt c0.2.2
    by_cases c1 : ¬ (b = c) ∧ (z_I (z_g m 2) 3 a.toNatClampNeg 0 = 1) ∧ ¬ (z_I (z_g m 2) 14 a.toNatClampNeg b.toNatClampNeg = 0) ∧ (z_I (z_g m 2) 14 a.toNatClampNeg b.toNatClampNeg ≤ cFree (z_g m 2) c.toNatClampNeg)
    · exact b_act h hM (mShi M a.toNatClampNeg b.toNatClampNeg c.toNatClampNeg) (.tr (.tr (.tr .u22 .u22) .u22) .u22) (sim c0 c1) (fun Q => (hc Q).trans (by rw [if_pos c0, if_pos c1])) fun m1 e Q => (hm m1 e Q).trans (by rw [e, eL, eG, if_pos c0, RM.st hok.r hl, RM.lh hok.r hl (by omega), RM.free hok.r h3, if_pos c1])
    · exact b_ref h hM r4 (fun Q => (hc Q).trans (by rw [if_pos c0, if_neg c1])) fun m1 e Q => (hm m1 e Q).trans (by rw [e, eL, eG, if_pos c0, RM.st hok.r hl, RM.lh hok.r hl (by omega), RM.free hok.r h3, if_neg c1])
  · exact b_ref h hM r2 (fun Q => (hc Q).trans (by rw [if_neg c0])) fun m1 e Q => (hm m1 e Q).trans (by rw [e, eL, eG, if_neg c0])
-- 16 use
theorem mFrm_use : mFrm (mRem (mTh M) 14) (mUse M s k c) := by
  unfold mUse
  refine .tr (N := mUs1 M s k c) .u22 (mFrm.it (π := fun p : Int32 × zS => p.2) (fun j p => ?_) 3 0 (c * mRate M k (z_I M 22 0 0), mUs1 M s k c))
  unfold mUsS
  split
  · exact .rf
  · split
    · exact .rf
    · exact .owes
theorem st_92 (h : Iv m M) (hM : z_g m 1 = M) : Both 92 191 [zi a, zi b, zi c] m := by
  have hok := h.ok
  have eS := RM.nS hok.r
  have sim : ((0 ≤ b ∧ b < 5) ∧ ¬ (c < 1 ∨ 99999 < c)) → (0 ≤ a ∧ a < z_I (z_g m 2) 0 0 4) → OK (aUse (z_g m 2) a b c) (mUse M a.toNatClampNeg b.toNatClampNeg c) ∧ mRate M b.toNatClampNeg (z_I M 22 0 0) = cRate (z_g m 2) b.toNatClampNeg (z_I (z_g m 2) 0 0 0) := fun q1 q2 => by
    have r := rng q1.2
    have z1 : (1 : Int32).toInt = 1 := rfl
    exact sim_use hok (idx_lt q2) (idx_5 q1.1) ⟨by omega, r.2⟩
  have hc := fun Q => zs_92 (d := 3) (m := m) (a := a) (b := b) (c := c) (Q := Q) h.cmok hok.bok fun q1 q2 _ => (sim q1 q2).1.tok
  have hm := fun (m1 : zM) (e : z_g m1 1 = M) (Q : zQ) => zs_191 (d := 2) (m := m1) (a := a) (b := b) (c := c) (Q := Q) (by rw [e]; exact h.mok)
  by_cases c0 : (0 ≤ b ∧ b < 5) ∧ ¬ (c < 1 ∨ 99999 < c)
  · by_cases c1 : 0 ≤ a ∧ a < z_I (z_g m 2) 0 0 4
    · have es : z_I M 22 0 (18 + 8 * a.toNatClampNeg + b.toNatClampNeg) = z_I (z_g m 2) 15 a.toNatClampNeg b.toNatClampNeg := RM.stk hok.r (idx_lt c1) (idx_5 c0.1)
      have ef : mFF M a.toNatClampNeg = cFF (z_g m 2) a.toNatClampNeg := RM.ff hok.r (idx_lt c1)
      obtain ⟨s1, s2⟩ := sim c0 c1
      by_cases c2 : ¬ (z_I (z_g m 2) 15 a.toNatClampNeg b.toNatClampNeg < c) ∧ (c * cRate (z_g m 2) b.toNatClampNeg (z_I (z_g m 2) 0 0 0) ≤ cFF (z_g m 2) a.toNatClampNeg)
      · exact b_act h hM (mUse M a.toNatClampNeg b.toNatClampNeg c) mFrm_use s1 (fun Q => (hc Q).trans (by rw [if_pos c0, if_pos c1, if_pos c2])) fun m1 e Q => (hm m1 e Q).trans (by rw [e, if_pos c0, eS, if_pos c1, es, ef, s2, if_pos c2])
      · exact b_ref h hM r4 (fun Q => (hc Q).trans (by rw [if_pos c0, if_pos c1, if_neg c2])) fun m1 e Q => (hm m1 e Q).trans (by rw [e, if_pos c0, eS, if_pos c1, es, ef, s2, if_neg c2])
    · exact b_ref h hM r2 (fun Q => (hc Q).trans (by rw [if_pos c0, if_neg c1])) fun m1 e Q => (hm m1 e Q).trans (by rw [e, if_pos c0, eS, if_neg c1])
  · exact b_ref h hM r1 (fun Q => (hc Q).trans (by rw [if_neg c0])) fun m1 e Q => (hm m1 e Q).trans (by rw [e, if_neg c0])
-- 13 arrive
theorem RM.lout (h : RM S M) (hl : l < cL S) (hs : z_I S 3 l 0 = 1) : mMin (z_I M 22 0 0) (mLat M l) = cLastOut S l := by
  rw [RM.day h, RM.lat h hl hs]
  unfold mMin cLastOut
  by_cases u : cLatest S l < z_I S 0 0 0
  · rw [if_pos u, if_pos (by rw [i_lt] at u; rw [i_le]; omega)]
  · rw [if_neg u]
    by_cases u2 : cLatest S l ≤ z_I S 0 0 0
    · rw [if_pos u2, i_eq]
      rw [i_lt] at u
      rw [i_le] at u2
      omega
    · rw [if_neg u2]
theorem bok_arr (h : mOk M) (hl : l < mN M) : mBok (mAr1 M l w) ∧ mBok (mArr M l w c) ∧ mBok (mArr0 M l w) := by
  have w0 := h.nw hl
  have w' : mWl (mRem (mTh M) 11) l (mFr M l) := mSk.thr.wl w0
  have ht : z_nn (z_I (mRem (mTh M) 11) 22 0 (211 + 17 * l + 1)) 5 := by rw [mRT_r]; exact h.nt hl
  have s1 : mSk (mRem (mTh M) 11) (mAr1 M l w) := .comes w' ht
  have b1 := s1.bok (mBok_rt h.nB)
  have b2 : ∀ c, mBok (mArr M l w c) := fun c => mSk.bok (M := mAr1 M l w) (.ends (s1.wl w')) b1
  refine ⟨b1, b2 c, ?_⟩
  unfold mArr0
  split
  · exact b2 _
  · exact b1
theorem mFrm_arr : mFrm (mRem (mTh M) 11) (mArr M l w c) ∧ mFrm (mRem (mTh M) 11) (mArr0 M l w) := by
  have b : ∀ c, mFrm (mRem (mTh M) 11) (mArr M l w c) := fun c => .tr (N := mAr1 M l w) .comes .ends
  refine ⟨b c, ?_⟩
  unfold mArr0
  split
  · exact b _
  · exact .comes
theorem st_88f (h : Iv m M) (hM : z_g m 1 = M) : Both 88 176 [zi v, zi w, zi 0, zi c] m := by
  have hok := h.ok
  have eL := RM.nL hok.r
  have sim : ¬ (w < 0 ∨ 9999 < w) → (0 ≤ v ∧ v < z_I (z_g m 2) 0 0 5) → z_I (z_g m 2) 3 v.toNatClampNeg 0 = 1 → w ≤ cRest (z_g m 2) v.toNatClampNeg → OK (aArr0 (z_g m 2) v.toNatClampNeg w c) (mArr0 M v.toNatClampNeg w) ∧ mRest (mAr1 M v.toNatClampNeg w) v.toNatClampNeg = cRest (aArr0 (z_g m 2) v.toNatClampNeg w c) v.toNatClampNeg := fun q1 q2 q3 q4 => sim_arr0 hok (idx_lt q2) q3 (rng q1).1 (i_le.mp q4)
  have hc := fun Q => zs_88f (d := 3) (m := m) (v := v) (w := w) (b := 0) (c := c) (Q := Q) h.cmok rfl hok.bok fun q1 q2 q3 => (sim q1 q2 q3.1 q3.2.1).1.tok
  have hm := fun (m1 : zM) (e : z_g m1 1 = M) (Q : zQ) => zs_176f (d := 2) (m := m1) (v := v) (w := w) (c := c) (Q := Q) (by rw [e]; exact h.mok) (by rw [e]; exact fun q => (bok_arr (c := 0) h.mok (idx_lt q)).2.2)
  by_cases c0 : ¬ (w < 0 ∨ 9999 < w)
  · by_cases c1 : 0 ≤ v ∧ v < z_I (z_g m 2) 0 0 5
    · have hl : v.toNatClampNeg < cL (z_g m 2) := idx_lt c1
      have E : ((mSt M v.toNatClampNeg = 1) ∧ ¬ (mRest M v.toNatClampNeg < w) ∧ ¬ (99999 < z_I M 22 0 (18 + 8 * mTo M v.toNatClampNeg + mKd M v.toNatClampNeg) + w) ∧ ¬ (w ≤ 0)) ↔ (z_I (z_g m 2) 3 v.toNatClampNeg 0 = 1 ∧ w ≤ cRest (z_g m 2) v.toNatClampNeg ∧ 0 < w ∧ z_I (z_g m 2) 15 (z_I (z_g m 2) 3 v.toNatClampNeg 2).toNatClampNeg (cKd (z_g m 2) v.toNatClampNeg) + w ≤ 99999) := by
        rw [RM.st hok.r hl, RM.rest hok.r hl, RM.kd hok.r hl, show mTo M v.toNatClampNeg = (z_I (z_g m 2) 3 v.toNatClampNeg 2).toNatClampNeg from congrArg Int32.toNatClampNeg (RM.lto hok.r hl), RM.stk hok.r (hok.ia.to hl) (hok.ia.k5 hl)]
        exact ⟨fun u => ⟨u.1, Int32.not_lt.mp u.2.1, Int32.not_le.mp u.2.2.2, Int32.not_lt.mp u.2.2.1⟩, fun u => ⟨u.1, Int32.not_lt.mpr u.2.1, Int32.not_lt.mpr u.2.2.2, Int32.not_le.mpr u.2.2.1⟩⟩
      by_cases c2 : z_I (z_g m 2) 3 v.toNatClampNeg 0 = 1 ∧ w ≤ cRest (z_g m 2) v.toNatClampNeg ∧ 0 < w ∧ z_I (z_g m 2) 15 (z_I (z_g m 2) 3 v.toNatClampNeg 2).toNatClampNeg (cKd (z_g m 2) v.toNatClampNeg) + w ≤ 99999
      · obtain ⟨s1, s2⟩ := sim c0 c1 c2.1 c2.2.1
        exact b_act h hM (mArr0 M v.toNatClampNeg w) (mFrm_arr (c := 0)).2 s1 (fun Q => (hc Q).trans (by rw [if_pos c0, if_pos c1, if_pos c2])) fun m1 e Q => (hm m1 e Q).trans (by rw [e, if_pos c0, eL, if_pos c1, if_pos (E.mpr c2), s2])
      · exact b_ref h hM r4 (fun Q => (hc Q).trans (by rw [if_pos c0, if_pos c1, if_neg c2])) fun m1 e Q => (hm m1 e Q).trans (by rw [e, if_pos c0, eL, if_pos c1, if_neg (fun u => c2 (E.mp u))])
    · exact b_ref h hM r2 (fun Q => (hc Q).trans (by rw [if_pos c0, if_neg c1])) fun m1 e Q => (hm m1 e Q).trans (by rw [e, if_pos c0, eL, if_neg c1])
  · exact b_ref h hM r1 (fun Q => (hc Q).trans (by rw [if_neg c0])) fun m1 e Q => (hm m1 e Q).trans (by rw [e, if_neg c0])
theorem st_88t (h : Iv m M) (hM : z_g m 1 = M) : Both 88 176 [zi v, zi w, zi 1, zi c] m := by
  have hok := h.ok
  have eL := RM.nL hok.r
  have sim : (¬ (w < 0 ∨ 9999 < w) ∧ ¬ (c < 0 ∨ 9999 < c)) → (0 ≤ v ∧ v < z_I (z_g m 2) 0 0 5) → z_I (z_g m 2) 3 v.toNatClampNeg 0 = 1 → w ≤ cRest (z_g m 2) v.toNatClampNeg → OK (aArr1 (z_g m 2) v.toNatClampNeg w c) (mArr M v.toNatClampNeg w c) ∧ mRest (mAr1 M v.toNatClampNeg w) v.toNatClampNeg = cRest (aArr1 (z_g m 2) v.toNatClampNeg w c) v.toNatClampNeg := fun q1 q2 q3 q4 => sim_arr1 hok (idx_lt q2) q3 (rng q1.1).1 (i_le.mp q4)
  have hc := fun Q => zs_88t (d := 3) (m := m) (v := v) (w := w) (b := 1) (c := c) (Q := Q) h.cmok (by decide) hok.bok fun q1 q2 q3 => (sim q1 q2 q3.1.1 q3.1.2.1).1.tok
  have hm := fun (m1 : zM) (e : z_g m1 1 = M) (Q : zQ) => zs_176t (d := 2) (m := m1) (v := v) (w := w) (c := c) (Q := Q) (by rw [e]; exact h.mok) (by rw [e]; exact fun q => (bok_arr h.mok (idx_lt q)).2.1)
  by_cases c0 : ¬ (w < 0 ∨ 9999 < w) ∧ ¬ (c < 0 ∨ 9999 < c)
  · by_cases c1 : 0 ≤ v ∧ v < z_I (z_g m 2) 0 0 5
    · have hl : v.toNatClampNeg < cL (z_g m 2) := idx_lt c1
      have E : ((mSt M v.toNatClampNeg = 1) ∧ ¬ (mRest M v.toNatClampNeg < w) ∧ ¬ (99999 < z_I M 22 0 (18 + 8 * mTo M v.toNatClampNeg + mKd M v.toNatClampNeg) + w) ∧ ¬ (c < z_I M 22 0 (211 + 17 * v.toNatClampNeg + 7) ∨ mMin (z_I M 22 0 (0)) (mLat M v.toNatClampNeg) < c)) ↔ ((z_I (z_g m 2) 3 v.toNatClampNeg 0 = 1 ∧ w ≤ cRest (z_g m 2) v.toNatClampNeg ∧ z_I (z_g m 2) 15 (z_I (z_g m 2) 3 v.toNatClampNeg 2).toNatClampNeg (cKd (z_g m 2) v.toNatClampNeg) + w ≤ 99999) ∧ (z_I (z_g m 2) 3 v.toNatClampNeg 7 ≤ c ∧ c ≤ cLastOut (z_g m 2) v.toNatClampNeg)) := by
        rw [RM.st hok.r hl, RM.rest hok.r hl, RM.kd hok.r hl, show mTo M v.toNatClampNeg = (z_I (z_g m 2) 3 v.toNatClampNeg 2).toNatClampNeg from congrArg Int32.toNatClampNeg (RM.lto hok.r hl), RM.stk hok.r (hok.ia.to hl) (hok.ia.k5 hl)]
        constructor
        · rintro ⟨u1, u2, u3, u4⟩
          rw [RM.lbg hok.r hl u1, RM.lout hok.r hl u1] at u4
          exact ⟨⟨u1, Int32.not_lt.mp u2, Int32.not_lt.mp u3⟩, Int32.not_lt.mp fun q => u4 (.inl q), Int32.not_lt.mp fun q => u4 (.inr q)⟩
        · rintro ⟨⟨u1, u2, u3⟩, u4, u5⟩
          rw [RM.lbg hok.r hl u1, RM.lout hok.r hl u1]
          exact ⟨u1, Int32.not_lt.mpr u2, Int32.not_lt.mpr u3, fun q => q.elim (Int32.not_lt.mpr u4) (Int32.not_lt.mpr u5)⟩
      by_cases c2 : (z_I (z_g m 2) 3 v.toNatClampNeg 0 = 1 ∧ w ≤ cRest (z_g m 2) v.toNatClampNeg ∧ z_I (z_g m 2) 15 (z_I (z_g m 2) 3 v.toNatClampNeg 2).toNatClampNeg (cKd (z_g m 2) v.toNatClampNeg) + w ≤ 99999) ∧ (z_I (z_g m 2) 3 v.toNatClampNeg 7 ≤ c ∧ c ≤ cLastOut (z_g m 2) v.toNatClampNeg)
      · obtain ⟨s1, s2⟩ := sim c0 c1 c2.1.1 c2.1.2.1
        exact b_act h hM (mArr M v.toNatClampNeg w c) mFrm_arr.1 s1 (fun Q => (hc Q).trans (by rw [if_pos c0, if_pos c1, if_pos c2])) fun m1 e Q => (hm m1 e Q).trans (by rw [e, if_pos c0, eL, if_pos c1, if_pos (E.mpr c2), s2])
      · exact b_ref h hM r4 (fun Q => (hc Q).trans (by rw [if_pos c0, if_pos c1, if_neg c2])) fun m1 e Q => (hm m1 e Q).trans (by rw [e, if_pos c0, eL, if_pos c1, if_neg (fun u => c2 (E.mp u))])
    · exact b_ref h hM r2 (fun Q => (hc Q).trans (by rw [if_pos c0, if_neg c1])) fun m1 e Q => (hm m1 e Q).trans (by rw [e, if_pos c0, eL, if_neg c1])
  · exact b_ref h hM r1 (fun Q => (hc Q).trans (by rw [if_neg c0])) fun m1 e Q => (hm m1 e Q).trans (by rw [e, if_neg c0])
end St3
