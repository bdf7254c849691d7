set_option maxHeartbeats 400000
/-! ===== A CALL OF BOTH: match, split, extend ===== -/
section St4
variable {d i k g s l t q n p j : Nat} {v w a b c e f x y : Int32} {m m1 : zM} {M M' S S' N X : zS}
theorem b_actU {jc jm : Nat} {as : List zV} (h : Iv m M) (e : z_g m 1 = M) (N : zS) (hU : kU M N w) (hO : OK S' N) (hc : ∀ Q, z_call 9 jc (zr (some (5, 0, 0)) :: as) m Q = Q (some (zi v)) (mAct (z_s (mKeep m w) 2 S'))) (hm : ∀ m1, z_g m1 1 = M → ∀ Q, z_call 9 jm (zr (some (6, 1, 0)) :: as) m1 Q = Q (some (zi v)) (z_s m1 1 (mActd N))) : Both jc jm as m := both ((act_1 h.cmok).trans e) (h.actU hU hO) hc hm
-- 14 match
theorem mFrm_maG : ∀ (L : List Nat) (left many : Int32) (N : zS), mFrm N (mMaG L left many N).2
  | [], _, _, _ => .rf
  | l :: L, left, many, N => by
    unfold mMaG
    split
    · exact .rf
    · refine .tr (N := mMaSt N l (mMin left (mRest N l))) ?_ (mFrm_maG L _ _ _)
      unfold mMaSt
      split
      · exact .tr (N := mComes N l (mFr N l) (mMin left (mRest N l))) .comes .ends
      · exact .comes
theorem chs_any (h : OK S M) (b : Int32) : ∃ L : List Nat, mChs M (-1) b (mNext M (-1) b none) L ∧ ∀ j ∈ L, j < cL S := by
  have hL := h.r.L40
  obtain ⟨n, K, h1, hr⟩ := row_G hL h.ia
  refine ⟨lsK K 0 n, chs_row hr (RM.mN h.r) hL (fun l hl => ?_) (fun l hl hp => ?_), fun j hj => ?_⟩
  · unfold mNxI
    rw [RM.st h.r hl]
    exact ⟨fun q => q.1, fun q => ⟨q, .inl rfl⟩⟩
  · unfold El Kp
    rw [RM.lat h.r hl hp]
  · obtain ⟨i, -, h2, rfl⟩ := lsK_mem n 0 j hj
    exact (hr.2.2.2.2.1 i (by omega)).1
theorem st_90 (h : Iv m M) (hM : z_g m 1 = M) : Both 90 188 [zi a, zi b, zi c] m := by
  have hok := h.ok
  have eS := RM.nS hok.r
  have h40 := hok.r.L40
  by_cases ha : a = -1
  · subst ha
    have c1 : ¬ ((0 : Int32) ≤ -1 ∧ (-1 : Int32) < z_I (z_g m 2) 0 0 4) := fun u => absurd u.1 (by decide)
    obtain ⟨L, hL1, hL2⟩ := chs_any hok b
    have hc := fun Q => zs_90 (d := 3) (m := m) (a := -1) (b := b) (c := c) (Q := Q) h.cmok hok.rowT.1 fun _ q2 _ => absurd q2 c1
    have hm := fun (m1 : zM) (e : z_g m1 1 = M) (Q : zQ) => zs_188 (d := 2) (m := m1) (a := -1) (b := b) (c := c) (Q := Q) L (by rw [e]; exact h.mok) (by rw [e]; exact hL1) (fun j hj => by have := hL2 j hj; omega) (by rw [e, eS]; exact fun _ _ q2 _ => absurd q2 c1)
    by_cases c0 : (0 ≤ b ∧ b < 5) ∧ ¬ (c < 1 ∨ 99999 < c)
    · exact b_ref h hM r2 (fun Q => (hc Q).trans (by rw [if_pos c0, if_neg c1])) fun m1 e Q => (hm m1 e Q).trans (by rw [e, if_pos c0, eS, if_neg c1])
    · exact b_ref h hM r1 (fun Q => (hc Q).trans (by rw [if_neg c0])) fun m1 e Q => (hm m1 e Q).trans (by rw [e, if_neg c0])
  · obtain ⟨L, hL1, hL2, hL3, hL4⟩ := sim_match (b := b) (c := c) hok ha
    have sim : ¬ (c < 1 ∨ 99999 < c) → ¬ cRestsTo (z_g m 2) a b (cL (z_g m 2)) 0 0 < c → mMaP a b L c (mRem (mTh M) 12) ∧ (aMatch (z_g m 2) a b c).1 = (mMaG L c 0 (mRem (mTh M) 12)).1 ∧ OK (aMatch (z_g m 2) a b c).2 (mMaG L c 0 (mRem (mTh M) 12)).2 := fun q1 q2 => by
      have r := (rng q1).1
      have z1 : (1 : Int32).toInt = 1 := rfl
      exact hL4 _ hok.rt (by omega) (i_le.mp (Int32.not_lt.mp q2))
    have hc := fun Q => zs_90 (d := 3) (m := m) (a := a) (b := b) (c := c) (Q := Q) h.cmok hok.rowT.1 fun q1 _ q3 => (sim q1.2 q3.1).2.2.tok
    have hm := fun (m1 : zM) (e : z_g m1 1 = M) (Q : zQ) => zs_188 (d := 2) (m := m1) (a := a) (b := b) (c := c) (Q := Q) L (by rw [e]; exact h.mok) (by rw [e]; exact hL1) (fun j hj => by have := hL2 j hj; omega) (by rw [e]; exact fun _ q1 _ q3 => (sim q1 (by rw [hL3] at q3; exact q3)).1)
    by_cases c0 : (0 ≤ b ∧ b < 5) ∧ ¬ (c < 1 ∨ 99999 < c)
    · by_cases c1 : 0 ≤ a ∧ a < z_I (z_g m 2) 0 0 4
      · have es : z_I M 22 0 (18 + 8 * a.toNatClampNeg + b.toNatClampNeg) = z_I (z_g m 2) 15 a.toNatClampNeg b.toNatClampNeg := RM.stk hok.r (idx_lt c1) (idx_5 c0.1)
        by_cases c2 : ¬ (cRestsTo (z_g m 2) a b (cL (z_g m 2)) 0 0 < c) ∧ (z_I (z_g m 2) 15 a.toNatClampNeg b.toNatClampNeg + c ≤ 99999)
        · obtain ⟨-, s2, s3⟩ := sim c0.2 c2.1
          exact b_act h hM _ (mFrm_maG _ _ _ _) s3 (fun Q => (hc Q).trans (by rw [if_pos c0, if_pos c1, if_pos c2])) fun m1 e Q => (hm m1 e Q).trans (by rw [e, if_pos c0, eS, if_pos c1, es, hL3, if_pos c2, s2])
        · exact b_ref h hM r4 (fun Q => (hc Q).trans (by rw [if_pos c0, if_pos c1, if_neg c2])) fun m1 e Q => (hm m1 e Q).trans (by rw [e, if_pos c0, eS, if_pos c1, es, hL3, if_neg c2])
      · exact b_ref h hM r2 (fun Q => (hc Q).trans (by rw [if_pos c0, if_neg c1])) fun m1 e Q => (hm m1 e Q).trans (by rw [e, if_pos c0, eS, if_neg c1])
    · exact b_ref h hM r1 (fun Q => (hc Q).trans (by rw [if_neg c0])) fun m1 e Q => (hm m1 e Q).trans (by rw [e, if_neg c0])
-- 15 split
theorem mFrm_cpy {n : Nat} : ∀ (k i : Nat) (N : zS), mFrm N (mCpy l n k i N)
  | 0, _, _ => .rf
  | k + 1, i, N => .tr .u22 (mFrm_cpy (n := n) k (i + 1) (mCpS l n i N))
theorem mFrm_spl : mFrm (mRem (mTh M) 13) (mSpl M v w a) := by
  unfold mSpl
  exact .tr (N := mSp7 M v.toNatClampNeg v w a) (.tr (.tr (.tr (.tr (.tr (.tr (.tr (mFrm_cpy 17 0 _) .u22) .u22) .u22) .u22) .u22) .uJ) .uJ) .rel
theorem bok_spl (h : OK S M) (hL : cL S < 40) (hl : v.toNatClampNeg < cL S) : mBok (mSpl M v w a) := by
  have eN : mN M = cL S := RM.mN h.r
  have hlN : v.toNatClampNeg < mN M := by rw [eN]; exact hl
  have w0 := h.mbok.2 v.toNatClampNeg hlN
  have hs := w0.hs
  have hk2 : mKd M v.toNatClampNeg ≤ 4 := w0.hK.1.2
  have B := fun q (hq : q < 17) => mSp4_B (M := M) (v := v) (w := w) (a := a) hlN hq
  have e5 : ∀ j, mSkj j → j < 891 → z_I (mSp7 M v.toNatClampNeg v w a) 22 0 j = z_I (mSp4 M v.toNatClampNeg v w a) 22 0 j := fun j hj _ => by
    show z_I (z_uI (mSp4 M v.toNatClampNeg v w a) 22 0 (211 + 17 * v.toNatClampNeg + 3) _) 22 0 j = _
    rw [z_I_u, if_neg]
    rintro ⟨-, -, rfl⟩
    unfold mSkj at hj
    omega
  have O : ∀ j, mSkj j → j < 891 → j ≠ 3 → ¬ (211 + 17 * mN M ≤ j ∧ j < 211 + 17 * mN M + 17) → z_I (mSp7 M v.toNatClampNeg v w a) 22 0 j = z_I M 22 0 j := fun j h1 h2 h3 h4 => (e5 j h1 h2).trans (mSp4_o h4 h3)
  have eO : ∀ q, q < 3 → mO (mSp7 M v.toNatClampNeg v w a) (mFr M v.toNatClampNeg) q = mO M (mFr M v.toNatClampNeg) q := fun q hq => O _ (by unfold mSkj; omega) (by omega) (by omega) (by omega)
  have hO7 : mOok (mSp7 M v.toNatClampNeg v w a) (mFr M v.toNatClampNeg) := by
    have o := w0.hO
    unfold mOok at o ⊢
    rw [eO 0 (by omega), eO 1 (by omega), eO 2 (by omega)]; exact o
  have b7 : mBok (mSp7 M v.toNatClampNeg v w a) := by
    refine mBok_add h.mbok (by omega) ?_ O ⟨mFr M v.toNatClampNeg, hs, ?_, hO7, ?_⟩
    · have e3 : z_I M 22 0 3 = nI (mN M) := h.mbok.1.eq
      rw [e5 3 (.inl rfl) (by omega), mSp4_3, e3, nI_1]
    · rw [e5 _ (by unfold mSkj; omega) (by omega), show 211 + 17 * mN M = 211 + 17 * mN M + 0 from rfl, B 0 (by omega)]
      exact w0.hf
    · have e2 : z_I (mSp7 M v.toNatClampNeg v w a) 22 0 (211 + 17 * mN M + 2) = z_I M 22 0 (211 + 17 * v.toNatClampNeg + 2) := by
        rw [e5 _ (by unfold mSkj; omega) (by omega), B 2 (by omega)]; rfl
      unfold mKok
      rw [show mKd (mSp7 M v.toNatClampNeg v w a) (mN M) = mKd M v.toNatClampNeg from congrArg Int32.toNatClampNeg e2, e2, O _ (by unfold mSkj; omega) (by omega) (by omega) (by omega)]
      exact w0.hK
  unfold mSpl
  exact mSk.bok (M := mSp7 M v.toNatClampNeg v w a) (.rel hO7) b7
theorem st_91 (h : Iv m M) (hM : z_g m 1 = M) : Both 91 190 [zi v, zi w, zi a] m := by
  have hok := h.ok
  have eS := RM.nS hok.r
  have eL := RM.nL hok.r
  have nL := hok.cn.2.2
  have c40 : z_I (z_g m 2) 0 0 5 < 40 ↔ ¬ z_I M 22 0 3 = 40 := by rw [eL]; exact lt_ne (t := 40) nL (by decide)
  have lL : z_I (z_g m 2) 0 0 5 < 40 → cL (z_g m 2) < 40 := fun q => idx_lt ⟨nL.1, q⟩
  have sim : ¬ (w < 1 ∨ 9999 < w) → ((0 ≤ v ∧ v < z_I (z_g m 2) 0 0 5) ∧ (0 ≤ a ∧ a < z_I (z_g m 2) 0 0 4)) → ((z_I (z_g m 2) 3 v.toNatClampNeg 0 = 1 ∧ ¬ a = z_I (z_g m 2) 3 v.toNatClampNeg 1 ∧ ¬ a = z_I (z_g m 2) 3 v.toNatClampNeg 2) ∧ ¬ (0 < z_I (z_g m 2) 3 v.toNatClampNeg 8) ∧ (w < z_I (z_g m 2) 3 v.toNatClampNeg 4)) → (z_I (z_g m 2) 0 0 5 < 40) → OK (cSplit (z_g m 2) v w a) (mSpl M v w a) := fun q1 q2 q3 q4 => by
    have r := (rng q1).1
    have z1 : (1 : Int32).toInt = 1 := rfl
    have z0 : (0 : Int32).toInt = 0 := rfl
    have hl : v.toNatClampNeg < cL (z_g m 2) := idx_lt q2.1
    have h8 := (hok.ia.ld hl).2.2.2.2.2.2.2.1
    have q38 := i_le.mp (Int32.not_lt.mp q3.2.1)
    exact sim_split hok (lL q4) hl q3.1.1 (i_eq.mpr (by omega)) ⟨by omega, i_lt.mp q3.2.2⟩ (idx_i q2.2)
  have hc := fun Q => zs_91 (d := 3) (m := m) (v := v) (w := w) (a := a) (Q := Q) h.cmok hok.bok fun q1 q2 q3 q4 => (sim q1 q2 q3 q4).tok
  have hm := fun (m1 : zM) (e : z_g m1 1 = M) (Q : zQ) => zs_190 (d := 2) (m := m1) (v := v) (w := w) (a := a) (Q := Q) (by rw [e]; exact h.mok) (by
    rw [e]
    intro q1 _ q3
    exact bok_spl hok (lL (c40.mpr q3)) (by rw [eL] at q1; exact idx_lt q1))
  by_cases c0 : ¬ (w < 1 ∨ 9999 < w)
  · by_cases c1 : (0 ≤ v ∧ v < z_I (z_g m 2) 0 0 5) ∧ (0 ≤ a ∧ a < z_I (z_g m 2) 0 0 4)
    · have hl : v.toNatClampNeg < cL (z_g m 2) := idx_lt c1.1
      have E : ((mSt M v.toNatClampNeg = 1) ∧ ¬ (0 < (z_I M 22 0 (211 + 17 * v.toNatClampNeg + 8))) ∧ ¬ ((z_I M 22 0 (211 + 17 * v.toNatClampNeg + 3)) ≤ w) ∧ ¬ (a = (z_I M 22 0 (211 + 17 * v.toNatClampNeg))) ∧ ¬ (a = (z_I M 22 0 (211 + 17 * v.toNatClampNeg + 1)))) ↔ ((z_I (z_g m 2) 3 v.toNatClampNeg 0 = 1 ∧ ¬ a = z_I (z_g m 2) 3 v.toNatClampNeg 1 ∧ ¬ a = z_I (z_g m 2) 3 v.toNatClampNeg 2) ∧ ¬ (0 < z_I (z_g m 2) 3 v.toNatClampNeg 8) ∧ (w < z_I (z_g m 2) 3 v.toNatClampNeg 4)) := by
        rw [RM.st hok.r hl, RM.lg hok.r hl (by omega) (by omega), RM.lqu hok.r hl, RM.lfr hok.r hl, RM.lto hok.r hl]
        exact ⟨fun u => ⟨⟨u.1, u.2.2.2.1, u.2.2.2.2⟩, u.2.1, Int32.not_le.mp u.2.2.1⟩, fun u => ⟨u.1.1, u.2.1, Int32.not_le.mpr u.2.2, u.1.2.1, u.1.2.2⟩⟩
      by_cases c2 : (z_I (z_g m 2) 3 v.toNatClampNeg 0 = 1 ∧ ¬ a = z_I (z_g m 2) 3 v.toNatClampNeg 1 ∧ ¬ a = z_I (z_g m 2) 3 v.toNatClampNeg 2) ∧ ¬ (0 < z_I (z_g m 2) 3 v.toNatClampNeg 8) ∧ (w < z_I (z_g m 2) 3 v.toNatClampNeg 4)
      · by_cases c3 : z_I (z_g m 2) 0 0 5 < 40
        · exact b_act h hM (mSpl M v w a) mFrm_spl (sim c0 c1 c2 c3) (fun Q => (hc Q).trans (by rw [if_pos c0, if_pos c1, if_pos c2, if_pos c3])) fun m1 e Q => (hm m1 e Q).trans (by rw [e, if_pos c0, eS, if_pos (E.mpr c2), if_pos (c40.mp c3), eL, if_pos c1])
        · exact b_ref h hM r5 (fun Q => (hc Q).trans (by rw [if_pos c0, if_pos c1, if_pos c2, if_neg c3])) fun m1 e Q => (hm m1 e Q).trans (by rw [e, if_pos c0, eS, if_pos (E.mpr c2), if_neg (fun u => c3 (c40.mpr u)), eL, if_pos c1])
      · exact b_ref h hM r4 (fun Q => (hc Q).trans (by rw [if_pos c0, if_pos c1, if_neg c2])) fun m1 e Q => (hm m1 e Q).trans (by rw [e, if_pos c0, eS, if_neg (fun u => c2 (E.mp u)), eL, if_pos c1])
    · exact b_ref h hM r2 (fun Q => (hc Q).trans (by rw [if_pos c0, if_neg c1])) fun m1 e Q => (hm m1 e Q).trans (by rw [e, if_pos c0, eS, eL, if_neg c1])
  · exact b_ref h hM r1 (fun Q => (hc Q).trans (by rw [if_neg c0])) fun m1 e Q => (hm m1 e Q).trans (by rw [e, if_neg c0])
-- 18 extend
theorem mFrm_ex2 : mFrm (mLay 30 31 0 (mTh M)) (mEx2 M l w).2 := by
  unfold mEx2
  exact .tr (N := mEx1 M l w) .u22 .adj
theorem lay_nu : z_I (mLay 30 31 0 (mTh M)) 6 0 8 = z_I M 6 0 8 := by
  rw [mLay_o (by decide), show mTh M = z_uI M 6 0 0 0 from rfl, z_I_u, if_neg (by omega)]
theorem bok_ex2 (h : mOk M) (hl : l < mN M) : mBok (mEx2 M l w).2 := by
  have w0 := h.nw hl
  have b1 : mBok (mEx1 M l w) := mEx1_sk.bok h.nB
  unfold mEx2
  exact mSk.bok (M := mEx1 M l w) (.adj (mEx1_sk.wl w0)) b1
theorem b_tried {jc jm : Nat} {as : List zV} (h : Iv m M) (e : z_g m 1 = M) (hF : mFrm (mLay 30 31 0 (mTh M)) X) (hv : v = -1 ∨ v = -2 ∨ v = -4 ∨ v = -5) (hc : ∀ Q, z_call 9 jc (zr (some (5, 0, 0)) :: as) m Q = Q (some (zi v)) (mRef m v)) (hm : ∀ m1, z_g m1 1 = M → ∀ Q, z_call 9 jm (zr (some (6, 1, 0)) :: as) m1 Q = Q (some (zi v)) (z_s m1 1 (mRefu (mBring 30 31 0 X) v))) : Both jc jm as m := both (ref_1.trans e) ((h.same (kS.back hF)).ref hv) hc hm
theorem st_94 (h : Iv m M) (hM : z_g m 1 = M) : Both 94 193 [zi v, zi w] m := by
  have hok := h.ok
  have eL := RM.nL hok.r
  have eD := RM.day hok.r
  have eR := RM.grace hok.r
  have hF : mFrm (mLay 30 31 0 (mTh M)) (mEx2 M v.toNatClampNeg w).2 := mFrm_ex2
  have sim : ¬ (w < 1 ∨ 90 < w) → (0 ≤ v ∧ v < z_I (z_g m 2) 0 0 5) → z_I (z_g m 2) 3 v.toNatClampNeg 0 = 1 → ¬ (180 < z_I (z_g m 2) 3 v.toNatClampNeg 5 + w) → ((mEx2 M v.toNatClampNeg w).1 = true ↔ ¬ cFF (z_g m 2) (cFr (z_g m 2) v.toNatClampNeg) < cRest (z_g m 2) v.toNatClampNeg * cGr (z_g m 2) (cKd (z_g m 2) v.toNatClampNeg) (z_I (z_g m 2) 3 v.toNatClampNeg 7) (cLatest (z_g m 2) v.toNatClampNeg + w) - cHeld (z_g m 2) v.toNatClampNeg) ∧ ((mEx2 M v.toNatClampNeg w).1 = true → OK (aExtend (z_g m 2) v.toNatClampNeg w) (mEx2 M v.toNatClampNeg w).2) ∧ mLat M v.toNatClampNeg + w = cLatest (aExtend (z_g m 2) v.toNatClampNeg w) v.toNatClampNeg ∧ RM (aExtend (z_g m 2) v.toNatClampNeg w) (mEx2 M v.toNatClampNeg w).2 ∧ z_I (aExtend (z_g m 2) v.toNatClampNeg w) 3 v.toNatClampNeg 0 = 1 := fun q1 q2 q3 q4 => by
    have hl : v.toNatClampNeg < cL (z_g m 2) := idx_lt q2
    have r := rng q1
    have z1 : (1 : Int32).toInt = 1 := rfl
    have z90 : (90 : Int32).toInt = 90 := rfl
    have z180 : (180 : Int32).toInt = 180 := rfl
    have d5 := (hok.ia.ld hl).2.2.2.2.1
    have q4 := i_le.mp (Int32.not_lt.mp q4)
    rw [i_add (by omega) (by omega)] at q4
    exact sim_ext hok hl q3 (by omega) (by omega)
  have hc := fun Q => zs_94 (d := 3) (m := m) (v := v) (w := w) (Q := Q) h.cmok hok.bok fun q1 q2 q3 => by
    obtain ⟨s1, s2, -⟩ := sim q1 q2 q3.1 q3.2.1
    exact (s2 (s1.mpr q3.2.2.2)).tok
  have hm := fun (m1 : zM) (e : z_g m1 1 = M) (Q : zQ) => zs_193 (d := 2) (m := m1) (v := v) (w := w) (Q := Q) (by rw [e]; exact h.mok) (by
    rw [e]
    intro _
    rw [hF.1 6 0 8 (by decide) (by decide) (by omega), lay_nu]
    exact h.nu) (by
    rw [e]
    intro q _
    exact mBok_sr keepT_r (bok_ex2 h.mok (idx_lt q)))
  by_cases c0 : ¬ (w < 1 ∨ 90 < w)
  · by_cases c1 : 0 ≤ v ∧ v < z_I (z_g m 2) 0 0 5
    · have hl : v.toNatClampNeg < cL (z_g m 2) := idx_lt c1
      by_cases c2 : (z_I (z_g m 2) 3 v.toNatClampNeg 0 = 1) ∧ ¬ (180 < z_I (z_g m 2) 3 v.toNatClampNeg 5 + w) ∧ ¬ (cLatest (z_g m 2) v.toNatClampNeg + z_I (z_g m 2) 0 0 1 < z_I (z_g m 2) 0 0 0)
      · have E : (mSt M v.toNatClampNeg = 1) ∧ ¬ (180 < z_I M 22 0 (211 + 17 * v.toNatClampNeg + 4) + w) ∧ (z_I M 22 0 (0) ≤ mLat M v.toNatClampNeg + z_I M 22 0 (4)) := by
          rw [RM.st hok.r hl, RM.ldy hok.r hl, eD, eR, RM.lat hok.r hl c2.1]
          exact ⟨c2.1, c2.2.1, Int32.not_lt.mp c2.2.2⟩
        obtain ⟨s1, s2, s3, s4, s5⟩ := sim c0 c1 c2.1 c2.2.1
        by_cases c3 : cFF (z_g m 2) (cFr (z_g m 2) v.toNatClampNeg) < cRest (z_g m 2) v.toNatClampNeg * cGr (z_g m 2) (cKd (z_g m 2) v.toNatClampNeg) (z_I (z_g m 2) 3 v.toNatClampNeg 7) (cLatest (z_g m 2) v.toNatClampNeg + w) - cHeld (z_g m 2) v.toNatClampNeg
        · exact b_tried h hM hF r4 (fun Q => (hc Q).trans (by rw [if_pos c0, if_pos c1, if_neg (fun u => u.2.2.2 c3)])) fun m1 e Q => (hm m1 e Q).trans (by rw [e, if_pos c0, eL, if_pos c1, if_pos E, if_neg (fun u => s1.mp u c3)])
        · have hE := s1.mpr c3
          have ho := s2 hE
          have hoK : OK (aExtend (z_g m 2) v.toNatClampNeg w) (mExt M v.toNatClampNeg w) := ho.sr keepT_r
          have eLt : mLat (mExt M v.toNatClampNeg w) v.toNatClampNeg = cLatest (aExtend (z_g m 2) v.toNatClampNeg w) v.toNatClampNeg := by
            refine RM.lat hoK.r ?_ s5
            have e5 : mN (mExt M v.toNatClampNeg w) = mN M := by
              show (z_I (mExt M v.toNatClampNeg w) 22 0 3).toNatClampNeg = (z_I M 22 0 3).toNatClampNeg
              have k1 : z_I (mExt M v.toNatClampNeg w) 22 0 3 = z_I (mEx2 M v.toNatClampNeg w).2 22 0 3 := keepT_r.1 3 (by omega)
              have w1 : mWl (mEx1 M v.toNatClampNeg w) v.toNatClampNeg (mFr M v.toNatClampNeg) := mEx1_sk.wl (h.mok.nw (by rw [RM.mN hok.r]; exact hl))
              have k2 : z_I (mEx2 M v.toNatClampNeg w).2 22 0 3 = z_I (mEx1 M v.toNatClampNeg w) 22 0 3 := (mSk.adj w1).n3
              have k3 : z_I (mEx1 M v.toNatClampNeg w) 22 0 3 = z_I M 22 0 3 := mEx1_sk.n3
              rw [k1, k2, k3]
            rw [← RM.mN hoK.r, e5, RM.mN hok.r]; exact hl
          exact b_actU h hM (mExt M v.toNatClampNeg w) (kU.keepT h.nu hF) hoK (fun Q => (hc Q).trans (by rw [if_pos c0, if_pos c1, if_pos ⟨c2.1, c2.2.1, c2.2.2, c3⟩])) fun m1 e Q => (hm m1 e Q).trans (by rw [e, if_pos c0, eL, if_pos c1, if_pos E, if_pos hE, eLt])
      · have E : ¬ ((mSt M v.toNatClampNeg = 1) ∧ ¬ (180 < z_I M 22 0 (211 + 17 * v.toNatClampNeg + 4) + w) ∧ (z_I M 22 0 (0) ≤ mLat M v.toNatClampNeg + z_I M 22 0 (4))) := by
          rintro ⟨u1, u2, u3⟩
          rw [RM.st hok.r hl] at u1
          rw [RM.ldy hok.r hl] at u2
          rw [eD, eR, RM.lat hok.r hl u1] at u3
          exact c2 ⟨u1, u2, Int32.not_lt.mpr u3⟩
        exact b_ref h hM r4 (fun Q => (hc Q).trans (by rw [if_pos c0, if_pos c1, if_neg (fun u => c2 ⟨u.1, u.2.1, u.2.2.1⟩)])) fun m1 e Q => (hm m1 e Q).trans (by rw [e, if_pos c0, eL, if_pos c1, if_neg E])
    · exact b_ref h hM r2 (fun Q => (hc Q).trans (by rw [if_pos c0, if_neg c1])) fun m1 e Q => (hm m1 e Q).trans (by rw [e, if_pos c0, eL, if_neg c1])
  · exact b_ref h hM r1 (fun Q => (hc Q).trans (by rw [if_neg c0])) fun m1 e Q => (hm m1 e Q).trans (by rw [e, if_neg c0])
end St4
