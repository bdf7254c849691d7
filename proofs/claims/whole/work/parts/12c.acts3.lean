set_option maxHeartbeats 200000
/-! ===== CLASS AND MODEL: acts (3) ===== -/
section Re23
variable {d i k g s l l' t q n p T j h' : Nat} {v w a b c e f x y z : Int32} {S S' M N : zS} {B : Int}
-- withdraw
theorem sim_with (h : Ok B T S M) (hl : l < cL S) (hs : z_I S 3 l 0 = 0) : Ok B T (aWith S l) (mWi M l) := by
  have hN := h.rt (v := 10)
  have hL := h.r.L40
  have h6 := h.r.S6
  have hi := h.ia
  have hf := hi.fr hl
  have hk := hi.k5 hl
  have eM : mWi M l = z_uI (z_uI (mRem (mTh M) 10) 22 0 (18 + 8 * cFr S l + cKd S l) (z_I S 15 (cFr S l) (cKd S l) + z_I S 3 l 4)) 22 0 (211 + 17 * l + 6) 4 := by
    unfold mWi; rw [RM.fr h.r hl, RM.kd h.r hl, RM.stk h.r hf hk, RM.lqu h.r hl]
  have eS : aWith S l = z_uI (z_uI S 15 (cFr S l) (cKd S l) (z_I S 15 (cFr S l) (cKd S l) + z_I S 3 l 4)) 3 l 0 4 := by
    unfold aWith; exact z_uI_cm (by decide)
  rw [eM, eS]
  have r1 := RM.uS (v := z_I S 15 (cFr S l) (cKd S l) + z_I S 3 l 4) hN.r hf hk
  have r2 := RM.upSt (v := 4) r1 (l := l) hl ⟨fun u => by rcases u with u | u | u <;> exact absurd u (by decide), fun _ => (h.r.bg hl).2 (.inl hs)⟩
  generalize hX : z_uI S 15 (cFr S l) (cKd S l) (z_I S 15 (cFr S l) (cKd S l) + z_I S 3 l 4) = X at *
  have x3 : ∀ i f, z_I X 3 i f = z_I S 3 i f := fun i f => by rw [← hX]; rfl
  have iX : InvA B T X := by rw [← hX]; exact hi.u15
  have ht : ∀ k' i f, ¬ (k' = 3 ∧ i = l ∧ f = 0) → z_I (z_uI X 3 l 0 4) k' i f = z_I X k' i f := fun k i f u => by rw [z_I_u, if_neg u]
  have fo : Fo l S (z_uI X 3 l 0 4) := by rw [← hX]; exact .tr .u15 .u3
  refine ⟨r2, iX.u3' ?_, (h.nd.xx.fo fo).nn ?_⟩
  · have := iX.ld (l := l) (by rw [← hX]; exact hl)
    unfold iLd at this ⊢
    rw [ht 3 l 2 (by omega), ht 3 l 1 (by omega), ht 3 l 3 (by omega), ht 3 l 4 (by omega), ht 3 l 5 (by omega), ht 3 l 6 (by omega), ht 3 l 7 (by omega), ht 3 l 8 (by omega), z_I_u, if_pos ⟨rfl, rfl, rfl⟩]
    exact ⟨this.1, this.2.1, this.2.2.1, this.2.2.2.1, this.2.2.2.2.1, this.2.2.2.2.2.1, ⟨by decide, by decide⟩, this.2.2.2.2.2.2.2.1, fun u => absurd u (by decide)⟩
  · refine ⟨fun u => ?_, fun _ g hg => ?_⟩
    · rw [z_I_u, if_pos ⟨rfl, rfl, rfl⟩] at u; exact absurd u (by decide)
    · have := (h.nd l hl).2 (by rw [hs]; decide) g hg
      rw [← hX]; exact this
-- arrive
theorem sim_arr1 (h : Ok B T S M) (hl : l < cL S) (hs : z_I S 3 l 0 = 1) (hq : 0 ≤ v.toInt) (hq2 : v.toInt ≤ (cRest S l).toInt) : Ok B T (aArr1 S l v c) (mArr M l v c) ∧ mRest (mAr1 M l v) l = cRest (aArr1 S l v c) l := by
  have hN := h.rt (v := 11)
  obtain ⟨r1, r2, r3, r4, r5, r6⟩ := sim_recv hN.r h.ia hl hs ((h.nd l hl).1 hs) hq hq2
  have hl1 : l < cL (cReceive S l v) := by rw [r3.L]; exact hl
  have hs1 : z_I (cReceive S l v) 3 l 0 = 1 := by rw [r5 0 (by omega)]; exact hs
  have ef : cFr (cReceive S l v) l = cFr S l := congrArg Int32.toNatClampNeg (r5 1 (by omega))
  have eA : mAr1 M l v = mComes (mRem (mTh M) 11) l (cFr S l) v := by unfold mAr1; rw [RM.fr h.r hl]
  rw [← eA] at r1
  have eT : mTime (mAr1 M l v) l = cLastOut (cReceive S l v) l - z_I (cReceive S l v) 3 l 7 := by
    unfold mTime; rw [RM.lat r1 hl1 hs1, RM.day r1, RM.lbg r1 hl1 hs1, mMin_c]; rfl
  obtain ⟨s1, s2, s3, s4, s5, s6⟩ := sim_close (v := 2) (x := c) (y := c) r1 r2 hl1 hs1 eT (.inr rfl) (.inl rfl)
  have eM : mArr M l v c = mEnds (mAr1 M l v) l (cFr (cReceive S l v) l) (mTime (mAr1 M l v) l) c 2 := by unfold mArr; rw [RM.fr h.r hl, ef]
  refine ⟨⟨by rw [eM]; exact s1, s2, (h.nd.xx.fo (.tr r3 s3)).nn s4⟩, ?_⟩
  rw [RM.rest r1 hl1]
  show _ = cRest (cClose (cReceive S l v) l 2 c) l
  unfold cRest
  rw [s5 4 (by omega) (by omega) (by omega) (by omega), s5 8 (by omega) (by omega) (by omega) (by omega)]
theorem sim_arr0 (h : Ok B T S M) (hl : l < cL S) (hs : z_I S 3 l 0 = 1) (hq : 0 ≤ v.toInt) (hq2 : v.toInt ≤ (cRest S l).toInt) : Ok B T (aArr0 S l v c) (mArr0 M l v) ∧ mRest (mAr1 M l v) l = cRest (aArr0 S l v c) l := by
  have hN := h.rt (v := 11)
  obtain ⟨r1, r2, r3, r4, r5, r6⟩ := sim_recv hN.r h.ia hl hs ((h.nd l hl).1 hs) hq hq2
  have hl1 : l < cL (cReceive S l v) := by rw [r3.L]; exact hl
  have hs1 : z_I (cReceive S l v) 3 l 0 = 1 := by rw [r5 0 (by omega)]; exact hs
  have ef : cFr (cReceive S l v) l = cFr S l := congrArg Int32.toNatClampNeg (r5 1 (by omega))
  have eA : mAr1 M l v = mComes (mRem (mTh M) 11) l (cFr S l) v := by unfold mAr1; rw [RM.fr h.r hl]
  rw [← eA] at r1
  have eR := RM.rest r1 hl1
  unfold aArr0 mArr0
  rw [eR]
  by_cases u : cRest (cReceive S l v) l = 0
  · rw [if_pos u, if_pos u]
    have eT : mTime (mAr1 M l v) l = cLastOut (cReceive S l v) l - z_I (cReceive S l v) 3 l 7 := by
      unfold mTime; rw [RM.lat r1 hl1 hs1, RM.day r1, RM.lbg r1 hl1 hs1, mMin_c]; rfl
    obtain ⟨s1, s2, s3, s4, s5, s6⟩ := sim_close (v := 2) (x := z_I (mAr1 M l v) 22 0 (211 + 17 * l + 7)) (y := c) r1 r2 hl1 hs1 eT (.inl u) (.inl rfl)
    have eM : mArr M l v (z_I (mAr1 M l v) 22 0 (211 + 17 * l + 7)) = mEnds (mAr1 M l v) l (cFr (cReceive S l v) l) (mTime (mAr1 M l v) l) (z_I (mAr1 M l v) 22 0 (211 + 17 * l + 7)) 2 := by unfold mArr; rw [RM.fr h.r hl, ef]
    refine ⟨⟨by rw [eM]; exact s1, s2, (h.nd.xx.fo (.tr r3 s3)).nn s4⟩, ?_⟩
    unfold cRest
    rw [s5 4 (by omega) (by omega) (by omega) (by omega), s5 8 (by omega) (by omega) (by omega) (by omega)]
  · rw [if_neg u, if_neg u]
    refine ⟨⟨r1, r2, (h.nd.xx.fo r3).nn ⟨fun _ => r4, fun w => absurd hs1 w⟩⟩, rfl⟩
-- use
theorem sim_use (h : Ok B T S M) (hs : a.toNatClampNeg < cS S) (hk : b.toNatClampNeg < 5) (hc : 0 ≤ c.toInt ∧ c.toInt ≤ 99999) : Ok B T (aUse S a b c) (mUse M a.toNatClampNeg b.toNatClampNeg c) ∧ mRate M b.toNatClampNeg (z_I M 22 0 0) = cRate S b.toNatClampNeg (z_I S 0 0 0) := by
  have hN := h.rt (v := 14)
  have h6 := h.r.S6
  have hi := h.ia
  have eR : mRate M b.toNatClampNeg (z_I M 22 0 0) = cRate S b.toNatClampNeg (z_I S 0 0 0) := by rw [RM.day h.r, (h.r.rt hk).rate]
  have hr := hi.rate (x := z_I S 0 0 0) hk
  have ha := i_mulb hc hr (by omega) (by omega)
  have r1 := RM.uS (v := z_I S 15 a.toNatClampNeg b.toNatClampNeg - c) hN.r hs hk
  have eM : mUse M a.toNatClampNeg b.toNatClampNeg c = (z_it (mUsS a.toNatClampNeg) 3 0 (c * cRate S b.toNatClampNeg (z_I S 0 0 0), z_uI (mRem (mTh M) 14) 22 0 (18 + 8 * a.toNatClampNeg + b.toNatClampNeg) (z_I S 15 a.toNatClampNeg b.toNatClampNeg - c))).2 := by
    unfold mUse mUs1; rw [eR, RM.stk h.r hs hk]
  obtain ⟨s1, s2, s3⟩ := sim_once (a := c * cRate S b.toNatClampNeg (z_I S 0 0 0)) r1 hi.u15 (s := a.toNatClampNeg) hs ha.2.1
  refine ⟨⟨by rw [eM]; exact s1, s2, ?_⟩, eR⟩
  have n1 : InvN (z_uI S 15 a.toNatClampNeg b.toNatClampNeg (z_I S 15 a.toNatClampNeg b.toNatClampNeg - c)) := h.nd.co rfl (fun _ _ _ _ => rfl) (fun _ _ _ _ => rfl) (fun k x y => cGr_co rfl (fun _ => rfl) (fun _ => rfl))
  exact n1.fd s3
-- extend
theorem sim_ext (h : Ok B T S M) (hl : l < cL S) (hs : z_I S 3 l 0 = 1) (hw : 1 ≤ w.toInt) (hw2 : (z_I S 3 l 5).toInt + w.toInt ≤ 180) :
    ((mEx2 M l w).1 = true ↔ ¬ cFF S (cFr S l) < cRest S l * cGr S (cKd S l) (z_I S 3 l 7) (cLatest S l + w) - cHeld S l) ∧ ((mEx2 M l w).1 = true → Ok B T (aExtend S l w) (mEx2 M l w).2) ∧ mLat M l + w = cLatest (aExtend S l w) l ∧ RM (aExtend S l w) (mEx2 M l w).2 ∧ z_I (aExtend S l w) 3 l 0 = 1 := by
  have hL := h.r.L40
  have hi := h.ia
  have rL : RM S (mLay 30 31 0 (mTh M)) := RM.mo h.r (fun j _ => (mLay_o (by decide)).trans mTh_r) (fun j _ => (mLay_J (by decide)).trans (z_J_uI ..))
  have hld := hi.ld hl
  have e5 : (z_I S 3 l 5 + w).toInt = (z_I S 3 l 5).toInt + w.toInt := i_add (by unfold iLd at hld; omega) (by unfold iLd at hld; omega)
  have r1 := RM.uL (v := z_I S 3 l 5 + w) (q := 4) rL hl (by decide)
  have eM : mEx1 M l w = z_uI (mLay 30 31 0 (mTh M)) 22 0 (211 + 17 * l + 4) (z_I S 3 l 5 + w) := by unfold mEx1; rw [RM.ldy h.r hl]
  rw [← eM] at r1
  have ht : ∀ k' i f, ¬ (k' = 3 ∧ i = l ∧ f = 5) → z_I (z_uI S 3 l 5 (z_I S 3 l 5 + w)) k' i f = z_I S k' i f := fun k i f u => by rw [z_I_u, if_neg u]
  have i1 : InvA B T (z_uI S 3 l 5 (z_I S 3 l 5 + w)) := by
    refine hi.u3' ?_
    unfold iLd at hld ⊢
    rw [ht 3 l 0 (by omega), ht 3 l 1 (by omega), ht 3 l 2 (by omega), ht 3 l 3 (by omega), ht 3 l 4 (by omega), ht 3 l 6 (by omega), ht 3 l 7 (by omega), ht 3 l 8 (by omega), z_I_u, if_pos ⟨rfl, rfl, rfl⟩]
    refine ⟨hld.1, hld.2.1, hld.2.2.1, hld.2.2.2.1, ?_, hld.2.2.2.2.2⟩
    have := hld.2.2.2.2.1
    omega
  have hl1 : l < cL (z_uI S 3 l 5 (z_I S 3 l 5 + w)) := hl
  have hs1 : z_I (z_uI S 3 l 5 (z_I S 3 l 5 + w)) 3 l 0 = 1 := by rw [ht 3 l 0 (by omega)]; exact hs
  have ef : cFr (z_uI S 3 l 5 (z_I S 3 l 5 + w)) l = cFr S l := congrArg Int32.toNatClampNeg (ht 3 l 1 (by omega))
  obtain ⟨s1, s2, s3, s4, s5⟩ := sim_anew r1 i1 hl1 hs1
  have eX : mEx2 M l w = mAdj (mEx1 M l w) l (cFr (z_uI S 3 l 5 (z_I S 3 l 5 + w)) l) := by unfold mEx2; rw [RM.fr h.r hl, ef]
  rw [← eX] at s1 s2
  have eLat : cLatest (z_uI S 3 l 5 (z_I S 3 l 5 + w)) l = cLatest S l + w := by
    unfold cLatest
    rw [ht 3 l 7 (by omega), z_I_u, if_pos ⟨rfl, rfl, rfl⟩, Int32.add_assoc]
  have eNd : cNeed (z_uI S 3 l 5 (z_I S 3 l 5 + w)) l = cRest S l * cGr S (cKd S l) (z_I S 3 l 7) (cLatest S l + w) := by
    unfold cNeed
    rw [if_neg (by rw [hs1]; decide), if_pos hs1, eLat, ht 3 l 7 (by omega)]
    have e1 : cRest (z_uI S 3 l 5 (z_I S 3 l 5 + w)) l = cRest S l := by unfold cRest; rw [ht 3 l 4 (by omega), ht 3 l 8 (by omega)]
    have e2 : cKd (z_uI S 3 l 5 (z_I S 3 l 5 + w)) l = cKd S l := congrArg Int32.toNatClampNeg (ht 3 l 3 (by omega))
    rw [e1, e2, cGr_co (S' := z_uI S 3 l 5 (z_I S 3 l 5 + w)) (S := S) rfl (fun _ => rfl) (fun _ => rfl)]
  have eMore : cMore (z_uI S 3 l 5 (z_I S 3 l 5 + w)) l = cRest S l * cGr S (cKd S l) (z_I S 3 l 7) (cLatest S l + w) - cHeld S l := by
    unfold cMore; rw [eNd]; rfl
  have eFF : cFF (z_uI S 3 l 5 (z_I S 3 l 5 + w)) (cFr S l) = cFF S (cFr S l) := rfl
  have hb : (cAnew (z_uI S 3 l 5 (z_I S 3 l 5 + w)) l).1 = true ↔ ¬ cFF S (cFr S l) < cRest S l * cGr S (cKd S l) (z_I S 3 l 7) (cLatest S l + w) - cHeld S l := by
    unfold cAnew
    rw [ef, eFF, eMore]
    by_cases u : cFF S (cFr S l) < cRest S l * cGr S (cKd S l) (z_I S 3 l 7) (cLatest S l + w) - cHeld S l
    · rw [if_pos u]; exact ⟨fun w => (by cases w), fun w => absurd u w⟩
    · rw [if_neg u]
      refine ⟨fun _ => u, fun _ => ?_⟩
      by_cases u2 : 0 < cRest S l * cGr S (cKd S l) (z_I S 3 l 7) (cLatest S l + w) - cHeld S l
      · rw [if_pos u2]
      · rw [if_neg u2]
  have e3 : ∀ f, z_I (aExtend S l w) 3 l f = z_I (z_uI S 3 l 5 (z_I S 3 l 5 + w)) 3 l f := fun f => s4 3 l f (by omega) (by omega)
  refine ⟨by rw [← s1]; exact hb, fun u => ⟨s2, s3, (h.nd.xx.fo (.tr .u3 s4.o)).nn ?_⟩, ?_, s2, by rw [e3]; exact hs1⟩
  · refine ⟨fun _ => ?_, fun w' => absurd ((e3 0).trans hs1) w'⟩
    show iHs (cAnew (z_uI S 3 l 5 (z_I S 3 l 5 + w)) l).2 l = _
    rw [s5 (by rw [s1]; exact u), s4.need]
  · rw [RM.lat h.r hl hs, ← eLat]
    unfold cLatest
    rw [e3, e3]
-- shift
theorem sim_shift (h : Ok B T S M) (hl : l < cL S) (hg : g < cG S) (hh : h' < cG S) (hgh : g ≠ h') (hle : (z_I S 14 l g).toInt ≤ (cFree S h').toInt) : Ok B T (aShift S l g h' (z_I S 14 l g)) (mShi M l g h') := by
  have hN := h.rt (v := 16)
  have hL := h.r.L40
  have hG := h.r.G4
  have hi := h.ia
  have hfr := hi.free hG hh
  have hgu := hi.gu hh
  have hgg := hi.gu hg
  have hx := hi.hB0 hG (show g < 4 by omega) hl
  have hxh := hi.hB0 hG (show h' < 4 by omega) hl
  have hxle := hi.hle hG hg hl
  have h0 := hi.hd0 hG hh
  have h0g := hi.hd0 hG hg
  unfold iGu at hgu hgg
  have hB := hi.hB
  have i0 : (0 : Int32).toInt = 0 := rfl
  generalize hxx : z_I S 14 l g = x at *
  have eS1 : aSh1 S l g h' x = z_uI (z_uI S 14 l g 0) 14 l h' (z_I S 14 l h' + x) := by unfold aSh1; rw [z_I_u, if_neg (by omega)]
  have eS2 : aSh2 S l g h' x = z_uI (z_uI (z_uI S 14 l g 0) 14 l h' (z_I S 14 l h' + x)) 1 g 1 (z_I S 1 g 1 - x) := by unfold aSh2; rw [eS1]; rfl
  have eS3 : aShift S l g h' x = z_uI (z_uI (z_uI (z_uI S 14 l g 0) 14 l h' (z_I S 14 l h' + x)) 1 g 1 (z_I S 1 g 1 - x)) 1 h' 1 (z_I S 1 h' 1 + x) := by
    unfold aShift; rw [eS2, z_I_u, if_neg (by omega)]; rfl
  have m0 : z_I M 22 0 (211 + 17 * l + 13 + g) = x := by rw [RM.lh h.r hl (by omega), hxx]
  have eM : mShi M l g h' = z_uI (z_uI (z_uI (z_uI (mRem (mTh M) 16) 22 0 (211 + 17 * l + 13 + g) 0) 22 0 (211 + 17 * l + 13 + h') (z_I S 14 l h' + x)) 22 0 (6 + 3 * g + 1) (z_I S 1 g 1 - x)) 22 0 (6 + 3 * h' + 1) (z_I S 1 h' 1 + x) := by
    unfold mShi mSh3 mSh2 mSh1
    rw [m0]
    have q1 : z_I (z_uI (mRem (mTh M) 16) 22 0 (211 + 17 * l + 13 + g) 0) 22 0 (211 + 17 * l + 13 + h') = z_I S 14 l h' := by rw [z_I_u, if_neg (by omega), mRT_r, RM.lh h.r hl (by omega)]
    rw [q1]
    have q2 : z_I (z_uI (z_uI (mRem (mTh M) 16) 22 0 (211 + 17 * l + 13 + g) 0) 22 0 (211 + 17 * l + 13 + h') (z_I S 14 l h' + x)) 22 0 (6 + 3 * g + 1) = z_I S 1 g 1 := by
      rw [z_I_u, if_neg (by omega), z_I_u, if_neg (by omega), mRT_r, RM.gu h.r hg (by omega)]
    rw [q2]
    have q3 : z_I (z_uI (z_uI (z_uI (mRem (mTh M) 16) 22 0 (211 + 17 * l + 13 + g) 0) 22 0 (211 + 17 * l + 13 + h') (z_I S 14 l h' + x)) 22 0 (6 + 3 * g + 1) (z_I S 1 g 1 - x)) 22 0 (6 + 3 * h' + 1) = z_I S 1 h' 1 := by
      rw [z_I_u, if_neg (by omega), z_I_u, if_neg (by omega), z_I_u, if_neg (by omega), mRT_r, RM.gu h.r hh (by omega)]
    rw [q3]
  have r1 := RM.uH (v := 0) hN.r hl (show g < 4 by omega)
  have r2 := RM.uH (v := z_I S 14 l h' + x) r1 (l := l) hl (show h' < 4 by omega)
  have r3 := RM.uG (v := z_I S 1 g 1 - x) (q := 1) r2 (g := g) hg (by decide)
  have r4 := RM.uG (v := z_I S 1 h' 1 + x) (q := 1) r3 (g := h') hh (by decide)
  have eg : (z_I S 1 g 1 - x).toInt = (z_I S 1 g 1).toInt - x.toInt := i_sub (by omega) (by omega)
  have eh : (z_I S 1 h' 1 + x).toInt = (z_I S 1 h' 1).toInt + x.toInt := i_add (by omega) (by omega)
  have ehh : (z_I S 14 l h' + x).toInt = (z_I S 14 l h').toInt + x.toInt := i_add (by omega) (by omega)
  rw [eM, eS3]
  -- first g gives back, then h' holds
  have i1 : InvA B T (z_uI (z_uI S 14 l g 0) 1 g 1 (z_I S 1 g 1 - x)) := by
    refine hi.money (g := g) (l := l) (δ := -x.toInt) (ε := 0) hG hg hl ?_ ?_ ?_ (by rw [hxx]; omega) (by omega) (by omega) (fun k i f u1 u2 => ?_)
    · rw [z_I_u, if_pos ⟨rfl, rfl, rfl⟩, eg]; omega
    · rw [z_I_u, if_neg (by omega), z_I_u, if_neg (by omega)]; omega
    · rw [z_I_u, if_neg (by omega), z_I_u, if_pos ⟨rfl, rfl, rfl⟩, hxx]; omega
    · rw [z_I_u, if_neg (by omega), z_I_u, if_neg (by omega)]
  have rd : ∀ k i f, ¬ (k = 1 ∧ i = h' ∧ (f = 1 ∨ f = 2)) → ¬ (k = 14 ∧ i = l ∧ f = h') → z_I (z_uI (z_uI (z_uI (z_uI S 14 l g 0) 14 l h' (z_I S 14 l h' + x)) 1 g 1 (z_I S 1 g 1 - x)) 1 h' 1 (z_I S 1 h' 1 + x)) k i f = z_I (z_uI (z_uI S 14 l g 0) 1 g 1 (z_I S 1 g 1 - x)) k i f := fun k i f u1 u2 => by
    rw [z_I_u, if_neg (by omega), z_I_u, z_I_u, z_I_u, z_I_u, z_I_u]
    by_cases w1 : k = 1 ∧ i = g ∧ f = 1
    · rw [if_pos w1, if_pos w1]
    · rw [if_neg w1, if_neg u2, if_neg w1]
  have d1 : z_I (z_uI (z_uI S 14 l g 0) 1 g 1 (z_I S 1 g 1 - x)) 1 h' 1 = z_I S 1 h' 1 := by rw [z_I_u, if_neg (by omega)]; rfl
  have d2 : z_I (z_uI (z_uI S 14 l g 0) 1 g 1 (z_I S 1 g 1 - x)) 1 h' 2 = z_I S 1 h' 2 := by rw [z_I_u, if_neg (by omega)]; rfl
  have d0 : z_I (z_uI (z_uI S 14 l g 0) 1 g 1 (z_I S 1 g 1 - x)) 1 h' 0 = z_I S 1 h' 0 := by rw [z_I_u, if_neg (by omega)]; rfl
  have d3 : z_I (z_uI (z_uI S 14 l g 0) 1 g 1 (z_I S 1 g 1 - x)) 14 l h' = z_I S 14 l h' := by rw [z_I_u, if_neg (by omega), z_I_u, if_neg (by omega)]
  refine ⟨r4, ?_, ?_⟩
  · refine i1.money (g := h') (l := l) (δ := x.toInt) (ε := 0) hG hh hl ?_ ?_ ?_ (by rw [d3]; omega) (by rw [d2]; omega) (by rw [d1, d2, d0]; omega) rd
    · rw [z_I_u, if_pos ⟨rfl, rfl, rfl⟩, d1, eh]
    · rw [d2, z_I_u, if_neg (by omega), z_I_u, if_neg (by omega)]
      show (z_I S 1 h' 2).toInt = _; omega
    · rw [d3, z_I_u, if_neg (by omega), z_I_u, if_neg (by omega), z_I_u, if_pos ⟨rfl, rfl, rfl⟩, ehh]
  · have fm : Fm l S (z_uI (z_uI (z_uI (z_uI S 14 l g 0) 14 l h' (z_I S 14 l h' + x)) 1 g 1 (z_I S 1 g 1 - x)) 1 h' 1 (z_I S 1 h' 1 + x)) := fun k i f u1 u2 => by
      rw [z_I_u, if_neg (by omega), z_I_u, if_neg (by omega), z_I_u, if_neg (by omega), z_I_u, if_neg (by omega)]
    refine (h.nd.xx.fo fm.o).nn ⟨fun u => ?_, fun u g' hg' => ?_⟩
    · rw [fm.need]
      have e1 := iHs_up (S := S) (S' := z_uI S 14 l g 0) (l := l) (g := g) (by omega) (fun f _ hf => by rw [z_I_u, if_neg (by omega)])
      have e2 := iHs_up (S := z_uI S 14 l g 0) (S' := z_uI (z_uI S 14 l g 0) 14 l h' (z_I S 14 l h' + x)) (l := l) (g := h') (by omega) (fun f _ hf => by rw [z_I_u, if_neg (by omega)])
      rw [z_I_u, if_pos ⟨rfl, rfl, rfl⟩, z_I_u, if_neg (by omega)] at e2
      rw [z_I_u, if_pos ⟨rfl, rfl, rfl⟩] at e1
      have u' : z_I S 3 l 0 = 1 := u
      have := (h.nd l hl).1 u'
      show iHs (z_uI (z_uI S 14 l g 0) 14 l h' (z_I S 14 l h' + x)) l = _
      rw [hxx] at e1
      omega
    · have u' : z_I S 3 l 0 ≠ 1 := u
      have n0 := (h.nd l hl).2 u'
      have x0 : x = 0 := by rw [← hxx]; exact n0 g (by omega)
      show z_I (z_uI (z_uI S 14 l g 0) 14 l h' (z_I S 14 l h' + x)) 14 l g' = 0
      rw [z_I_u]
      by_cases w1 : g' = h'
      · rw [if_pos ⟨rfl, rfl, w1⟩, x0, n0 h' (by omega)]; rfl
      · rw [if_neg (by omega), z_I_u]
        by_cases w2 : g' = g
        · rw [if_pos ⟨rfl, rfl, w2⟩]
        · rw [if_neg (by omega)]; exact n0 g' hg'
end Re23
