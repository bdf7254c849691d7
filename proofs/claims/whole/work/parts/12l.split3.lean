set_option maxHeartbeats 400000
/-! ===== CLASS AND MODEL: split (3) ===== -/
section Re32
variable {d i k g s l l' t q n p T j : Nat} {v w a b c e f x y z : Int32} {S S' M M' N S0 X Y : zS} {B c0 c1 : Int}
theorem cSplit_alk (hln : l ≠ n) (h1 : (HD l n (cFr X l) (b, X)).1 = 0) (h13 : z_J X 3 n 13 = 0) : Alk (z_uJ (HD l n (cFr X l) (b, z_uJ (z_uI X 3 l 4 (z_I X 3 l 4 - w)) 3 n 13 b.toInt64)).2 3 l 14 (z_J X 3 l 14 + b.toInt64)) (z_uI (cHand X l n b) 3 l 4 (z_I (cHand X l n b) 3 l 4 - w)) := by
  have e1 : HD l n (cFr X l) (b, z_uJ (z_uI X 3 l 4 (z_I X 3 l 4 - w)) 3 n 13 b.toInt64) = ((HD l n (cFr X l) (b, X)).1, z_uJ (z_uI (HD l n (cFr X l) (b, X)).2 3 l 4 (z_I X 3 l 4 - w)) 3 n 13 b.toInt64) := by
    rw [HD_uJ (p := (b, z_uI X 3 l 4 (z_I X 3 l 4 - w))), HD_u (p := (b, X))]
  have e2 : cHand X l n b = z_uJ (z_uJ (HD l n (cFr X l) (b, X)).2 3 l 14 (z_J (HD l n (cFr X l) (b, X)).2 3 l 14 + b.toInt64)) 3 n 13 (z_J (z_uJ (HD l n (cFr X l) (b, X)).2 3 l 14 (z_J (HD l n (cFr X l) (b, X)).2 3 l 14 + b.toInt64)) 3 n 13 + b.toInt64) := by
    show z_uJ (z_uJ (HD l n (cFr X l) (b, X)).2 3 l 14 (z_J (HD l n (cFr X l) (b, X)).2 3 l 14 + (b - (HD l n (cFr X l) (b, X)).1).toInt64)) 3 n 13 (z_J (z_uJ (HD l n (cFr X l) (b, X)).2 3 l 14 (z_J (HD l n (cFr X l) (b, X)).2 3 l 14 + (b - (HD l n (cFr X l) (b, X)).1).toInt64)) 3 n 13 + (b - (HD l n (cFr X l) (b, X)).1).toInt64) = _
    rw [h1, i_sub0]
  have p14 : z_J (HD l n (cFr X l) (b, X)).2 3 l 14 = z_J X 3 l 14 := HD_J
  have p13 : z_J (HD l n (cFr X l) (b, X)).2 3 n 13 = 0 := HD_J.trans h13
  have p4 : z_I (HD l n (cFr X l) (b, X)).2 3 l 4 = z_I X 3 l 4 := HD_3
  rw [e1, e2]
  generalize (HD l n (cFr X l) (b, X)).2 = H at *
  refine ⟨fun k i f _ => ?_, fun k i f _ => ?_⟩
  · show z_I (z_uI (z_uJ (z_uJ H 3 l 14 _) 3 n 13 _) 3 l 4 (z_I H 3 l 4 - w)) k i f = z_I (z_uI H 3 l 4 _) k i f
    rw [p4]; rfl
  · have e0 : z_J (z_uJ H 3 l 14 (z_J H 3 l 14 + b.toInt64)) 3 n 13 = 0 := by rw [z_J_u, if_neg (by omega)]; exact p13
    rw [e0, Int64.zero_add, p14, z_J_uI, z_J_u, z_J_u, z_J_u, z_J_u, z_J_uI]
    by_cases u1 : k = 3 ∧ i = n ∧ f = 13
    · rw [if_pos u1, if_neg (by omega), if_pos u1]
    · rw [if_neg u1]
      by_cases u2 : k = 3 ∧ i = l ∧ f = 14
      · rw [if_pos u2, if_pos u2]
      · rw [if_neg u2, if_neg u2, if_neg u1]
theorem sim_split (h : Ok B T S M) (hL : cL S < 40) (hl : v.toNatClampNeg < cL S) (hs : z_I S 3 v.toNatClampNeg 0 = 1) (hl8 : z_I S 3 v.toNatClampNeg 8 = 0) (hw : 1 ≤ w.toInt ∧ w.toInt < (z_I S 3 v.toNatClampNeg 4).toInt) (ha : 0 ≤ a.toInt ∧ a.toInt < cS S) : Ok B T (cSplit S v w a) (mSpl M v w a) := by
  have hld := h.ia.ld hl
  have hw2 : 1 ≤ w.toInt ∧ w.toInt ≤ 9999 := by unfold iLd at hld; omega
  obtain ⟨r6, i6⟩ := sim_sp6 (v := v) h hL hl hs hw2 ha
  have eN : mN M = cL S := RM.mN h.r
  have eF : mFr M v.toNatClampNeg = cFr S v.toNatClampNeg := RM.fr h.r hl
  have m3 : z_I M 22 0 (211 + 17 * v.toNatClampNeg + 3) = z_I S 3 v.toNatClampNeg 4 := RM.lqu h.r hl
  unfold cSplit mSpl
  rw [eF, eN]
  generalize v.toNatClampNeg = l at *
  have hln : l ≠ cL S := by omega
  have xo : ∀ f, z_I (cSp6 S l (cL S) v w a) 3 l f = z_I S 3 l f := fun f => cSp6_o hln (by omega) (by omega) (by omega)
  have eL : cL (cSp6 S l (cL S) v w a) = cL S + 1 := by
    show (z_I (cSp6 S l (cL S) v w a) 0 0 5).toNatClampNeg = _
    rw [cSp6_is hln, z_I_u, if_pos ⟨rfl, rfl, rfl⟩]; exact (z_nn1 (a := z_I S 0 0 5) h.r.cn.2.2 (by omega)).1
  have eFX : cFr (cSp6 S l (cL S) v w a) l = cFr S l := congrArg Int32.toNatClampNeg (xo 1)
  have f0 : z_I (cSp6 S l (cL S) v w a) 3 (cL S) 0 = 1 := (cSp6_f hln (by omega)).trans rfl
  have f1 : z_I (cSp6 S l (cL S) v w a) 3 (cL S) 1 = z_I S 3 l 1 := (cSp6_f hln (by omega)).trans rfl
  have f3 : z_I (cSp6 S l (cL S) v w a) 3 (cL S) 3 = z_I S 3 l 3 := (cSp6_f hln (by omega)).trans rfl
  have f4 : z_I (cSp6 S l (cL S) v w a) 3 (cL S) 4 = w := (cSp6_f hln (by omega)).trans rfl
  have f5 : z_I (cSp6 S l (cL S) v w a) 3 (cL S) 5 = z_I S 3 l 5 := (cSp6_f hln (by omega)).trans rfl
  have f7 : z_I (cSp6 S l (cL S) v w a) 3 (cL S) 7 = z_I S 3 l 7 := (cSp6_f hln (by omega)).trans rfl
  have f8 : z_I (cSp6 S l (cL S) v w a) 3 (cL S) 8 = 0 := (cSp6_f hln (by omega)).trans rfl
  have fJ : z_J (cSp6 S l (cL S) v w a) 3 (cL S) 13 = 0 := by rw [cSp6_J hln, if_neg (by omega), if_pos ⟨rfl, rfl, rfl⟩]
  have fh : ∀ g, g < 4 → z_I (cSp6 S l (cL S) v w a) 14 (cL S) g = 0 := fun g hg => cSp6_h hln hg
  have gr : ∀ k x y, cGr (cSp6 S l (cL S) v w a) k x y = cGr S k x y := fun k x y => cGr_co (cSp6_o hln (by omega) (by omega) (by omega)) (fun i => cSp6_o hln (by omega) (by omega) (by omega)) (fun i => cSp6_o hln (by omega) (by omega) (by omega))
  have nx : ∀ i, i < cL S → iNd (cSp6 S l (cL S) v w a) i := fun i hi => (h.nd i hi).co (fun q _ => cSp6_o hln (by omega) (by omega) (by omega)) (fun g _ => cSp6_o hln (by omega) (by omega) (by omega)) gr
  -- what the new load needs
  have r7 := RM.uL (v := z_I (cSp6 S l (cL S) v w a) 3 l 4 - w) (q := 3) r6 (l := l) (by rw [eL]; omega) (by decide)
  have e5 : mSp5 M l v w a = z_uI (mSp4 M l v w a) 22 0 (211 + 17 * l + 3) (z_I S 3 l 4 - w) := by unfold mSp5; rw [m3]
  have rw5 : ∀ j, z_I (mSp5 M l v w a) 22 0 j = z_I (z_uI (z_uJ (z_uJ (mSp4 M l v w a) 23 0 (8 + 2 * cL S) 0) 23 0 (9 + 2 * cL S) 0) 22 0 (211 + 17 * l + 3) (z_I (cSp6 S l (cL S) v w a) 3 l 4 - w)) 22 0 j := fun j => by
    rw [e5, xo]; generalize mSp4 M l v w a = Q; rfl
  have nd : mNeed (mSp5 M l v w a) (cL S) = cNeed (cSp6 S l (cL S) v w a) (cL S) := by
    have hn7 : cL S < cL (z_uI (cSp6 S l (cL S) v w a) 3 l 4 (z_I (cSp6 S l (cL S) v w a) 3 l 4 - w)) := by show cL S < cL (cSp6 S l (cL S) v w a); rw [eL]; omega
    have s7 : ∀ f, z_I (z_uI (cSp6 S l (cL S) v w a) 3 l 4 (z_I (cSp6 S l (cL S) v w a) 3 l 4 - w)) 3 (cL S) f = z_I (cSp6 S l (cL S) v w a) 3 (cL S) f := fun f => by rw [z_I_u, if_neg (by omega)]
    have i7 : mNeed (z_uI (z_uJ (z_uJ (mSp4 M l v w a) 23 0 (8 + 2 * cL S) 0) 23 0 (9 + 2 * cL S) 0) 22 0 (211 + 17 * l + 3) (z_I (cSp6 S l (cL S) v w a) 3 l 4 - w)) (cL S) = mNeed (z_uJ (z_uJ (mSp4 M l v w a) 23 0 (8 + 2 * cL S) 0) 23 0 (9 + 2 * cL S) 0) (cL S) := by
      have q : ∀ x, z_I (z_uI (z_uJ (z_uJ (mSp4 M l v w a) 23 0 (8 + 2 * cL S) 0) 23 0 (9 + 2 * cL S) 0) 22 0 (211 + 17 * l + 3) (z_I (cSp6 S l (cL S) v w a) 3 l 4 - w)) 22 0 (211 + 17 * cL S + x) = z_I (z_uJ (z_uJ (mSp4 M l v w a) 23 0 (8 + 2 * cL S) 0) 23 0 (9 + 2 * cL S) 0) 22 0 (211 + 17 * cL S + x) := fun x => by rw [z_I_u, if_neg (by omega)]
      have hk5 : cKd (cSp6 S l (cL S) v w a) (cL S) < 5 := i6.k5 (by rw [eL]; omega)
      have kk := RM.kd r6 (l := cL S) (by rw [eL]; omega)
      have kk7 : mKd (z_uI (z_uJ (z_uJ (mSp4 M l v w a) 23 0 (8 + 2 * cL S) 0) 23 0 (9 + 2 * cL S) 0) 22 0 (211 + 17 * l + 3) (z_I (cSp6 S l (cL S) v w a) 3 l 4 - w)) (cL S) = mKd (z_uJ (z_uJ (mSp4 M l v w a) 23 0 (8 + 2 * cL S) 0) 23 0 (9 + 2 * cL S) 0) (cL S) := congrArg Int32.toNatClampNeg (q 2)
      have ld := i6.ld (l := cL S) (by rw [eL]; omega)
      have dy := i6.dy
      have lat := i6.lat (l := cL S) (by rw [eL]; omega) f0
      have ls : z_I (cSp6 S l (cL S) v w a) 3 (cL S) 7 ≤ cLatest (cSp6 S l (cL S) v w a) (cL S) := by
        rw [i_le, lat.1]; unfold iLd at ld; omega
      have st : mSt (z_uJ (z_uJ (mSp4 M l v w a) 23 0 (8 + 2 * cL S) 0) 23 0 (9 + 2 * cL S) 0) (cL S) = 1 := (RM.st r6 (by rw [eL]; omega)).trans f0
      have b7 := RM.lbg r6 (l := cL S) (by rw [eL]; omega) f0
      have l7 := RM.lat r6 (l := cL S) (by rw [eL]; omega) f0
      have g1 := (r6.rt hk5).gr ls
      have g2 := (r7.rt hk5).gr (x := z_I (cSp6 S l (cL S) v w a) 3 (cL S) 7) (y := cLatest (cSp6 S l (cL S) v w a) (cL S)) ls
      have g3 : cGr (z_uI (cSp6 S l (cL S) v w a) 3 l 4 (z_I (cSp6 S l (cL S) v w a) 3 l 4 - w)) (cKd (cSp6 S l (cL S) v w a) (cL S)) (z_I (cSp6 S l (cL S) v w a) 3 (cL S) 7) (cLatest (cSp6 S l (cL S) v w a) (cL S)) = cGr (cSp6 S l (cL S) v w a) (cKd (cSp6 S l (cL S) v w a) (cL S)) (z_I (cSp6 S l (cL S) v w a) 3 (cL S) 7) (cLatest (cSp6 S l (cL S) v w a) (cL S)) := cGr_co rfl (fun _ => rfl) (fun _ => rfl)
      have st7 : mSt (z_uI (z_uJ (z_uJ (mSp4 M l v w a) 23 0 (8 + 2 * cL S) 0) 23 0 (9 + 2 * cL S) 0) 22 0 (211 + 17 * l + 3) (z_I (cSp6 S l (cL S) v w a) 3 l 4 - w)) (cL S) = 1 := (q 6).trans st
      have lat7 : mLat (z_uI (z_uJ (z_uJ (mSp4 M l v w a) 23 0 (8 + 2 * cL S) 0) 23 0 (9 + 2 * cL S) 0) 22 0 (211 + 17 * l + 3) (z_I (cSp6 S l (cL S) v w a) 3 l 4 - w)) (cL S) = mLat (z_uJ (z_uJ (mSp4 M l v w a) 23 0 (8 + 2 * cL S) 0) 23 0 (9 + 2 * cL S) 0) (cL S) := by unfold mLat; rw [q 7, q 4]
      have rst7 : mRest (z_uI (z_uJ (z_uJ (mSp4 M l v w a) 23 0 (8 + 2 * cL S) 0) 23 0 (9 + 2 * cL S) 0) 22 0 (211 + 17 * l + 3) (z_I (cSp6 S l (cL S) v w a) 3 l 4 - w)) (cL S) = mRest (z_uJ (z_uJ (mSp4 M l v w a) 23 0 (8 + 2 * cL S) 0) 23 0 (9 + 2 * cL S) 0) (cL S) := by unfold mRest; rw [q 3, q 8]
      unfold mNeed
      rw [st, st7, if_neg (by decide), if_neg (by decide), rst7, lat7, kk7, q 7, b7, l7, kk, g1, g2, g3]
    rw [mRw.need (M := z_uI (z_uJ (z_uJ (mSp4 M l v w a) 23 0 (8 + 2 * cL S) 0) 23 0 (9 + 2 * cL S) 0) 22 0 (211 + 17 * l + 3) (z_I (cSp6 S l (cL S) v w a) 3 l 4 - w)) rw5, i7]
    exact RM.need r6 i6 (by rw [eL]; omega) (.inr f0)
  rw [nd]
  have key := sim_sp8 (X := cSp6 S l (cL S) v w a) (M' := mSp7 M l v w a) (n := cL S) (l := l) (w := w) r6 i6 (by rw [eL]; omega) (by rw [eL]; omega) hln ((xo 0).trans hs) f0
    (fun f hf => by rw [xo]; rcases hf with rfl | rfl | rfl | rfl <;> assumption) f4 f8 ((xo 8).trans hl8) (by rw [xo]; exact hw) ((nx l hl).1 ((xo 0).trans hs)) fh (fun i hi _ hin => nx i (by rw [eL] at hi; omega))
    (fun j _ => by unfold mSp7; rw [z_I_uJ, z_I_uJ]; exact rw5 j) (fun j _ => by
      unfold mSp7
      rw [eN, nd, e5, z_J_u, z_J_u, z_J_uI, z_J_u, z_J_u, z_J_u]
      by_cases u1 : j = 8 + 2 * cL S
      · rw [if_neg (by omega), if_pos ⟨rfl, rfl, u1⟩, if_pos ⟨rfl, rfl, u1⟩]
      · by_cases u2 : j = 9 + 2 * cL S
        · rw [if_pos ⟨rfl, rfl, u2⟩, if_neg (by omega), if_pos ⟨rfl, rfl, u2⟩]
        · rw [if_neg (by omega), if_neg (by omega), if_neg (by omega), if_neg (by omega), if_neg (by omega)])
  rw [eFX] at key
  have h1 : (HD l (cL S) (cFr (cSp6 S l (cL S) v w a) l) (cNeed (cSp6 S l (cL S) v w a) (cL S), cSp6 S l (cL S) v w a)).1 = 0 := by
    have := key.2
    rw [HD_uJ (p := (cNeed (cSp6 S l (cL S) v w a) (cL S), z_uI (cSp6 S l (cL S) v w a) 3 l 4 (z_I (cSp6 S l (cL S) v w a) 3 l 4 - w))), HD_u (p := (cNeed (cSp6 S l (cL S) v w a) (cL S), cSp6 S l (cL S) v w a))] at this
    rw [eFX]; exact this
  have al := cSplit_alk (w := w) hln h1 fJ
  rw [eFX] at al
  exact key.1.alk al
end Re32
