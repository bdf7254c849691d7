set_option maxHeartbeats 400000
/-! ===== CLASS AND MODEL: both, with what they kept ===== -/
section Me4
variable {i j q r J k t n x : Nat} {v w : Int32} {m m' : zM} {S S' M M' N X Y : zS}
abbrev OK (S M : zS) : Prop := Ok 9999999 12 S M
def KB (m : zM) (M : zS) : Prop := cRing m ∧ z_I M 6 0 8 = z_I (z_g m 0) 5 0 6 ∧ ∀ i, i < cKc m → (∃ q, z_d m (3 + (cKf m + i) % 8) = some q ∧ OK (z_g m q) (mUd M i)) ∧ z_I (z_g m 0) 19 0 ((cKf m + i) % 8) = z_I M 26 0 i
def IB (m : zM) (M : zS) : Prop := ∀ k, k < 2 → (z_d m (1 + k) = none ∧ z_I M 29 0 k = 0) ∨ ∃ q, z_d m (1 + k) = some q ∧ ¬ z_I M 29 0 k = 0 ∧ OK (z_g m q) (mIm M k)
def RB (X M : zS) : Prop := z_I M 21 0 1 = z_I X 5 0 8 ∧ z_I M 21 0 2 = z_I X 5 0 9 ∧ z_I M 21 0 4 = z_I X 5 0 10 ∧ z_I M 21 0 5 = z_I X 5 0 11
def SB (X M : zS) : Prop := z_I M 6 0 1 = z_I X 5 0 7 ∧ RB X M
def Iv (m : zM) (M : zS) : Prop := DY m ∧ KB m M ∧ IB m M ∧ SB (z_g m 0) M ∧ OK (z_g m 2) M
theorem Iv.dy (h : Iv m M) : DY m := h.1
theorem Iv.kb (h : Iv m M) : KB m M := h.2.1
theorem Iv.ib (h : Iv m M) : IB m M := h.2.2.1
theorem Iv.sb (h : Iv m M) : SB (z_g m 0) M := h.2.2.2.1
theorem Iv.ok (h : Iv m M) : OK (z_g m 2) M := h.2.2.2.2
theorem Iv.cmok (h : Iv m M) : cMok m := ⟨h.ok.cn, h.dy.dyn, h.kb.1⟩
theorem Iv.nu (h : Iv m M) : z_nn (z_I M 6 0 8) 8 := by rw [h.kb.2.1]; exact h.kb.1.2
theorem Iv.eN (h : Iv m M) : mNu M = cKc m := congrArg Int32.toNatClampNeg h.kb.2.1
theorem Iv.eF (h : Iv m M) : mFl M = cFl m := by unfold mFl cFl; rw [h.eN]
theorem Iv.mok (h : Iv m M) : mOk M := h.ok.mok h.nu
-- frames
def cSm (m m' : zM) : Prop := (∀ j, 1 ≤ j → z_d m' j = z_d m j) ∧ ∀ j q, 1 ≤ j → z_d m j = some q → z_g m' q = z_g m q
def cRg (X X' : zS) : Prop := z_I X' 5 0 5 = z_I X 5 0 5 ∧ z_I X' 5 0 6 = z_I X 5 0 6 ∧ ∀ x, z_I X' 19 0 x = z_I X 19 0 x
theorem cSm.rf : cSm m m := ⟨fun _ _ => rfl, fun _ _ _ _ => rfl⟩
theorem cRg.rf : cRg X X := ⟨rfl, rfl, fun _ => rfl⟩
theorem cRg.u7 : cRg X (z_uI X 5 0 7 v) := ⟨by rw [z_I_u, if_neg (by omega)], by rw [z_I_u, if_neg (by omega)], fun x => by rw [z_I_u, if_neg (by omega)]⟩
theorem mF2.u1 : mF2 M (z_uI M 6 0 1 v) := ⟨fun k f hk => by rw [z_I_u, if_neg (by omega)], fun _ _ _ => rfl⟩
theorem sR.u1 : sR (z_uI M 6 0 1 v) M := ⟨fun _ _ => by rw [z_I_u, if_neg (by omega)], fun _ _ => rfl⟩
theorem KB.co (h : KB m M) (c : cSm m m') (g : cRg (z_g m 0) (z_g m' 0)) (s : mF2 M M') : KB m' M' := by
  have e5 : cKf m' = cKf m := congrArg Int32.toNatClampNeg g.1
  have e6 : cKc m' = cKc m := congrArg Int32.toNatClampNeg g.2.1
  refine ⟨⟨by rw [g.1]; exact h.1.1, by rw [g.2.1]; exact h.1.2⟩, by rw [s.1 6 8 (by omega), g.2.1]; exact h.2.1, fun i hi => ?_⟩
  rw [e6] at hi
  obtain ⟨⟨q, h1, h2⟩, h3⟩ := h.2.2 i hi
  rw [e5, g.2.2, s.1 26 i (by omega)]
  exact ⟨⟨q, by rw [c.1 _ (by omega)]; exact h1, by rw [c.2 _ q (by omega) h1]; exact h2.sr s.ud⟩, h3⟩
theorem IB.co (h : IB m M) (hd : ∀ k, k < 2 → z_d m' (1 + k) = z_d m (1 + k)) (hg : ∀ k q, k < 2 → z_d m (1 + k) = some q → z_g m' q = z_g m q) (hi : ∀ k, sR (mIm M' k) (mIm M k) ∧ z_I M' 29 0 k = z_I M 29 0 k) : IB m' M' := fun k hk => by
  rw [hd k hk, (hi k).2]
  rcases h k hk with u | ⟨q, h1, h2, h3⟩
  · exact .inl u
  · exact .inr ⟨q, h1, h2, by rw [hg k q hk h1]; exact h3.sr (hi k).1⟩
theorem IB.c2 (h : IB m M) (c : cSm m m') (s : mF2 M M') : IB m' M' := h.co (fun k _ => c.1 _ (by omega)) (fun k q _ hq => c.2 _ q (by omega) hq) fun k => ⟨s.im, s.1 29 k (by omega)⟩
theorem RB.co (h : RB X M) (h1 : ∀ f, 8 ≤ f → z_I Y 5 0 f = z_I X 5 0 f) (h2 : ∀ f, z_I N 21 0 f = z_I M 21 0 f) : RB Y N := by
  unfold RB at h ⊢
  rw [h1 8 (by omega), h1 9 (by omega), h1 10 (by omega), h1 11 (by omega), h2, h2, h2, h2]; exact h
theorem Iv.same (h : Iv m M) (s : kS M N) : Iv m N :=
  ⟨h.dy, h.kb.co .rf .rf s.2.1, h.ib.c2 .rf s.2.1, ⟨s.2.2.trans h.sb.1, h.sb.2.co (fun _ _ => rfl) fun f => s.2.1.1 21 f (by omega)⟩, h.ok.sr s.1⟩
theorem cSm.g0 (h : DY m) : cSm m (z_s m 0 X) := ⟨fun _ _ => rfl, fun j q _ hq => z_g_sn (by have := h.2.1 j q hq; omega)⟩
theorem cSm.g2 (h : DY m) : cSm m (z_s m 2 X) := ⟨fun _ _ => rfl, fun j q _ hq => z_g_sn (by have := h.2.1 j q hq; omega)⟩
-- refusals
theorem cRefX_o {k i f : Nat} (h : ¬ (k = 5 ∧ 7 ≤ f)) : z_I (cRefX X v) k i f = z_I X k i f := by
  unfold cRefX
  split
  · rw [z_I_u, if_neg (by omega), z_I_u, if_neg (by omega)]
  · split
    · rw [z_I_u, if_neg (by omega), z_I_u, if_neg (by omega)]
    · split
      · rw [z_I_u, if_neg (by omega), z_I_u, if_neg (by omega)]
      · rw [z_I_u, if_neg (by omega), z_I_u, if_neg (by omega)]
theorem SB.ref (h : RB X M) (hv : v = -1 ∨ v = -2 ∨ v = -4 ∨ v = -5) : SB (cRefX X v) (mRefu M v) := by
  obtain ⟨h1, h2, h3, h4⟩ := h
  rcases hv with rfl | rfl | rfl | rfl
  · have e : (-(-1) : Int32).toNatClampNeg = 1 := by decide
    unfold mRefu cRefX
    rw [e, if_pos rfl]
    exact ⟨rfl, congrArg (· + 1) h1, h2, h3, h4⟩
  · have e : (-(-2) : Int32).toNatClampNeg = 2 := by decide
    unfold mRefu cRefX
    rw [e, if_neg (by decide), if_pos rfl]
    exact ⟨rfl, h1, congrArg (· + 1) h2, h3, h4⟩
  · have e : (-(-4) : Int32).toNatClampNeg = 4 := by decide
    unfold mRefu cRefX
    rw [e, if_neg (by decide), if_neg (by decide), if_pos rfl]
    exact ⟨rfl, h1, h2, congrArg (· + 1) h3, h4⟩
  · have e : (-(-5) : Int32).toNatClampNeg = 5 := by decide
    unfold mRefu cRefX
    rw [e, if_neg (by decide), if_neg (by decide), if_neg (by decide)]
    exact ⟨rfl, h1, h2, h3, congrArg (· + 1) h4⟩
theorem mRefu_f2 {k f : Nat} (h : k ≠ 21) (h2 : ¬ (k = 6 ∧ f = 1)) : z_I (mRefu M v) k 0 f = z_I M k 0 f := by
  unfold mRefu
  rw [z_I_u, if_neg (by omega), z_I_u, if_neg (by omega)]
theorem mRefu_J {k i f : Nat} : z_J (mRefu M v) k i f = z_J M k i f := id rfl
theorem KB.co' (h : KB m M) (c : cSm m m') (g : cRg (z_g m 0) (z_g m' 0)) (s1 : z_I M' 6 0 8 = z_I M 6 0 8) (s2 : ∀ i, i < cKc m → sR (mUd M' i) (mUd M i) ∧ z_I M' 26 0 i = z_I M 26 0 i) : KB m' M' := by
  have e5 : cKf m' = cKf m := congrArg Int32.toNatClampNeg g.1
  have e6 : cKc m' = cKc m := congrArg Int32.toNatClampNeg g.2.1
  refine ⟨⟨by rw [g.1]; exact h.1.1, by rw [g.2.1]; exact h.1.2⟩, by rw [s1, g.2.1]; exact h.2.1, fun i hi => ?_⟩
  rw [e6] at hi
  obtain ⟨⟨q, h1, h2⟩, h3⟩ := h.2.2 i hi
  obtain ⟨s3, s4⟩ := s2 i hi
  rw [e5, g.2.2, s4]
  exact ⟨⟨q, by rw [c.1 _ (by omega)]; exact h1, by rw [c.2 _ q (by omega) h1]; exact h2.sr s3⟩, h3⟩
theorem Iv.ref (h : Iv m M) (hv : v = -1 ∨ v = -2 ∨ v = -4 ∨ v = -5) : Iv (mRef m v) (mRefu M v) := by
  have g0 : z_g (mRef m v) 0 = cRefX (z_g m 0) v := z_g_ss _ _ _
  have c : cSm m (mRef m v) := cSm.g0 h.dy
  refine ⟨h.dy.co (fun _ => rfl) rfl, h.kb.co' c ?_ (mRefu_f2 (by decide) (by omega)) (fun i _ => ⟨sR_ud (fun f _ => mRefu_f2 (by decide) (by omega)) (fun _ _ => mRefu_J), mRefu_f2 (by decide) (by omega)⟩), h.ib.co (fun _ _ => rfl) (fun k q _ hq => c.2 _ q (by omega) hq) (fun k => ⟨sR_im (fun f _ => mRefu_f2 (by decide) (by omega)) (fun _ _ => mRefu_J), mRefu_f2 (by decide) (by omega)⟩), ?_, ?_⟩
  · rw [g0]
    exact ⟨cRefX_o (by omega), cRefX_o (by omega), fun x => cRefX_o (by omega)⟩
  · rw [g0]; exact SB.ref h.sb.2 hv
  · rw [show z_g (mRef m v) 2 = z_g m 2 from z_g_20]
    exact h.ok.sr ⟨fun f _ => mRefu_f2 (by decide) (by omega), fun _ _ => rfl⟩
theorem Iv.refT (h : Iv m M) (hv : v = -1 ∨ v = -2 ∨ v = -4 ∨ v = -5) : Iv (mRef m v) (mRefu (mTh M) v) := (h.same .th).ref hv
-- another slice in region 2 that is alike
theorem Iv.row (h : Iv m M) (hX : Alk (z_g m 2) X) : Iv (z_s m 2 X) M := by
  have g0 : z_g (z_s m 2 X) 0 = z_g m 0 := z_g_02
  refine ⟨h.dy.co (fun _ => rfl) rfl, h.kb.co (cSm.g2 h.dy) (by rw [g0]; exact .rf) .rf, h.ib.c2 (cSm.g2 h.dy) .rf, by rw [g0]; exact h.sb, by rw [z_g_ss]; exact h.ok.alk hX⟩
theorem Iv.reg0 (h : Iv m M) (hX : ∀ k i f, k ≠ 20 → z_I X k i f = z_I (z_g m 0) k i f) : Iv (z_s m 0 X) M := by
  have g0 : z_g (z_s m 0 X) 0 = X := z_g_ss _ _ _
  refine ⟨h.dy.co (fun _ => rfl) rfl, h.kb.co (cSm.g0 h.dy) ?_ .rf, h.ib.c2 (cSm.g0 h.dy) .rf, ?_, ?_⟩
  · rw [g0]; exact ⟨hX 5 0 5 (by decide), hX 5 0 6 (by decide), fun x => hX 19 0 x (by decide)⟩
  · rw [g0]
    exact ⟨by rw [hX 5 0 7 (by decide)]; exact h.sb.1, h.sb.2.co (fun f _ => hX 5 0 f (by decide)) fun _ => rfl⟩
  · rw [show z_g (z_s m 0 X) 2 = z_g m 2 from z_g_20]; exact h.ok
-- paper
theorem pap_z : (mPaper m).2 = mCz m 0 := rfl
theorem Iv.pap0 (h : Iv m M) : OK (z_g (mPaper m).2 (mPaper m).1) M := by
  obtain ⟨-, -, -, -, ⟨S0, b5⟩, -⟩ := mCz_b h.dy 0
  rw [show z_g (mPaper m).2 (mPaper m).1 = cpBk S0 (z_g m 2) from b5]
  exact h.ok.alk .cp
theorem Iv.pap (h : Iv m M) (X : zS) : Iv (z_s (mPaper m).2 (mPaper m).1 X) M ∧ z_g (z_s (mPaper m).2 (mPaper m).1 X) 1 = z_g m 1 ∧ z_g (z_s (mPaper m).2 (mPaper m).1 X) 2 = z_g m 2 ∧ z_g (z_s (mPaper m).2 (mPaper m).1 X) 0 = z_g m 0 := by
  obtain ⟨b1, b2, b3, b4, -, b6⟩ := mCz_b h.dy 0
  have b1' : 2 < (mPaper m).1 := b1
  have hg : ∀ r, r ≠ (mPaper m).1 → z_g (z_s (mPaper m).2 (mPaper m).1 X) r = z_g m r := fun r hr => (z_g_sn hr).trans (b6 r hr)
  have c : cSm m (z_s (mPaper m).2 (mPaper m).1 X) := ⟨fun j hj => (mCz_d m 0 j).trans (if_neg (by omega)), fun j q hj hq => hg q (b4 j q (by omega) hq)⟩
  refine ⟨⟨(mCz_dy h.dy 0).co (fun _ => rfl) rfl, h.kb.co c (by rw [hg 0 (by omega)]; exact .rf) .rf, h.ib.c2 c .rf, by rw [hg 0 (by omega)]; exact h.sb, by rw [hg 2 (by omega)]; exact h.ok⟩, hg 1 (by omega), hg 2 (by omega), hg 0 (by omega)⟩
end Me4
