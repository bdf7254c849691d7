/-! ===== CLASS AND MODEL: hold anew, receive, close, go ===== -/
section Re11
variable {d i k g s l l' t q n p T j : Nat} {v w a b c e f x y z : Int32} {S S' S0 M M' : zS} {B c0 : Int} {P : Nat → Prop}
theorem cRateGo_co (h12 : ∀ i, z_I S' 12 k i = z_I S 12 k i) (h13 : ∀ i, z_I S' 13 k i = z_I S 13 k i) : ∀ (n i : Nat) (a : Int32), cRateGo S' k x n i a = cRateGo S k x n i a
  | 0, _, _ => rfl
  | n + 1, i, a => by unfold cRateGo; rw [h12, h13, cRateGo_co h12 h13 n (i + 1)]
theorem cRate_co (h2 : z_I S' 2 k 2 = z_I S 2 k 2) (h12 : ∀ i, z_I S' 12 k i = z_I S 12 k i) (h13 : ∀ i, z_I S' 13 k i = z_I S 13 k i) : cRate S' k x = cRate S k x := by
  unfold cRate; rw [cTold.co h2, cRateGo_co h12 h13]
theorem cGrGo_co (h12 : ∀ i, z_I S' 12 k i = z_I S 12 k i) (h13 : ∀ i, z_I S' 13 k i = z_I S 13 k i) : ∀ (n i : Nat) (a : Int32), cGrGo S' k x y n i a = cGrGo S k x y n i a
  | 0, _, _ => rfl
  | n + 1, i, a => by unfold cGrGo; rw [h12, h13, cGrGo_co h12 h13 n (i + 1)]
theorem cGr_co (h2 : z_I S' 2 k 2 = z_I S 2 k 2) (h12 : ∀ i, z_I S' 12 k i = z_I S 12 k i) (h13 : ∀ i, z_I S' 13 k i = z_I S 13 k i) : cGr S' k x y = cGr S k x y := by
  unfold cGr; rw [cTold.co h2, cGrGo_co h12 h13]
-- only money, stock and one load have changed
def Fo (l : Nat) (S S' : zS) : Prop := ∀ k i f, ¬ (k = 1 ∧ (f = 1 ∨ f = 2)) → ¬ (k = 14 ∧ i = l) → ¬ (k = 3 ∧ i = l) → k ≠ 15 → z_I S' k i f = z_I S k i f
theorem Fm.o (h : Fm l S S') : Fo l S S' := fun k i f a b _ _ => h k i f a b
theorem Fo.rf : Fo l S S := fun _ _ _ _ _ _ _ => rfl
theorem Fo.tr {S2 : zS} (h : Fo l S S') (g : Fo l S' S2) : Fo l S S2 := fun k i f a b c d => (g k i f a b c d).trans (h k i f a b c d)
theorem Fo.u3 : Fo l S (z_uI S 3 l q v) := fun k i f _ _ h _ => by rw [z_I_u, if_neg fun u => h ⟨u.1, u.2.1⟩]
theorem Fo.u15 : Fo l S (z_uI S 15 i q v) := fun k i' f _ _ _ h => by rw [z_I_u, if_neg fun u => h u.1]
theorem Fo.h0 (h : Fo l S S') : z_I S' 0 0 q = z_I S 0 0 q := h 0 0 q (by omega) (by omega) (by omega) (by omega)
theorem Fo.G (h : Fo l S S') : cG S' = cG S := congrArg Int32.toNatClampNeg h.h0
theorem Fo.N (h : Fo l S S') : cS S' = cS S := congrArg Int32.toNatClampNeg h.h0
theorem Fo.L (h : Fo l S S') : cL S' = cL S := congrArg Int32.toNatClampNeg h.h0
theorem Fo.ld (h : Fo l S S') (hn : l' ≠ l) : z_I S' 3 l' q = z_I S 3 l' q := h 3 l' q (by omega) (by omega) (by omega) (by omega)
theorem Fo.gr (h : Fo l S S') : cGr S' k x y = cGr S k x y := cGr_co (h 2 k 2 (by omega) (by omega) (by omega) (by omega)) (fun i => h 12 k i (by omega) (by omega) (by omega) (by omega)) (fun i => h 13 k i (by omega) (by omega) (by omega) (by omega))
theorem Fo.rate (h : Fo l S S') : cRate S' k x = cRate S k x := cRate_co (h 2 k 2 (by omega) (by omega) (by omega) (by omega)) (fun i => h 12 k i (by omega) (by omega) (by omega) (by omega)) (fun i => h 13 k i (by omega) (by omega) (by omega) (by omega))
theorem Fo.need (h : Fo l S S') (hn : l' ≠ l) : cNeed S' l' = cNeed S l' := by
  unfold cNeed cRest cLatest cKd
  simp only [h.ld hn, h.h0, h.gr]
theorem Fm.need (h : Fm l S S') : cNeed S' l' = cNeed S l' := by
  have hl : ∀ q, z_I S' 3 l' q = z_I S 3 l' q := fun q => h 3 l' q (by omega) (by omega)
  have h0 : ∀ q, z_I S' 0 0 q = z_I S 0 0 q := fun q => h 0 0 q (by omega) (by omega)
  unfold cNeed cRest cLatest cKd
  simp only [hl, h0, h.o.gr]
-- what is held is what is needed
def iNd (S : zS) (l : Nat) : Prop := (z_I S 3 l 0 = 1 → iHs S l = (cNeed S l).toInt) ∧ (z_I S 3 l 0 ≠ 1 → ∀ g, g < 4 → z_I S 14 l g = 0)
def InvX (l0 : Nat) (S : zS) : Prop := ∀ l, l < cL S → l ≠ l0 → iNd S l
def InvN (S : zS) : Prop := ∀ l, l < cL S → iNd S l
theorem InvN.xx (h : InvN S) : InvX l S := fun l' hl _ => h l' hl
theorem InvX.nn (h : InvX l S) (hn : iNd S l) : InvN S := fun l' hl => by
  by_cases e : l' = l
  · rw [e]; exact hn
  · exact h l' hl e
theorem iHs_co (h : ∀ g, g < 4 → z_I S' 14 l g = z_I S 14 l g) : iHs S' l = iHs S l := by
  unfold iHs; rw [h 0 (by omega), h 1 (by omega), h 2 (by omega), h 3 (by omega)]
theorem iNd.fo (h : iNd S l') (hf : Fo l S S') (hn : l' ≠ l) : iNd S' l' := by
  have h14 : ∀ g, z_I S' 14 l' g = z_I S 14 l' g := fun g => hf 14 l' g (by omega) (by omega) (by omega) (by omega)
  unfold iNd
  rw [hf.ld hn, hf.need hn, iHs_co fun g _ => h14 g]
  exact ⟨h.1, fun u g hg => by rw [h14]; exact h.2 u g hg⟩
theorem InvX.fo (h : InvX l S) (hf : Fo l S S') : InvX l S' := fun l' hl hn => (h l' (by rw [← hf.L]; exact hl) hn).fo hf hn
theorem iHs_0 (h : iHs S l = 0) (h0 : ∀ g, g < 4 → 0 ≤ (z_I S 14 l g).toInt) : ∀ g, g < 4 → z_I S 14 l g = 0 := fun g hg => by
  have a0 := h0 0 (by omega)
  have a1 := h0 1 (by omega)
  have a2 := h0 2 (by omega)
  have a3 := h0 3 (by omega)
  unfold iHs at h
  apply i_z.mpr
  have : g = 0 ∨ g = 1 ∨ g = 2 ∨ g = 3 := by omega
  rcases this with rfl | rfl | rfl | rfl <;> omega
theorem cRelSt_0 (h : 0 ≤ (z_I S 14 l (cLn S s i)).toInt) : cRelSt l s i (0, S) = (0, S) := by
  have e : cMin 0 (z_I S 14 l (cLn S s i)) = 0 := by
    unfold cMin
    rw [if_neg]
    rw [i_lt]; show ¬ _ < (0 : Int); omega
  unfold cRelSt
  rw [e, i_sub0, i_sub0, i_sub0, zq_uId, zq_uId]
theorem cRel_0 (h : RM S M) (hi : InvA B T S) (hl : l < cL S) : cRel S l 0 = S := by
  have hs := hi.fr hl
  have hh : ∀ i, i < 4 → 0 ≤ (z_I S 14 l (cLn S (cFr S l) i)).toInt := fun i u => (hi.ho hl _ ((h.or hs).at u).1).1
  have e : cRel4 S l (cFr S l) 0 = (0, S) := by
    unfold cRel4
    rw [cRelSt_0 (hh 3 (by omega)), cRelSt_0 (hh 2 (by omega)), cRelSt_0 (hh 1 (by omega)), cRelSt_0 (hh 0 (by omega))]
  unfold cRel
  show z_uJ (cRel4 S l (cFr S l) 0).2 3 l 14 (z_J (cRel4 S l (cFr S l) 0).2 3 l 14 + (0 - (cRel4 S l (cFr S l) 0).1).toInt64) = S
  rw [e, i_sub0, i_64, zq_uJd]
theorem sim_anew (h : RM S M) (hi : InvA B T S) (hl : l < cL S) (hs : z_I S 3 l 0 = 1) : (cAnew S l).1 = (mAdj M l (cFr S l)).1 ∧ RM (cAnew S l).2 (mAdj M l (cFr S l)).2 ∧ InvA B T (cAnew S l).2 ∧ Fm l S (cAnew S l).2 ∧ ((cAnew S l).1 = true → iHs (cAnew S l).2 l = (cNeed S l).toInt) := by
  have hf := RM.ffi h hi (hi.fr hl)
  have hh := hi.held h.G4 hl
  have hn := hi.need hl
  have em : mMore M l = cMore S l := by unfold mMore cMore; rw [RM.need h hi hl (.inr hs), RM.held h hl]
  have e1 : (cMore S l).toInt = (cNeed S l).toInt - iHs S l := by unfold cMore; rw [i_sub (by omega) (by omega), hh.1]
  have e2 : (-(cMore S l)).toInt = -(cMore S l).toInt := i_neg (by omega)
  have z0 : (0 : Int32).toInt = 0 := rfl
  unfold cAnew mAdj
  rw [em, RM.ff h (hi.fr hl)]
  by_cases q1 : cFF S (cFr S l) < cMore S l
  · have u1 := i_lt.mp q1
    rw [if_pos q1, if_pos (i_le.mpr (by omega)), if_neg (fun u => by rw [i_le] at u; omega), if_neg (fun u => by rw [i_le] at u; omega)]
    exact ⟨rfl, h, hi, .rf, fun u => by cases u⟩
  · rw [if_neg q1]
    rw [i_lt] at q1
    by_cases q2 : 0 < cMore S l
    · rw [if_pos q2]
      rw [i_lt] at q2
      rw [if_pos (i_le.mpr (by omega)), if_neg (fun u => by rw [i_le] at u; omega), if_pos (i_le.mpr (by omega))]
      obtain ⟨r1, r2, r3, r4⟩ := sim_hold (a := cMore S l) h hi hl (by omega) (by omega)
      exact ⟨rfl, r1, r2, r3, fun _ => by rw [r4]; omega⟩
    · rw [if_neg q2]
      rw [i_lt] at q2
      by_cases q3 : cMore S l = 0
      · rw [if_pos (i_le.mpr (by rw [q3]; exact Int.le_refl _)), if_pos (i_le.mpr (by rw [q3]; exact Int.le_refl _))]
        have e3 : -(cMore S l) = 0 := by rw [q3]; rfl
        rw [e3, cRel_0 h hi hl]
        rw [i_z] at q3
        exact ⟨rfl, h, hi, .rf, fun _ => by show iHs S l = _; omega⟩
      · have q4 : (cMore S l).toInt ≠ 0 := fun u => q3 (i_z.mpr u)
        rw [if_neg (fun u => by rw [i_le] at u; omega)]
        obtain ⟨r1, r2, r3, r4⟩ := sim_rel (a := -(cMore S l)) h hi hl (by omega) (by omega)
        exact ⟨rfl, r1, r2, r3, fun _ => by rw [r4]; omega⟩
-- a field of a load, or stock, changes
theorem InvA.u15 (h : InvA B T S) : InvA B T (z_uI S 15 i q v) := h
theorem InvA.u3 (h : InvA B T S) (hq : 9 ≤ q) : InvA B T (z_uI S 3 l q v) := by
  refine h.mk' rfl rfl rfl rfl (fun g hg => h.gu hg) (fun g hg => h.sm hg) (fun l hl => h.ho hl) (fun l' hl' => (h.ld hl').co rfl rfl fun f hf => ?_) (fun k hk => h.kd hk)
  rw [z_I_u, if_neg (by omega)]
theorem InvA.u3' (h : InvA B T S) (hd : iLd (z_uI S 3 l q v) l) : InvA B T (z_uI S 3 l q v) := by
  refine h.mk' rfl rfl rfl rfl (fun g hg => h.gu hg) (fun g hg => h.sm hg) (fun l hl => h.ho hl) (fun l' hl' => ?_) (fun k hk => h.kd hk)
  by_cases e : l' = l
  · rw [e]; exact hd
  · exact (h.ld hl').co rfl rfl fun f hf => by rw [z_I_u, if_neg (by omega)]
theorem sim_recv (h : RM S M) (hi : InvA B T S) (hl : l < cL S) (hs : z_I S 3 l 0 = 1) (hn : iHs S l = (cNeed S l).toInt) (hq : 0 ≤ v.toInt) (hq2 : v.toInt ≤ (cRest S l).toInt) :
    RM (cReceive S l v) (mComes M l (cFr S l) v) ∧ InvA B T (cReceive S l v) ∧ Fo l S (cReceive S l v) ∧ iHs (cReceive S l v) l = (cNeed (cReceive S l v) l).toInt ∧ (∀ f, f ≠ 8 → z_I (cReceive S l v) 3 l f = z_I S 3 l f) ∧ cRest (cReceive S l v) l = cRest S l - v := by
  have hr := hi.rest hl
  have hld := hi.ld hl
  have hto := hi.to hl
  have hkd := hi.k5 hl
  have hS6 := h.S6
  have hL := h.L40
  have eN : (cRc1 S l v) = z_uI (z_uI S 15 (z_I S 3 l 2).toNatClampNeg (z_I S 3 l 3).toNatClampNeg (z_I S 15 (z_I S 3 l 2).toNatClampNeg (z_I S 3 l 3).toNatClampNeg + v)) 3 l 8 (z_I S 3 l 8 + v) := rfl
  have eMo : mCom1 M l (mTo M l) (mKd M l) v = z_uI (z_uI M 22 0 (18 + 8 * (z_I S 3 l 2).toNatClampNeg + (z_I S 3 l 3).toNatClampNeg) (z_I S 15 (z_I S 3 l 2).toNatClampNeg (z_I S 3 l 3).toNatClampNeg + v)) 22 0 (211 + 17 * l + 8) (z_I S 3 l 8 + v) := by
    have e1 : mTo M l = (z_I S 3 l 2).toNatClampNeg := congrArg Int32.toNatClampNeg (RM.lto h hl)
    have e2 : mKd M l = (z_I S 3 l 3).toNatClampNeg := congrArg Int32.toNatClampNeg (RM.lkd h hl)
    unfold mCom1
    rw [e1, e2, RM.stk h hto hkd, RM.lg (q := 8) h hl (by omega) (by omega)]
  have hkd' : (z_I S 3 l 3).toNatClampNeg < 5 := hkd
  have r1 : RM (cRc1 S l v) (mCom1 M l (mTo M l) (mKd M l) v) := by
    rw [eMo]
    have h1 := RM.up (v := z_I S 15 (z_I S 3 l 2).toNatClampNeg (z_I S 3 l 3).toNatClampNeg + v) h (k := 15) (i := (z_I S 3 l 2).toNatClampNeg) (q := (z_I S 3 l 3).toNatClampNeg) (j := 18 + 8 * (z_I S 3 l 2).toNatClampNeg + (z_I S 3 l 3).toNatClampNeg) (by unfold rP; omega) (by omega) (by omega) (by omega) (by omega)
    exact RM.up h1 (k := 3) (i := l) (q := 8) (by unfold rP; omega) (by omega) (by omega) (by omega) (by omega)
  have e8 : z_I (cRc1 S l v) 3 l 8 = z_I S 3 l 8 + v := by rw [eN, z_I_u, if_pos ⟨rfl, rfl, rfl⟩]
  have ef : ∀ f, f ≠ 8 → z_I (cRc1 S l v) 3 l f = z_I S 3 l f := fun f hf => by rw [eN, z_I_u, if_neg (by omega), z_I_u, if_neg (by omega)]
  have b8 : (z_I S 3 l 8 + v).toInt = (z_I S 3 l 8).toInt + v.toInt := by
    unfold iLd at hld; exact i_add (by omega) (by omega)
  have r2 : InvA B T (cRc1 S l v) := by
    refine InvA.u3' (InvA.u15 hi) ?_
    rw [← eN]
    unfold iLd at hld ⊢
    rw [e8, b8, ef 0 (by omega), ef 1 (by omega), ef 2 (by omega), ef 3 (by omega), ef 4 (by omega), ef 5 (by omega), ef 6 (by omega), ef 7 (by omega)]
    refine ⟨hld.1, hld.2.1, hld.2.2.1, hld.2.2.2.1, hld.2.2.2.2.1, hld.2.2.2.2.2.1, hld.2.2.2.2.2.2.1, ?_, hld.2.2.2.2.2.2.2.2⟩
    have := hld.2.2.2.2.2.2.2.1
    omega
  have r3 : Fo l S (cRc1 S l v) := .tr .u15 .u3
  have hl1 : l < cL (cRc1 S l v) := by rw [r3.L]; exact hl
  have hs1 : z_I (cRc1 S l v) 3 l 0 = 1 := by rw [ef 0 (by omega)]; exact hs
  have hr1 := r2.rest hl1
  have e14 : iHs (cRc1 S l v) l = iHs S l := iHs_co fun g _ => rfl
  have hh := r2.held r1.G4 hl1
  have eR : cRest (cRc1 S l v) l = cRest S l - v := by
    rw [i_eq, hr1.1, e8, b8, ef 4 (by omega), i_sub (by omega) (by omega), hr.1]; omega
  have hn1 := r2.need hl1
  have hle : (cNeed (cRc1 S l v) l).toInt ≤ iHs (cRc1 S l v) l := by
    rw [e14, hn, hi.need1 hl hs, r2.need1 hl1 hs1, r3.gr, show cKd (cRc1 S l v) l = cKd S l by unfold cKd; rw [ef 3 (by omega)], show cLatest (cRc1 S l v) l = cLatest S l by unfold cLatest; rw [ef 7 (by omega), ef 5 (by omega)], ef 7 (by omega), eR]
    refine Int.mul_le_mul_of_nonneg_right ?_ (hi.gr hkd).1
    rw [i_sub (by omega) (by omega)]; omega
  have em : mMore (mCom1 M l (mTo M l) (mKd M l) v) l = cMore (cRc1 S l v) l := by unfold mMore cMore; rw [RM.need r1 r2 hl1 (.inr hs1), RM.held r1 hl1]
  have e1 : (cMore (cRc1 S l v) l).toInt = (cNeed (cRc1 S l v) l).toInt - iHs (cRc1 S l v) l := by unfold cMore; rw [i_sub (by omega) (by omega), hh.1]
  have e2 : cHeld (cRc1 S l v) l - cNeed (cRc1 S l v) l = -(cMore (cRc1 S l v) l) := by
    rw [i_eq, i_sub (by omega) (by omega), i_neg (by omega), e1, hh.1]; omega
  have efr : cFr (cRc1 S l v) l = cFr S l := by unfold cFr; rw [ef 1 (by omega)]
  unfold cReceive mComes
  rw [e2]
  have z0 : (0 : Int32).toInt = 0 := rfl
  unfold mAdj
  rw [em]
  by_cases q3 : cMore (cRc1 S l v) l = 0
  · rw [q3, if_pos (by decide), if_pos (by decide), show -(0 : Int32) = 0 from rfl, cRel_0 r1 r2 hl1]
    rw [i_z] at q3
    exact ⟨r1, r2, r3, by omega, ef, eR⟩
  · have q4 : (cMore (cRc1 S l v) l).toInt ≠ 0 := fun u => q3 (i_z.mpr u)
    rw [if_neg (fun u => by rw [i_le] at u; omega)]
    have e5 : (-(cMore (cRc1 S l v) l)).toInt = -(cMore (cRc1 S l v) l).toInt := i_neg (by omega)
    obtain ⟨s1, s2, s3, s4⟩ := sim_rel (a := -(cMore (cRc1 S l v) l)) r1 r2 hl1 (by omega) (by omega)
    rw [efr] at s1
    have s5 : ∀ f, z_I (cRel (cRc1 S l v) l (-(cMore (cRc1 S l v) l))) 3 l f = z_I (cRc1 S l v) 3 l f := fun f => s3 3 l f (by omega) (by omega)
    refine ⟨s1, s2, .tr r3 s3.o, by rw [s4, s3.need]; omega, fun f hf => by rw [s5]; exact ef f hf, ?_⟩
    rw [← eR]; unfold cRest; rw [s5, s5]
end Re11
