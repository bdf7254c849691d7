set_option maxHeartbeats 400000
/-! ===== CLASS AND MODEL: split ===== -/
section Re30
variable {d i k g s l l' t q n p T j : Nat} {v w a b c e f x y z : Int32} {S S' M M' N S0 : zS} {B c0 c1 : Int}
theorem cHandSt_u {j' q' : Nat} {p : Int32 × zS} : cHandSt l n s i (p.1, z_uI p.2 3 j' q' v) = ((cHandSt l n s i p).1, z_uI (cHandSt l n s i p).2 3 j' q' v) := by
  unfold cHandSt
  have e1 : cLn (z_uI p.2 3 j' q' v) s i = cLn p.2 s i := rfl
  dsimp only
  rw [e1]
  have e2 : ∀ g, z_I (z_uI p.2 3 j' q' v) 14 l g = z_I p.2 14 l g := fun _ => rfl
  rw [e2]
  have e3 : ∀ o g, z_uI (z_uI p.2 3 j' q' v) 14 l g o = z_uI (z_uI p.2 14 l g o) 3 j' q' v := fun o g => z_uI_cm (by decide)
  rw [e3]
  have e4 : ∀ (X : zS) g, z_I (z_uI X 3 j' q' v) 14 n g = z_I X 14 n g := fun _ _ => rfl
  rw [e4]
  have e5 : ∀ (X : zS) o g, z_uI (z_uI X 3 j' q' v) 14 n g o = z_uI (z_uI X 14 n g o) 3 j' q' v := fun X o g => z_uI_cm (by decide)
  rw [e5]
theorem cHandSt_uJ {k' j' q' : Nat} {o : Int64} {p : Int32 × zS} : cHandSt l n s i (p.1, z_uJ p.2 k' j' q' o) = ((cHandSt l n s i p).1, z_uJ (cHandSt l n s i p).2 k' j' q' o) := rfl
theorem HD_u {j' q' : Nat} {p : Int32 × zS} : HD l n s (p.1, z_uI p.2 3 j' q' v) = ((HD l n s p).1, z_uI (HD l n s p).2 3 j' q' v) := by
  unfold HD
  rw [cHandSt_u, cHandSt_u, cHandSt_u, cHandSt_u]
theorem HD_uJ {k' j' q' : Nat} {o : Int64} {p : Int32 × zS} : HD l n s (p.1, z_uJ p.2 k' j' q' o) = ((HD l n s p).1, z_uJ (HD l n s p).2 k' j' q' o) := by
  unfold HD
  rw [cHandSt_uJ, cHandSt_uJ, cHandSt_uJ, cHandSt_uJ]
theorem cHandSt_J {k' j' q' : Nat} {p : Int32 × zS} : z_J (cHandSt l n s i p).2 k' j' q' = z_J p.2 k' j' q' := rfl
theorem HD_J {k' j' q' : Nat} {p : Int32 × zS} : z_J (HD l n s p).2 k' j' q' = z_J p.2 k' j' q' := by
  unfold HD
  rw [cHandSt_J, cHandSt_J, cHandSt_J, cHandSt_J]
theorem cHandSt_3 {j' q' : Nat} {p : Int32 × zS} : z_I (cHandSt l n s i p).2 3 j' q' = z_I p.2 3 j' q' := rfl
theorem HD_3 {j' q' : Nat} {p : Int32 × zS} : z_I (HD l n s p).2 3 j' q' = z_I p.2 3 j' q' := by
  unfold HD
  rw [cHandSt_3, cHandSt_3, cHandSt_3, cHandSt_3]
-- the new load on the class's side
theorem cSp6_is (hln : l ≠ n) : cSp6 S l n v w a = z_uI (z_uI (z_uI (z_uI (z_uI (z_uI (cAsk S n (z_I S 3 l 1) a (z_I S 3 l 3) w) 3 n 0 1) 3 n 5 (z_I S 3 l 5)) 3 n 6 (z_I S 3 l 6)) 3 n 7 (z_I S 3 l 7)) 3 n 12 v) 0 0 5 (z_I S 0 0 5 + 1) := by
  have a1 : ∀ q, z_I (cSp1 S l n w a) 3 l q = z_I S 3 l q := fun q => by
    unfold cSp1; rw [z_I_u, if_neg (by omega)]; unfold cSp0; exact cAsk_o (by omega) (by omega)
  have e2 : cSp2 S l n w a = z_uI (cSp1 S l n w a) 3 n 5 (z_I S 3 l 5) := by unfold cSp2; rw [a1]
  have a2 : ∀ q, z_I (cSp2 S l n w a) 3 l q = z_I S 3 l q := fun q => by rw [e2, z_I_u, if_neg (by omega), a1]
  have e3 : cSp3 S l n w a = z_uI (cSp2 S l n w a) 3 n 6 (z_I S 3 l 6) := by unfold cSp3; rw [a2]
  have a3 : ∀ q, z_I (cSp3 S l n w a) 3 l q = z_I S 3 l q := fun q => by rw [e3, z_I_u, if_neg (by omega), a2]
  have e4 : cSp4 S l n w a = z_uI (cSp3 S l n w a) 3 n 7 (z_I S 3 l 7) := by unfold cSp4; rw [a3]
  have a5 : z_I (cSp5 S l n v w a) 0 0 5 = z_I S 0 0 5 := by
    unfold cSp5; rw [z_I_u, if_neg (by omega), e4, z_I_u, if_neg (by omega), e3, z_I_u, if_neg (by omega), e2, z_I_u, if_neg (by omega)]
    unfold cSp1; rw [z_I_u, if_neg (by omega)]; unfold cSp0; exact cAsk_o (by omega) (by omega)
  unfold cSp6
  rw [a5]
  unfold cSp5
  rw [e4, e3, e2]
theorem cSp6_o {f' : Nat} (hln : l ≠ n) (h1 : ¬ (k = 3 ∧ i = n)) (h2 : ¬ (k = 14 ∧ i = n)) (h3 : ¬ (k = 0 ∧ i = 0 ∧ f' = 5)) : z_I (cSp6 S l n v w a) k i f' = z_I S k i f' := by
  rw [cSp6_is hln, z_I_u, if_neg h3, z_I_u, if_neg (by omega), z_I_u, if_neg (by omega), z_I_u, if_neg (by omega), z_I_u, if_neg (by omega), z_I_u, if_neg (by omega), cAsk_o h1 h2]
theorem cSp6_f {f' : Nat} (hln : l ≠ n) (hf : f' < 13) : z_I (cSp6 S l n v w a) 3 n f' = (if f' = 12 then v else if f' = 7 then z_I S 3 l 7 else if f' = 6 then z_I S 3 l 6 else if f' = 5 then z_I S 3 l 5 else if f' = 0 then 1 else if f' = 1 then z_I S 3 l 1 else if f' = 2 then a else if f' = 3 then z_I S 3 l 3 else if f' = 4 then w else 0) := by
  rw [cSp6_is hln, z_I_u, if_neg (by omega), z_I_u, z_I_u, z_I_u, z_I_u, z_I_u, cAsk_f hf]
  by_cases u12 : f' = 12
  · rw [if_pos ⟨rfl, rfl, u12⟩, if_pos u12]
  rw [if_neg (by omega), if_neg u12]
  by_cases u7 : f' = 7
  · rw [if_pos ⟨rfl, rfl, u7⟩, if_pos u7]
  rw [if_neg (by omega), if_neg u7]
  by_cases u6 : f' = 6
  · rw [if_pos ⟨rfl, rfl, u6⟩, if_pos u6]
  rw [if_neg (by omega), if_neg u6]
  by_cases u5 : f' = 5
  · rw [if_pos ⟨rfl, rfl, u5⟩, if_pos u5]
  rw [if_neg (by omega), if_neg u5]
  by_cases u0 : f' = 0
  · rw [if_pos ⟨rfl, rfl, u0⟩, if_pos u0]
  rw [if_neg (by omega), if_neg u0, if_neg (show ¬ (f' = 7 ∨ f' = 12) by omega)]
theorem cSp6_h (hln : l ≠ n) (hg : g < 4) : z_I (cSp6 S l n v w a) 14 n g = 0 := by
  rw [cSp6_is hln, z_I_u, if_neg (by omega), z_I_u, if_neg (by omega), z_I_u, if_neg (by omega), z_I_u, if_neg (by omega), z_I_u, if_neg (by omega), z_I_u, if_neg (by omega), cAsk_h hg]
theorem cSp6_J {f' : Nat} (hln : l ≠ n) : z_J (cSp6 S l n v w a) k i f' = if k = 3 ∧ i = n ∧ f' = 14 then 0 else if k = 3 ∧ i = n ∧ f' = 13 then 0 else z_J S k i f' := by
  rw [cSp6_is hln]; exact cAsk_J
-- the new load on the model's side
theorem mSp4_B (hl : l < mN M) (hx : q < 17) : z_I (mSp4 M l v w a) 22 0 (211 + 17 * mN M + q) = (if q = 12 then v else if q = 3 then w else if q = 1 then a else if q < 8 then z_I M 22 0 (211 + 17 * l + q) else 0) := by
  show rR (mSp4 M l v w a) _ = _
  unfold mSp4 mSp3 mSp0
  rw [rR_u, if_neg (by omega), rR_u, rR_u, rR_u]
  by_cases u12 : q = 12
  · rw [if_pos (by omega), if_pos u12]
  rw [if_neg (by omega), if_neg u12]
  by_cases u3 : q = 3
  · rw [if_pos (by omega), if_pos u3]
  rw [if_neg (by omega), if_neg u3]
  by_cases u1 : q = 1
  · rw [if_pos (by omega), if_pos u1]
  rw [if_neg (by omega), if_neg u1]
  have := mCpy_i (l := l) (n := mN M) (x := q) (by omega) 17 0 (mRem (mTh M) 13) (by omega) (by omega) hx
  exact this.trans (by rw [mRT_r])
theorem mSp4_o (hj : ¬ (211 + 17 * mN M ≤ j ∧ j < 211 + 17 * mN M + 17)) (h3 : j ≠ 3) : z_I (mSp4 M l v w a) 22 0 j = z_I M 22 0 j := by
  show rR (mSp4 M l v w a) _ = _
  unfold mSp4 mSp3 mSp0
  rw [rR_u, if_neg h3, rR_u, if_neg (by omega), rR_u, if_neg (by omega), rR_u, if_neg (by omega)]
  exact (mCpy_o 17 0 (mRem (mTh M) 13) (by omega) (by omega)).trans mRT_r
theorem mCpy_J {l n k' i' f' : Nat} : ∀ (k i : Nat) (M : zS), z_J (mCpy l n k i M) k' i' f' = z_J M k' i' f'
  | 0, _, _ => rfl
  | k + 1, i, M => by
    show z_J (mCpy l n k (i + 1) (mCpS l n i M)) k' i' f' = _
    rw [mCpy_J k]; rfl
theorem mSp4_J : z_J (mSp4 M l v w a) 23 0 j = z_J M 23 0 j := by
  unfold mSp4 mSp3 mSp0
  rw [z_J_uI, z_J_uI, z_J_uI, z_J_uI, mCpy_J, mRT_J]
theorem mSp4_3 : z_I (mSp4 M l v w a) 22 0 3 = z_I M 22 0 3 + 1 := by
  show rR (mSp4 M l v w a) _ = _
  unfold mSp4
  rw [rR_u, if_pos rfl]
-- the class and the model with the new load, before anything is handed over
theorem sim_sp6 (h : Ok B T S M) (hL : cL S < 40) (hl : l < cL S) (hs : z_I S 3 l 0 = 1) (hw : 1 ≤ w.toInt ∧ w.toInt ≤ 9999) (ha : 0 ≤ a.toInt ∧ a.toInt < cS S) : RM (cSp6 S l (cL S) v w a) (z_uJ (z_uJ (mSp4 M l v w a) 23 0 (8 + 2 * cL S) 0) 23 0 (9 + 2 * cL S) 0) ∧ InvA B T (cSp6 S l (cL S) v w a) := by
  have hi := h.ia
  have hln : l ≠ cL S := by omega
  have eN : mN M = cL S := RM.mN h.r
  have hld := hi.ld hl
  have ho : ∀ k i f', ¬ (k = 3 ∧ i = cL S) → ¬ (k = 14 ∧ i = cL S) → ¬ (k = 0 ∧ i = 0 ∧ f' = 5) → z_I (cSp6 S l (cL S) v w a) k i f' = z_I S k i f' := fun k i f' h1 h2 h3 => cSp6_o hln h1 h2 h3
  have c1 : z_I (cSp6 S l (cL S) v w a) 0 0 5 = z_I S 0 0 5 + 1 := by rw [cSp6_is hln, z_I_u, if_pos ⟨rfl, rfl, rfl⟩]
  have mB : ∀ q, q < 17 → z_I (mSp4 M l v w a) 22 0 (211 + 17 * cL S + q) = (if q = 12 then v else if q = 3 then w else if q = 1 then a else if q < 8 then z_I M 22 0 (211 + 17 * l + q) else 0) := fun q hq => by
    rw [← eN]; exact mSp4_B (by rw [eN]; exact hl) hq
  have f0 : z_I (cSp6 S l (cL S) v w a) 3 (cL S) 0 = 1 := (cSp6_f hln (by omega)).trans rfl
  have f1 : z_I (cSp6 S l (cL S) v w a) 3 (cL S) 1 = z_I S 3 l 1 := (cSp6_f hln (by omega)).trans rfl
  have f2 : z_I (cSp6 S l (cL S) v w a) 3 (cL S) 2 = a := (cSp6_f hln (by omega)).trans rfl
  have f3 : z_I (cSp6 S l (cL S) v w a) 3 (cL S) 3 = z_I S 3 l 3 := (cSp6_f hln (by omega)).trans rfl
  have f4 : z_I (cSp6 S l (cL S) v w a) 3 (cL S) 4 = w := (cSp6_f hln (by omega)).trans rfl
  have f5 : z_I (cSp6 S l (cL S) v w a) 3 (cL S) 5 = z_I S 3 l 5 := (cSp6_f hln (by omega)).trans rfl
  have f6 : z_I (cSp6 S l (cL S) v w a) 3 (cL S) 6 = z_I S 3 l 6 := (cSp6_f hln (by omega)).trans rfl
  have f7 : z_I (cSp6 S l (cL S) v w a) 3 (cL S) 7 = z_I S 3 l 7 := (cSp6_f hln (by omega)).trans rfl
  have f8 : z_I (cSp6 S l (cL S) v w a) 3 (cL S) 8 = 0 := (cSp6_f hln (by omega)).trans rfl
  refine ⟨RM.addL h.r hL ho ?_ c1 ?_ ?_ ?_ ?_ ?_ ?_ ?_ ?_ ?_, hi.addL h.r.cn.2.2 hL ho c1 ?_ (fun g hg => cSp6_h hln hg) h.r.G4⟩
  · intro k i f' h1
    rw [cSp6_J hln, if_neg (by omega), if_neg (by omega)]
  · intro j h3 h4
    rw [z_I_uJ, z_I_uJ]; exact mSp4_o (by rw [eN]; exact h4) h3
  · intro j h4
    rw [z_J_u, if_neg (by omega), z_J_u, if_neg (by omega), mSp4_J]
  · rw [z_I_uJ, z_I_uJ, mSp4_3, RM.nL h.r]
  · rw [z_I_uJ, z_I_uJ, mB 6 (by omega), f0]
    exact (RM.sta h.r hl).trans hs
  · intro f' h1 h2
    rw [z_I_uJ, z_I_uJ, mB (f' - 1) (by omega)]
    have : f' = 1 ∨ f' = 2 ∨ f' = 3 ∨ f' = 4 ∨ f' = 5 ∨ f' = 6 := by omega
    rcases this with rfl | rfl | rfl | rfl | rfl | rfl
    · rw [f1]; exact RM.lf (q := 0) h.r hl (by omega)
    · rw [f2]; rfl
    · rw [f3]; exact RM.lf (q := 2) h.r hl (by omega)
    · rw [f4]; rfl
    · rw [f5]; exact RM.lf (q := 4) h.r hl (by omega)
    · rw [f6]; exact RM.lf (q := 5) h.r hl (by omega)
  · intro f' h1 h2
    rw [z_I_uJ, z_I_uJ, mB f' (by omega), cSp6_f hln (by omega)]
    have : f' = 8 ∨ f' = 9 ∨ f' = 10 ∨ f' = 11 ∨ f' = 12 := by omega
    rcases this with rfl | rfl | rfl | rfl | rfl <;> rfl
  · intro g hg
    rw [z_I_uJ, z_I_uJ, Nat.add_assoc, mB (13 + g) (by omega), if_neg (by omega), if_neg (by omega), if_neg (by omega), if_neg (by omega), cSp6_h hln hg]
  · intro f' hf'
    have : f' = 0 ∨ f' = 1 := by omega
    rw [cSp6_J hln]
    rcases this with rfl | rfl
    · rw [z_J_u, if_neg (by omega), z_J_u, if_pos ⟨rfl, rfl, rfl⟩, if_neg (by omega), if_pos ⟨rfl, rfl, rfl⟩]
    · rw [z_J_u, if_pos ⟨rfl, rfl, by omega⟩, if_pos ⟨rfl, rfl, rfl⟩]
  · unfold rBg
    rw [f0, f7]
    refine ⟨fun _ => ?_, fun u => by rcases u with u | u <;> exact absurd u (by decide)⟩
    show z_I (z_uJ (z_uJ (mSp4 M l v w a) 23 0 (8 + 2 * cL S) 0) 23 0 (9 + 2 * cL S) 0) 22 0 (211 + 17 * cL S + 7) = _
    rw [z_I_uJ, z_I_uJ, mB 7 (by omega)]
    exact RM.lbg h.r hl hs
  · unfold iLd at hld ⊢
    rw [f0, f1, f2, f3, f4, f5, f6, f7, f8, ho 0 0 0 (by omega) (by omega) (by omega), show cS (cSp6 S l (cL S) v w a) = cS S from congrArg Int32.toNatClampNeg (ho 0 0 4 (by omega) (by omega) (by omega))]
    have z0 : (0 : Int32).toInt = 0 := rfl
    exact ⟨hld.1, ha, hld.2.2.1, hw, hld.2.2.2.2.1, hld.2.2.2.2.2.1, by decide, ⟨by decide, by rw [z0]; omega⟩, fun _ => hld.2.2.2.2.2.2.2.2 hs⟩
end Re30
