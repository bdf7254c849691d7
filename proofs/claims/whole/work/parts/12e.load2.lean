set_option maxHeartbeats 200000
/-! ===== CLASS AND MODEL: load ===== -/
section Re25
variable {d i k g s l l' t q n p T j : Nat} {v w a b c e f x y z : Int32} {S S' M M' N : zS} {B : Int}
theorem aLoad_I {f' : Nat} : z_I (aLoad S a b c e f v) k i f' = if k = 0 ∧ i = 0 ∧ f' = 5 then z_I S 0 0 5 + 1 else if k = 3 ∧ i = cL S ∧ f' = 6 then v else if k = 3 ∧ i = cL S ∧ f' = 5 then f else z_I (cAsk (aLoad0 S a c e) (cL S) a b c e) k i f' := rfl
theorem aLoad_J {f' : Nat} : z_J (aLoad S a b c e f v) k i f' = z_J (cAsk (aLoad0 S a c e) (cL S) a b c e) k i f' := rfl
theorem aLoad_f {f' : Nat} (hf : f' < 13) : z_I (aLoad S a b c e f v) 3 (cL S) f' = (if f' = 6 then v else if f' = 5 then f else if f' = 1 then a else if f' = 2 then b else if f' = 3 then c else if f' = 4 then e else if f' = 7 ∨ f' = 12 then -1 else 0) := by
  rw [aLoad_I, if_neg (by omega), cAsk_f hf]
  by_cases u6 : f' = 6
  · rw [if_pos ⟨rfl, rfl, u6⟩, if_pos u6]
  · rw [if_neg (by omega), if_neg u6]
    by_cases u5 : f' = 5
    · rw [if_pos ⟨rfl, rfl, u5⟩, if_pos u5]
    · rw [if_neg (by omega), if_neg u5]
theorem mLod_B (hx : q < 17) (ha : a.toNatClampNeg < 6) (hc : c.toNatClampNeg < 5) : z_I (mLod M a b c e f v) 22 0 (211 + 17 * mN M + q) = (if q = 12 then -1 else if q = 5 then v else if q = 4 then f else if q = 3 then e else if q = 2 then c else if q = 1 then b else if q = 0 then a else 0) := by
  show rR (mLod M a b c e f v) _ = _
  unfold mLod mLd3 mLd2 mLd1
  rw [rR_u, if_neg (by omega), rR_u, if_neg (by omega), rR_u, rR_u, rR_u, rR_u, rR_u, rR_u, rR_u]
  by_cases u12 : q = 12
  · rw [if_pos (by omega), if_pos u12]
  rw [if_neg (by omega), if_neg u12]
  by_cases u5 : q = 5
  · rw [if_pos (by omega), if_pos u5]
  rw [if_neg (by omega), if_neg u5]
  by_cases u4 : q = 4
  · rw [if_pos (by omega), if_pos u4]
  rw [if_neg (by omega), if_neg u4]
  by_cases u3 : q = 3
  · rw [if_pos (by omega), if_pos u3]
  rw [if_neg (by omega), if_neg u3]
  by_cases u2 : q = 2
  · rw [if_pos (by omega), if_pos u2]
  rw [if_neg (by omega), if_neg u2]
  by_cases u1 : q = 1
  · rw [if_pos (by omega), if_pos u1]
  rw [if_neg (by omega), if_neg u1]
  by_cases u0 : q = 0
  · rw [if_pos (by omega), if_pos u0]
  rw [if_neg (by omega), if_neg u0]
  exact mZer_in 17 0 _ q (by omega) (by omega)
theorem mLod_o (hj : ¬ (211 + 17 * mN M ≤ j ∧ j < 211 + 17 * mN M + 17)) (h3 : j ≠ 3) : z_I (mLod M a b c e f v) 22 0 j = if j = 18 + 8 * a.toNatClampNeg + c.toNatClampNeg then z_I M 22 0 (18 + 8 * a.toNatClampNeg + c.toNatClampNeg) - e else z_I (mRem (mTh M) 9) 22 0 j := by
  show rR (mLod M a b c e f v) _ = _
  unfold mLod mLd3 mLd2 mLd1
  rw [rR_u, if_neg h3, rR_u]
  by_cases u : j = 18 + 8 * a.toNatClampNeg + c.toNatClampNeg
  · rw [if_pos u, if_pos u]
  · rw [if_neg u, if_neg u, rR_u, if_neg (by omega), rR_u, if_neg (by omega), rR_u, if_neg (by omega), rR_u, if_neg (by omega), rR_u, if_neg (by omega), rR_u, if_neg (by omega), rR_u, if_neg (by omega)]
    exact mZer_o (M := M) 17 0 _ (fun x hx => by omega)
theorem mLod_J : z_J (mLod M a b c e f v) 23 0 j = if j = 9 + 2 * mN M then 0 else if j = 8 + 2 * mN M then 0 else z_J (mRem (mTh M) 9) 23 0 j := by
  unfold mLod mLd3 mLd2 mLd1
  rw [z_J_uI, z_J_uI, z_J_uI, z_J_uI, z_J_uI, z_J_uI, z_J_uI, z_J_uI, z_J_uI, z_J_u, z_J_u, mZer_J]
  by_cases u : j = 9 + 2 * mN M
  · rw [if_pos ⟨rfl, rfl, u⟩, if_pos u]
  · rw [if_neg (by omega), if_neg u]
    by_cases u : j = 8 + 2 * mN M
    · rw [if_pos ⟨rfl, rfl, u⟩, if_pos u]
    · rw [if_neg (by omega), if_neg u]
theorem sim_load (h : Ok B T S M) (hL : cL S < 40) (ha : 0 ≤ a.toInt ∧ a.toInt < cS S) (hb : 0 ≤ b.toInt ∧ b.toInt < cS S) (hc : 0 ≤ c.toInt ∧ c.toInt < 5) (he : 1 ≤ e.toInt ∧ e.toInt ≤ 9999) (hf : 1 ≤ f.toInt ∧ f.toInt ≤ 180) (hv : 0 ≤ v.toInt ∧ v.toInt ≤ 9) : Ok B T (aLoad S a b c e f v) (mLod M a b c e f v) := by
  have hN := h.rt (v := 9)
  have h6 := h.r.S6
  have hi := h.ia
  have an : (a.toNatClampNeg : Int) = a.toInt := by rw [i_nat, if_pos ha.1]
  have cn : (c.toNatClampNeg : Int) = c.toInt := by rw [i_nat, if_pos hc.1]
  have as : a.toNatClampNeg < cS S := by omega
  have c5 : c.toNatClampNeg < 5 := by omega
  have eN : mN M = cL S := RM.mN h.r
  have r0 := RM.uS (v := z_I S 15 a.toNatClampNeg c.toNatClampNeg - e) hN.r as c5
  have e0 : aLoad0 S a c e = z_uI S 15 a.toNatClampNeg c.toNatClampNeg (z_I S 15 a.toNatClampNeg c.toNatClampNeg - e) := rfl
  rw [← e0] at r0
  have i0 : InvA B T (aLoad0 S a c e) := hi.u15
  have l0 : cL (aLoad0 S a c e) = cL S := rfl
  have n0 : InvN (aLoad0 S a c e) := h.nd.co rfl (fun _ _ _ _ => rfl) (fun _ _ _ _ => rfl) (fun k' x y => cGr_co rfl (fun _ => rfl) (fun _ => rfl))
  have ho : ∀ k i f', ¬ (k = 3 ∧ i = cL S) → ¬ (k = 14 ∧ i = cL S) → ¬ (k = 0 ∧ i = 0 ∧ f' = 5) → z_I (aLoad S a b c e f v) k i f' = z_I (aLoad0 S a c e) k i f' := fun k i f' h1 h2 h3 => by
    rw [aLoad_I, if_neg h3, if_neg (by omega), if_neg (by omega), cAsk_o h1 h2]
  have hh : ∀ g, g < 4 → z_I (aLoad S a b c e f v) 14 (cL S) g = 0 := fun g hg => by
    rw [aLoad_I, if_neg (by omega), if_neg (by omega), if_neg (by omega), cAsk_h hg]
  have c1 : z_I (aLoad S a b c e f v) 0 0 5 = z_I S 0 0 5 + 1 := rfl
  have eL : cL (aLoad S a b c e f v) = cL S + 1 := by
    show (z_I (aLoad S a b c e f v) 0 0 5).toNatClampNeg = _; rw [c1]; exact (z_nn1 (a := z_I S 0 0 5) h.r.cn.2.2 (by omega)).1
  have s0 : z_I (aLoad S a b c e f v) 3 (cL S) 0 = 0 := (aLoad_f (by omega)).trans rfl
  have s7 : z_I (aLoad S a b c e f v) 3 (cL S) 7 = -1 := (aLoad_f (by omega)).trans rfl
  have s8 : z_I (aLoad S a b c e f v) 3 (cL S) 8 = 0 := (aLoad_f (by omega)).trans rfl
  have s1 : z_I (aLoad S a b c e f v) 3 (cL S) 1 = a := (aLoad_f (by omega)).trans rfl
  have s2 : z_I (aLoad S a b c e f v) 3 (cL S) 2 = b := (aLoad_f (by omega)).trans rfl
  have s3 : z_I (aLoad S a b c e f v) 3 (cL S) 3 = c := (aLoad_f (by omega)).trans rfl
  have s4 : z_I (aLoad S a b c e f v) 3 (cL S) 4 = e := (aLoad_f (by omega)).trans rfl
  have s5 : z_I (aLoad S a b c e f v) 3 (cL S) 5 = f := (aLoad_f (by omega)).trans rfl
  have s6 : z_I (aLoad S a b c e f v) 3 (cL S) 6 = v := (aLoad_f (by omega)).trans rfl
  have mB : ∀ q, q < 17 → z_I (mLod M a b c e f v) 22 0 (211 + 17 * cL S + q) = (if q = 12 then -1 else if q = 5 then v else if q = 4 then f else if q = 3 then e else if q = 2 then c else if q = 1 then b else if q = 0 then a else 0) := fun q hq => by
    rw [← eN]; exact mLod_B hq (by omega) c5
  refine ⟨RM.addL r0 hL ho ?_ c1 ?_ ?_ ?_ ?_ ?_ ?_ ?_ ?_ ?_, i0.addL h.r.cn.2.2 hL ho c1 ?_ hh h.r.G4, ?_⟩
  · intro k i f' h1
    rw [aLoad_J, cAsk_J, if_neg (by rw [l0] at h1; omega), if_neg (by rw [l0] at h1; omega)]
  · intro j h3 h4
    rw [l0] at h4
    rw [mLod_o (by rw [eN]; exact h4) h3, RM.stk h.r as c5, z_I_u]
    by_cases u : j = 18 + 8 * a.toNatClampNeg + c.toNatClampNeg
    · rw [if_pos u, if_pos ⟨rfl, rfl, u⟩]
    · rw [if_neg u, if_neg (by omega)]
  · intro j h4
    rw [l0] at h4
    rw [mLod_J, eN, if_neg (by omega), if_neg (by omega), z_J_uI]
  · show rR (mLod M a b c e f v) 3 = _
    unfold mLod; rw [rR_u, if_pos rfl, RM.nL h.r]; rfl
  · rw [l0, mB 6 (by omega), aLoad_f (by omega)]; rfl
  · intro f' h1 h2
    rw [l0, mB (f' - 1) (by omega), aLoad_f (by omega)]
    have : f' = 1 ∨ f' = 2 ∨ f' = 3 ∨ f' = 4 ∨ f' = 5 ∨ f' = 6 := by omega
    rcases this with rfl | rfl | rfl | rfl | rfl | rfl <;> rfl
  · intro f' h1 h2
    rw [l0, mB f' (by omega), aLoad_f (by omega)]
    have : f' = 8 ∨ f' = 9 ∨ f' = 10 ∨ f' = 11 ∨ f' = 12 := by omega
    rcases this with rfl | rfl | rfl | rfl | rfl <;> rfl
  · intro g hg
    rw [l0, Nat.add_assoc, mB (13 + g) (by omega), if_neg (by omega), if_neg (by omega), if_neg (by omega), if_neg (by omega), if_neg (by omega), if_neg (by omega), if_neg (by omega)]
    exact (hh g hg).symm
  · intro f' hf'
    rw [l0, mLod_J, eN, aLoad_J, cAsk_J]
    have : f' = 0 ∨ f' = 1 := by omega
    rcases this with rfl | rfl
    · rw [if_neg (by omega), if_pos (by omega), if_neg (by omega), if_pos ⟨rfl, rfl, rfl⟩]
    · rw [if_pos (by omega), if_pos ⟨rfl, rfl, rfl⟩]
  · unfold rBg
    rw [l0, s0, s7]
    exact ⟨fun u => by rcases u with u | u | u <;> exact absurd u (by decide), fun _ => rfl⟩
  · unfold iLd
    rw [l0, s0, s1, s2, s3, s4, s5, s6, s7, s8]
    exact ⟨ha, hb, hc, he, hf, hv, by decide, ⟨by decide, by show (0 : Int) ≤ e.toInt; omega⟩, fun u => absurd u (by decide)⟩
  · intro l hl
    rw [eL] at hl
    by_cases u : l = cL S
    · rw [u]
      refine ⟨fun w => ?_, fun _ g hg => hh g hg⟩
      rw [s0] at w
      exact absurd w (by decide)
    · exact (n0 l (show l < cL S by omega)).co (fun q _ => ho 3 l q (by omega) (by omega) (by omega)) (fun g _ => ho 14 l g (by omega) (by omega) (by omega)) (fun k x y => cGr_co (ho 2 k 2 (by omega) (by omega) (by omega)) (fun i => ho 12 k i (by omega) (by omega) (by omega)) (fun i => ho 13 k i (by omega) (by omega) (by omega)))
end Re25
