set_option maxHeartbeats 400000
/-! ===== A CALL OF BOTH: rate ===== -/
section St6
variable {d i k g s l t q n p j : Nat} {v w a b c e f x y : Int32} {m m1 : zM} {M M' S S' N X : zS} {Q : zQ}
theorem mFrm_raX : mFrm (mLay 30 31 0 (mTh M)) (mRaX M k x v).2 := by
  have h1 : mFrm (mLay 30 31 0 (mTh M)) (mRa1 M k x) := by
    unfold mRa1
    split
    · exact .u22
    · exact .rf
  unfold mRaX
  exact .tr (N := mRa3 M k x v) (.tr (.tr h1 .u22) .u22) .all
theorem bok_raX (h : mOk M) (hk : k < 5) : mBok (mRaX M k x v).2 := by
  have n12 := h.2.2.2.1 k hk
  have hN : mRaN M k ≤ 12 := n12.2
  have hJ : mRaJ M k x ≤ 12 := by
    unfold mRaJ
    cases e : mAt M k x with
    | none => exact hN
    | some j =>
      have := mAt_lt e
      show j ≤ 12
      omega
  have b3 : mBok (mRa3 M k x v) := by
    refine mBok_k (fun j h1 h2 h3 => mRa3_o hJ (.inl (by omega))) (fun k' hk' hn => ?_) h.nB
    by_cases u : k' = k
    · subst u
      rw [show z_I (mRa3 M k' x v) 22 0 (66 + 29 * k') = _ from mRa3_n]
      split
      · exact nn_nI (by omega) (by omega)
      · exact hn
    · rw [show z_I (mRa3 M k x v) 22 0 (66 + 29 * k') = z_I M 22 0 (66 + 29 * k') from mRa3_o hJ (.inl (by omega))]; exact hn
  unfold mRaX
  exact (mSk.all b3).bok b3
theorem st_83 (h : Iv m M) (hM : z_g m 1 = M) : Both 83 162 [zi a, zi b, zi c] m := by
  have hok := h.ok
  have eD := RM.day hok.r
  have hdy := hok.ia.dy
  have hP := h.pap0
  have z0 : (0 : Int32).toInt = 0 := rfl
  have hF : mFrm (mLay 30 31 0 (mTh M)) (mRaX M a.toNatClampNeg b c).2 := mFrm_raX
  have simP := fun (q1 : 0 ≤ a ∧ a < 5) (q2 : ¬ (b < 0 ∨ 9999 < b)) (q3 : ¬ (c < 0 ∨ 999 < c)) => sim_tell hP (idx_5 q1) (rng q2) (rng q3)
  have simS := fun (q1 : 0 ≤ a ∧ a < 5) (q2 : ¬ (b < 0 ∨ 9999 < b)) (q3 : ¬ (c < 0 ∨ 999 < c)) => sim_tell hok (idx_5 q1) (rng q2) (rng q3)
  have eO : (0 ≤ a ∧ a < 5) → ¬ (b < 0 ∨ 9999 < b) → ¬ (c < 0 ∨ 999 < c) → oTell m a b c = (mRaX M a.toNatClampNeg b c).1 := fun q1 q2 q3 => (simP q1 q2 q3).1
  have hc := fun Q => zs_83 (d := 3) (m := m) (a := a) (b := b) (c := c) (Q := Q) h.cmok hok.bok hP.bok hP.cn.2.2 fun q1 q2 q3 _ q5 => ((simS q1 q2 q3).2.2.1 (by rw [(simS q1 q2 q3).1, ← eO q1 q2 q3]; exact q5)).tok
  have hm := fun (m1 : zM) (e : z_g m1 1 = M) (Q : zQ) => zs_162 (d := 2) (m := m1) (a := a) (b := b) (c := c) (Q := Q) (by rw [e]; exact h.mok) (by
    rw [e]
    intro _
    rw [hF.1 6 0 8 (by decide) (by decide) (by omega), lay_nu]
    exact h.nu) (by
    rw [e]
    intro q _
    exact mBok_sr keepT_r (bok_raX h.mok (idx_5 q)))
  obtain ⟨t1, t2, t3, -⟩ := h.pap (cTellRate (z_g (mPaper m).2 (mPaper m).1) a.toNatClampNeg b c).2
  have t1 : Iv (mTell m a b c) M := t1
  have t2 : z_g (mTell m a b c) 1 = M := t2.trans hM
  by_cases c0 : (0 ≤ a ∧ a < 5) ∧ ¬ (b < 0 ∨ 9999 < b) ∧ ¬ (c < 0 ∨ 999 < c)
  · obtain ⟨q1, q2, q3⟩ := id c0
    have hk := idx_5 q1
    have rb := rng q2
    have ET : (z_I M 22 0 0 < b ∨ (¬ 0 < z_I M 22 0 0 ∧ b ≤ 0)) ↔ (z_I (z_g m 2) 0 0 0 < b ∨ z_I (z_g m 2) 0 0 0 = 0) := by
      rw [eD, i_lt, i_lt, i_le, i_eq]
      omega
    by_cases c1 : z_I (z_g m 2) 0 0 0 < b ∨ z_I (z_g m 2) 0 0 0 = 0
    · have e1 := eO q1 q2 q3
      obtain ⟨s1, s2, s3, s4, s5⟩ := simS q1 q2 q3
      by_cases c2 : oTell m a b c = true
      · have c2' : (mRaX M a.toNatClampNeg b c).1 = true := by rw [← e1]; exact c2
        have cS' := s1.trans c2'
        have eT : z_I M 22 0 (66 + 29 * a.toNatClampNeg) = z_I (z_g m 2) 2 a.toNatClampNeg 2 := (hok.r.rt hk).1
        have nT : z_nn (z_I (z_g m 2) 2 a.toNatClampNeg 2) 12 := (hok.ia.kd hk).1
        have l12 : z_I (z_g m 2) 2 a.toNatClampNeg 2 < 12 ↔ ¬ z_I (z_g m 2) 2 a.toNatClampNeg 2 = 12 := lt_ne (t := 12) nT (by decide)
        have tf := cToldFrom_is (S := z_g m 2) (k := a.toNatClampNeg) (x := b) (cTold (z_g m 2) a.toNatClampNeg) 0
        have E5 : (mAt M a.toNatClampNeg b = none ∧ z_I M 22 0 (66 + 29 * a.toNatClampNeg) = 12) ↔ ¬ (cToldFrom (z_g m 2) a.toNatClampNeg b (cTold (z_g m 2) a.toNatClampNeg) 0 = true ∨ z_I (z_g m 2) 2 a.toNatClampNeg 2 < 12) := by
          rw [eT, s5, tf, l12]
          constructor
          · rintro ⟨u1, u2⟩ (⟨j, -, u3, u4⟩ | u3)
            · exact u1 j (by omega) u4
            · exact u3 u2
          · intro u
            refine ⟨fun i hi e => u (.inl ⟨i, Nat.zero_le _, by omega, e⟩), Classical.byContradiction fun z => u (.inr z)⟩
        by_cases c3 : cToldFrom (z_g m 2) a.toNatClampNeg b (cTold (z_g m 2) a.toNatClampNeg) 0 = true ∨ z_I (z_g m 2) 2 a.toNatClampNeg 2 < 12
        · have n12 : z_nn (z_I (cTell (z_g m 2) a.toNatClampNeg b c) 2 a.toNatClampNeg 2) 12 := by
            rcases (cTell_is (x := b) (v := c) (hok.r.rt hk).2.1 nT).1 with ⟨-, u⟩ | ⟨u1, u⟩
            · rw [u]; exact nT
            · have lt : z_I (z_g m 2) 2 a.toNatClampNeg 2 < 12 := c3.resolve_left fun z => by
                obtain ⟨j, -, u3, u4⟩ := tf.mp z
                exact u1 j (by omega) u4
              have n11 : z_nn (z_I (z_g m 2) 2 a.toNatClampNeg 2) 11 := by
                have := idx_lt ⟨nT.1, lt⟩
                rw [show (12 : Int32).toNatClampNeg = 12 from rfl] at this
                exact ⟨nT.1, by omega⟩
              rw [u]; exact (z_nn1 n11 (by omega)).2.1
          have hO := (s4 cS' n12).sr (N := mRaF M a.toNatClampNeg b c) keepT_r
          exact both ((act_1 t1.cmok).trans t2) (t1.actU (kU.keepT h.nu hF) hO) (fun Q => (hc Q).trans (by rw [if_pos c0, if_pos c1, if_pos c2, if_pos c3])) fun m1 e Q => (hm m1 e Q).trans (by rw [e, if_pos c0, if_pos (ET.mpr c1), if_pos c2', if_neg (fun u => E5.mp u c3), (hok.r.rt hk).rate]; rfl)
        · exact both (ref_1.trans t2) ((t1.same (kS.back hF)).ref r5) (fun Q => (hc Q).trans (by rw [if_pos c0, if_pos c1, if_pos c2, if_neg c3])) fun m1 e Q => (hm m1 e Q).trans (by rw [e, if_pos c0, if_pos (ET.mpr c1), if_pos c2', if_pos (E5.mpr c3)])
      · have c2' : ¬ (mRaX M a.toNatClampNeg b c).1 = true := by rw [← e1]; exact c2
        exact both (ref_1.trans t2) ((t1.same (kS.back hF)).ref r4) (fun Q => (hc Q).trans (by rw [if_pos c0, if_pos c1, if_neg c2])) fun m1 e Q => (hm m1 e Q).trans (by rw [e, if_pos c0, if_pos (ET.mpr c1), if_neg c2'])
    · exact b_ref h hM r4 (fun Q => (hc Q).trans (by rw [if_pos c0, if_neg c1])) fun m1 e Q => (hm m1 e Q).trans (by rw [e, if_pos c0, if_neg (fun u => c1 (ET.mp u))])
  · exact b_ref h hM r1 (fun Q => (hc Q).trans (by rw [if_neg c0])) fun m1 e Q => (hm m1 e Q).trans (by rw [e, if_neg c0])
end St6
