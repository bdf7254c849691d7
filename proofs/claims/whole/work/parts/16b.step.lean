set_option maxHeartbeats 400000
/-! ===== A CALL OF BOTH: allows, terms, load, withdraw, use, shift, divert ===== -/
section St2
variable {d i k g s l t q n p j : Nat} {v w a b c e f x y : Int32} {m m1 : zM} {M M' S S' N X : zS}
theorem i01 (h0 : ¬ b = 0) (h1 : ¬ b = 1) : b < 0 ∨ 1 < b := by
  have z0 : (0 : Int32).toInt = 0 := rfl
  have z1 : (1 : Int32).toInt = 1 := rfl
  rw [i_eq] at h0 h1
  rw [i_lt, i_lt]
  omega
theorem idx_i (h : 0 ≤ v ∧ v < x) : 0 ≤ v.toInt ∧ v.toInt < (x.toNatClampNeg : Int) := by
  have z0 : (0 : Int32).toInt = 0 := rfl
  have v0 := i_le.mp h.1
  have v1 := i_lt.mp h.2
  have n2 := (nI_is (v := x) (by omega)).2
  omega
-- 8 allows
theorem st_82 (h : Iv m M) (hM : z_g m 1 = M) : Both 82 161 [zi a, zi b, zi c] m := by
  have hok := h.ok
  by_cases b0 : b = 0
  · subst b0
    have sim : (0 ≤ a ∧ a < 5) → ¬ (c < 0 ∨ 99 < c) → OK (z_uI (z_g m 2) 2 a.toNatClampNeg 3 c) (z_uI (mRem (mTh M) 6) 22 0 (66 + 29 * a.toNatClampNeg + 1 + 0) c) := fun q1 q2 => sim_alw hok.rt (idx_5 q1) (rng q2)
    have hc := fun Q => zs_82 (d := 3) (m := m) (a := a) (b := 0) (c := c) (Q := Q) h.cmok fun q1 _ q2 => by rw [if_pos rfl]; exact (sim q1 (by rw [if_pos rfl] at q2; exact q2)).tok
    have hm := fun (m1 : zM) (e : z_g m1 1 = M) (Q : zQ) => zs_161a (d := 1) (m := m1) (a := a) (c := c) (Q := Q) (by rw [e]; exact h.mok) (by rw [e]; exact fun q => mBok_up (j := 66 + 29 * a.toNatClampNeg + 1 + 0) (by have := idx_5 q; unfold mSkj; omega) (mBok_rt hok.mbok))
    by_cases c0 : (0 ≤ a ∧ a < 5) ∧ ¬ (c < 0 ∨ 99 < c)
    · have c0' : (0 ≤ a ∧ a < 5) ∧ ¬ ((0 : Int32) < 0 ∨ (1 : Int32) < 0) ∧ ¬ (c < 0 ∨ (if (0 : Int32) = 0 then (99 : Int32) else 999) < c) := ⟨c0.1, by decide, by rw [if_pos rfl]; exact c0.2⟩
      exact b_act h hM _ .u22 (sim c0.1 c0.2) (fun Q => (hc Q).trans (by rw [if_pos c0', if_pos rfl])) fun m1 e Q => (hm m1 e Q).trans (by rw [e, if_pos c0, show z_I M 22 0 (66 + 29 * a.toNatClampNeg + 1 + 0) = _ from RM.alw hok.r (idx_5 c0.1)]; rfl)
    · have c0' : ¬ ((0 ≤ a ∧ a < 5) ∧ ¬ ((0 : Int32) < 0 ∨ (1 : Int32) < 0) ∧ ¬ (c < 0 ∨ (if (0 : Int32) = 0 then (99 : Int32) else 999) < c)) := fun u => c0 ⟨u.1, by have := u.2.2; rw [if_pos rfl] at this; exact this⟩
      exact b_ref h hM r1 (fun Q => (hc Q).trans (by rw [if_neg c0'])) fun m1 e Q => (hm m1 e Q).trans (by rw [e, if_neg c0])
  · by_cases b1 : b = 1
    · subst b1
      have sim : (0 ≤ a ∧ a < 5) → ¬ (c < 0 ∨ 999 < c) → OK (z_uI (z_g m 2) 2 a.toNatClampNeg 4 c) (z_uI (mRem (mTh M) 6) 22 0 (66 + 29 * a.toNatClampNeg + 1 + 1) c) := fun q1 q2 => sim_cap hok.rt (idx_5 q1) (rng q2)
      have hc := fun Q => zs_82 (d := 3) (m := m) (a := a) (b := 1) (c := c) (Q := Q) h.cmok fun q1 _ q2 => by rw [if_neg b0]; exact (sim q1 (by rw [if_neg b0] at q2; exact q2)).tok
      have hm := fun (m1 : zM) (e : z_g m1 1 = M) (Q : zQ) => zs_161b (d := 1) (m := m1) (a := a) (c := c) (Q := Q) (by rw [e]; exact h.mok) (by rw [e]; exact fun q => mBok_up (j := 66 + 29 * a.toNatClampNeg + 1 + 1) (by have := idx_5 q; unfold mSkj; omega) (mBok_rt hok.mbok))
      by_cases c0 : (0 ≤ a ∧ a < 5) ∧ ¬ (c < 0 ∨ 999 < c)
      · have c0' : (0 ≤ a ∧ a < 5) ∧ ¬ ((1 : Int32) < 0 ∨ (1 : Int32) < 1) ∧ ¬ (c < 0 ∨ (if (1 : Int32) = 0 then (99 : Int32) else 999) < c) := ⟨c0.1, by decide, by rw [if_neg b0]; exact c0.2⟩
        exact b_act h hM _ .u22 (sim c0.1 c0.2) (fun Q => (hc Q).trans (by rw [if_pos c0', if_neg b0])) fun m1 e Q => (hm m1 e Q).trans (by rw [e, if_pos c0, show z_I M 22 0 (66 + 29 * a.toNatClampNeg + 1 + 1) = _ from RM.cap hok.r (idx_5 c0.1)]; rfl)
      · have c0' : ¬ ((0 ≤ a ∧ a < 5) ∧ ¬ ((1 : Int32) < 0 ∨ (1 : Int32) < 1) ∧ ¬ (c < 0 ∨ (if (1 : Int32) = 0 then (99 : Int32) else 999) < c)) := fun u => c0 ⟨u.1, by have := u.2.2; rw [if_neg b0] at this; exact this⟩
        exact b_ref h hM r1 (fun Q => (hc Q).trans (by rw [if_neg c0'])) fun m1 e Q => (hm m1 e Q).trans (by rw [e, if_neg c0])
    · have hx := i01 b0 b1
      have hc := fun Q => zs_82 (d := 3) (m := m) (a := a) (b := b) (c := c) (Q := Q) h.cmok fun _ q2 _ => absurd hx q2
      have hm := fun (m1 : zM) (e : z_g m1 1 = M) (Q : zQ) => zs_161c (d := 1) (m := m1) (a := a) (b := b) (c := c) (Q := Q) hx
      exact b_ref h hM r1 (fun Q => (hc Q).trans (by rw [if_neg fun u => u.2.1 hx])) fun m1 e Q => (hm m1 e Q).trans (by rw [e])
-- 10 terms
theorem st_85 (h : Iv m M) (hM : z_g m 1 = M) : Both 85 171 [zi a, zi b] m := by
  have hok := h.ok
  by_cases b0 : a = 0
  · subst b0
    have sim : ¬ (b < 0 ∨ 60 < b) → OK (z_uI (z_g m 2) 0 0 1 b) (z_uI (mRem (mTh M) 8) 22 0 (4 + 0) b) := fun q2 => sim_grace hok.rt (rng q2)
    have hc := fun Q => zs_85 (d := 3) (m := m) (a := 0) (b := b) (Q := Q) h.cmok fun _ q2 => by rw [if_pos rfl]; exact (sim (by rw [if_pos rfl] at q2; exact q2)).tok
    have hm := fun (m1 : zM) (e : z_g m1 1 = M) (Q : zQ) => zs_171a (d := 1) (m := m1) (c := b) (Q := Q) (by rw [e]; exact h.mok) (by rw [e]; exact mBok_up (j := 4 + 0) (by unfold mSkj; omega) (mBok_rt hok.mbok))
    by_cases c0 : ¬ (b < 0 ∨ 60 < b)
    · have c0' : ¬ ((0 : Int32) < 0 ∨ (1 : Int32) < 0) ∧ ¬ (b < 0 ∨ (if (0 : Int32) = 0 then (60 : Int32) else 1) < b) := ⟨by decide, by rw [if_pos rfl]; exact c0⟩
      exact b_act h hM _ .u22 (sim c0) (fun Q => (hc Q).trans (by rw [if_pos c0', if_pos rfl])) fun m1 e Q => (hm m1 e Q).trans (by rw [e, if_pos c0, show z_I M 22 0 (4 + 0) = _ from RM.grace hok.r]; rfl)
    · have c0' : ¬ (¬ ((0 : Int32) < 0 ∨ (1 : Int32) < 0) ∧ ¬ (b < 0 ∨ (if (0 : Int32) = 0 then (60 : Int32) else 1) < b)) := fun u => c0 (by have := u.2; rw [if_pos rfl] at this; exact this)
      exact b_ref h hM r1 (fun Q => (hc Q).trans (by rw [if_neg c0'])) fun m1 e Q => (hm m1 e Q).trans (by rw [e, if_neg c0])
  · by_cases b1 : a = 1
    · subst b1
      have sim : ¬ (b < 0 ∨ 1 < b) → OK (z_uI (z_g m 2) 0 0 2 b) (z_uI (mRem (mTh M) 8) 22 0 (4 + 1) b) := fun q2 => sim_strict hok.rt
      have hc := fun Q => zs_85 (d := 3) (m := m) (a := 1) (b := b) (Q := Q) h.cmok fun _ q2 => by rw [if_neg b0]; exact (sim (by rw [if_neg b0] at q2; exact q2)).tok
      have hm := fun (m1 : zM) (e : z_g m1 1 = M) (Q : zQ) => zs_171b (d := 1) (m := m1) (c := b) (Q := Q) (by rw [e]; exact h.mok) (by rw [e]; exact mBok_up (j := 4 + 1) (by unfold mSkj; omega) (mBok_rt hok.mbok))
      by_cases c0 : ¬ (b < 0 ∨ 1 < b)
      · have c0' : ¬ ((1 : Int32) < 0 ∨ (1 : Int32) < 1) ∧ ¬ (b < 0 ∨ (if (1 : Int32) = 0 then (60 : Int32) else 1) < b) := ⟨by decide, by rw [if_neg b0]; exact c0⟩
        exact b_act h hM _ .u22 (sim c0) (fun Q => (hc Q).trans (by rw [if_pos c0', if_neg b0])) fun m1 e Q => (hm m1 e Q).trans (by rw [e, if_pos c0, show z_I M 22 0 (4 + 1) = _ from RM.strict hok.r]; rfl)
      · have c0' : ¬ (¬ ((1 : Int32) < 0 ∨ (1 : Int32) < 1) ∧ ¬ (b < 0 ∨ (if (1 : Int32) = 0 then (60 : Int32) else 1) < b)) := fun u => c0 (by have := u.2; rw [if_neg b0] at this; exact this)
        exact b_ref h hM r1 (fun Q => (hc Q).trans (by rw [if_neg c0'])) fun m1 e Q => (hm m1 e Q).trans (by rw [e, if_neg c0])
    · have hx := i01 b0 b1
      have hc := fun Q => zs_85 (d := 3) (m := m) (a := a) (b := b) (Q := Q) h.cmok fun q2 _ => absurd hx q2
      have hm := fun (m1 : zM) (e : z_g m1 1 = M) (Q : zQ) => zs_171c (d := 1) (m := m1) (b := a) (c := b) (Q := Q) hx
      exact b_ref h hM r1 (fun Q => (hc Q).trans (by rw [if_neg fun u => u.1 hx])) fun m1 e Q => (hm m1 e Q).trans (by rw [e])
-- 11 load
theorem mFrm_zer {a : Nat} : ∀ (n i : Nat) (M : zS), mFrm M (mZer a n i M)
  | 0, _, _ => .rf
  | n + 1, i, M => .tr .u22 (mFrm_zer (a := a) n (i + 1) (z_uI M 22 0 (a + i) 0))
theorem mFrm_lod : mFrm (mRem (mTh M) 9) (mLod M a b c e f v) := by
  unfold mLod
  exact .tr (.tr (.tr (.tr (.tr (.tr (.tr (.tr (.tr (.tr (.tr (mFrm_zer 17 0 _) .uJ) .uJ) .u22) .u22) .u22) .u22) .u22) .u22) .u22) .u22) .u22
theorem bok_lod (h : OK S M) (hL : cL S < 40) (ha : 0 ≤ a ∧ a < z_I S 0 0 4) (hc : 0 ≤ c ∧ c < 5) : mBok (mLod M a b c e f v) := by
  have eN : mN M = cL S := RM.mN h.r
  have hs : a.toNatClampNeg < cS S := idx_lt ha
  have s6 := h.r.S6
  have hk := idx_5 hc
  have e0 := z_nn_eq ha.1
  have ec := z_nn_eq hc.1
  have B := fun q (hq : q < 17) => mLod_B (M := M) (a := a) (b := b) (c := c) (e := e) (f := f) (v := v) hq (by omega) hk
  have O : ∀ j, mSkj j → j < 891 → j ≠ 3 → ¬ (211 + 17 * mN M ≤ j ∧ j < 211 + 17 * mN M + 17) → z_I (mLod M a b c e f v) 22 0 j = z_I M 22 0 j := fun j h1 h2 h3 h4 => by
    rw [mLod_o h4 h3, if_neg (by unfold mSkj at h1; omega)]; exact mRT_r
  refine mBok_add h.mbok (by omega) ?_ O ⟨a.toNatClampNeg, by omega, ?_, ?_, ?_⟩
  · have e3 : z_I M 22 0 3 = nI (mN M) := h.mbok.1.eq
    unfold mLod
    rw [z_I_u, if_pos ⟨rfl, rfl, rfl⟩, e3, nI_1]
  · rw [show 211 + 17 * mN M = 211 + 17 * mN M + 0 from rfl, B 0 (by omega)]; exact e0
  · have o := RM.ook h.r hs
    unfold mOok at o ⊢
    have e1 : ∀ q, q < 3 → mO (mLod M a b c e f v) a.toNatClampNeg q = mO M a.toNatClampNeg q := fun q hq => O _ (by unfold mSkj; omega) (by omega) (by omega) (by omega)
    rw [e1 0 (by omega), e1 1 (by omega), e1 2 (by omega)]; exact o
  · unfold mKok
    have e2 : z_I (mLod M a b c e f v) 22 0 (211 + 17 * mN M + 2) = c := B 2 (by omega)
    rw [show mKd (mLod M a b c e f v) (mN M) = c.toNatClampNeg from congrArg Int32.toNatClampNeg e2, e2, O _ (by unfold mSkj; omega) (by omega) (by omega) (by omega)]
    exact ⟨⟨hc.1, by omega⟩, nn_le (RM.told h.r h.ia hk) (by omega)⟩
theorem st_86 (h : Iv m M) (hM : z_g m 1 = M) : Both 86 172 [zi a, zi b, zi c, zi e, zi f, zi v] m := by
  have hok := h.ok
  have eS := RM.nS hok.r
  have eL := RM.nL hok.r
  have nL := hok.cn.2.2
  have c40 : z_I (z_g m 2) 0 0 5 < 40 ↔ ¬ z_I M 22 0 3 = 40 := by rw [eL]; exact lt_ne (t := 40) nL (by decide)
  have lL : z_I (z_g m 2) 0 0 5 < 40 → cL (z_g m 2) < 40 := fun q => idx_lt ⟨nL.1, q⟩
  have sim : ((0 ≤ c ∧ c < 5) ∧ ¬ (e < 1 ∨ 9999 < e) ∧ ¬ (f < 1 ∨ 90 < f) ∧ ¬ (v < 0 ∨ 9 < v)) → ((0 ≤ a ∧ a < z_I (z_g m 2) 0 0 4) ∧ (0 ≤ b ∧ b < z_I (z_g m 2) 0 0 4)) → z_I (z_g m 2) 0 0 5 < 40 → OK (aLoad (z_g m 2) a b c e f v) (mLod M a b c e f v) := fun q1 q2 q3 => by
    have rf := rng q1.2.2.1
    have z90 : (90 : Int32).toInt = 90 := rfl
    have z1 : (1 : Int32).toInt = 1 := rfl
    exact sim_load hok (lL q3) (idx_i q2.1) (idx_i q2.2) (idx_i q1.1) (rng q1.2.1) (by omega) (rng q1.2.2.2)
  have hc := fun Q => zs_86 (d := 3) (m := m) (a := a) (b := b) (c := c) (e := e) (f := f) (v := v) (Q := Q) h.cmok fun q1 q2 _ q3 => (sim q1 q2 q3).tok
  have hm := fun (m1 : zM) (e' : z_g m1 1 = M) (Q : zQ) => zs_172 (d := 2) (m := m1) (a := a) (b := b) (c := c) (e := e) (f := f) (v := v) (Q := Q) (by rw [e']; exact h.mok) (by rw [e', eS]; exact fun q1 q2 _ q3 => bok_lod hok (lL (c40.mpr q3)) q2 q1)
  by_cases c0 : (0 ≤ c ∧ c < 5) ∧ ¬ (e < 1 ∨ 9999 < e) ∧ ¬ (f < 1 ∨ 90 < f) ∧ ¬ (v < 0 ∨ 9 < v)
  · by_cases c1 : (0 ≤ a ∧ a < z_I (z_g m 2) 0 0 4) ∧ (0 ≤ b ∧ b < z_I (z_g m 2) 0 0 4)
    · have es : z_I M 22 0 (18 + 8 * a.toNatClampNeg + c.toNatClampNeg) = z_I (z_g m 2) 15 a.toNatClampNeg c.toNatClampNeg := RM.stk hok.r (idx_lt c1.1) (idx_5 c0.1)
      by_cases c2 : ¬ (a = b) ∧ (e ≤ z_I (z_g m 2) 15 a.toNatClampNeg c.toNatClampNeg)
      · by_cases c3 : z_I (z_g m 2) 0 0 5 < 40
        · exact b_act h hM (mLod M a b c e f v) mFrm_lod (sim c0 c1 c3) (fun Q => (hc Q).trans (by rw [if_pos c0, if_pos c1, if_pos c2, if_pos c3])) fun m1 e' Q => (hm m1 e' Q).trans (by rw [e', if_pos c0, eS, if_pos c1, es, if_pos c2, if_pos (c40.mp c3), eL])
        · exact b_ref h hM r5 (fun Q => (hc Q).trans (by rw [if_pos c0, if_pos c1, if_pos c2, if_neg c3])) fun m1 e' Q => (hm m1 e' Q).trans (by rw [e', if_pos c0, eS, if_pos c1, es, if_pos c2, if_neg (fun u => c3 (c40.mpr u))])
      · exact b_ref h hM r4 (fun Q => (hc Q).trans (by rw [if_pos c0, if_pos c1, if_neg c2])) fun m1 e' Q => (hm m1 e' Q).trans (by rw [e', if_pos c0, eS, if_pos c1, es, if_neg c2])
    · exact b_ref h hM r2 (fun Q => (hc Q).trans (by rw [if_pos c0, if_neg c1])) fun m1 e' Q => (hm m1 e' Q).trans (by rw [e', if_pos c0, eS, if_neg c1])
  · exact b_ref h hM r1 (fun Q => (hc Q).trans (by rw [if_neg c0])) fun m1 e' Q => (hm m1 e' Q).trans (by rw [e', if_neg c0])
end St2
