set_option maxHeartbeats 400000
/-! ===== A CALL OF BOTH: guarantor, limit, pay, store, order, stock ===== -/
section St1
variable {d i k g s l t q n p j : Nat} {v w a b c e f x y : Int32} {m m1 : zM} {M M' S S' N X : zS}
theorem cSm.g1 (h : DY m) : cSm m (z_s m 1 X) := ⟨fun _ _ => rfl, fun j q _ hq => z_g_sn (by have := h.2.1 j q hq; omega)⟩
theorem Iv.s1 (h : Iv m M) : Iv (z_s m 1 X) M := by
  have g0 : z_g (z_s m 1 X) 0 = z_g m 0 := z_g_sn (by decide)
  have g2 : z_g (z_s m 1 X) 2 = z_g m 2 := z_g_sn (by decide)
  exact ⟨h.dy.co (fun _ => rfl) rfl, h.kb.co (cSm.g1 h.dy) (by rw [g0]; exact .rf) .rf, h.ib.c2 (cSm.g1 h.dy) .rf, by rw [g0]; exact h.sb, by rw [g2]; exact h.ok⟩
def Both (jc jm : Nat) (as : List zV) (m : zM) : Prop := ∃ v m1 m2, (∀ Q, z_call 9 jc (zr (some (5, 0, 0)) :: as) m Q = Q (some (zi v)) m1) ∧ (∀ Q, z_call 9 jm (zr (some (6, 1, 0)) :: as) m1 Q = Q (some (zi v)) m2) ∧ Iv m2 (z_g m2 1)
def BothL (jc jm : Nat) (as : List zV) (m : zM) : Prop := ∃ v m1 m2, (∀ Q, z_call 9 jc (zr (some (5, 0, 0)) :: as) m Q = Q (some (zl v)) m1) ∧ (∀ Q, z_call 9 jm (zr (some (6, 1, 0)) :: as) m1 Q = Q (some (zl v)) m2) ∧ Iv m2 (z_g m2 1)
theorem both {jc jm : Nat} {as : List zV} (e1 : z_g m1 1 = M) (hI : Iv m1 M') (hc : ∀ Q, z_call 9 jc (zr (some (5, 0, 0)) :: as) m Q = Q (some (zi v)) m1) (hm : ∀ m1, z_g m1 1 = M → ∀ Q, z_call 9 jm (zr (some (6, 1, 0)) :: as) m1 Q = Q (some (zi v)) (z_s m1 1 M')) : Both jc jm as m :=
  ⟨v, m1, z_s m1 1 M', hc, hm m1 e1, by rw [z_g_ss]; exact hI.s1⟩
theorem bothL {jc jm : Nat} {as : List zV} {o : Int64} (e1 : z_g m1 1 = M) (hI : Iv m1 M') (hc : ∀ Q, z_call 9 jc (zr (some (5, 0, 0)) :: as) m Q = Q (some (zl o)) m1) (hm : ∀ m1, z_g m1 1 = M → ∀ Q, z_call 9 jm (zr (some (6, 1, 0)) :: as) m1 Q = Q (some (zl o)) (z_s m1 1 M')) : BothL jc jm as m :=
  ⟨o, m1, z_s m1 1 M', hc, hm m1 e1, by rw [z_g_ss]; exact hI.s1⟩
theorem rng (h : ¬ (v < a ∨ b < v)) : a.toInt ≤ v.toInt ∧ v.toInt ≤ b.toInt :=
  ⟨i_le.mp (Int32.not_lt.mp fun q => h (.inl q)), i_le.mp (Int32.not_lt.mp fun q => h (.inr q))⟩
theorem idx_lt (h : 0 ≤ v ∧ v < x) : v.toNatClampNeg < x.toNatClampNeg := by
  have z0 : (0 : Int32).toInt = 0 := rfl
  have v0 := i_le.mp h.1
  have v1 := i_lt.mp h.2
  have n1 := (nI_is (v := v) (by omega)).2
  have n2 := (nI_is (v := x) (by omega)).2
  omega
theorem idx_5 (h : 0 ≤ v ∧ v < 5) : v.toNatClampNeg < 5 := by
  have := idx_lt h
  rw [show (5 : Int32).toNatClampNeg = 5 from rfl] at this; exact this
theorem lt_ne (h : z_nn x t) (ht : t < 1000) : x < nI t ↔ ¬ x = nI t := by
  have h0 := i_le.mp h.1
  have z0 : (0 : Int32).toInt = 0 := rfl
  have n1 := (nI_is (v := x) (by omega)).2
  have h2 := h.2
  rw [i_lt, i_eq, i_nI (by omega)]
  omega
theorem r1 : (-1 : Int32) = -1 ∨ (-1 : Int32) = -2 ∨ (-1 : Int32) = -4 ∨ (-1 : Int32) = -5 := .inl rfl
theorem r2 : (-2 : Int32) = -1 ∨ (-2 : Int32) = -2 ∨ (-2 : Int32) = -4 ∨ (-2 : Int32) = -5 := .inr (.inl rfl)
theorem r4 : (-4 : Int32) = -1 ∨ (-4 : Int32) = -2 ∨ (-4 : Int32) = -4 ∨ (-4 : Int32) = -5 := .inr (.inr (.inl rfl))
theorem r5 : (-5 : Int32) = -1 ∨ (-5 : Int32) = -2 ∨ (-5 : Int32) = -4 ∨ (-5 : Int32) = -5 := .inr (.inr (.inr rfl))
theorem b_ref {jc jm : Nat} {as : List zV} (h : Iv m M) (e : z_g m 1 = M) (hv : v = -1 ∨ v = -2 ∨ v = -4 ∨ v = -5) (hc : ∀ Q, z_call 9 jc (zr (some (5, 0, 0)) :: as) m Q = Q (some (zi v)) (mRef m v)) (hm : ∀ m1, z_g m1 1 = M → ∀ Q, z_call 9 jm (zr (some (6, 1, 0)) :: as) m1 Q = Q (some (zi v)) (z_s m1 1 (mRefu (mTh M) v))) : Both jc jm as m := both (ref_1.trans e) (h.refT hv) hc hm
theorem b_act {jc jm : Nat} {as : List zV} (h : Iv m M) (e : z_g m 1 = M) (N : zS) (hF : mFrm (mRem (mTh M) w) N) (hO : OK S' N) (hc : ∀ Q, z_call 9 jc (zr (some (5, 0, 0)) :: as) m Q = Q (some (zi v)) (mAct (z_s (mKeep m w) 2 S'))) (hm : ∀ m1, z_g m1 1 = M → ∀ Q, z_call 9 jm (zr (some (6, 1, 0)) :: as) m1 Q = Q (some (zi v)) (z_s m1 1 (mActd N))) : Both jc jm as m := both ((act_1 h.cmok).trans e) (h.act hF hO) hc hm
theorem b_ask {jc jm : Nat} {as : List zV} (h : Iv m M) (e : z_g m 1 = M) (hc : ∀ Q, z_call 9 jc (zr (some (5, 0, 0)) :: as) m Q = Q (some (zi v)) m) (hm : ∀ m1, z_g m1 1 = M → ∀ Q, z_call 9 jm (zr (some (6, 1, 0)) :: as) m1 Q = Q (some (zi v)) (z_s m1 1 (mTh M))) : Both jc jm as m := both e (h.same .th) hc hm
theorem b_askL {jc jm : Nat} {as : List zV} {o : Int64} (h : Iv m M) (e : z_g m 1 = M) (hc : ∀ Q, z_call 9 jc (zr (some (5, 0, 0)) :: as) m Q = Q (some (zl o)) m) (hm : ∀ m1, z_g m1 1 = M → ∀ Q, z_call 9 jm (zr (some (6, 1, 0)) :: as) m1 Q = Q (some (zl o)) (z_s m1 1 (mTh M))) : BothL jc jm as m := bothL e (h.same .th) hc hm
-- 2 guarantor
theorem st_70 (h : Iv m M) (hM : z_g m 1 = M) : Both 70 133 [zi v] m := by
  have hok := h.ok
  have eG := RM.nG hok.r
  have nG := hok.cn.1
  have c4 : z_I (z_g m 2) 0 0 3 < 4 ↔ ¬ z_I M 22 0 1 = 4 := by rw [eG]; exact lt_ne (t := 4) nG (by decide)
  have sim : ¬ (v < 0 ∨ 9999999 < v) → z_I (z_g m 2) 0 0 3 < 4 → OK (aGuar (z_g m 2) v) (mGu2 M v) := fun q1 q2 => sim_guar hok (idx_lt ⟨nG.1, q2⟩) (rng q1)
  have hc := fun Q => zs_70 (d := 3) (m := m) (v := v) (Q := Q) h.cmok fun q1 q2 => (sim q1 q2).tok
  have hm := fun (m1 : zM) (e : z_g m1 1 = M) (Q : zQ) => zs_133 (d := 2) (m := m1) (v := v) (Q := Q) (by rw [e, eG]; exact nG) (by rw [e]; exact h.nu) (by rw [e]; exact fun q1 q2 => (sim q1 (c4.mpr q2)).mbok)
  by_cases c0 : v < 0 ∨ 9999999 < v
  · exact b_ref h hM r1 (fun Q => (hc Q).trans (if_pos c0)) fun m1 e Q => (hm m1 e Q).trans (by rw [e, if_pos c0])
  · by_cases c1 : z_I (z_g m 2) 0 0 3 < 4
    · exact b_act h hM (mGu2 M v) (.tr .u22 .u22) (sim c0 c1) (fun Q => (hc Q).trans (by rw [if_neg c0, if_pos c1])) fun m1 e Q => (hm m1 e Q).trans (by rw [e, if_neg c0, if_neg (c4.mp c1), eG])
    · exact b_ref h hM r5 (fun Q => (hc Q).trans (by rw [if_neg c0, if_neg c1])) fun m1 e Q => (hm m1 e Q).trans (by rw [e, if_neg c0, if_pos (Classical.not_not.mp fun u => c1 (c4.mpr u))])
-- 3 limit
theorem st_76 (h : Iv m M) (hM : z_g m 1 = M) : Both 76 150 [zi v, zi w] m := by
  have hok := h.ok
  have eG := RM.nG hok.r
  have nG := hok.cn.1
  have g4 := hok.r.G4
  have gu : ∀ q, q < 3 → (0 ≤ v ∧ v < z_I (z_g m 2) 0 0 3) → z_I M 22 0 (6 + 3 * v.toNatClampNeg + q) = z_I (z_g m 2) 1 v.toNatClampNeg q := fun q hq c => RM.gu hok.r (idx_lt c) hq
  have sim : ¬ (w < 0 ∨ 9999999 < w) → (0 ≤ v ∧ v < z_I (z_g m 2) 0 0 3) → ¬ w < z_I (z_g m 2) 1 v.toNatClampNeg 1 + z_I (z_g m 2) 1 v.toNatClampNeg 2 → OK (z_uI (z_g m 2) 1 v.toNatClampNeg 0 w) (z_uI (mRem (mTh M) 1) 22 0 (6 + 3 * v.toNatClampNeg) w) := fun q1 q2 q3 => by
    have hg : v.toNatClampNeg < cG (z_g m 2) := idx_lt q2
    have gu := hok.ia.gu hg
    have h0 := hok.ia.hd0 hok.r.G4 hg
    unfold iGu at gu
    refine sim_limit hok.rt hg ?_ (rng q1).2
    have q3 := i_le.mp (Int32.not_lt.mp q3)
    rw [i_add (by omega) (by omega)] at q3
    exact q3
  have hc := fun Q => zs_76 (d := 3) (m := m) (v := v) (w := w) (Q := Q) h.cmok fun q1 q2 q3 => (sim q1 q2 q3).tok
  have hm := fun (m1 : zM) (e : z_g m1 1 = M) (Q : zQ) => zs_150 (d := 1) (m := m1) (v := v) (w := w) (Q := Q) (by rw [e, eG]; exact nG) (by rw [e]; exact h.nu) (by rw [e, eG]; exact fun q => mBok_up (j := 6 + 3 * v.toNatClampNeg) (by have : v.toNatClampNeg < cG (z_g m 2) := idx_lt q; unfold mSkj; omega) (mBok_rt hok.mbok))
  by_cases c0 : w < 0 ∨ 9999999 < w
  · exact b_ref h hM r1 (fun Q => (hc Q).trans (if_pos c0)) fun m1 e Q => (hm m1 e Q).trans (by rw [e, if_pos c0])
  · by_cases c1 : 0 ≤ v ∧ v < z_I (z_g m 2) 0 0 3
    · by_cases c2 : w < z_I (z_g m 2) 1 v.toNatClampNeg 1 + z_I (z_g m 2) 1 v.toNatClampNeg 2
      · exact b_ref h hM r4 (fun Q => (hc Q).trans (by rw [if_neg c0, if_pos c1, if_pos c2])) fun m1 e Q => (hm m1 e Q).trans (by rw [e, if_neg c0, eG, if_pos c1, gu 1 (by omega) c1, gu 2 (by omega) c1, if_neg (Int32.not_le.mpr c2)])
      · exact b_act h hM (z_uI (mRem (mTh M) 1) 22 0 (6 + 3 * v.toNatClampNeg) w) .u22 (sim c0 c1 c2) (fun Q => (hc Q).trans (by rw [if_neg c0, if_pos c1, if_neg c2])) fun m1 e Q => (hm m1 e Q).trans (by rw [e, if_neg c0, eG, if_pos c1, gu 1 (by omega) c1, gu 2 (by omega) c1, if_pos (Int32.not_lt.mp c2), show z_I M 22 0 (6 + 3 * v.toNatClampNeg) = _ from gu 0 (by omega) c1]; rfl)
    · exact b_ref h hM r2 (fun Q => (hc Q).trans (by rw [if_neg c0, if_neg c1])) fun m1 e Q => (hm m1 e Q).trans (by rw [e, if_neg c0, eG, if_neg c1])
-- 4 pay
theorem st_77 (h : Iv m M) (hM : z_g m 1 = M) : Both 77 153 [zi v, zi w] m := by
  have hok := h.ok
  have eG := RM.nG hok.r
  have nG := hok.cn.1
  have g4 := hok.r.G4
  have gu : (0 ≤ v ∧ v < z_I (z_g m 2) 0 0 3) → z_I M 22 0 (6 + 3 * v.toNatClampNeg + 2) = z_I (z_g m 2) 1 v.toNatClampNeg 2 := fun c => RM.gu hok.r (idx_lt c) (by omega)
  have sim : ¬ (w < 1 ∨ 9999999 < w) → (0 ≤ v ∧ v < z_I (z_g m 2) 0 0 3) → ¬ z_I (z_g m 2) 1 v.toNatClampNeg 2 < w → OK (aPay (z_g m 2) v.toNatClampNeg w) (mPa2 M v.toNatClampNeg w) := fun q1 q2 q3 => by
    have r := (rng q1).1
    have o1 : (1 : Int32).toInt = 1 := rfl
    exact sim_pay hok (idx_lt q2) (by omega) (i_le.mp (Int32.not_lt.mp q3))
  have hc := fun Q => zs_77 (d := 3) (m := m) (v := v) (w := w) (Q := Q) h.cmok fun q1 q2 q3 => (sim q1 q2 q3).tok
  have hm := fun (m1 : zM) (e : z_g m1 1 = M) (Q : zQ) => zs_153 (d := 2) (m := m1) (v := v) (w := w) (Q := Q) (by rw [e, eG]; exact nG) (by rw [e]; exact h.nu) (by rw [e, eG]; exact fun q => mBok_co (M := mPa1 M v.toNatClampNeg w) (fun j _ _ => z_I_uJ _ _ _ _ _ _ _ _) (mBok_up (j := 6 + 3 * v.toNatClampNeg + 2) (by have : v.toNatClampNeg < cG (z_g m 2) := idx_lt q; unfold mSkj; omega) (mBok_rt hok.mbok)))
  by_cases c0 : w < 1 ∨ 9999999 < w
  · exact b_ref h hM r1 (fun Q => (hc Q).trans (if_pos c0)) fun m1 e Q => (hm m1 e Q).trans (by rw [e, if_pos c0])
  · by_cases c1 : 0 ≤ v ∧ v < z_I (z_g m 2) 0 0 3
    · by_cases c2 : z_I (z_g m 2) 1 v.toNatClampNeg 2 < w
      · exact b_ref h hM r4 (fun Q => (hc Q).trans (by rw [if_neg c0, if_pos c1, if_pos c2])) fun m1 e Q => (hm m1 e Q).trans (by rw [e, if_neg c0, eG, if_pos c1, gu c1, if_neg (Int32.not_le.mpr c2)])
      · exact b_act h hM (mPa2 M v.toNatClampNeg w) (.tr .u22 .uJ) (sim c0 c1 c2) (fun Q => (hc Q).trans (by rw [if_neg c0, if_pos c1, if_neg c2])) fun m1 e Q => (hm m1 e Q).trans (by rw [e, if_neg c0, eG, if_pos c1, gu c1, if_pos (Int32.not_lt.mp c2)])
    · exact b_ref h hM r2 (fun Q => (hc Q).trans (by rw [if_neg c0, if_neg c1])) fun m1 e Q => (hm m1 e Q).trans (by rw [e, if_neg c0, eG, if_neg c1])
-- orders
theorem ord_iff (eG : z_I M 22 0 1 = z_I S 0 0 3) : mIsO M a b c ↔ cIsOrder S a b c := by
  unfold mIsO cIsOrder
  rw [eG]
  constructor
  · rintro ⟨⟨m1, m2⟩, qa, qb, qc⟩
    exact ⟨qa, qb, qc, fun e => m1.elim (fun z => e.2 z) (fun z => z.1 e.1), fun e => m1.elim (fun z => e.2 z) (fun z => z.2 e.1), fun e => m2.elim (fun z => e.2 z) (fun z => z e.1)⟩
  · rintro ⟨qa, qb, qc, n1, n2, n3⟩
    refine ⟨⟨?_, ?_⟩, qa, qb, qc⟩
    · by_cases u : a = -1
      · exact .inl u
      · exact .inr ⟨fun e => n1 ⟨e, u⟩, fun e => n2 ⟨e, u⟩⟩
    · by_cases u : b = -1
      · exact .inl u
      · exact .inr fun e => n3 ⟨e, u⟩
theorem ord_gd (h : cCnts S) (ho : cIsOrder S a b c) : oGd (cG S) a b c := by
  obtain ⟨qa, qb, qc, n1, n2, n3⟩ := ho
  have hG : cG S ≤ 4 := h.1.2
  have one : ∀ x : Int32, (x = -1 ∨ (0 ≤ x ∧ x < z_I S 0 0 3)) → x = -1 ∨ ∃ g, g < cG S ∧ g < 4 ∧ x = nI g := fun x hx => hx.elim .inl fun z => by
    have hl : x.toNatClampNeg < cG S := idx_lt z
    exact .inr ⟨x.toNatClampNeg, hl, by omega, z_nn_eq z.1⟩
  exact ⟨⟨one a qa, one b qb, one c qc⟩, fun e => Classical.byContradiction fun u => n1 ⟨e, u⟩, fun e => Classical.byContradiction fun u => n2 ⟨e, u⟩, fun e => Classical.byContradiction fun u => n3 ⟨e, u⟩⟩
-- 5 store
theorem st_78 (h : Iv m M) (hM : z_g m 1 = M) : Both 78 154 [zi a, zi b, zi c] m := by
  have hok := h.ok
  have eG := RM.nG hok.r
  have eS := RM.nS hok.r
  have nS := hok.cn.2.1
  have hio := ord_iff (a := a) (b := b) (c := c) eG
  have c6 : z_I (z_g m 2) 0 0 4 < 6 ↔ ¬ z_I M 22 0 2 = 6 := by rw [eS]; exact lt_ne (t := 6) nS (by decide)
  have D1 : Decidable (cIsOrder (z_g m 2) a b c) := Classical.propDecidable _
  have D2 : ∀ N, Decidable (mIsO N a b c) := fun _ => Classical.propDecidable _
  have sim : cIsOrder (z_g m 2) a b c → z_I (z_g m 2) 0 0 4 < 6 → OK (aStore (z_g m 2) a b c) (mSto M a b c) := fun q1 q2 => sim_store hok (idx_lt ⟨nS.1, q2⟩) (ord_gd hok.cn q1)
  have hc := fun Q => zs_78 (d := 3) (m := m) (a := a) (b := b) (c := c) (Q := Q) h.cmok fun q1 q2 => (sim q1 q2).tok
  have hm := fun (m1 : zM) (e : z_g m1 1 = M) (Q : zQ) => @zs_154 2 m1 Q a b c (D2 _) (by rw [e]; exact h.mok) (by rw [e]; exact fun q1 q2 => (sim (hio.mp q1) (c6.mpr q2)).mbok)
  by_cases c0 : cIsOrder (z_g m 2) a b c
  · by_cases c1 : z_I (z_g m 2) 0 0 4 < 6
    · exact b_act h hM (mSto M a b c) (.tr .layO .u22) (sim c0 c1) (fun Q => (hc Q).trans (by rw [if_pos c0, if_pos c1])) fun m1 e Q => (hm m1 e Q).trans (by subst e; rw [if_pos (hio.mpr c0), if_pos (c6.mp c1), eS])
    · exact b_ref h hM r5 (fun Q => (hc Q).trans (by rw [if_pos c0, if_neg c1])) fun m1 e Q => (hm m1 e Q).trans (by subst e; rw [if_pos (hio.mpr c0), if_neg (fun u => c1 (c6.mpr u))])
  · exact b_ref h hM r1 (fun Q => (hc Q).trans (by rw [if_neg c0])) fun m1 e Q => (hm m1 e Q).trans (by subst e; rw [if_neg (fun u => c0 (hio.mp u))])
-- 6 order
theorem st_79 (h : Iv m M) (hM : z_g m 1 = M) : Both 79 157 [zi v, zi a, zi b, zi c] m := by
  have hok := h.ok
  have eG := RM.nG hok.r
  have eS := RM.nS hok.r
  have hio := ord_iff (a := a) (b := b) (c := c) eG
  have D1 : Decidable (cIsOrder (z_g m 2) a b c) := Classical.propDecidable _
  have D2 : ∀ N, Decidable (mIsO N a b c) := fun _ => Classical.propDecidable _
  have sim : cIsOrder (z_g m 2) a b c → (0 ≤ v ∧ v < z_I (z_g m 2) 0 0 4) → OK (cLineUp (z_g m 2) v.toNatClampNeg a b c) (mLayO (mRem (mTh M) 4) v.toNatClampNeg a b c) := fun q1 q2 => sim_order hok.rt (idx_lt q2) (ord_gd hok.cn q1)
  have hc := fun Q => zs_79 (d := 3) (m := m) (v := v) (a := a) (b := b) (c := c) (Q := Q) h.cmok fun q1 q2 => (sim q1 q2).tok
  have hm := fun (m1 : zM) (e : z_g m1 1 = M) (Q : zQ) => @zs_157 2 m1 Q v a b c (D2 _) (by rw [e]; exact h.mok) (by rw [e, eS]; exact fun q1 q2 => (sim (hio.mp q1) q2).mbok)
  by_cases c0 : cIsOrder (z_g m 2) a b c
  · by_cases c1 : 0 ≤ v ∧ v < z_I (z_g m 2) 0 0 4
    · exact b_act h hM (mLayO (mRem (mTh M) 4) v.toNatClampNeg a b c) .layO (sim c0 c1) (fun Q => (hc Q).trans (by rw [if_pos c0, if_pos c1])) fun m1 e Q => (hm m1 e Q).trans (by subst e; rw [if_pos (hio.mpr c0), eS, if_pos c1])
    · exact b_ref h hM r2 (fun Q => (hc Q).trans (by rw [if_pos c0, if_neg c1])) fun m1 e Q => (hm m1 e Q).trans (by subst e; rw [if_pos (hio.mpr c0), eS, if_neg c1])
  · exact b_ref h hM r1 (fun Q => (hc Q).trans (by rw [if_neg c0])) fun m1 e Q => (hm m1 e Q).trans (by subst e; rw [if_neg (fun u => c0 (hio.mp u))])
-- 7 stock
theorem st_80 (h : Iv m M) (hM : z_g m 1 = M) : Both 80 159 [zi a, zi b, zi c] m := by
  have hok := h.ok
  have eS := RM.nS hok.r
  have s6 := hok.r.S6
  have sim : (0 ≤ b ∧ b < 5) → (0 ≤ a ∧ a < z_I (z_g m 2) 0 0 4) → OK (aStock (z_g m 2) a.toNatClampNeg b.toNatClampNeg c) (mStoc M a.toNatClampNeg b.toNatClampNeg c) := fun q1 q2 => sim_stock hok (idx_lt q2) (idx_5 q1)
  have es : (0 ≤ b ∧ b < 5) → (0 ≤ a ∧ a < z_I (z_g m 2) 0 0 4) → z_I M 22 0 (18 + 8 * a.toNatClampNeg + b.toNatClampNeg) = z_I (z_g m 2) 15 a.toNatClampNeg b.toNatClampNeg := fun q1 q2 => RM.stk hok.r (idx_lt q2) (idx_5 q1)
  have hc := fun Q => zs_80 (d := 3) (m := m) (a := a) (b := b) (c := c) (Q := Q) h.cmok fun q1 _ q2 _ => (sim q1 q2).tok
  have hm := fun (m1 : zM) (e : z_g m1 1 = M) (Q : zQ) => zs_159 (d := 2) (m := m1) (a := a) (b := b) (c := c) (Q := Q) (by rw [e]; exact h.mok) (by rw [e, eS]; exact fun q1 q2 => (sim q1 q2).mbok)
  by_cases c0 : (0 ≤ b ∧ b < 5) ∧ ¬ (c < 1 ∨ 99999 < c)
  · by_cases c1 : 0 ≤ a ∧ a < z_I (z_g m 2) 0 0 4
    · by_cases c2 : z_I (z_g m 2) 15 a.toNatClampNeg b.toNatClampNeg + c ≤ 99999
      · exact b_act h hM (mStoc M a.toNatClampNeg b.toNatClampNeg c) .u22 (sim c0.1 c1) (fun Q => (hc Q).trans (by rw [if_pos c0, if_pos c1, if_pos c2])) fun m1 e Q => (hm m1 e Q).trans (by rw [e, if_pos c0, eS, if_pos c1, es c0.1 c1, if_pos c2])
      · exact b_ref h hM r4 (fun Q => (hc Q).trans (by rw [if_pos c0, if_pos c1, if_neg c2])) fun m1 e Q => (hm m1 e Q).trans (by rw [e, if_pos c0, eS, if_pos c1, es c0.1 c1, if_neg c2])
    · exact b_ref h hM r2 (fun Q => (hc Q).trans (by rw [if_pos c0, if_neg c1])) fun m1 e Q => (hm m1 e Q).trans (by rw [e, if_pos c0, eS, if_neg c1])
  · exact b_ref h hM r1 (fun Q => (hc Q).trans (by rw [if_neg c0])) fun m1 e Q => (hm m1 e Q).trans (by rw [e, if_neg c0])
end St1
