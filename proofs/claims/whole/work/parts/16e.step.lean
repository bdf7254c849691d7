set_option maxHeartbeats 400000
/-! ===== A CALL OF BOTH: days, undo, image, back ===== -/
section St5
variable {d i k g s l t q n p j : Nat} {v w a b c e f x y : Int32} {m m1 : zM} {M M' S S' N X : zS} {Q : zQ}
-- days: what stays whatever the day is
def SD (S S' : zS) : Prop := z_I S' 0 0 5 = z_I S 0 0 5 ∧ (∀ l, cWL S l → cWL S' l) ∧ ∀ l, z_I S' 3 l 6 = z_I S 3 l 6
theorem SD.rf : SD S S := ⟨rfl, fun _ h => h, fun _ => rfl⟩
theorem SD.tr (h : SD S S') (g : SD S' X) : SD S X := ⟨g.1.trans h.1, fun l w => g.2.1 l (h.2.1 l w), fun l => (g.2.2 l).trans (h.2.2 l)⟩
theorem SD.close : SD S (cClose S l v w) := by
  refine ⟨cSk.close.2.2.2.2.1, fun l' h => cSk.close.wl h, fun l' => ?_⟩
  unfold cClose
  rw [z_I_u, if_neg (by omega), cRel_o (by decide) (by decide), cMakeDue_o (by decide) (by decide), z_I_u, if_neg (by omega), z_I_u, if_neg (by omega), z_I_u, if_neg (by omega)]
theorem SD.go : SD S (cGo S l) := by
  refine ⟨cSk.go.2.2.2.2.1, fun l' h => cSk.go.wl h, fun l' => ?_⟩
  unfold cGo
  rw [cHold_o (by decide) (by decide), z_I_u, if_neg (by omega), z_I_u, if_neg (by omega)]
theorem SD.day : SD S (z_uI S 0 0 0 v) := ⟨cSk.day.2.2.2.2.1, fun l h => cSk.day.wl h, fun l => by rw [z_I_o (by decide)]⟩
theorem SD.rw0 (h : Rw0 S X) : SD S X := ⟨h.1 0 0 5 (by decide) (by omega), fun l w => h.wl w, fun l => h.1 3 l 6 (by decide) (by omega)⟩
theorem SD.turnGo : ∀ (n i : Nat) (S : zS), SD S (cTurnGo n i S)
  | 0, _, _ => .rf
  | n + 1, i, S => by
    unfold cTurnGo
    split
    · split
      · exact .rf
      · exact SD.turnGo n (i + 1) S
    · exact .tr .go (SD.turnGo n (i + 1) _)
theorem SD.turns : SD S (cTurns S) := .tr (.rw0 cLUpW_rw) (SD.turnGo _ _ _)
theorem SD.passGo : ∀ (n i : Nat) (a : Int32) (S : zS), SD S (cPassGo n i a S).2
  | 0, _, _, _ => .rf
  | n + 1, i, a, S => by
    unfold cPassGo
    split
    · exact .tr .close (SD.passGo n (i + 1) _ _)
    · exact SD.passGo n (i + 1) _ _
theorem SD.pass1 : SD S (cPass1 S).2 := .tr .day (SD.passGo _ _ _ _)
theorem SD.pass : SD S (cPass S).2 := .tr .pass1 .turns
def PD (S : zS) : Prop := z_nn (z_I S 0 0 5) 40 ∧ (∀ l, l < cL S → cWL S l) ∧ ∀ l, l < cL S → 0 ≤ (z_I S 3 l 6).toInt ∧ (z_I S 3 l 6).toInt ≤ 9
theorem PD.sd (h : PD S) (g : SD S S') : PD S' := by
  have e : cL S' = cL S := congrArg Int32.toNatClampNeg g.1
  refine ⟨by rw [g.1]; exact h.1, fun l hl => ?_, fun l hl => ?_⟩
  · rw [e] at hl; exact g.2.1 l (h.2.1 l hl)
  · rw [e] at hl; rw [g.2.2]; exact h.2.2 l hl
theorem PD.row (h : PD S) : cRowOk (cLUp cLuW S) := by
  have hL : cL S ≤ 40 := h.1.2
  obtain ⟨n, K, h1, hr⟩ := row_up (S := S) (P := fun l => z_I S 3 l 0 = 0) (E := Ek S) cLuW (fun i => z_I S 3 i 6) (fun i X hr hl => by
    unfold cLuW
    rw [hr.1 3 i 0 (by omega) (by omega), hr.1 3 i 6 (by omega) (by omega)]
    by_cases u : z_I S 3 i 0 = 0
    · rw [if_pos u]; exact .inl ⟨u, rfl⟩
    · rw [if_neg u]; exact .inr ⟨u, rfl⟩) (fun i hl _ => by
    have := h.2.2 i hl
    exact i_ent (by omega) (by omega) (by omega)) (fun i j _ _ => by unfold Ek; omega) hL
  exact (row_ok hr h1 hL (fun l hl _ => ⟨(z_I S 3 l 6).toInt, rfl, by have := h.2.2 l hl; omega⟩) h.2.1).1
theorem PD.step : ∀ S, PD S → PD (cPass S).2 ∧ z_nn (z_I S 0 0 5) 40 ∧ (∀ l, l < cL S → cWL S l) ∧ cRowOk (cLUp cLuW (cPass1 S).2) := fun _ h => ⟨h.sd .pass, h.1, h.2.1, (h.sd .pass1).row⟩
theorem Ok.pd {B : Int} {T : Nat} (h : Ok B T S M) : PD S := ⟨h.cn.2.2, h.wl, fun l hl => (h.ia.ld hl).2.2.2.2.2.1⟩
theorem sum_ok (h : 0 ≤ x.toInt ∧ x.toInt ≤ 9999) (hv : 0 ≤ v.toInt ∧ v.toInt ≤ 90) : (x + v ≤ 9999 ↔ x.toInt + v.toNatClampNeg ≤ 9999) := by
  have z : (9999 : Int32).toInt = 9999 := rfl
  have := (nI_is (v := v) (by omega)).2
  rw [i_le, i_add (by omega) (by omega)]
  omega
theorem Iv.actQ (h : Iv m M) (hU : kU M N v) (hO : OK (cTurns S') N) : Iv (mAct (z_s (mKeep m v) 2 S')) (z_uI N 6 0 1 0) := by
  have e2 : z_g (mAct (z_s (mKeep m v) 2 S')) 2 = cTurns S' := by
    unfold mAct
    rw [z_g_20, z_g_ss, z_g_ss]
  refine h.act2 (v := v) hU (fun _ => rfl) rfl (fun r h0 h2 => ?_) ?_ (by rw [e2]; exact hO)
  · unfold mAct
    rw [z_g_sn h0, z_g_sn h2, z_g_sn h2]
  · unfold mAct
    rw [z_g_ss, z_g_02]
-- what days leave, class and model
theorem days_sim (h : OK S M) (hX : sR X M) (hv : ¬ (v < 1 ∨ 90 < v)) (hd : z_I S 0 0 0 + v ≤ 9999) : OK (cDaysGo v.toNatClampNeg 0 S).2 (mDays X v.toNatClampNeg) ∧ z_I (mDays X v.toNatClampNeg) 6 0 15 = (cDaysGo v.toNatClampNeg 0 S).1 ∧ OK (cTurns (cDaysGo v.toNatClampNeg 0 S).2) (mDays X v.toNatClampNeg) := by
  have r := rng hv
  have z1 : (1 : Int32).toInt = 1 := rfl
  have z90 : (90 : Int32).toInt = 90 := rfl
  have nv := (nI_is (v := v) (by omega)).2
  have hd' := (sum_ok h.ia.dy ⟨by omega, by omega⟩).mp hd
  have h0 : OK S (z_uI X 6 0 15 0) := h.sr (sR.tr ⟨fun j _ => z_I_o (by decide), fun _ _ => rfl⟩ hX)
  have e15 : z_I (z_uI X 6 0 15 0) 6 0 15 = 0 + 0 := by rw [z_I_u, if_pos ⟨rfl, rfl, rfl⟩]; rfl
  obtain ⟨s1, s2⟩ := sim_days v.toNatClampNeg 0 S _ 0 h0 hd' e15
  have s1 : OK (cDaysGo v.toNatClampNeg 0 S).2 (mDays X v.toNatClampNeg) := s1
  have s2 : z_I (mDays X v.toNatClampNeg) 6 0 15 = 0 + (cDaysGo v.toNatClampNeg 0 S).1 := s2
  rw [Int32.zero_add] at s2
  have hq := Qt.days v.toNatClampNeg 0 S _ (by omega) h0 hd'
  exact ⟨s1, s2, s1.alk (hq.alk s1)⟩
-- 20 days
theorem st_96 (h : Iv m M) (hM : z_g m 1 = M) : Both 96 195 [zi v] m := by
  have hok := h.ok
  have eD := RM.day hok.r
  have sim := fun q1 q2 => days_sim (v := v) hok (X := mRem (mTh M) 15) ⟨fun _ _ => mRT_r, fun _ _ => mRT_J⟩ q1 q2
  have hc := fun Q => zs_96 (d := 2) (m := m) (v := v) (Q := Q) h.cmok PD.step hok.pd fun q1 q2 => (sim q1 q2).1.tok
  have hm := fun (m1 : zM) (e : z_g m1 1 = M) (Q : zQ) => zs_195 (d := 1) (m := m1) (v := v) (Q := Q) (by rw [e]; exact h.mok)
  by_cases c0 : ¬ (v < 1 ∨ 90 < v)
  · by_cases c1 : z_I (z_g m 2) 0 0 0 + v ≤ 9999
    · obtain ⟨s1, s2, s3⟩ := sim c0 c1
      exact both ((act_1 h.cmok).trans hM) (h.actQ (kU.act h.nu .days) s3) (fun Q => (hc Q).trans (by rw [if_pos c0, if_pos c1])) fun m1 e Q => (hm m1 e Q).trans (by rw [e, if_pos c0, show z_I M 22 0 (0) = _ from eD, if_pos c1, s2]; rfl)
    · exact b_ref h hM r4 (fun Q => (hc Q).trans (by rw [if_pos c0, if_neg c1])) fun m1 e Q => (hm m1 e Q).trans (by rw [e, if_pos c0, show z_I M 22 0 (0) = _ from eD, if_neg c1])
  · exact b_ref h hM r1 (fun Q => (hc Q).trans (by rw [if_neg c0])) fun m1 e Q => (hm m1 e Q).trans (by rw [e, if_neg c0])
-- 21 undo
set_option maxRecDepth 100000 in
set_option maxHeartbeats 4000000 in
theorem zs_97z (c1 : z_I (z_g m 0) 5 0 6 = 0) : z_call (d + 3) 97 [zr (some (5, 0, 0))] m Q = Q (some (zi (-4))) (mRef m (-4)) := by
  simp only [↓zen_97, ↓zu_97_0, ↓zu_97_14, ↓zu_97_56, ↓zx_nil, ↓zx_cons, ↓zp_li, ↓zp_ll, ↓zp_lr, ↓zq_li0, ↓zq_li1, ↓zq_ll0, ↓zq_ll1, ↓zq_lr0, ↓zq_lr1, ↓zk_0, ↓zk_1n, ↓zk_1i, ↓zk_1r, ↓zk_1l, ↓zk_2, zp_okt, ↓zp_okl, zp_sh0, zp_sh1, zp_psn, zp_pss, ↓zp_ri1, ↓zp_ri20, ↓zp_ri21, ↓zp_rl, ↓zp_ra, ↓zp_rv, ↓zp_br, ↓reduceIte, Nat.reduceAdd, Nat.zero_add, Nat.add_zero, Nat.le_refl, Nat.zero_le, ↓zx_aload_0, ↓zyg_5_6, ↓zy_if_ne, ↓zx_bipush, ↓zyc_72, ↓zx_iret, ↓zy_dupi, ↓zy_dupr, ↓zx_iconst, ↓zy_isub, ↓zyp_5_6, ↓zyg_5_5, ↓zy_iadd, ↓zy_irem, ↓zy_istore_1, ↓zyg_5_3, ↓zx_iload_1, ↓zya_7, ↓zya_8, ↓zya_9, ↓zya_10, ↓zya_17, ↓zya_18, ↓zy_astore_2, ↓zx_aload_2, ↓zy_ifnull, ↓zyg_5_0, ↓zyc_1, ↓zyp_5_7, ↓zyg_5_4, ↓zya_19, ↓zya_20, ↓zya_11, ↓zya_12, ↓zya_13, ↓zya_14, ↓zya_15, ↓zya_16, z_i10, z_10, z_00, and_self, not_true_eq_false, not_false_eq_true, true_and, and_true, false_and, and_false, true_or, false_or, or_false, or_true, or_self, if_true, if_false, ite_self, ↓zs_72, c1]
theorem st_97 (h : Iv m M) (hM : z_g m 1 = M) : Both 97 125 [] m := by
  have e8 := h.kb.2.1
  have hm := fun (m1 : zM) (e : z_g m1 1 = M) (Q : zQ) => zs_125 (d := 7) (m := m1) (Q := Q) (by rw [e]; exact h.nu)
  by_cases c0 : z_I (z_g m 0) 5 0 6 = 0
  · exact b_ref h hM r4 (fun Q => zs_97z (d := 6) c0) fun m1 e Q => (hm m1 e Q).trans (by rw [e, if_pos (e8.trans c0)])
  · obtain ⟨u1, u2, u3, u4⟩ := h.undo c0
    have hc := fun Q => zs_97 (d := 6) (m := m) (Q := Q) h.cmok u3
    exact both (u4.trans hM) u2 (fun Q => (hc Q).trans (by rw [if_neg c0])) fun m1 e Q => (hm m1 e Q).trans (by rw [e, if_neg (fun u => c0 (e8.symm.trans u)), u1])
-- 22 image
theorem im_lt (h : ¬ (v < 0 ∨ 1 < v)) : v.toNatClampNeg < 2 := Nat.lt_of_not_le fun q => z_im h (.inr q)
theorem st_98 (h : Iv m M) (hM : z_g m 1 = M) : Both 98 129 [zi v] m := by
  have hc := fun Q => zs_98 (d := 5) (m := m) (v := v) (Q := Q) h.cmok
  have hm := fun (m1 : zM) (e : z_g m1 1 = M) (Q : zQ) => zs_129 (d := 7) (m := m1) (v := v) (Q := Q)
  by_cases c0 : v < 0 ∨ 1 < v
  · exact b_ref h hM r1 (fun Q => (hc Q).trans (by rw [if_pos c0])) fun m1 e Q => (hm m1 e Q).trans (by rw [e, if_pos c0])
  · obtain ⟨u1, u2⟩ := h.image (im_lt c0)
    exact both (u2.trans hM) u1 (fun Q => (hc Q).trans (by rw [if_neg c0])) fun m1 e Q => (hm m1 e Q).trans (by rw [e, if_neg c0, RM.day h.ok.r])
-- 23 back
set_option maxRecDepth 100000 in
set_option maxHeartbeats 4000000 in
theorem zs_99z (c1 : v < 0 ∨ 1 < v) : z_call (d + 3) 99 [zr (some (5, 0, 0)), zi v] m Q = Q (some (zi (-1))) (mRef m (-1)) := by
  simp only [↓zen_99, ↓zu_99_0, ↓zu_99_15, ↓zu_99_33, ↓zx_nil, ↓zx_cons, ↓zp_li, ↓zp_ll, ↓zp_lr, ↓zq_li0, ↓zq_li1, ↓zq_ll0, ↓zq_ll1, ↓zq_lr0, ↓zq_lr1, ↓zk_0, ↓zk_1n, ↓zk_1i, ↓zk_1r, ↓zk_1l, ↓zk_2, zp_okt, ↓zp_okl, zp_sh0, zp_sh1, zp_psn, zp_pss, ↓zp_ri1, ↓zp_ri20, ↓zp_ri21, ↓zp_rl, ↓zp_ra, ↓zp_rv, ↓zp_br, ↓reduceIte, Nat.reduceAdd, Nat.zero_add, Nat.add_zero, Nat.le_refl, Nat.zero_le, ↓zx_iload_1, ↓zx_iconst, ↓zyc_71, ↓zy_if_eq, ↓zx_aload_0, ↓zyc_72, ↓zx_iret, ↓zyg_5_2, ↓zya_7, ↓zya_8, ↓zya_9, ↓zya_10, ↓zya_17, ↓zya_18, ↓zy_astore_2, ↓zx_aload_2, ↓zy_ifnonnull, ↓zx_bipush, ↓zyg_5_0, ↓zyc_1, ↓zyp_5_6, ↓zyp_5_7, ↓zyg_0_0, ↓zs_71, z_i10, z_10, z_00, and_self, not_true_eq_false, not_false_eq_true, true_and, and_true, false_and, and_false, true_or, false_or, or_false, or_true, or_self, if_true, if_false, ite_self, ↓zs_72, c1]
theorem st_99 (h : Iv m M) (hM : z_g m 1 = M) : Both 99 132 [zi v] m := by
  have hm := fun (m1 : zM) (e : z_g m1 1 = M) (Q : zQ) => zs_132 (d := 7) (m := m1) (v := v) (Q := Q)
  by_cases c0 : v < 0 ∨ 1 < v
  · exact b_ref h hM r1 (fun Q => zs_99z (d := 6) c0) fun m1 e Q => (hm m1 e Q).trans (by rw [e, if_pos c0])
  · have hk := im_lt c0
    have hc := fun Q => zs_99 (d := 6) (m := m) (v := v) (Q := Q) h.cmok fun q hq => (h.back hk hq).2.1
    cases hq : z_d m (1 + v.toNatClampNeg) with
    | none =>
      have e29 : z_I M 29 0 v.toNatClampNeg = 0 := by
        rcases h.ib v.toNatClampNeg hk with ⟨-, u⟩ | ⟨q, u, -⟩
        · exact u
        · rw [u] at hq; cases hq
      exact b_ref h hM r4 (fun Q => (hc Q).trans (by rw [if_neg c0, hq])) fun m1 e Q => (hm m1 e Q).trans (by rw [e, if_neg c0, if_pos e29])
    | some q =>
      obtain ⟨u1, u2, u3, u4, u5⟩ := h.back hk hq
      exact both (u5.trans hM) u4 (fun Q => (hc Q).trans (by rw [if_neg c0, hq])) fun m1 e Q => (hm m1 e Q).trans (by rw [e, if_neg c0, if_neg u1, u3])
end St5
