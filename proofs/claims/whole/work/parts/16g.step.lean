set_option maxHeartbeats 400000
/-! ===== A CALL OF BOTH: questions ===== -/
section St7
variable {d i k g s l t q n p j : Nat} {v w a b c e f x y : Int32} {m m1 : zM} {M M' S S' N X : zS} {Q : zQ}
-- 24 ofGuarantor
theorem st_100 (h : Iv m M) (hM : z_g m 1 = M) : Both 100 198 [zi v, zi w] m := by
  have hok := h.ok
  have eG := RM.nG hok.r
  have hc := fun Q => zs_100 (d := 7) (m := m) (v := v) (w := w) (Q := Q) h.cmok
  have hm := fun (m1 : zM) (e : z_g m1 1 = M) (Q : zQ) => zs_198 (d := 6) (m := m1) (v := v) (w := w) (Q := Q) (by rw [e]; exact h.mok)
  by_cases c0 : 0 ≤ v ∧ v < z_I (z_g m 2) 0 0 3
  · exact b_ask h hM (fun Q => (hc Q).trans (by rw [if_pos c0])) fun m1 e Q => (hm m1 e Q).trans (by rw [e, eG, if_pos c0, ask_guar hok.r (idx_lt c0)])
  · exact b_ask h hM (fun Q => (hc Q).trans (by rw [if_neg c0])) fun m1 e Q => (hm m1 e Q).trans (by rw [e, eG, if_neg c0])
-- 25 total
theorem st_101 (h : Iv m M) (hM : z_g m 1 = M) : BothL 101 199 [zi v, zi w] m := by
  have hok := h.ok
  have eG := RM.nG hok.r
  have hc := fun Q => zs_101 (d := 7) (m := m) (v := v) (w := w) (Q := Q) h.cmok
  have hm := fun (m1 : zM) (e : z_g m1 1 = M) (Q : zQ) => zs_199 (d := 6) (m := m1) (v := v) (w := w) (Q := Q) (by rw [e]; exact h.mok)
  by_cases c0 : ¬ (w < 0 ∨ 1 < w) ∧ (v = -1 ∨ (0 ≤ v ∧ v < z_I (z_g m 2) 0 0 3))
  · have c0' : (v = -1 ∨ (0 ≤ v ∧ v < z_I M 22 0 1)) ∧ ¬ (w < 0 ∨ 1 < w) := by rw [eG]; exact ⟨c0.2, c0.1⟩
    exact b_askL h hM (fun Q => (hc Q).trans (by rw [if_pos c0])) fun m1 e Q => (hm m1 e Q).trans (by rw [e, if_pos c0', ask_total hok.r c0.1])
  · have c0' : ¬ ((v = -1 ∨ (0 ≤ v ∧ v < z_I M 22 0 1)) ∧ ¬ (w < 0 ∨ 1 < w)) := by rw [eG]; exact fun u => c0 ⟨u.2, u.1⟩
    exact b_askL h hM (fun Q => (hc Q).trans (by rw [if_neg c0])) fun m1 e Q => (hm m1 e Q).trans (by rw [e, if_neg c0'])
-- 26 ofStore
theorem st_102 (h : Iv m M) (hM : z_g m 1 = M) : Both 102 200 [zi v, zi w] m := by
  have hok := h.ok
  have eS := RM.nS hok.r
  have hc := fun Q => zs_102 (d := 6) (m := m) (v := v) (w := w) (Q := Q) h.cmok hok.bok
  have hm := fun (m1 : zM) (e : z_g m1 1 = M) (Q : zQ) => zs_200 (d := 5) (m := m1) (v := v) (w := w) (Q := Q) (by rw [e]; exact h.mok)
  by_cases c0 : 0 ≤ v ∧ v < z_I (z_g m 2) 0 0 4
  · exact b_ask h hM (fun Q => (hc Q).trans (by rw [if_pos c0])) fun m1 e Q => (hm m1 e Q).trans (by rw [e, eS, if_pos c0, ask_store hok.r (idx_lt c0)])
  · exact b_ask h hM (fun Q => (hc Q).trans (by rw [if_neg c0])) fun m1 e Q => (hm m1 e Q).trans (by rw [e, eS, if_neg c0])
-- 27 ofLoad
theorem st_103 (h : Iv m M) (hM : z_g m 1 = M) : Both 103 201 [zi v, zi w] m := by
  have hok := h.ok
  have eL := RM.nL hok.r
  have hc := fun Q => zs_103 (d := 5) (m := m) (v := v) (w := w) (Q := Q) h.cmok hok.bok
  have hm := fun (m1 : zM) (e : z_g m1 1 = M) (Q : zQ) => zs_201 (d := 4) (m := m1) (v := v) (w := w) (Q := Q) (by rw [e]; exact h.mok)
  by_cases c0 : 0 ≤ v ∧ v < z_I (z_g m 2) 0 0 5
  · exact b_ask h hM (fun Q => (hc Q).trans (by rw [if_pos c0])) fun m1 e Q => (hm m1 e Q).trans (by rw [e, eL, if_pos c0, ask_load hok.r hok.ia (idx_lt c0)])
  · exact b_ask h hM (fun Q => (hc Q).trans (by rw [if_neg c0])) fun m1 e Q => (hm m1 e Q).trans (by rw [e, eL, if_neg c0])
-- 28 sums
theorem st_104 (h : Iv m M) (hM : z_g m 1 = M) : BothL 104 202 [zi v, zi w] m := by
  have hok := h.ok
  have eL := RM.nL hok.r
  have hc := fun Q => zs_104 (d := 7) (m := m) (v := v) (w := w) (Q := Q) h.cmok
  have hm := fun (m1 : zM) (e : z_g m1 1 = M) (Q : zQ) => zs_202 (d := 6) (m := m1) (v := v) (w := w) (Q := Q) (by rw [e]; exact h.mok)
  by_cases c0 : (0 ≤ v ∧ v < z_I (z_g m 2) 0 0 5) ∧ ¬ (w < 0 ∨ 1 < w)
  · exact b_askL h hM (fun Q => (hc Q).trans (by rw [if_pos c0])) fun m1 e Q => (hm m1 e Q).trans (by rw [e, eL, if_pos c0, ask_sums hok.r (idx_lt c0.1) c0.2])
  · exact b_askL h hM (fun Q => (hc Q).trans (by rw [if_neg c0])) fun m1 e Q => (hm m1 e Q).trans (by rw [e, eL, if_neg c0])
-- 29 held
theorem st_105 (h : Iv m M) (hM : z_g m 1 = M) : Both 105 203 [zi v, zi w] m := by
  have hok := h.ok
  have eL := RM.nL hok.r
  have eG := RM.nG hok.r
  have g4 := hok.r.G4
  have hc := fun Q => zs_105 (d := 7) (m := m) (v := v) (w := w) (Q := Q) h.cmok
  have hm := fun (m1 : zM) (e : z_g m1 1 = M) (Q : zQ) => zs_203 (d := 6) (m := m1) (v := v) (w := w) (Q := Q) (by rw [e]; exact h.mok)
  by_cases c0 : (0 ≤ v ∧ v < z_I (z_g m 2) 0 0 5) ∧ (0 ≤ w ∧ w < z_I (z_g m 2) 0 0 3)
  · have hw : w.toNatClampNeg < cG (z_g m 2) := idx_lt c0.2
    exact b_ask h hM (fun Q => (hc Q).trans (by rw [if_pos c0])) fun m1 e Q => (hm m1 e Q).trans (by rw [e, eL, eG, if_pos c0, RM.lh hok.r (idx_lt c0.1) (by omega)])
  · exact b_ask h hM (fun Q => (hc Q).trans (by rw [if_neg c0])) fun m1 e Q => (hm m1 e Q).trans (by rw [e, eL, eG, if_neg c0])
-- 30 rateOn
theorem st_106 (h : Iv m M) (hM : z_g m 1 = M) : Both 106 204 [zi v, zi w] m := by
  have hok := h.ok
  have hc := fun Q => zs_106 (d := 7) (m := m) (v := v) (w := w) (Q := Q) hok.bok
  have hm := fun (m1 : zM) (e : z_g m1 1 = M) (Q : zQ) => zs_204 (d := 6) (m := m1) (v := v) (w := w) (Q := Q) (by rw [e]; exact h.mok)
  by_cases c0 : (0 ≤ v ∧ v < 5) ∧ ¬ (w < 0 ∨ 9999 < w)
  · exact b_ask h hM (fun Q => (hc Q).trans (by rw [if_pos c0])) fun m1 e Q => (hm m1 e Q).trans (by rw [e, if_pos c0, (hok.r.rt (idx_5 c0.1)).rate])
  · exact b_ask h hM (fun Q => (hc Q).trans (by rw [if_neg c0])) fun m1 e Q => (hm m1 e Q).trans (by rw [e, if_neg c0])
-- 31 allowance
theorem st_107 (h : Iv m M) (hM : z_g m 1 = M) : Both 107 205 [zi v, zi w, zi a] m := by
  have hok := h.ok
  have hc := fun Q => zs_107 (d := 6) (m := m) (v := v) (w := w) (a := a) (Q := Q)
  have hm := fun (m1 : zM) (e : z_g m1 1 = M) (Q : zQ) => zs_205 (d := 6) (m := m1) (v := v) (w := w) (a := a) (Q := Q)
  by_cases c0 : (0 ≤ v ∧ v < 5) ∧ ¬ (w < 0 ∨ 9999 < w) ∧ ¬ (a < 0 ∨ 999 < a)
  · exact b_ask h hM (fun Q => (hc Q).trans (by rw [if_pos c0])) fun m1 e Q => (hm m1 e Q).trans (by rw [e, if_pos c0, RM.allow hok.r (idx_5 c0.1)])
  · exact b_ask h hM (fun Q => (hc Q).trans (by rw [if_neg c0])) fun m1 e Q => (hm m1 e Q).trans (by rw [e, if_neg c0])
-- 32 listed
set_option maxRecDepth 100000 in
set_option maxHeartbeats 4000000 in
theorem zs_108z (e0 : ¬ v = 0) (e1 : ¬ v = 1) (e2 : ¬ v = 2) : z_call (d + 4) 108 [zr (some (5, 0, 0)), zi v, zi w] m Q = Q (some (zi (-1))) m := by
  have e6 : w < 0 ∨ 0 - 1 < w := by
    by_cases q : w < 0
    · exact .inl q
    · refine .inr (Int32.lt_of_lt_of_le (b := 0) (by decide) (Int32.not_lt.mp q))
  simp only [↓zen_108, ↓zu_108_0, ↓zu_108_17, ↓zu_108_33, ↓zu_108_46, ↓zu_108_61, ↓zu_108_69, ↓zx_nil, ↓zx_cons, ↓zp_li, ↓zp_ll, ↓zp_lr, ↓zq_li0, ↓zq_li1, ↓zq_ll0, ↓zq_ll1, ↓zq_lr0, ↓zq_lr1, ↓zk_0, ↓zk_1n, ↓zk_1i, ↓zk_1r, ↓zk_1l, ↓zk_2, zp_okt, ↓zp_okl, zp_sh0, zp_sh1, zp_psn, zp_pss, ↓zp_ri1, ↓zp_ri20, ↓zp_ri21, ↓zp_rl, ↓zp_ra, ↓zp_rv, ↓zp_br, ↓reduceIte, Nat.reduceAdd, Nat.zero_add, Nat.add_zero, Nat.le_refl, Nat.zero_le, ↓zx_iconst, ↓zy_istore_3, ↓zx_iload_1, ↓zy_if_ne, ↓zx_aload_0, ↓zyg_5_0, ↓zyc_4, ↓zx_goto, ↓zy_ic_ne, ↓zyc_39, ↓zyc_40, ↓zx_iload_2, ↓zx_iload_3, ↓zy_isub, ↓zyc_71, ↓zy_if_eq, ↓zyc_6, ↓zx_iret, z_i10, z_10, z_00, and_self, not_true_eq_false, not_false_eq_true, true_and, and_true, false_and, and_false, true_or, false_or, or_false, or_true, or_self, if_true, if_false, ite_self, ↓zs_72, e0, e1, e2, ↓zs_71, e6]
theorem mRow_iv (h : Iv m M) : Iv (mRow m v) M ∧ z_g (mRow m v) 1 = z_g m 1 := by
  have hL := h.ok.r.L40
  unfold mRow
  by_cases e0 : v = 0
  · rw [if_pos e0]
    exact ⟨h.row cLUpW_rw.alk, z_g_sn (by decide)⟩
  · rw [if_neg e0]
    by_cases e1 : v = 1
    · rw [if_pos e1]
      obtain ⟨n, K, h1, -⟩ := row_G hL h.ok.ia
      exact ⟨h.row h1.alk, z_g_sn (by decide)⟩
    · rw [if_neg e1]
      by_cases e2 : v = 2
      · rw [if_pos e2]
        obtain ⟨n, K, h1, -⟩ := row_L hL
        exact ⟨h.row h1.alk, z_g_sn (by decide)⟩
      · rw [if_neg e2]; exact ⟨h, rfl⟩
theorem st_108 (h : Iv m M) (hM : z_g m 1 = M) : Both 108 206 [zi v, zi w] m := by
  have hok := h.ok
  have hm := fun (m1 : zM) (e : z_g m1 1 = M) (Q : zQ) => zs_206 (d := 3) (m := m1) (v := v) (w := w) (Q := Q) (by rw [e]; exact h.mok)
  rcases ask_listed (v := v) (w := w) hok with ⟨a1, a2⟩ | ⟨a1, a2⟩
  · obtain ⟨i1, i2⟩ := mRow_iv (v := v) h
    exact both (i2.trans hM) (i1.same .th) (fun Q => zs_108 (d := 5) h.cmok a2) fun m1 e Q => (hm m1 e Q).trans (by rw [e, a1])
  · have e0 : ¬ v = 0 := fun u => a1 (.inl u)
    have e1 : ¬ v = 1 := fun u => a1 (.inr (.inl u))
    have e2 : ¬ v = 2 := fun u => a1 (.inr (.inr u))
    have em : mLst M v w = -1 := by
      unfold mLst
      by_cases q : w < 0
      · rw [if_pos q]
      · rw [if_neg q, if_neg e0, if_neg e1, if_neg e2]
    exact b_ask h hM (fun Q => zs_108z (d := 5) e0 e1 e2) fun m1 e Q => (hm m1 e Q).trans (by rw [e, em])
-- 33 room
theorem st_109 (h : Iv m M) (hM : z_g m 1 = M) : Both 109 210 [zi v, zi w, zi a] m := by
  have hok := h.ok
  have eS := RM.nS hok.r
  have hc := fun Q => zs_109 (d := 6) (m := m) (v := v) (w := w) (a := a) (Q := Q) h.cmok hok.bok
  have hm := fun (m1 : zM) (e : z_g m1 1 = M) (Q : zQ) => zs_210 (d := 5) (m := m1) (v := v) (w := w) (a := a) (Q := Q) (by rw [e]; exact h.mok)
  by_cases c0 : (0 ≤ v ∧ v < z_I (z_g m 2) 0 0 4) ∧ (0 ≤ w ∧ w < 5) ∧ ¬ (a < 1 ∨ 90 < a)
  · exact b_ask h hM (fun Q => (hc Q).trans (by rw [if_pos c0])) fun m1 e Q => (hm m1 e Q).trans (by rw [e, eS, if_pos c0, ask_room hok.r hok.ia (idx_lt c0.1) (idx_5 c0.2.1) (rng c0.2.2)])
  · exact b_ask h hM (fun Q => (hc Q).trans (by rw [if_neg c0])) fun m1 e Q => (hm m1 e Q).trans (by rw [e, eS, if_neg c0])
-- 34 cheapest
theorem st_110 (h : Iv m M) (hM : z_g m 1 = M) : Both 110 211 [zi v, zi w, zi a] m := by
  have hok := h.ok
  have dy := hok.ia.dy
  have hc := fun Q => zs_110 (d := 5) (m := m) (v := v) (w := w) (a := a) (Q := Q) hok.bok
  have hm := fun (m1 : zM) (e : z_g m1 1 = M) (Q : zQ) => zs_211 (d := 5) (m := m1) (v := v) (w := w) (a := a) (Q := Q) (by rw [e]; exact h.mok) (by rw [e, RM.day hok.r]; exact nn_of dy.1 (by omega))
  by_cases c0 : (0 ≤ v ∧ v < 5) ∧ ¬ (w < 1 ∨ 180 < w) ∧ ¬ (a < 0 ∨ 1 < a)
  · exact b_ask h hM (fun Q => (hc Q).trans (by rw [if_pos c0])) fun m1 e Q => (hm m1 e Q).trans (by rw [e, if_pos c0, ask_cheap hok.r hok.ia (idx_5 c0.1) (rng c0.2.1)])
  · exact b_ask h hM (fun Q => (hc Q).trans (by rw [if_neg c0])) fun m1 e Q => (hm m1 e Q).trans (by rw [e, if_neg c0])
-- 35 behind
theorem st_111 (h : Iv m M) (hM : z_g m 1 = M) : Both 111 212 [zi v, zi w] m := by
  have hok := h.ok
  have eG := RM.nG hok.r
  have hc := fun Q => zs_111 (d := 6) (m := m) (v := v) (w := w) (Q := Q) h.cmok
  have hm := fun (m1 : zM) (e : z_g m1 1 = M) (Q : zQ) => zs_212 (d := 5) (m := m1) (v := v) (w := w) (Q := Q) (by rw [e]; exact h.mok)
  by_cases c0 : 0 ≤ v ∧ v < z_I (z_g m 2) 0 0 3
  · have hb := ask_behind (w := w) hok.r hok.ia (show v.toNatClampNeg < cG (z_g m 2) from idx_lt c0)
    by_cases c1 : ¬ (w < 0 ∨ 3 < w)
    · rw [if_pos c1] at hb
      exact b_ask h hM (fun Q => (hc Q).trans (by rw [if_pos c0])) fun m1 e Q => (hm m1 e Q).trans (by rw [e, eG, if_pos ⟨c0, c1⟩, hb])
    · rw [if_neg c1] at hb
      exact b_ask h hM (fun Q => (hc Q).trans (by rw [if_pos c0])) fun m1 e Q => (hm m1 e Q).trans (by rw [e, eG, if_neg (fun u => c1 u.2), hb])
  · exact b_ask h hM (fun Q => (hc Q).trans (by rw [if_neg c0])) fun m1 e Q => (hm m1 e Q).trans (by rw [e, eG, if_neg (fun u => c0 u.1)])
-- 41 dutyIf
theorem st_121 (h : Iv m M) (hM : z_g m 1 = M) : Both 121 221 [zi v, zi w, zi a] m := by
  have hok := h.ok
  have eL := RM.nL hok.r
  have hc := fun Q => zs_121 (d := 5) (m := m) (v := v) (w := w) (a := a) (Q := Q) h.cmok hok.bok
  have hm := fun (m1 : zM) (e : z_g m1 1 = M) (Q : zQ) => zs_221 (d := 5) (m := m1) (v := v) (w := w) (a := a) (Q := Q) (by rw [e]; exact h.mok)
  by_cases c0 : 0 ≤ v ∧ v < z_I (z_g m 2) 0 0 5
  · have hl : v.toNatClampNeg < cL (z_g m 2) := idx_lt c0
    have E : ((mSt M v.toNatClampNeg = 1) ∧ ¬ (w < 0 ∨ mRest M v.toNatClampNeg < w) ∧ ¬ (a < (z_I M 22 0 (211 + 17 * v.toNatClampNeg + 7)) ∨ mMin ((z_I M 22 0 (0))) (mLat M v.toNatClampNeg) < a)) ↔ ((z_I (z_g m 2) 3 v.toNatClampNeg 0 = 1) ∧ ¬ (w < 0 ∨ cRest (z_g m 2) v.toNatClampNeg < w) ∧ (z_I (z_g m 2) 3 v.toNatClampNeg 7 ≤ a ∧ a ≤ cLastOut (z_g m 2) v.toNatClampNeg)) := by
      rw [RM.st hok.r hl, RM.rest hok.r hl]
      constructor
      · rintro ⟨u1, u2, u3⟩
        rw [RM.lbg hok.r hl u1, RM.lout hok.r hl u1] at u3
        exact ⟨u1, u2, Int32.not_lt.mp fun q => u3 (.inl q), Int32.not_lt.mp fun q => u3 (.inr q)⟩
      · rintro ⟨u1, u2, u3, u4⟩
        rw [RM.lbg hok.r hl u1, RM.lout hok.r hl u1]
        exact ⟨u1, u2, fun q => q.elim (Int32.not_lt.mpr u3) (Int32.not_lt.mpr u4)⟩
    by_cases c1 : (z_I (z_g m 2) 3 v.toNatClampNeg 0 = 1) ∧ ¬ (w < 0 ∨ cRest (z_g m 2) v.toNatClampNeg < w) ∧ (z_I (z_g m 2) 3 v.toNatClampNeg 7 ≤ a ∧ a ≤ cLastOut (z_g m 2) v.toNatClampNeg)
    · exact b_ask h hM (fun Q => (hc Q).trans (by rw [if_pos ⟨c0, c1⟩])) fun m1 e Q => (hm m1 e Q).trans (by rw [e, eL, if_pos c0, if_pos (E.mpr c1), ask_duty hok.r hok.ia hl c1.1])
    · exact b_ask h hM (fun Q => (hc Q).trans (by rw [if_neg (fun u => c1 u.2)])) fun m1 e Q => (hm m1 e Q).trans (by rw [e, eL, if_pos c0, if_neg (fun u => c1 (E.mp u))])
  · exact b_ask h hM (fun Q => (hc Q).trans (by rw [if_neg (fun u => c0 u.1)])) fun m1 e Q => (hm m1 e Q).trans (by rw [e, eL, if_neg c0])
-- 42 dayOf
theorem out_b {B : Int} {T : Nat} (h : Ok B T S M) (hl : l < cL S) (hs : z_I S 3 l 0 = 1) : 0 ≤ (z_I S 3 l 7).toInt ∧ (z_I S 3 l 7).toInt ≤ (cLastOut S l).toInt ∧ (cLastOut S l).toInt ≤ 9999 := by
  have d7 := (h.ia.ld hl).2.2.2.2.2.2.2.2 hs
  have d5 := (h.ia.ld hl).2.2.2.2.1
  have lt := h.ia.lat hl hs
  have dy := h.ia.dy
  unfold cLastOut
  by_cases u : cLatest S l < z_I S 0 0 0
  · rw [if_pos u]; rw [i_lt] at u; omega
  · rw [if_neg u]; omega
theorem st_122 (h : Iv m M) (hM : z_g m 1 = M) : Both 122 222 [zi v, zi w] m := by
  have hok := h.ok
  have eL := RM.nL hok.r
  have ob := fun (q : 0 ≤ v ∧ v < z_I (z_g m 2) 0 0 5) (u : z_I (z_g m 2) 3 v.toNatClampNeg 0 = 1) => out_b hok (show v.toNatClampNeg < cL (z_g m 2) from idx_lt q) u
  have hc := fun Q => zs_122 (d := 6) (m := m) (v := v) (w := w) (Q := Q) h.cmok hok.bok
  have hm := fun (m1 : zM) (e : z_g m1 1 = M) (Q : zQ) => zs_222 (B := (z_I (z_g m 2) 3 v.toNatClampNeg 7).toNatClampNeg) (E := (cLastOut (z_g m 2) v.toNatClampNeg).toNatClampNeg) (d := 5) (m := m1) (v := v) (w := w) (Q := Q) (by rw [e]; exact h.mok) (by
    rw [e, eL]
    intro q1 q2
    have hl : v.toNatClampNeg < cL (z_g m 2) := idx_lt q1
    rw [RM.st hok.r hl] at q2
    rw [RM.lbg hok.r hl q2, RM.lout hok.r hl q2]
    obtain ⟨o1, o2, o3⟩ := ob q1 q2
    have n1 := nI_is (v := z_I (z_g m 2) 3 v.toNatClampNeg 7) (by omega)
    have n2 := nI_is (v := cLastOut (z_g m 2) v.toNatClampNeg) (by omega)
    exact ⟨n1.1, n2.1, by omega, by omega⟩)
  by_cases c0 : 0 ≤ v ∧ v < z_I (z_g m 2) 0 0 5
  · have hl : v.toNatClampNeg < cL (z_g m 2) := idx_lt c0
    by_cases c1 : (z_I (z_g m 2) 3 v.toNatClampNeg 0 = 1) ∧ ¬ (w < 0 ∨ 1 < w)
    · have c1' : (mSt M v.toNatClampNeg = 1) ∧ ¬ (w < 0 ∨ 1 < w) := by rw [RM.st hok.r hl]; exact c1
      obtain ⟨o1, o2, o3⟩ := ob c0 c1.1
      have n1 := nI_is (v := z_I (z_g m 2) 3 v.toNatClampNeg 7) (by omega)
      have n2 := nI_is (v := cLastOut (z_g m 2) v.toNatClampNeg) (by omega)
      have r := rng c1.2
      have z0 : (0 : Int32).toInt = 0 := rfl
      have z1 : (1 : Int32).toInt = 1 := rfl
      have w01 : w = 0 ∨ w = 1 := by rw [i_eq, i_eq]; omega
      have ad := ask_dayOf (w := w) (k := cKd (z_g m 2) v.toNatClampNeg) (D := (z_I (z_g m 2) 3 v.toNatClampNeg 7).toNatClampNeg) (n := (cLastOut (z_g m 2) v.toNatClampNeg).toNatClampNeg - (z_I (z_g m 2) 3 v.toNatClampNeg 7).toNatClampNeg) hok.r hok.ia (hok.ia.k5 hl) (by omega) w01
      rw [show (z_I (z_g m 2) 3 v.toNatClampNeg 7).toNatClampNeg + ((cLastOut (z_g m 2) v.toNatClampNeg).toNatClampNeg - (z_I (z_g m 2) 3 v.toNatClampNeg 7).toNatClampNeg) = (cLastOut (z_g m 2) v.toNatClampNeg).toNatClampNeg by omega, ← n2.1] at ad
      have ad2 := ad.trans (congrArg (fun z => cExt (z_g m 2) (cKd (z_g m 2) v.toNatClampNeg) z (cLastOut (z_g m 2) v.toNatClampNeg) (decide (w = 1))) n1.1.symm)
      exact b_ask h hM (fun Q => (hc Q).trans (by rw [if_pos ⟨c0, c1.2, c1.1⟩])) fun m1 e Q => (hm m1 e Q).trans (by rw [e, eL, if_pos c0, if_pos c1', RM.kd hok.r hl, ad2])
    · have c1' : ¬ ((mSt M v.toNatClampNeg = 1) ∧ ¬ (w < 0 ∨ 1 < w)) := by rw [RM.st hok.r hl]; exact c1
      exact b_ask h hM (fun Q => (hc Q).trans (by rw [if_neg (fun u => c1 ⟨u.2.2, u.2.1⟩)])) fun m1 e Q => (hm m1 e Q).trans (by rw [e, eL, if_pos c0, if_neg c1'])
  · exact b_ask h hM (fun Q => (hc Q).trans (by rw [if_neg (fun u => c0 u.1)])) fun m1 e Q => (hm m1 e Q).trans (by rw [e, eL, if_neg c0])
-- 44 status
theorem st_124 (h : Iv m M) (hM : z_g m 1 = M) : Both 124 225 [] m :=
  b_ask h hM (fun Q => zs_124 (d := 8)) fun m1 e Q => (zs_225 (d := 8)).trans (by rw [e, h.sb.1])
end St7
