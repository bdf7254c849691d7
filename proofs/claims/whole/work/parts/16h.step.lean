set_option maxHeartbeats 400000
/-! ===== A CALL OF BOTH: count, freed, lacks, best, explains, would ===== -/
section St8
variable {d i k g s l t q n p j : Nat} {v w a b c e f x y : Int32} {m m1 : zM} {M M' S S' N X Y P : zS} {Q : zQ}
-- 43 count
theorem ask_count (h : Iv m M) : mQC M v = qCount (z_g m 2) (z_g m 0) v := by
  have hr := h.ok.r
  have rb := h.sb.2
  unfold RB at rb
  have z0 : (0 : Int32).toInt = 0 := rfl
  have z3 : (3 : Int32).toInt = 3 := rfl
  have z4 : (4 : Int32).toInt = 4 := rfl
  have z8 : (8 : Int32).toInt = 8 := rfl
  unfold mQC qCount
  by_cases r : 0 ≤ v.toInt ∧ v.toInt ≤ 18
  · obtain ⟨e1, e2⟩ := nI_is r.1
    have hq := z_ch_get (D := (-1 : Int32)) [z_I (z_g m 2) 0 0 0, z_I (z_g m 2) 0 0 3, z_I (z_g m 2) 0 0 4, z_I (z_g m 2) 0 0 5, cCnt (z_g m 2) (v - 4) (cL (z_g m 2)) 0 0, cCnt (z_g m 2) (v - 4) (cL (z_g m 2)) 0 0, cCnt (z_g m 2) (v - 4) (cL (z_g m 2)) 0 0, cCnt (z_g m 2) (v - 4) (cL (z_g m 2)) 0 0, cCnt (z_g m 2) (v - 4) (cL (z_g m 2)) 0 0, cSumG (z_g m 2) 1 (cG (z_g m 2)) 0 0, cSumG (z_g m 2) 2 (cG (z_g m 2)) 0 0, cStk (z_g m 2) (cS (z_g m 2)) 0 0, z_I (z_g m 0) 5 0 6, z_I (z_g m 2) 0 0 1, z_I (z_g m 2) 0 0 2, z_I (z_g m 0) 5 0 8, z_I (z_g m 0) 5 0 9, z_I (z_g m 0) 5 0 10, z_I (z_g m 0) 5 0 11] 0 v.toNatClampNeg (by omega)
    rw [Nat.zero_add, ← e1] at hq
    rw [hq]
    have hd : mQCd M v = if ¬ (v < 0 ∨ 3 < v) then z_I M 22 0 v.toNatClampNeg else if ¬ (v < 4 ∨ 8 < v) then mMany M (v - 4) else -1 := rfl
    have hm := fun (q : 9 ≤ v.toNatClampNeg) => z_ch_get (D := mQCd M v) [mAllOf M 1, mAllOf M 2, mStk M, z_I M 6 0 8, z_I M 22 0 4, z_I M 22 0 5, z_I M 21 0 1, z_I M 21 0 2, z_I M 21 0 4, z_I M 21 0 5] 9 (v.toNatClampNeg - 9) (by omega)
    generalize v.toNatClampNeg = n at *
    by_cases n9 : n < 9
    · rw [z_ch_out _ 9 (fun k hk => by
        have hk' : k < 10 := hk
        rw [Ne, i_eq, i_nI (by omega)]
        omega), hd]
      by_cases n4 : n < 4
      · rw [if_pos (by rw [i_lt, i_lt]; omega)]
        have hn : n = 0 ∨ n = 1 ∨ n = 2 ∨ n = 3 := by omega
        rcases hn with rfl | rfl | rfl | rfl
        · exact RM.day hr
        · exact RM.nG hr
        · exact RM.nS hr
        · exact RM.nL hr
      · rw [if_neg (by rw [i_lt, i_lt]; omega), if_pos (by rw [i_lt, i_lt]; omega), ← cCnt_is hr]
        have hn : n = 4 ∨ n = 5 ∨ n = 6 ∨ n = 7 ∨ n = 8 := by omega
        rcases hn with rfl | rfl | rfl | rfl | rfl <;> rfl
    · have hm := hm (by omega)
      rw [show 9 + (n - 9) = n by omega, ← e1] at hm
      rw [hm]
      have hn : n = 9 ∨ n = 10 ∨ n = 11 ∨ n = 12 ∨ n = 13 ∨ n = 14 ∨ n = 15 ∨ n = 16 ∨ n = 17 ∨ n = 18 := by omega
      rcases hn with rfl | rfl | rfl | rfl | rfl | rfl | rfl | rfl | rfl | rfl
      · exact (cSumG_is hr (by omega)).symm
      · exact (cSumG_is hr (by omega)).symm
      · exact (cStk_is hr).symm
      · exact h.kb.2.1
      · exact RM.grace hr
      · exact RM.strict hr
      · exact rb.1
      · exact rb.2.1
      · exact rb.2.2.1
      · exact rb.2.2.2
  · have o := Int32.toInt_lt v
    rw [z_ch_out _ 9 (fun k hk => by
        have hk' : k < 10 := hk
        rw [Ne, i_eq, i_nI (by omega)]
        omega), z_ch_out _ 0 (fun k hk => by
        have hk' : k < 19 := hk
        rw [Ne, i_eq, i_nI (by omega)]
        omega)]
    unfold mQCd
    rw [if_neg (by rw [i_lt, i_lt]; omega), if_neg (by rw [i_lt, i_lt]; omega)]
theorem st_123 (h : Iv m M) (hM : z_g m 1 = M) : Both 123 223 [zi v] m :=
  b_ask h hM (fun Q => zs_123 (d := 7) h.cmok) fun m1 e Q => (zs_223 (d := 5) (by rw [e]; exact h.mok)).trans (by rw [e, ask_count h])
-- paper
theorem pap_alk (h : Iv m M) : Alk (z_g m 2) (z_g (mPaper m).2 (mPaper m).1) := by
  obtain ⟨-, -, -, -, ⟨S0, b5⟩, -⟩ := mCz_b h.dy 0
  rw [show z_g (mPaper m).2 (mPaper m).1 = cpBk S0 (z_g m 2) from b5]
  exact .cp
-- 36 freed
theorem frd_sim (h : OK P M) (hg : g < cG P) (hw : 1 ≤ w.toInt ∧ w.toInt ≤ 9999999) : Ok 19999998 12 (z_uI P 1 g 0 (z_I P 1 g 0 + w)) (mFd2 M g w) := by
  have gu := h.ia.gu hg
  have h0 := h.ia.hd0 h.r.G4 hg
  have hb := h.monoB (B' := 19999998) (by omega) (by omega)
  unfold iGu at gu
  have el : (z_I P 1 g 0 + w).toInt = (z_I P 1 g 0).toInt + w.toInt := i_add (by omega) (by omega)
  have eM : z_I M 22 0 (6 + 3 * g) = z_I P 1 g 0 := RM.gu (q := 0) h.r hg (by omega)
  unfold mFd2
  rw [eM]
  exact sim_limit (hb.mo (fun j _ => mFd1_r) (fun j _ => by rw [mLay_J (by decide)]; rfl)) hg (by omega) (by omega)
theorem st_112 (h : Iv m M) (hM : z_g m 1 = M) : Both 112 213 [zi v, zi w] m := by
  have hok := h.ok
  have eG := RM.nG hok.r
  have hP := h.pap0
  have ha := pap_alk h
  obtain ⟨t1, t2, -, -⟩ := h.pap (qFrS (z_g (mPaper m).2 (mPaper m).1) v.toNatClampNeg w)
  have t1 : Iv (mFreed m v.toNatClampNeg w) M := t1
  have t2 : z_g (mFreed m v.toNatClampNeg w) 1 = M := t2.trans hM
  generalize hPe : z_g (mPaper m).2 (mPaper m).1 = P at hP ha
  have z1 : (1 : Int32).toInt = 1 := rfl
  have z9 : (9999999 : Int32).toInt = 9999999 := rfl
  have sim : (0 ≤ v ∧ v < z_I (z_g m 2) 0 0 3) → ¬ (w < 1 ∨ 9999999 < w) → Ok 19999998 12 (z_uI P 1 v.toNatClampNeg 0 (z_I P 1 v.toNatClampNeg 0 + w)) (mFd2 M v.toNatClampNeg w) := fun q1 q2 => by
    have r := rng q2
    have hg : v.toNatClampNeg < cG (z_g m 2) := idx_lt q1
    exact frd_sim hP (by rw [ha.G]; exact hg) (by omega)
  have hc := fun Q => zs_112 (d := 4) (m := m) (v := v) (w := w) (Q := Q) h.cmok fun q1 q2 => by
    rw [hPe]
    have ho := sim q1 q2
    refine ⟨ho.tok, ?_⟩
    unfold qFrS
    exact (sim_turns ho).1.cn.2.2
  rw [hPe] at hc
  have hm := fun (m1 : zM) (e : z_g m1 1 = M) (Q : zQ) => zs_213 (d := 3) (m := m1) (v := v) (w := w) (Q := Q) (by rw [e]; exact h.mok) (by
    rw [e, eG]
    intro q
    have hg : v.toNatClampNeg < cG (z_g m 2) := idx_lt q
    have g4 := hok.r.G4
    exact mBok_up (j := 6 + 3 * v.toNatClampNeg) (by unfold mSkj; omega) (mBok_co (M := M) (fun j _ _ => mFd1_r) hok.mbok))
  by_cases c0 : (0 ≤ v ∧ v < z_I (z_g m 2) 0 0 3) ∧ ¬ (w < 1 ∨ 9999999 < w)
  · obtain ⟨s1, s2⟩ := sim_turns (sim c0.1 c0.2)
    have hL : cL (z_uI P 1 v.toNatClampNeg 0 (z_I P 1 v.toNatClampNeg 0 + w)) = cL P := by unfold cL; rw [z_I_o (by decide)]
    have e5 : z_I (qFrS P v.toNatClampNeg w) 0 0 5 = z_I (z_g m 2) 0 0 5 := by
      unfold qFrS
      rw [cTurns_5, z_I_o (by decide)]
      exact ha.hd (by omega)
    have eF : cL (qFrS P v.toNatClampNeg w) = cL (z_g m 2) := congrArg Int32.toNatClampNeg e5
    have hf := cnt_freed (S := z_g m 2) (F := qFrS P v.toNatClampNeg w) hok.r.L40 eF (fun l hl => by
      have e0 : z_I (z_uI P 1 v.toNatClampNeg 0 (z_I P 1 v.toNatClampNeg 0 + w)) 3 l 0 = z_I (z_g m 2) 3 l 0 := by
        rw [z_I_o (by decide)]
        exact ha.1 3 l 0 (.inr (.inr (.inr (.inr (.inl ⟨rfl, hl, by omega⟩)))))
      have := s2.2 l
      rw [e0] at this
      exact this)
    have em : mMany M 0 - mMany (mFd3 M v.toNatClampNeg w) 0 = qFreed P (z_g m 2) v.toNatClampNeg w := by
      have e1 := cCnt_is (v := 0) hok.r
      have e2 : cCnt (qFrS P v.toNatClampNeg w) 0 (cL (qFrS P v.toNatClampNeg w)) 0 0 = mMany (mFd3 M v.toNatClampNeg w) 0 := cCnt_is s1.r
      unfold qFreed
      rw [hf, e1, e2]
    exact both t2 (t1.same (kS.back (.tr (N := mFd2 M v.toNatClampNeg w) .u22 .turns))) (fun Q => (hc Q).trans (by rw [if_pos c0])) fun m1 e Q => (hm m1 e Q).trans (by rw [e, eG, if_pos c0, em]; rfl)
  · exact b_ask h hM (fun Q => (hc Q).trans (by rw [if_neg c0])) fun m1 e Q => (hm m1 e Q).trans (by rw [e, eG, if_neg c0])
-- 37 lacks
theorem st_113 (h : Iv m M) (hM : z_g m 1 = M) : Both 113 214 [zi v] m := by
  have hok := h.ok
  have eG := RM.nG hok.r
  obtain ⟨o0, a1, a2, -, a4⟩ := ask_lacks (v := 0) hok (by decide)
  have hc := fun Q => zs_113 (d := 5) (m := m) (v := v) (Q := Q) h.cmok hok.rowW.2 a4
  by_cases c0 : 0 ≤ v ∧ v < z_I (z_g m 2) 0 0 3
  · obtain ⟨o, b1, b2, b3, -⟩ := ask_lacks hok c0.1
    have hm := fun (m1 : zM) (e : z_g m1 1 = M) (Q : zQ) => zs_214 (d := 4) (m := m1) (v := v) (Q := Q) (by rw [e]; exact h.mok) o (by rw [e]; exact b1) (by rw [e]; exact b2)
    exact both ((z_g_sn (by decide)).trans hM) ((h.row cLUpW_rw.alk).same .th) (fun Q => (hc Q).trans (by rw [if_pos c0])) fun m1 e Q => (hm m1 e Q).trans (by rw [e, eG, if_pos c0, b3])
  · have hm := fun (m1 : zM) (e : z_g m1 1 = M) (Q : zQ) => zs_214 (d := 4) (m := m1) (v := v) (Q := Q) (by rw [e]; exact h.mok) o0 (by rw [e]; exact a1) (by rw [e]; exact a2)
    exact b_ask h hM (fun Q => (hc Q).trans (by rw [if_neg c0])) fun m1 e Q => (hm m1 e Q).trans (by rw [e, eG, if_neg c0])
-- 38 best
theorem kS.set (h : kS M X) {z : Nat} : kS M (mSetA X z v) := by
  unfold mSetA
  refine ⟨sR.tr ⟨fun j _ => by rw [z_I_o (by decide), z_I_o (by decide)], fun _ _ => rfl⟩ h.1, h.2.1.tr ⟨fun k f hk => by rw [z_I_u, if_neg (by omega), z_I_u, if_neg (by omega)], fun _ _ _ => rfl⟩, ?_⟩
  rw [z_I_u, if_neg (by omega), z_I_u, if_neg (by omega)]; exact h.2.2
theorem kS.bs0 : kS M (mBs0 M) := by
  refine ⟨sR.tr ⟨fun j _ => z_I_o (by decide), fun _ _ => rfl⟩ kS.th.1, kS.th.2.1.tr ⟨fun k f hk => by rw [z_I_u, if_neg (by omega)], fun _ _ _ => rfl⟩, ?_⟩
  rw [z_I_u, if_neg (by omega)]; exact kS.th.2.2
theorem kS.bsG : ∀ (L : List Nat) (z : Nat) (X : zS), kS M X → kS M (mBsG N v L z X).2
  | [], _, _, h => h
  | l :: L, z, X, h => by
    unfold mBsG
    split
    · exact h
    · split
      · exact kS.bsG L _ _ h.set
      · exact kS.bsG L _ _ h
theorem kS.exG : ∀ (L : List Nat) (z : Nat) (X : zS), kS M X → kS M (mExG N L z X).2
  | [], _, _, h => h
  | l :: L, z, X, h => by
    unfold mExG
    split
    · exact h
    · exact kS.exG L _ _ h.set
theorem bst_o {k i f : Nat} (hk : k ≠ 20) : ∀ (n j z : Nat) (X : zS), z_I (qBestS S v n j z X).2 k i f = z_I X k i f
  | 0, _, _, _ => rfl
  | n + 1, j, z, X => by
    unfold qBestS
    split
    · rfl
    · split
      · rw [bst_o hk n (j + 1), z_I_o hk]
      · exact bst_o hk n (j + 1) z X
theorem exs_o {k i f : Nat} (hk : k ≠ 20) : ∀ (n j : Nat) (X : zS), z_I (qExS S n j X) k i f = z_I X k i f
  | 0, _, _ => rfl
  | n + 1, j, X => by
    show z_I (qExS S n (j + 1) (z_uI X 20 0 j (cRest S (cRw S j)))) k i f = _
    rw [exs_o hk n (j + 1), z_I_o hk]
theorem Iv.bst (h : Iv m M) (ha : Alk (z_g m 2) Y) (hX : ∀ k i f, k ≠ 20 → z_I X k i f = z_I (z_g m 0) k i f) : Iv (mBst m Y X) M ∧ z_g (mBst m Y X) 1 = z_g m 1 := by
  refine ⟨(h.row ha).reg0 (fun k i f hk => by rw [z_g_02]; exact hX k i f hk), ?_⟩
  rw [z_g_sn (by decide), z_g_sn (by decide)]
theorem wait_any (h : OK S M) : ∃ L : List Nat, L.length ≤ 40 ∧ (∀ j, j ≤ L.length → mWait M (nI j) = oI L[j]?) ∧ ∀ j ∈ L, j < mN M := by
  have hL := h.r.L40
  obtain ⟨n, K, h1, hr⟩ := row_W hL h.ia
  have hnL := hr.2.1
  refine ⟨lsK K 0 n, by rw [lsK_len]; omega, fun j hj => ?_, fun j hj => ?_⟩
  · rw [lsK_len] at hj
    rw [wait_is h.r h.ia hr (by omega), lsK_get, Nat.zero_add]
    by_cases u : j < n
    · rw [if_pos u, if_pos u]; rfl
    · rw [if_neg u, if_neg u]; rfl
  · obtain ⟨i, -, h2, rfl⟩ := lsK_mem n 0 j hj
    rw [RM.mN h.r]; exact (hr.2.2.2.2.1 i (by omega)).1
theorem st_114 (h : Iv m M) (hM : z_g m 1 = M) : Both 114 215 [zi v, zi w] m := by
  have hok := h.ok
  have eG := RM.nG hok.r
  have hc := fun Q => zs_114 (d := 5) (m := m) (v := v) (w := w) (Q := Q) h.cmok hok.rowW.2 hok.rowW.1
  by_cases c0 : (0 ≤ v ∧ v < z_I (z_g m 2) 0 0 3) ∧ ¬ (w < 0 ∨ 1 < w)
  · obtain ⟨L, b1, b2, b3, b4⟩ := ask_best (w := w) (X0 := z_g m 0) hok c0.1
    have hm := fun (m1 : zM) (e : z_g m1 1 = M) (Q : zQ) => zs_215 (d := 4) (m := m1) (v := v) (w := w) (Q := Q) L (by rw [e]; exact h.mok) b1 (by rw [e]; exact b2) (by rw [e]; exact b3)
    obtain ⟨i1, i2⟩ := h.bst (Y := qLk (z_g m 2)) (X := (qBestS (qLk (z_g m 2)) v (qBN (z_g m 2)) 0 0 (z_g m 0)).2) cLUpW_rw.alk (fun k i f hk => bst_o hk _ _ _ _)
    exact both (i2.trans hM) (i1.same (kS.bsG L 0 _ kS.bs0)) (fun Q => (hc Q).trans (by rw [if_pos c0])) fun m1 e Q => (hm m1 e Q).trans (by rw [e, eG, if_pos c0, b4])
  · obtain ⟨L, b1, b2, b3⟩ := wait_any hok
    have hm := fun (m1 : zM) (e : z_g m1 1 = M) (Q : zQ) => zs_215 (d := 4) (m := m1) (v := v) (w := w) (Q := Q) L (by rw [e]; exact h.mok) b1 (by rw [e]; exact b2) (by rw [e]; exact b3)
    exact b_ask h hM (fun Q => (hc Q).trans (by rw [if_neg c0])) fun m1 e Q => (hm m1 e Q).trans (by rw [e, eG, if_neg c0])
-- 39 explains
theorem st_118 (h : Iv m M) (hM : z_g m 1 = M) : Both 118 217 [zi v, zi w, zi a, zi b] m := by
  have hok := h.ok
  have eS := RM.nS hok.r
  have hc := fun Q => zs_118 (d := 6) (m := m) (v := v) (w := w) (a := a) (b := b) (Q := Q) h.cmok hok.rowT.2 hok.rowT.1
  by_cases hv : v = -1
  · subst hv
    have c0 : ¬ (((0 : Int32) ≤ -1 ∧ (-1 : Int32) < z_I (z_g m 2) 0 0 4) ∧ (0 ≤ w ∧ w < 5) ∧ ¬ (a < 1 ∨ 99999 < a) ∧ ¬ (b < 0 ∨ 1 < b)) := fun u => absurd u.1.1 (by decide)
    obtain ⟨L, b1, -⟩ := chs_any hok w
    have hm := fun (m1 : zM) (e : z_g m1 1 = M) (Q : zQ) => zs_217 (d := 4) (m := m1) (v := -1) (w := w) (a := a) (b := b) (Q := Q) L (by rw [e]; exact h.mok) (by rw [e]; exact b1)
    exact b_ask h hM (fun Q => (hc Q).trans (by rw [if_neg c0])) fun m1 e Q => (hm m1 e Q).trans (by rw [e, eS, if_neg c0])
  · obtain ⟨L, b1, b2⟩ := ask_expl (w := w) (a := a) (b := b) (X0 := z_g m 0) hok hv
    have hm := fun (m1 : zM) (e : z_g m1 1 = M) (Q : zQ) => zs_217 (d := 4) (m := m1) (v := v) (w := w) (a := a) (b := b) (Q := Q) L (by rw [e]; exact h.mok) (by rw [e]; exact b1)
    by_cases c0 : (0 ≤ v ∧ v < z_I (z_g m 2) 0 0 4) ∧ (0 ≤ w ∧ w < 5) ∧ ¬ (a < 1 ∨ 99999 < a) ∧ ¬ (b < 0 ∨ 1 < b)
    · obtain ⟨n, K, h1, -⟩ := row_T (v := v) (w := w) hok.r.L40 hok.ia
      obtain ⟨i1, i2⟩ := h.bst (Y := qEx (z_g m 2) v w) (X := qExS (qEx (z_g m 2) v w) (qExN (z_g m 2) v w) 0 (z_g m 0)) h1.alk (fun k i f hk => exs_o hk _ _ _)
      exact both (i2.trans hM) (i1.same (kS.exG L 0 _ kS.bs0)) (fun Q => (hc Q).trans (by rw [if_pos c0])) fun m1 e Q => (hm m1 e Q).trans (by rw [e, eS, if_pos c0, b2])
    · exact b_ask h hM (fun Q => (hc Q).trans (by rw [if_neg c0])) fun m1 e Q => (hm m1 e Q).trans (by rw [e, eS, if_neg c0])
-- 40 would
def SH (S S' : zS) : Prop := ∀ f, 3 ≤ f → f ≤ 5 → z_I S' 0 0 f = z_I S 0 0 f
theorem SH.rf : SH S S := fun _ _ _ => rfl
theorem SH.tr (h : SH S S') (g : SH S' X) : SH S X := fun f h1 h2 => (g f h1 h2).trans (h f h1 h2)
theorem SH.close : SH S (cClose S l v w) := fun f h1 h2 => by
  unfold cClose
  rw [z_I_o (by decide), cRel_o (by decide) (by decide), cMakeDue_o (by decide) (by decide), z_I_o (by decide), z_I_o (by decide), z_I_o (by decide)]
theorem SH.go : SH S (cGo S l) := fun f h1 h2 => by
  unfold cGo
  rw [cHold_o (by decide) (by decide), z_I_o (by decide), z_I_o (by decide)]
theorem SH.turnGo : ∀ (n i : Nat) (S : zS), SH S (cTurnGo n i S)
  | 0, _, _ => .rf
  | n + 1, i, S => by
    unfold cTurnGo
    split
    · split
      · exact .rf
      · exact SH.turnGo n (i + 1) S
    · exact .tr .go (SH.turnGo n (i + 1) _)
theorem SH.passGo : ∀ (n i : Nat) (a : Int32) (S : zS), SH S (cPassGo n i a S).2
  | 0, _, _, _ => .rf
  | n + 1, i, a, S => by
    unfold cPassGo
    split
    · exact .tr .close (SH.passGo n (i + 1) _ _)
    · exact SH.passGo n (i + 1) _ _
theorem SH.pass : SH S (cPass S).2 := .tr (.tr (fun f h1 h2 => by rw [z_I_u, if_neg (by omega)]) (SH.passGo _ _ _ (z_uI S 0 0 0 (z_I S 0 0 0 + 1)))) (.tr (fun f h1 h2 => cLUpW_rw.1 0 0 f (by decide) (by omega)) (SH.turnGo _ _ _))
theorem SH.days : ∀ (n : Nat) (a : Int32) (S : zS), SH S (cDaysGo n a S).2
  | 0, _, _ => .rf
  | n + 1, a, S => by
    unfold cDaysGo
    exact .tr .pass (SH.days n _ _)
theorem SH.cn (h : SH S S') (c : cCnts S) : cCnts S' := by
  unfold cCnts at c ⊢
  rw [h 3 (by omega) (by omega), h 4 (by omega) (by omega), h 5 (by omega) (by omega)]; exact c
theorem st_120 (h : Iv m M) (hM : z_g m 1 = M) : Both 120 219 [zi v, zi w] m := by
  have hok := h.ok
  have eD := RM.day hok.r
  have hP := h.pap0
  have ha := pap_alk h
  obtain ⟨t1, t2, -, -⟩ := h.pap (cDaysGo v.toNatClampNeg 0 (z_g (mPaper m).2 (mPaper m).1)).2
  have t1 : Iv (mWould m v) M := t1
  have t2 : z_g (mWould m v) 1 = M := t2.trans hM
  have hc := fun Q => zs_120 (d := 2) (m := m) (v := v) (w := w) (Q := Q) h.cmok PD.step hP.pd (SH.cn (SH.days _ _ _) hP.cn)
  generalize hPe : z_g (mPaper m).2 (mPaper m).1 = P at hP ha hc
  have hm := fun (m1 : zM) (e : z_g m1 1 = M) (Q : zQ) => zs_219 (d := 1) (m := m1) (v := v) (w := w) (Q := Q) (by rw [e]; exact h.mok)
  by_cases c0 : ¬ (v < 1 ∨ 90 < v) ∧ ¬ 9999 < z_I (z_g m 2) 0 0 0 + v ∧ ¬ (w < 0 ∨ 3 < w)
  · have hd : z_I P 0 0 0 + v ≤ 9999 := by rw [ha.hd (by omega)]; exact Int32.not_lt.mp c0.2.1
    obtain ⟨s1, s2, -⟩ := days_sim (X := mFd1 M) hP ⟨fun j _ => mFd1_r, fun j _ => by rw [mLay_J (by decide)]; rfl⟩ c0.1 hd
    have r := rng c0.2.2
    have z0 : (0 : Int32).toInt = 0 := rfl
    have z1 : (1 : Int32).toInt = 1 := rfl
    have z2 : (2 : Int32).toInt = 2 := rfl
    have z3 : (3 : Int32).toInt = 3 := rfl
    have hw : w = 0 ∨ w = 1 ∨ w = 2 ∨ w = 3 := by rw [i_eq, i_eq, i_eq, i_eq]; omega
    have em : mQW (mWd M v.toNatClampNeg) w = qWould P v w := by
      have g1 := cSumG_is (q := 1) s1.r (by omega)
      have g2 := cSumG_is (q := 2) s1.r (by omega)
      have g3 := cCnt_is (v := 0) s1.r
      unfold mQW qWould mWd
      rw [← g1, ← g2, ← g3, s2]
      rcases hw with rfl | rfl | rfl | rfl <;> rfl
    have hF : mFrm (mLay 30 31 0 (mTh M)) (mWd M v.toNatClampNeg) := by
      unfold mWd
      exact .days
    exact both t2 (t1.same (kS.back hF)) (fun Q => (hc Q).trans (by rw [if_pos c0])) fun m1 e Q => (hm m1 e Q).trans (by rw [e, eD, if_pos c0, em])
  · exact b_ask h hM (fun Q => (hc Q).trans (by rw [if_neg c0])) fun m1 e Q => (hm m1 e Q).trans (by rw [e, eD, if_neg c0])
end St8
