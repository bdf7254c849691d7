set_option maxHeartbeats 400000
/-! ===== CLASS AND MODEL: questions ===== -/
section Re36
variable {d i k g s l l' t q n p T j L m : Nat} {v w a b c e f x y z : Int32} {S S' M M' N S0 X : zS} {B : Int}
theorem z_ch_get {α : Type} {D : α} : ∀ (As : List α) (n k : Nat), n + k < 2147483648 → z_ch (nI (n + k)) D n As = As.getD k D
  | [], n, k, _ => rfl
  | A :: As, n, k, h => by
    show (if nI (n + k) = nI n then A else z_ch (nI (n + k)) D (n + 1) As) = _
    cases k with
    | zero => exact if_pos rfl
    | succ k =>
      rw [if_neg (fun u => by have := congrArg Int32.toInt u; rw [i_nI h, i_nI (by omega)] at this; omega), show n + (k + 1) = n + 1 + k by omega, z_ch_get As (n + 1) k (by omega)]; rfl
theorem z_ch_out {α : Type} {D : α} : ∀ (As : List α) (n : Nat), (∀ k, k < As.length → v ≠ nI (n + k)) → z_ch v D n As = D
  | [], _, _ => rfl
  | A :: As, n, h => by
    show (if v = nI n then A else z_ch v D (n + 1) As) = _
    rw [if_neg (show ¬ v = nI n from h 0 (by show 0 < As.length + 1; omega))]
    exact z_ch_out As (n + 1) fun k hk => by rw [show n + 1 + k = n + (k + 1) by omega]; exact h (k + 1) (by show k + 1 < As.length + 1; omega)
theorem nI_is (h0 : 0 ≤ v.toInt) : v = nI v.toNatClampNeg ∧ (v.toNatClampNeg : Int) = v.toInt := by
  have h1 : (v.toNatClampNeg : Int) = v.toInt := by rw [i_nat, if_pos h0]
  have := Int32.toInt_lt v
  refine ⟨?_, h1⟩
  rw [i_eq, i_nI (by omega), h1]
theorem ask_guar (h : RM S M) (hg : g < cG S) : mQGu M g w = qGuar S g w := by
  unfold mQGu qGuar
  have z0 : (0 : Int32).toInt = 0 := rfl
  have z2 : (2 : Int32).toInt = 2 := rfl
  have z3 : (3 : Int32).toInt = 3 := rfl
  by_cases h0 : 0 ≤ w.toInt ∧ w.toInt ≤ 3
  · obtain ⟨e1, e2⟩ := nI_is h0.1
    generalize w.toNatClampNeg = n at *
    have hn : n = 0 ∨ n = 1 ∨ n = 2 ∨ n = 3 := by omega
    have hc := z_ch_get (D := (-1 : Int32)) [z_I S 1 g 0, z_I S 1 g 1, z_I S 1 g 2, cFree S g] 0 n (by omega)
    rw [Nat.zero_add, ← e1] at hc
    rw [hc]
    rcases hn with rfl | rfl | rfl | rfl
    · rw [if_pos (by rw [i_lt, i_lt]; omega)]; exact RM.gu (q := 0) h hg (by omega)
    · rw [if_pos (by rw [i_lt, i_lt]; omega)]; exact RM.gu (q := 1) h hg (by omega)
    · rw [if_pos (by rw [i_lt, i_lt]; omega)]; exact RM.gu (q := 2) h hg (by omega)
    · rw [if_neg (by rw [i_lt, i_lt]; omega), if_pos (by rw [e1]; rfl)]; exact RM.free h hg
  · rw [if_neg (by rw [i_lt, i_lt]; omega), if_neg (by rw [i_eq]; omega), z_ch_out _ 0 fun k hk => ?_]
    have hk' : k < 4 := hk
    rw [Ne, i_eq, i_nI (by omega)]; omega
theorem ask_store (h : RM S M) (hs : s < cS S) : mQSt M s w = qStore S s w := by
  unfold mQSt qStore
  have z0 : (0 : Int32).toInt = 0 := rfl
  have z4 : (4 : Int32).toInt = 4 := rfl
  have z5 : (5 : Int32).toInt = 5 := rfl
  have z6 : (6 : Int32).toInt = 6 := rfl
  have z8 : (8 : Int32).toInt = 8 := rfl
  have z1 : (1 : Int32).toInt = 1 := rfl
  have ho := h.or hs
  have hord := ho.ord
  by_cases h0 : 0 ≤ w.toInt ∧ w.toInt < 5
  · obtain ⟨e1, e2⟩ := nI_is h0.1
    rw [if_pos (by rw [i_lt, i_lt]; omega), if_pos (by rw [i_le, i_lt]; omega)]
    exact RM.stk h hs (by omega)
  · rw [if_neg (by rw [i_lt, i_lt]; omega), if_neg (show ¬ (0 ≤ w ∧ w < 5) by rw [i_le, i_lt]; omega)]
    by_cases h5 : w = 5
    · rw [if_pos h5, if_pos h5]; exact RM.ff h hs
    · rw [if_neg h5, if_neg h5]
      rw [i_eq] at h5
      by_cases h6 : w.toInt ≤ 5
      · rw [if_neg (by rw [i_lt, i_lt]; omega), if_pos (by rw [i_le]; omega)]
      · have w2 := Int32.toInt_lt w
        have e5 : (w - 5).toInt = w.toInt - 5 := i_sub (by omega) (by omega)
        have e6 : (w - 5 - 1).toInt = w.toInt - 6 := by rw [i_sub (by omega) (by omega), e5]; omega
        rw [if_neg (show ¬ w ≤ 5 by rw [i_le]; omega), hord.2.1]
        obtain ⟨f1, f2⟩ := nI_is (v := w) (by omega)
        obtain ⟨g1, g2⟩ := nI_is (v := w - 5 - 1) (by omega)
        by_cases h8 : w.toInt ≤ 8
        · rw [if_pos (by rw [i_lt, i_lt]; omega)]
          have en : w.toNatClampNeg - 6 = (w - 5 - 1).toNatClampNeg := by omega
          rw [en]
          by_cases hlt : nI (cOrd S s) < w - 5
          · rw [if_pos hlt]
            rw [i_lt, i_nI (by omega), e5] at hlt
            exact ho.hi (by omega) (by omega)
          · rw [if_neg hlt]
            rw [i_lt, i_nI (by omega), e5] at hlt
            exact (ho.pre _ (by omega) (hord.2.2.1 _ (by omega))).symm
        · rw [if_neg (by rw [i_lt, i_lt]; omega), if_pos (by rw [i_lt, i_nI (by omega), e5]; omega)]
theorem ask_load (h : RM S M) (hi : InvA B T S) (hl : l < cL S) : mQLo M l w = qLoad S l w := by
  unfold mQLo qLoad
  have e7 : (if z_I M 22 0 (211 + 17 * l + 6) = 0 ∨ z_I M 22 0 (211 + 17 * l + 6) = 4 then -1 else z_I M 22 0 (211 + 17 * l + 7)) = z_I S 3 l 7 := by
    rw [RM.sta h hl]
    have hb := h.bg hl
    by_cases u : z_I S 3 l 0 = 0 ∨ z_I S 3 l 0 = 4
    · rw [if_pos u]; exact (hb.2 u).symm
    · rw [if_neg u]
      refine hb.1 ?_
      have hs := (hi.ld hl).2.2.2.2.2.2.1
      rw [i_eq, i_eq] at u
      rw [i_eq, i_eq, i_eq]
      have z0 : (0 : Int32).toInt = 0 := rfl
      have z4 : (4 : Int32).toInt = 4 := rfl
      have z3 : (3 : Int32).toInt = 3 := rfl
      have z2 : (2 : Int32).toInt = 2 := rfl
      have z1 : (1 : Int32).toInt = 1 := rfl
      omega
  have e13 : (if z_I M 22 0 (211 + 17 * l + 6) = 0 ∨ z_I M 22 0 (211 + 17 * l + 6) = 1 then mNeed M l else 0) = cNeed S l := by
    rw [RM.sta h hl]
    by_cases u : z_I S 3 l 0 = 0 ∨ z_I S 3 l 0 = 1
    · rw [if_pos u]; exact RM.need h hi hl u
    · rw [if_neg u]; unfold cNeed; rw [if_neg (fun w => u (.inl w)), if_neg (fun w => u (.inr w))]
  rw [e7, e13, RM.sta h hl, RM.lfr h hl, RM.lto h hl, RM.lkd h hl, RM.lqu h hl, RM.ldy h hl, RM.lrk h hl, RM.held h hl, RM.lg (q := 8) h hl (by omega) (by omega), RM.lg (q := 9) h hl (by omega) (by omega), RM.lg (q := 10) h hl (by omega) (by omega), RM.lg (q := 11) h hl (by omega) (by omega), RM.lg (q := 12) h hl (by omega) (by omega)]
theorem ask_sums (h : RM S M) (hl : l < cL S) (hw : ¬ (w < 0 ∨ 1 < w)) : z_J M 23 0 (8 + 2 * l + w.toNatClampNeg) = if w = 0 then z_J S 3 l 13 else z_J S 3 l 14 := by
  have hL := h.L40
  rw [i_lt, i_lt] at hw
  have z0 : (0 : Int32).toInt = 0 := rfl
  have z1 : (1 : Int32).toInt = 1 := rfl
  obtain ⟨f1, f2⟩ := nI_is (v := w) (by omega)
  by_cases u : w = 0
  · rw [if_pos u]
    rw [i_z] at u
    rw [show w.toNatClampNeg = 0 by omega]
    exact h.ej 3 l 13 _ (.inr ⟨rfl, by omega, .inl rfl, by omega⟩) (fun u => absurd u (by decide)) (fun _ => hl)
  · rw [if_neg u]
    rw [i_z] at u
    rw [show w.toNatClampNeg = 1 by omega]
    exact h.ej 3 l 14 _ (.inr ⟨rfl, by omega, .inr rfl, by omega⟩) (fun u => absurd u (by decide)) (fun _ => hl)
theorem ask_room (h : RM S M) (hi : InvA B T S) (hs : s < cS S) (hk : k < 5) (hw : 1 ≤ w.toInt ∧ w.toInt ≤ 90) : mRoo M s k w = qRoom S s k w := by
  have hd := hi.dy
  have e : (z_I S 0 0 0 + w).toInt = (z_I S 0 0 0).toInt + w.toInt := i_add (by omega) (by omega)
  have hg : mGr M k (z_I M 22 0 0) (z_I M 22 0 0 + w) = cGr S k (z_I S 0 0 0) (z_I S 0 0 0 + w) := by
    rw [RM.day h]; exact (h.rt hk).gr (by rw [i_le, e]; omega)
  unfold mRoo qRoom
  rw [hg, RM.ff h hs, mMin_c]
  have hb := hi.gr (k := k) (x := z_I S 0 0 0) (y := z_I S 0 0 0 + w) hk
  generalize cGr S k (z_I S 0 0 0) (z_I S 0 0 0 + w) = γ at *
  have z0 : (0 : Int32).toInt = 0 := rfl
  by_cases u : γ = 0
  · rw [if_pos u, if_neg (by rw [u]; decide)]
  · rw [if_neg u, if_pos (by rw [i_z] at u; rw [i_lt]; omega)]
    unfold cMin
    generalize cFF S s / γ = q
    by_cases v1 : q < 9999
    · rw [if_pos v1, if_neg (by rw [i_lt] at v1 ⊢; omega)]
    · rw [if_neg v1]
      by_cases v2 : 9999 < q
      · rw [if_pos v2]
      · rw [if_neg v2, i_eq]; rw [i_lt] at v1 v2; omega
theorem cCnt_is (h : RM S M) : cCnt S v (cL S) 0 0 = mMany M v := by
  unfold cCnt mMany
  rw [show (z_I M 22 0 3).toNatClampNeg = cL S from RM.mN h]
  refine z_it_ext _ _ _ fun j y _ hj => ?_
  rw [RM.st h (by omega)]
  by_cases u : z_I S 3 j 0 = v
  · rw [if_pos u, if_pos u]
  · rw [if_neg u, if_neg u]; exact (Int32.add_zero _).symm
theorem cSumG_is (h : RM S M) (hq : q < 3) : cSumG S q (cG S) 0 0 = mAllOf M q := by
  unfold cSumG mAllOf
  rw [show (z_I M 22 0 1).toNatClampNeg = cG S from congrArg Int32.toNatClampNeg (RM.nG h)]
  refine z_it_ext _ _ _ fun j y _ hj => ?_
  rw [RM.gu h (by omega) hq]
theorem cStk_is (h : RM S M) : cStk S (cS S) 0 0 = mStk M := by
  unfold cStk mStk
  rw [show (z_I M 22 0 2).toNatClampNeg = cS S from congrArg Int32.toNatClampNeg (RM.nS h)]
  refine z_it_ext _ _ _ fun j y _ hj => ?_
  show _ = y + z_I M 22 0 (18 + 8 * j + 0) + z_I M 22 0 (18 + 8 * j + 1) + z_I M 22 0 (18 + 8 * j + 2) + z_I M 22 0 (18 + 8 * j + 3) + z_I M 22 0 (18 + 8 * j + 4)
  rw [RM.stk (k := 0) h (by omega) (by omega), RM.stk (k := 1) h (by omega) (by omega), RM.stk (k := 2) h (by omega) (by omega), RM.stk (k := 3) h (by omega) (by omega), RM.stk (k := 4) h (by omega) (by omega)]
theorem ask_total (h : RM S M) (hw : ¬ (w < 0 ∨ 1 < w)) : z_it (mToS M v w.toNatClampNeg) (z_I M 22 0 1).toNatClampNeg 0 0 = qTot S v w (cG S) 0 0 := by
  have hG := h.G4
  unfold qTot
  rw [show (z_I M 22 0 1).toNatClampNeg = cG S from congrArg Int32.toNatClampNeg (RM.nG h)]
  refine z_it_ext _ _ _ fun j y _ hj => ?_
  rw [i_lt, i_lt] at hw
  have z0 : (0 : Int32).toInt = 0 := rfl
  have z1 : (1 : Int32).toInt = 1 := rfl
  obtain ⟨f1, f2⟩ := nI_is (v := w) (by omega)
  unfold mToS qTotS
  by_cases u : v = -1 ∨ nI j = v
  · rw [if_pos u, if_pos u]
    by_cases u0 : w = 0
    · rw [if_pos u0]
      rw [i_z] at u0
      rw [show w.toNatClampNeg = 0 by omega, show z_J M 23 0 (2 * j + 0) = z_J S 1 j 3 from h.ej 1 j 3 _ (.inl ⟨rfl, by omega, .inl rfl, by omega⟩) (fun _ => by omega) (fun u => absurd u (by decide))]
    · rw [if_neg u0]
      rw [i_z] at u0
      rw [show w.toNatClampNeg = 1 by omega, show z_J M 23 0 (2 * j + 1) = z_J S 1 j 4 from h.ej 1 j 4 _ (.inl ⟨rfl, by omega, .inr rfl, by omega⟩) (fun _ => by omega) (fun u => absurd u (by decide))]
  · rw [if_neg u, if_neg u]; exact Int64.add_zero _
end Re36
