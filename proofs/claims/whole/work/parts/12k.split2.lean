set_option maxHeartbeats 400000
/-! ===== CLASS AND MODEL: split (2) ===== -/
section Re31
variable {d i k g s l l' t q n p T j : Nat} {v w a b c e f x y z : Int32} {S S' M M' N S0 X Y : zS} {B c0 c1 : Int}
-- less asked, and what is held handed over
theorem sim_sp8 (h : RM X M) (hi : InvA B T X) (hl : l < cL X) (hn : n < cL X) (hln : l ≠ n) (hs : z_I X 3 l 0 = 1) (hsn : z_I X 3 n 0 = 1) (he : ∀ f, f = 1 ∨ f = 3 ∨ f = 5 ∨ f = 7 → z_I X 3 n f = z_I X 3 l f) (h4 : z_I X 3 n 4 = w) (h8 : z_I X 3 n 8 = 0) (hl8 : z_I X 3 l 8 = 0) (hw : 1 ≤ w.toInt ∧ w.toInt < (z_I X 3 l 4).toInt) (hd : iHs X l = (cNeed X l).toInt) (hd0 : ∀ g, g < 4 → z_I X 14 n g = 0) (hx : ∀ i, i < cL X → i ≠ l → i ≠ n → iNd X i)
    (hM' : ∀ j, j < 891 → z_I M' 22 0 j = z_I (z_uI M 22 0 (211 + 17 * l + 3) (z_I X 3 l 4 - w)) 22 0 j) (hJ' : ∀ j, j < 88 → z_J M' 23 0 j = z_J (z_uJ M 23 0 (8 + 2 * n) (cNeed X n).toInt64) 23 0 j) :
    Ok B T (z_uJ (HD l n (cFr X l) (cNeed X n, z_uJ (z_uI X 3 l 4 (z_I X 3 l 4 - w)) 3 n 13 (cNeed X n).toInt64)).2 3 l 14 (z_J X 3 l 14 + (cNeed X n).toInt64)) (mRel M' l (cFr X l) (some n) (cNeed X n)) ∧ (HD l n (cFr X l) (cNeed X n, z_uJ (z_uI X 3 l 4 (z_I X 3 l 4 - w)) 3 n 13 (cNeed X n).toInt64)).1 = 0 := by
  have hL := h.L40
  have hld := hi.ld hl
  have hldn := hi.ld hn
  have z0 : (0 : Int32).toInt = 0 := rfl
  have eq4 : (z_I X 3 l 4 - w).toInt = (z_I X 3 l 4).toInt - w.toInt := i_sub (by unfold iLd at hld; omega) (by unfold iLd at hld; omega)
  have ht : ∀ k i f, ¬ (k = 3 ∧ i = l ∧ f = 4) → z_I (z_uI X 3 l 4 (z_I X 3 l 4 - w)) k i f = z_I X k i f := fun k i f u => by rw [z_I_u, if_neg u]
  have r7 := RM.uL (v := z_I X 3 l 4 - w) (q := 3) h hl (by decide)
  have i7 : InvA B T (z_uI X 3 l 4 (z_I X 3 l 4 - w)) := by
    refine hi.u3' ?_
    unfold iLd at hld ⊢
    rw [ht 3 l 0 (by omega), ht 3 l 1 (by omega), ht 3 l 2 (by omega), ht 3 l 3 (by omega), ht 3 l 5 (by omega), ht 3 l 6 (by omega), ht 3 l 7 (by omega), ht 3 l 8 (by omega), z_I_u, if_pos ⟨rfl, rfl, rfl⟩, eq4, hl8, z0]
    refine ⟨hld.1, hld.2.1, hld.2.2.1, ⟨by omega, ?_⟩, hld.2.2.2.2.1, hld.2.2.2.2.2.1, hld.2.2.2.2.2.2.1, ⟨by omega, by omega⟩, hld.2.2.2.2.2.2.2.2⟩
    have := hld.2.2.2.1.2; omega
  have r8 := RM.upJ (o := (cNeed X n).toInt64) r7 (k := 3) (i := n) (q := 13) (j := 8 + 2 * n) (.inr ⟨rfl, by omega, .inl rfl, by omega⟩) (fun u => absurd u (by decide))
  have r8' : RM (z_uJ (z_uI X 3 l 4 (z_I X 3 l 4 - w)) 3 n 13 (cNeed X n).toInt64) M' := RM.mo r8 (fun j hj => (hM' j hj).trans (z_I_uJ ..).symm) (fun j hj => by
    rw [hJ' j hj, z_J_u, z_J_u, z_J_uI])
  -- needs
  have gr : ∀ k x y, cGr (z_uI X 3 l 4 (z_I X 3 l 4 - w)) k x y = cGr X k x y := fun k x y => cGr_co rfl (fun _ => rfl) (fun _ => rfl)
  have g9 := hi.gr (k := cKd X l) (x := z_I X 3 l 7) (y := cLatest X l) (hi.k5 hl)
  have eK : cKd X n = cKd X l := congrArg Int32.toNatClampNeg (he 3 (by omega))
  have eLt : cLatest X n = cLatest X l := by unfold cLatest; rw [he 5 (by omega), he 7 (by omega)]
  have rn := hi.rest hn
  have rl := hi.rest hl
  have nn := hi.need1 hn hsn
  have nl := hi.need1 hl hs
  rw [eK, eLt, he 7 (by omega), rn.1, h4, h8, z0] at nn
  rw [rl.1, hl8, z0] at nl
  generalize hγ : cGr X (cKd X l) (z_I X 3 l 7) (cLatest X l) = γ at *
  have nneg := (hi.need hn).1
  have hs' : cFr X l < cS X := hi.fr hl
  have le : (cNeed X n).toInt ≤ iHs X l := by
    rw [hd, nn, nl]
    exact Int.mul_le_mul_of_nonneg_right (by omega) g9.1
  obtain ⟨d1, d2, d3, d4, d5, d6⟩ := sim_hd (l := l) (n := n) (s := cFr X l) (a := cNeed X n) r8' i7.uJ hl hn hln hs' nneg le
  refine ⟨?_, d1⟩
  generalize hP : HD l n (cFr X l) (cNeed X n, z_uJ (z_uI X 3 l 4 (z_I X 3 l 4 - w)) 3 n 13 (cNeed X n).toInt64) = P at *
  have pJ : z_J P.2 3 l 14 = z_J X 3 l 14 := by
    rw [← hP, HD_J]
    show z_J (z_uJ (z_uI X 3 l 4 (z_I X 3 l 4 - w)) 3 n 13 (cNeed X n).toInt64) 3 l 14 = _
    rw [z_J_u, if_neg (by omega), z_J_uI]
  have pL : cL P.2 = cL X := congrArg Int32.toNatClampNeg d4.h0
  have r9 := RM.upJ (o := z_J X 3 l 14 + (cNeed X n).toInt64) d2 (k := 3) (i := l) (q := 14) (j := 8 + 2 * l + 1) (.inr ⟨rfl, by omega, .inr rfl, by omega⟩) (fun u => absurd u (by decide))
  have eM : mRel M' l (cFr X l) (some n) (cNeed X n) = z_uJ (mReG l (some n) 4 (cNeed X n, mLine M' (cFr X l))).2 23 0 (8 + 2 * l + 1) (z_J X 3 l 14 + (cNeed X n).toInt64) := by
    unfold mRel mSum1
    rw [show z_J (mReG l (some n) 4 (cNeed X n, mLine M' (cFr X l))).2 23 0 (8 + 2 * l + 1) = z_J P.2 3 l 14 from d2.ej 3 l 14 _ (.inr ⟨rfl, by omega, .inr rfl, by omega⟩) (fun u => absurd u (by decide)) (fun _ => by rw [pL]; exact hl), pJ]
  rw [eM]
  refine ⟨r9, d3.uJ, fun i hi' => ?_⟩
  have hi'' : i < cL X := by rw [← pL]; exact hi'
  have p3 : ∀ i f, ¬ (i = l ∧ f = 4) → z_I P.2 3 i f = z_I X 3 i f := fun i f u => (d4 3 i f (by omega)).trans (ht 3 i f (by omega))
  have p34 : z_I P.2 3 l 4 = z_I X 3 l 4 - w := (d4 3 l 4 (by omega)).trans (by rw [z_I_uJ, z_I_u, if_pos ⟨rfl, rfl, rfl⟩])
  have pgr : ∀ k x y, cGr P.2 k x y = cGr X k x y := fun k x y => cGr_co (d4 2 k 2 (by omega)) (fun i => d4 12 k i (by omega)) (fun i => d4 13 k i (by omega))
  suffices key : iNd P.2 i from key.co (fun _ _ => rfl) (fun _ _ => rfl) (fun k x y => cGr_co rfl (fun _ => rfl) (fun _ => rfl))
  by_cases ul : i = l
  · rw [ul]
    refine ⟨fun u => ?_, fun u => absurd ((p3 l 0 (by omega)).trans hs) u⟩
    have hlP : l < cL P.2 := by rw [pL]; exact hl
    rw [d3.need1 hlP u, (d3.rest hlP).1, p34, p3 l 8 (by omega), hl8, z0, eq4, d5, pgr]
    have e1 : cKd P.2 l = cKd X l := congrArg Int32.toNatClampNeg (p3 l 3 (by omega))
    have e2 : cLatest P.2 l = cLatest X l := by unfold cLatest; rw [p3 l 5 (by omega), p3 l 7 (by omega)]
    rw [e1, e2, p3 l 7 (by omega), hγ]
    show iHs X l - (cNeed X n).toInt = _
    rw [hd, nn, nl, ← Int.sub_mul]
    have : (z_I X 3 l 4).toInt - 0 - (w.toInt - 0) = (z_I X 3 l 4).toInt - w.toInt - 0 := by omega
    rw [this]
  · by_cases un : i = n
    · rw [un]
      refine ⟨fun u => ?_, fun u => absurd ((p3 n 0 (by omega)).trans hsn) u⟩
      rw [d6]
      have e0 : iHs (z_uJ (z_uI X 3 l 4 (z_I X 3 l 4 - w)) 3 n 13 (cNeed X n).toInt64) n = 0 := by
        show iHs X n = 0
        unfold iHs
        rw [hd0 0 (by omega), hd0 1 (by omega), hd0 2 (by omega), hd0 3 (by omega)]; rfl
      rw [e0, cNeed_1 u, cNeed_1 hsn, pgr]
      have e1 : cKd P.2 n = cKd X n := congrArg Int32.toNatClampNeg (p3 n 3 (by omega))
      have e2 : cLatest P.2 n = cLatest X n := by unfold cLatest; rw [p3 n 5 (by omega), p3 n 7 (by omega)]
      have e3 : cRest P.2 n = cRest X n := by unfold cRest; rw [p3 n 4 (by omega), p3 n 8 (by omega)]
      rw [e1, e2, e3, p3 n 7 (by omega)]; omega
    · exact (hx i hi'' ul un).co (fun q _ => p3 i q (by omega)) (fun g _ => (d4 14 i g (by omega)).trans rfl) pgr
end Re31
