set_option maxHeartbeats 200000
/-! ===== CLASS AND MODEL: acts (2) ===== -/
section Re22
variable {d i k g s l l' t q n p T j : Nat} {v w a b c e f x y z : Int32} {S S' M N : zS} {B : Int}
theorem RM.uG (h : RM S M) (hg : g < cG S) (hf : q < 3) : RM (z_uI S 1 g q v) (z_uI M 22 0 (6 + 3 * g + q) v) :=
  RM.up h (.inr (.inl ⟨rfl, Nat.lt_of_lt_of_le hg h.G4, hf, rfl⟩)) (fun u => absurd u.1 (by decide)) (fun u => absurd u.1 (by decide)) (fun _ u => absurd hg (Nat.not_lt.mpr u)) (fun u => absurd u (by decide))
theorem RM.uS (h : RM S M) (hs : s < cS S) (hk : k < 5) : RM (z_uI S 15 s k v) (z_uI M 22 0 (18 + 8 * s + k) v) :=
  RM.up h (.inr (.inr (.inl ⟨rfl, Nat.lt_of_lt_of_le hs h.S6, hk, rfl⟩))) (fun u => absurd u.1 (by decide)) (fun u => absurd u.1 (by decide)) (fun u => absurd u (by decide)) (fun _ u => absurd hs (Nat.not_lt.mpr u))
theorem RM.uK3 (h : RM S M) (hk : k < 5) : RM (z_uI S 2 k 3 v) (z_uI M 22 0 (66 + 29 * k + 1) v) :=
  RM.up h (.inr (.inr (.inr (.inl ⟨rfl, hk, .inl ⟨rfl, rfl⟩⟩)))) (fun u => absurd u.1 (by decide)) (fun u => absurd u.1 (by decide)) (fun u => absurd u (by decide)) (fun u => absurd u (by decide))
theorem RM.uK4 (h : RM S M) (hk : k < 5) : RM (z_uI S 2 k 4 v) (z_uI M 22 0 (66 + 29 * k + 2) v) :=
  RM.up h (.inr (.inr (.inr (.inl ⟨rfl, hk, .inr ⟨rfl, rfl⟩⟩)))) (fun u => absurd u.1 (by decide)) (fun u => absurd u.1 (by decide)) (fun u => absurd u (by decide)) (fun u => absurd u (by decide))
theorem RM.uL (h : RM S M) (hl : l < cL S) (hq : q < 6) : RM (z_uI S 3 l (q + 1) v) (z_uI M 22 0 (211 + 17 * l + q) v) :=
  RM.up h (.inr (.inr (.inr (.inr (.inl ⟨rfl, Nat.lt_of_lt_of_le hl h.L40, .inr (.inl ⟨Nat.le_add_left _ _, hq, rfl⟩)⟩))))) (fun u => absurd u.1 (by decide)) (fun u => absurd u.2 (Nat.succ_ne_zero _)) (fun u => absurd u (by decide)) (fun u => absurd u (by decide))
theorem RM.uM (h : RM S M) (hl : l < cL S) (h1 : 8 ≤ q) (h2 : q ≤ 12) : RM (z_uI S 3 l q v) (z_uI M 22 0 (211 + 17 * l + q) v) :=
  RM.up h (.inr (.inr (.inr (.inr (.inl ⟨rfl, Nat.lt_of_lt_of_le hl h.L40, .inr (.inr ⟨h1, h2, rfl⟩)⟩))))) (fun u => absurd u.1 (by decide)) (fun u => by have := u.2; omega) (fun u => absurd u (by decide)) (fun u => absurd u (by decide))
theorem RM.uH (h : RM S M) (hl : l < cL S) (hg : g < 4) : RM (z_uI S 14 l g v) (z_uI M 22 0 (211 + 17 * l + 13 + g) v) :=
  RM.up h (.inr (.inr (.inr (.inr (.inr ⟨rfl, Nat.lt_of_lt_of_le hl h.L40, hg, rfl⟩))))) (fun u => absurd u.1 (by decide)) (fun u => absurd u.1 (by decide)) (fun u => absurd u (by decide)) (fun u => absurd u (by decide))
theorem RM.u01 (h : RM S M) : RM (z_uI S 0 0 1 v) (z_uI M 22 0 4 v) :=
  RM.up h (.inl ⟨rfl, rfl, .inr (.inl ⟨rfl, rfl⟩)⟩) (fun u => absurd u.2 (by decide)) (fun u => absurd u.1 (by decide)) (fun u => absurd u (by decide)) (fun u => absurd u (by decide))
theorem RM.u02 (h : RM S M) : RM (z_uI S 0 0 2 v) (z_uI M 22 0 5 v) :=
  RM.up h (.inl ⟨rfl, rfl, .inr (.inr (.inl ⟨rfl, rfl⟩))⟩) (fun u => absurd u.2 (by decide)) (fun u => absurd u.1 (by decide)) (fun u => absurd u (by decide)) (fun u => absurd u (by decide))
theorem cNeed_1 (hs : z_I S 3 l 0 = 1) : cNeed S l = cRest S l * cGr S (cKd S l) (z_I S 3 l 7) (cLatest S l) := by
  unfold cNeed; rw [if_neg (by rw [hs]; decide), if_pos hs]
theorem InvA.monoB {B' : Int} (h : InvA B T S) (hB : B ≤ B') (hb : B' ≤ 19999998) : InvA B' T S := by
  refine ⟨⟨hb, h.hT⟩, h.2.1, fun g hg => ?_, h.2.2.2.1, h.2.2.2.2.1, h.2.2.2.2.2.1, h.2.2.2.2.2.2⟩
  have := h.gu hg
  exact ⟨this.1, this.2.1, by have := this.2.2; omega⟩
theorem Ok.monoB {B' : Int} (h : Ok B T S M) (hB : B ≤ B') (hb : B' ≤ 19999998) : Ok B' T S M := ⟨h.r, h.ia.monoB hB hb, h.nd⟩
theorem sim_limit (h : Ok B T S M) (hg : g < cG S) (hw : (z_I S 1 g 1).toInt + (z_I S 1 g 2).toInt ≤ w.toInt) (hB : w.toInt ≤ B) : Ok B T (z_uI S 1 g 0 w) (z_uI M 22 0 (6 + 3 * g) w) := by
  have hG := h.r.G4
  have ht : ∀ k i f, ¬ (k = 1 ∧ i = g ∧ f = 0) → z_I (z_uI S 1 g 0 w) k i f = z_I S k i f := fun k i f u => by rw [z_I_u, if_neg u]
  refine ⟨RM.uG (q := 0) h.r hg (by decide), ?_, ?_⟩
  · have hi := h.ia
    refine hi.mk' (ht 0 0 0 (by omega)) (ht 0 0 1 (by omega)) (ht 0 0 3 (by omega)) (ht 0 0 5 (by omega)) (fun g' hg' => ?_) (fun g' hg' => ?_) (fun l hl => (hi.ho hl).co rfl fun g _ => ht 14 l g (by omega)) (fun l hl => (hi.ld hl).co rfl rfl fun f hf => ht 3 l f (by omega)) (fun k hk => (hi.kd hk).co (fun f _ _ => ht 2 k f (by omega)) (fun i => ht 12 k i (by omega)) (fun i => ht 13 k i (by omega)))
    · by_cases u : g' = g
      · have := hi.gu hg
        unfold iGu at this ⊢
        rw [u, ht 1 g 1 (by omega), ht 1 g 2 (by omega), z_I_u, if_pos ⟨rfl, rfl, rfl⟩]; omega
      · exact (hi.gu hg').co fun f _ => ht 1 g' f (by omega)
    · rw [ht 1 g' 1 (by omega), hi.sm hg']; rfl
  · exact h.nd.co rfl (fun l q _ _ => ht 3 l q (by omega)) (fun l g _ _ => ht 14 l g (by omega)) (fun k x y => cGr_co (ht 2 k 2 (by omega)) (fun i => ht 12 k i (by omega)) (fun i => ht 13 k i (by omega)))
theorem sim_pay (h : Ok B T S M) (hg : g < cG S) (hw : 0 ≤ w.toInt) (hle : w.toInt ≤ (z_I S 1 g 2).toInt) : Ok B T (aPay S g w) (mPa2 M g w) := by
  have hN := h.rt (v := 2)
  have hG := h.r.G4
  have hi := h.ia
  have eM : mPa2 M g w = z_uJ (z_uI (mRem (mTh M) 2) 22 0 (6 + 3 * g + 2) (z_I S 1 g 2 - w)) 23 0 (2 * g + 1) (z_J S 1 g 4 + w.toInt64) := by
    unfold mPa2 mPa1
    rw [RM.gu h.r hg (by omega), z_J_uI, mRT_J, show z_J M 23 0 (2 * g + 1) = z_J S 1 g 4 from h.r.ej 1 g 4 (2 * g + 1) (by unfold rPJ; omega) (by omega) (by omega)]
  rw [eM]
  have hgu := hi.gu hg
  have h0 := hi.hd0 hG hg
  have hB := hi.hB
  unfold iGu at hgu
  have e1 : (z_I S 1 g 2 - w).toInt = (z_I S 1 g 2).toInt - w.toInt := i_sub (by omega) (by omega)
  have ht : ∀ k i f, ¬ (k = 1 ∧ i = g ∧ f = 2) → z_I (aPay S g w) k i f = z_I S k i f := fun k i f u => by
    unfold aPay; rw [z_I_uJ, z_I_u, if_neg u]
  refine ⟨?_, ?_, ?_⟩
  · have r1 := RM.uG (v := z_I S 1 g 2 - w) (q := 2) hN.r hg (by decide)
    exact RM.upJ r1 (by unfold rPJ; omega) (fun _ u => by have : cG S ≤ g := u; omega)
  · refine hi.due (ε := -w.toInt) hg ?_ (by omega) (by omega) (fun k i f u => ht k i f (by omega))
    unfold aPay
    rw [z_I_uJ, z_I_u, if_pos ⟨rfl, rfl, rfl⟩, e1]; omega
  · exact h.nd.fd fun k i f u => ht k i f (by omega)
theorem sim_stock (h : Ok B T S M) (hs : s < cS S) (hk : k < 5) : Ok B T (aStock S s k v) (mStoc M s k v) := by
  have hN := h.rt (v := 5)
  have h6 := h.r.S6
  have eM : mStoc M s k v = z_uI (mRem (mTh M) 5) 22 0 (18 + 8 * s + k) (z_I S 15 s k + v) := by
    unfold mStoc; rw [RM.stk h.r hs hk]
  rw [eM]
  refine ⟨RM.uS hN.r hs hk, h.ia.u15, ?_⟩
  exact h.nd.co rfl (fun _ _ _ _ => rfl) (fun _ _ _ _ => rfl) (fun k x y => cGr_co rfl (fun _ => rfl) (fun _ => rfl))
theorem sim_alw (h : Ok B T S M) (hk : k < 5) (hv : 0 ≤ v.toInt ∧ v.toInt ≤ 99) : Ok B T (z_uI S 2 k 3 v) (z_uI M 22 0 (66 + 29 * k + 1) v) := by
  have hi := h.ia
  have ht : ∀ k' i f, ¬ (k' = 2 ∧ i = k ∧ f = 3) → z_I (z_uI S 2 k 3 v) k' i f = z_I S k' i f := fun k i f u => by rw [z_I_u, if_neg u]
  have ho : ∀ k', cTold (z_uI S 2 k 3 v) k' = cTold S k' := fun k' => cTold.co (ht 2 k' 2 (by omega))
  refine ⟨RM.uK3 h.r hk, ?_, ?_⟩
  · refine hi.mk' rfl rfl rfl rfl (fun g hg => hi.gu hg) (fun g hg => hi.sm hg) (fun l hl => hi.ho hl) (fun l hl => hi.ld hl) (fun k' hk' => ?_)
    have := hi.kd hk'
    refine ⟨by rw [ht 2 k' 2 (by omega)]; exact this.1, fun i hi' => this.2.1 i (by rw [ho] at hi'; exact hi'), ?_, by rw [ht 2 k' 4 (by omega)]; exact this.2.2.2⟩
    by_cases u : k' = k
    · rw [u, z_I_u, if_pos ⟨rfl, rfl, rfl⟩]; exact hv
    · rw [ht 2 k' 3 (by omega)]; exact this.2.2.1
  · exact h.nd.co rfl (fun _ _ _ _ => rfl) (fun _ _ _ _ => rfl) (fun k' x y => cGr_co (ht 2 k' 2 (by omega)) (fun _ => rfl) (fun _ => rfl))
theorem sim_cap (h : Ok B T S M) (hk : k < 5) (hv : 0 ≤ v.toInt ∧ v.toInt ≤ 999) : Ok B T (z_uI S 2 k 4 v) (z_uI M 22 0 (66 + 29 * k + 2) v) := by
  have hi := h.ia
  have ht : ∀ k' i f, ¬ (k' = 2 ∧ i = k ∧ f = 4) → z_I (z_uI S 2 k 4 v) k' i f = z_I S k' i f := fun k i f u => by rw [z_I_u, if_neg u]
  have ho : ∀ k', cTold (z_uI S 2 k 4 v) k' = cTold S k' := fun k' => cTold.co (ht 2 k' 2 (by omega))
  refine ⟨RM.uK4 h.r hk, ?_, ?_⟩
  · refine hi.mk' rfl rfl rfl rfl (fun g hg => hi.gu hg) (fun g hg => hi.sm hg) (fun l hl => hi.ho hl) (fun l hl => hi.ld hl) (fun k' hk' => ?_)
    have := hi.kd hk'
    refine ⟨by rw [ht 2 k' 2 (by omega)]; exact this.1, fun i hi' => this.2.1 i (by rw [ho] at hi'; exact hi'), by rw [ht 2 k' 3 (by omega)]; exact this.2.2.1, ?_⟩
    by_cases u : k' = k
    · rw [u, z_I_u, if_pos ⟨rfl, rfl, rfl⟩]; exact hv
    · rw [ht 2 k' 4 (by omega)]; exact this.2.2.2
  · exact h.nd.co rfl (fun _ _ _ _ => rfl) (fun _ _ _ _ => rfl) (fun k' x y => cGr_co (ht 2 k' 2 (by omega)) (fun _ => rfl) (fun _ => rfl))
theorem sim_grace (h : Ok B T S M) (hv : 0 ≤ v.toInt ∧ v.toInt ≤ 60) : Ok B T (z_uI S 0 0 1 v) (z_uI M 22 0 4 v) := by
  have hi := h.ia
  refine ⟨RM.u01 h.r, ⟨hi.1, ⟨hi.dy, hv⟩, fun g hg => hi.gu hg, fun g hg => hi.sm hg, fun l hl => hi.ho hl, fun l hl => hi.ld hl, fun k hk => hi.kd hk⟩, ?_⟩
  exact h.nd.co rfl (fun _ _ _ _ => rfl) (fun _ _ _ _ => rfl) (fun k' x y => cGr_co rfl (fun _ => rfl) (fun _ => rfl))
theorem sim_strict (h : Ok B T S M) : Ok B T (z_uI S 0 0 2 v) (z_uI M 22 0 5 v) := by
  have hi := h.ia
  refine ⟨RM.u02 h.r, ⟨hi.1, hi.2.1, fun g hg => hi.gu hg, fun g hg => hi.sm hg, fun l hl => hi.ho hl, fun l hl => hi.ld hl, fun k hk => hi.kd hk⟩, ?_⟩
  exact h.nd.co rfl (fun _ _ _ _ => rfl) (fun _ _ _ _ => rfl) (fun k' x y => cGr_co rfl (fun _ => rfl) (fun _ => rfl))
theorem sim_divert (h : Ok B T S M) (hl : l < cL S) (hw : 0 ≤ w.toInt ∧ w.toInt < cS S) : Ok B T (z_uI S 3 l 2 w) (z_uI M 22 0 (211 + 17 * l + 1) w) := by
  have hi := h.ia
  have ht : ∀ i f, ¬ (i = l ∧ f = 2) → z_I (z_uI S 3 l 2 w) 3 i f = z_I S 3 i f := fun i f u => by rw [z_I_u, if_neg (fun w => u w.2)]
  have hg : ∀ k x y, cGr (z_uI S 3 l 2 w) k x y = cGr S k x y := fun k x y => cGr_co rfl (fun _ => rfl) (fun _ => rfl)
  refine ⟨RM.uL (q := 1) h.r hl (by decide), ?_, fun l' hl' => ?_⟩
  · refine hi.u3' ?_
    have := hi.ld hl
    unfold iLd at this ⊢
    rw [ht l 0 (by omega), ht l 1 (by omega), ht l 3 (by omega), ht l 4 (by omega), ht l 5 (by omega), ht l 6 (by omega), ht l 7 (by omega), ht l 8 (by omega), z_I_u, if_pos ⟨rfl, rfl, rfl⟩]
    exact ⟨this.1, hw, this.2.2⟩
  · have hn := h.nd l' hl'
    have h0 := ht l' 0 (by omega)
    refine ⟨fun u => ?_, fun u => hn.2 (by rw [h0] at u; exact u)⟩
    have u0 : z_I S 3 l' 0 = 1 := by rw [← h0]; exact u
    rw [show iHs (z_uI S 3 l 2 w) l' = iHs S l' from rfl, hn.1 u0, cNeed_1 u0, cNeed_1 u, hg]
    unfold cRest cLatest cKd
    rw [ht l' 3 (by omega), ht l' 4 (by omega), ht l' 5 (by omega), ht l' 7 (by omega), ht l' 8 (by omega)]
end Re22
