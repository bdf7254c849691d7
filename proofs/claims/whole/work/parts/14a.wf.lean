set_option maxHeartbeats 400000
/-! ===== CLASS AND MODEL: what the specs ask of them ===== -/
section Wf
variable {d i k g s l l' t q n p T j L m : Nat} {v w a b c e x y z : Int32} {S S' M M' N X : zS} {B : Int} {K : Nat → Nat} {E : Nat → Int} {P : Nat → Prop}
theorem nn_of (h0 : 0 ≤ x.toInt) (h1 : x.toInt ≤ t) : z_nn x t := by
  refine ⟨i_le.mpr h0, ?_⟩
  have := i_nat (a := x)
  rw [if_pos h0] at this; omega
theorem nn_le (h : z_nn x t) (ht : t ≤ q) : z_nn x q := ⟨h.1, Nat.le_trans h.2 ht⟩
theorem nn_nI (h : n ≤ t) (h2 : n < 2147483648) : z_nn (nI n) t := nn_of (by rw [i_nI h2]; omega) (by rw [i_nI h2]; omega)
theorem or_wl {r : Nat → Int32} (h : rOr S r s) : z_nn (z_I S 4 s 2) 4 ∧ cWLn S s := by
  obtain ⟨h3, e, -, -⟩ := h.ord
  refine ⟨by rw [e]; exact nn_nI (by omega) (by omega), fun i hi => ?_⟩
  obtain ⟨h4, e, -⟩ := h.at hi
  rw [e]; exact nI_in h4 (by decide)
theorem RM.wl (h : RM S M) (hi : InvA B T S) (hl : l < cL S) : cWL S l := by
  have d := hi.ld hl
  have h6 := h.S6
  have d1 := d.1; have d2 := d.2.1; have d3 := d.2.2.1
  have hk := hi.k5 hl
  refine ⟨⟨z_vi2 (nn_of (t := 5) d1.1 (by omega)) (by omega), z_vi2 (nn_of (t := 5) d2.1 (by omega)) (by omega), z_vi2 (nn_of (t := 4) d3.1 (by omega)) (by omega)⟩, ?_⟩
  obtain ⟨o1, o2⟩ := or_wl (h.or (hi.fr hl))
  exact ⟨o1, o2, nn_le (hi.kd hk).1 hi.hT⟩
theorem Ok.bok (h : Ok B 12 S M) : cBok S := ⟨fun _ hl => RM.wl h.r h.ia hl, fun _ hs => or_wl (h.r.or hs), fun _ hk => (h.ia.kd hk).1⟩
theorem Ok.cn (h : Ok B T S M) : cCnts S := h.r.cn
theorem Rw0.wl (h : Rw0 S X) (hw : cWL S l) : cWL X l := by
  have e : ∀ k i f, k ≠ 11 → k ≠ 0 → z_I X k i f = z_I S k i f := fun k i f h1 h2 => h.1 k i f h1 (fun u => h2 u.1)
  unfold cWL cWLn cFr cKd at hw ⊢
  rw [e 3 l 1 (by decide) (by decide), e 3 l 2 (by decide) (by decide), e 3 l 3 (by decide) (by decide), e 4 _ 2 (by decide) (by decide), e 2 _ 2 (by decide) (by decide)]
  refine ⟨hw.1, hw.2.1, fun i hi => ?_, hw.2.2.2⟩
  rw [e 16 _ i (by decide) (by decide)]; exact hw.2.2.1 i hi
theorem row_ok (hr : rowIs X E P (cL S) n K) (hw : Rw0 S X) (hL : cL S ≤ 40) (hE : ∀ l, l < cL S → P l → ∃ ρ : Int, E l = ρ * 40 + l ∧ 0 ≤ ρ ∧ ρ ≤ 20000) (wl : ∀ l, l < cL S → cWL S l) : cRowOk X ∧ z_nn (z_I X 0 0 11) 40 := by
  have hn : n ≤ cL S := hr.2.1
  have e : (z_I X 0 0 11).toNatClampNeg = n := by rw [hr.1]; exact z_nIc (by omega)
  refine ⟨fun j hj => ?_, by rw [hr.1]; exact nn_nI (by omega) (by omega)⟩
  rw [e] at hj
  obtain ⟨e1, e2⟩ := hr.rw hL hE hj
  have hK := (hr.2.2.2.2.1 j hj).1
  rw [e1, e2]
  exact ⟨nI_in (by omega) (by decide), hw.wl (wl _ hK)⟩
theorem Ok.wl (h : Ok B T S M) : ∀ l, l < cL S → cWL S l := fun _ hl => RM.wl h.r h.ia hl
theorem Ok.rowW (h : Ok B T S M) : cRowOk (cLUp cLuW S) ∧ z_nn (z_I (cLUp cLuW S) 0 0 11) 40 := by
  obtain ⟨n, K, h1, hr⟩ := row_W h.r.L40 h.ia
  exact row_ok hr h1 h.r.L40 (fun l hl _ => ⟨(z_I S 3 l 6).toInt, rfl, (h.ia.ld hl).2.2.2.2.2.1.1, by have := (h.ia.ld hl).2.2.2.2.2.1.2; omega⟩) h.wl
theorem Ok.rowT (h : Ok B T S M) : cRowOk (cLUp (cLuT v w) S) ∧ z_nn (z_I (cLUp (cLuT v w) S) 0 0 11) 40 := by
  obtain ⟨n, K, h1, hr⟩ := row_T (v := v) (w := w) h.r.L40 h.ia
  exact row_ok hr h1 h.r.L40 (fun l hl hp => ⟨(cLatest S l).toInt, rfl, by have := h.ia.lat hl hp.1; omega⟩) h.wl
theorem Ok.tok (h : Ok B T S M) : cTurnOk S := ⟨h.cn.2.2, h.rowW.1⟩
-- the model's
theorem RM.ook (h : RM S M) (hs : s < cS S) : mOok M s := (h.or hs).1
theorem RM.told (h : RM S M) (hi : InvA B T S) (hk : k < 5) : z_nn (z_I M 22 0 (66 + 29 * k)) T := by
  rw [show z_I M 22 0 (66 + 29 * k) = z_I S 2 k 2 from (h.rt hk).1]; exact (hi.kd hk).1
theorem Ok.mbok (h : Ok B T S M) : mBok M := by
  have h6 := h.r.S6
  have h40 := h.r.L40
  have hN : (z_I M 22 0 3).toNatClampNeg = cL S := RM.mN h.r
  refine ⟨by rw [RM.nL h.r]; exact h.cn.2.2, fun l hl => ?_⟩
  rw [hN] at hl
  have d := h.ia.ld hl
  have ef := RM.fr h.r hl
  have hf := h.ia.fr hl
  have d1 := d.1; have d3 := d.2.2.1
  refine ⟨by omega, by omega, ?_, ?_, ?_, ?_⟩
  · rw [RM.lfr h.r hl, ef]; exact (nI_is d1.1).1
  · rw [ef]; exact RM.ook h.r hf
  · rw [RM.lkd h.r hl]; exact nn_of d3.1 (by omega)
  · rw [RM.kd h.r hl]; exact nn_le (RM.told h.r h.ia (h.ia.k5 hl)) h.ia.hT
theorem Ok.mok (h : Ok B 12 S M) (hu : z_nn (z_I M 6 0 8) 8) : mOk M := by
  have h6 := h.r.S6
  refine ⟨⟨by rw [RM.nG h.r]; exact h.cn.1, by rw [RM.nS h.r]; exact h.cn.2.1, hu⟩, h.mbok, fun s hs => ?_, fun k hk => RM.told h.r h.ia hk, fun l hl => ?_⟩
  · rw [RM.nS h.r] at hs; exact RM.ook h.r hs
  · rw [RM.mN h.r] at hl
    rw [RM.lto h.r hl]
    have d2 := (h.ia.ld hl).2.1
    exact nn_of d2.1 (by omega)
end Wf
