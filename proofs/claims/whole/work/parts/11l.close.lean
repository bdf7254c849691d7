/-! ===== CLASS AND MODEL: close, go ===== -/
section Re12
variable {d i k g s l l' t q n p T j : Nat} {v w a b c e f x y z τ : Int32} {S S' S0 M M' : zS} {B c0 : Int} {P : Nat → Prop}
theorem i_div0 (ha : 0 ≤ a.toInt) (hb : a.toInt ≤ 100000000) : 0 ≤ (a / 10000).toInt ∧ (a / 10000).toInt ≤ a.toInt := by
  have e : (a / 10000).toInt = a.toInt.tdiv 10000 := by
    rw [Int32.toInt_div, Int.bmod_eq_of_le]
    · rfl
    · have := Int.tdiv_nonneg ha (show (0 : Int) ≤ (10000 : Int32).toInt by decide)
      omega
    · have := Int.tdiv_le_self (a := a.toInt) (10000 : Int32).toInt ha
      omega
  rw [e]
  exact ⟨Int.tdiv_nonneg ha (by decide), Int.tdiv_le_self _ ha⟩
theorem InvA.allow (h : InvA B T S) (hk : k < 5) (hq : 0 ≤ v.toInt ∧ v.toInt ≤ 9999) (ht : 0 ≤ w.toInt ∧ w.toInt ≤ 10179) : 0 ≤ (cAllow S k v w).toInt := by
  obtain ⟨-, -, h3, h4⟩ := h.kd hk
  have h5 := i_mulb (a := z_I S 2 k 3) (b := w) h3 ht (by decide) (by decide)
  unfold cAllow
  have hw : 0 ≤ (if z_I S 2 k 4 < z_I S 2 k 3 * w then z_I S 2 k 4 else z_I S 2 k 3 * w).toInt ∧ (if z_I S 2 k 4 < z_I S 2 k 3 * w then z_I S 2 k 4 else z_I S 2 k 3 * w).toInt ≤ 999 := by
    by_cases u : z_I S 2 k 4 < z_I S 2 k 3 * w
    · rw [if_pos u]; exact h4
    · rw [if_neg u]
      rw [i_lt] at u
      omega
  have h6 := i_mulb (a := v) hq hw (by decide) (by decide)
  exact (i_div0 h6.2.1 (by omega)).1
theorem cAllow_co (h3 : z_I S' 2 k 3 = z_I S 2 k 3) (h4 : z_I S' 2 k 4 = z_I S 2 k 4) : cAllow S' k v w = cAllow S k v w := by unfold cAllow; rw [h3, h4]
theorem cAllowed_m {A sh : Int32} : (if A < sh then A else sh) = cMin A sh := by
  unfold cMin
  by_cases u : A < sh
  · rw [if_pos u, if_neg fun w => Int32.lt_irrefl (Int32.lt_trans u w)]
  · rw [if_neg u]
    by_cases u2 : sh < A
    · rw [if_pos u2]
    · rw [if_neg u2]; exact Int32.le_antisymm (Int32.not_lt.mp u) (Int32.not_lt.mp u2)
theorem cLastOut_m : cLastOut S l = cMin (z_I S 0 0 0) (cLatest S l) := rfl
theorem InvA.time (h : InvA B T S) (hl : l < cL S) (hs : z_I S 3 l 0 = 1) : 0 ≤ (cLastOut S l - z_I S 3 l 7).toInt ∧ (cLastOut S l - z_I S 3 l 7).toInt ≤ 10179 := by
  have h1 := h.lat hl hs
  have h2 := (h.ld hl).2.2.2.2.2.2.2.2 hs
  have h5 := (h.ld hl).2.2.2.2.1
  have h3 := h.dy
  have e : (cLastOut S l).toInt = if (cLatest S l).toInt < (z_I S 0 0 0).toInt then (cLatest S l).toInt else (z_I S 0 0 0).toInt := by rw [cLastOut_m, i_cm]
  have h4 : (z_I S 3 l 7).toInt ≤ (cLastOut S l).toInt ∧ (cLastOut S l).toInt ≤ 10179 := by
    rw [e]; split <;> omega
  rw [i_sub (by omega) (by omega)]; omega
theorem RM.upSt (h : RM S M) (hl : l < cL S) (hb : (v = 1 ∨ v = 2 ∨ v = 3 → z_I M 22 0 (211 + 17 * l + 7) = z_I S 3 l 7) ∧ (v = 0 ∨ v = 4 → z_I S 3 l 7 = -1)) : RM (z_uI S 3 l 0 v) (z_uI M 22 0 (211 + 17 * l + 6) v) := by
  have hL := h.L40
  have hp : rP 3 l 0 (211 + 17 * l + 6) := by unfold rP; omega
  have hU := rP_U hp
  refine Rel.mk' h rfl rfl rfl (h.eq.up hp) h.ej (fun k i f hl => ?_) (fun j hj => ?_) (fun l' hl' => ?_) ⟨fun g h1 h2 => ⟨fun f hf => ?_, (h.ze.1 g h1 h2).2⟩, fun i h1 h2 k hk => ?_⟩
  · rw [z_I_u, if_neg]; rintro ⟨rfl, -, -⟩; unfold lvT at hl; omega
  · rw [rR_u, if_neg (by rintro rfl; exact hU.1 hj)]
  · have e7 : rR (z_uI M 22 0 (211 + 17 * l + 6) v) (211 + 17 * l' + 7) = rR M (211 + 17 * l' + 7) := by rw [rR_u, if_neg (by omega)]
    have e8 : z_I (z_uI S 3 l 0 v) 3 l' 7 = z_I S 3 l' 7 := by rw [z_I_u, if_neg (by omega)]
    unfold rBg
    rw [e7, e8, z_I_u]
    by_cases e : l' = l
    · subst e
      rw [if_pos ⟨rfl, rfl, rfl⟩]; exact hb
    · rw [if_neg (by omega)]; exact h.bg hl'
  · rw [rR_u, if_neg (by omega)]; exact (h.ze.1 g h1 h2).1 f hf
  · rw [rR_u, if_neg (by have := h.S6; omega)]; exact h.ze.2 i h1 h2 k hk
theorem RM.upBg (h : RM S M) (hl : l < cL S) (hs : z_I S 3 l 0 = 1) : RM (z_uI S 3 l 7 v) (z_uI M 22 0 (211 + 17 * l + 7) v) := by
  have hL := h.L40
  refine Rel.mk' h rfl rfl rfl ?_ h.ej (fun k i f hl => ?_) (fun j hj => ?_) (fun l' hl' => ?_) ⟨fun g h1 h2 => ⟨fun f hf => ?_, (h.ze.1 g h1 h2).2⟩, fun i h1 h2 k hk => ?_⟩
  · refine (h.eq.mo fun k i f u => ?_).cl fun j u => ?_
    · exact (rP_U u).2 l rfl
    · unfold rP at u; omega
  · rw [z_I_u, if_neg]; rintro ⟨rfl, -, -⟩; unfold lvT at hl; omega
  · rw [rR_u, if_neg]; rintro rfl; unfold rU at hj; omega
  · have e0 : z_I (z_uI S 3 l 7 v) 3 l' 0 = z_I S 3 l' 0 := by rw [z_I_u, if_neg (by omega)]
    unfold rBg
    rw [e0, rR_u, z_I_u]
    by_cases e : l' = l
    · subst e
      rw [if_pos rfl, if_pos ⟨rfl, rfl, rfl⟩, hs]
      exact ⟨fun _ => rfl, fun u => by rcases u with u | u <;> exact absurd u (by decide)⟩
    · rw [if_neg (by omega), if_neg (by omega)]; exact h.bg hl'
  · rw [rR_u, if_neg (by omega)]; exact (h.ze.1 g h1 h2).1 f hf
  · rw [rR_u, if_neg (by have := h.S6; omega)]; exact h.ze.2 i h1 h2 k hk
theorem sim_close (h : RM S M) (hi : InvA B T S) (hl : l < cL S) (hs : z_I S 3 l 0 = 1) (ht : τ = cLastOut S l - z_I S 3 l 7) (hx : cRest S l = 0 ∨ x = y) (hv : v = 2 ∨ v = 3) :
    RM (cClose S l v y) (mEnds M l (cFr S l) τ x v) ∧ InvA B T (cClose S l v y) ∧ Fo l S (cClose S l v y) ∧ iNd (cClose S l v y) l ∧ (∀ f, f ≠ 0 → f ≠ 9 → f ≠ 10 → f ≠ 11 → z_I (cClose S l v y) 3 l f = z_I S 3 l f) ∧ z_I (cClose S l v y) 3 l 0 = v := by
  have hv4 : (0 ≤ v.toInt ∧ v.toInt ≤ 4) ∧ v ≠ 1 ∧ v ≠ 0 ∧ v ≠ 4 := by rcases hv with w | w <;> rw [w] <;> decide
  have hL := h.L40
  have hr := hi.rest hl
  have hkd := hi.k5 hl
  have htm := hi.time hl hs
  have hqu := (hi.ld hl).2.2.2.1
  have hA := hi.allow (v := z_I S 3 l 4) (w := τ) hkd (by omega) (by rw [ht]; exact htm)
  have hcm := i_cmP (x := cAllow S (cKd S l) (z_I S 3 l 4) τ) (y := cRest S l) hA hr.2.1
  -- the values
  have eAl : cAllowed S l (cRest S l) = cMin (cAllow S (cKd S l) (z_I S 3 l 4) τ) (cRest S l) := by
    unfold cAllowed; rw [← ht]; exact cAllowed_m
  generalize hal : cMin (cAllow S (cKd S l) (z_I S 3 l 4) τ) (cRest S l) = al at *
  have bsu : (cRest S l - al).toInt = (cRest S l).toInt - al.toInt := i_sub (by omega) (by omega)
  have edu : (cRest S l - al) * cRate S (cKd S l) x = (cRest S l - al) * cRate S (cKd S l) y := by
    rcases hx with u | u
    · have : cRest S l - al = 0 := by rw [i_z]; rw [i_z] at u; omega
      rw [this, Int32.zero_mul, Int32.zero_mul]
    · rw [u]
  have hdu := i_mulb (a := cRest S l - al) (b := cRate S (cKd S l) y) (X := 9999) (Y := 999) (by omega) (hi.rate hkd) (by decide) (by decide)
  generalize hdd : (cRest S l - al) * cRate S (cKd S l) y = du at *
  -- class
  have c1 : cCl1 S l = z_uI S 3 l 10 (cRest S l) := rfl
  have f1 : ∀ f, f ≠ 10 → z_I (cCl1 S l) 3 l f = z_I S 3 l f := fun f hf => by rw [c1, z_I_u, if_neg (by omega)]
  have g1 : z_I (cCl1 S l) 3 l 10 = cRest S l := by rw [c1, z_I_u, if_pos ⟨rfl, rfl, rfl⟩]
  have k1 : cKd (cCl1 S l) l = cKd S l := by unfold cKd; rw [f1 3 (by omega)]
  have a1 : cAllowed (cCl1 S l) l (z_I (cCl1 S l) 3 l 10) = al := by
    rw [← eAl, g1]
    unfold cAllowed cLastOut cLatest
    rw [k1, f1 4 (by omega), f1 7 (by omega), f1 5 (by omega), show z_I (cCl1 S l) 0 0 0 = z_I S 0 0 0 from rfl, cAllow_co (S' := cCl1 S l) (S := S) rfl rfl]
  have c2 : cCl2 S l = z_uI (cCl1 S l) 3 l 11 al := by
    show z_uI (cCl1 S l) 3 l 11 (cAllowed (cCl1 S l) l (z_I (cCl1 S l) 3 l 10)) = _
    rw [a1]
  have f2 : ∀ f, f ≠ 11 → z_I (cCl2 S l) 3 l f = z_I (cCl1 S l) 3 l f := fun f hf => by rw [c2, z_I_u, if_neg (by omega)]
  have g2 : z_I (cCl2 S l) 3 l 11 = al := by rw [c2, z_I_u, if_pos ⟨rfl, rfl, rfl⟩]
  have k2 : cKd (cCl2 S l) l = cKd S l := by unfold cKd; rw [f2 3 (by omega), f1 3 (by omega)]
  have o1 : Fo l S (cCl1 S l) := .u3
  have o2 : Fo l S (cCl2 S l) := by rw [c2]; exact .tr o1 .u3
  have d2 : cDuty (cCl2 S l) l (z_I (cCl2 S l) 3 l 10 - z_I (cCl2 S l) 3 l 11) y = du := by
    unfold cDuty
    rw [f2 10 (by omega), g1, g2, k2, o2.rate, hdd]
  have c3 : cCl3 S l y = z_uI (cCl2 S l) 3 l 9 du := by
    show z_uI (cCl2 S l) 3 l 9 (cDuty (cCl2 S l) l (z_I (cCl2 S l) 3 l 10 - z_I (cCl2 S l) 3 l 11) y) = _
    rw [d2]
  have f3 : ∀ f, f ≠ 9 → z_I (cCl3 S l y) 3 l f = z_I (cCl2 S l) 3 l f := fun f hf => by rw [c3, z_I_u, if_neg (by omega)]
  have g3 : z_I (cCl3 S l y) 3 l 9 = du := by rw [c3, z_I_u, if_pos ⟨rfl, rfl, rfl⟩]
  have o3 : Fo l S (cCl3 S l y) := by rw [c3]; exact .tr o2 .u3
  have i1 : InvA B T (cCl1 S l) := hi.u3 (by omega)
  have i2 : InvA B T (cCl2 S l) := by rw [c2]; exact i1.u3 (by omega)
  have i3 : InvA B T (cCl3 S l y) := by rw [c3]; exact i2.u3 (by omega)
  -- model
  have r1 : RM (cCl1 S l) (mEn1 M l) := by
    show RM (z_uI S 3 l 10 (cRest S l)) (z_uI M 22 0 (211 + 17 * l + 10) (mRest M l))
    rw [RM.rest h hl]
    exact RM.up h (by unfold rP; omega) (by omega) (by omega) (by omega) (by omega)
  have hl1 : l < cL (cCl1 S l) := hl
  have r2 : RM (cCl2 S l) (mEn2 M l τ) := by
    rw [c2]
    show RM _ (z_uI (mEn1 M l) 22 0 (211 + 17 * l + 11) (mMin (mAllow (mEn1 M l) (mKd M l) (z_I M 22 0 (211 + 17 * l + 3)) τ) (mRest M l)))
    rw [RM.kd h hl, RM.lqu h hl, RM.rest h hl, RM.allow r1 hkd, mMin_c, cAllow_co (S' := cCl1 S l) (S := S) rfl rfl, hal]
    exact RM.up r1 (by unfold rP; omega) (by omega) (by omega) (by omega) (by omega)
  have hl2 : l < cL (cCl2 S l) := by rw [o2.L]; exact hl
  have r3 : RM (cCl3 S l y) (mEn3 M l τ x) := by
    rw [c3]
    show RM _ (z_uI (mEn2 M l τ) 22 0 (211 + 17 * l + 9) (mDuty (mEn2 M l τ) l (mRest M l) τ x))
    have : mDuty (mEn2 M l τ) l (mRest M l) τ x = du := by
      unfold mDuty
      rw [RM.kd r2 hl2, RM.lqu r2 hl2, RM.rest h hl, k2, f2 4 (by omega), f1 4 (by omega), RM.allow r2 hkd, mMin_c, (r2.rt hkd).rate, o2.rate]
      rw [cAllow_co (S' := cCl2 S l) (S := S) (by rw [c2]; rfl) (by rw [c2]; rfl), hal, edu]
    rw [this]
    exact RM.up r2 (by unfold rP; omega) (by omega) (by omega) (by omega) (by omega)
  have hl3 : l < cL (cCl3 S l y) := by rw [o3.L]; exact hl
  have m9 : z_I (mEn3 M l τ x) 22 0 (211 + 17 * l + 9) = du := by rw [RM.lg (q := 9) r3 hl3 (by omega) (by omega), g3]
  have fr3 : cFr (cCl3 S l y) l = cFr S l := by unfold cFr; rw [f3 1 (by omega), f2 1 (by omega), f1 1 (by omega)]
  obtain ⟨r4, i4, o4⟩ := sim_due (a := du) r3 i3 hl3 (by omega)
  rw [fr3] at r4
  have e4 : cCl4 S l y = cMakeDue (cCl3 S l y) l du := by
    show cMakeDue (cCl3 S l y) l (z_I (cCl3 S l y) 3 l 9) = _
    rw [g3]
  have em4 : mEn4 M l (cFr S l) τ x = mDue (mEn3 M l τ x) l (cFr S l) du := by
    show mDue (mEn3 M l τ x) l (cFr S l) (z_I (mEn3 M l τ x) 22 0 (211 + 17 * l + 9)) = _
    rw [m9]
  rw [← e4, ← em4] at r4
  rw [← e4] at i4 o4
  have hl4 : l < cL (cCl4 S l y) := by rw [o4.L]; exact hl3
  have f4 : ∀ f, z_I (cCl4 S l y) 3 l f = z_I (cCl3 S l y) 3 l f := fun f => o4 3 l f (by omega) (by omega)
  have fr4 : cFr (cCl4 S l y) l = cFr S l := by unfold cFr; rw [f4]; exact fr3
  have hh := i4.held r4.G4 hl4
  obtain ⟨r5, i5, o5, e5⟩ := sim_rel (a := cHeld (cCl4 S l y) l) r4 i4 hl4 (by omega) (by omega)
  rw [fr4] at r5
  generalize hS5 : cRel (cCl4 S l y) l (cHeld (cCl4 S l y) l) = S5 at *
  have hl5 : l < cL S5 := by rw [o5.L]; exact hl4
  have f5 : ∀ f, z_I S5 3 l f = z_I (cCl4 S l y) 3 l f := fun f => o5 3 l f (by omega) (by omega)
  have ff : ∀ f, f ≠ 9 → f ≠ 10 → f ≠ 11 → z_I S5 3 l f = z_I S 3 l f := fun f a9 a10 a11 => by rw [f5, f4, f3 f a9, f2 f a11, f1 f a10]
  have hs5 : z_I S5 3 l 0 = 1 := by rw [ff 0 (by omega) (by omega) (by omega)]; exact hs
  have r6 : RM (cClose S l v y) (mEnds M l (cFr S l) τ x v) := by
    show RM (z_uI (cRel (cCl4 S l y) l (cHeld (cCl4 S l y) l)) 3 l 0 v) (z_uI (mRel (mEn4 M l (cFr S l) τ x) l (cFr S l) none (mHeld (mEn4 M l (cFr S l) τ x) l)) 22 0 (211 + 17 * l + 6) v)
    rw [RM.held r4 hl4, hS5]
    refine RM.upSt r5 hl5 ⟨fun _ => RM.lbg r5 hl5 hs5, fun u => ?_⟩
    exact (u.elim hv4.2.2.1 hv4.2.2.2).elim
  have eC : cClose S l v y = z_uI S5 3 l 0 v := by
    show z_uI (cRel (cCl4 S l y) l (cHeld (cCl4 S l y) l)) 3 l 0 v = _
    rw [hS5]
  have o6 : Fo l S (cClose S l v y) := by rw [eC]; exact .tr (.tr (.tr o3 o4.o) o5.o) .u3
  have f6 : ∀ f, f ≠ 0 → z_I (cClose S l v y) 3 l f = z_I S5 3 l f := fun f hf => by rw [eC, z_I_u, if_neg (by omega)]
  have g6 : z_I (cClose S l v y) 3 l 0 = v := by rw [eC, z_I_u, if_pos ⟨rfl, rfl, rfl⟩]
  refine ⟨r6, ?_, o6, ?_, fun f a0 a9 a10 a11 => by rw [f6 f a0, ff f a9 a10 a11], g6⟩
  · rw [eC]
    refine i5.u3' ?_
    rw [← eC]
    have := i5.ld hl5
    unfold iLd at this ⊢
    rw [g6, f6 1 (by omega), f6 2 (by omega), f6 3 (by omega), f6 4 (by omega), f6 5 (by omega), f6 6 (by omega), f6 7 (by omega), f6 8 (by omega), o6.N, o6.h0]
    rw [show cS S5 = cS S by rw [o5.N, o4.N, o3.N], show z_I S5 0 0 0 = z_I S 0 0 0 by rw [o5.o.h0, o4.o.h0, o3.h0]] at this
    exact ⟨this.1, this.2.1, this.2.2.1, this.2.2.2.1, this.2.2.2.2.1, this.2.2.2.2.2.1, hv4.1, this.2.2.2.2.2.2.2.1, fun u => absurd u hv4.2.1⟩
  · have z14 : ∀ g, g < 4 → z_I S5 14 l g = 0 := iHs_0 (by omega) fun g hg => (i5.ho hl5 g hg).1
    refine ⟨fun u => ?_, fun _ g hg => ?_⟩
    · rw [g6] at u
      exact absurd u hv4.2.1
    · rw [eC, z_I_u, if_neg (by omega)]; exact z14 g hg
-- a load begins to go
theorem cHoldSt_cm : cHoldSt l s i (x, z_uI S 3 j q v) = ((cHoldSt l s i (x, S)).1, z_uI (cHoldSt l s i (x, S)).2 3 j q v) := by
  show (_, z_uI (z_uI (z_uI S 3 j q v) 1 _ 1 _) 14 l _ _) = (_, z_uI (z_uI (z_uI S 1 _ 1 _) 14 l _ _) 3 j q v)
  rw [z_uI_cm (S := S) (k := 3) (k' := 1) (by omega), z_uI_cm (k := 3) (k' := 14) (by omega)]
  rfl
theorem cHold_it_cm : ∀ (n i : Nat) (x : Int32) (S : zS), z_it (cHoldSt l s) n i (x, z_uI S 3 j q v) = ((z_it (cHoldSt l s) n i (x, S)).1, z_uI (z_it (cHoldSt l s) n i (x, S)).2 3 j q v)
  | 0, _, _, _ => rfl
  | n + 1, i, x, S => by
    show z_it (cHoldSt l s) n (i + 1) (cHoldSt l s i (x, z_uI S 3 j q v)) = ((z_it (cHoldSt l s) n (i + 1) (cHoldSt l s i (x, S))).1, z_uI (z_it (cHoldSt l s) n (i + 1) (cHoldSt l s i (x, S))).2 3 j q v)
    rw [cHoldSt_cm, cHold_it_cm n (i + 1) (cHoldSt l s i (x, S)).1 (cHoldSt l s i (x, S)).2]
theorem cHold_cm (hq : q ≠ 1) : cHold (z_uI S 3 j q v) l a = z_uI (cHold S l a) 3 j q v := by
  have e : z_I (z_uI S 3 j q v) 3 l 1 = z_I S 3 l 1 := by rw [z_I_u, if_neg (by omega)]
  unfold cHold
  show z_uJ (z_it (cHoldSt l (z_I (z_uI S 3 j q v) 3 l 1).toNatClampNeg) (cOrd (z_uI S 3 j q v) (z_I (z_uI S 3 j q v) 3 l 1).toNatClampNeg) 0 (a, z_uI S 3 j q v)).2 3 l 13 (z_J (z_it (cHoldSt l (z_I (z_uI S 3 j q v) 3 l 1).toNatClampNeg) (cOrd (z_uI S 3 j q v) (z_I (z_uI S 3 j q v) 3 l 1).toNatClampNeg) 0 (a, z_uI S 3 j q v)).2 3 l 13 + (a - (z_it (cHoldSt l (z_I (z_uI S 3 j q v) 3 l 1).toNatClampNeg) (cOrd (z_uI S 3 j q v) (z_I (z_uI S 3 j q v) 3 l 1).toNatClampNeg) 0 (a, z_uI S 3 j q v)).1).toInt64) = _
  rw [e, show cOrd (z_uI S 3 j q v) (z_I S 3 l 1).toNatClampNeg = cOrd S (z_I S 3 l 1).toNatClampNeg from rfl, cHold_it_cm]
  rfl
theorem sim_go (h : RM S M) (hi : InvA B T S) (hl : l < cL S) (hs : z_I S 3 l 0 = 0) (hn : iNd S l) (hle : cNeed S l ≤ cFF S (cFr S l)) :
    RM (cGo S l) (mGo M l) ∧ InvA B T (cGo S l) ∧ Fo l S (cGo S l) ∧ iNd (cGo S l) l ∧ (∀ f, f ≠ 0 → f ≠ 7 → z_I (cGo S l) 3 l f = z_I S 3 l f) ∧ z_I (cGo S l) 3 l 0 = 1 := by
  have hnd := hi.need hl
  obtain ⟨r1, i1, o1, e1⟩ := sim_hold (a := cNeed S l) h hi hl (by omega) (i_le.mp hle)
  have eC : cGo S l = z_uI (z_uI (cHold S l (cNeed S l)) 3 l 0 1) 3 l 7 (z_I S 0 0 0) := by
    unfold cGo
    rw [cHold_cm (by omega), cHold_cm (by omega)]
  generalize hS1 : cHold S l (cNeed S l) = S1 at *
  have hl1 : l < cL S1 := by rw [o1.L]; exact hl
  have f1 : ∀ f, z_I S1 3 l f = z_I S 3 l f := fun f => o1 3 l f (by omega) (by omega)
  have f2 : ∀ f, f ≠ 0 → f ≠ 7 → z_I (cGo S l) 3 l f = z_I S 3 l f := fun f a b => by rw [eC, z_I_u, if_neg (by omega), z_I_u, if_neg (by omega), f1]
  have f20 : z_I (cGo S l) 3 l 0 = 1 := by rw [eC, z_I_u, if_neg (by omega), z_I_u, if_pos ⟨rfl, rfl, rfl⟩]
  have f27 : z_I (cGo S l) 3 l 7 = z_I S 0 0 0 := by rw [eC, z_I_u, if_pos ⟨rfl, rfl, rfl⟩]
  have o2 : Fo l S (cGo S l) := by rw [eC]; exact .tr (.tr o1.o .u3) .u3
  have hsw : ∀ X : zS, z_uI (z_uI X 3 l 0 1) 3 l 7 (z_I S 0 0 0) = z_uI (z_uI X 3 l 7 (z_I S 0 0 0)) 3 l 0 1 := fun X => by
    refine Prod.ext (funext fun k1 => funext fun i1 => funext fun f1 => ?_) rfl
    show (if k1 = 3 ∧ i1 = l ∧ f1 = 7 then z_I S 0 0 0 else if k1 = 3 ∧ i1 = l ∧ f1 = 0 then 1 else X.1 k1 i1 f1) = (if k1 = 3 ∧ i1 = l ∧ f1 = 0 then 1 else if k1 = 3 ∧ i1 = l ∧ f1 = 7 then z_I S 0 0 0 else X.1 k1 i1 f1)
    by_cases u : k1 = 3 ∧ i1 = l ∧ f1 = 7
    · rw [if_pos u, if_neg (by omega), if_pos u]
    · rw [if_neg u, if_neg u]
  have r2 : RM (cGo S l) (mGo M l) := by
    rw [eC]
    unfold mGo mGo1
    rw [RM.need h hi hl (.inl hs), RM.fr h hl]
    have b1 := h.bg hl
    -- first the day, then the state
    have hd : z_I (z_uI (mHold M l (cFr S l) (cNeed S l)) 22 0 (211 + 17 * l + 6) 1) 22 0 0 = z_I S 0 0 0 := by
      rw [zn_un (by omega), RM.day r1, o1.o.h0]
    rw [hd]
    have hL := r1.L40
    have hp : rP 3 l 0 (211 + 17 * l + 6) := by unfold rP; omega
    have hU := rP_U hp
    generalize mHold M l (cFr S l) (cNeed S l) = M1 at r1
    refine Rel.mk' r1 rfl rfl rfl ?_ r1.ej (fun k i f hl => ?_) (fun j hj => ?_) (fun l' hl' => ?_) ⟨fun g h1 h2 => ⟨fun f hf => ?_, (r1.ze.1 g h1 h2).2⟩, fun i h1 h2 k hk => ?_⟩
    · refine ((r1.eq.up hp).mo fun k i f u => ?_).cl fun j u => ?_
      · exact (rP_U u).2 l rfl
      · unfold rP at u; omega
    · have : k ≠ 3 := by unfold lvT at hl; omega
      rw [z_I_u, if_neg fun u => this u.1, z_I_u, if_neg fun u => this u.1]
    · rw [rR_u, if_neg, rR_u, if_neg (by rintro rfl; exact hU.1 hj)]
      rintro rfl; unfold rU at hj; omega
    · unfold rBg
      rw [rR_u, rR_u, z_I_u, z_I_u, z_I_u, z_I_u]
      by_cases e : l' = l
      · subst e
        rw [if_pos rfl, if_neg (by omega), if_pos ⟨rfl, rfl, rfl⟩, if_pos ⟨rfl, rfl, rfl⟩]
        exact ⟨fun _ => rfl, fun u => by rcases u with u | u <;> exact absurd u (by decide)⟩
      · rw [if_neg (by omega), if_neg (by omega), if_neg (by omega), if_neg (by omega), if_neg (by omega), if_neg (by omega)]; exact r1.bg hl'
    · rw [rR_u, if_neg (by omega), rR_u, if_neg (by omega)]; exact (r1.ze.1 g h1 h2).1 f hf
    · have := r1.S6
      rw [rR_u, if_neg (by omega), rR_u, if_neg (by omega)]; exact r1.ze.2 i h1 h2 k hk
  have hdy := hi.dy
  have h7 : ∀ f, f ≠ 7 → z_I (z_uI S1 3 l 7 (z_I S 0 0 0)) 3 l f = z_I S 3 l f := fun f hf => by rw [z_I_u, if_neg (by omega), f1]
  have eN1 : cS S1 = cS S := o1.N
  have i2 : InvA B T (cGo S l) := by
    have hd := hi.ld hl
    rw [eC, hsw]
    refine InvA.u3' (InvA.u3' i1 ?_) ?_
    · unfold iLd at hd ⊢
      rw [h7 0 (by omega), h7 1 (by omega), h7 2 (by omega), h7 3 (by omega), h7 4 (by omega), h7 5 (by omega), h7 6 (by omega), h7 8 (by omega)]
      rw [show cS (z_uI S1 3 l 7 (z_I S 0 0 0)) = cS S from eN1]
      exact ⟨hd.1, hd.2.1, hd.2.2.1, hd.2.2.2.1, hd.2.2.2.2.1, hd.2.2.2.2.2.1, hd.2.2.2.2.2.2.1, hd.2.2.2.2.2.2.2.1, fun u => by rw [hs] at u; exact absurd u (by decide)⟩
    · rw [← hsw, ← eC]
      unfold iLd at hd ⊢
      rw [f20, f27, f2 1 (by omega) (by omega), f2 2 (by omega) (by omega), f2 3 (by omega) (by omega), f2 4 (by omega) (by omega), f2 5 (by omega) (by omega), f2 6 (by omega) (by omega), f2 8 (by omega) (by omega), o2.N, o2.h0]
      exact ⟨hd.1, hd.2.1, hd.2.2.1, hd.2.2.2.1, hd.2.2.2.2.1, hd.2.2.2.2.2.1, by decide, hd.2.2.2.2.2.2.2.1, fun _ => ⟨hdy.1, Int.le_refl _⟩⟩
  have e0 : iHs S l = 0 := by
    have := hn.2 (by rw [hs]; decide)
    unfold iHs
    rw [this 0 (by omega), this 1 (by omega), this 2 (by omega), this 3 (by omega)]; rfl
  have eH : iHs (cGo S l) l = iHs S1 l := by rw [eC]; rfl
  have eNd : cNeed (cGo S l) l = cNeed S l := by
    unfold cNeed cLatest cRest cKd
    rw [f20, f27, f2 3 (by omega) (by omega), f2 4 (by omega) (by omega), f2 5 (by omega) (by omega), f2 8 (by omega) (by omega), o2.gr, hs, if_neg (by decide), if_pos rfl, if_pos rfl]
    rw [o2.gr]
  exact ⟨r2, i2, o2, ⟨fun _ => by rw [eH, e1, e0, eNd]; omega, fun u => absurd f20 u⟩, f2, f20⟩
end Re12
