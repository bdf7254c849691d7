/-! ===== CLASS AND MODEL: places read, invariant, values ===== -/
section Re7
variable {d i k g s l t q n p T : Nat} {v w a b c e f x y z : Int32} {S M : zS} {B : Int}
theorem RM.day (h : RM S M) : z_I M 22 0 0 = z_I S 0 0 0 := h.eq 0 0 0 0 (by unfold rP; omega) (by unfold rLv; omega)
theorem RM.grace (h : RM S M) : z_I M 22 0 4 = z_I S 0 0 1 := h.eq 0 0 1 4 (by unfold rP; omega) (by unfold rLv; omega)
theorem RM.strict (h : RM S M) : z_I M 22 0 5 = z_I S 0 0 2 := h.eq 0 0 2 5 (by unfold rP; omega) (by unfold rLv; omega)
theorem RM.nG (h : RM S M) : z_I M 22 0 1 = z_I S 0 0 3 := h.eq 0 0 3 1 (by unfold rP; omega) (by unfold rLv; omega)
theorem RM.nS (h : RM S M) : z_I M 22 0 2 = z_I S 0 0 4 := h.eq 0 0 4 2 (by unfold rP; omega) (by unfold rLv; omega)
theorem RM.nL (h : RM S M) : z_I M 22 0 3 = z_I S 0 0 5 := h.eq 0 0 5 3 (by unfold rP; omega) (by unfold rLv; omega)
theorem RM.mN (h : RM S M) : mN M = cL S := congrArg Int32.toNatClampNeg (RM.nL h)
theorem RM.gu (h : RM S M) (hg : g < cG S) (hf : q < 3) : z_I M 22 0 (6 + 3 * g + q) = z_I S 1 g q := h.eq 1 g q _ (by have := h.G4; unfold rP; omega) (by unfold rLv; omega)
theorem RM.stk (h : RM S M) (hs : s < cS S) (hk : k < 5) : z_I M 22 0 (18 + 8 * s + k) = z_I S 15 s k := h.eq 15 s k _ (by have := h.S6; unfold rP; omega) (by unfold rLv; omega)
theorem RM.alw (h : RM S M) (hk : k < 5) : z_I M 22 0 (66 + 29 * k + 1) = z_I S 2 k 3 := h.eq 2 k 3 _ (by unfold rP; omega) (by unfold rLv; omega)
theorem RM.cap (h : RM S M) (hk : k < 5) : z_I M 22 0 (66 + 29 * k + 2) = z_I S 2 k 4 := h.eq 2 k 4 _ (by unfold rP; omega) (by unfold rLv; omega)
theorem RM.sta (h : RM S M) (hl : l < cL S) : z_I M 22 0 (211 + 17 * l + 6) = z_I S 3 l 0 := h.eq 3 l 0 _ (by have := h.L40; unfold rP; omega) (by unfold rLv; omega)
theorem RM.lf (h : RM S M) (hl : l < cL S) (hq : q < 6) : z_I M 22 0 (211 + 17 * l + q) = z_I S 3 l (q + 1) := h.eq 3 l (q + 1) _ (by have := h.L40; unfold rP; omega) (by unfold rLv; omega)
theorem RM.lfr (h : RM S M) (hl : l < cL S) : z_I M 22 0 (211 + 17 * l) = z_I S 3 l 1 := RM.lf (q := 0) h hl (by omega)
theorem RM.lto (h : RM S M) (hl : l < cL S) : z_I M 22 0 (211 + 17 * l + 1) = z_I S 3 l 2 := RM.lf h hl (by omega)
theorem RM.lkd (h : RM S M) (hl : l < cL S) : z_I M 22 0 (211 + 17 * l + 2) = z_I S 3 l 3 := RM.lf h hl (by omega)
theorem RM.lqu (h : RM S M) (hl : l < cL S) : z_I M 22 0 (211 + 17 * l + 3) = z_I S 3 l 4 := RM.lf h hl (by omega)
theorem RM.ldy (h : RM S M) (hl : l < cL S) : z_I M 22 0 (211 + 17 * l + 4) = z_I S 3 l 5 := RM.lf h hl (by omega)
theorem RM.lrk (h : RM S M) (hl : l < cL S) : z_I M 22 0 (211 + 17 * l + 5) = z_I S 3 l 6 := RM.lf h hl (by omega)
theorem RM.lg (h : RM S M) (hl : l < cL S) (h1 : 8 ≤ q) (h2 : q ≤ 12) : z_I M 22 0 (211 + 17 * l + q) = z_I S 3 l q := h.eq 3 l q _ (by have := h.L40; unfold rP; omega) (by unfold rLv; omega)
theorem RM.lh (h : RM S M) (hl : l < cL S) (hg : g < 4) : z_I M 22 0 (211 + 17 * l + 13 + g) = z_I S 14 l g := h.eq 14 l g _ (by have := h.L40; unfold rP; omega) (by unfold rLv; omega)
theorem RM.lbg (h : RM S M) (hl : l < cL S) (hs : z_I S 3 l 0 = 1) : z_I M 22 0 (211 + 17 * l + 7) = z_I S 3 l 7 := (h.bg hl).1 (.inl hs)
theorem RM.st (h : RM S M) (hl : l < cL S) : mSt M l = z_I S 3 l 0 := RM.sta h hl
theorem RM.rest (h : RM S M) (hl : l < cL S) : mRest M l = cRest S l := by unfold mRest cRest; rw [RM.lqu h hl, RM.lg h hl (by omega) (by omega)]
theorem RM.lat (h : RM S M) (hl : l < cL S) (hs : z_I S 3 l 0 = 1) : mLat M l = cLatest S l := by unfold mLat cLatest; rw [RM.lbg h hl hs, RM.ldy h hl]
theorem RM.free (h : RM S M) (hg : g < cG S) : mFree M g = cFree S g := by unfold mFree cFree; rw [RM.gu (q := 1) h hg (by omega), RM.gu (q := 2) h hg (by omega), show z_I M 22 0 (6 + 3 * g) = _ from RM.gu (q := 0) h hg (by omega)]
theorem RM.kd (h : RM S M) (hl : l < cL S) : mKd M l = cKd S l := by unfold mKd cKd; rw [RM.lkd h hl]
theorem RM.fr (h : RM S M) (hl : l < cL S) : mFr M l = cFr S l := by unfold mFr cFr; rw [RM.lfr h hl]
theorem RM.held (h : RM S M) (hl : l < cL S) : mHeld M l = cHeld S l := by
  show 0 + z_I M 22 0 (211 + 17 * l + 13 + 0) + z_I M 22 0 (211 + 17 * l + 13 + 1) + z_I M 22 0 (211 + 17 * l + 13 + 2) + z_I M 22 0 (211 + 17 * l + 13 + 3) = _
  rw [RM.lh h hl (by omega), RM.lh h hl (by omega), RM.lh h hl (by omega), RM.lh h hl (by omega)]; rfl
theorem RM.allow (h : RM S M) (hk : k < 5) : mAllow M k v w = cAllow S k v w := by
  unfold mAllow cAllow
  rw [RM.alw h hk, RM.cap h hk, mMin_c]; rfl
theorem RM.ff (h : RM S M) (hs : s < cS S) : mFF M s = cFF S s := by
  have ho := h.or hs
  obtain ⟨h3, -⟩ := ho.ord
  unfold mFF cFF cFFGo
  rw [show 3 = cOrd S s + (3 - cOrd S s) by omega, z_it_add, z_it_idd (fun _ => True) (3 - cOrd S s) _ _ trivial]
  · refine z_it_ext _ _ _ fun j y h1 h2 => ?_
    obtain ⟨g1, g2, g3⟩ := ho.lo (i := j) (by omega)
    unfold mFfS
    rw [show z_I M 22 0 (18 + 8 * s + 5 + j) = nI (cLn S s j) from g3, if_neg (of_eq_false (zn_n1 g2)), z_nIc (by omega), RM.free h g1]
  · intro j y _ h1 h2
    unfold mFfS
    rw [show z_I M 22 0 (18 + 8 * s + 5 + j) = -1 from ho.hi (by omega) (by omega), if_pos rfl, Int32.add_zero]
-- sums
def iSum (F : Nat → Int) : Nat → Int
  | 0 => 0
  | n + 1 => iSum F n + F n
theorem iSum_ext {F H : Nat → Int} : ∀ n, (∀ i, i < n → F i = H i) → iSum F n = iSum H n
  | 0, _ => rfl
  | n + 1, h => by
    show iSum F n + F n = iSum H n + H n
    rw [iSum_ext n fun i hi => h i (by omega), h n (by omega)]
theorem iSum_up {F H : Nat → Int} : ∀ n, l < n → (∀ i, i < n → i ≠ l → F i = H i) → iSum H n = iSum F n + (H l - F l)
  | 0, h, _ => absurd h (Nat.not_lt_zero _)
  | n + 1, h, he => by
    show iSum H n + H n = iSum F n + F n + (H l - F l)
    rcases Nat.lt_or_ge l n with u | u
    · rw [iSum_up n u fun i hi => he i (by omega), he n (by omega) (by omega)]; omega
    · have e : l = n := by omega
      subst e
      rw [iSum_ext l fun i hi => (he i (by omega) (by omega)).symm]; omega
theorem iSum_le {F : Nat → Int} : ∀ n, (∀ i, i < n → 0 ≤ F i) → l < n → F l ≤ iSum F n
  | 0, _, h => absurd h (Nat.not_lt_zero _)
  | n + 1, h0, h => by
    show F l ≤ iSum F n + F n
    have nn : ∀ m, (∀ i, i < m → 0 ≤ F i) → 0 ≤ iSum F m := fun m => by
      induction m with
      | zero => intro _; exact Int.le_refl _
      | succ m ih => intro u; show 0 ≤ iSum F m + F m; have := ih fun i hi => u i (by omega); have := u m (by omega); omega
    rcases Nat.lt_or_ge l n with u | u
    · have := iSum_le n (fun i hi => h0 i (by omega)) u
      have := h0 n (by omega)
      omega
    · have e : l = n := by omega
      subst e
      have := nn l fun i hi => h0 i (by omega)
      omega
theorem iSum_nn {F : Nat → Int} : ∀ n, (∀ i, i < n → 0 ≤ F i) → 0 ≤ iSum F n
  | 0, _ => Int.le_refl _
  | n + 1, h => by
    show 0 ≤ iSum F n + F n
    have := iSum_nn n fun i hi => h i (by omega)
    have := h n (by omega)
    omega
-- the invariant
def iLd (S : zS) (l : Nat) : Prop :=
  (0 ≤ (z_I S 3 l 1).toInt ∧ (z_I S 3 l 1).toInt < cS S) ∧ (0 ≤ (z_I S 3 l 2).toInt ∧ (z_I S 3 l 2).toInt < cS S) ∧ (0 ≤ (z_I S 3 l 3).toInt ∧ (z_I S 3 l 3).toInt < 5) ∧
  (1 ≤ (z_I S 3 l 4).toInt ∧ (z_I S 3 l 4).toInt ≤ 9999) ∧ (1 ≤ (z_I S 3 l 5).toInt ∧ (z_I S 3 l 5).toInt ≤ 180) ∧ (0 ≤ (z_I S 3 l 6).toInt ∧ (z_I S 3 l 6).toInt ≤ 9) ∧
  (0 ≤ (z_I S 3 l 0).toInt ∧ (z_I S 3 l 0).toInt ≤ 4) ∧ (0 ≤ (z_I S 3 l 8).toInt ∧ (z_I S 3 l 8).toInt ≤ (z_I S 3 l 4).toInt) ∧
  (z_I S 3 l 0 = 1 → 0 ≤ (z_I S 3 l 7).toInt ∧ (z_I S 3 l 7).toInt ≤ (z_I S 0 0 0).toInt)
def iKd (T : Nat) (S : zS) (k : Nat) : Prop :=
  z_nn (z_I S 2 k 2) T ∧ (∀ i, i < cTold S k → (0 ≤ (z_I S 12 k i).toInt ∧ (z_I S 12 k i).toInt ≤ 9999) ∧ 0 ≤ (z_I S 13 k i).toInt ∧ (z_I S 13 k i).toInt ≤ 999) ∧
  (0 ≤ (z_I S 2 k 3).toInt ∧ (z_I S 2 k 3).toInt ≤ 99) ∧ 0 ≤ (z_I S 2 k 4).toInt ∧ (z_I S 2 k 4).toInt ≤ 999
def iGu (B : Int) (S : zS) (g : Nat) : Prop := 0 ≤ (z_I S 1 g 2).toInt ∧ (z_I S 1 g 1).toInt + (z_I S 1 g 2).toInt ≤ (z_I S 1 g 0).toInt ∧ (z_I S 1 g 0).toInt ≤ B
def iHo (S : zS) (l : Nat) : Prop := ∀ g, g < 4 → 0 ≤ (z_I S 14 l g).toInt ∧ (cG S ≤ g → z_I S 14 l g = 0)
def InvA (B : Int) (T : Nat) (S : zS) : Prop :=
  (B ≤ 19999998 ∧ T ≤ 13) ∧ ((0 ≤ (z_I S 0 0 0).toInt ∧ (z_I S 0 0 0).toInt ≤ 9999) ∧ 0 ≤ (z_I S 0 0 1).toInt ∧ (z_I S 0 0 1).toInt ≤ 60) ∧
  (∀ g, g < cG S → iGu B S g) ∧ (∀ g, g < cG S → (z_I S 1 g 1).toInt = iSum (fun l => (z_I S 14 l g).toInt) (cL S)) ∧
  (∀ l, l < cL S → iHo S l) ∧ (∀ l, l < cL S → iLd S l) ∧ (∀ k, k < 5 → iKd T S k)
theorem InvA.hB (h : InvA B T S) : B ≤ 19999998 := h.1.1
theorem InvA.hT (h : InvA B T S) : T ≤ 13 := h.1.2
theorem InvA.dy (h : InvA B T S) : 0 ≤ (z_I S 0 0 0).toInt ∧ (z_I S 0 0 0).toInt ≤ 9999 := h.2.1.1
theorem InvA.gra (h : InvA B T S) : 0 ≤ (z_I S 0 0 1).toInt ∧ (z_I S 0 0 1).toInt ≤ 60 := h.2.1.2
theorem InvA.gu (h : InvA B T S) (hg : g < cG S) : iGu B S g := h.2.2.1 g hg
theorem InvA.sm (h : InvA B T S) (hg : g < cG S) : (z_I S 1 g 1).toInt = iSum (fun l => (z_I S 14 l g).toInt) (cL S) := h.2.2.2.1 g hg
theorem InvA.ho (h : InvA B T S) (hl : l < cL S) : iHo S l := h.2.2.2.2.1 l hl
theorem InvA.ld (h : InvA B T S) (hl : l < cL S) : iLd S l := h.2.2.2.2.2.1 l hl
theorem InvA.kd (h : InvA B T S) (hk : k < 5) : iKd T S k := h.2.2.2.2.2.2 k hk
theorem InvA.hd0 (h : InvA B T S) (hG : cG S ≤ 4) (hg : g < cG S) : 0 ≤ (z_I S 1 g 1).toInt := by
  rw [h.sm hg]; exact iSum_nn _ fun i hi => (h.ho hi g (by omega)).1
theorem InvA.hle (h : InvA B T S) (hG : cG S ≤ 4) (hg : g < cG S) (hl : l < cL S) : (z_I S 14 l g).toInt ≤ (z_I S 1 g 1).toInt := by
  rw [h.sm hg]; exact iSum_le (F := fun l => (z_I S 14 l g).toInt) _ (fun i hi => (h.ho hi g (by omega)).1) hl
theorem InvA.hB0 (h : InvA B T S) (hG : cG S ≤ 4) (hg : g < 4) (hl : l < cL S) : 0 ≤ (z_I S 14 l g).toInt ∧ (z_I S 14 l g).toInt ≤ 19999998 := by
  refine ⟨(h.ho hl g hg).1, ?_⟩
  rcases Nat.lt_or_ge g (cG S) with u | u
  · have := h.hle hG u hl
    have := h.gu u
    have := h.hB
    unfold iGu at *
    omega
  · rw [(h.ho hl g hg).2 u]; decide
theorem InvA.free (h : InvA B T S) (hG : cG S ≤ 4) (hg : g < cG S) : (cFree S g).toInt = (z_I S 1 g 0).toInt - (z_I S 1 g 1).toInt - (z_I S 1 g 2).toInt ∧ 0 ≤ (cFree S g).toInt ∧ (cFree S g).toInt ≤ 19999998 := by
  have h1 := h.hd0 hG hg
  obtain ⟨h2, h3, h4⟩ := h.gu hg
  have h5 := h.hB
  have e1 : (z_I S 1 g 0 - z_I S 1 g 1).toInt = (z_I S 1 g 0).toInt - (z_I S 1 g 1).toInt := i_sub (by omega) (by omega)
  have e2 : (cFree S g).toInt = (z_I S 1 g 0).toInt - (z_I S 1 g 1).toInt - (z_I S 1 g 2).toInt := by
    unfold cFree
    rw [i_sub (by omega) (by omega), e1]
  omega
def iHs (S : zS) (l : Nat) : Int := (z_I S 14 l 0).toInt + (z_I S 14 l 1).toInt + (z_I S 14 l 2).toInt + (z_I S 14 l 3).toInt
theorem InvA.held (h : InvA B T S) (hG : cG S ≤ 4) (hl : l < cL S) : (cHeld S l).toInt = iHs S l ∧ 0 ≤ iHs S l ∧ iHs S l ≤ 79999992 := by
  have a0 := h.hB0 hG (g := 0) (by omega) hl
  have a1 := h.hB0 hG (g := 1) (by omega) hl
  have a2 := h.hB0 hG (g := 2) (by omega) hl
  have a3 := h.hB0 hG (g := 3) (by omega) hl
  unfold cHeld iHs
  have e0 : ((0 : Int32) + z_I S 14 l 0).toInt = (z_I S 14 l 0).toInt := by rw [Int32.zero_add]
  have e1 : ((0 : Int32) + z_I S 14 l 0 + z_I S 14 l 1).toInt = (z_I S 14 l 0).toInt + (z_I S 14 l 1).toInt := by rw [i_add (by omega) (by omega), e0]
  have e2 : ((0 : Int32) + z_I S 14 l 0 + z_I S 14 l 1 + z_I S 14 l 2).toInt = (z_I S 14 l 0).toInt + (z_I S 14 l 1).toInt + (z_I S 14 l 2).toInt := by rw [i_add (by omega) (by omega), e1]
  rw [i_add (by omega) (by omega), e2]
  omega
theorem InvA.rest (h : InvA B T S) (hl : l < cL S) : (cRest S l).toInt = (z_I S 3 l 4).toInt - (z_I S 3 l 8).toInt ∧ 0 ≤ (cRest S l).toInt ∧ (cRest S l).toInt ≤ 9999 := by
  have := h.ld hl
  unfold iLd at this
  have e : (cRest S l).toInt = (z_I S 3 l 4).toInt - (z_I S 3 l 8).toInt := i_sub (by omega) (by omega)
  omega
theorem InvA.lat (h : InvA B T S) (hl : l < cL S) (hs : z_I S 3 l 0 = 1) : (cLatest S l).toInt = (z_I S 3 l 7).toInt + (z_I S 3 l 5).toInt ∧ 1 ≤ (cLatest S l).toInt ∧ (cLatest S l).toInt ≤ 10179 := by
  obtain ⟨-, -, -, -, h1, -, -, -, h2⟩ := h.ld hl
  have h2 := h2 hs
  have h3 := h.dy
  have e : (cLatest S l).toInt = (z_I S 3 l 7).toInt + (z_I S 3 l 5).toInt := i_add (by omega) (by omega)
  omega
theorem InvA.fr (h : InvA B T S) (hl : l < cL S) : cFr S l < cS S := by
  have := (h.ld hl).1
  have := i_nat (a := z_I S 3 l 1)
  unfold cFr
  omega
theorem InvA.to (h : InvA B T S) (hl : l < cL S) : (z_I S 3 l 2).toNatClampNeg < cS S := by
  have := (h.ld hl).2.1
  have := i_nat (a := z_I S 3 l 2)
  omega
theorem InvA.k5 (h : InvA B T S) (hl : l < cL S) : cKd S l < 5 := by
  have := (h.ld hl).2.2.1
  have := i_nat (a := z_I S 3 l 3)
  unfold cKd
  omega
theorem cRateGo_b (h : ∀ i, i < t → 0 ≤ (z_I S 13 k i).toInt ∧ (z_I S 13 k i).toInt ≤ 999) : ∀ (n i : Nat) (a : Int32), i + n = t → (0 ≤ a.toInt ∧ a.toInt ≤ 999) → 0 ≤ (cRateGo S k x n i a).toInt ∧ (cRateGo S k x n i a).toInt ≤ 999
  | 0, _, _, _, ha => ha
  | n + 1, i, a, hi, ha => by
    unfold cRateGo
    by_cases q : x < z_I S 12 k i
    · rw [if_pos q]; exact ha
    · rw [if_neg q]; exact cRateGo_b h n (i + 1) _ (by omega) (h i (by omega))
theorem cGrGo_b (h : ∀ i, i < t → 0 ≤ (z_I S 13 k i).toInt ∧ (z_I S 13 k i).toInt ≤ 999) : ∀ (n i : Nat) (a : Int32), i + n = t → (0 ≤ a.toInt ∧ a.toInt ≤ 999) → 0 ≤ (cGrGo S k x y n i a).toInt ∧ (cGrGo S k x y n i a).toInt ≤ 999
  | 0, _, _, _, ha => ha
  | n + 1, i, a, hi, ha => by
    unfold cGrGo
    by_cases q : y < z_I S 12 k i
    · rw [if_pos q]; exact ha
    · rw [if_neg q]
      refine cGrGo_b h n (i + 1) _ (by omega) ?_
      by_cases q2 : x < z_I S 12 k i
      · rw [if_pos q2]
        by_cases q3 : a < z_I S 13 k i
        · rw [if_pos q3]; exact h i (by omega)
        · rw [if_neg q3]; exact ha
      · rw [if_neg q2]; exact h i (by omega)
theorem InvA.rate (h : InvA B T S) (hk : k < 5) : 0 ≤ (cRate S k x).toInt ∧ (cRate S k x).toInt ≤ 999 := cRateGo_b (t := cTold S k) (fun i hi => ((h.kd hk).2.1 i hi).2) _ 0 0 (by omega) (by decide)
theorem InvA.gr (h : InvA B T S) (hk : k < 5) : 0 ≤ (cGr S k x y).toInt ∧ (cGr S k x y).toInt ≤ 999 := cGrGo_b (t := cTold S k) (fun i hi => ((h.kd hk).2.1 i hi).2) _ 0 0 (by omega) (by decide)
theorem i_mulb {X Y : Int} (h1 : 0 ≤ a.toInt ∧ a.toInt ≤ X) (h2 : 0 ≤ b.toInt ∧ b.toInt ≤ Y) (hX : 0 ≤ X) (hXY : X * Y < 2147483648) : (a * b).toInt = a.toInt * b.toInt ∧ 0 ≤ (a * b).toInt ∧ (a * b).toInt ≤ X * Y := by
  have u1 : 0 ≤ a.toInt * b.toInt := Int.mul_nonneg h1.1 h2.1
  have u2 : a.toInt * b.toInt ≤ X * Y := Int.mul_le_mul h1.2 h2.2 h2.1 hX
  have e : (a * b).toInt = a.toInt * b.toInt := i_mul (by omega) (by omega)
  omega
theorem InvA.need (h : InvA B T S) (hl : l < cL S) : 0 ≤ (cNeed S l).toInt ∧ (cNeed S l).toInt ≤ 9989001 := by
  have hr := h.rest hl
  have hk := h.k5 hl
  unfold cNeed
  by_cases q : z_I S 3 l 0 = 0
  · rw [if_pos q]; exact (i_mulb ⟨hr.2.1, hr.2.2⟩ (h.gr hk) (by decide) (by decide)).2
  rw [if_neg q]
  by_cases q1 : z_I S 3 l 0 = 1
  · rw [if_pos q1]; exact (i_mulb ⟨hr.2.1, hr.2.2⟩ (h.gr hk) (by decide) (by decide)).2
  rw [if_neg q1]; decide
theorem InvA.need1 (h : InvA B T S) (hl : l < cL S) (hs : z_I S 3 l 0 = 1) : (cNeed S l).toInt = (cRest S l).toInt * (cGr S (cKd S l) (z_I S 3 l 7) (cLatest S l)).toInt := by
  have hr := h.rest hl
  have hk := h.k5 hl
  unfold cNeed
  rw [hs, if_neg (by decide), if_pos rfl]
  exact (i_mulb ⟨hr.2.1, hr.2.2⟩ (h.gr hk) (by decide) (by decide)).1
theorem RM.need (h : RM S M) (hi : InvA B T S) (hl : l < cL S) (hs : z_I S 3 l 0 = 0 ∨ z_I S 3 l 0 = 1) : mNeed M l = cNeed S l := by
  unfold mNeed cNeed
  rw [RM.st h hl]
  obtain ⟨-, -, -, -, h1, -, -, -, h2⟩ := hi.ld hl
  have h3 := hi.dy
  by_cases q : z_I S 3 l 0 = 0
  · rw [if_pos q, if_pos q, RM.rest h hl, RM.kd h hl, RM.day h, RM.ldy h hl]
    rw [(h.rt (hi.k5 hl)).gr]
    rw [i_le, i_add (by omega) (by omega)]; omega
  · have q1 : z_I S 3 l 0 = 1 := hs.resolve_left q
    have h2 := h2 q1
    have h4 := hi.lat hl q1
    rw [if_neg q, if_neg q, if_pos q1, RM.rest h hl, RM.kd h hl, RM.lbg h hl q1, RM.lat h hl q1]
    rw [(h.rt (hi.k5 hl)).gr]
    rw [i_le]; omega
end Re7
