/-! ===== CLASS AND MODEL: days ===== -/
section Re15
variable {d i k g s l l' t q : Nat} {v w a b c e f x y z τ : Int32}
def mF6 (M N : zS) : Prop := ∀ f, z_I N 6 0 f = z_I M 6 0 f
theorem mF6.rf {M : zS} : mF6 M M := fun _ => rfl
theorem mF6.tr {M N P : zS} (h : mF6 M N) (g : mF6 N P) : mF6 M P := fun f => (g f).trans (h f)
theorem mF6.u22 {M : zS} {i f : Nat} : mF6 M (z_uI M 22 i f v) := fun _ => z_I_o (by decide)
theorem mF6.u32 {M : zS} {i f : Nat} : mF6 M (z_uI M 32 i f v) := fun _ => z_I_o (by decide)
theorem mF6.uJ {M : zS} {i f : Nat} {p : Int64} : mF6 M (z_uJ M 23 i f p) := fun _ => z_I_uJ ..
theorem mF6.it {α : Type} {F : Nat → α → α} {π : α → zS} (h : ∀ j p, mF6 (π p) (π (F j p))) : ∀ (n i : Nat) (p : α), mF6 (π p) (π (z_it F n i p))
  | 0, _, _ => .rf
  | n + 1, i, p => .tr (h i p) (mF6.it h n (i + 1) (F i p))
theorem mF6.hold {M : zS} : mF6 M (mHold M l s a) := by
  have h : ∀ j (p : Int32 × zS), mF6 p.2 (mHoS l s j p).2 := fun j p => by
    unfold mHoS
    split
    · exact .rf
    · split
      · exact .rf
      · exact .tr .u22 .u22
  exact .tr (mF6.it (π := fun p : Int32 × zS => p.2) h 3 0 (a, M)) .uJ
theorem mF6.l2 : ∀ (n i z : Nat) (M : zS), mF6 M (mL2 s n i z M)
  | 0, _, _, _ => .rf
  | n + 1, i, z, M => by
    unfold mL2
    split
    · exact .rf
    · split
      · exact .tr .u32 (mF6.l2 n _ _ _)
      · exact mF6.l2 n _ _ _
theorem mF6.line {M : zS} : mF6 M (mLine M s) := by
  have h : ∀ j (p : Nat × zS), mF6 p.2 (mL1S s j p).2 := fun j p => by
    unfold mL1S
    split
    · exact .rf
    · exact .u32
  exact .tr (mF6.it (π := fun p : Nat × zS => p.2) h 3 0 (0, M)) (mF6.l2 _ _ _ _)
theorem mF6.reS {o : Option Nat} {p : Int32 × zS} : mF6 p.2 (mReS l o k p).2 := by
  cases o with
  | none => exact .tr .u22 .u22
  | some n => exact .tr .u22 .u22
theorem mF6.reG {o : Option Nat} : ∀ (n : Nat) (p : Int32 × zS), mF6 p.2 (mReG l o n p).2
  | 0, _ => .rf
  | n + 1, p => .tr .reS (mF6.reG n _)
theorem mF6.rel {M : zS} {o : Option Nat} : mF6 M (mRel M l s o a) := .tr (.tr .line (mF6.reG 4 (a, mLine M s))) .uJ
theorem mF6.owes {M : zS} : mF6 M (mOwes M g v) := .tr .u22 .uJ
theorem mF6.due {M : zS} : mF6 M (mDue M l s a) := by
  have h : ∀ j (p : Int32 × zS), mF6 p.2 (mDuS l j p).2 := fun j p => .tr (.tr .u22 .u22) .owes
  exact .tr .line (mF6.it (π := fun p : Int32 × zS => p.2) h 4 0 (a, mLine M s))
theorem mF6.adj {M : zS} : mF6 M (mAdj M l s).2 := by
  unfold mAdj
  split
  · split
    · exact .rf
    · split
      · exact .hold
      · exact .rf
  · exact .rel
theorem mF6.comes {M : zS} : mF6 M (mComes M l s v) := .tr (.tr .u22 .u22) .adj
theorem mF6.ends {M : zS} : mF6 M (mEnds M l s x y v) := .tr (.tr (.tr (.tr (.tr .u22 .u22) .u22) .due) .rel) .u22
theorem mF6.go {M : zS} : mF6 M (mGo M l) := .tr (.tr .hold .u22) .u22
theorem mF6.tuL {ρ : Nat} : ∀ (n i : Nat) (b : Bool) (M : zS), mF6 M (mTuL ρ n i b M).2
  | 0, _, _, _ => .rf
  | n + 1, i, b, M => by
    unfold mTuL
    split
    · exact .rf
    · split
      · split
        · exact .tr .go (mF6.tuL n _ _ _)
        · exact mF6.tuL n _ _ _
      · exact mF6.tuL n _ _ _
theorem mF6.tuR : ∀ (n ρ : Nat) (b : Bool) (M : zS), mF6 M (mTuR n ρ b M)
  | 0, _, _, _ => .rf
  | n + 1, ρ, b, M => .tr (mF6.tuL _ _ _ _) (mF6.tuR n _ _ _)
theorem mF6.turns {M : zS} : mF6 M (mTurns M) := mF6.tuR 10 0 false M
variable {T : Nat} {S S' M M' : zS} {B : Int}
theorem i_ov (ho : cLatest S i + z_I S 0 0 1 < z_I S 0 0 0) (hi : InvA B T S) (hl : i < cL S) (hs : z_I S 3 i 0 = 1) : z_I S 3 i 5 = cLastOut S i - z_I S 3 i 7 := by
  have h1 := hi.lat hl hs
  have h2 := hi.gra
  rw [i_lt, i_add (by omega) (by omega)] at ho
  unfold cLastOut
  rw [if_pos (i_lt.mpr (by omega))]
  have h3 := (hi.ld hl).2.2.2.2.2.2.2.2 hs
  have h4 := hi.dy
  rw [i_eq, i_sub (by omega) (by omega)]; omega
theorem sim_passGo : ∀ (n i : Nat) (a : Int32) (S M : zS) (w : Int32), i + n = cL S → Ok B T S M → z_I M 6 0 15 = w + a → Ok B T (cPassGo n i a S).2 (mDaL n i M) ∧ z_I (mDaL n i M) 6 0 15 = w + (cPassGo n i a S).1 ∧ ∀ q, z_I (cPassGo n i a S).2 0 0 q = z_I S 0 0 q
  | 0, _, _, _, _, _, _, h, hw => ⟨h, hw, fun _ => rfl⟩
  | n + 1, i, a, S, M, w, hi, h, hw => by
    have hl : i < cL S := by omega
    unfold cPassGo mDaL
    by_cases hc : z_I S 3 i 0 = 1 ∧ cLatest S i + z_I S 0 0 1 < z_I S 0 0 0
    · have hm : mOv M i := ⟨by rw [RM.st h.r hl]; exact hc.1, by rw [RM.day h.r, RM.grace h.r, RM.lat h.r hl hc.1]; exact Int32.not_le.mpr hc.2⟩
      rw [if_pos hc, if_pos hm]
      obtain ⟨s1, s2, s3, s4, s5, s6⟩ := sim_close (v := 3) (x := cLatest S i) (y := cLatest S i) h.r h.ia hl hc.1 (i_ov hc.2 h.ia hl hc.1) (.inr rfl) (.inr rfl)
      have eD : mDaE M i = mEnds M i (cFr S i) (z_I S 3 i 5) (cLatest S i) 3 := by unfold mDaE; rw [RM.fr h.r hl, RM.ldy h.r hl, RM.lat h.r hl hc.1]
      rw [← eD] at s1
      have e6 : z_I (mDaE M i) 6 0 15 = z_I M 6 0 15 := mF6.ends 15
      obtain ⟨t1, t2, t3⟩ := sim_passGo n (i + 1) (a + 1) (cClose S i 3 (cLatest S i)) (z_uI (mDaE M i) 6 0 15 (z_I (mDaE M i) 6 0 15 + 1)) w (by rw [s3.L]; omega) ⟨RM.mo s1 (fun _ _ => z_I_o (by decide)) (fun _ _ => rfl), s2, (h.nd.xx.fo s3).nn s4⟩ (by rw [z_I_u, if_pos ⟨rfl, rfl, rfl⟩, e6, hw, Int32.add_assoc])
      exact ⟨t1, t2, fun q => (t3 q).trans s3.h0⟩
    · have hm : ¬ mOv M i := fun u => hc ⟨by rw [← RM.st h.r hl]; exact u.1, by
        have u1 : z_I S 3 i 0 = 1 := by rw [← RM.st h.r hl]; exact u.1
        have u2 := u.2
        rw [RM.day h.r, RM.grace h.r, RM.lat h.r hl u1] at u2
        exact Int32.not_le.mp u2⟩
      rw [if_neg hc, if_neg hm]
      exact sim_passGo n (i + 1) a S M w (by omega) h hw
theorem InvA.upDay (h : InvA B T S) (hv : (z_I S 0 0 0).toInt ≤ v.toInt) (hb : v.toInt ≤ 9999) : InvA B T (z_uI S 0 0 0 v) := by
  have hd := h.dy
  refine ⟨h.1, ⟨⟨?_, ?_⟩, h.2.1.2⟩, h.2.2.1, h.2.2.2.1, h.2.2.2.2.1, fun l hl => ?_, h.2.2.2.2.2.2⟩
  · show 0 ≤ v.toInt; omega
  · exact hb
  · have := h.ld (l := l) hl
    refine ⟨this.1, this.2.1, this.2.2.1, this.2.2.2.1, this.2.2.2.2.1, this.2.2.2.2.2.1, this.2.2.2.2.2.2.1, this.2.2.2.2.2.2.2.1, fun u => ?_⟩
    have := this.2.2.2.2.2.2.2.2 u
    show 0 ≤ (z_I S 3 l 7).toInt ∧ (z_I S 3 l 7).toInt ≤ v.toInt
    omega
theorem InvN.upDay (h : InvN S) : InvN (z_uI S 0 0 0 v) := fun l hl => by
  refine ⟨fun u => ?_, (h l hl).2⟩
  have u' : z_I S 3 l 0 = 1 := u
  have e : cNeed (z_uI S 0 0 0 v) l = cNeed S l := by
    unfold cNeed
    rw [u, u', if_neg (by decide), if_pos rfl, if_neg (by decide), if_pos rfl]
    rw [cGr_co (S' := z_uI S 0 0 0 v) (S := S) rfl (fun _ => rfl) (fun _ => rfl)]; rfl
  rw [e]; exact (h l hl).1 u'
theorem sim_pass (h : Ok B T S M) (hd : (z_I S 0 0 0).toInt + 1 ≤ 9999) : Ok B T (cPass S).2 (mDay M) ∧ z_I (mDay M) 6 0 15 = z_I M 6 0 15 + (cPass S).1 ∧ z_I (cPass S).2 0 0 0 = z_I S 0 0 0 + 1 := by
  have h0 := h.ia.dy
  have e1 : (z_I S 0 0 0 + 1).toInt = (z_I S 0 0 0).toInt + 1 := i_add (by show _ ≤ _ + (1 : Int); omega) (by show _ + (1 : Int) < _; omega)
  have k1 : Ok B T (z_uI S 0 0 0 (z_I S 0 0 0 + 1)) (mDay1 M) := by
    refine ⟨?_, h.ia.upDay (by omega) (by omega), h.nd.upDay⟩
    show RM _ (z_uI M 22 0 0 (z_I M 22 0 0 + 1))
    rw [RM.day h.r]
    exact RM.up h.r (by unfold rP; omega) (by omega) (by omega) (by omega) (by omega)
  have e2 : z_I (mDay1 M) 6 0 15 = z_I M 6 0 15 + 0 := by rw [i_add0]; exact z_I_o (by decide)
  obtain ⟨s1, s2, s3⟩ := sim_passGo (cL S) 0 0 (z_uI S 0 0 0 (z_I S 0 0 0 + 1)) (mDay1 M) (z_I M 6 0 15) (Nat.zero_add _) k1 e2
  obtain ⟨t1, t2⟩ := sim_turns s1
  rw [← RM.mN h.r] at t1 s2
  refine ⟨?_, ?_, ?_⟩
  · show Ok B T (cTurns (cPassGo (cL S) 0 0 (z_uI S 0 0 0 (z_I S 0 0 0 + 1))).2) (mTurns (mDaL (mN M) 0 (mDay1 M)))
    rw [← RM.mN h.r]; exact t1
  · show z_I (mTurns (mDaL (mN M) 0 (mDay1 M))) 6 0 15 = z_I M 6 0 15 + (cPassGo (cL S) 0 0 (z_uI S 0 0 0 (z_I S 0 0 0 + 1))).1
    rw [← RM.mN h.r, mF6.turns 15]; exact s2
  · show z_I (cTurns (cPassGo (cL S) 0 0 (z_uI S 0 0 0 (z_I S 0 0 0 + 1))).2) 0 0 0 = _
    rw [t2.1 0 0 0 (by omega) (by omega) (by omega) (by omega) (by omega), s3 0, z_I_u, if_pos ⟨rfl, rfl, rfl⟩]
theorem sim_days : ∀ (n : Nat) (a : Int32) (S M : zS) (w : Int32), Ok B T S M → (z_I S 0 0 0).toInt + n ≤ 9999 → z_I M 6 0 15 = w + a → Ok B T (cDaysGo n a S).2 (mDaysG n M) ∧ z_I (mDaysG n M) 6 0 15 = w + (cDaysGo n a S).1
  | 0, _, _, _, _, h, _, hw => ⟨h, hw⟩
  | n + 1, a, S, M, w, h, hd, hw => by
    have h0 := h.ia.dy
    obtain ⟨s1, s2, s3⟩ := sim_pass h (by omega)
    have e1 : (z_I S 0 0 0 + 1).toInt = (z_I S 0 0 0).toInt + 1 := i_add (by show _ ≤ _ + (1 : Int); omega) (by show _ + (1 : Int) < _; omega)
    exact sim_days n (a + (cPass S).1) (cPass S).2 (mDay M) w s1 (by rw [s3, e1]; omega) (by rw [s2, hw, Int32.add_assoc])
end Re15
