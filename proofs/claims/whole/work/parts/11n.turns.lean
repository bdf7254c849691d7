/-! ===== CLASS AND MODEL: turns ===== -/
section Re14
variable {d i k g s l l' t q n p T j ρ : Nat} {v w a b c e f x y z τ : Int32} {S S' S0 X M M' : zS} {B c0 θ : Int} {P : Nat → Prop} {E : Nat → Int} {K : Nat → Nat}
theorem i_ent (h0 : 0 ≤ v.toInt) (h1 : v.toInt ≤ 20000) (hi : i < 40) : (v * 40 + nI i).toInt = v.toInt * 40 + i := by
  have z40 : (40 : Int32).toInt = 40 := rfl
  have e : (v * 40).toInt = v.toInt * 40 := by rw [i_mul (by rw [z40]; omega) (by rw [z40]; omega), z40]
  rw [i_add (by rw [e, i_nI (by omega)]; omega) (by rw [e, i_nI (by omega)]; omega), e, i_nI (by omega)]
def Ek (S : zS) (l : Nat) : Int := (z_I S 3 l 6).toInt * 40 + l
theorem row_W (hL : cL S ≤ 40) (hi : InvA B T S) : ∃ n K, Rw0 S (cLUp cLuW S) ∧ rowIs (cLUp cLuW S) (Ek S) (fun l => z_I S 3 l 0 = 0) (cL S) n K := by
  refine row_up cLuW (fun i => z_I S 3 i 6) (fun i X hr hl => ?_) (fun i hl _ => ?_) (fun i j _ _ => ?_) hL
  · unfold cLuW
    rw [hr.1 3 i 0 (by omega) (by omega), hr.1 3 i 6 (by omega) (by omega)]
    by_cases u : z_I S 3 i 0 = 0
    · rw [if_pos u]; exact .inl ⟨u, rfl⟩
    · rw [if_neg u]; exact .inr ⟨u, rfl⟩
  · have := (hi.ld hl).2.2.2.2.2.1
    exact i_ent (by omega) (by omega) (by omega)
  · unfold Ek; omega
theorem Alk.need (ha : Alk S S') (hi : InvA B T S) (hl : l < cL S) : cNeed S' l = cNeed S l := by
  have hf : ∀ f, f < 13 → z_I S' 3 l f = z_I S 3 l f := fun f hf => ha.1 3 l f (.inr (.inr (.inr (.inr (.inl ⟨rfl, hl, hf⟩)))))
  have hk := hi.k5 hl
  have hg : ∀ x y, cGr S' (cKd S l) x y = cGr S (cKd S l) x y := fun x y => cGr_co (ha.1 2 _ 2 (.inr (.inr (.inl ⟨rfl, hk, by omega, by omega⟩)))) (fun i => ha.1 12 _ i (.inr (.inr (.inr (.inl ⟨.inl rfl, hk⟩))))) (fun i => ha.1 13 _ i (.inr (.inr (.inr (.inl ⟨.inr rfl, hk⟩)))))
  have ek : cKd S' l = cKd S l := by unfold cKd; rw [hf 3 (by omega)]
  unfold cNeed cRest cLatest
  rw [ek, hf 0 (by omega), hf 4 (by omega), hf 8 (by omega), hf 5 (by omega), hf 7 (by omega), ha.hd (q := 0) (by omega), hg, hg]
theorem InvN.alk (h : InvN S) (hi : InvA B T S) (ha : Alk S S') : InvN S' := fun l hl => by
  rw [ha.L] at hl
  have h14 : ∀ g, g < 4 → z_I S' 14 l g = z_I S 14 l g := fun g hg => ha.1 14 l g (.inr (.inr (.inr (.inr (.inr (.inl ⟨rfl, hl, hg⟩))))))
  have h0 : z_I S' 3 l 0 = z_I S 3 l 0 := ha.1 3 l 0 (.inr (.inr (.inr (.inr (.inl ⟨rfl, hl, by omega⟩)))))
  unfold iNd
  rw [h0, ha.need hi hl, iHs_co h14]
  exact ⟨(h l hl).1, fun u g hg => by rw [h14 g hg]; exact (h l hl).2 u g hg⟩
-- both sides, and the invariant
def Ok (B : Int) (T : Nat) (S M : zS) : Prop := RM S M ∧ InvA B T S ∧ InvN S
theorem Ok.r (h : Ok B T S M) : RM S M := h.1
theorem Ok.ia (h : Ok B T S M) : InvA B T S := h.2.1
theorem Ok.nd (h : Ok B T S M) : InvN S := h.2.2
theorem Ok.alk (h : Ok B T S M) (ha : Alk S S') : Ok B T S' M := ⟨h.1.alk ha, h.2.1.alk h.1.G4 ha, h.2.2.alk h.2.1 ha⟩
def Tf (S S' : zS) : Prop := (∀ k i f, ¬ (k = 1 ∧ (f = 1 ∨ f = 2)) → k ≠ 14 → ¬ (k = 3 ∧ (f = 0 ∨ f = 7)) → z_I S' k i f = z_I S k i f) ∧ ∀ l, z_I S' 3 l 0 = z_I S 3 l 0 ∨ (z_I S 3 l 0 = 0 ∧ z_I S' 3 l 0 = 1)
theorem Tf.rf : Tf S S := ⟨fun _ _ _ _ _ _ => rfl, fun _ => .inl rfl⟩
theorem Tf.tr {S2 : zS} (h : Tf S S') (g : Tf S' S2) : Tf S S2 := by
  refine ⟨fun k i f a b c => (g.1 k i f a b c).trans (h.1 k i f a b c), fun l => ?_⟩
  rcases h.2 l with u | ⟨u1, u2⟩
  · rcases g.2 l with w | ⟨w1, w2⟩
    · exact .inl (w.trans u)
    · exact .inr ⟨u ▸ w1, w2⟩
  · rcases g.2 l with w | ⟨w1, w2⟩
    · exact .inr ⟨u1, w.trans u2⟩
    · rw [u2] at w1; exact absurd w1 (by decide)
theorem Tf.h0 (h : Tf S S') : z_I S' 0 0 q = z_I S 0 0 q := h.1 0 0 q (by omega) (by omega) (by omega)
theorem Tf.L (h : Tf S S') : cL S' = cL S := congrArg Int32.toNatClampNeg h.h0
theorem Tf.G (h : Tf S S') : cG S' = cG S := congrArg Int32.toNatClampNeg h.h0
theorem Tf.N (h : Tf S S') : cS S' = cS S := congrArg Int32.toNatClampNeg h.h0
theorem Tf.rw (h : Tf S S') : cRw S' j = cRw S j := by
  unfold cRw cInRow
  rw [h.h0, h.1 11 0 _ (by omega) (by omega) (by omega)]
theorem Tf.go (h : z_I S 3 l 0 = 0) : Tf S (cGo S l) := by
  have ho : ∀ k i f, k ≠ 1 → k ≠ 14 → ¬ (k = 3 ∧ (f = 0 ∨ f = 7)) → z_I (cGo S l) k i f = z_I S k i f := fun k i f a b c => by
    unfold cGo
    rw [cHold_o a b, z_I_u, if_neg (by omega), z_I_u, if_neg (by omega)]
  refine ⟨fun k i f a b c => ?_, fun l' => ?_⟩
  · by_cases k1 : k = 1
    · subst k1
      unfold cGo
      rw [cHold_cm (by omega), cHold_cm (by omega)]
      show z_I (cHold S l (cNeed S l)) 1 i f = _
      unfold cHold
      show z_I (z_it (cHoldSt l (cFr S l)) (cOrd S (cFr S l)) 0 (cNeed S l, S)).2 1 i f = _
      refine z_it_o (fun j p => ?_) _ _ _
      unfold cHoldSt
      rw [z_I_u, if_neg (by omega), z_I_u, if_neg (by omega)]
    · exact ho k i f k1 b c
  · have : z_I (cGo S l) 3 l' 0 = if l' = l then 1 else z_I S 3 l' 0 := by
      unfold cGo
      rw [cHold_o (by omega) (by omega), z_I_u, if_neg (by omega), z_I_u]
      by_cases u : l' = l
      · rw [if_pos u, if_pos ⟨rfl, u, rfl⟩]
      · rw [if_neg u, if_neg fun w => u w.2.1]
    rw [this]
    by_cases u : l' = l
    · rw [if_pos u, u]; exact .inr ⟨h, rfl⟩
    · rw [if_neg u]; exact .inl rfl
def TI (B : Int) (T : Nat) (S0 : zS) (n : Nat) (K : Nat → Nat) (θ : Int) (c : Nat) (S M : zS) : Prop :=
  Ok B T S M ∧ Tf S0 S ∧ c ≤ n ∧ (∀ j, j < c → Ek S0 (K j) < θ) ∧ (∀ j, c ≤ j → j < n → θ ≤ Ek S0 (K j)) ∧ ∀ l, l < cL S0 → θ ≤ Ek S0 l → (z_I S 3 l 0 = 0 ↔ ∃ j, j < n ∧ K j = l)
def TR (S0 : zS) (n : Nat) (K : Nat → Nat) : Prop := cL S0 ≤ 40 ∧ rowIs S0 (Ek S0) (fun l => z_I S0 3 l 0 = 0) (cL S0) n K ∧ ∀ l, l < cL S0 → 0 ≤ (z_I S0 3 l 6).toInt ∧ (z_I S0 3 l 6).toInt ≤ 9
theorem TI.no (h : TI B T S0 n K (ρ * 40 + i) d S M) (hr : TR S0 n K) (hi : i < cL S0) (hc : ¬ (z_I S 3 i 0 = 0 ∧ z_I S 3 i 6 = nI ρ)) (hρ : ρ < 10) : TI B T S0 n K (ρ * 40 + (i + 1 : Nat)) d S M := by
  obtain ⟨h1, h2, h3, h4, h5, h6⟩ := h
  obtain ⟨r1, ⟨-, -, -, r2, r3, r4⟩, r5⟩ := hr
  have e6 : z_I S 3 i 6 = z_I S0 3 i 6 := h2.1 3 i 6 (by omega) (by omega) (by omega)
  refine ⟨h1, h2, h3, fun j hj => by have := h4 j hj; omega, fun j a1 a2 => ?_, fun l hl hθ => h6 l hl (by omega)⟩
  have a3 := h5 j a1 a2
  have a4 := (r3 j a2).1
  rcases Classical.em (Ek S0 (K j) = ρ * 40 + i) with u | u
  · exfalso
    have hb := r5 _ a4
    have e1 : K j = i := by unfold Ek at u; omega
    have e2 : (z_I S0 3 i 6).toInt = ρ := by unfold Ek at u; rw [e1] at u; omega
    refine hc ⟨(h6 i hi ?_).mpr ⟨j, a2, e1⟩, ?_⟩
    · unfold Ek; rw [e2]; omega
    · rw [e6, i_eq, e2, i_nI (by omega)]
  · omega
theorem TI.yes (h : TI B T S0 n K (ρ * 40 + i) d S M) (hr : TR S0 n K) (hi : i < cL S0) (hc : z_I S 3 i 0 = 0 ∧ z_I S 3 i 6 = nI ρ) (hρ : ρ < 10) : d < n ∧ K d = i ∧ TI B T S0 n K (ρ * 40 + (i + 1 : Nat)) (d + 1) S M := by
  obtain ⟨h1, h2, h3, h4, h5, h6⟩ := h
  obtain ⟨r1, ⟨-, -, -, r2, r3, r4⟩, r5⟩ := hr
  have e6 : z_I S 3 i 6 = z_I S0 3 i 6 := h2.1 3 i 6 (by omega) (by omega) (by omega)
  have eE : Ek S0 i = ρ * 40 + i := by unfold Ek; rw [← e6, hc.2, i_nI (by omega)]
  obtain ⟨j, j1, j2⟩ := (h6 i hi (by omega)).mp hc.1
  have hjd : j = d := by
    rcases Nat.lt_trichotomy j d with u | u | u
    · have := h4 j u; rw [j2] at this; omega
    · exact u
    · have a1 := r2 d j u j1
      have a2 := h5 d (Nat.le_refl _) (by omega)
      rw [j2] at a1; omega
  subst hjd
  refine ⟨j1, j2, h1, h2, by omega, fun j' hj' => ?_, fun j' a1 a2 => ?_, fun l hl hθ => h6 l hl (by omega)⟩
  · rcases Nat.lt_or_ge j' j with u | u
    · have := h4 j' u; omega
    · rw [show j' = j by omega, j2]; omega
  · have := r2 j j' (by omega) a2
    rw [j2] at this; omega
theorem TI.go (h : TI B T S0 n K (ρ * 40 + (i + 1 : Nat)) d S M) (hi : i < cL S0) (hc : z_I S 3 i 0 = 0) (hE : Ek S0 i = ρ * 40 + i) (hle : cNeed S i ≤ cFF S (cFr S i)) : TI B T S0 n K (ρ * 40 + (i + 1 : Nat)) d (cGo S i) (mGo M i) := by
  obtain ⟨h1, h2, h3, h4, h5, h6⟩ := h
  have hl : i < cL S := by rw [h2.L]; exact hi
  obtain ⟨s1, s2, s3, s4, s5, s6⟩ := sim_go h1.r h1.ia hl hc (h1.nd i hl) hle
  refine ⟨⟨s1, s2, (h1.nd.xx.fo s3).nn s4⟩, .tr h2 (.go hc), h3, h4, h5, fun l hl hθ => ?_⟩
  rw [s3.ld (by rintro rfl; omega)]
  exact h6 l hl hθ
theorem mTuL_t : ∀ (m i : Nat) (M : zS), mTuL ρ m i true M = (true, M)
  | 0, _, _ => rfl
  | m + 1, i, M => by unfold mTuL; rw [if_pos rfl]
theorem mTuR_t : ∀ (m ρ : Nat) (M : zS), mTuR m ρ true M = M
  | 0, _, _ => rfl
  | m + 1, ρ, M => by unfold mTuR; rw [mTuL_t]; exact mTuR_t m (ρ + 1) M
theorem turn_L (hr : TR S0 n K) (hρ : ρ < 10) : ∀ (m i d : Nat) (S M : zS), i + m = cL S0 → TI B T S0 n K (ρ * 40 + i) d S M →
    (∃ d' S' M', mTuL ρ m i false M = (false, M') ∧ TI B T S0 n K (ρ * 40 + (cL S0 : Nat)) d' S' M' ∧ cTurnGo (n - d) d S = cTurnGo (n - d') d' S') ∨ (∃ S' M', mTuL ρ m i false M = (true, M') ∧ Ok B T S' M' ∧ Tf S0 S' ∧ cTurnGo (n - d) d S = S')
  | 0, i, d, S, M, hi, h => .inl ⟨d, S, M, rfl, by rw [show cL S0 = i by omega]; exact h, rfl⟩
  | m + 1, i, d, S, M, hi, h => by
    have hil : i < cL S0 := by omega
    have hl : i < cL S := by rw [h.2.1.L]; exact hil
    unfold mTuL
    rw [if_neg (by decide), RM.st h.1.r hl, RM.lrk h.1.r hl]
    by_cases hc : z_I S 3 i 0 = 0 ∧ z_I S 3 i 6 = nI ρ
    · obtain ⟨y1, y2, y3⟩ := h.yes hr hil hc hρ
      have e6 : z_I S 3 i 6 = z_I S0 3 i 6 := h.2.1.1 3 i 6 (by omega) (by omega) (by omega)
      have eE : Ek S0 i = ρ * 40 + i := by unfold Ek; rw [← e6, hc.2, i_nI (by omega)]
      have eR : cRw S d = i := by
        rw [h.2.1.rw, (hr.2.1.rw hr.1 (fun l hl _ => ⟨_, rfl, (hr.2.2 l hl).1, by have := (hr.2.2 l hl).2; omega⟩) y1).2]; exact y2
      rw [if_pos hc, RM.need h.1.r h.1.ia hl (.inl hc.1), RM.fr h.1.r hl, RM.ff h.1.r (h.1.ia.fr hl)]
      have eT : cTurnGo (n - d) d S = if cFF S (cFr S i) < cNeed S i then (if z_I S 0 0 2 = 1 then S else cTurnGo (n - (d + 1)) (d + 1) S) else cTurnGo (n - (d + 1)) (d + 1) (cGo S i) := by
        rw [show n - d = (n - (d + 1)) + 1 by omega, ← eR]; rfl
      rw [eT]
      by_cases u : cFF S (cFr S i) < cNeed S i
      · rw [if_neg (Int32.not_le.mpr u), if_pos u, RM.strict h.1.r]
        by_cases w : z_I S 0 0 2 = 1
        · rw [if_pos w, decide_eq_true w, mTuL_t]
          exact .inr ⟨S, M, rfl, h.1, h.2.1, rfl⟩
        · rw [if_neg w, decide_eq_false w]
          exact turn_L hr hρ m (i + 1) (d + 1) S M (by omega) y3
      · rw [if_pos (Int32.not_lt.mp u), if_neg u]
        exact turn_L hr hρ m (i + 1) (d + 1) _ _ (by omega) (y3.go hil hc.1 eE (Int32.not_lt.mp u))
    · rw [if_neg hc]
      exact turn_L hr hρ m (i + 1) d S M (by omega) (h.no hr hil hc hρ)
theorem turn_R (hr : TR S0 n K) : ∀ (m ρ d : Nat) (S M : zS), ρ + m = 10 → TI B T S0 n K ((ρ * 40 : Nat) : Int) d S M → ∃ S', Ok B T S' (mTuR m ρ false M) ∧ Tf S0 S' ∧ cTurnGo (n - d) d S = S'
  | 0, ρ, d, S, M, hρ, h => by
    refine ⟨S, h.1, h.2.1, ?_⟩
    have : n - d = 0 := by
      rcases Nat.lt_or_ge d n with u | u
      · have a1 := h.2.2.2.2.1 d (Nat.le_refl _) u
        have a2 := hr.2.1.2.2.2.2.1 d u
        have a3 := hr.2.2 _ a2.1
        have := hr.1
        unfold Ek at a1
        omega
      · omega
    rw [this]; rfl
  | m + 1, ρ, d, S, M, hρ, h => by
    have hN : mN M = cL S0 := by rw [RM.mN h.1.r, h.2.1.L]
    unfold mTuR
    rw [hN]
    rcases turn_L hr (ρ := ρ) (by omega) (cL S0) 0 d S M (by omega) (by rw [show ((ρ : Int) * 40 + ((0 : Nat) : Int)) = ((ρ * 40 : Nat) : Int) by omega]; exact h) with ⟨d', S', M', e1, e2, e3⟩ | ⟨S', M', e1, e2, e3, e4⟩
    · rw [e1, e3]
      refine turn_R hr m (ρ + 1) d' S' M' (by omega) ?_
      obtain ⟨h1, h2, h3, h4, h5, h6⟩ := e2
      have h40 := hr.1
      have hge : ∀ l, l < cL S0 → (ρ : Int) * 40 + (cL S0 : Nat) ≤ Ek S0 l → (((ρ + 1) * 40 : Nat) : Int) ≤ Ek S0 l := fun l hl hθ => by unfold Ek at hθ ⊢; omega
      refine ⟨h1, h2, h3, fun j hj => by have := h4 j hj; omega, fun j a1 a2 => hge _ (hr.2.1.2.2.2.2.1 j a2).1 (h5 j a1 a2), fun l hl hθ => h6 l hl (by omega)⟩
    · rw [e1]
      exact ⟨S', by show Ok B T S' (mTuR m (ρ + 1) true M'); rw [mTuR_t]; exact e2, e3, e4⟩
theorem Rw0.tf (h : Rw0 S X) (hk : k ≠ 11) (h2 : ¬ (k = 0 ∧ i = 0 ∧ q = 11)) : z_I X k i q = z_I S k i q := h.1 k i q hk h2
theorem cTurns_tr (hL : cL S ≤ 40) (hi : InvA B T S) : ∃ n K, Rw0 S (cLUp cLuW S) ∧ TR (cLUp cLuW S) n K ∧ (z_I (cLUp cLuW S) 0 0 11).toNatClampNeg = n ∧ n ≤ cL S := by
  obtain ⟨n, K, h1, h2⟩ := row_W hL hi
  have eL : cL (cLUp cLuW S) = cL S := h1.alk.L
  have e3 : ∀ l f, z_I (cLUp cLuW S) 3 l f = z_I S 3 l f := fun l f => h1.1 3 l f (by omega) (by omega)
  have eE : Ek (cLUp cLuW S) = Ek S := funext fun l => by unfold Ek; rw [e3]
  have eP : (fun l => z_I (cLUp cLuW S) 3 l 0 = 0) = fun l => z_I S 3 l 0 = 0 := funext fun l => by rw [e3]
  refine ⟨n, K, h1, ⟨by rw [eL]; exact hL, by rw [eE, eP, eL]; exact h2, fun l hl => ?_⟩, by rw [h2.1, z_nIc (by have := h2.2.1; omega)], h2.2.1⟩
  rw [e3]; rw [eL] at hl; exact (hi.ld hl).2.2.2.2.2.1
-- all turns
def Tg (S S' : zS) : Prop := (∀ k i f, ¬ (k = 1 ∧ (f = 1 ∨ f = 2)) → k ≠ 14 → ¬ (k = 3 ∧ (f = 0 ∨ f = 7)) → k ≠ 11 → ¬ (k = 0 ∧ i = 0 ∧ f = 11) → z_I S' k i f = z_I S k i f) ∧ ∀ l, z_I S' 3 l 0 = z_I S 3 l 0 ∨ (z_I S 3 l 0 = 0 ∧ z_I S' 3 l 0 = 1)
theorem sim_turns (h : Ok B T S M) : Ok B T (cTurns S) (mTurns M) ∧ Tg S (cTurns S) := by
  obtain ⟨n, K, h1, h2, h3, h4⟩ := cTurns_tr h.r.L40 h.ia
  have e3 : ∀ l f, z_I (cLUp cLuW S) 3 l f = z_I S 3 l f := fun l f => h1.1 3 l f (by omega) (by omega)
  obtain ⟨S', s1, s2, s3⟩ := turn_R (B := B) (T := T) h2 10 0 0 (cLUp cLuW S) M (by omega) ⟨h.alk h1.alk, .rf, Nat.zero_le _, fun j hj => absurd hj (Nat.not_lt_zero _), fun j _ hj => by
    have a2 := h2.2.1.2.2.2.2.1 j hj
    have a3 := h2.2.2 _ a2.1
    unfold Ek; omega, fun l hl _ => ⟨fun u => h2.2.1.2.2.2.2.2 l hl u, fun ⟨j, j1, j2⟩ => by have := (h2.2.1.2.2.2.2.1 j j1).2; rw [j2] at this; exact this⟩⟩
  have e : cTurns S = S' := by unfold cTurns; rw [h3]; exact s3
  rw [e]
  refine ⟨s1, fun k i f a b c d e => (s2.1 k i f a b c).trans (h1.1 k i f d e), fun l => ?_⟩
  have := s2.2 l
  rw [e3] at this; exact this
end Re14
