set_option maxHeartbeats 400000
/-! ===== CLASS AND MODEL: after the turns nobody goes ===== -/
section Re28
variable {d i k g s l l' t q n p T j : Nat} {v w a b c e f x y z : Int32} {S S' M M' N S0 : zS} {B : Int} {K : Nat → Nat}
def Qt (S : zS) : Prop := ∀ l, l < cL S → z_I S 3 l 0 = 0 → (z_I S 0 0 2 = 1 → ∀ l', l' < cL S → z_I S 3 l' 0 = 0 → Ek S l ≤ Ek S l') → cFF S (cFr S l) < cNeed S l
theorem TR.rw (h : TR S0 n K) (hj : j < n) : cRw S0 j = K j ∧ K j < cL S0 ∧ z_I S0 3 (K j) 0 = 0 := by
  have h2 := h.2.1.2.2.2.2.1 j hj
  refine ⟨(h.2.1.rw h.1 (fun l hl _ => ⟨(z_I S0 3 l 6).toInt, rfl, (h.2.2 l hl).1, by have := (h.2.2 l hl).2; omega⟩) hj).2, h2.1, h2.2⟩
theorem TR.lt (h : TR S0 n K) (hij : i < j) (hj : j < n) : Ek S0 (K i) < Ek S0 (K j) := h.2.1.2.2.2.1 i j hij hj
theorem TR.ex (h : TR S0 n K) (hl : l < cL S0) (hw : z_I S0 3 l 0 = 0) : ∃ j, j < n ∧ K j = l := h.2.1.2.2.2.2.2 l hl hw
theorem turnGo_id (hr : TR S0 n K) (hq : Qt S0) : ∀ (m d : Nat), d + m = n → (d = 0 ∨ z_I S0 0 0 2 ≠ 1) → cTurnGo m d S0 = S0
  | 0, _, _, _ => rfl
  | m + 1, d, hd, hs => by
    obtain ⟨r1, r2, r3⟩ := hr.rw (j := d) (by omega)
    unfold cTurnGo
    rw [r1]
    have hn : cFF S0 (cFr S0 (K d)) < cNeed S0 (K d) := by
      refine hq (K d) r2 r3 fun h1 l' hl' hw' => ?_
      have d0 : d = 0 := hs.resolve_right fun u => u h1
      obtain ⟨j, hj, rfl⟩ := hr.ex hl' hw'
      by_cases u : j = d
      · rw [u]; exact Int.le_refl _
      · exact Int.le_of_lt (hr.lt (by omega) hj)
    rw [if_pos hn]
    by_cases h1 : z_I S0 0 0 2 = 1
    · rw [if_pos h1]
    · rw [if_neg h1]; exact turnGo_id hr hq m (d + 1) (by omega) (.inr h1)
theorem Qt.rw0 (h : Qt S) (ho : Ok B T S M) (hw : Rw0 S S') : Qt S' := fun l hl h0 hm => by
  have al := hw.alk
  have o2 := ho.alk al
  have e3 : ∀ l f, z_I S' 3 l f = z_I S 3 l f := fun l f => hw.1 3 l f (by omega) (by omega)
  have eL := al.L
  have eE : ∀ l, Ek S' l = Ek S l := fun l => by unfold Ek; rw [e3]
  have hl' : l < cL S := by rw [← eL]; exact hl
  have h0' : z_I S 3 l 0 = 0 := by rw [← e3]; exact h0
  have ef : cFr S' l = cFr S l := congrArg Int32.toNatClampNeg (e3 l 1)
  have := h l hl' h0' fun h1 l' hl2 hw2 => by
    rw [← eE, ← eE]; exact hm (by rw [hw.1 0 0 2 (by omega) (by omega)]; exact h1) l' (by rw [eL]; exact hl2) (by rw [e3]; exact hw2)
  rw [ef, ← RM.ff o2.r (by rw [al.N]; exact ho.ia.fr hl'), RM.ff ho.r (ho.ia.fr hl'), ← RM.need o2.r o2.ia hl (.inl h0), RM.need ho.r ho.ia hl' (.inl h0')]; exact this
theorem Qt.alk (h : Qt S) (ho : Ok B T S M) : Alk S (cTurns S) := by
  obtain ⟨n, K, h1, h2, h3, h4⟩ := cTurns_tr ho.r.L40 ho.ia
  have e : cTurns S = cLUp cLuW S := by
    unfold cTurns; rw [h3]; exact turnGo_id h2 (h.rw0 ho h1) n 0 (by omega) (.inl rfl)
  rw [e]; exact h1.alk
theorem iFs_le {G : Nat → Nat} : ∀ (n i : Nat), (∀ j, i ≤ j → j < i + n → (cFree S' (G j)).toInt ≤ (cFree S (G j)).toInt) → iFs S' G i n ≤ iFs S G i n
  | 0, _, _ => Int.le_refl _
  | n + 1, i, h => by
    have h1 := h i (by omega) (by omega)
    have h2 := iFs_le n (i + 1) fun j h1 h2 => h j (by omega) (by omega)
    unfold iFs; omega
theorem cHold_due : z_I (cHold S l a) 1 g 2 = z_I S 1 g 2 := by
  unfold cHold
  dsimp only
  rw [z_I_uJ]
  refine z_it_o (fun j p => ?_) _ _ (a, S)
  unfold cHoldSt
  dsimp only
  rw [z_I_u, if_neg (by omega), z_I_u, if_neg (by omega)]
theorem cFF_go (h : Ok B T S M) (hl : l < cL S) (hs : z_I S 3 l 0 = 0) (hle : cNeed S l ≤ cFF S (cFr S l)) (hq : q < cS S) : (cFF (cGo S l) q).toInt ≤ (cFF S q).toInt := by
  obtain ⟨s1, s2, s3, s4, s5, s6⟩ := sim_go h.r h.ia hl hs (h.nd l hl) hle
  have hq' : q < cS (cGo S l) := by rw [s3.N]; exact hq
  rw [(RM.ffi s1 s2 hq').1, (RM.ffi h.r h.ia hq).1]
  have eO : cOrd (cGo S l) q = cOrd S q := congrArg Int32.toNatClampNeg (s3 4 q 2 (by omega) (by omega) (by omega) (by omega))
  have eLn : cLn (cGo S l) q = cLn S q := funext fun i => congrArg Int32.toNatClampNeg (s3 16 q i (by omega) (by omega) (by omega) (by omega))
  rw [eO, eLn]
  refine iFs_le _ _ fun j _ hj => ?_
  have hg := ((h.r.or hq).lo (i := j) (by omega)).1
  generalize cLn S q j = g at hg
  have hg' : g < cG (cGo S l) := by rw [s3.G]; exact hg
  rw [(s2.free s1.G4 hg').1, (h.ia.free h.r.G4 hg).1]
  have e0 : z_I (cGo S l) 1 g 0 = z_I S 1 g 0 := s3 1 g 0 (by omega) (by omega) (by omega) (by omega)
  have e2 : z_I (cGo S l) 1 g 2 = z_I S 1 g 2 := by
    unfold cGo; rw [cHold_due]; rfl
  have g4 : g < 4 := by have := h.r.G4; omega
  have hS := iSum_up (F := fun l => (z_I S 14 l g).toInt) (H := fun l => (z_I (cGo S l) 14 l g).toInt) (l := l) (cL S) hl
  have e1 : (z_I (cGo S l) 1 g 1).toInt = (z_I S 1 g 1).toInt + ((z_I (cGo S l) 14 l g).toInt - (z_I S 14 l g).toInt) := by
    rw [s2.sm hg', h.ia.sm hg, s3.L]
    exact iSum_up (F := fun i => (z_I S 14 i g).toInt) (H := fun i => (z_I (cGo S l) 14 i g).toInt) (cL S) hl fun i _ hne => by
      show _ = _
      rw [s3 14 i g (by omega) (by omega) (by omega) (by omega)]
  have h0 : z_I S 14 l g = 0 := (h.nd l hl).2 (by rw [hs]; decide) g g4
  have hp := (s2.ho (l := l) (by rw [s3.L]; exact hl) g g4).1
  rw [h0] at e1
  have z0 : (0 : Int32).toInt = 0 := rfl
  rw [e0, e2]; omega
theorem turnGo_q (hr : TR S0 n K) : ∀ (m d : Nat) (S M : zS), d + m = n → Ok B T S M → Tf S0 S → (∀ l, l < cL S0 → z_I S 3 l 0 = 0 → ∃ j, j < n ∧ K j = l) → (∀ j, d ≤ j → j < n → z_I S 3 (K j) 0 = 0) → (∀ j, j < d → z_I S 3 (K j) 0 = 0 → z_I S 0 0 2 ≠ 1 ∧ cFF S (cFr S (K j)) < cNeed S (K j)) → Qt (cTurnGo m d S)
  | 0, d, S, M, hd, h, ht, hw, h1, h2 => fun l hl h0 _ => by
    obtain ⟨j, hj, rfl⟩ := hw l (by rw [← ht.L]; exact hl) h0
    exact (h2 j (by omega) h0).2
  | m + 1, d, S, M, hd, h, ht, hw, h1, h2 => by
    have hdn : d < n := by omega
    obtain ⟨r1, r2, r3⟩ := hr.rw hdn
    have eR : cRw S d = K d := by rw [ht.rw]; exact r1
    have eE : ∀ l, Ek S l = Ek S0 l := fun l => by unfold Ek; rw [ht.1 3 l 6 (by omega) (by omega) (by omega)]
    have w0 := h1 d (Nat.le_refl _) hdn
    have hl : K d < cL S := by rw [ht.L]; exact r2
    have inj : ∀ j, j < n → j ≠ d → K j ≠ K d := fun j hj hne he => by
      rcases Nat.lt_or_ge j d with u | u
      · have := hr.lt u hdn; rw [he] at this; omega
      · have := hr.lt (show d < j by omega) hj; rw [he] at this; omega
    unfold cTurnGo
    rw [eR]
    by_cases hf : cFF S (cFr S (K d)) < cNeed S (K d)
    · rw [if_pos hf]
      by_cases hs : z_I S 0 0 2 = 1
      · rw [if_pos hs]
        intro l hl' h0 hm
        obtain ⟨j, hj, rfl⟩ := hw l (by rw [← ht.L]; exact hl') h0
        by_cases u : j < d
        · exact absurd hs (h2 j u h0).1
        · by_cases u2 : j = d
          · rw [u2]; exact hf
          · have := hm hs (K d) hl w0
            rw [eE, eE] at this
            have := hr.lt (show d < j by omega) hj
            omega
      · rw [if_neg hs]
        refine turnGo_q hr m (d + 1) S M (by omega) h ht hw (fun j hj => h1 j (by omega)) fun j hj h0 => ?_
        by_cases u : j = d
        · rw [u]; exact ⟨hs, hf⟩
        · exact h2 j (by omega) h0
    · rw [if_neg hf]
      have hle : cNeed S (K d) ≤ cFF S (cFr S (K d)) := by rw [i_le]; rw [i_lt] at hf; omega
      obtain ⟨s1, s2, s3, s4, s5, s6⟩ := sim_go h.r h.ia hl w0 (h.nd _ hl) hle
      have st : ∀ l, z_I (cGo S (K d)) 3 l 0 = 0 → l ≠ K d ∧ z_I S 3 l 0 = 0 := fun l u => by
        have : l ≠ K d := fun e => by rw [e, s6] at u; exact absurd u (by decide)
        rw [s3.ld this] at u; exact ⟨this, u⟩
      refine turnGo_q hr m (d + 1) (cGo S (K d)) (mGo M (K d)) (by omega) ⟨s1, s2, (h.nd.xx.fo s3).nn s4⟩ (.tr ht (.go w0)) (fun l hl' u => hw l hl' (st l u).2) (fun j h3 h4 => ?_) (fun j h3 u => ?_)
      · rw [s3.ld (inj j h4 (by omega))]; exact h1 j (by omega) h4
      · obtain ⟨u1, u2⟩ := st _ u
        have jd : j ≠ d := fun e => u1 (by rw [e])
        obtain ⟨q1, q2⟩ := h2 j (by omega) u2
        have hlj : K j < cL S := by rw [ht.L]; exact (hr.rw (j := j) (by omega)).2.1
        refine ⟨by rw [s3.h0]; exact q1, ?_⟩
        rw [s3.need u1, show cFr (cGo S (K d)) (K j) = cFr S (K j) from congrArg Int32.toNatClampNeg (s3.ld u1), i_lt]
        rw [i_lt] at q2
        have := cFF_go h hl w0 hle (h.ia.fr hlj)
        omega
theorem Qt.turns (h : Ok B T S M) : Qt (cTurns S) := by
  obtain ⟨n, K, h1, h2, h3, h4⟩ := cTurns_tr h.r.L40 h.ia
  unfold cTurns
  rw [h3]
  exact turnGo_q h2 n 0 (cLUp cLuW S) M (by omega) (h.alk h1.alk) .rf (fun l hl u => h2.ex hl u) (fun j _ hj => (h2.rw hj).2.2) (fun j hj => absurd hj (Nat.not_lt_zero _))
theorem Qt.days : ∀ (n : Nat) (a : Int32) (S M : zS), 0 < n → Ok B T S M → (z_I S 0 0 0).toInt + n ≤ 9999 → Qt (cDaysGo n a S).2
  | n + 1, a, S, M, _, h, hd => by
    have o1 : (1 : Int32).toInt = 1 := rfl
    have hdy := h.ia.dy
    obtain ⟨s1, s2, s3⟩ := sim_pass h (by omega)
    unfold cDaysGo
    cases n with
    | zero =>
      show Qt (cPass S).2
      have h0 : Ok B T (z_uI S 0 0 0 (z_I S 0 0 0 + 1)) (mDay1 M) := by
        have e1 : (z_I S 0 0 0 + 1).toInt = (z_I S 0 0 0).toInt + 1 := i_add (by omega) (by omega)
        refine ⟨?_, h.ia.upDay (by omega) (by omega), h.nd.upDay⟩
        unfold mDay1
        rw [RM.day h.r]
        exact RM.up h.r (k := 0) (i := 0) (q := 0) (j := 0) (.inl ⟨rfl, rfl, .inl ⟨rfl, rfl⟩⟩) (by omega) (by omega) (by omega) (by omega)
      have h1 := (sim_passGo (cL S) 0 0 (z_uI S 0 0 0 (z_I S 0 0 0 + 1)) (mDay1 M) (z_I (mDay1 M) 6 0 15) (by show 0 + cL S = cL S; omega) h0 (Int32.add_zero _).symm).1
      exact Qt.turns h1
    | succ m =>
      refine Qt.days (m + 1) (a + (cPass S).1) (cPass S).2 (mDay M) (by omega) s1 ?_
      rw [s3, i_add (by omega) (by omega)]; omega
end Re28
