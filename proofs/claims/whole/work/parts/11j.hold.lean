/-! ===== CLASS AND MODEL: release, due, hold, use as wholes ===== -/
section Re10
variable {d i k g s l t q n p T j : Nat} {v w a b c e f x y z : Int32} {S S' S0 M M' : zS} {B c0 : Int} {P : Nat → Prop}
theorem mL2_j : ∀ (n i z : Nat) (M : zS), z_J (mL2 s n i z M) 23 0 q = z_J M 23 0 q
  | 0, _, _, _ => rfl
  | n + 1, i, z, M => by
    unfold mL2
    by_cases h1 : 4 ≤ z
    · rw [if_pos h1]
    · rw [if_neg h1]
      by_cases h2 : mOth M s i
      · rw [if_pos h2, mL2_j]; rfl
      · rw [if_neg h2, mL2_j]
theorem mLine_j : z_J (mLine M s) 23 0 q = z_J M 23 0 q := by
  unfold mLine
  rw [mL2_j]
  show z_J (mL1S s 2 (mL1S s 1 (mL1S s 0 (0, M)))).2 23 0 q = _
  rw [mL1S_j, mL1S_j, mL1S_j]
theorem InvA.uJ {o : Int64} (h : InvA B T S) : InvA B T (z_uJ S k i q o) := h
theorem Fm.uJ {o : Int64} (h : Fm l S S') : Fm l S (z_uJ S' k i q o) := h
theorem SimR.i0 (h : RM S M) (hi : InvA B T S) (hs : s < cS S) (ha : 0 ≤ a.toInt) : SimR B T l s S (iHs S l - a.toInt) (fun _ => False) a S a (mLine M s) := by
  refine ⟨rfl, RM.mo h (fun j _ => mLine_r) (fun j _ => mLine_j), hi, ha, .rf, rfl, .inr fun _ _ u => u.elim, fun j hj => ?_⟩
  have ho := h.or hs
  show (z_I (mLine M s) 32 0 j).toNatClampNeg = _
  rw [mLine_k (show mOok M s from ho.1) hj, show (oLine (mO M s 0) (mO M s 1) (mO M s 2)).getD j 0 = _ from (ho.at hj).2.2, z_nIc (by have := (ho.at hj).1; omega)]
theorem SimR.end0 (h : SimR B T l s S0 c0 P x S y M) (h0 : RM S0 M') (hs : s < cS S0) (hP : ∀ j, j < 4 → P j) (hc : 0 ≤ c0) : x = 0 ∧ iHs S l = c0 := by
  obtain ⟨-, -, -, hx, -, hc', hz, -⟩ := h
  rcases hz with u | u
  · subst u
    exact ⟨rfl, by rw [← hc']; show _ = _ - 0; omega⟩
  · have ho := h0.or hs
    have all : ∀ g, g < 4 → z_I S 14 l g = 0 := fun g hg => by
      obtain ⟨j, hj, e⟩ := ho.sur hg
      rw [← e]; exact u j hj (hP j hj)
    have e : iHs S l = 0 := by
      unfold iHs
      rw [all 0 (by omega), all 1 (by omega), all 2 (by omega), all 3 (by omega)]; rfl
    have : x.toInt = 0 := by omega
    exact ⟨i_z.mpr this, by omega⟩
theorem sim_rel (h : RM S M) (hi : InvA B T S) (hl : l < cL S) (ha : 0 ≤ a.toInt) (ha2 : a.toInt ≤ iHs S l) : RM (cRel S l a) (mRel M l (cFr S l) none a) ∧ InvA B T (cRel S l a) ∧ Fm l S (cRel S l a) ∧ iHs (cRel S l a) l = iHs S l - a.toInt := by
  have hs := hi.fr hl
  have h4 := ((((SimR.i0 (l := l) h hi hs ha).rel hl hs (i := 3) (by omega)).rel hl hs (i := 2) (by omega)).rel hl hs (i := 1) (by omega)).rel hl hs (i := 0) (by omega)
  obtain ⟨e1, e2⟩ := h4.end0 h hs (fun j hj => by omega) (by omega)
  obtain ⟨-, r1, r2, -, r3, -, -, -⟩ := h4
  have hL := h.L40
  have r4 : RM (z_uJ (cRel4 S l (cFr S l) a).2 3 l 14 (z_J (cRel4 S l (cFr S l) a).2 3 l 14 + a.toInt64)) (mSum1 (mReG l none 4 (a, mLine M (cFr S l))).2 l a) := by
    have r5 := RM.upJ (o := z_J (cRel4 S l (cFr S l) a).2 3 l 14 + a.toInt64) r1 (k := 3) (i := l) (q := 14) (j := 8 + 2 * l + 1) (by unfold rPJ; omega) (by omega)
    unfold mSum1
    rw [show z_J (mReG l none 4 (a, mLine M (cFr S l))).2 23 0 (8 + 2 * l + 1) = z_J (cRel4 S l (cFr S l) a).2 3 l 14 from r1.ej 3 l 14 _ (by unfold rPJ; omega) (by omega) (fun _ => by rw [r3.L]; exact hl)]
    exact r5
  have e3 : (cRel4 S l (cFr S l) a).1 = 0 := e1
  have e4 : cRel S l a = z_uJ (cRel4 S l (cFr S l) a).2 3 l 14 (z_J (cRel4 S l (cFr S l) a).2 3 l 14 + a.toInt64) := by
    unfold cRel
    show z_uJ (cRel4 S l (cFr S l) a).2 3 l 14 (z_J (cRel4 S l (cFr S l) a).2 3 l 14 + (a - (cRel4 S l (cFr S l) a).1).toInt64) = _
    rw [e3, i_sub0]
  rw [e4]
  exact ⟨r4, r2.uJ, r3.uJ, e2⟩
theorem sim_due (h : RM S M) (hi : InvA B T S) (hl : l < cL S) (ha : 0 ≤ a.toInt) : RM (cMakeDue S l a) (mDue M l (cFr S l) a) ∧ InvA B T (cMakeDue S l a) ∧ Fm l S (cMakeDue S l a) := by
  have hs := hi.fr hl
  have h4 := ((((SimR.i0 (l := l) h hi hs ha).du hl hs (i := 0) (by omega)).du hl hs (i := 1) (by omega)).du hl hs (i := 2) (by omega)).du hl hs (i := 3) (by omega)
  obtain ⟨-, r1, r2, -, r3, -, -, -⟩ := h4
  exact ⟨r1, r2, r3⟩
-- hold
def iFs (S : zS) (G : Nat → Nat) : Nat → Nat → Int
  | _, 0 => 0
  | i, n + 1 => (cFree S (G i)).toInt + iFs S G (i + 1) n
theorem iFs_ext {G : Nat → Nat} : ∀ (n i : Nat), (∀ j, i ≤ j → j < i + n → cFree S' (G j) = cFree S (G j)) → iFs S' G i n = iFs S G i n
  | 0, _, _ => rfl
  | n + 1, i, h => by
    show (cFree S' (G i)).toInt + iFs S' G (i + 1) n = (cFree S (G i)).toInt + iFs S G (i + 1) n
    rw [h i (by omega) (by omega), iFs_ext n (i + 1) fun j h1 h2 => h j (by omega) (by omega)]
theorem iFs_b {G : Nat → Nat} (hi : InvA B T S) (hG : cG S ≤ 4) : ∀ (n i : Nat), (∀ j, i ≤ j → j < i + n → G j < cG S) → 0 ≤ iFs S G i n ∧ iFs S G i n ≤ n * 19999998
  | 0, _, _ => ⟨Int.le_refl _, by show (0 : Int) ≤ _; omega⟩
  | n + 1, i, h => by
    have h1 := iFs_b hi hG n (i + 1) fun j h1 h2 => h j (by omega) (by omega)
    have h2 := hi.free hG (h i (by omega) (by omega))
    show 0 ≤ (cFree S (G i)).toInt + iFs S G (i + 1) n ∧ (cFree S (G i)).toInt + iFs S G (i + 1) n ≤ _
    omega
theorem cFFGo_i (hi : InvA B T S) (hG : cG S ≤ 4) : ∀ (n i : Nat) (a : Int32), (∀ j, i ≤ j → j < i + n → cLn S s j < cG S) → 0 ≤ a.toInt → a.toInt + n * 19999998 < 100000000 → (cFFGo S s n i a).toInt = a.toInt + iFs S (cLn S s) i n
  | 0, _, a, _, _, _ => by show a.toInt = a.toInt + 0; omega
  | n + 1, i, a, h, h0, hb => by
    have h2 := hi.free hG (h i (by omega) (by omega))
    have e : (a + cFree S (cLn S s i)).toInt = a.toInt + (cFree S (cLn S s i)).toInt := i_add (by omega) (by omega)
    show (cFFGo S s n (i + 1) (a + cFree S (cLn S s i))).toInt = a.toInt + ((cFree S (cLn S s i)).toInt + iFs S (cLn S s) (i + 1) n)
    rw [cFFGo_i hi hG n (i + 1) _ (fun j h1 h2 => h j (by omega) (by omega)) (by omega) (by omega)]; omega
theorem RM.ffi (h : RM S M) (hi : InvA B T S) (hs : s < cS S) : (cFF S s).toInt = iFs S (cLn S s) 0 (cOrd S s) ∧ 0 ≤ (cFF S s).toInt ∧ (cFF S s).toInt ≤ 59999994 := by
  have ho := h.or hs
  have h3 := ho.ord.1
  have hj : ∀ j, 0 ≤ j → j < 0 + cOrd S s → cLn S s j < cG S := fun j _ h2 => (ho.lo (by omega)).1
  have e : (cFF S s).toInt = iFs S (cLn S s) 0 (cOrd S s) := by
    have := cFFGo_i (s := s) hi h.G4 (cOrd S s) 0 0 hj (by decide) (by show (0 : Int) + _ < _; omega)
    unfold cFF
    rw [this]; show (0 : Int) + _ = _; omega
  have := iFs_b hi h.G4 (cOrd S s) 0 hj
  omega
def SimH (B : Int) (T l s : Nat) (S0 : zS) (c0 : Int) (i n : Nat) (x : Int32) (S : zS) (y : Int32) (M : zS) : Prop :=
  x = y ∧ RM S M ∧ InvA B T S ∧ 0 ≤ x.toInt ∧ Fm l S0 S ∧ iHs S l + x.toInt = c0 ∧ x.toInt ≤ iFs S (cLn S0 s) i n
theorem SimH.st (h : SimH B T l s S0 c0 i (n + 1) x S y M) (hl : l < cL S0) (hs : s < cS S0) (hin : i + (n + 1) = cOrd S0 s) :
    SimH B T l s S0 c0 (i + 1) n (cHoldSt l s i (x, S)).1 (cHoldSt l s i (x, S)).2 (mHoS l s i (y, M)).1 (mHoS l s i (y, M)).2 := by
  obtain ⟨rfl, hr, hv, hx, hf, hc, hz⟩ := h
  have hl' : l < cL S := by rw [hf.L]; exact hl
  have hs' : s < cS S := by rw [hf.N]; exact hs
  have eo' : cOrd S s = cOrd S0 s := hf.ord
  have ho := hr.or hs'
  have h3 := ho.ord.1
  obtain ⟨hgG, h4, hO⟩ := ho.lo (i := i) (by omega)
  have e1 : cLn S s i = cLn S0 s i := hf.ln
  have hG := hr.G4
  have hfr := hv.free hG hgG
  have hin2 : ∀ j, i + 1 ≤ j → j < i + 1 + n → cLn S0 s j < cG S ∧ cLn S0 s j ≠ cLn S0 s i := fun j h1 h2 => by
    have e2 : cLn S s j = cLn S0 s j := hf.ln
    refine ⟨by rw [← e2]; exact (ho.lo (by omega)).1, fun u => ?_⟩
    rw [← e2, ← e1] at u
    have := ho.inj (by omega) (by omega) u
    omega
  rw [e1] at hgG h4 hO hfr
  have hb := iFs_b (G := cLn S0 s) hv hG n (i + 1) fun j h1 h2 => (hin2 j h1 h2).1
  have hz' : x.toInt ≤ (cFree S (cLn S0 s i)).toInt + iFs S (cLn S0 s) (i + 1) n := hz
  have eC : cHoldSt l s i (x, S) = (x - cMin x (cFree S (cLn S0 s i)), z_uI (z_uI S 1 (cLn S0 s i) 1 (z_I S 1 (cLn S0 s i) 1 + cMin x (cFree S (cLn S0 s i)))) 14 l (cLn S0 s i) (z_I S 14 l (cLn S0 s i) + cMin x (cFree S (cLn S0 s i)))) := by
    unfold cHoldSt; rw [e1]
  have hO' : z_I M 22 0 (18 + 8 * s + 5 + i) = nI (cLn S0 s i) := hO
  have eM : mHoS l s i (x, M) = if cMin x (cFree S (cLn S0 s i)) ≤ 0 then (x, M) else (x - cMin x (cFree S (cLn S0 s i)), z_uI (z_uI M 22 0 (6 + 3 * cLn S0 s i + 1) (z_I S 1 (cLn S0 s i) 1 + cMin x (cFree S (cLn S0 s i)))) 22 0 (211 + 17 * l + 13 + cLn S0 s i) (z_I S 14 l (cLn S0 s i) + cMin x (cFree S (cLn S0 s i)))) := by
    unfold mHoS
    show (if z_I M 22 0 (18 + 8 * s + 5 + i) = -1 then _ else _) = _
    rw [hO', if_neg (of_eq_false (zn_n1 h4)), z_nIc (by omega), mMin_c, RM.free hr hgG, RM.gu (q := 1) hr hgG (by omega), RM.lh hr hl' h4]
  rw [eC, eM]
  obtain ⟨p0, p1, p2, p3⟩ := i_cmP hx hfr.2.1
  generalize hgg : cLn S0 s i = g at *
  generalize hpp : cMin x (cFree S g) = π at *
  by_cases hp : π ≤ 0
  · have hp0 : π = 0 := by
      rw [i_le] at hp
      exact i_z.mpr (by have : (0 : Int32).toInt = 0 := rfl; omega)
    subst hp0
    rw [if_pos hp]
    show SimH B T l s S0 c0 (i + 1) n (x - 0) (z_uI (z_uI S 1 g 1 (z_I S 1 g 1 + 0)) 14 l g (z_I S 14 l g + 0)) x M
    have eS : z_uI (z_uI S 1 g 1 (z_I S 1 g 1 + 0)) 14 l g (z_I S 14 l g + 0) = S := by
      rw [i_add0, i_add0, zq_uId, zq_uId]
    rw [eS, i_sub0]
    refine ⟨rfl, hr, hv, hx, hf, hc, ?_⟩
    have : (0 : Int32).toInt = 0 := rfl
    omega
  · rw [if_neg hp]
    have pp : 0 < π.toInt := by
      rw [i_le] at hp
      have : (0 : Int32).toInt = 0 := rfl
      omega
    show SimH B T l s S0 c0 (i + 1) n (x - π) (z_uI (z_uI S 1 g 1 (z_I S 1 g 1 + π)) 14 l g (z_I S 14 l g + π)) (x - π) (z_uI (z_uI M 22 0 (6 + 3 * g + 1) (z_I S 1 g 1 + π)) 22 0 (211 + 17 * l + 13 + g) (z_I S 14 l g + π))
    have hh := hv.hle hG hgG hl'
    have hB0 := hv.hB0 hG h4 hl'
    have hgu := hv.gu hgG
    have hd := hv.hd0 hG hgG
    have hB := hv.hB
    unfold iGu at hgu
    have b1 : (z_I S 14 l g + π).toInt = (z_I S 14 l g).toInt + π.toInt := i_add (by omega) (by omega)
    have b2 : (z_I S 1 g 1 + π).toInt = (z_I S 1 g 1).toInt + π.toInt := i_add (by omega) (by omega)
    have b3 : (x - π).toInt = x.toInt - π.toInt := i_sub (by omega) (by have := Int32.toInt_lt x; omega)
    generalize hS1 : z_uI (z_uI S 1 g 1 (z_I S 1 g 1 + π)) 14 l g (z_I S 14 l g + π) = S1
    have eo : ∀ k i' f, ¬ (k = 1 ∧ i' = g ∧ f = 1) → ¬ (k = 14 ∧ i' = l ∧ f = g) → z_I S1 k i' f = z_I S k i' f := fun k i' f h1 h2 => by
      rw [← hS1, z_I_u, if_neg h2, z_I_u, if_neg h1]
    have e14 : z_I S1 14 l g = z_I S 14 l g + π := by rw [← hS1, z_I_u, if_pos ⟨rfl, rfl, rfl⟩]
    have e11 : z_I S1 1 g 1 = z_I S 1 g 1 + π := by rw [← hS1, z_I_u, if_neg (by omega), z_I_u, if_pos ⟨rfl, rfl, rfl⟩]
    have hL := hr.L40
    refine ⟨rfl, ?_, ?_, by rw [b3]; omega, fun k i' f h1 h2 => (eo k i' f (by omega) (by omega)).trans (hf k i' f h1 h2), ?_, ?_⟩
    · rw [← hS1]
      have h1 := RM.up (v := z_I S 1 g 1 + π) hr (k := 1) (i := g) (q := 1) (j := 6 + 3 * g + 1) (by unfold rP; omega) (by omega) (by omega) (by omega) (by omega)
      exact RM.up h1 (by unfold rP; omega) (by omega) (by omega) (by omega) (by omega)
    · exact hv.money hG hgG hl' (δ := π.toInt) (ε := 0) (by rw [e11]; exact b2) (by rw [eo 1 g 2 (by omega) (by omega)]; omega) (by rw [e14]; exact b1) (by omega) (by omega) (by omega) fun k i' f h1 h2 => eo k i' f (by omega) (by omega)
    · rw [iHs_up (S' := S1) (S := S) h4 fun f h1 h2 => eo 14 l f (by omega) (by omega), e14, b1, b3]; omega
    · rw [iFs_ext (S' := S1) (S := S) n (i + 1) fun j h1 h2 => ?_, b3]
      · omega
      · have := (hin2 j h1 h2).2
        unfold cFree
        rw [eo 1 _ 0 (by omega) (by omega), eo 1 _ 1 (by omega) (by omega), eo 1 _ 2 (by omega) (by omega)]
theorem SimH.go : ∀ (n i : Nat) (x : Int32) (S : zS) (y : Int32) (M : zS), SimH B T l s S0 c0 i n x S y M → l < cL S0 → s < cS S0 → i + n = cOrd S0 s →
    SimH B T l s S0 c0 (i + n) 0 (z_it (cHoldSt l s) n i (x, S)).1 (z_it (cHoldSt l s) n i (x, S)).2 (z_it (mHoS l s) n i (y, M)).1 (z_it (mHoS l s) n i (y, M)).2
  | 0, _, _, _, _, _, h, _, _, _ => h
  | n + 1, i, x, S, y, M, h, hl, hs, hin => by
    have h1 := h.st hl hs hin
    have h2 := SimH.go n (i + 1) _ _ _ _ h1 hl hs (by omega)
    rw [show i + (n + 1) = i + 1 + n by omega]
    exact h2
theorem sim_hold (h : RM S M) (hi : InvA B T S) (hl : l < cL S) (ha : 0 ≤ a.toInt) (ha2 : a.toInt ≤ (cFF S (cFr S l)).toInt) : RM (cHold S l a) (mHold M l (cFr S l) a) ∧ InvA B T (cHold S l a) ∧ Fm l S (cHold S l a) ∧ iHs (cHold S l a) l = iHs S l + a.toInt := by
  have hs := hi.fr hl
  have ho := h.or hs
  have h3 := ho.ord.1
  have hff := RM.ffi h hi hs
  have h1 := SimH.go (cOrd S (cFr S l)) 0 a S a M ⟨rfl, h, hi, ha, .rf, rfl, by rw [← hff.1]; exact ha2⟩ hl hs (by omega)
  have eM : z_it (mHoS l (cFr S l)) 3 0 (a, M) = z_it (mHoS l (cFr S l)) (cOrd S (cFr S l)) 0 (a, M) := by
    obtain ⟨-, r1, -, -, r3, -, -⟩ := h1
    rw [show 3 = cOrd S (cFr S l) + (3 - cOrd S (cFr S l)) by omega, z_it_add, z_it_idd (fun p => p = z_it (mHoS l (cFr S l)) (cOrd S (cFr S l)) 0 (a, M)) _ _ _ rfl]
    intro j y hy h5 h6
    have ho' := r1.or (i := cFr S l) (by rw [r3.N]; exact hs)
    have : z_I y.2 22 0 (18 + 8 * cFr S l + 5 + j) = -1 := by
      rw [hy]; exact ho'.hi (by rw [r3.ord]; omega) (by omega)
    unfold mHoS
    rw [if_pos this]
  obtain ⟨-, r1, r2, r0, r3, r4, r5⟩ := h1
  generalize hp : z_it (cHoldSt l (cFr S l)) (cOrd S (cFr S l)) 0 (a, S) = p at *
  generalize hq : z_it (mHoS l (cFr S l)) (cOrd S (cFr S l)) 0 (a, M) = q at *
  have e0 : p.1 = 0 := i_z.mpr (by have : p.1.toInt ≤ 0 := r5; omega)
  have hL := h.L40
  have e4 : cHold S l a = z_uJ p.2 3 l 13 (z_J p.2 3 l 13 + a.toInt64) := by
    unfold cHold
    show z_uJ (z_it (cHoldSt l (cFr S l)) (cOrd S (cFr S l)) 0 (a, S)).2 3 l 13 (z_J (z_it (cHoldSt l (cFr S l)) (cOrd S (cFr S l)) 0 (a, S)).2 3 l 13 + (a - (z_it (cHoldSt l (cFr S l)) (cOrd S (cFr S l)) 0 (a, S)).1).toInt64) = _
    rw [hp, e0, i_sub0]
  have e5 : mHold M l (cFr S l) a = z_uJ q.2 23 0 (8 + 2 * l) (z_J p.2 3 l 13 + a.toInt64) := by
    unfold mHold
    rw [eM, show z_J q.2 23 0 (8 + 2 * l) = z_J p.2 3 l 13 from r1.ej 3 l 13 _ (by unfold rPJ; omega) (by omega) (fun _ => by rw [r3.L]; exact hl)]
  rw [e4, e5]
  refine ⟨RM.upJ r1 (by unfold rPJ; omega) (by omega), r2.uJ, r3.uJ, ?_⟩
  show iHs p.2 l = _
  rw [e0] at r4
  have : (0 : Int32).toInt = 0 := rfl
  omega
end Re10
