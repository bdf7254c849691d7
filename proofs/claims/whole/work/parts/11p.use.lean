/-! ===== CLASS AND MODEL: due at once ===== -/
section Re16
variable {d i k g s l t q p T j : Nat} {v w a b c e f x y z : Int32} {S S' S0 M M' : zS} {B : Int}
def Fdu (S S' : zS) : Prop := ∀ k i f, ¬ (k = 1 ∧ f = 2) → z_I S' k i f = z_I S k i f
theorem Fdu.m (h : Fdu S S') : Fm l S S' := fun k i f a _ => h k i f (by omega)
def SimU (B : Int) (T : Nat) (S0 : zS) (x : Int32) (S : zS) (y : Int32) (M : zS) : Prop := x = y ∧ RM S M ∧ InvA B T S ∧ 0 ≤ x.toInt ∧ Fdu S0 S
theorem SimU.st (h : SimU B T S0 x S y M) (hs : s < cS S0) (hin : i < cOrd S0 s) :
    SimU B T S0 (cOnceSt s i (x, S)).1 (cOnceSt s i (x, S)).2 (mUsS s i (y, M)).1 (mUsS s i (y, M)).2 := by
  obtain ⟨rfl, hr, hv, hx, hf⟩ := h
  have hm : Fm 0 S0 S := hf.m
  have hs' : s < cS S := by rw [hm.N]; exact hs
  have ho := hr.or hs'
  have h3 := ho.ord.1
  obtain ⟨hgG, h4, hO⟩ := ho.lo (i := i) (by rw [hm.ord]; exact hin)
  have hG := hr.G4
  have hfr := hv.free hG hgG
  have hO' : z_I M 22 0 (18 + 8 * s + 5 + i) = nI (cLn S s i) := hO
  have eC : cOnceSt s i (x, S) = (x - cMin x (cFree S (cLn S s i)), cAddDue S (cLn S s i) (cMin x (cFree S (cLn S s i)))) := rfl
  have eM : mUsS s i (x, M) = if cMin x (cFree S (cLn S s i)) ≤ 0 then (x, M) else (x - cMin x (cFree S (cLn S s i)), mOwes M (cLn S s i) (cMin x (cFree S (cLn S s i)))) := by
    unfold mUsS
    show (if z_I M 22 0 (18 + 8 * s + 5 + i) = -1 then _ else _) = _
    rw [hO', if_neg (of_eq_false (zn_n1 h4)), z_nIc (by omega), mMin_c, RM.free hr hgG]
  rw [eC, eM]
  obtain ⟨p0, p1, p2, p3⟩ := i_cmP hx hfr.2.1
  generalize hgg : cLn S s i = g at *
  generalize hpp : cMin x (cFree S g) = π at *
  have z0 : (0 : Int32).toInt = 0 := rfl
  by_cases hp : π ≤ 0
  · have hp0 : π = 0 := by
      rw [i_le] at hp
      exact i_z.mpr (by omega)
    subst hp0
    rw [if_pos hp]
    show SimU B T S0 (x - 0) (cAddDue S g 0) x M
    have eS : cAddDue S g 0 = S := by
      unfold cAddDue
      rw [i_add0, i_64, zq_uId, zq_uJd]
    rw [eS, i_sub0]
    exact ⟨rfl, hr, hv, hx, hf⟩
  · rw [if_neg hp]
    rw [i_le] at hp
    show SimU B T S0 (x - π) (cAddDue S g π) (x - π) (mOwes M g π)
    have hgu := hv.gu hgG
    have hd := hv.hd0 hG hgG
    have hB := hv.hB
    unfold iGu at hgu
    have b4 : (z_I S 1 g 2 + π).toInt = (z_I S 1 g 2).toInt + π.toInt := i_add (by omega) (by omega)
    have b3 : (x - π).toInt = x.toInt - π.toInt := i_sub (by omega) (by have := Int32.toInt_lt x; omega)
    have fo : ∀ k i' f, ¬ (k = 1 ∧ i' = g ∧ f = 2) → z_I (cAddDue S g π) k i' f = z_I S k i' f := fun k i' f h1 => by
      unfold cAddDue; rw [z_I_uJ, z_I_u, if_neg h1]
    have f12 : z_I (cAddDue S g π) 1 g 2 = z_I S 1 g 2 + π := by
      unfold cAddDue; rw [z_I_uJ, z_I_u, if_pos ⟨rfl, rfl, rfl⟩]
    refine ⟨rfl, ?_, ?_, by rw [b3]; omega, fun k i' f h1 => (fo k i' f (by omega)).trans (hf k i' f h1)⟩
    · have h3 := RM.up (v := z_I S 1 g 2 + π) hr (k := 1) (i := g) (q := 2) (j := 6 + 3 * g + 2) (by unfold rP; omega) (by omega) (by omega) (fun _ u => by omega) (by omega)
      have h4' := RM.upJ (o := z_J S 1 g 3 + π.toInt64) h3 (k := 1) (i := g) (q := 3) (j := 2 * g) (by unfold rPJ; omega) (fun _ u => by rw [show cG (z_uI S 1 g 2 (z_I S 1 g 2 + π)) = cG S from rfl] at u; omega)
      unfold mOwes cAddDue
      rw [RM.gu (q := 2) hr hgG (by omega), show z_J M 23 0 (2 * g) = z_J S 1 g 3 from hr.ej 1 g 3 _ (by unfold rPJ; omega) (by omega) (by omega)]
      exact h4'
    · exact hv.due hgG (ε := π.toInt) (by rw [f12]; exact b4) (by omega) (by omega) fo
theorem SimU.go : ∀ (n i : Nat) (x : Int32) (S : zS) (y : Int32) (M : zS), SimU B T S0 x S y M → s < cS S0 → i + n = cOrd S0 s →
    SimU B T S0 (z_it (cOnceSt s) n i (x, S)).1 (z_it (cOnceSt s) n i (x, S)).2 (z_it (mUsS s) n i (y, M)).1 (z_it (mUsS s) n i (y, M)).2
  | 0, _, _, _, _, _, h, _, _ => h
  | n + 1, i, x, S, y, M, h, hs, hin => SimU.go n (i + 1) _ _ _ _ (h.st hs (by omega)) hs (by omega)
theorem sim_once (h : RM S M) (hi : InvA B T S) (hs : s < cS S) (ha : 0 ≤ a.toInt) : RM (cOnce S s a) (z_it (mUsS s) 3 0 (a, M)).2 ∧ InvA B T (cOnce S s a) ∧ Fdu S (cOnce S s a) := by
  have ho := h.or hs
  have h3 := ho.ord.1
  have h1 := SimU.go (cOrd S s) 0 a S a M ⟨rfl, h, hi, ha, fun _ _ _ _ => rfl⟩ hs (by omega)
  have eM : z_it (mUsS s) 3 0 (a, M) = z_it (mUsS s) (cOrd S s) 0 (a, M) := by
    obtain ⟨-, r1, -, -, r3⟩ := h1
    have hm : Fm 0 S _ := r3.m
    rw [show 3 = cOrd S s + (3 - cOrd S s) by omega, z_it_add, z_it_idd (fun p => p = z_it (mUsS s) (cOrd S s) 0 (a, M)) _ _ _ rfl]
    intro j y hy h5 h6
    have ho' := r1.or (i := s) (by rw [hm.N]; exact hs)
    have : z_I y.2 22 0 (18 + 8 * s + 5 + j) = -1 := by
      rw [hy]; exact ho'.hi (by rw [hm.ord]; omega) (by omega)
    unfold mUsS
    rw [if_pos this]
  rw [eM]
  exact ⟨h1.2.1, h1.2.2.1, h1.2.2.2.2⟩
theorem InvN.fd (h : InvN S) (hf : Fdu S S') : InvN S' := fun l hl => by
  have hm : Fm 99 S S' := hf.m
  rw [hm.L] at hl
  have h14 : ∀ g, z_I S' 14 l g = z_I S 14 l g := fun g => hf 14 l g (by omega)
  unfold iNd
  rw [hf 3 l 0 (by omega), hm.need, iHs_co fun g _ => h14 g]
  exact ⟨(h l hl).1, fun u g hg => by rw [h14]; exact (h l hl).2 u g hg⟩
end Re16
