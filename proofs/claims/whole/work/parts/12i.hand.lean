set_option maxHeartbeats 400000
/-! ===== CLASS AND MODEL: a hold handed over ===== -/
section Re29
variable {d i k g s l l' t q n p T j : Nat} {v w a b c e f x y z : Int32} {S S' M M' N S0 : zS} {B c0 c1 : Int} {P : Nat → Prop}
def Fh (l n : Nat) (S S' : zS) : Prop := ∀ k i f, ¬ (k = 14 ∧ (i = l ∨ i = n)) → z_I S' k i f = z_I S k i f
def SimD (B : Int) (T l n s : Nat) (S0 : zS) (c0 c1 : Int) (P : Nat → Prop) (x : Int32) (S : zS) (y : Int32) (M : zS) : Prop :=
  x = y ∧ RM S M ∧ InvA B T S ∧ 0 ≤ x.toInt ∧ Fh l n S0 S ∧ (iHs S l - x.toInt = c0 ∧ iHs S n + x.toInt = c1) ∧ (x = 0 ∨ ∀ j, j < 4 → P j → z_I S 14 l (cLn S0 s j) = 0) ∧ ∀ j, j < 4 → mG M j = cLn S0 s j
theorem Fh.h0 (h : Fh l n S S') : z_I S' 0 0 q = z_I S 0 0 q := h 0 0 q (by omega)
theorem SimD.st (h : SimD B T l n s S0 c0 c1 P x S y M) (hl : l < cL S0) (hn : n < cL S0) (hln : l ≠ n) (hs : s < cS S0) (hi : i < 4) :
    SimD B T l n s S0 c0 c1 (fun j => P j ∨ j = i) (cHandSt l n s i (x, S)).1 (cHandSt l n s i (x, S)).2 (mReS l (some n) i (y, M)).1 (mReS l (some n) i (y, M)).2 := by
  obtain ⟨rfl, hr, hv, hx, hf, ⟨hc, hc1⟩, hz, hg⟩ := h
  have hl' : l < cL S := by show l < (z_I S 0 0 5).toNatClampNeg; rw [hf.h0]; exact hl
  have hn' : n < cL S := by show n < (z_I S 0 0 5).toNatClampNeg; rw [hf.h0]; exact hn
  have hs' : s < cS S := by show s < (z_I S 0 0 4).toNatClampNeg; rw [hf.h0]; exact hs
  have e1 : cLn S s i = cLn S0 s i := congrArg Int32.toNatClampNeg (hf 16 s i (by omega))
  have h4 : cLn S0 s i < 4 := by rw [← e1]; exact ((hr.or hs').at hi).1
  have hm := hg i hi
  have hM := RM.lh hr hl' h4
  have hb := hv.hB0 hr.G4 h4 hl'
  have hbn := hv.hB0 hr.G4 h4 hn'
  have hgG0 : z_I S 14 l (cLn S0 s i) ≠ 0 → cLn S0 s i < cG S := fun u => Nat.lt_of_not_le fun z => u ((hv.ho hl' _ h4).2 z)
  have hG := hr.G4
  have eC : cHandSt l n s i (x, S) = (x - cMin x (z_I S 14 l (cLn S0 s i)), z_uI (z_uI S 14 l (cLn S0 s i) (z_I S 14 l (cLn S0 s i) - cMin x (z_I S 14 l (cLn S0 s i)))) 14 n (cLn S0 s i) (z_I S 14 n (cLn S0 s i) + cMin x (z_I S 14 l (cLn S0 s i)))) := by
    unfold cHandSt; rw [e1]; dsimp only; rw [z_I_u, if_neg (by omega)]
  have eM : mReS l (some n) i (x, M) = (x - cMin x (z_I S 14 l (cLn S0 s i)), z_uI (z_uI M 22 0 (211 + 17 * l + 13 + cLn S0 s i) (z_I S 14 l (cLn S0 s i) - cMin x (z_I S 14 l (cLn S0 s i)))) 22 0 (211 + 17 * n + 13 + cLn S0 s i) (z_I S 14 n (cLn S0 s i) + cMin x (z_I S 14 l (cLn S0 s i)))) := by
    unfold mReS mTak mIts
    show (_, z_uI _ 22 0 _ (z_I _ 22 0 _ + _)) = _
    rw [hm, hM, mMin_c, zn_un (by omega), RM.lh hr hn' h4]
  rw [eC, eM]
  show SimD B T l n s S0 c0 c1 _ _ _ _ _
  generalize hgg : cLn S0 s i = g at *
  generalize hpp : cMin x (z_I S 14 l g) = π at *
  obtain ⟨p0, p1, p2, p3⟩ := i_cmP hx hb.1
  rw [hpp] at p0 p1 p2 p3
  have eo : ∀ k i' f, ¬ (k = 14 ∧ (i' = l ∨ i' = n) ∧ f = g) → z_I (z_uI (z_uI S 14 l g (z_I S 14 l g - π)) 14 n g (z_I S 14 n g + π)) k i' f = z_I S k i' f := fun k i' f h1 => by
    rw [z_I_u, if_neg (by omega), z_I_u, if_neg (by omega)]
  have el : z_I (z_uI (z_uI S 14 l g (z_I S 14 l g - π)) 14 n g (z_I S 14 n g + π)) 14 l g = z_I S 14 l g - π := by rw [z_I_u, if_neg (by omega), z_I_u, if_pos ⟨rfl, rfl, rfl⟩]
  have en : z_I (z_uI (z_uI S 14 l g (z_I S 14 l g - π)) 14 n g (z_I S 14 n g + π)) 14 n g = z_I S 14 n g + π := by rw [z_I_u, if_pos ⟨rfl, rfl, rfl⟩]
  have b1 : (z_I S 14 l g - π).toInt = (z_I S 14 l g).toInt + -π.toInt := by rw [i_sub (by omega) (by omega)]; omega
  have b2 : (z_I S 14 n g + π).toInt = (z_I S 14 n g).toInt + π.toInt := i_add (by omega) (by omega)
  have b3 : (x - π).toInt = x.toInt - π.toInt := i_sub (by omega) (by have := Int32.toInt_lt x; omega)
  have q1 := iHs_up (S' := z_uI (z_uI S 14 l g (z_I S 14 l g - π)) 14 n g (z_I S 14 n g + π)) (S := S) (l := l) h4 fun f h1 h2 => eo 14 l f (by omega)
  have q2 := iHs_up (S' := z_uI (z_uI S 14 l g (z_I S 14 l g - π)) 14 n g (z_I S 14 n g + π)) (S := S) (l := n) h4 fun f h1 h2 => eo 14 n f (by omega)
  rw [el] at q1
  rw [en] at q2
  refine ⟨rfl, ?_, ?_, by rw [b3]; omega, fun k i' f h1 => (eo k i' f (by omega)).trans (hf k i' f h1), ⟨by rw [q1, b1, b3]; omega, by rw [q2, b2, b3]; omega⟩, ?_, fun j hj => ?_⟩
  · have h1 := RM.uH (v := z_I S 14 l g - π) hr hl' h4
    exact RM.uH (v := z_I S 14 n g + π) h1 (l := n) hn' h4
  · by_cases hp : π = 0
    · have eS : z_uI (z_uI S 14 l g (z_I S 14 l g - π)) 14 n g (z_I S 14 n g + π) = S := by
        rw [hp, i_sub0, i_add0, zq_uId, zq_uId]
      rw [eS]; exact hv
    · have pp : π.toInt ≠ 0 := fun u => hp (i_z.mpr u)
      have hgG := hgG0 fun u => by rw [i_z] at u; omega
      have hh := hv.hle hG hgG hl'
      have hgu := hv.gu hgG
      have hd := hv.hd0 hG hgG
      have hB := hv.hB
      unfold iGu at hgu
      have b4 : (z_I S 1 g 1 - π).toInt = (z_I S 1 g 1).toInt + -π.toInt := by rw [i_sub (by omega) (by omega)]; omega
      have i1 : InvA B T (z_uI (z_uI S 14 l g (z_I S 14 l g - π)) 1 g 1 (z_I S 1 g 1 - π)) := by
        refine hv.money (g := g) (l := l) (δ := -π.toInt) (ε := 0) hG hgG hl' ?_ ?_ ?_ (by omega) (by omega) (by omega) (fun k i f u1 u2 => ?_)
        · rw [z_I_u, if_pos ⟨rfl, rfl, rfl⟩, b4]
        · rw [z_I_u, if_neg (by omega), z_I_u, if_neg (by omega)]; omega
        · rw [z_I_u, if_neg (by omega), z_I_u, if_pos ⟨rfl, rfl, rfl⟩, b1]
        · rw [z_I_u, if_neg (by omega), z_I_u, if_neg (by omega)]
      have d1 : z_I (z_uI (z_uI S 14 l g (z_I S 14 l g - π)) 1 g 1 (z_I S 1 g 1 - π)) 1 g 1 = z_I S 1 g 1 - π := by rw [z_I_u, if_pos ⟨rfl, rfl, rfl⟩]
      have d2 : z_I (z_uI (z_uI S 14 l g (z_I S 14 l g - π)) 1 g 1 (z_I S 1 g 1 - π)) 1 g 2 = z_I S 1 g 2 := by rw [z_I_u, if_neg (by omega), z_I_u, if_neg (by omega)]
      have d0 : z_I (z_uI (z_uI S 14 l g (z_I S 14 l g - π)) 1 g 1 (z_I S 1 g 1 - π)) 1 g 0 = z_I S 1 g 0 := by rw [z_I_u, if_neg (by omega), z_I_u, if_neg (by omega)]
      have d3 : z_I (z_uI (z_uI S 14 l g (z_I S 14 l g - π)) 1 g 1 (z_I S 1 g 1 - π)) 14 n g = z_I S 14 n g := by rw [z_I_u, if_neg (by omega), z_I_u, if_neg (by omega)]
      refine i1.money (g := g) (l := n) (δ := π.toInt) (ε := 0) hG hgG hn' ?_ ?_ ?_ (by rw [d3]; omega) (by rw [d2]; omega) (by rw [d1, d2, d0, b4]; omega) (fun k i f u1 u2 => ?_)
      · rw [eo 1 g 1 (by omega), d1, b4]; omega
      · rw [eo 1 g 2 (by omega), d2]; omega
      · rw [en, d3, b2]
      · have eR : z_I (z_uI (z_uI S 14 l g (z_I S 14 l g - π)) 1 g 1 (z_I S 1 g 1 - π)) k i f = z_I (z_uI S 14 l g (z_I S 14 l g - π)) k i f := by rw [z_I_u, if_neg (by omega)]
        rw [eR, z_I_u, if_neg (by omega)]
  · rcases hz with z | z
    · rw [i_z] at z
      exact .inl (i_z.mpr (by rw [b3]; omega))
    rcases p3 with u | u
    · exact .inl (i_z.mpr (by rw [b3]; omega))
    · refine .inr fun j hj hjp => ?_
      by_cases hjg : cLn S0 s j = g
      · rw [hjg, el]; exact i_z.mpr (by omega)
      · rw [eo 14 l _ (by omega)]
        rcases hjp with w | w
        · exact z j hj w
        · exact absurd (w ▸ hgg) hjg
  · show (z_I (z_uI (z_uI M 22 0 _ _) 22 0 _ _) 32 0 j).toNatClampNeg = _
    rw [zn_u32, zn_u32]; exact hg j hj
abbrev HD (l n s : Nat) (p : Int32 × zS) : Int32 × zS := cHandSt l n s 0 (cHandSt l n s 1 (cHandSt l n s 2 (cHandSt l n s 3 p)))
theorem sim_hd (h : RM S M) (hi : InvA B T S) (hl : l < cL S) (hn : n < cL S) (hln : l ≠ n) (hs : s < cS S) (ha : 0 ≤ a.toInt) (ha2 : a.toInt ≤ iHs S l) : (HD l n s (a, S)).1 = 0 ∧ RM (HD l n s (a, S)).2 (mReG l (some n) 4 (a, mLine M s)).2 ∧ InvA B T (HD l n s (a, S)).2 ∧ Fh l n S (HD l n s (a, S)).2 ∧ iHs (HD l n s (a, S)).2 l = iHs S l - a.toInt ∧ iHs (HD l n s (a, S)).2 n = iHs S n + a.toInt := by
  have i0 := SimR.i0 (l := l) h hi hs ha
  have d0 : SimD B T l n s S (iHs S l - a.toInt) (iHs S n + a.toInt) (fun _ => False) a S a (mLine M s) := ⟨rfl, i0.2.1, hi, ha, fun _ _ _ _ => rfl, ⟨rfl, rfl⟩, .inr fun _ _ u => u.elim, i0.2.2.2.2.2.2.2⟩
  have h4 := (((d0.st hl hn hln hs (i := 3) (by omega)).st hl hn hln hs (i := 2) (by omega)).st hl hn hln hs (i := 1) (by omega)).st hl hn hln hs (i := 0) (by omega)
  obtain ⟨-, r1, r2, hx, r3, ⟨r4, r5⟩, r6, -⟩ := h4
  have e0 : (HD l n s (a, S)).1 = 0 := by
    rcases r6 with u | u
    · exact u
    · have ho := h.or hs
      have all : ∀ g, g < 4 → z_I (HD l n s (a, S)).2 14 l g = 0 := fun g hg => by
        obtain ⟨j, hj, e⟩ := ho.sur hg
        rw [← e]; exact u j hj (by omega)
      have e : iHs (HD l n s (a, S)).2 l = 0 := by
        unfold iHs
        rw [all 0 (by omega), all 1 (by omega), all 2 (by omega), all 3 (by omega)]; rfl
      have r4' : iHs (HD l n s (a, S)).2 l - (HD l n s (a, S)).1.toInt = iHs S l - a.toInt := r4
      have hx' : 0 ≤ (HD l n s (a, S)).1.toInt := hx
      exact i_z.mpr (by omega)
  have r4' : iHs (HD l n s (a, S)).2 l - (HD l n s (a, S)).1.toInt = iHs S l - a.toInt := r4
  have r5' : iHs (HD l n s (a, S)).2 n + (HD l n s (a, S)).1.toInt = iHs S n + a.toInt := r5
  rw [e0] at r4' r5'
  have z0 : (0 : Int32).toInt = 0 := rfl
  exact ⟨e0, r1, r2, r3, by omega, by omega⟩
end Re29
