/-! ===== CLASS AND MODEL: release, due ===== -/
section Re9
variable {d i k g s l t q n p T j : Nat} {v w a b c e f x y z : Int32} {S S' S0 M : zS} {B c0 : Int} {P : Nat → Prop}
theorem z_uI_cm {k' i' f f' : Nat} (h : k ≠ k') : z_uI (z_uI S k i f a) k' i' f' b = z_uI (z_uI S k' i' f' b) k i f a := by
  refine Prod.ext (funext fun k1 => funext fun i1 => funext fun f1 => ?_) rfl
  show (if k1 = k' ∧ i1 = i' ∧ f1 = f' then b else if k1 = k ∧ i1 = i ∧ f1 = f then a else S.1 k1 i1 f1) = (if k1 = k ∧ i1 = i ∧ f1 = f then a else if k1 = k' ∧ i1 = i' ∧ f1 = f' then b else S.1 k1 i1 f1)
  by_cases u : k1 = k' ∧ i1 = i' ∧ f1 = f'
  · rw [if_pos u, if_neg fun w => h (w.1.symm.trans u.1), if_pos u]
  · rw [if_neg u, if_neg u]
theorem z_uId' {f : Nat} (h : v = z_I S k i f) : z_uI S k i f v = S := by rw [h, zq_uId]
theorem z_uJd' {f : Nat} {o : Int64} (h : o = z_J S k i f) : z_uJ S k i f o = S := by rw [h, zq_uJd]
theorem i_sub0 : x - 0 = x := Int32.sub_zero x
theorem i_add0 : x + 0 = x := Int32.add_zero x
theorem i_64 {o : Int64} : o + (0 : Int32).toInt64 = o := Int64.add_zero o
-- only money of a load has changed
def Fm (l : Nat) (S S' : zS) : Prop := ∀ k i f, ¬ (k = 1 ∧ (f = 1 ∨ f = 2)) → ¬ (k = 14 ∧ i = l) → z_I S' k i f = z_I S k i f
theorem Fm.rf : Fm l S S := fun _ _ _ _ _ => rfl
theorem Fm.tr {S2 : zS} (h : Fm l S S') (g : Fm l S' S2) : Fm l S S2 := fun k i f a b => (g k i f a b).trans (h k i f a b)
theorem Fm.G (h : Fm l S S') : cG S' = cG S := congrArg Int32.toNatClampNeg (h 0 0 3 (by omega) (by omega))
theorem Fm.N (h : Fm l S S') : cS S' = cS S := congrArg Int32.toNatClampNeg (h 0 0 4 (by omega) (by omega))
theorem Fm.L (h : Fm l S S') : cL S' = cL S := congrArg Int32.toNatClampNeg (h 0 0 5 (by omega) (by omega))
theorem Fm.ln (h : Fm l S S') : cLn S' s i = cLn S s i := congrArg Int32.toNatClampNeg (h 16 s i (by omega) (by omega))
theorem Fm.ord (h : Fm l S S') : cOrd S' s = cOrd S s := congrArg Int32.toNatClampNeg (h 4 s 2 (by omega) (by omega))
def SimR (B : Int) (T l s : Nat) (S0 : zS) (c0 : Int) (P : Nat → Prop) (x : Int32) (S : zS) (y : Int32) (M : zS) : Prop :=
  x = y ∧ RM S M ∧ InvA B T S ∧ 0 ≤ x.toInt ∧ Fm l S0 S ∧ iHs S l - x.toInt = c0 ∧ (x = 0 ∨ ∀ j, j < 4 → P j → z_I S 14 l (cLn S0 s j) = 0) ∧ ∀ j, j < 4 → mG M j = cLn S0 s j
theorem i_cmP (hx : 0 ≤ x.toInt) (hy : 0 ≤ y.toInt) : 0 ≤ (cMin x y).toInt ∧ (cMin x y).toInt ≤ x.toInt ∧ (cMin x y).toInt ≤ y.toInt ∧ ((cMin x y).toInt = x.toInt ∨ (cMin x y).toInt = y.toInt) := by
  rw [i_cm]
  by_cases u : y.toInt < x.toInt
  · rw [if_pos u]; omega
  · rw [if_neg u]; omega
theorem i_z : x = 0 ↔ x.toInt = 0 := i_eq (b := 0)
theorem iHs_up (hg : g < 4) (e : ∀ f, f < 4 → f ≠ g → z_I S' 14 l f = z_I S 14 l f) : iHs S' l = iHs S l + ((z_I S' 14 l g).toInt - (z_I S 14 l g).toInt) := by
  unfold iHs
  have : g = 0 ∨ g = 1 ∨ g = 2 ∨ g = 3 := by omega
  rcases this with rfl | rfl | rfl | rfl
  · rw [e 1 (by omega) (by omega), e 2 (by omega) (by omega), e 3 (by omega) (by omega)]; omega
  · rw [e 0 (by omega) (by omega), e 2 (by omega) (by omega), e 3 (by omega) (by omega)]; omega
  · rw [e 0 (by omega) (by omega), e 1 (by omega) (by omega), e 3 (by omega) (by omega)]; omega
  · rw [e 0 (by omega) (by omega), e 1 (by omega) (by omega), e 2 (by omega) (by omega)]; omega
theorem SimR.pre (h : SimR B T l s S0 c0 P x S y M) (hl : l < cL S0) (hs : s < cS S0) (hi : i < 4) :
    l < cL S ∧ cG S ≤ 4 ∧ cLn S s i = cLn S0 s i ∧ cLn S0 s i < 4 ∧ mG M i = cLn S0 s i ∧ z_I M 22 0 (211 + 17 * l + 13 + cLn S0 s i) = z_I S 14 l (cLn S0 s i) ∧
    (0 ≤ (z_I S 14 l (cLn S0 s i)).toInt ∧ (z_I S 14 l (cLn S0 s i)).toInt ≤ 19999998) ∧ (z_I S 14 l (cLn S0 s i) ≠ 0 → cLn S0 s i < cG S) := by
  obtain ⟨e, hr, hv, hx, hf, hc, hz, hg⟩ := h
  have hl' : l < cL S := by rw [hf.L]; exact hl
  have hs' : s < cS S := by rw [hf.N]; exact hs
  have e1 : cLn S s i = cLn S0 s i := hf.ln
  have h4 : cLn S0 s i < 4 := by rw [← e1]; exact ((hr.or hs').at hi).1
  refine ⟨hl', hr.G4, e1, h4, hg i hi, RM.lh hr hl' h4, hv.hB0 hr.G4 h4 hl', fun u => ?_⟩
  exact Nat.lt_of_not_le fun z => u ((hv.ho hl' _ h4).2 z)
theorem SimR.rel (h : SimR B T l s S0 c0 P x S y M) (hl : l < cL S0) (hs : s < cS S0) (hi : i < 4) :
    SimR B T l s S0 c0 (fun j => P j ∨ j = i) (cRelSt l s i (x, S)).1 (cRelSt l s i (x, S)).2 (mReS l none i (y, M)).1 (mReS l none i (y, M)).2 := by
  obtain ⟨hl', hG, e1, h4, hm, hM, hb, hn⟩ := h.pre hl hs hi
  obtain ⟨rfl, hr, hv, hx, hf, hc, hz, hg⟩ := h
  have eC : cRelSt l s i (x, S) = (x - cMin x (z_I S 14 l (cLn S0 s i)), z_uI (z_uI S 1 (cLn S0 s i) 1 (z_I S 1 (cLn S0 s i) 1 - cMin x (z_I S 14 l (cLn S0 s i)))) 14 l (cLn S0 s i) (z_I S 14 l (cLn S0 s i) - cMin x (z_I S 14 l (cLn S0 s i)))) := by
    unfold cRelSt; rw [e1]
  have eM : mReS l none i (x, M) = (x - cMin x (z_I S 14 l (cLn S0 s i)), z_uI (z_uI M 22 0 (211 + 17 * l + 13 + cLn S0 s i) (z_I S 14 l (cLn S0 s i) - cMin x (z_I S 14 l (cLn S0 s i)))) 22 0 (6 + 3 * cLn S0 s i + 1) (z_I M 22 0 (6 + 3 * cLn S0 s i + 1) - cMin x (z_I S 14 l (cLn S0 s i)))) := by
    unfold mReS mTak mIts
    show (_, z_uI _ 22 0 _ (z_I _ 22 0 _ - _)) = _
    rw [hm, hM, mMin_c, zn_un (by omega)]
  rw [eC, eM]
  show SimR B T l s S0 c0 _ _ _ _ _
  generalize hgg : cLn S0 s i = g at *
  generalize hpp : cMin x (z_I S 14 l g) = π at *
  obtain ⟨p0, p1, p2, p3⟩ := i_cmP hx hb.1
  rw [hpp] at p0 p1 p2 p3
  by_cases hp : π = 0
  · subst hp
    have eS : z_uI (z_uI S 1 g 1 (z_I S 1 g 1 - 0)) 14 l g (z_I S 14 l g - 0) = S := by
      rw [i_sub0, i_sub0, zq_uId, zq_uId]
    have eM' : z_uI (z_uI M 22 0 (211 + 17 * l + 13 + g) (z_I S 14 l g - 0)) 22 0 (6 + 3 * g + 1) (z_I M 22 0 (6 + 3 * g + 1) - 0) = M := by
      rw [i_sub0, i_sub0, ← hM, zq_uId, zq_uId]
    rw [eS, eM', i_sub0]
    refine ⟨rfl, hr, hv, hx, hf, hc, ?_, hg⟩
    rcases p3 with u | u
    · exact .inl (i_z.mpr (by rw [← u]; rfl))
    · rcases hz with z | z
      · exact .inl z
      · refine .inr fun j hj hjp => ?_
        rcases hjp with w | w
        · exact z j hj w
        · rw [w, hgg]; exact i_z.mpr (by rw [← u]; rfl)
  · have pp : 0 < π.toInt := by
      have : π.toInt ≠ 0 := fun u => hp (i_z.mpr u)
      omega
    have hne : z_I S 14 l g ≠ 0 := fun u => by rw [i_z] at u; omega
    have hgG := hn hne
    have hh := hv.hle hG hgG hl'
    have hgu := hv.gu hgG
    have hd := hv.hd0 hG hgG
    have hB := hv.hB
    unfold iGu at hgu
    have b1 : (z_I S 14 l g - π).toInt = (z_I S 14 l g).toInt + -π.toInt := by rw [i_sub (by omega) (by omega)]; omega
    have b2 : (z_I S 1 g 1 - π).toInt = (z_I S 1 g 1).toInt + -π.toInt := by rw [i_sub (by omega) (by omega)]; omega
    have b3 : (x - π).toInt = x.toInt - π.toInt := i_sub (by omega) (by have := Int32.toInt_lt x; omega)
    have eo : ∀ k i' f, ¬ (k = 1 ∧ i' = g ∧ f = 1) → ¬ (k = 14 ∧ i' = l ∧ f = g) → z_I (z_uI (z_uI S 1 g 1 (z_I S 1 g 1 - π)) 14 l g (z_I S 14 l g - π)) k i' f = z_I S k i' f := fun k i' f h1 h2 => by
      rw [z_I_u, if_neg h2, z_I_u, if_neg h1]
    have e14 : z_I (z_uI (z_uI S 1 g 1 (z_I S 1 g 1 - π)) 14 l g (z_I S 14 l g - π)) 14 l g = z_I S 14 l g - π := by rw [z_I_u, if_pos ⟨rfl, rfl, rfl⟩]
    have e11 : z_I (z_uI (z_uI S 1 g 1 (z_I S 1 g 1 - π)) 14 l g (z_I S 14 l g - π)) 1 g 1 = z_I S 1 g 1 - π := by rw [z_I_u, if_neg (by omega), z_I_u, if_pos ⟨rfl, rfl, rfl⟩]
    have hL := hr.L40
    refine ⟨rfl, ?_, ?_, by rw [b3]; omega, fun k i' f h1 h2 => (eo k i' f (by omega) (by omega)).trans (hf k i' f h1 h2), ?_, ?_, fun j hj => ?_⟩
    · rw [z_uI_cm (by omega)]
      have h1 : RM (z_uI S 14 l g (z_I S 14 l g - π)) (z_uI M 22 0 (211 + 17 * l + 13 + g) (z_I S 14 l g - π)) := RM.up hr (by unfold rP; omega) (by omega) (by omega) (by omega) (by omega)
      have h2 := RM.up (v := z_I S 1 g 1 - π) h1 (k := 1) (i := g) (q := 1) (j := 6 + 3 * g + 1) (by unfold rP; omega) (by omega) (by omega) (fun _ u => by rw [show cG (z_uI S 14 l g (z_I S 14 l g - π)) = cG S from rfl] at u; omega) (by omega)
      rw [RM.gu (q := 1) hr hgG (by omega)]
      exact h2
    · exact hv.money hG hgG hl' (δ := -π.toInt) (ε := 0) (by rw [e11]; exact b2) (by rw [eo 1 g 2 (by omega) (by omega)]; omega) (by rw [e14]; exact b1) (by omega) (by omega) (by omega) fun k i' f h1 h2 => eo k i' f (by omega) (by omega)
    · rw [iHs_up (S' := z_uI (z_uI S 1 g 1 (z_I S 1 g 1 - π)) 14 l g (z_I S 14 l g - π)) (S := S) h4 fun f h1 h2 => eo 14 l f (by omega) (by omega), e14, b1, b3]; omega
    · rcases p3 with u | u
      · exact .inl (i_z.mpr (by show (x - π).toInt = 0; omega))
      · refine .inr fun j hj hjp => ?_
        by_cases hjg : cLn S0 s j = g
        · rw [hjg, e14]; exact i_z.mpr (by omega)
        · rw [eo 14 l _ (by omega) (by omega)]
          rcases hz with z | z
          · rw [i_z] at z; omega
          · rcases hjp with w | w
            · exact z j hj w
            · exact absurd (w ▸ hgg) hjg
    · show (z_I (z_uI (z_uI M 22 0 _ _) 22 0 _ _) 32 0 j).toNatClampNeg = _
      rw [zn_u32, zn_u32]; exact hg j hj
theorem SimR.du (h : SimR B T l s S0 c0 P x S y M) (hl : l < cL S0) (hs : s < cS S0) (hi : i < 4) :
    SimR B T l s S0 c0 (fun j => P j ∨ j = i) (cDueSt l s i (x, S)).1 (cDueSt l s i (x, S)).2 (mDuS l i (y, M)).1 (mDuS l i (y, M)).2 := by
  obtain ⟨hl', hG, e1, h4, hm, hM, hb, hn⟩ := h.pre hl hs hi
  obtain ⟨rfl, hr, hv, hx, hf, hc, hz, hg⟩ := h
  have eC : cDueSt l s i (x, S) = (x - cMin x (z_I S 14 l (cLn S0 s i)), cAddDue (z_uI (z_uI S 1 (cLn S0 s i) 1 (z_I S 1 (cLn S0 s i) 1 - cMin x (z_I S 14 l (cLn S0 s i)))) 14 l (cLn S0 s i) (z_I S 14 l (cLn S0 s i) - cMin x (z_I S 14 l (cLn S0 s i)))) (cLn S0 s i) (cMin x (z_I S 14 l (cLn S0 s i)))) := by
    unfold cDueSt; rw [e1]
  have eM : mDuS l i (x, M) = (x - cMin x (z_I S 14 l (cLn S0 s i)), mOwes (z_uI (z_uI M 22 0 (211 + 17 * l + 13 + cLn S0 s i) (z_I S 14 l (cLn S0 s i) - cMin x (z_I S 14 l (cLn S0 s i)))) 22 0 (6 + 3 * cLn S0 s i + 1) (z_I M 22 0 (6 + 3 * cLn S0 s i + 1) - cMin x (z_I S 14 l (cLn S0 s i)))) (cLn S0 s i) (cMin x (z_I S 14 l (cLn S0 s i)))) := by
    unfold mDuS mTak mIts
    show (_, mOwes (z_uI _ 22 0 _ (z_I _ 22 0 _ - _)) _ _) = _
    rw [hm, hM, mMin_c, zn_un (by omega)]
  rw [eC, eM]
  show SimR B T l s S0 c0 _ _ _ _ _
  generalize hgg : cLn S0 s i = g at *
  generalize hpp : cMin x (z_I S 14 l g) = π at *
  obtain ⟨p0, p1, p2, p3⟩ := i_cmP hx hb.1
  rw [hpp] at p0 p1 p2 p3
  by_cases hp : π = 0
  · subst hp
    have eS : cAddDue (z_uI (z_uI S 1 g 1 (z_I S 1 g 1 - 0)) 14 l g (z_I S 14 l g - 0)) g 0 = S := by
      rw [i_sub0, i_sub0, zq_uId, zq_uId]
      unfold cAddDue
      rw [i_add0, i_64, zq_uId, zq_uJd]
    have eM' : mOwes (z_uI (z_uI M 22 0 (211 + 17 * l + 13 + g) (z_I S 14 l g - 0)) 22 0 (6 + 3 * g + 1) (z_I M 22 0 (6 + 3 * g + 1) - 0)) g 0 = M := by
      rw [i_sub0, i_sub0, ← hM, zq_uId, zq_uId]
      unfold mOwes
      rw [i_add0, i_64, zq_uId, zq_uJd]
    rw [eS, eM', i_sub0]
    refine ⟨rfl, hr, hv, hx, hf, hc, ?_, hg⟩
    rcases p3 with u | u
    · exact .inl (i_z.mpr (by rw [← u]; rfl))
    · rcases hz with z | z
      · exact .inl z
      · refine .inr fun j hj hjp => ?_
        rcases hjp with w | w
        · exact z j hj w
        · rw [w, hgg]; exact i_z.mpr (by rw [← u]; rfl)
  · have pp : 0 < π.toInt := by
      have : π.toInt ≠ 0 := fun u => hp (i_z.mpr u)
      omega
    have hne : z_I S 14 l g ≠ 0 := fun u => by rw [i_z] at u; omega
    have hgG := hn hne
    have hh := hv.hle hG hgG hl'
    have hgu := hv.gu hgG
    have hd := hv.hd0 hG hgG
    have hB := hv.hB
    unfold iGu at hgu
    have b1 : (z_I S 14 l g - π).toInt = (z_I S 14 l g).toInt + -π.toInt := by rw [i_sub (by omega) (by omega)]; omega
    have b2 : (z_I S 1 g 1 - π).toInt = (z_I S 1 g 1).toInt + -π.toInt := by rw [i_sub (by omega) (by omega)]; omega
    have b4 : (z_I S 1 g 2 + π).toInt = (z_I S 1 g 2).toInt + π.toInt := i_add (by omega) (by omega)
    have b3 : (x - π).toInt = x.toInt - π.toInt := i_sub (by omega) (by have := Int32.toInt_lt x; omega)
    generalize hS1 : z_uI (z_uI S 1 g 1 (z_I S 1 g 1 - π)) 14 l g (z_I S 14 l g - π) = S1
    have eo : ∀ k i' f, ¬ (k = 1 ∧ i' = g ∧ f = 1) → ¬ (k = 14 ∧ i' = l ∧ f = g) → z_I S1 k i' f = z_I S k i' f := fun k i' f h1 h2 => by
      rw [← hS1, z_I_u, if_neg h2, z_I_u, if_neg h1]
    have e14 : z_I S1 14 l g = z_I S 14 l g - π := by rw [← hS1, z_I_u, if_pos ⟨rfl, rfl, rfl⟩]
    have e11 : z_I S1 1 g 1 = z_I S 1 g 1 - π := by rw [← hS1, z_I_u, if_neg (by omega), z_I_u, if_pos ⟨rfl, rfl, rfl⟩]
    have fo : ∀ k i' f, ¬ (k = 1 ∧ i' = g ∧ f = 2) → z_I (cAddDue S1 g π) k i' f = z_I S1 k i' f := fun k i' f h1 => by
      unfold cAddDue; rw [z_I_uJ, z_I_u, if_neg h1]
    have f12 : z_I (cAddDue S1 g π) 1 g 2 = z_I S 1 g 2 + π := by
      unfold cAddDue; rw [z_I_uJ, z_I_u, if_pos ⟨rfl, rfl, rfl⟩, eo 1 g 2 (by omega) (by omega)]
    have hL := hr.L40
    refine ⟨rfl, ?_, ?_, by rw [b3]; omega, fun k i' f h1 h2 => (fo k i' f (by omega)).trans ((eo k i' f (by omega) (by omega)).trans (hf k i' f h1 h2)), ?_, ?_, fun j hj => ?_⟩
    · have h1 : RM (z_uI S 14 l g (z_I S 14 l g - π)) (z_uI M 22 0 (211 + 17 * l + 13 + g) (z_I S 14 l g - π)) := RM.up hr (by unfold rP; omega) (by omega) (by omega) (by omega) (by omega)
      have h2 := RM.up (v := z_I S 1 g 1 - π) h1 (k := 1) (i := g) (q := 1) (j := 6 + 3 * g + 1) (by unfold rP; omega) (by omega) (by omega) (fun _ u => by rw [show cG (z_uI S 14 l g (z_I S 14 l g - π)) = cG S from rfl] at u; omega) (by omega)
      rw [z_uI_cm (by omega), hS1] at h2
      have hG1 : cG S1 = cG S := congrArg Int32.toNatClampNeg (eo 0 0 3 (by omega) (by omega))
      have hN1 : cS S1 = cS S := congrArg Int32.toNatClampNeg (eo 0 0 4 (by omega) (by omega))
      rw [RM.gu (q := 1) hr hgG (by omega)]
      generalize hM1 : z_uI (z_uI M 22 0 (211 + 17 * l + 13 + g) (z_I S 14 l g - π)) 22 0 (6 + 3 * g + 1) (z_I S 1 g 1 - π) = M1 at h2 ⊢
      have h3 := RM.up (v := z_I S1 1 g 2 + π) h2 (k := 1) (i := g) (q := 2) (j := 6 + 3 * g + 2) (by unfold rP; omega) (by omega) (by omega) (fun _ u => by omega) (by omega)
      have h4' := RM.upJ (o := z_J S1 1 g 3 + π.toInt64) h3 (k := 1) (i := g) (q := 3) (j := 2 * g) (by unfold rPJ; omega) (fun _ u => by rw [show cG (z_uI S1 1 g 2 (z_I S1 1 g 2 + π)) = cG S1 from rfl] at u; omega)
      unfold mOwes cAddDue
      rw [RM.gu (q := 2) h2 (by omega) (by omega), show z_J M1 23 0 (2 * g) = z_J S1 1 g 3 from h2.ej 1 g 3 _ (by unfold rPJ; omega) (by omega) (by omega)]
      exact h4'
    · exact hv.money hG hgG hl' (δ := -π.toInt) (ε := π.toInt) (by rw [fo 1 g 1 (by omega), e11]; exact b2) (by rw [f12]; exact b4) (by rw [fo 14 l g (by omega), e14]; exact b1) (by omega) (by omega) (by omega) fun k i' f h1 h2 => (fo k i' f (by omega)).trans (eo k i' f (by omega) (by omega))
    · rw [iHs_up (S' := cAddDue S1 g π) (S := S) h4 fun f h1 h2 => (fo 14 l f (by omega)).trans (eo 14 l f (by omega) (by omega)), fo 14 l g (by omega), e14, b1, b3]; omega
    · rcases p3 with u | u
      · exact .inl (i_z.mpr (by show (x - π).toInt = 0; omega))
      · refine .inr fun j hj hjp => ?_
        by_cases hjg : cLn S0 s j = g
        · rw [hjg, fo 14 l g (by omega), e14]; exact i_z.mpr (by omega)
        · rw [fo 14 l _ (by omega), eo 14 l _ (by omega) (by omega)]
          rcases hz with z | z
          · rw [i_z] at z; omega
          · rcases hjp with w | w
            · exact z j hj w
            · exact absurd (w ▸ hgg) hjg
    · show (z_I (mOwes (z_uI (z_uI M 22 0 _ _) 22 0 _ _) g π) 32 0 j).toNatClampNeg = _
      unfold mOwes
      rw [z_I_uJ, zn_u32, zn_u32, zn_u32]; exact hg j hj
end Re9
