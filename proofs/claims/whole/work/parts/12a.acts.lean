/-! ===== CLASS AND MODEL: acts ===== -/
section Re21
variable {d i k g s l l' t q n p T j : Nat} {v w a b c e f x y z : Int32} {S S' M N : zS} {B : Int}
theorem mSf2_J {k i f : Nat} (h : k ≠ 25) : ∀ (n j : Nat) (N : zS), z_J (mSf2 n j N) k i f = z_J N k i f
  | 0, _, _ => rfl
  | n + 1, j, N => by
    show z_J (mSf2 n (j + 1) (z_uJ N 25 0 j (z_J N 25 0 (j + 88)))) k i f = _
    rw [mSf2_J h n, z_J_u, if_neg fun u => h u.1]
theorem mSf1_J {k i f : Nat} : ∀ (n j : Nat) (N : zS), z_J (mSf1 n j N) k i f = z_J N k i f
  | 0, _, _ => rfl
  | n + 1, j, N => by
    show z_J (mSf1 n (j + 1) (z_uI N 24 0 j (z_I N 24 0 (j + 891)))) k i f = _
    rw [mSf1_J n]; rfl
theorem mSf3_J {k i f : Nat} : ∀ (n j : Nat) (N : zS), z_J (mSf3 n j N) k i f = z_J N k i f
  | 0, _, _ => rfl
  | n + 1, j, N => by
    show z_J (mSf3 n (j + 1) (z_uI N 26 0 j (z_I N 26 0 (j + 1)))) k i f = _
    rw [mSf3_J n]; rfl
theorem mShift_J {k i f : Nat} (h : k ≠ 25) : z_J (mShift M) k i f = z_J M k i f := by
  unfold mShift
  rw [mSf3_J, mSf2_J h, mSf1_J]
theorem mRem_J {k i f : Nat} (h : k ≠ 25) : z_J (mRem M v) k i f = z_J M k i f := by
  unfold mRem
  rw [z_J_uI]
  unfold mRem1
  rw [z_J_uI, mLay_J h]
  unfold mRem0
  by_cases u : z_I M 6 0 8 = 8
  · rw [if_pos u, z_J_uI, mShift_J h]
  · rw [if_neg u]
theorem mRT_r : z_I (mRem (mTh M) v) 22 0 j = z_I M 22 0 j := mRem_r.trans mTh_r
theorem mRT_J : z_J (mRem (mTh M) v) 23 0 j = z_J M 23 0 j := (mRem_J (by decide)).trans (z_J_uI ..)
theorem Ok.mo (h : Ok B T S M) (hr : ∀ j, j < 891 → z_I N 22 0 j = z_I M 22 0 j) (hs : ∀ j, j < 88 → z_J N 23 0 j = z_J M 23 0 j) : Ok B T S N := ⟨RM.mo h.r hr hs, h.ia, h.nd⟩
theorem Ok.rt (h : Ok B T S M) : Ok B T S (mRem (mTh M) v) := h.mo (fun _ _ => mRT_r) (fun _ _ => mRT_J)
theorem iNd.co (h : iNd S l) (h3 : ∀ q, q < 9 → z_I S' 3 l q = z_I S 3 l q) (h14 : ∀ g, g < 4 → z_I S' 14 l g = z_I S 14 l g) (hg : ∀ k x y, cGr S' k x y = cGr S k x y) : iNd S' l := by
  refine ⟨fun u => ?_, fun u g hg => ?_⟩
  · rw [h3 0 (by omega)] at u
    rw [iHs_co h14, h.1 u]
    unfold cNeed cRest cLatest cKd
    rw [h3 0 (by omega), h3 3 (by omega), h3 4 (by omega), h3 5 (by omega), h3 7 (by omega), h3 8 (by omega), if_neg (by rw [u]; decide), if_pos u, if_neg (by rw [u]; decide), if_pos u, hg]
  · rw [h3 0 (by omega)] at u
    rw [h14 g hg]; exact h.2 u g hg
theorem InvN.co (h : InvN S) (hL : cL S' = cL S) (h3 : ∀ l q, l < cL S → q < 9 → z_I S' 3 l q = z_I S 3 l q) (h14 : ∀ l g, l < cL S → g < 4 → z_I S' 14 l g = z_I S 14 l g) (hg : ∀ k x y, cGr S' k x y = cGr S k x y) : InvN S' := fun l hl => by
  rw [hL] at hl
  exact (h l hl).co (fun q hq => h3 l q hl hq) (fun g hg => h14 l g hl hg) hg
-- guarantor
theorem aGuar_I {f : Nat} : z_I (aGuar S v) k i f = if k = 0 ∧ i = 0 ∧ f = 3 then z_I S 0 0 3 + 1 else if k = 1 ∧ i = cG S ∧ f = 2 then 0 else if k = 1 ∧ i = cG S ∧ f = 1 then 0 else if k = 1 ∧ i = cG S ∧ f = 0 then v else z_I S k i f := rfl
theorem aGuar_J {f : Nat} : z_J (aGuar S v) k i f = if k = 1 ∧ i = cG S ∧ f = 4 then 0 else if k = 1 ∧ i = cG S ∧ f = 3 then 0 else z_J S k i f := rfl
theorem aGuar_o {f : Nat} (h0 : ¬ (k = 0 ∧ i = 0 ∧ f = 3)) (h1 : ¬ (k = 1 ∧ i = cG S)) : z_I (aGuar S v) k i f = z_I S k i f := by
  rw [aGuar_I, if_neg h0, if_neg (by omega), if_neg (by omega), if_neg (by omega)]
theorem aGuar_0 : z_I (aGuar S v) 1 (cG S) 0 = v := by rw [aGuar_I, if_neg (by omega), if_neg (by omega), if_neg (by omega), if_pos ⟨rfl, rfl, rfl⟩]
theorem aGuar_1 : z_I (aGuar S v) 1 (cG S) 1 = 0 := by rw [aGuar_I, if_neg (by omega), if_neg (by omega), if_pos ⟨rfl, rfl, rfl⟩]
theorem aGuar_2 : z_I (aGuar S v) 1 (cG S) 2 = 0 := by rw [aGuar_I, if_neg (by omega), if_pos ⟨rfl, rfl, rfl⟩]
theorem sim_guar (h : Ok B T S M) (hG : cG S < 4) (hv : 0 ≤ v.toInt ∧ v.toInt ≤ B) : Ok B T (aGuar S v) (mGu2 M v) := by
  have hN := h.rt (v := 0)
  have hr := hN.r
  have hz := hr.ze
  have z1 := z_nn1 (a := z_I S 0 0 3) hr.cn.1 (by omega)
  have eg : (z_I M 22 0 1).toNatClampNeg = cG S := congrArg Int32.toNatClampNeg (RM.nG h.r)
  have eM : mGu2 M v = z_uI (z_uI (mRem (mTh M) 0) 22 0 (6 + 3 * cG S) v) 22 0 1 (z_I S 0 0 3 + 1) := by
    unfold mGu2 mGu1; rw [eg, RM.nG h.r]
  rw [eM]
  generalize mRem (mTh M) 0 = N at *
  have e3 : z_I (aGuar S v) 0 0 3 = z_I S 0 0 3 + 1 := by rw [aGuar_I, if_pos ⟨rfl, rfl, rfl⟩]
  have c0 : ∀ q, q ≠ 3 → z_I (aGuar S v) 0 0 q = z_I S 0 0 q := fun q hq => aGuar_o (by omega) (by omega)
  have eG : cG (aGuar S v) = cG S + 1 := by show (z_I (aGuar S v) 0 0 3).toNatClampNeg = _; rw [e3]; exact z1.1
  have eN : cS (aGuar S v) = cS S := congrArg Int32.toNatClampNeg (c0 4 (by omega))
  have eL : cL (aGuar S v) = cL S := congrArg Int32.toNatClampNeg (c0 5 (by omega))
  have hS6 := hr.S6
  have hL := hr.L40
  have rN : ∀ j, rR (z_uI (z_uI N 22 0 (6 + 3 * cG S) v) 22 0 1 (z_I S 0 0 3 + 1)) j = if j = 1 then z_I S 0 0 3 + 1 else if j = 6 + 3 * cG S then v else rR N j := fun j => by rw [rR_u, rR_u]
  have sN : ∀ j, rRJ (z_uI (z_uI N 22 0 (6 + 3 * cG S) v) 22 0 1 (z_I S 0 0 3 + 1)) j = rRJ N j := fun j => rfl
  have hgr : ∀ k x y, cGr (aGuar S v) k x y = cGr S k x y := fun k x y => cGr_co (aGuar_o (by omega) (by omega)) (fun i => aGuar_o (by omega) (by omega)) (fun i => aGuar_o (by omega) (by omega))
  refine ⟨⟨?_, ?_, ?_, ?_, ?_, ?_, ?_⟩, ?_, ?_⟩
  · unfold cCnts
    rw [e3, c0 4 (by omega), c0 5 (by omega)]
    refine ⟨⟨z1.2.1.1, by rw [z1.1]; show cG S + 1 ≤ 4; omega⟩, hr.cn.2⟩
  · rw [eG, eN, eL]
    intro k' i' f' j' hp hl
    have hP := hp
    unfold rP at hp
    unfold rLv at hl
    rw [rN]
    by_cases u1 : k' = 0 ∧ i' = 0 ∧ f' = 3
    · obtain ⟨rfl, rfl, rfl⟩ := u1
      rw [e3, if_pos (by omega)]
    · by_cases u2 : k' = 1 ∧ i' = cG S
      · obtain ⟨rfl, rfl⟩ := u2
        have zz := (hz.1 (cG S) (Nat.le_refl _) hG).1
        clear hl
        have hf : f' = 0 ∨ f' = 1 ∨ f' = 2 := by omega
        rcases hf with rfl | rfl | rfl
        · rw [aGuar_0, if_neg (by omega), if_pos (by omega)]
        · rw [aGuar_1, if_neg (by omega), if_neg (by omega), show j' = 6 + 3 * cG S + 1 by omega]; exact zz 1 (by omega)
        · rw [aGuar_2, if_neg (by omega), if_neg (by omega), show j' = 6 + 3 * cG S + 2 by omega]; exact zz 2 (by omega)
      · obtain ⟨l1, l2⟩ := hl
        have l1' : k' = 1 → i' < cG S := fun hk => by have := l1 hk; clear l1 l2 hp hP; omega
        clear l1
        rw [aGuar_o u1 u2, if_neg (by clear l2 l1'; omega), if_neg (by clear l2; omega)]
        exact hr.eq k' i' f' j' hP ⟨l1', l2⟩
  · rw [eG, eL]
    intro k' i' f' j' hp h1 h2
    have hP := hp
    unfold rPJ at hp
    rw [sN]
    by_cases u2 : k' = 1 ∧ i' = cG S
    · obtain ⟨rfl, rfl⟩ := u2
      have zz := (hz.1 (cG S) (Nat.le_refl _) hG).2
      rw [aGuar_J]
      by_cases f4 : f' = 4
      · rw [if_pos ⟨rfl, rfl, f4⟩, show j' = 2 * cG S + 1 by omega]; exact zz.2
      · rw [if_neg (by omega), if_pos ⟨rfl, rfl, by omega⟩, show j' = 2 * cG S by omega]; exact zz.1
    · rw [aGuar_J, if_neg (by omega), if_neg (by omega)]
      exact hr.ej k' i' f' j' hP (fun hk1 => by have := h1 hk1; omega) h2
  · intro k' hk'
    have e2 : z_I (aGuar S v) 2 k' 2 = z_I S 2 k' 2 := aGuar_o (by omega) (by omega)
    exact ⟨(hr.rt hk').co (hr.t13 hk') e2 (fun i => aGuar_o (by omega) (by omega)) (fun i => aGuar_o (by omega) (by omega)) (by rw [rN, if_neg (by omega), if_neg (by omega)]) (fun o h1 h2 => by rw [rN, if_neg (by omega), if_neg (by omega)]), by rw [cTold.co e2]; exact hr.t13 hk'⟩
  · rw [eN]
    intro i' hi'
    have ho := hr.or hi'
    unfold rOr at ho ⊢
    have er : ∀ o, o < 3 → rR (z_uI (z_uI N 22 0 (6 + 3 * cG S) v) 22 0 1 (z_I S 0 0 3 + 1)) (18 + 8 * i' + 5 + o) = rR N (18 + 8 * i' + 5 + o) := fun o ho => by rw [rN, if_neg (by omega), if_neg (by omega)]
    rw [er 0 (by omega), er 1 (by omega), er 2 (by omega), aGuar_o (by omega) (by omega), eG]
    refine ⟨ho.1, ho.2.1, fun j hj => ?_, ho.2.2.2.1, fun o h4 => by rw [aGuar_o (by omega) (by omega)]; exact ho.2.2.2.2 o h4⟩
    rw [er j hj]
    rcases ho.2.2.1 j hj with u | ⟨g, h1, h2, h3⟩
    · exact .inl u
    · exact .inr ⟨g, by omega, h2, h3⟩
  · rw [eL]
    intro l hl
    unfold rBg
    rw [aGuar_o (by omega) (by omega), aGuar_o (by omega) (by omega), rN, if_neg (by omega), if_neg (by omega)]; exact hr.bg hl
  · unfold rZe
    rw [eG, eN]
    refine ⟨fun g h1 h2 => ⟨fun f hf => ?_, ?_, ?_⟩, fun i h1 h2 k' hk' => ?_⟩
    · rw [rN, if_neg (by omega), if_neg (by omega)]; exact (hz.1 g (by omega) h2).1 f hf
    · rw [sN]; exact (hz.1 g (by omega) h2).2.1
    · rw [sN]; exact (hz.1 g (by omega) h2).2.2
    · rw [rN, if_neg (by omega), if_neg (by omega)]; exact hz.2 i h1 h2 k' hk'
  · have hi := h.ia
    have o0 : (0 : Int32).toInt = 0 := rfl
    refine ⟨hi.1, by rw [c0 0 (by omega), c0 1 (by omega)]; exact hi.2.1, ?_, ?_, ?_, ?_, fun k hk => (hi.kd hk).co (fun f h1 h2 => aGuar_o (by omega) (by omega)) (fun i => aGuar_o (by omega) (by omega)) (fun i => aGuar_o (by omega) (by omega))⟩
    · rw [eG]
      intro g' hg'
      by_cases u : g' = cG S
      · unfold iGu
        rw [u, aGuar_0, aGuar_1, aGuar_2]
        omega
      · exact (hi.gu (by omega)).co fun f hf => aGuar_o (by omega) (by omega)
    · rw [eG, eL]
      intro g' hg'
      by_cases u : g' = cG S
      · rw [u, aGuar_1, o0]
        rw [iSum_ext (H := fun _ => 0) (cL S) fun l hl => by
          show (z_I (aGuar S v) 14 l (cG S)).toInt = 0
          rw [aGuar_o (by omega) (by omega), (hi.ho hl (cG S) hG).2 (Nat.le_refl _)]; rfl]
        have : ∀ n, iSum (fun _ => 0) n = 0 := fun n => by
          induction n with
          | zero => rfl
          | succ n ih => show iSum _ n + 0 = 0; rw [ih]; rfl
        exact (this _).symm
      · rw [aGuar_o (by omega) (by omega), hi.sm (by omega)]
        exact iSum_ext _ fun l hl => by rw [aGuar_o (by omega) (by omega)]
    · rw [eL]
      intro l hl g' hg'
      rw [aGuar_o (by omega) (by omega), eG]
      exact ⟨(hi.ho hl g' hg').1, fun u => (hi.ho hl g' hg').2 (by omega)⟩
    · rw [eL]
      exact fun l hl => (hi.ld hl).co (c0 4 (by omega)) (c0 0 (by omega)) fun f hf => aGuar_o (by omega) (by omega)
  · exact h.nd.co eL (fun l q _ _ => aGuar_o (by omega) (by omega)) (fun l g _ _ => aGuar_o (by omega) (by omega)) hgr
end Re21
