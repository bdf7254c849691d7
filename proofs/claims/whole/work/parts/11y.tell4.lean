/-! ===== CLASS AND MODEL: rates told (4) ===== -/
section Re19
variable {d i k g s l l' t q n p T j : Nat} {v w a b c e f x y z : Int32} {S S' M : zS} {B : Int}
theorem cTell_k {k' : Nat} (h : k' ≠ k) (hx : q = 12 ∨ q = 13) : z_I (cTell S k x v) q k' j = z_I S q k' j := by
  unfold cTell
  dsimp only
  rw [z_I_u, if_neg (by omega), z_I_u, if_neg (by omega)]
  by_cases u : cPlace S k x (cTold S k) 0 = cTold S k ∨ ¬ z_I S 12 k (cPlace S k x (cTold S k) 0) = x
  · rw [if_pos u]; unfold cMake; rw [z_I_u, if_neg (by omega), cMkGo_k h hx]
  · rw [if_neg u]
theorem cTell_J {k' i' f' : Nat} : z_J (cTell S k x v) k' i' f' = z_J S k' i' f' := by
  unfold cTell
  dsimp only
  rw [z_J_uI, z_J_uI]
  by_cases u : cPlace S k x (cTold S k) 0 = cTold S k ∨ ¬ z_I S 12 k (cPlace S k x (cTold S k) 0) = x
  · rw [if_pos u]; unfold cMake; rw [z_J_uI, cMkGo_J]
  · rw [if_neg u]
theorem mLyJ_J {kb k i f : Nat} (h : k ≠ kb) : ∀ (n j : Nat) (N : zS), z_J (mLyJ kb q n j N) k i f = z_J N k i f
  | 0, _, _ => rfl
  | n + 1, j, N => by
    show z_J (mLyJ kb q n (j + 1) (z_uJ N kb 0 (88 * q + j) (z_J N 23 0 j))) k i f = _
    rw [mLyJ_J h n, z_J_u, if_neg fun u => h u.1]
theorem mLyI_J {ka k i f : Nat} : ∀ (n j : Nat) (N : zS), z_J (mLyI ka q n j N) k i f = z_J N k i f
  | 0, _, _ => rfl
  | n + 1, j, N => by
    show z_J (mLyI ka q n (j + 1) (z_uI N ka 0 (891 * q + j) (z_I N 22 0 j))) k i f = _
    rw [mLyI_J n]; rfl
theorem mLay_J {M : zS} {ka kb k i f : Nat} (h : k ≠ kb) : z_J (mLay ka kb q M) k i f = z_J M k i f := by
  unfold mLay; rw [mLyJ_J h, mLyI_J]
theorem mRa3_J : rRJ (mRa3 M k x v) j = rRJ M j := by
  unfold mRa3 rRJ
  rw [z_J_uI, z_J_uI]
  unfold mRa1
  by_cases h : mAt M k x = none
  · rw [if_pos h, z_J_uI, mLay_J (by decide), z_J_uI]
  · rw [if_neg h, mLay_J (by decide), z_J_uI]
theorem mRa3_o {M : zS} (hJ : mRaJ M k x ≤ 12) (hj : ¬ (66 + 29 * k ≤ j ∧ j < 66 + 29 * k + 29) ∨ j = 66 + 29 * k + 1 ∨ j = 66 + 29 * k + 2) : rR (mRa3 M k x v) j = rR M j := by
  rw [mRa3_at rfl (by omega), if_neg (by omega), if_neg (by omega)]
theorem InvA.monoT (h : InvA B 12 S) : InvA B 13 S := by
  refine ⟨⟨h.hB, by omega⟩, h.2.1, h.2.2.1, h.2.2.2.1, h.2.2.2.2.1, h.2.2.2.2.2.1, fun k hk => ?_⟩
  have := h.kd hk
  exact ⟨this.1.mono (by omega), this.2⟩
theorem sim_tell0 (h : RM S M) (hi : InvA B 12 S) (hk : k < 5) (hx : 0 ≤ x.toInt ∧ x.toInt ≤ 9999) (hv : 0 ≤ v.toInt ∧ v.toInt ≤ 999) :
    RM (cTell S k x v) (mRa3 M k x v) ∧ InvA B 13 (cTell S k x v) ∧ (z_nn (z_I (cTell S k x v) 2 k 2) 12 → InvA B 12 (cTell S k x v)) ∧ (mAt M k x = none ↔ ∀ i, i < cTold S k → z_I S 12 k i ≠ x) := by
  have hn : z_nn (z_I S 2 k 2) 12 := (hi.kd hk).1
  have h13 := cTell_told (day := x) (v := v) hn
  obtain ⟨r1, r2, r3⟩ := (h.rt hk).tell (v := v) hn (x := x) (i_le.mpr hx.1)
  have hc := cTell_is (x := x) (v := v) (h.rt hk).2.1 hn
  have c0 : ∀ q, z_I (cTell S k x v) 0 0 q = z_I S 0 0 q := fun q => cTell_o (by omega) (by omega) (by omega)
  have eG : cG (cTell S k x v) = cG S := congrArg Int32.toNatClampNeg (c0 3)
  have eN : cS (cTell S k x v) = cS S := congrArg Int32.toNatClampNeg (c0 4)
  have eL : cL (cTell S k x v) = cL S := congrArg Int32.toNatClampNeg (c0 5)
  have hS6 := h.S6
  have hL := h.L40
  refine ⟨⟨?_, ?_, ?_, ?_, ?_, ?_, ?_⟩, ?_, ?_, r2⟩
  · unfold cCnts; rw [c0, c0, c0]; exact h.cn
  · rw [eG, eN, eL]
    intro k' i' f' j' hp hl
    have hP := hp
    unfold rP at hp
    rw [mRa3_o r3 (by omega), cTell_o (by omega) (by omega) (by omega)]
    exact h.eq k' i' f' j' hP hl
  · rw [eG, eL]
    intro k' i' f' j' hp h1 h2
    rw [mRa3_J, cTell_J]; exact h.ej k' i' f' j' hp h1 h2
  · intro k' hk'
    by_cases u : k' = k
    · rw [u]; exact ⟨r1, h13.2⟩
    · have e2 : z_I (cTell S k x v) 2 k' 2 = z_I S 2 k' 2 := cTell_o (by omega) (by omega) (by omega)
      exact ⟨(h.rt hk').co (h.t13 hk') e2 (fun i => cTell_k u (.inl rfl)) (fun i => cTell_k u (.inr rfl)) (mRa3_o r3 (by omega)) (fun o h1 h2 => mRa3_o r3 (by omega)), by rw [cTold.co e2]; exact h.t13 hk'⟩
  · rw [eN]
    intro i' hi'
    exact (h.or hi').co eG (cTell_o (by omega) (by omega) (by omega)) (fun o => cTell_o (by omega) (by omega) (by omega)) (fun o ho => mRa3_o r3 (by omega))
  · rw [eL]
    intro l hl
    unfold rBg
    rw [cTell_o (by omega) (by omega) (by omega), cTell_o (by omega) (by omega) (by omega), mRa3_o r3 (by omega)]; exact h.bg hl
  · unfold rZe
    rw [eG, eN]
    have hz := h.ze
    refine ⟨fun g h1 h2 => ⟨fun f hf => ?_, ?_, ?_⟩, fun i h1 h2 k' hk' => ?_⟩
    · rw [mRa3_o r3 (by omega)]; exact (hz.1 g h1 h2).1 f hf
    · rw [mRa3_J]; exact (hz.1 g h1 h2).2.1
    · rw [mRa3_J]; exact (hz.1 g h1 h2).2.2
    · rw [mRa3_o r3 (by omega)]; exact hz.2 i h1 h2 k' hk'
  all_goals
    have key : ∀ T, T ≤ 13 → InvA B T S → z_nn (z_I (cTell S k x v) 2 k 2) T → InvA B T (cTell S k x v) := fun T hT hi hn' => by
      refine hi.mk' (c0 0) (c0 1) (c0 3) (c0 5) (fun g hg => (hi.gu hg).co fun f hf => cTell_o (by omega) (by omega) (by omega)) (fun g hg => ?_) (fun l hl => (hi.ho hl).co eG fun g hg => cTell_o (by omega) (by omega) (by omega)) (fun l hl => (hi.ld hl).co (c0 4) (c0 0) fun f hf => cTell_o (by omega) (by omega) (by omega)) (fun k' hk' => ?_)
      · rw [cTell_o (by omega) (by omega) (by omega), hi.sm hg]
        exact iSum_ext _ fun i _ => by rw [cTell_o (by omega) (by omega) (by omega)]
      · by_cases u : k' = k
        · rw [u]
          have hkd := hi.kd hk
          refine ⟨hn', fun i hi' => ?_, ?_⟩
          · rcases (hc.2.2 _ _).mp ⟨i, hi', rfl, rfl⟩ with ⟨u1, u2⟩ | ⟨-, j, hj, u1, u2⟩
            · rw [u1, u2]; exact ⟨hx, hv⟩
            · rw [← u1, ← u2]; exact hkd.2.1 j hj
          · rw [cTell_o (by omega) (by omega) (by omega), cTell_o (by omega) (by omega) (by omega)]; exact hkd.2.2
        · exact (hi.kd hk').co (fun f h1 h2 => cTell_o (by omega) (by omega) (by omega)) (fun i => cTell_k u (.inl rfl)) (fun i => cTell_k u (.inr rfl))
  · exact key 13 (by omega) hi.monoT h13
  · exact fun u => key 12 (by omega) hi u
theorem cTell_gr {k' : Nat} (h : k' ≠ k) : cGr (cTell S k x v) k' y z = cGr S k' y z := cGr_co (cTell_o (by omega) (by omega) (by omega)) (fun i => cTell_k h (.inl rfl)) (fun i => cTell_k h (.inr rfl))
theorem cTell_need (hk : cKd S l ≠ k) : cNeed (cTell S k x v) l = cNeed S l := by
  have h3 : ∀ q, z_I (cTell S k x v) 3 l q = z_I S 3 l q := fun q => cTell_o (by omega) (by omega) (by omega)
  have h0 : ∀ q, z_I (cTell S k x v) 0 0 q = z_I S 0 0 q := fun q => cTell_o (by omega) (by omega) (by omega)
  unfold cNeed cRest cLatest
  have e : cKd (cTell S k x v) l = cKd S l := congrArg Int32.toNatClampNeg (h3 3)
  rw [e]
  simp only [h3, h0, cTell_gr hk]
theorem cTell_iNd (h : iNd S l) (hk : cKd S l ≠ k ∨ z_I S 3 l 0 ≠ 1) : iNd (cTell S k x v) l := by
  have h14 : ∀ g, z_I (cTell S k x v) 14 l g = z_I S 14 l g := fun q => cTell_o (by omega) (by omega) (by omega)
  have h3 : z_I (cTell S k x v) 3 l 0 = z_I S 3 l 0 := cTell_o (by omega) (by omega) (by omega)
  refine ⟨fun u => ?_, fun u g hg => ?_⟩
  · rw [h3] at u
    rw [iHs_co fun g _ => h14 g, cTell_need (hk.resolve_right fun w => w u)]; exact h.1 u
  · rw [h3] at u; rw [h14]; exact h.2 u g hg
end Re19
