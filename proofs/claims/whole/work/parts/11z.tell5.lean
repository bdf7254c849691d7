/-! ===== CLASS AND MODEL: rates told (5) ===== -/
section Re20
variable {d i k g s l l' t q n p T j : Nat} {v w a b c e f x y z : Int32} {S S' M : zS} {B : Int}
theorem mAaG_f : ∀ (n i : Nat) (M : zS), mAaG v n i false M = (false, M)
  | 0, _, _ => rfl
  | n + 1, i, M => by unfold mAaG; rw [if_neg (by decide)]
theorem cAnew_0 (h : RM S M) (hi : InvA B T S) (hl : l < cL S) (hn : iHs S l = (cNeed S l).toInt) : cAnew S l = (true, S) := by
  have hf := RM.ffi h hi (hi.fr hl)
  have hh := hi.held h.G4 hl
  have hb := hi.need hl
  have e : cMore S l = 0 := by
    unfold cMore
    rw [i_z, i_sub (by omega) (by omega)]; omega
  unfold cAnew
  rw [e, if_neg (fun u => by rw [i_lt] at u; have : (0 : Int32).toInt = 0 := rfl; omega), if_neg (by decide), show -(0 : Int32) = 0 from rfl, cRel_0 h hi hl]
theorem sim_tellGo (hk : k < 5) : ∀ (n i : Nat) (S M : zS), i + n = cL S → RM S M → InvA B T S → (∀ l, l < cL S → iNd S l ∨ (i ≤ l ∧ cKd S l = k ∧ z_I S 3 l 0 = 1)) →
    (cTellGo n i S).1 = (mAaG (nI k) n i true M).1 ∧ RM (cTellGo n i S).2 (mAaG (nI k) n i true M).2 ∧ InvA B T (cTellGo n i S).2 ∧ ((cTellGo n i S).1 = true → InvN (cTellGo n i S).2)
  | 0, i, S, M, hin, h, hi, hn => by
    refine ⟨rfl, h, hi, fun _ l hl => ?_⟩
    have hl' : l < cL S := hl
    rcases hn l hl' with u | u
    · exact u
    · omega
  | n + 1, i, S, M, hin, h, hi, hn => by
    have hl : i < cL S := by omega
    have ek : z_I M 22 0 (211 + 17 * i + 2) = nI k ↔ cKd S i = k := by
      rw [RM.lkd h hl]
      have hb := (hi.ld hl).2.2.1
      unfold cKd
      constructor
      · intro u; rw [u]; exact z_nIc (by omega)
      · intro u
        rw [i_eq, i_nI (by omega), ← u, i_nat, if_pos hb.1]
    unfold cTellGo mAaG
    rw [if_pos (show true = true from rfl), RM.st h hl]
    by_cases h1 : z_I S 3 i 0 = 1
    · rw [if_pos h1]
      by_cases h2 : cKd S i = k
      · rw [if_pos (show z_I S 3 i 0 = 1 ∧ z_I M 22 0 (211 + 17 * i + 2) = nI k from ⟨h1, ek.mpr h2⟩), RM.fr h hl]
        obtain ⟨s1, s2, s3, s4, s5⟩ := sim_anew h hi hl h1
        rw [← s1]
        cases hb : (cAnew S i).1 with
        | true =>
          rw [if_pos rfl]
          have eL : cL (cAnew S i).2 = cL S := s4.L
          refine sim_tellGo hk n (i + 1) (cAnew S i).2 (mAdj M i (cFr S i)).2 (by rw [eL]; omega) s2 s3 fun l hl' => ?_
          have e3 : ∀ q, z_I (cAnew S i).2 3 l q = z_I S 3 l q := fun q => s4 3 l q (by omega) (by omega)
          by_cases u : l = i
          · left
            rw [u]
            rw [u] at e3
            refine ⟨fun _ => ?_, fun w => absurd ((e3 0).trans h1) w⟩
            rw [s5 hb, s4.need]
          · rcases hn l (by rw [← eL]; exact hl') with w | w
            · exact .inl (w.fo s4.o u)
            · refine .inr ⟨by omega, ?_, by rw [e3]; exact w.2.2⟩
              rw [← w.2.1]; exact congrArg Int32.toNatClampNeg (e3 3)
        | false =>
          rw [if_neg (by decide), mAaG_f]
          exact ⟨rfl, s2, s3, fun u => by cases u⟩
      · rw [if_neg (show ¬ (z_I S 3 i 0 = 1 ∧ z_I M 22 0 (211 + 17 * i + 2) = nI k) from fun u => h2 (ek.mp u.2))]
        have hnd : iNd S i := by
          rcases hn i hl with w | w
          · exact w
          · exact absurd w.2.1 h2
        rw [cAnew_0 h hi hl (hnd.1 h1), if_pos rfl]
        refine sim_tellGo hk n (i + 1) S M (by omega) h hi fun l hl' => ?_
        rcases hn l hl' with w | w
        · exact .inl w
        · refine .inr ⟨?_, w.2⟩
          have : l ≠ i := fun u => h2 (by rw [← u]; exact w.2.1)
          omega
    · rw [if_neg h1, if_neg (show ¬ (z_I S 3 i 0 = 1 ∧ z_I M 22 0 (211 + 17 * i + 2) = nI k) from fun u => h1 u.1)]
      refine sim_tellGo hk n (i + 1) S M (by omega) h hi fun l hl' => ?_
      rcases hn l hl' with w | w
      · exact .inl w
      · refine .inr ⟨?_, w.2⟩
        have : l ≠ i := fun u => h1 (by rw [← u]; exact w.2.2)
        omega
theorem sim_tell (h : Ok B 12 S M) (hk : k < 5) (hx : 0 ≤ x.toInt ∧ x.toInt ≤ 9999) (hv : 0 ≤ v.toInt ∧ v.toInt ≤ 999) :
    (cTellRate S k x v).1 = (mRaX M k x v).1 ∧ RM (cTellRate S k x v).2 (mRaX M k x v).2 ∧ ((cTellRate S k x v).1 = true → Ok B 13 (cTellRate S k x v).2 (mRaX M k x v).2) ∧ ((cTellRate S k x v).1 = true → z_nn (z_I (cTell S k x v) 2 k 2) 12 → Ok B 12 (cTellRate S k x v).2 (mRaX M k x v).2) ∧ (mAt M k x = none ↔ ∀ i, i < cTold S k → z_I S 12 k i ≠ x) := by
  obtain ⟨t1, t2, t3, t4⟩ := sim_tell0 h.r h.ia hk hx hv
  have eL : cL (cTell S k x v) = cL S := congrArg Int32.toNatClampNeg (cTell_o (by omega) (by omega) (by omega))
  have hn : ∀ l, l < cL (cTell S k x v) → iNd (cTell S k x v) l ∨ (0 ≤ l ∧ cKd (cTell S k x v) l = k ∧ z_I (cTell S k x v) 3 l 0 = 1) := fun l hl => by
    rw [eL] at hl
    have e3 : ∀ q, z_I (cTell S k x v) 3 l q = z_I S 3 l q := fun q => cTell_o (by omega) (by omega) (by omega)
    by_cases u : cKd S l = k ∧ z_I S 3 l 0 = 1
    · exact .inr ⟨by omega, (congrArg Int32.toNatClampNeg (e3 3)).trans u.1, by rw [e3]; exact u.2⟩
    · refine .inl (cTell_iNd (h.nd l hl) ?_)
      by_cases w : cKd S l = k
      · exact .inr fun w2 => u ⟨w, w2⟩
      · exact .inl w
  have eX : mRaX M k x v = mAaG (nI k) (cL S) 0 true (mRa3 M k x v) := by
    unfold mRaX mAll
    rw [RM.mN t1, eL]
  unfold cTellRate
  rw [eX]
  have g13 := sim_tellGo hk (cL S) 0 (cTell S k x v) (mRa3 M k x v) (by rw [eL]; omega) t1 t2 hn
  refine ⟨g13.1, g13.2.1, fun u => ⟨g13.2.1, g13.2.2.1, g13.2.2.2 u⟩, fun u w => ?_, t4⟩
  have g12 := sim_tellGo hk (cL S) 0 (cTell S k x v) (mRa3 M k x v) (by rw [eL]; omega) t1 (t3 w) hn
  exact ⟨g12.2.1, g12.2.2.1, g12.2.2.2 u⟩
theorem cToldFrom_is : ∀ (n i : Nat), cToldFrom S k x n i = true ↔ ∃ j, i ≤ j ∧ j < i + n ∧ z_I S 12 k j = x
  | 0, i => ⟨fun h => (by cases h), fun ⟨j, h1, h2, _⟩ => by omega⟩
  | n + 1, i => by
    unfold cToldFrom
    by_cases u : z_I S 12 k i = x
    · rw [if_pos u]; exact ⟨fun _ => ⟨i, by omega, by omega, u⟩, fun _ => rfl⟩
    · rw [if_neg u, cToldFrom_is n (i + 1)]
      constructor
      · rintro ⟨j, h1, h2, h3⟩; exact ⟨j, by omega, by omega, h3⟩
      · rintro ⟨j, h1, h2, h3⟩
        have : j ≠ i := fun w => u (by rw [← w]; exact h3)
        exact ⟨j, by omega, by omega, h3⟩
end Re20
