set_option maxHeartbeats 400000
/-! ===== CLASS AND MODEL: explains ===== -/
section Re43
variable {d i k g s l l' t q n p T j L m x z : Nat} {v w a b c e y fo : Int32} {S S' M M' N X Y A C : zS} {B : Int} {K : Nat → Nat} {E : Nat → Int} {P : Nat → Prop} {o : Option Nat}
def foI (o : Option Nat) : Int32 := match o with
  | none => 0
  | some j => nI j
theorem foI_0 (h : ∀ j, o = some j → 0 < j ∧ j < 4096) : foI o = 0 ↔ o = none := by
  cases o with
  | none => exact ⟨fun _ => rfl, fun _ => rfl⟩
  | some j =>
    refine ⟨fun q => ?_, fun q => by cases q⟩
    have q := congrArg Int32.toInt (show nI j = 0 from q)
    have hj := h j rfl
    rw [i_nI (by omega)] at q
    have z0 : (0 : Int32).toInt = 0 := rfl
    omega
theorem few_go (h : setEq X Y t) (ht : t ≤ 12) : ∀ (n i : Nat) (o : Option Nat), i + 1 + n = 2 ^ t → (∀ j, o = some j → 0 < j ∧ j < 4096) → qFew X t a n (i + 1) (foI o) (qSum X (nI i) t 0 0) = foI (z_it (mFeS Y t a) n (i + 1) o) ∧ ∀ j, z_it (mFeS Y t a) n (i + 1) o = some j → 0 < j ∧ j < 4096
  | 0, _, _, _, ho => ⟨rfl, ho⟩
  | n + 1, i, o, hi, ho => by
    have h4 := z_2p ht
    have e1 : qSum X (nI i) t 0 0 + qChg X (nI (i + 1)) t 0 0 = qSum X (nI (i + 1)) t 0 0 := (chg_is (by omega) ht).symm
    have e2 : mSum Y (nI (i + 1)) t = qSum X (nI (i + 1)) t 0 0 := mSum_is h t 0 0 (by omega)
    have hb : mFeB o (i + 1) = true ↔ (foI o = 0 ∨ ¬ qBc (foI o) ≤ qBc (nI (i + 1))) := by
      cases o with
      | none => exact ⟨fun _ => .inl rfl, fun _ => rfl⟩
      | some j =>
        have := foI_0 ho
        show decide (¬ qBc (nI j) ≤ qBc (nI (i + 1))) = true ↔ (foI (some j) = 0 ∨ ¬ qBc (nI j) ≤ qBc (nI (i + 1)))
        rw [decide_eq_true_iff]
        exact ⟨fun q => .inr q, fun q => q.resolve_left fun w => by cases this.mp w⟩
    show qFew X t a (n + 1) (i + 1) (foI o) (qSum X (nI i) t 0 0) = foI (z_it (mFeS Y t a) n (i + 1 + 1) (mFeS Y t a (i + 1) o)) ∧ ∀ j, z_it (mFeS Y t a) n (i + 1 + 1) (mFeS Y t a (i + 1) o) = some j → 0 < j ∧ j < 4096
    have hst : mFeS Y t a (i + 1) o = if qSum X (nI (i + 1)) t 0 0 = a ∧ mFeB o (i + 1) = true then some (i + 1) else o := by unfold mFeS; rw [e2]
    rw [qFew, e1, hst]
    by_cases u : qSum X (nI (i + 1)) t 0 0 = a ∧ mFeB o (i + 1) = true
    · rw [if_pos u, if_pos ⟨u.1, hb.mp u.2⟩]
      exact few_go h ht n (i + 1) (some (i + 1)) (by omega) fun j hj => by cases hj; omega
    · rw [if_neg u, if_neg fun q => u ⟨q.1, hb.mpr q.2⟩]
      exact few_go h ht n (i + 1) o (by omega) ho
theorem exp_go (hK : ∀ j, j < n → cRest X (cRw X j) = mRest M (K j)) : ∀ (m i : Nat) (A C : zS), i + m ≤ n → i ≤ 12 → setEq A C i → (mExG M (lsK K i m) i C).1 = i + min m (12 - i) ∧ setEq (qExS X (min m (12 - i)) i A) (mExG M (lsK K i m) i C).2 (i + min m (12 - i))
  | 0, i, A, C, _, _, h => by rw [Nat.zero_min]; exact ⟨rfl, h⟩
  | m + 1, i, A, C, hi, h12, h => by
    show (mExG M (K i :: lsK K (i + 1) m) i C).1 = _ ∧ setEq _ (mExG M (K i :: lsK K (i + 1) m) i C).2 _
    rw [mExG]
    by_cases u : 12 ≤ i
    · rw [if_pos u, show min (m + 1) (12 - i) = 0 by omega]; exact ⟨rfl, h⟩
    · rw [if_neg u, show min (m + 1) (12 - i) = min m (12 - (i + 1)) + 1 by omega]
      have ih := exp_go hK m (i + 1) (z_uI A 20 0 i (cRest X (cRw X i))) (mSetA C i (mRest M (K i))) (by omega) (by omega) (by rw [hK i (by omega)]; exact h.st)
      rw [show i + (min m (12 - (i + 1)) + 1) = i + 1 + min m (12 - (i + 1)) by omega]
      exact ih
theorem ask_expl {X0 : zS} (h : Ok B T S M) (hv : v ≠ -1) : ∃ L : List Nat, mChs M v w (mNext M v w none) L ∧ mExQ a b (mExG M L 0 (mBs0 M)) = qExp (qExS (qEx S v w) (qExN S v w) 0 X0) (qExN S v w) a b := by
  have hL := h.r.L40
  obtain ⟨n, K, h1, hr⟩ := row_T (v := v) (w := w) hL h.ia
  have hnL := hr.2.1
  have hX := h.alk h1.alk
  have eN : qExN S v w = min n 12 := by
    have e : (z_I (qEx S v w) 0 0 11).toNatClampNeg = n := by
      show (z_I (cLUp (cLuT v w) S) 0 0 11).toNatClampNeg = n
      rw [hr.1]; exact z_nIc (by omega)
    unfold qExN
    rw [e]
    by_cases u : n < 12
    · rw [if_pos u]; omega
    · rw [if_neg u]; omega
  have hE : ∀ l, l < cL S → (z_I S 3 l 0 = 1 ∧ z_I S 3 l 2 = v ∧ z_I S 3 l 3 = w) → ∃ ρ : Int, El S l = ρ * 40 + l ∧ 0 ≤ ρ ∧ ρ ≤ 20000 := fun l hl hp => ⟨(cLatest S l).toInt, rfl, by have := h.ia.lat hl hp.1; omega⟩
  have hK : ∀ j, j < n → cRest (qEx S v w) (cRw (qEx S v w) j) = mRest M (K j) := fun j hj => by
    have q := hr.2.2.2.2.1 j hj
    rw [show cRw (qEx S v w) j = K j from (hr.rw hL hE hj).2]
    exact (RM.rest hX.r (by rw [h1.alk.L]; exact q.1)).symm
  refine ⟨lsK K 0 n, chs_row hr (RM.mN h.r) hL (fun l hl => ?_) (fun l hl hp => ?_), ?_⟩
  · unfold mNxI
    rw [RM.st h.r hl, RM.lto h.r hl, RM.lkd h.r hl]
    exact ⟨fun q => ⟨q.1, q.2.resolve_left hv⟩, fun q => ⟨q.1, .inr q.2⟩⟩
  · unfold El Kp
    rw [RM.lat h.r hl hp.1]
  · obtain ⟨b1, b2⟩ := exp_go hK n 0 X0 (mBs0 M) (by omega) (by omega) (fun k hk => absurd hk (Nat.not_lt_zero _))
    rw [Nat.zero_add, Nat.sub_zero] at b1 b2
    rw [eN]
    unfold mExQ qExp
    rw [b1]
    have ht : min n 12 ≤ 12 := by omega
    generalize min n 12 = t at *
    generalize mExG M (lsK K 0 n) 0 (mBs0 M) = R at *
    generalize qExS (qEx S v w) t 0 X0 = Z at *
    have hp : 0 < 2 ^ t := Nat.pow_pos (by decide)
    obtain ⟨f1, f2⟩ := few_go (a := a) b2 ht (2 ^ t - 1) 0 none (by omega) (fun j hj => by cases hj)
    rw [qSum_0 t 0 0 (by omega)] at f1
    have f1 : qFew Z t a (2 ^ t - 1) 1 0 0 = foI (z_it (mFeS R.2 t a) (2 ^ t - 1) 1 none) := f1
    have f2 : ∀ j, z_it (mFeS R.2 t a) (2 ^ t - 1) 1 none = some j → 0 < j ∧ j < 4096 := f2
    rw [f1]
    generalize z_it (mFeS R.2 t a) (2 ^ t - 1) 1 none = o at *
    cases o with
    | none => rw [if_pos ((foI_0 f2).mpr rfl)]; rfl
    | some j =>
      rw [if_neg fun q => by cases (foI_0 f2).mp q]
      rfl
end Re43
