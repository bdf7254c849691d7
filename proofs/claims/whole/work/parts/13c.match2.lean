set_option maxHeartbeats 400000
/-! ===== CLASS AND MODEL: match (2) ===== -/
section Re35
variable {d i k g s l l' t q n p T j L m : Nat} {v w a b c e f x y z left many : Int32} {S S' M M' N S0 X : zS} {B : Int} {K : Nat → Nat} {E : Nat → Int} {P : Nat → Prop}
abbrev PT (S : zS) (a b : Int32) (l : Nat) : Prop := z_I S 3 l 0 = 1 ∧ z_I S 3 l 2 = a ∧ z_I S 3 l 3 = b
def MI (B : Int) (T : Nat) (S0 : zS) (K : Nat → Nat) (i : Nat) (S M : zS) : Prop := Ok B T S M ∧ (∀ k i' f, k = 0 ∨ k = 11 → z_I S k i' f = z_I S0 k i' f) ∧ (∀ l, (∀ j, j < i → K j ≠ l) → ∀ f, z_I S 3 l f = z_I S0 3 l f) ∧ (∀ l f, f ≠ 0 → f ≠ 8 → f ≠ 9 → f ≠ 10 → f ≠ 11 → z_I S 3 l f = z_I S0 3 l f) ∧ ∀ j, j < i → z_I S 3 (K j) 0 = 1 ∨ z_I S 3 (K j) 0 = 2
theorem rowIs.inj {E : Nat → Int} (hr : rowIs X E P L n K) (hi : i < n) (hj : j < n) (he : K i = K j) : i = j := by
  obtain ⟨-, h2, -, h4, h5, h6⟩ := hr
  rcases Nat.lt_trichotomy i j with u | u | u
  · have := h4 i j u hj; rw [he] at this; omega
  · exact u
  · have := h4 j i u hi; rw [he] at this; omega
theorem MI.kp (h : MI B T S0 K i S M) (hr : rowIs S0 (El S0) (PT S0 a b) (cL S0) n K) (hin : i ≤ n) (hj : j < n) : Kp M (K j) = El S0 (K j) ∧ K j < cL S := by
  obtain ⟨h1, h2, h3, h4, h5⟩ := h
  have hk := hr.2.2.2.2.1 j hj
  have eL : cL S = cL S0 := congrArg Int32.toNatClampNeg (h2 0 0 5 (.inl rfl))
  have hl : K j < cL S := by rw [eL]; exact hk.1
  have st : z_I S 3 (K j) 0 = 1 ∨ z_I S 3 (K j) 0 = 2 := by
    by_cases u : j < i
    · exact h5 j u
    · rw [h3 (K j) (fun j' hj' he => by have := hr.inj (by omega) hj he; omega)]; exact .inl hk.2.1
  have b7 : z_I M 22 0 (211 + 17 * K j + 7) = z_I S 3 (K j) 7 := (h1.r.bg hl).1 (st.elim .inl fun u => .inr (.inl u))
  refine ⟨?_, hl⟩
  unfold Kp El mLat cLatest
  rw [b7, RM.ldy h1.r hl, h4 (K j) 7 (by omega) (by omega) (by omega) (by omega) (by omega), h4 (K j) 5 (by omega) (by omega) (by omega) (by omega) (by omega)]
theorem MI.nx (h : MI B T S0 K i S M) (hr : rowIs S0 (El S0) (PT S0 a b) (cL S0) n K) (hin : i < n) (ha : a ≠ -1) (hl : l < cL S0) (hk : Kp M (K i) < Kp M l) : mNxI M a b l ↔ PT S0 a b l := by
  have hno : ∀ j, j < i → K j ≠ l := fun j hj he => by
    have e1 := (h.kp hr (by omega) (j := j) (by omega)).1
    have e2 := (h.kp hr (by omega) (j := i) hin).1
    have := hr.2.2.2.1 j i hj hin
    rw [← he] at hk
    omega
  obtain ⟨h1, h2, h3, h4, h5⟩ := h
  have eL : cL S = cL S0 := congrArg Int32.toNatClampNeg (h2 0 0 5 (.inl rfl))
  have hl' : l < cL S := by rw [eL]; exact hl
  unfold mNxI
  rw [RM.st h1.r hl', RM.lto h1.r hl', RM.lkd h1.r hl', h3 l hno, h3 l hno, h3 l hno]
  exact ⟨fun u => ⟨u.1, u.2.resolve_left ha⟩, fun u => ⟨u.1, .inr u.2⟩⟩
theorem sim_recGo (hr : rowIs S0 (El S0) (PT S0 a b) (cL S0) n K) (hL : cL S0 ≤ 40) (ha : a ≠ -1) (hE : ∀ l, l < cL S0 → PT S0 a b l → ∃ ρ : Int, El S0 l = ρ * 40 + l ∧ 0 ≤ ρ ∧ ρ ≤ 20000) (hR : ∀ i, i < n → 0 ≤ (cRest S0 (K i)).toInt ∧ (cRest S0 (K i)).toInt ≤ 9999) :
    ∀ (m i : Nat) (left many : Int32) (S M : zS), i + m = n → MI B T S0 K i S M → 0 ≤ left.toInt → left.toInt ≤ iSf (fun l => (cRest S0 l).toInt) K i m →
    mMaP a b (lsK K i m) left M ∧ (cRecGo m i left many S).1 = (mMaG (lsK K i m) left many M).1 ∧ Ok B T (cRecGo m i left many S).2 (mMaG (lsK K i m) left many M).2
  | 0, i, left, many, S, M, hi, h, h0, hle => ⟨i_le.mpr hle, rfl, h.1⟩
  | m + 1, i, left, many, S, M, hi, h, h0, hle => by
    have hin : i < n := by omega
    have eRw : cRw S i = K i := by
      have e := (hr.rw hL hE hin).2
      rw [← e]
      unfold cRw cInRow
      rw [h.2.1 0 0 11 (.inl rfl), h.2.1 11 0 _ (.inr rfl)]
    obtain ⟨ekp, hl⟩ := h.kp hr (by omega) hin
    have un : ∀ f, z_I S 3 (K i) f = z_I S0 3 (K i) f := h.2.2.1 (K i) fun j hj he => by have := hr.inj (by omega) hin he; omega
    have hs : z_I S 3 (K i) 0 = 1 := by rw [un]; exact (hr.2.2.2.2.1 i hin).2.1
    have eR : cRest S (K i) = cRest S0 (K i) := by unfold cRest; rw [un, un]
    have hRi := hR i hin
    unfold cRecGo
    show (left ≤ 0 ∨ (K i < mN M ∧ mNext M a b (some (K i)) = (lsK K (i + 1) m).head? ∧ mMaP a b (lsK K (i + 1) m) (left - mMin left (mRest M (K i))) (mMaSt M (K i) (mMin left (mRest M (K i)))))) ∧
      _ = (if left ≤ 0 then (many, M) else mMaG (lsK K (i + 1) m) (left - mMin left (mRest M (K i))) (many + 1) (mMaSt M (K i) (mMin left (mRest M (K i))))).1 ∧
      Ok B T _ (if left ≤ 0 then (many, M) else mMaG (lsK K (i + 1) m) (left - mMin left (mRest M (K i))) (many + 1) (mMaSt M (K i) (mMin left (mRest M (K i))))).2
    rw [eRw, RM.rest h.1.r hl, mMin_c, eR]
    have z0 : (0 : Int32).toInt = 0 := rfl
    by_cases hp : 0 < left
    · have hp' : ¬ left ≤ 0 := by rw [i_le]; rw [i_lt] at hp; omega
      rw [if_pos hp, if_neg hp']
      rw [i_lt] at hp
      obtain ⟨p0, p1, p2, p3⟩ := i_cmP h0 hRi.1
      generalize cMin left (cRest S0 (K i)) = τ at *
      obtain ⟨s1, s2, s3, s4⟩ := sim_recSt h.1 hl hs p0 (by rw [eR]; exact p2)
      have e2 : (left - τ).toInt = left.toInt - τ.toInt := i_sub (by omega) (by have := Int32.toInt_lt left; omega)
      have hb := iSf_b (R := fun l => (cRest S0 l).toInt) (K := K) m (i + 1) fun i' h1 h2 => hR i' (by omega)
      have hle' : left.toInt ≤ (cRest S0 (K i)).toInt + iSf (fun l => (cRest S0 l).toInt) K (i + 1) m := hle
      have nextMI : MI B T S0 K (i + 1) (cRecSt S (K i) τ) (mMaSt M (K i) τ) := by
        obtain ⟨g1, g2, g3, g4, g5⟩ := h
        refine ⟨s1, fun k i' f hk => (s2 k i' f (by omega) (by omega) (by omega) (by omega)).trans (g2 k i' f hk), fun l' hn f => ?_, fun l' f f0 f8 f9 f10 f11 => ?_, fun j hj => ?_⟩
        · rw [s2.ld (fun e => hn i (by omega) e.symm)]; exact g3 l' (fun j hj => hn j (by omega)) f
        · by_cases u : l' = K i
          · rw [u, s3 f f0 f8 f9 f10 f11]; exact g4 _ f f0 f8 f9 f10 f11
          · rw [s2.ld u]; exact g4 _ f f0 f8 f9 f10 f11
        · by_cases u : j = i
          · rw [u]; exact s4
          · rw [s2.ld (fun e => u (hr.inj (by omega) hin e))]; exact g5 j (by omega)
      obtain ⟨t1, t2, t3⟩ := sim_recGo hr hL ha hE hR m (i + 1) (left - τ) (many + 1) (cRecSt S (K i) τ) (mMaSt M (K i) τ) (by omega) nextMI (by omega) (by omega)
      refine ⟨.inr ⟨by rw [RM.mN h.1.r]; exact hl, ?_, t1⟩, t2, t3⟩
      have eL : cL S = cL S0 := congrArg Int32.toNatClampNeg (h.2.1 0 0 5 (.inl rfl))
      rw [next_some hr hin (by rw [RM.mN h.1.r, eL]) hL (fun l hl hk => h.nx hr hin ha hl hk) (fun l hl hp => ?_), lsK_hd]
      · by_cases u : 0 < m
        · rw [if_pos (by omega), if_pos u]
        · rw [if_neg (by omega), if_neg u]
      · obtain ⟨j, hj, rfl⟩ := hr.2.2.2.2.2 l hl hp
        exact ((h.kp hr (by omega) hj).1).symm
    · have hp' : left ≤ 0 := by rw [i_le]; rw [i_lt] at hp; omega
      rw [if_neg hp, if_pos hp']
      exact ⟨.inl hp', rfl, h.1⟩
theorem sim_match (h : Ok B T S M) (ha : a ≠ -1) : ∃ L : List Nat, mChs M a b (mNext M a b none) L ∧ (∀ j ∈ L, j < cL S) ∧ L.foldl (fun x l => x + mRest M l) 0 = cRestsTo S a b (cL S) 0 0 ∧ ∀ N, Ok B T S N → 0 ≤ c.toInt → c.toInt ≤ (cRestsTo S a b (cL S) 0 0).toInt → mMaP a b L c N ∧ (aMatch S a b c).1 = (mMaG L c 0 N).1 ∧ Ok B T (aMatch S a b c).2 (mMaG L c 0 N).2 := by
  obtain ⟨n, K, h1, h2⟩ := row_T (v := a) (w := b) h.r.L40 h.ia
  have e3 : ∀ l f, z_I (cLUp (cLuT a b) S) 3 l f = z_I S 3 l f := fun l f => h1.1 3 l f (by omega) (by omega)
  have eL : cL (cLUp (cLuT a b) S) = cL S := h1.alk.L
  have eE : El (cLUp (cLuT a b) S) = El S := funext fun l => by unfold El cLatest; rw [e3, e3]
  have eP : PT (cLUp (cLuT a b) S) a b = fun l => z_I S 3 l 0 = 1 ∧ z_I S 3 l 2 = a ∧ z_I S 3 l 3 = b := funext fun l => by unfold PT; rw [e3, e3, e3]
  have eR : ∀ l, cRest (cLUp (cLuT a b) S) l = cRest S l := fun l => by unfold cRest; rw [e3, e3]
  have hr : rowIs (cLUp (cLuT a b) S) (El (cLUp (cLuT a b) S)) (PT (cLUp (cLuT a b) S) a b) (cL (cLUp (cLuT a b) S)) n K := by rw [eE, eP, eL]; exact h2
  have hL := h.r.L40
  have hI : ∀ N, Ok B T S N → MI B T (cLUp (cLuT a b) S) K 0 (cLUp (cLuT a b) S) N := fun N hN => ⟨hN.alk h1.alk, fun _ _ _ _ => rfl, fun _ _ _ => rfl, fun _ _ _ _ _ _ _ => rfl, fun j hj => absurd hj (Nat.not_lt_zero _)⟩
  have hR : ∀ i, i < n → 0 ≤ (cRest S (K i)).toInt ∧ (cRest S (K i)).toInt ≤ 9999 := fun i hi => by
    have := h.ia.rest (h2.2.2.2.2.1 i hi).1; exact this.2
  have hsum : iSf (fun l => (cRest S l).toInt) K 0 n = (cRestsTo S a b (cL S) 0 0).toInt := by
    rw [(restsTo_i h.ia (cL S) (Nat.le_refl _) hL).1, iSf_sum]
    exact (iSum_row (R := fun l => (cRest S l).toInt) n _ (fun l => inferInstance) (fun i j hij hj he => by have := h2.inj (by omega) hj he; omega) h2.2.2.2.2.1 h2.2.2.2.2.2).symm
  have nn : n ≤ 40 := by have := h2.2.1; omega
  refine ⟨lsK K 0 n, ?_, fun j hj => ?_, ?_, fun N hN h0 hle => ?_⟩
  · refine chs_row h2 (RM.mN h.r) hL (fun l hl => ?_) (fun l hl hp => ?_)
    · unfold mNxI
      rw [RM.st h.r hl, RM.lto h.r hl, RM.lkd h.r hl]
      exact ⟨fun u => ⟨u.1, u.2.resolve_left ha⟩, fun u => ⟨u.1, .inr u.2⟩⟩
    · unfold El Kp; rw [RM.lat h.r hl hp.1]
  · obtain ⟨i, -, hi, rfl⟩ := lsK_mem n 0 j hj
    exact (h2.2.2.2.2.1 i (by omega)).1
  · rw [i_eq, foldl_i (R := fun l => (cRest S l).toInt) n 0 0 (fun i _ hi => ?_) (by decide) (by show (0 : Int) + n * 9999 < 100000000; omega), hsum]
    · show (0 : Int) + _ = _; omega
    · have hk := (h2.2.2.2.2.1 i (by omega)).1
      rw [RM.rest h.r hk]
      exact ⟨rfl, hR i (by omega)⟩
  · have hn : (z_I (cLUp (cLuT a b) S) 0 0 11).toNatClampNeg = n := by rw [h2.1]; exact z_nIc (by omega)
    unfold aMatch
    rw [hn]
    refine sim_recGo hr (by rw [eL]; exact hL) ha (fun l hl hp => ⟨(cLatest (cLUp (cLuT a b) S) l).toInt, rfl, ?_⟩) (fun i hi => by rw [eR]; exact hR i hi) n 0 c 0 _ N (by omega) (hI N hN) h0 ?_
    · have := h.ia.lat (l := l) (by rw [← eL]; exact hl) (by rw [← e3]; exact hp.1)
      have el : cLatest (cLUp (cLuT a b) S) l = cLatest S l := by unfold cLatest; rw [e3, e3]
      rw [el]; omega
    · rw [iSf_ext (R := fun l => (cRest S l).toInt) n 0 fun i _ _ => by rw [eR], hsum]; exact hle
end Re35
