set_option maxHeartbeats 400000
/-! ===== CLASS AND MODEL: dayOf, cheapest ===== -/
section Re38
variable {d i k g s l l' t q n p T j L m D : Nat} {v w a b c e x y z : Int32} {S S' M M' N S0 X : zS} {B : Int} {gr : Bool}
def rF (S : zS) (k D : Nat) (gr : Bool) (i : Nat) : Int := if gr = true then -(cRate S k (nI (D + i))).toInt else (cRate S k (nI (D + i))).toInt
theorem rF_f : rF S k D false i = (cRate S k (nI (D + i))).toInt := if_neg (by decide)
theorem rF_t : rF S k D true i = -(cRate S k (nI (D + i))).toInt := if_pos rfl
theorem nI_at (h1 : nI D < x) (h2 : x ≤ nI (D + n)) (hD : D + n < 100000) : ∃ c, 0 < c ∧ c ≤ n ∧ x = nI (D + c) := by
  rw [i_lt, i_nI (by omega)] at h1
  rw [i_le, i_nI (by omega)] at h2
  refine ⟨x.toInt.toNat - D, by omega, by omega, ?_⟩
  rw [i_eq, i_nI (by omega)]; omega
theorem cExtGo_is (hs : cSrt S k (cTold S k)) (hD : D + n < 100000) : ∀ (m i y : Nat), i + m = cTold S k → CE S k D n (rF S k D gr) i y → ∃ y', CE S k D n (rF S k D gr) (cTold S k) y' ∧ cExtGo S k (nI D) (nI (D + n)) gr m i (nI (D + y)) (cRate S k (nI (D + y))) = nI (D + y')
  | 0, i, y, hi, h => ⟨y, by rw [show cTold S k = i by omega]; exact h, rfl⟩
  | m + 1, i, y, hi, h => by
    have hit : i < cTold S k := by omega
    have st := h.st hD fun j hj => hs j i hj hit
    have er := rate_told hs hit
    unfold cExtGo
    by_cases hc : (nI D < z_I S 12 k i ∧ z_I S 12 k i ≤ nI (D + n)) ∧ (if gr = true then cRate S k (nI (D + y)) < z_I S 13 k i else z_I S 13 k i < cRate S k (nI (D + y)))
    · rw [if_pos hc]
      obtain ⟨c, c0, cn, ec⟩ := nI_at hc.1.1 hc.1.2 hD
      have := st.1 c c0 cn ec (by
        have h2 := hc.2
        rw [← er, ec] at h2
        unfold rF
        cases gr with
        | true => rw [if_pos rfl, i_lt] at h2; rw [if_pos rfl, if_pos rfl]; omega
        | false => rw [if_neg (by decide), i_lt] at h2; rw [if_neg (by decide), if_neg (by decide)]; omega)
      obtain ⟨y', q1, q2⟩ := cExtGo_is hs hD m (i + 1) c (by omega) this
      refine ⟨y', q1, ?_⟩
      rw [← er, ec]; exact q2
    · rw [if_neg hc]
      have := st.2 fun c c0 cn ec hlt => hc ⟨⟨by rw [ec, i_lt, i_nI (by omega), i_nI (by omega)]; omega, by rw [ec, i_le, i_nI (by omega), i_nI (by omega)]; omega⟩, by
        rw [← er, ec]
        unfold rF at hlt
        cases gr with
        | true => rw [if_pos rfl, if_pos rfl] at hlt; rw [if_pos rfl, i_lt]; omega
        | false => rw [if_neg (by decide), if_neg (by decide)] at hlt; rw [if_neg (by decide), i_lt]; omega⟩
      exact cExtGo_is hs hD m (i + 1) y (by omega) this
theorem cExt_is (hs : cSrt S k (cTold S k)) (hD : D + n < 100000) : ∃ y, argm (rF S k D gr) n y ∧ cExt S k (nI D) (nI (D + n)) gr = nI (D + y) := by
  obtain ⟨y, h1, h2⟩ := cExtGo_is (gr := gr) hs hD (cTold S k) 0 0 (by omega) .i0
  refine ⟨y, argm_of (C := tdC S k D (cTold S k)) h1.1 h1.2.2.1 h1.2.2.2 (fun c hc hno => ?_), h2⟩
  have := rate_same (m := D + c) hs (by omega) fun j hj e => hno ⟨j, hj, by rw [e, Nat.add_assoc]⟩
  unfold rF
  rw [← Nat.add_assoc, this]; exact Int.le_refl _
theorem mDy_go (hr : rRt S (rR M) k) (hb : ∀ x, 0 ≤ (cRate S k x).toInt ∧ (cRate S k x).toInt ≤ 999) (hw : gr = decide (w = 1)) (hw2 : w = 0 ∨ w = 1) : ∀ (m i y : Nat), argm (rF S k D gr) i y → ∃ y', argm (rF S k D gr) (i + m) y' ∧ z_it (mDyF M k w D) m i (nI (D + y)) = nI (D + y')
  | 0, i, y, h => ⟨y, h, rfl⟩
  | m + 1, i, y, h => by
    show ∃ y', argm (rF S k D gr) (i + (m + 1)) y' ∧ z_it (mDyF M k w D) m (i + 1) (mDyF M k w D i (nI (D + y))) = nI (D + y')
    have st := argm_st h
    have hd : (cRate S k (nI (D + 1 + i)) - cRate S k (nI (D + y))).toInt = (cRate S k (nI (D + 1 + i))).toInt - (cRate S k (nI (D + y))).toInt := by
      have := hb (nI (D + 1 + i)); have := hb (nI (D + y)); exact i_sub (by omega) (by omega)
    have z0 : (0 : Int32).toInt = 0 := rfl
    have e1 : D + 1 + i = D + (i + 1) := by omega
    have key : mDyF M k w D i (nI (D + y)) = if rF S k D gr (i + 1) < rF S k D gr y then nI (D + (i + 1)) else nI (D + y) := by
      unfold mDyF mDyX
      rw [hr.rate, hr.rate]
      rcases hw2 with rfl | rfl
      · rw [if_pos rfl, show gr = false from hw, rF_f, rF_f]
        by_cases u : cRate S k (nI (D + 1 + i)) - cRate S k (nI (D + y)) < 0
        · rw [if_pos u, if_pos (by rw [i_lt, hd] at u; rw [← e1]; omega), e1]
        · rw [if_neg u, if_neg (by rw [i_lt, hd] at u; rw [← e1]; omega)]
      · rw [if_neg (by decide), show gr = true from hw, rF_t, rF_t]
        by_cases u : 0 < cRate S k (nI (D + 1 + i)) - cRate S k (nI (D + y))
        · rw [if_pos u, if_pos (by rw [i_lt, hd] at u; rw [← e1]; omega), e1]
        · rw [if_neg u, if_neg (by rw [i_lt, hd] at u; rw [← e1]; omega)]
    rw [key, show i + (m + 1) = i + 1 + m by omega]
    by_cases u : rF S k D gr (i + 1) < rF S k D gr y
    · rw [if_pos u]; exact mDy_go hr hb hw hw2 m (i + 1) (i + 1) (st.1 u)
    · rw [if_neg u]; exact mDy_go hr hb hw hw2 m (i + 1) y (st.2 u)
theorem ask_dayOf (h : RM S M) (hi : InvA B T S) (hk : k < 5) (hD : D + n < 100000) (hw2 : w = 0 ∨ w = 1) : z_it (mDyF M k w D) n 0 (nI D) = cExt S k (nI D) (nI (D + n)) (decide (w = 1)) := by
  obtain ⟨y, h1, h2⟩ := cExt_is (gr := decide (w = 1)) (h.rt hk).2.1 hD
  obtain ⟨y', h3, h4⟩ := mDy_go (D := D) (h.rt hk) (fun x => hi.rate hk) rfl hw2 n 0 0 ⟨Nat.le_refl _, fun x hx => by rw [show x = 0 by omega]; exact Int.le_refl _, fun x hx => absurd hx (Nat.not_lt_zero _)⟩
  rw [Nat.zero_add] at h3
  rw [h2, ← argm_u h3 h1]; exact h4
-- cheapest
def gF (S : zS) (k D : Nat) (w : Int32) (i : Nat) : Int := (cGr S k (nI (D + i)) (nI (D + i) + w)).toInt
theorem cChGo_is (hs : cSrt S k (cTold S k)) (hD : D + n < 100000) : ∀ (m i y : Nat), i + m = cTold S k → CE S k D n (gF S k D w) i y → ∃ y', CE S k D n (gF S k D w) (cTold S k) y' ∧ cChGo S k (nI D) (nI (D + n)) w m i (nI (D + y)) (cGr S k (nI (D + y)) (nI (D + y) + w)) = nI (D + y')
  | 0, i, y, hi, h => ⟨y, by rw [show cTold S k = i by omega]; exact h, rfl⟩
  | m + 1, i, y, hi, h => by
    have hit : i < cTold S k := by omega
    have st := h.st hD fun j hj => hs j i hj hit
    unfold cChGo
    by_cases hc : nI D < z_I S 12 k i ∧ z_I S 12 k i ≤ nI (D + n) ∧ cGr S k (z_I S 12 k i) (z_I S 12 k i + w) < cGr S k (nI (D + y)) (nI (D + y) + w)
    · rw [if_pos hc]
      obtain ⟨c, c0, cn, ec⟩ := nI_at hc.1 hc.2.1 hD
      have := st.1 c c0 cn ec (by
        have h2 := hc.2.2
        rw [ec, i_lt] at h2
        exact h2)
      obtain ⟨y', q1, q2⟩ := cChGo_is hs hD m (i + 1) c (by omega) this
      refine ⟨y', q1, ?_⟩
      rw [ec]; exact q2
    · rw [if_neg hc]
      have := st.2 fun c c0 cn ec hlt => hc ⟨by rw [ec, i_lt, i_nI (by omega), i_nI (by omega)]; omega, by rw [ec, i_le, i_nI (by omega), i_nI (by omega)]; omega, by
        rw [ec, i_lt]; exact hlt⟩
      exact cChGo_is hs hD m (i + 1) y (by omega) this
theorem cCheap_is (hs : cSrt S k (cTold S k)) (hD : D + n < 100000) (hw : 0 ≤ w.toInt ∧ w.toInt ≤ 1000) : ∃ y, argm (gF S k D w) n y ∧ cCheap S k (nI D) (nI (D + n)) w = nI (D + y) := by
  obtain ⟨y, h1, h2⟩ := cChGo_is (w := w) hs hD (cTold S k) 0 0 (by omega) .i0
  refine ⟨y, argm_of (C := tdC S k D (cTold S k)) h1.1 h1.2.2.1 h1.2.2.2 (fun c hc hno => ?_), h2⟩
  exact gr_same (m := D + c) hs (by omega) hw fun j hj e => hno ⟨j, hj, by rw [e, Nat.add_assoc]⟩
theorem mCh_go (hr : rRt S (rR M) k) (hw : 0 ≤ w.toInt ∧ w.toInt ≤ 1000) (hD : D + n < 100000) : ∀ (m i y : Nat), i + m = n → argm (gF S k D w) i y → ∃ y', argm (gF S k D w) (i + m) y' ∧ z_it (mChF M k w D) m (i + 1) (nI (D + y), cGr S k (nI (D + y)) (nI (D + y) + w)) = (nI (D + y'), cGr S k (nI (D + y')) (nI (D + y') + w))
  | 0, i, y, _, h => ⟨y, h, rfl⟩
  | m + 1, i, y, hn, h => by
    show ∃ y', argm (gF S k D w) (i + (m + 1)) y' ∧ z_it (mChF M k w D) m (i + 1 + 1) (mChF M k w D (i + 1) (nI (D + y), cGr S k (nI (D + y)) (nI (D + y) + w))) = _
    have st := argm_st h
    have hy := h.1
    have eg : mGr M k (nI (D + (i + 1))) (nI (D + (i + 1)) + w) = cGr S k (nI (D + (i + 1))) (nI (D + (i + 1)) + w) := hr.gr (by
      rw [i_le, i_add (by rw [i_nI (by omega)]; omega) (by rw [i_nI (by omega)]; omega)]; omega)
    have m1 : (-1 : Int32).toInt = -1 := rfl
    have key : mChF M k w D (i + 1) (nI (D + y), cGr S k (nI (D + y)) (nI (D + y) + w)) = if gF S k D w (i + 1) < gF S k D w y then (nI (D + (i + 1)), cGr S k (nI (D + (i + 1))) (nI (D + (i + 1)) + w)) else (nI (D + y), cGr S k (nI (D + y)) (nI (D + y) + w)) := by
      unfold mChF mChX
      rw [eg]
      by_cases u : gF S k D w (i + 1) < gF S k D w y
      · rw [if_pos u, if_pos (.inr (i_lt.mpr u))]
      · rw [if_neg u, if_neg (fun w' => by
          rcases w' with w1 | w1
          · rw [i_eq, i_nI (by omega), m1] at w1; omega
          · exact u (i_lt.mp w1))]
        dsimp only
        rw [if_neg (fun e => by have := nI_inj (by omega) (by omega) e; omega)]
    rw [key, show i + (m + 1) = i + 1 + m by omega]
    by_cases u : gF S k D w (i + 1) < gF S k D w y
    · rw [if_pos u]; exact mCh_go hr hw hD m (i + 1) (i + 1) (by omega) (st.1 u)
    · rw [if_neg u]; exact mCh_go hr hw hD m (i + 1) y (by omega) (st.2 u)
theorem ask_cheap (h : RM S M) (hi : InvA B T S) (hk : k < 5) (hw : 1 ≤ w.toInt ∧ w.toInt ≤ 180) : mChp M k w a = qCheap S k w a := by
  have hd := hi.dy
  obtain ⟨e1, e2⟩ := nI_is (v := z_I S 0 0 0) hd.1
  have e4 : (z_I S 0 0 0 + 400 - 1) = nI ((z_I S 0 0 0).toNatClampNeg + 399) := by
    have o1 : (1 : Int32).toInt = 1 := rfl
    have o4 : (400 : Int32).toInt = 400 := rfl
    have : (z_I S 0 0 0 + 400).toInt = (z_I S 0 0 0).toInt + 400 := i_add (by omega) (by omega)
    rw [i_eq, i_sub (by omega) (by omega), this, i_nI (by omega)]; omega
  obtain ⟨y, h1, h2⟩ := cCheap_is (D := (z_I S 0 0 0).toNatClampNeg) (n := 399) (h.rt hk).2.1 (by omega) (w := w) (by omega)
  rw [← e4, ← e1] at h2
  have e0 : mChF M k w (z_I S 0 0 0).toNatClampNeg 0 (-1, 0) = (nI ((z_I S 0 0 0).toNatClampNeg + 0), cGr S k (nI ((z_I S 0 0 0).toNatClampNeg + 0)) (nI ((z_I S 0 0 0).toNatClampNeg + 0) + w)) := by
    unfold mChF mChX
    rw [if_pos (.inl rfl), (h.rt hk).gr (by rw [i_le, i_add (by rw [i_nI (by omega)]; omega) (by rw [i_nI (by omega)]; omega)]; omega)]
  obtain ⟨y', h3, h4⟩ := mCh_go (D := (z_I S 0 0 0).toNatClampNeg) (n := 399) (w := w) (h.rt hk) (by omega) (by omega) 399 0 0 (by omega) ⟨Nat.le_refl _, fun x hx => by rw [show x = 0 by omega]; exact Int.le_refl _, fun x hx => absurd hx (Nat.not_lt_zero _)⟩
  rw [Nat.zero_add] at h3
  have ey := argm_u h3 h1
  have eM : z_it (mChF M k w (z_I M 22 0 0).toNatClampNeg) 400 0 (-1, 0) = (nI ((z_I S 0 0 0).toNatClampNeg + y), cGr S k (nI ((z_I S 0 0 0).toNatClampNeg + y)) (nI ((z_I S 0 0 0).toNatClampNeg + y) + w)) := by
    rw [RM.day h, ← ey, ← h4, ← e0]; rfl
  unfold mChp qCheap qChD
  rw [eM, h2]
end Re38
