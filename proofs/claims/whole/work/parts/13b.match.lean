set_option maxHeartbeats 400000
/-! ===== CLASS AND MODEL: match ===== -/
section Re34
variable {d i k g s l l' t q n p T j L m : Nat} {v w a b c e f x y z : Int32} {S S' M M' N S0 X : zS} {B : Int} {K : Nat → Nat} {E : Nat → Int} {P : Nat → Prop}
def El (S : zS) (l : Nat) : Int := (cLatest S l).toInt * 40 + l
theorem El_inj (hL : cL S ≤ 40) : ∀ i j, i < cL S → j < cL S → El S i = El S j → i = j := fun i j hi hj he => by
  unfold El at he; omega
theorem row_T (hL : cL S ≤ 40) (hi : InvA B T S) : ∃ n K, Rw0 S (cLUp (cLuT v w) S) ∧ rowIs (cLUp (cLuT v w) S) (El S) (fun l => z_I S 3 l 0 = 1 ∧ z_I S 3 l 2 = v ∧ z_I S 3 l 3 = w) (cL S) n K := by
  refine row_up (cLuT v w) (fun l => cLatest S l) (fun i X hX hi' => ?_) (fun i hi' hp => ?_) (El_inj hL) hL
  · have e3 : ∀ f, z_I X 3 i f = z_I S 3 i f := fun f => hX.1 3 i f (by omega) (by omega)
    have eL : cLatest X i = cLatest S i := by unfold cLatest; rw [e3, e3]
    unfold cLuT
    rw [e3, e3, e3, eL]
    by_cases u : z_I S 3 i 0 = 1 ∧ z_I S 3 i 2 = v ∧ z_I S 3 i 3 = w
    · rw [if_pos u]; exact .inl ⟨u, rfl⟩
    · rw [if_neg u]; exact .inr ⟨u, rfl⟩
  · have := hi.lat hi' hp.1
    exact i_ent (by omega) (by omega) (by omega)
theorem row_G (hL : cL S ≤ 40) (hi : InvA B T S) : ∃ n K, Rw0 S (cLUp cLuG S) ∧ rowIs (cLUp cLuG S) (El S) (fun l => z_I S 3 l 0 = 1) (cL S) n K := by
  refine row_up cLuG (fun l => cLatest S l) (fun i X hX hi' => ?_) (fun i hi' hp => ?_) (El_inj hL) hL
  · have e3 : ∀ f, z_I X 3 i f = z_I S 3 i f := fun f => hX.1 3 i f (by omega) (by omega)
    have eL : cLatest X i = cLatest S i := by unfold cLatest; rw [e3, e3]
    unfold cLuG
    rw [e3, eL]
    by_cases u : z_I S 3 i 0 = 1
    · rw [if_pos u]; exact .inl ⟨u, rfl⟩
    · rw [if_neg u]; exact .inr ⟨u, rfl⟩
  · have := hi.lat hi' hp
    exact i_ent (by omega) (by omega) (by omega)
theorem row_L (hL : cL S ≤ 40) : ∃ n K, Rw0 S (cLUp cLuL S) ∧ rowIs (cLUp cLuL S) (fun l => (l : Int)) (fun l => z_I S 3 l 0 = 1 ∧ cLatest S l < z_I S 0 0 0) (cL S) n K := by
  refine row_up cLuL (fun _ => 0) (fun i X hX hi' => ?_) (fun i hi' hp => ?_) (fun i j _ _ h => by omega) hL
  · have e3 : ∀ f, z_I X 3 i f = z_I S 3 i f := fun f => hX.1 3 i f (by omega) (by omega)
    have eL : cLatest X i = cLatest S i := by unfold cLatest; rw [e3, e3]
    unfold cLuL
    rw [e3, eL, hX.1 0 0 0 (by omega) (by omega)]
    by_cases u : z_I S 3 i 0 = 1 ∧ cLatest S i < z_I S 0 0 0
    · rw [if_pos u]; exact .inl ⟨u, rfl⟩
    · rw [if_neg u]; exact .inr ⟨u, rfl⟩
  · have := i_ent (v := 0) (i := i) (by decide) (by decide) (by omega)
    rw [this]; show (0 : Int) * 40 + i = i; omega
-- one receipt
theorem sim_recSt (h : Ok B T S M) (hl : l < cL S) (hs : z_I S 3 l 0 = 1) (hq : 0 ≤ x.toInt) (hq2 : x.toInt ≤ (cRest S l).toInt) : Ok B T (cRecSt S l x) (mMaSt M l x) ∧ Fo l S (cRecSt S l x) ∧ (∀ f, f ≠ 0 → f ≠ 8 → f ≠ 9 → f ≠ 10 → f ≠ 11 → z_I (cRecSt S l x) 3 l f = z_I S 3 l f) ∧ (z_I (cRecSt S l x) 3 l 0 = 1 ∨ z_I (cRecSt S l x) 3 l 0 = 2) := by
  obtain ⟨r1, r2, r3, r4, r5, r6⟩ := sim_recv h.r h.ia hl hs ((h.nd l hl).1 hs) hq hq2
  have hl1 : l < cL (cReceive S l x) := by rw [r3.L]; exact hl
  have hs1 : z_I (cReceive S l x) 3 l 0 = 1 := by rw [r5 0 (by omega)]; exact hs
  have ef : cFr (cReceive S l x) l = cFr S l := congrArg Int32.toNatClampNeg (r5 1 (by omega))
  have eR := RM.rest r1 hl1
  unfold cRecSt mMaSt
  rw [RM.fr h.r hl, eR]
  by_cases u : cRest (cReceive S l x) l = 0
  · rw [if_pos u, if_pos u]
    have eT : mTime (mComes M l (cFr S l) x) l = cLastOut (cReceive S l x) l - z_I (cReceive S l x) 3 l 7 := by
      unfold mTime; rw [RM.lat r1 hl1 hs1, RM.day r1, RM.lbg r1 hl1 hs1, mMin_c]; rfl
    obtain ⟨s1, s2, s3, s4, s5, s6⟩ := sim_close (v := 2) (x := z_I (mComes M l (cFr S l) x) 22 0 (211 + 17 * l + 7)) (y := z_I (cReceive S l x) 3 l 7) r1 r2 hl1 hs1 eT (.inl u) (.inl rfl)
    rw [ef] at s1
    exact ⟨⟨s1, s2, (h.nd.xx.fo (.tr r3 s3)).nn s4⟩, .tr r3 s3, fun f f0 f8 f9 f10 f11 => (s5 f f0 f9 f10 f11).trans (r5 f f8), .inr s6⟩
  · rw [if_neg u, if_neg u]
    exact ⟨⟨r1, r2, (h.nd.xx.fo r3).nn ⟨fun _ => r4, fun w => absurd hs1 w⟩⟩, r3, fun f _ f8 _ _ _ => r5 f f8, .inl hs1⟩
-- sums over a row
theorem iSum_0 : ∀ n, iSum (fun _ => 0) n = 0
  | 0 => rfl
  | n + 1 => by show iSum _ n + 0 = 0; rw [iSum_0 n]; rfl
theorem iSum_row {R : Nat → Int} : ∀ (n : Nat) (P : Nat → Prop) (_ : ∀ l, Decidable (P l)), (∀ a b, a < b → b < n → K a ≠ K b) → (∀ j, j < n → K j < L ∧ P (K j)) → (∀ l, l < L → P l → ∃ j, j < n ∧ K j = l) → iSum (fun l => if P l then R l else 0) L = iSum (fun j => R (K j)) n
  | 0, P, _, _, _, h3 => by
    show _ = (0 : Int)
    have e : iSum (fun l => if P l then R l else 0) L = iSum (fun _ => 0) L := iSum_ext _ fun l hl => if_neg fun u => by obtain ⟨j, hj, -⟩ := h3 l hl u; omega
    rw [e]; exact iSum_0 L
  | n + 1, P, dP, h1, h2, h3 => by
    have ih := iSum_row (R := R) n (fun l => P l ∧ l ≠ K n) (fun l => instDecidableAnd) (fun a b h4 h5 => h1 a b h4 (by omega)) (fun j hj => ⟨(h2 j (by omega)).1, (h2 j (by omega)).2, h1 j n hj (by omega)⟩) (fun l hl u => by
      obtain ⟨j, hj, e⟩ := h3 l hl u.1
      have : j ≠ n := fun w => u.2 (by rw [← e, w])
      exact ⟨j, by omega, e⟩)
    show _ = iSum _ n + R (K n)
    rw [← ih]
    have hn := h2 n (by omega)
    rw [iSum_up (l := K n) (F := fun l => if P l ∧ l ≠ K n then R l else 0) (H := fun l => if P l then R l else 0) L hn.1 fun i hi hne => ?_]
    · show _ + ((if P (K n) then R (K n) else 0) - (if P (K n) ∧ K n ≠ K n then R (K n) else 0)) = _
      rw [if_pos hn.2, if_neg (fun u => u.2 rfl)]; omega
    · show (if P i ∧ i ≠ K n then R i else 0) = (if P i then R i else 0)
      by_cases u : P i
      · rw [if_pos ⟨u, hne⟩, if_pos u]
      · rw [if_neg (fun w => u w.1), if_neg u]
def iSf (R : Nat → Int) (K : Nat → Nat) : Nat → Nat → Int
  | _, 0 => 0
  | j, m + 1 => R (K j) + iSf R K (j + 1) m
theorem iSf_last {R : Nat → Int} : ∀ (m j : Nat), iSf R K j (m + 1) = iSf R K j m + R (K (j + m))
  | 0, j => by show R (K j) + 0 = 0 + R (K (j + 0)); rw [Nat.add_zero]; omega
  | m + 1, j => by
    show R (K j) + iSf R K (j + 1) (m + 1) = R (K j) + iSf R K (j + 1) m + R (K (j + (m + 1)))
    rw [iSf_last m (j + 1), show j + 1 + m = j + (m + 1) by omega]; omega
theorem iSf_sum {R : Nat → Int} : ∀ n, iSf R K 0 n = iSum (fun j => R (K j)) n
  | 0 => rfl
  | n + 1 => by rw [iSf_last, iSf_sum n, Nat.zero_add]; rfl
theorem iSf_ext {R R' : Nat → Int} : ∀ (m j : Nat), (∀ i, j ≤ i → i < j + m → R' (K i) = R (K i)) → iSf R' K j m = iSf R K j m
  | 0, _, _ => rfl
  | m + 1, j, h => by
    show R' (K j) + _ = R (K j) + _
    rw [h j (by omega) (by omega), iSf_ext m (j + 1) fun i h1 h2 => h i (by omega) (by omega)]
theorem iSf_b {R : Nat → Int} : ∀ (m j : Nat), (∀ i, j ≤ i → i < j + m → 0 ≤ R (K i) ∧ R (K i) ≤ 9999) → 0 ≤ iSf R K j m ∧ iSf R K j m ≤ m * 9999
  | 0, _, _ => ⟨Int.le_refl _, by show (0 : Int) ≤ _; omega⟩
  | m + 1, j, h => by
    have h1 := h j (by omega) (by omega)
    have h2 := iSf_b m (j + 1) fun i h1 h2 => h i (by omega) (by omega)
    show 0 ≤ R (K j) + iSf R K (j + 1) m ∧ R (K j) + iSf R K (j + 1) m ≤ _
    omega
theorem foldl_i {R : Nat → Int} {F : Nat → Int32} : ∀ (m j : Nat) (x : Int32), (∀ i, j ≤ i → i < j + m → (F (K i)).toInt = R (K i) ∧ 0 ≤ R (K i) ∧ R (K i) ≤ 9999) → 0 ≤ x.toInt → x.toInt + m * 9999 < 100000000 → ((lsK K j m).foldl (fun x l => x + F l) x).toInt = x.toInt + iSf R K j m
  | 0, _, x, _, _, _ => by show x.toInt = x.toInt + 0; omega
  | m + 1, j, x, h, h0, hb => by
    have h1 := h j (by omega) (by omega)
    have e : (x + F (K j)).toInt = x.toInt + R (K j) := by rw [i_add (by omega) (by omega), h1.1]
    show ((lsK K (j + 1) m).foldl (fun x l => x + F l) (x + F (K j))).toInt = x.toInt + (R (K j) + iSf R K (j + 1) m)
    rw [foldl_i m (j + 1) _ (fun i h2 h3 => h i (by omega) (by omega)) (by omega) (by omega), e]; omega
theorem restsTo_i (h : InvA B T S) : ∀ (m : Nat), m ≤ cL S → cL S ≤ 40 → (cRestsTo S v w m 0 0).toInt = iSum (fun l => if z_I S 3 l 0 = 1 ∧ z_I S 3 l 2 = v ∧ z_I S 3 l 3 = w then (cRest S l).toInt else 0) m ∧ 0 ≤ (cRestsTo S v w m 0 0).toInt ∧ (cRestsTo S v w m 0 0).toInt ≤ m * 9999
  | 0, _, _ => ⟨rfl, Int.le_refl _, by show (0 : Int) ≤ _; omega⟩
  | m + 1, hm, h40 => by
    obtain ⟨h1, h2, h3⟩ := restsTo_i h m (by omega) h40
    have hr := h.rest (l := m) (by omega)
    have e : cRestsTo S v w (m + 1) 0 0 = if z_I S 3 m 0 = 1 ∧ z_I S 3 m 2 = v ∧ z_I S 3 m 3 = w then cRestsTo S v w m 0 0 + cRest S m else cRestsTo S v w m 0 0 := by
      unfold cRestsTo
      rw [z_it_add m 1]
      show (if _ then _ else _) = _
      rw [Nat.zero_add]
    rw [e]
    show _ = iSum _ m + (if z_I S 3 m 0 = 1 ∧ z_I S 3 m 2 = v ∧ z_I S 3 m 3 = w then (cRest S m).toInt else 0) ∧ _
    by_cases u : z_I S 3 m 0 = 1 ∧ z_I S 3 m 2 = v ∧ z_I S 3 m 3 = w
    · rw [if_pos u, if_pos u, ← h1]
      have : (cRestsTo S v w m 0 0 + cRest S m).toInt = (cRestsTo S v w m 0 0).toInt + (cRest S m).toInt := i_add (by omega) (by omega)
      rw [this]; exact ⟨rfl, by omega, by omega⟩
    · rw [if_neg u, if_neg u, ← h1]; exact ⟨by omega, h2, by omega⟩
end Re34
