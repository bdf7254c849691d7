set_option maxHeartbeats 400000
/-! ===== CLASS AND MODEL: questions (2) ===== -/
section Re39
variable {d i k g s l l' t q n p T j L m D : Nat} {v w a b c e x y z : Int32} {S S' M M' N S0 X F : zS} {B : Int}
theorem RM.time (h : RM S M) (hl : l < cL S) (hs : z_I S 3 l 0 = 1) : mTime M l = cLastOut S l - z_I S 3 l 7 := by
  unfold mTime; rw [RM.lat h hl hs, RM.day h, RM.lbg h hl hs, mMin_c]; rfl
theorem ask_duty (h : RM S M) (hi : InvA B T S) (hl : l < cL S) (hs : z_I S 3 l 0 = 1) : mDuty M l (mRest M l - w) (mTime M l) a = qDuty S l w a := by
  have hk := hi.k5 hl
  unfold mDuty qDuty cDuty qSh cAllowed
  rw [RM.rest h hl, RM.time h hl hs, RM.kd h hl, RM.lqu h hl, RM.allow h hk, (h.rt hk).rate, mMin_c, cAllowed_m]
-- behind
theorem beh_go (h : RM S M) (hi : InvA B T S) (hg : g < 4) : ∀ (n i : Nat) (p : Int32 × Int32 × Int32 × Int32) (r : Int32 × Option Nat × Int32 × Int32), i + n = cL S → p.1 = r.1 ∧ p.2.1 = oI r.2.1 ∧ p.2.2.1 = r.2.2.1 ∧ p.2.2.2 = r.2.2.2 ∧ (∀ j, r.2.1 = some j → j < cL S) →
    (qBeh S g n i p).1 = (z_it (mBeS M g) n i r).1 ∧ (qBeh S g n i p).2.1 = oI (z_it (mBeS M g) n i r).2.1 ∧ (qBeh S g n i p).2.2.1 = (z_it (mBeS M g) n i r).2.2.1 ∧ (qBeh S g n i p).2.2.2 = (z_it (mBeS M g) n i r).2.2.2
  | 0, i, p, r, _, hp => ⟨hp.1, hp.2.1, hp.2.2.1, hp.2.2.2.1⟩
  | n + 1, i, p, r, hin, hp => by
    have hl : i < cL S := by omega
    have hL := h.L40
    have key := beh_go h hi hg n (i + 1) (qBehS S g i p) (mBeS M g i r) (by omega) ?_
    · exact key
    obtain ⟨p1, p2, p3, p4, p5⟩ := hp
    unfold qBehS mBeS
    rw [RM.st h hl, RM.lh h hl hg]
    by_cases u : z_I S 3 i 0 = 1 ∧ ¬ z_I S 14 i g ≤ 0
    · rw [if_pos u, if_pos u, RM.lat h hl u.1, RM.day h]
      refine ⟨by show p.1 + 1 = r.1 + 1; rw [p1], ?_, ?_, ?_, fun j hj => ?_⟩
      · show (if p.2.1 = -1 ∨ ¬ z_I S 14 i g ≤ z_I S 14 p.2.1.toNatClampNeg g then nI i else p.2.1) = oI (match r.2.1 with
          | none => some i
          | some j => if z_I S 14 i g ≤ z_I M 22 0 (211 + 17 * j + 13 + g) then some j else some i)
        cases ho : r.2.1 with
        | none =>
          rw [ho] at p2
          rw [if_pos (.inl p2)]; rfl
        | some j =>
          rw [ho] at p2
          have hj := p5 j ho
          have p2' : p.2.1 = nI j := p2
          have nj : ¬ p.2.1 = -1 := by
            rw [p2', i_eq, i_nI (by omega)]
            have : (-1 : Int32).toInt = -1 := rfl
            omega
          dsimp only
          rw [RM.lh h hj hg, p2', z_nIc (by omega)]
          rw [p2'] at nj
          by_cases u2 : z_I S 14 i g ≤ z_I S 14 j g
          · rw [if_neg (fun w => w.elim nj fun w => w u2), if_pos u2]; rfl
          · rw [if_pos (.inr u2), if_neg u2]; rfl
      · show (if p.2.2.1 < cLatest S i then cLatest S i else p.2.2.1) = (if r.2.2.1 ≤ cLatest S i then cLatest S i else r.2.2.1)
        rw [p3]
        by_cases u2 : r.2.2.1 < cLatest S i
        · rw [if_pos u2, if_pos (by rw [i_lt] at u2; rw [i_le]; omega)]
        · rw [if_neg u2]
          by_cases u3 : r.2.2.1 ≤ cLatest S i
          · rw [if_pos u3, i_eq]; rw [i_lt] at u2; rw [i_le] at u3; omega
          · rw [if_neg u3]
      · show p.2.2.2 + (if cLatest S i < z_I S 0 0 0 then z_I S 14 i g else 0) = r.2.2.2 + (if z_I S 0 0 0 ≤ cLatest S i then 0 else z_I S 14 i g)
        rw [p4]
        by_cases u2 : cLatest S i < z_I S 0 0 0
        · rw [if_pos u2, if_neg (by rw [i_lt] at u2; rw [i_le]; omega)]
        · rw [if_neg u2, if_pos (by rw [i_lt] at u2; rw [i_le]; omega)]
      · change (match r.2.1 with
          | none => some i
          | some j => if z_I S 14 i g ≤ z_I M 22 0 (211 + 17 * j + 13 + g) then some j else some i) = some j at hj
        cases ho : r.2.1 with
        | none => rw [ho] at hj; cases hj; exact hl
        | some j' =>
          rw [ho] at hj
          dsimp only at hj
          by_cases u2 : z_I S 14 i g ≤ z_I M 22 0 (211 + 17 * j' + 13 + g)
          · rw [if_pos u2] at hj; cases hj; exact p5 _ ho
          · rw [if_neg u2] at hj; cases hj; exact hl
    · rw [if_neg u, if_neg u]; exact ⟨p1, p2, p3, p4, p5⟩
theorem ask_behind (h : RM S M) (hi : InvA B T S) (hg : g < cG S) : qBehind S g w = if ¬ (w < 0 ∨ 3 < w) then mBeh M g w else -1 := by
  have hG := h.G4
  obtain ⟨b1, b2, b3, b4⟩ := beh_go (g := g) h hi (by omega) (cL S) 0 (0, -1, -1, 0) (0, none, -1, 0) (by omega) ⟨rfl, rfl, rfl, rfl, fun j u => by cases u⟩
  unfold qBehind mBeh mBeQ
  rw [RM.mN h]
  have z0 : (0 : Int32).toInt = 0 := rfl
  have z3 : (3 : Int32).toInt = 3 := rfl
  by_cases u : w < 0 ∨ 3 < w
  · rw [if_neg (fun w => w u), z_ch_out _ 0 fun k hk => ?_]
    have hk' : k < 4 := hk
    rw [i_lt, i_lt] at u
    rw [Ne, i_eq, i_nI (by omega)]; omega
  · rw [if_pos u]
    rw [i_lt, i_lt] at u
    obtain ⟨e1, e2⟩ := nI_is (v := w) (by omega)
    have hc := z_ch_get (D := (-1 : Int32)) [(qBeh S g (cL S) 0 (0, -1, -1, 0)).1, (qBeh S g (cL S) 0 (0, -1, -1, 0)).2.1, (qBeh S g (cL S) 0 (0, -1, -1, 0)).2.2.1, (qBeh S g (cL S) 0 (0, -1, -1, 0)).2.2.2] 0 w.toNatClampNeg (by omega)
    rw [Nat.zero_add, ← e1] at hc
    rw [hc]
    generalize w.toNatClampNeg = n at *
    have hn : n = 0 ∨ n = 1 ∨ n = 2 ∨ n = 3 := by omega
    rcases hn with rfl | rfl | rfl | rfl
    · rw [if_pos (by rw [e1]; rfl)]; exact b1
    · rw [if_neg (by rw [e1]; decide), if_pos (by rw [e1]; rfl)]; exact b2
    · rw [if_neg (by rw [e1]; decide), if_neg (by rw [e1]; decide), if_pos (by rw [e1]; rfl)]; exact b3
    · rw [if_neg (by rw [e1]; decide), if_neg (by rw [e1]; decide), if_neg (by rw [e1]; decide)]; exact b4
-- freed
theorem cCnt_i : ∀ (m : Nat), m ≤ 40 → (cCnt S v m 0 0).toInt = iSum (fun l => if z_I S 3 l 0 = v then 1 else 0) m ∧ 0 ≤ (cCnt S v m 0 0).toInt ∧ (cCnt S v m 0 0).toInt ≤ m
  | 0, _ => ⟨rfl, Int.le_refl _, by show (0 : Int) ≤ _; omega⟩
  | m + 1, hm => by
    obtain ⟨h1, h2, h3⟩ := cCnt_i m (by omega)
    have e : cCnt S v (m + 1) 0 0 = if z_I S 3 m 0 = v then cCnt S v m 0 0 + 1 else cCnt S v m 0 0 := by
      unfold cCnt
      rw [z_it_add m 1]
      show (if _ then _ else _) = _
      rw [Nat.zero_add]
    have o1 : (1 : Int32).toInt = 1 := rfl
    rw [e]
    show _ = iSum _ m + (if z_I S 3 m 0 = v then 1 else 0) ∧ _
    by_cases u : z_I S 3 m 0 = v
    · rw [if_pos u, if_pos u, i_add (by omega) (by omega), ← h1]; omega
    · rw [if_neg u, if_neg u, ← h1]; omega
theorem iSum_ad {P Q : Nat → Int} : ∀ n, iSum (fun l => P l + Q l) n = iSum P n + iSum Q n
  | 0 => rfl
  | n + 1 => by show iSum _ n + (P n + Q n) = iSum P n + P n + (iSum Q n + Q n); rw [iSum_ad n]; omega
theorem cnt_freed (hL : cL S ≤ 40) (hF : cL F = cL S) (hT : ∀ l, l < cL S → z_I F 3 l 0 = z_I S 3 l 0 ∨ (z_I S 3 l 0 = 0 ∧ z_I F 3 l 0 = 1)) : cCnt F 1 (cL F) 0 0 - cCnt S 1 (cL S) 0 0 = cCnt S 0 (cL S) 0 0 - cCnt F 0 (cL F) 0 0 := by
  rw [hF]
  obtain ⟨a1, a2, a3⟩ := cCnt_i (S := F) (v := 1) (cL S) hL
  obtain ⟨b1, b2, b3⟩ := cCnt_i (S := S) (v := 1) (cL S) hL
  obtain ⟨c1, c2, c3⟩ := cCnt_i (S := S) (v := 0) (cL S) hL
  obtain ⟨d1, d2, d3⟩ := cCnt_i (S := F) (v := 0) (cL S) hL
  rw [i_eq, i_sub (by omega) (by omega), i_sub (by omega) (by omega), a1, b1, c1, d1]
  have : iSum (fun l => (if z_I F 3 l 0 = 1 then 1 else 0) + (if z_I F 3 l 0 = 0 then 1 else 0)) (cL S) = iSum (fun l => (if z_I S 3 l 0 = 0 then 1 else 0) + (if z_I S 3 l 0 = 1 then 1 else 0)) (cL S) := iSum_ext _ fun l hl => by
    rcases hT l hl with u | ⟨u1, u2⟩
    · rw [u]; omega
    · rw [u1, u2]; rfl
  rw [iSum_ad, iSum_ad] at this
  omega
end Re39
