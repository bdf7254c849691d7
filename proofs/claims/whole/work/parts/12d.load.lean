set_option maxHeartbeats 200000
/-! ===== CLASS AND MODEL: a new load ===== -/
section Re24
variable {d i k g s l l' t q n p T j : Nat} {v w a b c e f x y z : Int32} {S S' M M' N : zS} {B : Int}
theorem RM.addL (h : RM S M) (hL : cL S < 40)
    (ho : ∀ k i f, ¬ (k = 3 ∧ i = cL S) → ¬ (k = 14 ∧ i = cL S) → ¬ (k = 0 ∧ i = 0 ∧ f = 5) → z_I S' k i f = z_I S k i f)
    (hj : ∀ k i f, ¬ (k = 3 ∧ i = cL S) → z_J S' k i f = z_J S k i f) (hc : z_I S' 0 0 5 = z_I S 0 0 5 + 1)
    (mo : ∀ j, j ≠ 3 → ¬ (211 + 17 * cL S ≤ j ∧ j < 211 + 17 * cL S + 17) → z_I M' 22 0 j = z_I M 22 0 j)
    (mj : ∀ j, ¬ (8 + 2 * cL S ≤ j ∧ j < 8 + 2 * cL S + 2) → z_J M' 23 0 j = z_J M 23 0 j) (mc : z_I M' 22 0 3 = z_I S 0 0 5 + 1)
    (n0 : z_I M' 22 0 (211 + 17 * cL S + 6) = z_I S' 3 (cL S) 0) (n1 : ∀ f, 1 ≤ f → f ≤ 6 → z_I M' 22 0 (211 + 17 * cL S + (f - 1)) = z_I S' 3 (cL S) f) (n8 : ∀ f, 8 ≤ f → f ≤ 12 → z_I M' 22 0 (211 + 17 * cL S + f) = z_I S' 3 (cL S) f)
    (nh : ∀ g, g < 4 → z_I M' 22 0 (211 + 17 * cL S + 13 + g) = z_I S' 14 (cL S) g) (nj : ∀ f, f < 2 → z_J M' 23 0 (8 + 2 * cL S + f) = z_J S' 3 (cL S) (13 + f)) (hb : rBg S' (rR M') (cL S)) : RM S' M' := by
  have z1 := z_nn1 (a := z_I S 0 0 5) h.cn.2.2 (by omega)
  have c3 : z_I S' 0 0 3 = z_I S 0 0 3 := ho 0 0 3 (by omega) (by omega) (by omega)
  have c4 : z_I S' 0 0 4 = z_I S 0 0 4 := ho 0 0 4 (by omega) (by omega) (by omega)
  have eG : cG S' = cG S := congrArg Int32.toNatClampNeg c3
  have eN : cS S' = cS S := congrArg Int32.toNatClampNeg c4
  have eL : cL S' = cL S + 1 := by show (z_I S' 0 0 5).toNatClampNeg = _; rw [hc]; exact z1.1
  have hS6 := h.S6
  have hG := h.G4
  refine ⟨?_, ?_, ?_, ?_, ?_, ?_, ?_⟩
  · unfold cCnts; rw [c3, c4, hc]
    exact ⟨h.cn.1, h.cn.2.1, z1.2.1.1, by rw [z1.1]; show cL S + 1 ≤ 40; omega⟩
  · rw [eG, eN, eL]
    intro k' i' f' j' hp hl
    have hP := hp
    obtain ⟨l1, l2, l3, l4⟩ := hl
    show z_I M' 22 0 j' = _
    have nd : ∀ {p : Prop} {a b : Nat}, a ≠ b → (a = b → p) := fun h u => absurd u h
    rcases hp with ⟨rfl, rfl, hp⟩ | ⟨rfl, hi, hf, rfl⟩ | ⟨rfl, hi, hf, rfl⟩ | ⟨rfl, hi, hp⟩ | ⟨rfl, hi, hp⟩ | ⟨rfl, hi, hf, rfl⟩
    · clear l1 l2 l3 l4
      by_cases u1 : f' = 5
      · rw [u1, hc, show j' = 3 by omega, mc]
      · rw [ho 0 0 f' (by omega) (by omega) (by omega), mo j' (by omega) (by omega)]
        exact h.eq 0 0 f' j' hP ⟨nd (by decide), nd (by decide), nd (by decide), nd (by decide)⟩
    · have := l1 rfl
      clear l1 l2 l3 l4
      rw [ho 1 i' f' (by omega) (by omega) (by omega), mo _ (by omega) (by omega)]
      exact h.eq 1 i' f' _ hP ⟨fun _ => this, nd (by decide), nd (by decide), nd (by decide)⟩
    · have := l2 rfl
      clear l1 l2 l3 l4
      rw [ho 15 i' f' (by omega) (by omega) (by omega), mo _ (by omega) (by omega)]
      exact h.eq 15 i' f' _ hP ⟨nd (by decide), fun _ => this, nd (by decide), nd (by decide)⟩
    · clear l1 l2 l3 l4
      rw [ho 2 i' f' (by omega) (by omega) (by omega), mo j' (by omega) (by omega)]
      exact h.eq 2 i' f' _ hP ⟨nd (by decide), nd (by decide), nd (by decide), nd (by decide)⟩
    · have l3' := l3 rfl
      clear l1 l2 l3 l4
      by_cases u2 : i' = cL S
      · rcases hp with ⟨rfl, rfl⟩ | ⟨p1, p2, rfl⟩ | ⟨p1, p2, rfl⟩
        · rw [u2]; exact n0
        · rw [u2]; exact n1 f' p1 p2
        · rw [u2]; exact n8 f' p1 p2
      · have : i' < cL S := by omega
        rw [ho 3 i' f' (by omega) (by omega) (by omega), mo j' (by omega) (by omega)]
        exact h.eq 3 i' f' _ hP ⟨nd (by decide), nd (by decide), fun _ => this, nd (by decide)⟩
    · have l4' := l4 rfl
      clear l1 l2 l3 l4
      by_cases u2 : i' = cL S
      · rw [u2]; exact nh f' hf
      · have : i' < cL S := by omega
        rw [ho 14 i' f' (by omega) (by omega) (by omega), mo _ (by omega) (by omega)]
        exact h.eq 14 i' f' _ hP ⟨nd (by decide), nd (by decide), nd (by decide), fun _ => this⟩
  · rw [eG, eL]
    intro k' i' f' j' hp h1 h2
    have hP := hp
    unfold rPJ at hp
    show z_J M' 23 0 j' = _
    by_cases u2 : k' = 3 ∧ i' = cL S
    · obtain ⟨rfl, rfl⟩ := u2
      rw [show j' = 8 + 2 * cL S + (f' - 13) by omega, nj (f' - 13) (by omega), show 13 + (f' - 13) = f' by omega]
    · rw [hj k' i' f' u2, mj j' (by omega)]
      exact h.ej k' i' f' j' hP h1 (fun hk => by have := h2 hk; omega)
  · intro k' hk'
    have e2 : z_I S' 2 k' 2 = z_I S 2 k' 2 := ho 2 k' 2 (by omega) (by omega) (by omega)
    exact ⟨(h.rt hk').co (h.t13 hk') e2 (fun i => ho 12 k' i (by omega) (by omega) (by omega)) (fun i => ho 13 k' i (by omega) (by omega) (by omega)) (mo _ (by omega) (by omega)) (fun o h1 h2 => mo _ (by omega) (by omega)), by rw [cTold.co e2]; exact h.t13 hk'⟩
  · rw [eN]
    intro i' hi'
    exact (h.or hi').co eG (ho 4 i' 2 (by omega) (by omega) (by omega)) (fun o => ho 16 i' o (by omega) (by omega) (by omega)) (fun o ho => mo _ (by omega) (by omega))
  · rw [eL]
    intro l hl
    by_cases u : l = cL S
    · rw [u]; exact hb
    · unfold rBg
      rw [ho 3 l 0 (by omega) (by omega) (by omega), ho 3 l 7 (by omega) (by omega) (by omega), show rR M' (211 + 17 * l + 7) = rR M (211 + 17 * l + 7) from mo _ (by omega) (by omega)]
      exact h.bg (by omega)
  · unfold rZe
    rw [eG, eN]
    have hz := h.ze
    refine ⟨fun g h1 h2 => ⟨fun f hf => ?_, ?_, ?_⟩, fun i h1 h2 k' hk' => ?_⟩
    · exact (mo _ (by omega) (by omega)).trans ((hz.1 g h1 h2).1 f hf)
    · exact (mj _ (by omega)).trans (hz.1 g h1 h2).2.1
    · exact (mj _ (by omega)).trans (hz.1 g h1 h2).2.2
    · exact (mo _ (by omega) (by omega)).trans (hz.2 i h1 h2 k' hk')
theorem InvA.addL (hi : InvA B T S) (hc5 : z_nn (z_I S 0 0 5) 40) (hL : cL S < 40) (ho : ∀ k i f, ¬ (k = 3 ∧ i = cL S) → ¬ (k = 14 ∧ i = cL S) → ¬ (k = 0 ∧ i = 0 ∧ f = 5) → z_I S' k i f = z_I S k i f) (hc : z_I S' 0 0 5 = z_I S 0 0 5 + 1) (hd : iLd S' (cL S)) (h0 : ∀ g, g < 4 → z_I S' 14 (cL S) g = 0) (hG : cG S ≤ 4) : InvA B T S' := by
  have z1 := z_nn1 (a := z_I S 0 0 5) hc5 (by omega)
  have c0 : ∀ q, q ≠ 5 → z_I S' 0 0 q = z_I S 0 0 q := fun q hq => ho 0 0 q (by omega) (by omega) (by omega)
  have eG : cG S' = cG S := congrArg Int32.toNatClampNeg (c0 3 (by omega))
  have eL : cL S' = cL S + 1 := by show (z_I S' 0 0 5).toNatClampNeg = _; rw [hc]; exact z1.1
  refine ⟨hi.1, by rw [c0 0 (by omega), c0 1 (by omega)]; exact hi.2.1, ?_, ?_, ?_, ?_, fun k hk => (hi.kd hk).co (fun f h1 h2 => ho 2 k f (by omega) (by omega) (by omega)) (fun i => ho 12 k i (by omega) (by omega) (by omega)) (fun i => ho 13 k i (by omega) (by omega) (by omega))⟩
  · rw [eG]
    exact fun g hg => (hi.gu hg).co fun f hf => ho 1 g f (by omega) (by omega) (by omega)
  · rw [eG, eL]
    intro g hg
    show _ = iSum _ (cL S) + (z_I S' 14 (cL S) g).toInt
    rw [h0 g (by omega), ho 1 g 1 (by omega) (by omega) (by omega), hi.sm hg, iSum_ext (F := fun l => (z_I S' 14 l g).toInt) (H := fun l => (z_I S 14 l g).toInt) (cL S) fun l hl => by
      show (z_I S' 14 l g).toInt = (z_I S 14 l g).toInt
      rw [ho 14 l g (by omega) (by omega) (by omega)]]
    exact (Int.add_zero _).symm
  · rw [eL]
    intro l hl g hg
    by_cases u : l = cL S
    · rw [u, h0 g hg]; exact ⟨by decide, fun _ => rfl⟩
    · rw [ho 14 l g (by omega) (by omega) (by omega), eG]; exact hi.ho (by omega) g hg
  · rw [eL]
    intro l hl
    by_cases u : l = cL S
    · rw [u]; exact hd
    · exact (hi.ld (by omega)).co (c0 4 (by omega)) (c0 0 (by omega)) fun f hf => ho 3 l f (by omega) (by omega) (by omega)
theorem cAsk_I {f' : Nat} {a b c e : Int32} : z_I (cAsk S n a b c e) k i f' = if k = 14 ∧ i = n ∧ f' = 3 then 0 else if k = 14 ∧ i = n ∧ f' = 2 then 0 else if k = 14 ∧ i = n ∧ f' = 1 then 0 else if k = 14 ∧ i = n ∧ f' = 0 then 0 else if k = 3 ∧ i = n ∧ f' = 12 then -1 else if k = 3 ∧ i = n ∧ f' = 11 then 0 else if k = 3 ∧ i = n ∧ f' = 10 then 0 else if k = 3 ∧ i = n ∧ f' = 9 then 0 else if k = 3 ∧ i = n ∧ f' = 8 then 0 else if k = 3 ∧ i = n ∧ f' = 7 then -1 else if k = 3 ∧ i = n ∧ f' = 6 then 0 else if k = 3 ∧ i = n ∧ f' = 5 then 0 else if k = 3 ∧ i = n ∧ f' = 4 then e else if k = 3 ∧ i = n ∧ f' = 3 then c else if k = 3 ∧ i = n ∧ f' = 2 then b else if k = 3 ∧ i = n ∧ f' = 1 then a else if k = 3 ∧ i = n ∧ f' = 0 then 0 else z_I S k i f' := rfl
theorem cAsk_o {f' : Nat} {a b c e : Int32} (h1 : ¬ (k = 3 ∧ i = n)) (h2 : ¬ (k = 14 ∧ i = n)) : z_I (cAsk S n a b c e) k i f' = z_I S k i f' := by
  rw [cAsk_I, if_neg (by omega), if_neg (by omega), if_neg (by omega), if_neg (by omega), if_neg (by omega), if_neg (by omega), if_neg (by omega), if_neg (by omega), if_neg (by omega), if_neg (by omega), if_neg (by omega), if_neg (by omega), if_neg (by omega), if_neg (by omega), if_neg (by omega), if_neg (by omega), if_neg (by omega)]
theorem cAsk_J {f' : Nat} {a b c e : Int32} : z_J (cAsk S n a b c e) k i f' = if k = 3 ∧ i = n ∧ f' = 14 then 0 else if k = 3 ∧ i = n ∧ f' = 13 then 0 else z_J S k i f' := rfl
theorem cAsk_h {a b c e : Int32} (hg : g < 4) : z_I (cAsk S n a b c e) 14 n g = 0 := by
  have : g = 0 ∨ g = 1 ∨ g = 2 ∨ g = 3 := by omega
  rcases this with rfl | rfl | rfl | rfl
  · rw [cAsk_I, if_neg (by omega), if_neg (by omega), if_neg (by omega), if_pos ⟨rfl, rfl, rfl⟩]
  · rw [cAsk_I, if_neg (by omega), if_neg (by omega), if_pos ⟨rfl, rfl, rfl⟩]
  · rw [cAsk_I, if_neg (by omega), if_pos ⟨rfl, rfl, rfl⟩]
  · rw [cAsk_I, if_pos ⟨rfl, rfl, rfl⟩]
theorem cAsk_f {f' : Nat} {a b c e : Int32} (hf : f' < 13) : z_I (cAsk S n a b c e) 3 n f' = (if f' = 1 then a else if f' = 2 then b else if f' = 3 then c else if f' = 4 then e else if f' = 7 ∨ f' = 12 then -1 else 0) := by
  have : f' = 0 ∨ f' = 1 ∨ f' = 2 ∨ f' = 3 ∨ f' = 4 ∨ f' = 5 ∨ f' = 6 ∨ f' = 7 ∨ f' = 8 ∨ f' = 9 ∨ f' = 10 ∨ f' = 11 ∨ f' = 12 := by omega
  rw [cAsk_I]
  rcases this with rfl | rfl | rfl | rfl | rfl | rfl | rfl | rfl | rfl | rfl | rfl | rfl | rfl <;> simp
theorem mZer_in {a' : Nat} : ∀ (n i : Nat) (M : zS) (x : Nat), i ≤ x → x < i + n → z_I (mZer a' n i M) 22 0 (a' + x) = 0
  | 0, _, _, _, _, _ => by omega
  | n + 1, i, M, x, h1, h2 => by
    show z_I (mZer a' n (i + 1) (z_uI M 22 0 (a' + i) 0)) 22 0 (a' + x) = 0
    by_cases u : x = i
    · rw [mZer_o (M := M) n (i + 1) _ (fun y hy => by omega), z_I_u, u, if_pos ⟨rfl, rfl, rfl⟩]
    · exact mZer_in n (i + 1) _ x (by omega) (by omega)
theorem mZer_J {a' k i f : Nat} : ∀ (n i' : Nat) (M : zS), z_J (mZer a' n i' M) k i f = z_J M k i f
  | 0, _, _ => rfl
  | n + 1, i', M => by
    show z_J (mZer a' n (i' + 1) (z_uI M 22 0 (a' + i') 0)) k i f = _
    rw [mZer_J n]; rfl
end Re24
