set_option maxHeartbeats 200000
/-! ===== CLASS AND MODEL: store, order ===== -/
section Re27
variable {d i k g s l l' t q n p T j : Nat} {v w a b c e f x y z : Int32} {S S' M M' N : zS} {B : Int}
-- an order that is one: each -1 or a guarantor, no two alike
def oGd (G : Nat) (a b c : Int32) : Prop := ((a = -1 ∨ ∃ g, g < G ∧ g < 4 ∧ a = nI g) ∧ (b = -1 ∨ ∃ g, g < G ∧ g < 4 ∧ b = nI g) ∧ (c = -1 ∨ ∃ g, g < G ∧ g < 4 ∧ c = nI g)) ∧ (a = b → a = -1) ∧ (a = c → a = -1) ∧ (b = c → b = -1)
theorem ordr_is (h : oGd (cG S) a b c) : rOr (cLineUp S s a b c) (rR (mLayO M s a b c)) s := by
  obtain ⟨⟨h1, h2, h3⟩, h4, h5, h6⟩ := h
  obtain ⟨n, hL, hn⟩ := cLineUp_is (S := S) (s := s) (a := a) (b := b) (c := c)
  have w : ∀ {x : Int32}, (x = -1 ∨ ∃ g, g < cG S ∧ g < 4 ∧ x = nI g) → x = -1 ∨ ∃ g, g < 4 ∧ x = nI g := fun u => u.imp id fun ⟨g, _, u2, u3⟩ => ⟨g, u2, u3⟩
  have eG : cG (cLineUp S s a b c) = cG S := congrArg Int32.toNatClampNeg (hL.2.2.2.1 0 0 3 (by omega) (by omega))
  obtain ⟨o, eo⟩ := oNum_of (w h1)
  obtain ⟨p, ep⟩ := oNum_of (w h2)
  obtain ⟨q, eq⟩ := oNum_of (w h3)
  have all := lnA_all o p q (by rw [← eo, ← ep]; exact h4) (by rw [← eo, ← eq]; exact h5) (by rw [← ep, ← eq]; exact h6)
  rw [← eo, ← ep, ← eq] at all
  obtain ⟨⟨a1, a1'⟩, a2, a3, a4, a5⟩ := all
  have mem : ∀ j, j < 3 → (ln0 a b c).getD j (-1) = -1 ∨ ∃ g, g < cG S ∧ g < 4 ∧ (ln0 a b c).getD j (-1) = nI g := fun j hj => by
    rcases a4 ⟨j, hj⟩ with u | u | u | u
    · exact .inl u
    · rw [show (ln0 a b c).getD j (-1) = a from u]; exact h1
    · rw [show (ln0 a b c).getD j (-1) = b from u]; exact h2
    · rw [show (ln0 a b c).getD j (-1) = c from u]; exact h3
  unfold rOr
  rw [mLayO_in (by decide), mLayO_in (by decide), mLayO_in (by decide), eG]
  refine ⟨⟨w (mem 0 (by omega)), w (mem 1 (by omega)), w (mem 2 (by omega)), a2⟩, a3, fun j hj => ?_, hn.trans a5, fun i hi => ?_⟩
  · rw [mLayO_in hj]; exact mem j hj
  · rw [← a1]; exact hL.2.2.1 i (by rw [a1']; exact hi)
theorem RM.ord (h : RM S M) (hs : s < 6) (ho : s < cS S → rOr S' (rR M') s) (h1 : ∀ k i f, ¬ (k = 16 ∧ i = s) → ¬ (k = 4 ∧ i = s ∧ f = 2) → z_I S' k i f = z_I S k i f) (h2 : ∀ k i f, z_J S' k i f = z_J S k i f) (m1 : ∀ j, ¬ (18 + 8 * s + 5 ≤ j ∧ j < 18 + 8 * s + 8) → z_I M' 22 0 j = z_I M 22 0 j) (m2 : ∀ j, z_J M' 23 0 j = z_J M 23 0 j) : RM S' M' := by
  have c0 : ∀ q, z_I S' 0 0 q = z_I S 0 0 q := fun q => h1 0 0 q (by omega) (by omega)
  have eG : cG S' = cG S := congrArg Int32.toNatClampNeg (c0 3)
  have eN : cS S' = cS S := congrArg Int32.toNatClampNeg (c0 4)
  have eL : cL S' = cL S := congrArg Int32.toNatClampNeg (c0 5)
  have hL := h.L40
  have hS6 := h.S6
  refine ⟨?_, ?_, ?_, ?_, ?_, ?_, ?_⟩
  · unfold cCnts; rw [c0, c0, c0]; exact h.cn
  · rw [eG, eN, eL]
    intro k' i' f' j' hp hl
    have hP := hp
    have q1 : k' ≠ 16 ∧ k' ≠ 4 := by rcases hp with u | u | u | u | u | u <;> (have := u.1; omega)
    have q2 : ¬ (18 + 8 * s + 5 ≤ j' ∧ j' < 18 + 8 * s + 8) := by
      rcases hp with u | u | u | u | u | u <;> omega
    rw [h1 k' i' f' (fun u => q1.1 u.1) (fun u => q1.2 u.1)]
    exact (m1 j' q2).trans (h.eq k' i' f' j' hP hl)
  · rw [eG, eL]
    intro k' i' f' j' hp h3 h4
    rw [h2]; exact (m2 j').trans (h.ej k' i' f' j' hp h3 h4)
  · intro k' hk'
    have e2 : z_I S' 2 k' 2 = z_I S 2 k' 2 := h1 2 k' 2 (by omega) (by omega)
    exact ⟨(h.rt hk').co (h.t13 hk') e2 (fun i => h1 12 k' i (by omega) (by omega)) (fun i => h1 13 k' i (by omega) (by omega)) (m1 _ (by omega)) (fun o h1 h2 => m1 _ (by omega)), by rw [cTold.co e2]; exact h.t13 hk'⟩
  · rw [eN]
    intro i' hi'
    by_cases u : i' = s
    · rw [u]; exact ho (by omega)
    · exact (h.or hi').co eG (h1 4 i' 2 (by omega) (by omega)) (fun o => h1 16 i' o (by omega) (by omega)) (fun o ho => m1 _ (by omega))
  · rw [eL]
    intro l hl
    unfold rBg
    rw [h1 3 l 0 (by omega) (by omega), h1 3 l 7 (by omega) (by omega), show rR M' (211 + 17 * l + 7) = rR M (211 + 17 * l + 7) from m1 _ (by omega)]
    exact h.bg hl
  · unfold rZe
    rw [eG, eN]
    have hz := h.ze
    refine ⟨fun g h3 h4 => ⟨fun f hf => ?_, ?_, ?_⟩, fun i h3 h4 k' hk' => ?_⟩
    · exact (m1 _ (by omega)).trans ((hz.1 g h3 h4).1 f hf)
    · exact (m2 _).trans (hz.1 g h3 h4).2.1
    · exact (m2 _).trans (hz.1 g h3 h4).2.2
    · exact (m1 _ (by omega)).trans (hz.2 i h3 h4 k' hk')
theorem RM.addS (h : RM S M) (hs : cS S < 6) (h0 : ∀ k, k < 5 → z_I S 15 (cS S) k = 0) (ho : rOr S (rR M) (cS S)) : RM (z_uI S 0 0 4 (z_I S 0 0 4 + 1)) (z_uI M 22 0 2 (z_I S 0 0 4 + 1)) := by
  have z1 := z_nn1 (a := z_I S 0 0 4) h.cn.2.1 (by omega)
  have eN : cS (z_uI S 0 0 4 (z_I S 0 0 4 + 1)) = cS S + 1 := z1.1
  have ht : ∀ k i f, ¬ (k = 0 ∧ i = 0 ∧ f = 4) → z_I (z_uI S 0 0 4 (z_I S 0 0 4 + 1)) k i f = z_I S k i f := fun k i f u => by rw [z_I_u, if_neg u]
  have rN : ∀ j, j ≠ 2 → rR (z_uI M 22 0 2 (z_I S 0 0 4 + 1)) j = rR M j := fun j hj => by rw [rR_u, if_neg hj]
  have hL := h.L40
  have nd : ∀ {p : Prop} {a b : Nat}, a ≠ b → (a = b → p) := fun h u => absurd u h
  refine ⟨⟨h.cn.1, ⟨z1.2.1.1, by show cS (z_uI S 0 0 4 (z_I S 0 0 4 + 1)) ≤ 6; rw [eN]; omega⟩, h.cn.2.2⟩, ?_, h.ej, ?_, ?_, ?_, ?_⟩
  · rw [eN]
    intro k' i' f' j' hp hl
    have hP := hp
    obtain ⟨l1, l2, l3, l4⟩ := hl
    rcases hp with ⟨rfl, rfl, hp⟩ | ⟨rfl, hi, hf, rfl⟩ | ⟨rfl, hi, hf, rfl⟩ | ⟨rfl, hi, hp⟩ | ⟨rfl, hi, hp⟩ | ⟨rfl, hi, hf, rfl⟩
    · clear l1 l2 l3 l4
      by_cases u1 : f' = 4
      · rw [u1, show j' = 2 by omega, rR_u, if_pos rfl, z_I_u, if_pos ⟨rfl, rfl, rfl⟩]
      · rw [ht 0 0 f' (by omega), rN j' (by omega)]
        exact h.eq 0 0 f' j' hP ⟨nd (by decide), nd (by decide), nd (by decide), nd (by decide)⟩
    · rw [ht 1 i' f' (nd (by decide) ∘ And.left), rN _ (by clear l1 l2 l3 l4; omega)]
      exact h.eq 1 i' f' _ hP ⟨l1, nd (by decide), nd (by decide), nd (by decide)⟩
    · have := l2 rfl
      clear l1 l2 l3 l4
      rw [ht 15 i' f' (by omega), rN _ (by omega)]
      by_cases u : i' = cS S
      · rw [u, h0 f' hf]; exact h.ze.2 (cS S) (Nat.le_refl _) hs f' hf
      · exact h.eq 15 i' f' _ hP ⟨nd (by decide), fun _ => by omega, nd (by decide), nd (by decide)⟩
    · clear l1 l2 l3 l4
      rw [ht 2 i' f' (by omega), rN _ (by omega)]
      exact h.eq 2 i' f' _ hP ⟨nd (by decide), nd (by decide), nd (by decide), nd (by decide)⟩
    · have := l3 rfl
      clear l1 l2 l3 l4
      rw [ht 3 i' f' (by omega), rN _ (by omega)]
      exact h.eq 3 i' f' _ hP ⟨nd (by decide), nd (by decide), fun _ => this, nd (by decide)⟩
    · have := l4 rfl
      clear l1 l2 l3 l4
      rw [ht 14 i' f' (by omega), rN _ (by omega)]
      exact h.eq 14 i' f' _ hP ⟨nd (by decide), nd (by decide), nd (by decide), fun _ => this⟩
  · intro k' hk'
    exact ⟨(h.rt hk').co (h.t13 hk') rfl (fun _ => rfl) (fun _ => rfl) (rN _ (by omega)) (fun o h1 h2 => rN _ (by omega)), h.t13 hk'⟩
  · rw [eN]
    intro i' hi'
    by_cases u : i' = cS S
    · rw [u]; exact ho.co rfl rfl (fun _ => rfl) (fun o ho => rN _ (by omega))
    · exact (h.or (by omega)).co rfl rfl (fun _ => rfl) (fun o ho => rN _ (by omega))
  · intro l hl
    unfold rBg
    rw [rN _ (by omega)]
    exact h.bg hl
  · unfold rZe
    rw [eN]
    have hz := h.ze
    refine ⟨fun g h3 h4 => ⟨fun f hf => ?_, hz.1 g h3 h4 |>.2⟩, fun i h3 h4 k' hk' => ?_⟩
    · rw [rN _ (by omega)]; exact (hz.1 g h3 h4).1 f hf
    · rw [rN _ (by omega)]; exact hz.2 i (by omega) h4 k' hk'
theorem mLayO_J : z_J (mLayO M s a b c) 23 0 j = z_J M 23 0 j := by
  have e : ∀ i (p : Nat × zS), z_J (mLoS s a b c i p).2 23 0 j = z_J p.2 23 0 j := fun i p => by
    unfold mLoS
    by_cases u : mLoG a b c i = -1
    · rw [if_pos u]; rfl
    · rw [if_neg u]; rfl
  show z_J (mLoS s a b c 2 (mLoS s a b c 1 (mLoS s a b c 0 (0, M)))).2 23 0 j = _
  rw [e, e, e]
theorem sim_order (h : Ok B T S M) (hs : s < cS S) (hg : oGd (cG S) a b c) : Ok B T (cLineUp S s a b c) (mLayO M s a b c) := by
  obtain ⟨n, hL, hn⟩ := cLineUp_is (S := S) (s := s) (a := a) (b := b) (c := c)
  have ht := hL.2.2.2.1
  have h6 := h.r.S6
  have hi := h.ia
  have eG : cG (cLineUp S s a b c) = cG S := congrArg Int32.toNatClampNeg (ht 0 0 3 (by omega) (by omega))
  have eL : cL (cLineUp S s a b c) = cL S := congrArg Int32.toNatClampNeg (ht 0 0 5 (by omega) (by omega))
  refine ⟨RM.ord h.r (s := s) (by omega) (fun _ => ordr_is hg) ht hL.2.2.2.2 (fun j hj => mLayO_r (by omega)) (fun j => mLayO_J), ?_, ?_⟩
  · refine hi.mk' (ht 0 0 0 (by omega) (by omega)) (ht 0 0 1 (by omega) (by omega)) (ht 0 0 3 (by omega) (by omega)) (ht 0 0 5 (by omega) (by omega)) (fun g' hg' => (hi.gu hg').co fun f _ => ht 1 g' f (by omega) (by omega)) (fun g' hg' => ?_) (fun l hl => (hi.ho hl).co eG fun g _ => ht 14 l g (by omega) (by omega)) (fun l hl => (hi.ld hl).co (ht 0 0 4 (by omega) (by omega)) (ht 0 0 0 (by omega) (by omega)) fun f hf => ht 3 l f (by omega) (by omega)) (fun k hk => (hi.kd hk).co (fun f _ _ => ht 2 k f (by omega) (by omega)) (fun i => ht 12 k i (by omega) (by omega)) (fun i => ht 13 k i (by omega) (by omega)))
    rw [ht 1 g' 1 (by omega) (by omega), hi.sm hg']
    exact iSum_ext _ fun l _ => by rw [ht 14 l g' (by omega) (by omega)]
  · exact h.nd.co eL (fun l q _ _ => ht 3 l q (by omega) (by omega)) (fun l g _ _ => ht 14 l g (by omega) (by omega)) (fun k x y => cGr_co (ht 2 k 2 (by omega) (by omega)) (fun i => ht 12 k i (by omega) (by omega)) (fun i => ht 13 k i (by omega) (by omega)))
theorem lvI_N {G N L k i f : Nat} (u : lvI G N L k i f) : ¬ (k = 15 ∧ i = N) ∧ ¬ (k = 16 ∧ i = N) ∧ ¬ (k = 4 ∧ i = N ∧ f = 2) := by
  rcases u with u | u | u | u | u | u | u | u | u <;> (refine ⟨?_, ?_, ?_⟩ <;> omega)
theorem ok_addS {Y : zS} {n : Nat} (oY : Ok B T Y N) (rY : RM Y M') (eY : cS Y = n) (hs : n < 6) (e4 : z_I Y 0 0 4 = v) (y0 : ∀ k, k < 5 → z_I Y 15 n k = 0) (oOr : rOr Y (rR M') n) (hv : z_nn v 6) : Ok B T (z_uI Y 0 0 4 (v + 1)) (z_uI M' 22 0 2 (v + 1)) := by
  have r1 := RM.addS rY (by rw [eY]; exact hs) (fun k hk => by rw [eY]; exact y0 k hk) (by rw [eY]; exact oOr)
  rw [e4] at r1
  have hi := oY.ia
  have z1 := z_nn1 (a := v) hv (by omega)
  have eN : cS (z_uI Y 0 0 4 (v + 1)) = n + 1 := by
    show (v + 1).toNatClampNeg = _
    rw [z1.1, ← e4, ← eY]; rfl
  refine ⟨r1, ⟨hi.1, hi.2.1, fun g hg => hi.gu hg, fun g hg => hi.sm hg, fun l hl => hi.ho hl, fun l hl => ?_, fun k hk => hi.kd hk⟩, ?_⟩
  · have := hi.ld (l := l) hl
    unfold iLd at this ⊢
    rw [eN]
    rw [eY] at this
    refine ⟨⟨this.1.1, ?_⟩, ⟨this.2.1.1, ?_⟩, this.2.2⟩
    · have := this.1.2; show (z_I Y 3 l 1).toInt < _; omega
    · have := this.2.1.2; show (z_I Y 3 l 2).toInt < _; omega
  · exact oY.nd.co rfl (fun _ _ _ _ => rfl) (fun _ _ _ _ => rfl) (fun k' x y => cGr_co rfl (fun _ => rfl) (fun _ => rfl))
theorem sim_store (h : Ok B T S M) (hs : cS S < 6) (hg : oGd (cG S) a b c) : Ok B T (aStore S a b c) (mSto M a b c) := by
  have hN := h.rt (v := 3)
  have en : (z_I M 22 0 2).toNatClampNeg = cS S := congrArg Int32.toNatClampNeg (RM.nS h.r)
  have eM : mSto M a b c = z_uI (mLayO (mRem (mTh M) 3) (cS S) a b c) 22 0 2 (z_I S 0 0 4 + 1) := by unfold mSto; rw [en, RM.nS h.r]
  rw [eM]
  generalize mRem (mTh M) 3 = N at *
  generalize hX : z_uI (z_uI (z_uI (z_uI (z_uI S 15 (cS S) 0 0) 15 (cS S) 1 0) 15 (cS S) 2 0) 15 (cS S) 3 0) 15 (cS S) 4 0 = X
  have eS : aStore S a b c = z_uI (cLineUp X (cS S) a b c) 0 0 4 (z_I S 0 0 4 + 1) := by rw [← hX]; rfl
  rw [eS]
  have xo : ∀ k i f, ¬ (k = 15 ∧ i = cS S) → z_I X k i f = z_I S k i f := fun k i f u => by
    rw [← hX, z_I_u, if_neg (by omega), z_I_u, if_neg (by omega), z_I_u, if_neg (by omega), z_I_u, if_neg (by omega), z_I_u, if_neg (by omega)]
  have x0 : ∀ k, k < 5 → z_I X 15 (cS S) k = 0 := fun k hk => by
    have : k = 0 ∨ k = 1 ∨ k = 2 ∨ k = 3 ∨ k = 4 := by omega
    rw [← hX]
    rcases this with rfl | rfl | rfl | rfl | rfl
    · rw [z_I_u, if_neg (by omega), z_I_u, if_neg (by omega), z_I_u, if_neg (by omega), z_I_u, if_neg (by omega), z_I_u, if_pos ⟨rfl, rfl, rfl⟩]
    · rw [z_I_u, if_neg (by omega), z_I_u, if_neg (by omega), z_I_u, if_neg (by omega), z_I_u, if_pos ⟨rfl, rfl, rfl⟩]
    · rw [z_I_u, if_neg (by omega), z_I_u, if_neg (by omega), z_I_u, if_pos ⟨rfl, rfl, rfl⟩]
    · rw [z_I_u, if_neg (by omega), z_I_u, if_pos ⟨rfl, rfl, rfl⟩]
    · rw [z_I_u, if_pos ⟨rfl, rfl, rfl⟩]
  have xJ : ∀ k i f, z_J X k i f = z_J S k i f := fun k i f => by rw [← hX]; rfl
  have aX : Alk S X := ⟨fun k i f u => xo k i f (lvI_N u).1, fun k i f _ => xJ k i f⟩
  have eX : cS X = cS S := aX.N
  have oX : Ok B T X N := hN.alk aX
  obtain ⟨n, hL, hn⟩ := cLineUp_is (S := X) (s := cS S) (a := a) (b := b) (c := c)
  have ht := hL.2.2.2.1
  have e4 : z_I (cLineUp X (cS S) a b c) 0 0 4 = z_I S 0 0 4 := (ht 0 0 4 (by omega) (by omega)).trans (xo 0 0 4 (by omega))
  have aY : Alk X (cLineUp X (cS S) a b c) := ⟨fun k i f u => by
    rw [eX] at u
    exact ht k i f (lvI_N u).2.1 (lvI_N u).2.2, fun k i f _ => hL.2.2.2.2 k i f⟩
  have eY : cS (cLineUp X (cS S) a b c) = cS S := aY.N.trans eX
  have oY : Ok B T (cLineUp X (cS S) a b c) N := oX.alk aY
  have rY : RM (cLineUp X (cS S) a b c) (mLayO N (cS S) a b c) := RM.ord oX.r hs (fun u => absurd u (by rw [eX]; omega)) ht hL.2.2.2.2 (fun j hj => mLayO_r (by omega)) (fun j => mLayO_J)
  have hgX : oGd (cG X) a b c := by rw [aX.G]; exact hg
  have oOr : rOr (cLineUp X (cS S) a b c) (rR (mLayO N (cS S) a b c)) (cS S) := ordr_is hgX
  have y0 : ∀ k, k < 5 → z_I (cLineUp X (cS S) a b c) 15 (cS S) k = 0 := fun k hk => (ht 15 (cS S) k (by omega) (by omega)).trans (x0 k hk)
  clear hL hn ht aY eS
  generalize cLineUp X (cS S) a b c = Y at *
  generalize mLayO N (cS S) a b c = M' at *
  exact ok_addS oY rY eY hs e4 y0 oOr h.r.cn.2.1
end Re27
