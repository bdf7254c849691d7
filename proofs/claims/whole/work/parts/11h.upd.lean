/-! ===== CLASS AND MODEL: changes ===== -/
section Re8
variable {d i k g s l t q n p T j : Nat} {v w a b c e f x y z : Int32} {S S' M : zS} {B : Int}
theorem cTold.co (h : z_I S' 2 k 2 = z_I S 2 k 2) : cTold S' k = cTold S k := congrArg Int32.toNatClampNeg h
theorem rRt.co {r r' : Nat → Int32} (h : rRt S r k) (ht : cTold S k ≤ 13) (h2 : z_I S' 2 k 2 = z_I S 2 k 2) (h12 : ∀ i, z_I S' 12 k i = z_I S 12 k i) (h13 : ∀ i, z_I S' 13 k i = z_I S 13 k i) (h0 : r' (66 + 29 * k) = r (66 + 29 * k)) (hr : ∀ o, 3 ≤ o → o < 29 → r' (66 + 29 * k + o) = r (66 + 29 * k + o)) : rRt S' r' k := by
  have et := cTold.co h2
  obtain ⟨h1, hs, hn, hp⟩ := h
  refine ⟨by rw [h0, h2, h1], fun i j hij hj => ?_, fun i hi => ?_, fun a b => ?_⟩
  · rw [h12, h12]; exact hs i j hij (by rw [et] at hj; exact hj)
  · rw [h12]; exact hn i (by rw [et] at hi; exact hi)
  · rw [et]
    have e1 : pC S' k (cTold S k) a b ↔ pC S k (cTold S k) a b := by unfold pC; simp only [h12, h13]
    have e2 : pM r' k (cTold S k) a b ↔ pM r k (cTold S k) a b := by
      unfold pM
      constructor
      · rintro ⟨j, hj, u1, u2⟩
        refine ⟨j, hj, ?_, ?_⟩
        · rw [← u1, show 66 + 29 * k + 3 + 2 * j = 66 + 29 * k + (3 + 2 * j) by omega, hr _ (by omega) (by omega)]
        · rw [← u2, show 66 + 29 * k + 3 + 2 * j + 1 = 66 + 29 * k + (3 + 2 * j + 1) by omega, hr _ (by omega) (by omega)]
      · rintro ⟨j, hj, u1, u2⟩
        refine ⟨j, hj, ?_, ?_⟩
        · rw [← u1, show 66 + 29 * k + 3 + 2 * j = 66 + 29 * k + (3 + 2 * j) by omega, hr _ (by omega) (by omega)]
        · rw [← u2, show 66 + 29 * k + 3 + 2 * j + 1 = 66 + 29 * k + (3 + 2 * j + 1) by omega, hr _ (by omega) (by omega)]
    rw [e1, e2]; exact hp a b
theorem rOr.co {r r' : Nat → Int32} (h : rOr S r s) (h3 : cG S' = cG S) (h4 : z_I S' 4 s 2 = z_I S 4 s 2) (h16 : ∀ i, z_I S' 16 s i = z_I S 16 s i) (hr : ∀ o, o < 3 → r' (18 + 8 * s + 5 + o) = r (18 + 8 * s + 5 + o)) : rOr S' r' s := by
  unfold rOr at h ⊢
  rw [hr 0 (by omega), hr 1 (by omega), hr 2 (by omega), h3, h4]
  refine ⟨h.1, h.2.1, fun j hj => ?_, h.2.2.2.1, fun i hi => ?_⟩
  · rw [hr j hj]; exact h.2.2.1 j hj
  · rw [h16]; exact h.2.2.2.2 i hi
def lvT (N k i f : Nat) : Prop := ((k = 12 ∨ k = 13) ∧ i < 5) ∨ (k = 2 ∧ i < 5 ∧ f = 2) ∨ (k = 16 ∧ i < N) ∨ (k = 4 ∧ i < N ∧ f = 2)
def rU (j : Nat) : Prop := (66 ≤ j ∧ j < 211 ∧ (j - 66) % 29 ≠ 1 ∧ (j - 66) % 29 ≠ 2) ∨ (18 ≤ j ∧ j < 66 ∧ 5 ≤ (j - 18) % 8)
theorem Rel.mk' {r r' : Nat → Int32} {s s' : Nat → Int64} (h : Rel S r s) (c3 : z_I S' 0 0 3 = z_I S 0 0 3) (c4 : z_I S' 0 0 4 = z_I S 0 0 4) (c5 : z_I S' 0 0 5 = z_I S 0 0 5)
    (he : rEq (cG S) (cS S) (cL S) S' r') (hj : rEJ (cG S) (cL S) S' s') (hS : ∀ k i f, lvT (cS S) k i f → z_I S' k i f = z_I S k i f) (hr : ∀ j, rU j → r' j = r j) (hb : ∀ l, l < cL S → rBg S' r' l) (hz : rZe S r' s') : Rel S' r' s' := by
  have eG : cG S' = cG S := congrArg Int32.toNatClampNeg c3
  have eN : cS S' = cS S := congrArg Int32.toNatClampNeg c4
  have eL : cL S' = cL S := congrArg Int32.toNatClampNeg c5
  refine ⟨?_, ?_, ?_, ?_, ?_, ?_, ?_⟩
  · unfold cCnts; rw [c3, c4, c5]; exact h.cn
  · rw [eG, eN, eL]; exact he
  · rw [eG, eL]; exact hj
  · intro k hk
    have e2 := hS 2 k 2 (by unfold lvT; omega)
    refine ⟨(h.rt hk).co (h.t13 hk) e2 (fun i => hS 12 k i (by unfold lvT; omega)) (fun i => hS 13 k i (by unfold lvT; omega)) (hr _ ?_) (fun o h1 h2 => hr _ ?_), by rw [cTold.co e2]; exact h.t13 hk⟩
    · unfold rU; omega
    · unfold rU; omega
  · rw [eN]
    intro i hi
    have := h.S6
    exact (h.or hi).co eG (hS 4 i 2 (by unfold lvT; omega)) (fun o => hS 16 i o (by unfold lvT; omega)) (fun o ho => hr _ (by unfold rU; omega))
  · rw [eL]; exact hb
  · unfold rZe; rw [eG, eN]; exact hz
theorem rP_U (h : rP k i q j) : ¬ rU j ∧ (∀ l, j ≠ 211 + 17 * l + 7) := by
  unfold rP at h; unfold rU
  refine ⟨by omega, fun l => by omega⟩
theorem rR_u : rR (z_uI M 22 0 j v) i = if i = j then v else rR M i := by
  unfold rR
  rw [z_I_u]
  by_cases h : i = j
  · rw [if_pos h, if_pos ⟨rfl, rfl, h⟩]
  · rw [if_neg h, if_neg fun u => h u.2.2]
theorem RM.up (h : RM S M) (hp : rP k i q j) (h0 : ¬ (k = 0 ∧ 3 ≤ q)) (h3 : ¬ (k = 3 ∧ q = 0)) (z1 : k = 1 → cG S ≤ i → v = 0) (z2 : k = 15 → cS S ≤ i → v = 0) : RM (z_uI S k i q v) (z_uI M 22 0 j v) := by
  have hU := rP_U hp
  have hb : ∀ f, 3 ≤ f → z_I (z_uI S k i q v) 0 0 f = z_I S 0 0 f := fun f hf => by
    rw [z_I_u, if_neg]; rintro ⟨h1, -, h2⟩; exact h0 ⟨h1.symm, h2 ▸ hf⟩
  refine Rel.mk' h (hb 3 (by omega)) (hb 4 (by omega)) (hb 5 (by omega)) (h.eq.up hp) h.ej ?_ ?_ ?_ ?_
  · intro k' i' f' hl
    rw [z_I_u, if_neg]
    rintro ⟨rfl, rfl, rfl⟩
    unfold lvT at hl; unfold rP at hp; omega
  · intro j' hj'
    rw [rR_u, if_neg (by rintro rfl; exact hU.1 hj')]
  · intro l hl
    have e7 : rR (z_uI M 22 0 j v) (211 + 17 * l + 7) = rR M (211 + 17 * l + 7) := by rw [rR_u, if_neg fun u => hU.2 l u.symm]
    have e0 : z_I (z_uI S k i q v) 3 l 0 = z_I S 3 l 0 := by
      rw [z_I_u, if_neg]; rintro ⟨h1, -, h2⟩; exact h3 ⟨h1.symm, h2.symm⟩
    have e8 : z_I (z_uI S k i q v) 3 l 7 = z_I S 3 l 7 := by
      rw [z_I_u, if_neg]; rintro ⟨rfl, rfl, rfl⟩; unfold rP at hp; omega
    unfold rBg
    rw [e7, e0, e8]; exact h.bg hl
  · have hz := h.ze
    refine ⟨fun g h1 h2 => ⟨fun f hf => ?_, (hz.1 g h1 h2).2⟩, fun i' h1 h2 k' hk' => ?_⟩
    · rw [rR_u]
      by_cases u : 6 + 3 * g + f = j
      · rw [if_pos u]
        unfold rP at hp
        exact z1 (by omega) (by omega)
      · rw [if_neg u]; exact (hz.1 g h1 h2).1 f hf
    · rw [rR_u]
      by_cases u : 18 + 8 * i' + k' = j
      · rw [if_pos u]
        unfold rP at hp
        exact z2 (by omega) (by omega)
      · rw [if_neg u]; exact hz.2 i' h1 h2 k' hk'
theorem RM.upJ {o : Int64} (h : RM S M) (hp : rPJ k i q j) (z1 : k = 1 → cG S ≤ i → o = 0) : RM (z_uJ S k i q o) (z_uJ M 23 0 j o) := by
  refine Rel.mk' h rfl rfl rfl h.eq (h.ej.up hp) (fun _ _ _ _ => rfl) (fun _ _ => rfl) (fun l hl => h.bg hl) ⟨fun g h1 h2 => ⟨(h.ze.1 g h1 h2).1, ?_, ?_⟩, h.ze.2⟩
  · unfold rRJ
    rw [z_J_u]
    by_cases u : 2 * g = j
    · rw [if_pos ⟨rfl, rfl, u⟩]
      unfold rPJ at hp
      exact z1 (by omega) (by omega)
    · rw [if_neg fun e => u e.2.2]; exact (h.ze.1 g h1 h2).2.1
  · unfold rRJ
    rw [z_J_u]
    by_cases u : 2 * g + 1 = j
    · rw [if_pos ⟨rfl, rfl, u⟩]
      unfold rPJ at hp
      exact z1 (by omega) (by omega)
    · rw [if_neg fun e => u e.2.2]; exact (h.ze.1 g h1 h2).2.2
-- a model that has the same row
theorem RM.mo {N : zS} (h : RM S M) (hr : ∀ j, j < 891 → z_I N 22 0 j = z_I M 22 0 j) (hs : ∀ j, j < 88 → z_J N 23 0 j = z_J M 23 0 j) : RM S N := by
  refine Rel.mk' h rfl rfl rfl (h.eq.co (fun _ _ _ _ _ => rfl) hr) (h.ej.co (fun _ _ _ _ _ _ => rfl) hs) (fun _ _ _ _ => rfl) (fun j hj => hr j (by unfold rU at hj; omega)) (fun l hl => ?_) ⟨fun g h1 h2 => ⟨fun f hf => ?_, ?_, ?_⟩, fun i h1 h2 k hk => ?_⟩
  · have := h.L40
    unfold rBg
    rw [show rR N (211 + 17 * l + 7) = rR M (211 + 17 * l + 7) from hr _ (by omega)]; exact h.bg hl
  · rw [show rR N _ = rR M _ from hr _ (by omega)]; exact (h.ze.1 g h1 h2).1 f hf
  · rw [show rRJ N _ = rRJ M _ from hs _ (by omega)]; exact (h.ze.1 g h1 h2).2.1
  · rw [show rRJ N _ = rRJ M _ from hs _ (by omega)]; exact (h.ze.1 g h1 h2).2.2
  · rw [show rR N _ = rR M _ from hr _ (by omega)]; exact h.ze.2 i h1 h2 k hk
-- a slice that has the same live places
def lvI (G N L k i f : Nat) : Prop := (k = 0 ∧ i = 0 ∧ f < 6) ∨ (k = 1 ∧ i < G ∧ f < 3) ∨ (k = 2 ∧ i < 5 ∧ 2 ≤ f ∧ f < 5) ∨ ((k = 12 ∨ k = 13) ∧ i < 5) ∨ (k = 3 ∧ i < L ∧ f < 13) ∨ (k = 14 ∧ i < L ∧ f < 4) ∨ (k = 15 ∧ i < N ∧ f < 5) ∨ (k = 16 ∧ i < N) ∨ (k = 4 ∧ i < N ∧ f = 2)
def lvJ (G L k i f : Nat) : Prop := (k = 1 ∧ i < G ∧ (f = 3 ∨ f = 4)) ∨ (k = 3 ∧ i < L ∧ (f = 13 ∨ f = 14))
def Alk (S S' : zS) : Prop := (∀ k i f, lvI (cG S) (cS S) (cL S) k i f → z_I S' k i f = z_I S k i f) ∧ ∀ k i f, lvJ (cG S) (cL S) k i f → z_J S' k i f = z_J S k i f
theorem Alk.hd (h : Alk S S') (hf : q < 6) : z_I S' 0 0 q = z_I S 0 0 q := h.1 0 0 q (by unfold lvI; omega)
theorem Alk.G (h : Alk S S') : cG S' = cG S := congrArg Int32.toNatClampNeg (h.hd (by omega))
theorem Alk.N (h : Alk S S') : cS S' = cS S := congrArg Int32.toNatClampNeg (h.hd (by omega))
theorem Alk.L (h : Alk S S') : cL S' = cL S := congrArg Int32.toNatClampNeg (h.hd (by omega))
theorem Alk.rf : Alk S S := ⟨fun _ _ _ _ => rfl, fun _ _ _ _ => rfl⟩
theorem Alk.tr {S2 : zS} (h : Alk S S') (g : Alk S' S2) : Alk S S2 := by
  have e1 := h.G; have e2 := h.N; have e3 := h.L
  refine ⟨fun k i f u => ?_, fun k i f u => ?_⟩
  · rw [g.1 k i f (by rw [e1, e2, e3]; exact u)]; exact h.1 k i f u
  · rw [g.2 k i f (by rw [e1, e3]; exact u)]; exact h.2 k i f u
theorem Alk.sy (h : Alk S S') : Alk S' S := by
  refine ⟨fun k i f u => ?_, fun k i f u => ?_⟩
  · rw [h.G, h.N, h.L] at u; exact (h.1 k i f u).symm
  · rw [h.G, h.L] at u; exact (h.2 k i f u).symm
theorem Rel.alk {r : Nat → Int32} {s : Nat → Int64} (h : Rel S r s) (ha : Alk S S') : Rel S' r s := by
  refine Rel.mk' h (ha.hd (by omega)) (ha.hd (by omega)) (ha.hd (by omega)) (h.eq.co (fun k i f hl hj => ha.1 k i f ?_) (fun _ _ => rfl)) (h.ej.co (fun k i f h1 h2 hj => ha.2 k i f ?_) (fun _ _ => rfl)) (fun k i f hl => ha.1 k i f ?_) (fun _ _ => rfl) (fun l hl => ?_) h.ze
  · obtain ⟨j, hj⟩ := hj
    obtain ⟨l1, l2, l3, l4⟩ := hl
    unfold rP at hj
    rcases hj with hj | hj | hj | hj | hj | hj
    · clear l1 l2 l3 l4; exact .inl (by omega)
    · exact .inr (.inl ⟨hj.1, l1 hj.1, hj.2.2.1⟩)
    · exact .inr (.inr (.inr (.inr (.inr (.inr (.inl ⟨hj.1, l2 hj.1, hj.2.2.1⟩))))))
    · clear l1 l2 l3 l4; exact .inr (.inr (.inl (by omega)))
    · have := l3 hj.1; clear l1 l2 l3 l4; exact .inr (.inr (.inr (.inr (.inl (by omega)))))
    · exact .inr (.inr (.inr (.inr (.inr (.inl ⟨hj.1, l4 hj.1, hj.2.2.1⟩)))))
  · obtain ⟨j, hj⟩ := hj
    unfold rPJ at hj; unfold lvJ; omega
  · rcases hl with u | u | u | u
    · exact .inr (.inr (.inr (.inl u)))
    · exact .inr (.inr (.inl ⟨u.1, u.2.1, by omega, by omega⟩))
    · exact .inr (.inr (.inr (.inr (.inr (.inr (.inr (.inl u)))))))
    · exact .inr (.inr (.inr (.inr (.inr (.inr (.inr (.inr u)))))))
  · unfold rBg
    rw [ha.1 3 l 0 (by unfold lvI; omega), ha.1 3 l 7 (by unfold lvI; omega)]; exact h.bg hl
-- the invariant
theorem iLd.co (h : iLd S l) (c4 : z_I S' 0 0 4 = z_I S 0 0 4) (c0 : z_I S' 0 0 0 = z_I S 0 0 0) (hf : ∀ f, f < 9 → z_I S' 3 l f = z_I S 3 l f) : iLd S' l := by
  have eN : cS S' = cS S := congrArg Int32.toNatClampNeg c4
  unfold iLd at h ⊢
  rw [hf 0 (by omega), hf 1 (by omega), hf 2 (by omega), hf 3 (by omega), hf 4 (by omega), hf 5 (by omega), hf 6 (by omega), hf 7 (by omega), hf 8 (by omega), eN, c0]; exact h
theorem iKd.co (h : iKd T S k) (h2 : ∀ f, 2 ≤ f → f < 5 → z_I S' 2 k f = z_I S 2 k f) (h12 : ∀ i, z_I S' 12 k i = z_I S 12 k i) (h13 : ∀ i, z_I S' 13 k i = z_I S 13 k i) : iKd T S' k := by
  have et := cTold.co (h2 2 (by omega) (by omega))
  unfold iKd at h ⊢
  rw [h2 2 (by omega) (by omega), h2 3 (by omega) (by omega), h2 4 (by omega) (by omega), et]
  refine ⟨h.1, fun i hi => ?_, h.2.2⟩
  rw [h12, h13]; exact h.2.1 i hi
theorem iHo.co (h : iHo S l) (eG : cG S' = cG S) (hf : ∀ g, g < 4 → z_I S' 14 l g = z_I S 14 l g) : iHo S' l := by
  intro g hg
  rw [hf g hg, eG]; exact h g hg
theorem iGu.co (h : iGu B S g) (hf : ∀ f, f < 3 → z_I S' 1 g f = z_I S 1 g f) : iGu B S' g := by
  unfold iGu at h ⊢
  rw [hf 0 (by omega), hf 1 (by omega), hf 2 (by omega)]; exact h
theorem InvA.mk' (h : InvA B T S) (c0 : z_I S' 0 0 0 = z_I S 0 0 0) (c1 : z_I S' 0 0 1 = z_I S 0 0 1) (c3 : z_I S' 0 0 3 = z_I S 0 0 3) (c5 : z_I S' 0 0 5 = z_I S 0 0 5)
    (hg : ∀ g, g < cG S → iGu B S' g) (hs : ∀ g, g < cG S → (z_I S' 1 g 1).toInt = iSum (fun l => (z_I S' 14 l g).toInt) (cL S)) (hh : ∀ l, l < cL S → iHo S' l) (hl : ∀ l, l < cL S → iLd S' l) (hk : ∀ k, k < 5 → iKd T S' k) : InvA B T S' := by
  have eG : cG S' = cG S := congrArg Int32.toNatClampNeg c3
  have eL : cL S' = cL S := congrArg Int32.toNatClampNeg c5
  refine ⟨h.1, by rw [c0, c1]; exact h.2.1, ?_, ?_, ?_, ?_, hk⟩
  · rw [eG]; exact hg
  · rw [eG, eL]; exact hs
  · rw [eL]; exact hh
  · rw [eL]; exact hl
theorem InvA.alk (h : InvA B T S) (hG : cG S ≤ 4) (ha : Alk S S') : InvA B T S' := by
  refine h.mk' (ha.hd (by omega)) (ha.hd (by omega)) (ha.hd (by omega)) (ha.hd (by omega)) (fun g hg => (h.gu hg).co fun f hf => ha.1 1 g f (by unfold lvI; omega)) (fun g hg => ?_) (fun l hl => (h.ho hl).co ha.G fun g hg => ha.1 14 l g (by unfold lvI; omega)) (fun l hl => (h.ld hl).co (ha.hd (by omega)) (ha.hd (by omega)) fun f hf => ha.1 3 l f (by unfold lvI; omega)) (fun k hk => (h.kd hk).co (fun f h1 h2 => ha.1 2 k f (by unfold lvI; omega)) (fun i => ha.1 12 k i (by unfold lvI; omega)) fun i => ha.1 13 k i (by unfold lvI; omega))
  rw [ha.1 1 g 1 (by unfold lvI; omega), h.sm hg]
  exact iSum_ext _ fun i hi => by rw [ha.1 14 i g (by unfold lvI; omega)]
-- money moves
theorem InvA.money {δ ε : Int} (h : InvA B T S) (hG : cG S ≤ 4) (hg : g < cG S) (hl : l < cL S) (e1 : (z_I S' 1 g 1).toInt = (z_I S 1 g 1).toInt + δ) (e2 : (z_I S' 1 g 2).toInt = (z_I S 1 g 2).toInt + ε) (e3 : (z_I S' 14 l g).toInt = (z_I S 14 l g).toInt + δ)
    (b1 : 0 ≤ (z_I S 14 l g).toInt + δ) (b2 : 0 ≤ (z_I S 1 g 2).toInt + ε) (b3 : (z_I S 1 g 1).toInt + δ + ((z_I S 1 g 2).toInt + ε) ≤ (z_I S 1 g 0).toInt)
    (ho : ∀ k i f, ¬ (k = 1 ∧ i = g ∧ (f = 1 ∨ f = 2)) → ¬ (k = 14 ∧ i = l ∧ f = g) → z_I S' k i f = z_I S k i f) : InvA B T S' := by
  have hc : ∀ f, z_I S' 0 0 f = z_I S 0 0 f := fun f => ho 0 0 f (by omega) (by omega)
  have eG : cG S' = cG S := congrArg Int32.toNatClampNeg (hc 3)
  refine h.mk' (hc 0) (hc 1) (hc 3) (hc 5) (fun g' hg' => ?_) (fun g' hg' => ?_) (fun l' hl' g' hg' => ?_) (fun l' hl' => (h.ld hl').co (hc 4) (hc 0) fun f hf => ho 3 l' f (by omega) (by omega)) (fun k hk => (h.kd hk).co (fun f _ _ => ho 2 k f (by omega) (by omega)) (fun i => ho 12 k i (by omega) (by omega)) fun i => ho 13 k i (by omega) (by omega))
  · by_cases u : g' = g
    · subst u
      have := h.gu hg'
      unfold iGu at this ⊢
      rw [e1, e2, ho 1 g' 0 (by omega) (by omega)]; omega
    · exact (h.gu hg').co fun f hf => ho 1 g' f (by omega) (by omega)
  · by_cases u : g' = g
    · subst u
      rw [e1, h.sm hg', iSum_up (F := fun l => (z_I S 14 l g').toInt) (H := fun l => (z_I S' 14 l g').toInt) (cL S) hl fun i hi hne => by
        show _ = _
        rw [ho 14 i g' (by omega) (by omega)]]
      show _ = _ + ((z_I S' 14 l g').toInt - (z_I S 14 l g').toInt)
      rw [e3]; omega
    · rw [ho 1 g' 1 (by omega) (by omega), h.sm hg']
      exact iSum_ext _ fun i hi => by rw [ho 14 i g' (by omega) (by omega)]
  · rw [eG]
    by_cases u : l' = l ∧ g' = g
    · obtain ⟨rfl, rfl⟩ := u
      rw [e3]
      exact ⟨b1, fun z => by omega⟩
    · rw [ho 14 l' g' (by omega) (by omega)]; exact h.ho hl' g' hg'
theorem InvA.due {ε : Int} (h : InvA B T S) (hg : g < cG S) (e2 : (z_I S' 1 g 2).toInt = (z_I S 1 g 2).toInt + ε) (b2 : 0 ≤ (z_I S 1 g 2).toInt + ε) (b3 : (z_I S 1 g 1).toInt + ((z_I S 1 g 2).toInt + ε) ≤ (z_I S 1 g 0).toInt)
    (ho : ∀ k i f, ¬ (k = 1 ∧ i = g ∧ f = 2) → z_I S' k i f = z_I S k i f) : InvA B T S' := by
  have hc : ∀ f, z_I S' 0 0 f = z_I S 0 0 f := fun f => ho 0 0 f (by omega)
  refine h.mk' (hc 0) (hc 1) (hc 3) (hc 5) (fun g' hg' => ?_) (fun g' hg' => ?_) (fun l' hl' => (h.ho hl').co (congrArg Int32.toNatClampNeg (hc 3)) fun g _ => ho 14 l' g (by omega)) (fun l' hl' => (h.ld hl').co (hc 4) (hc 0) fun f hf => ho 3 l' f (by omega)) (fun k hk => (h.kd hk).co (fun f _ _ => ho 2 k f (by omega)) (fun i => ho 12 k i (by omega)) fun i => ho 13 k i (by omega))
  · by_cases u : g' = g
    · subst u
      have := h.gu hg'
      unfold iGu at this ⊢
      rw [e2, ho 1 g' 0 (by omega), ho 1 g' 1 (by omega)]; omega
    · exact (h.gu hg').co fun f hf => ho 1 g' f (by omega)
  · rw [ho 1 g' 1 (by omega), h.sm hg']
    exact iSum_ext _ fun i hi => by rw [ho 14 i g' (by omega)]
end Re8
