set_option maxHeartbeats 400000
/-! ===== THE CLASS: its books ===== -/
section Me2
variable {i j q r J : Nat} {v w : Int32} {m m' : zM} {S : zS}
def DY (m : zM) : Prop := 2 < z_nb m ∧ (∀ j q, z_d m j = some q → 2 < q ∧ q < z_nb m) ∧ ∀ j j' q, z_d m j = some q → z_d m j' = some q → j = j'
theorem DY.dyn (h : DY m) : cDynOk m := ⟨h.1, fun j q hq => by have := h.2.1 j q hq; omega⟩
theorem DY.co (h : DY m) (hd : ∀ j, z_d m' j = z_d m j) (hn : z_nb m' = z_nb m) : DY m' := by
  refine ⟨by rw [hn]; exact h.1, fun j q hq => ?_, fun j j' q h1 h2 => ?_⟩
  · rw [hd] at hq; rw [hn]; exact h.2.1 j q hq
  · rw [hd] at h1 h2; exact h.2.2 j j' q h1 h2
-- a book copied into the place J
abbrev mCb (m : zM) (J : Nat) : Nat := (mCopied m (z_d m J)).1
abbrev mCz (m : zM) (J : Nat) : zM := z_sd (mCopied m (z_d m J)).2 J (some (mCb m J))
theorem mCz_d (m : zM) (J j : Nat) : z_d (mCz m J) j = if j = J then some (mCb m J) else z_d m j := by
  show (if j = J then some (mCb m J) else z_d (mCopied m (z_d m J)).2 j) = _
  rw [mCopied_d]
theorem mCz_b (h : DY m) (J : Nat) : 2 < mCb m J ∧ mCb m J < z_nb (mCz m J) ∧ z_nb m ≤ z_nb (mCz m J) ∧ (∀ j q, j ≠ J → z_d m j = some q → q ≠ mCb m J) ∧ (∃ S0, z_g (mCz m J) (mCb m J) = cpBk S0 (z_g m 2)) ∧ ∀ r, r ≠ mCb m J → z_g (mCz m J) r = z_g m r := by
  show 2 < (mCopied m (z_d m J)).1 ∧ (mCopied m (z_d m J)).1 < z_nb (mCopied m (z_d m J)).2 ∧ z_nb m ≤ z_nb (mCopied m (z_d m J)).2 ∧ (∀ j q, j ≠ J → z_d m j = some q → q ≠ (mCopied m (z_d m J)).1) ∧ (∃ S0, z_g (mCopied m (z_d m J)).2 (mCopied m (z_d m J)).1 = cpBk S0 (z_g m 2)) ∧ ∀ r, r ≠ (mCopied m (z_d m J)).1 → z_g (mCopied m (z_d m J)).2 r = z_g m r
  have h0 := h.1
  cases e : z_d m J with
  | none =>
    show 2 < z_nb m ∧ z_nb m < z_nb m + 1 ∧ z_nb m ≤ z_nb m + 1 ∧ (∀ j q, j ≠ J → z_d m j = some q → q ≠ z_nb m) ∧ (∃ S0, z_g (z_s (z_nw m) (z_nb m) (cpBk z_b0 (z_g m 2))) (z_nb m) = cpBk S0 (z_g m 2)) ∧ ∀ r, r ≠ z_nb m → z_g (z_s (z_nw m) (z_nb m) (cpBk z_b0 (z_g m 2))) r = z_g m r
    refine ⟨h0, Nat.lt_succ_self _, Nat.le_succ _, fun j q _ hq => ?_, ⟨z_b0, z_g_ss _ _ _⟩, fun r hr => ?_⟩
    · have := h.2.1 j q hq; omega
    · rw [z_g_sn hr, z_g_nw hr]
  | some b =>
    show 2 < b ∧ b < z_nb m ∧ z_nb m ≤ z_nb m ∧ (∀ j q, j ≠ J → z_d m j = some q → q ≠ b) ∧ (∃ S0, z_g (z_s m b (cpBk (z_g m b) (z_g m 2))) b = cpBk S0 (z_g m 2)) ∧ ∀ r, r ≠ b → z_g (z_s m b (cpBk (z_g m b) (z_g m 2))) r = z_g m r
    have hb := h.2.1 J b e
    refine ⟨hb.1, hb.2, Nat.le_refl _, fun j q hj hq hqb => hj (h.2.2 j J b (by rw [← hqb]; exact hq) e), ⟨z_g m b, z_g_ss _ _ _⟩, fun r hr => z_g_sn hr⟩
theorem mCz_dy (h : DY m) (J : Nat) : DY (mCz m J) := by
  obtain ⟨b1, b2, b3, b4, -, -⟩ := mCz_b h J
  have h0 := h.1
  refine ⟨by omega, fun j q hq => ?_, fun j j' q h1 h2 => ?_⟩
  · rw [mCz_d] at hq
    by_cases u : j = J
    · rw [if_pos u] at hq; cases hq; exact ⟨b1, b2⟩
    · rw [if_neg u] at hq
      have := h.2.1 j q hq
      omega
  · rw [mCz_d] at h1 h2
    by_cases u : j = J
    · rw [if_pos u] at h1
      by_cases u' : j' = J
      · rw [u, u']
      · rw [if_neg u'] at h2
        cases h1
        exact absurd rfl (b4 j' _ u' h2)
    · rw [if_neg u] at h1
      by_cases u' : j' = J
      · rw [if_pos u'] at h2
        cases h2
        exact absurd rfl (b4 j _ u h1)
      · rw [if_neg u'] at h2
        exact h.2.2 j j' q h1 h2
-- what was kept
theorem mKeep_z (m : zM) (v : Int32) : mKeep m v = z_s (mCz (mKeep1 m) (3 + cSlot m)) 0 (z_uI (z_g (mCz (mKeep1 m) (3 + cSlot m)) 0) 19 0 (cSlot m) v) := rfl
theorem mKeep1_dy (h : DY m) : DY (mKeep1 m) := h.co (fun _ => rfl) rfl
theorem cSlot_lt : cSlot m < 8 := Nat.mod_lt _ (by decide)
abbrev mKb (m : zM) : Nat := mCb (mKeep1 m) (3 + cSlot m)
theorem mKeep_d (m : zM) (v : Int32) (j : Nat) : z_d (mKeep m v) j = if j = 3 + cSlot m then some (mKb m) else z_d m j := by
  rw [mKeep_z]
  show z_d (mCz (mKeep1 m) (3 + cSlot m)) j = _
  rw [mCz_d]; rfl
theorem mKeep_dy (h : DY m) : DY (mKeep m v) := (mCz_dy (mKeep1_dy h) (3 + cSlot m)).co (fun _ => rfl) rfl
theorem mKeep_b (h : DY m) : 2 < mKb m ∧ (∀ j q, j ≠ 3 + cSlot m → z_d m j = some q → q ≠ mKb m) ∧ (∃ S0, z_g (mKeep m v) (mKb m) = cpBk S0 (z_g m 2)) ∧ ∀ r, r ≠ 0 → r ≠ mKb m → z_g (mKeep m v) r = z_g m r := by
  obtain ⟨b1, b2, b3, b4, ⟨S0, b5⟩, b6⟩ := mCz_b (mKeep1_dy h) (3 + cSlot m)
  refine ⟨b1, fun j q hj hq => b4 j q hj hq, ⟨S0, ?_⟩, fun r h0 hr => ?_⟩
  · have b0 : mCb (mKeep1 m) (3 + cSlot m) ≠ 0 := by omega
    rw [mKeep_z, z_g_sn b0, b5]
    have : z_g (mKeep1 m) 2 = z_g m 2 := z_g_20
    rw [this]
  · rw [mKeep_z, z_g_sn h0, b6 r hr]
    exact z_g_sn h0
theorem mKeep_0 (h : DY m) : z_g (mKeep m v) 0 = z_uI (cKeepX m) 19 0 (cSlot m) v := by
  obtain ⟨b1, -, -, -, -, b6⟩ := mCz_b (mKeep1_dy h) (3 + cSlot m)
  rw [mKeep_z, z_g_ss, b6 0 (by omega)]
  have : z_g (mKeep1 m) 0 = cKeepX m := z_g_ss _ _ _
  rw [this]
theorem cKeepX_o {k i f : Nat} (h : ¬ (k = 5 ∧ i = 0 ∧ (f = 5 ∨ f = 6))) : z_I (cKeepX m) k i f = z_I (z_g m 0) k i f := by
  unfold cKeepX
  split
  · rw [z_I_u, if_neg (by omega)]
  · rw [z_I_u, if_neg (by omega)]
abbrev cFl (m : zM) : Nat := if cKc m = 8 then 1 else 0
theorem cKeepX_5 (h : cRing m) : z_I (cKeepX m) 5 0 5 = nI ((cKf m + cFl m) % 8) ∧ z_I (cKeepX m) 5 0 6 = nI (cKc m - cFl m + 1) := by
  have b5 : cKf m ≤ 7 := h.1.2
  have b6 : cKc m ≤ 8 := h.2.2
  unfold cKeepX cFl
  by_cases u : cKc m = 8
  · rw [if_pos u, if_pos u]
    refine ⟨by rw [z_I_u, if_pos ⟨rfl, rfl, rfl⟩], ?_⟩
    rw [z_I_u, if_neg (by omega), h.2.eq, show (z_I (z_g m 0) 5 0 6).toNatClampNeg = cKc m from rfl, u]
  · rw [if_neg u, if_neg u]
    refine ⟨?_, by rw [z_I_u, if_pos ⟨rfl, rfl, rfl⟩, Nat.sub_zero]⟩
    rw [z_I_u, if_neg (by omega), h.1.eq, show (z_I (z_g m 0) 5 0 5).toNatClampNeg = cKf m from rfl, show (cKf m + 0) % 8 = cKf m by omega]
theorem cSlot_is (h : cRing m) : cSlot m = (cKf m + cFl m + (cKc m - cFl m)) % 8 := by
  have b6 : cKc m ≤ 8 := h.2.2
  unfold cSlot cKf' cKc' cFl
  by_cases u : cKc m = 8
  · rw [if_pos u, if_pos u, if_pos u, u]; omega
  · rw [if_neg u, if_neg u, if_neg u]; omega
theorem mKeep_ring (h : cRing m) (hd : DY m) : cRing (mKeep m v) ∧ cKf (mKeep m v) = (cKf m + cFl m) % 8 ∧ cKc (mKeep m v) = cKc m - cFl m + 1 := by
  have b6 : cKc m ≤ 8 := h.2.2
  have b : cKc m - cFl m + 1 ≤ 8 := by
    unfold cFl
    by_cases u : cKc m = 8
    · rw [if_pos u]; omega
    · rw [if_neg u]; omega
  obtain ⟨e5, e6⟩ := cKeepX_5 h
  have g5 : z_I (z_g (mKeep m v) 0) 5 0 5 = nI ((cKf m + cFl m) % 8) := by rw [mKeep_0 hd, z_I_o (by decide), e5]
  have g6 : z_I (z_g (mKeep m v) 0) 5 0 6 = nI (cKc m - cFl m + 1) := by rw [mKeep_0 hd, z_I_o (by decide), e6]
  refine ⟨⟨by rw [g5]; exact nn_nI (by omega) (by omega), by rw [g6]; exact nn_nI (by omega) (by omega)⟩, ?_, ?_⟩
  · show (z_I (z_g (mKeep m v) 0) 5 0 5).toNatClampNeg = _
    rw [g5]; exact z_nIc (by omega)
  · show (z_I (z_g (mKeep m v) 0) 5 0 6).toNatClampNeg = _
    rw [g6]; exact z_nIc (by omega)
end Me2
