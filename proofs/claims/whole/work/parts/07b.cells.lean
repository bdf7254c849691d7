/-! ===== CELLS: one slot read, one slot written ===== -/
section Cells
variable {tc : Nat → ClassId} {L : List Nat} {F : Nat → va_E} {pl : zP} {m m' : zM} {k r i : Nat}
theorem z_cnt_lt {k i : Nat} (h : i < z_cnt k) : k < 34 := by
  refine Nat.lt_of_not_le fun hk => ?_
  obtain ⟨n, rfl⟩ := Nat.exists_eq_add_of_le' hk
  have e : z_cnt (n + 34) = 0 := rfl
  omega
theorem z_fT_ok : ∀ k, k < 7 → ∀ f, f < z_nf k → z_fT k f = 0 ∨ z_fT k f = 1 ∨ z_fT k f = 2 ∨ (z_fT k f = 3 ∧ k = 5) := by decide +kernel
theorem z_gf_cg {f : Nat} (hk : k < 7) (hf : f < z_nf k) (hI : ∀ j, z_I (z_g m' r) k i j = z_I (z_g m r) k i j) (hJ : ∀ j, z_J (z_g m' r) k i j = z_J (z_g m r) k i j) (hd : k = 5 → z_d m' 0 = z_d m 0) : z_gf m' (k, r, i) f = z_gf m (k, r, i) f := by
  unfold z_gf
  rcases z_fT_ok k hk f hf with h | h | h | ⟨h, h5⟩ <;> simp only [h]
  · rw [hI]
  · rw [hJ]
  · rw [hd h5]
theorem z_cell_cg (hI : ∀ j, z_I (z_g m' r) k i j = z_I (z_g m r) k i j) (hJ : ∀ j, z_J (z_g m' r) k i j = z_J (z_g m r) k i j) (h5 : k = 5 → z_d m' 0 = z_d m 0) (hd : ∀ n b j, z_rk k = some (n, .inr b) → j < n → z_d m' (b + j) = z_d m (b + j)) : z_cell tc pl m' k r i = z_cell tc pl m k r i := by
  unfold z_cell
  by_cases hk : k < 7
  · rw [if_pos hk, if_pos hk]
    unfold z_fs
    rw [List.map_congr_left fun f hf => by rw [z_gf_cg hk (List.mem_range.mp hf) hI hJ h5]]
  · rw [if_neg hk, if_neg hk]
    simp only [hI, hJ]
    cases h1 : z_ik k with
    | some n => rfl
    | none =>
      cases h2 : z_lk k with
      | some n => rfl
      | none =>
        rcases h3 : z_rk k with _ | ⟨n, k' | b⟩
        · rfl
        · rfl
        · have e : (z_rw n none fun j => (z_d m' (b + j)).map fun q => pl 0 q 0) = z_rw n none fun j => (z_d m (b + j)).map fun q => pl 0 q 0 := by
            funext j
            unfold z_rw
            by_cases hj : j < n
            · rw [if_pos hj, if_pos hj]
              show Option.map _ (z_d m' (b + j)) = Option.map _ (z_d m (b + j))
              rw [hd n b j h3 hj]
            · rw [if_neg hj, if_neg hj]
          simp only [e]
theorem z_R.get (h : z_R tc L F pl m) (hv : z_va (z_nb m) k r i) : ∃ q0 : Nat, (va_pl L F)[q0]? = some (pl k r i, z_cell tc pl m k r i) := by
  obtain ⟨h1, h2⟩ := h.1 k r i hv
  obtain ⟨q, hq⟩ := va_pl_get (X := []) (f := F) h1
  exact ⟨q, by rw [← h2]; exact hq⟩
theorem z_R.put (h : z_R tc L F pl m) (hv : z_va (z_nb m) k r i) (hnb : z_nb m' = z_nb m) (hd : ∀ j q, z_d m' j = some q → 2 ≤ q ∧ q < z_nb m) (ho : ∀ k' r' i', z_va (z_nb m) k' r' i' → ¬ (k' = k ∧ r' = r ∧ i' = i) → z_cell tc pl m' k' r' i' = z_cell tc pl m k' r' i') :
    z_R tc L (va_up F (pl k r i) (z_cell tc pl m' k r i)) pl m' := by
  refine ⟨fun k' r' i' hv' => ?_, fun k1 r1 i1 k2 r2 i2 h1 h2 => ?_, fun j q hj => ?_, by rw [hnb]; exact h.2.2.2⟩
  · rw [hnb] at hv'
    refine ⟨(h.1 _ _ _ hv').1, ?_⟩
    by_cases he : pl k' r' i' = pl k r i
    · obtain ⟨rfl, rfl, rfl⟩ := h.2.1 _ _ _ _ _ _ hv' hv he
      simp [va_up]
    · unfold va_up
      rw [if_neg he, (h.1 _ _ _ hv').2]
      exact (ho _ _ _ hv' fun g => he (by obtain ⟨rfl, rfl, rfl⟩ := g; rfl)).symm
  · rw [hnb] at h1 h2
    exact h.2.1 _ _ _ _ _ _ h1 h2
  · rw [hnb]
    exact hd j q hj
theorem z_g_s (m : zM) (r q : Nat) (S : zS) : z_g (z_s m r S) q = if q = r then S else z_g m q := rfl
theorem z_g_ss (m : zM) (r : Nat) (S : zS) : z_g (z_s m r S) r = S := if_pos rfl
theorem z_g_sn {m : zM} {r q : Nat} {S : zS} (h : q ≠ r) : z_g (z_s m r S) q = z_g m q := if_neg h
theorem z_I_u (S : zS) (k i f : Nat) (v : Int32) (k' i' f' : Nat) : z_I (z_uI S k i f v) k' i' f' = if k' = k ∧ i' = i ∧ f' = f then v else z_I S k' i' f' := rfl
theorem z_J_u (S : zS) (k i f : Nat) (v : Int64) (k' i' f' : Nat) : z_J (z_uJ S k i f v) k' i' f' = if k' = k ∧ i' = i ∧ f' = f then v else z_J S k' i' f' := rfl
theorem z_I_uJ (S : zS) (k i f : Nat) (v : Int64) (k' i' f' : Nat) : z_I (z_uJ S k i f v) k' i' f' = z_I S k' i' f' := rfl
theorem z_J_uI (S : zS) (k i f : Nat) (v : Int32) (k' i' f' : Nat) : z_J (z_uI S k i f v) k' i' f' = z_J S k' i' f' := rfl
/-- a slice that differs at one cell alone -/
theorem z_R.putS (h : z_R tc L F pl m) (hv : z_va (z_nb m) k r i) (S : zS) (hI : ∀ k' i' j, ¬ (k' = k ∧ i' = i) → z_I S k' i' j = z_I (z_g m r) k' i' j) (hJ : ∀ k' i' j, ¬ (k' = k ∧ i' = i) → z_J S k' i' j = z_J (z_g m r) k' i' j) :
    z_R tc L (va_up F (pl k r i) (z_cell tc pl (z_s m r S) k r i)) pl (z_s m r S) := by
  refine h.put hv rfl (fun j q hj => h.2.2.1 j q hj) fun k' r' i' hv' hn => ?_
  have e : r' = r → ¬ (k' = k ∧ i' = i) := fun e g => hn ⟨g.1, e, g.2⟩
  refine z_cell_cg (fun j => ?_) (fun j => ?_) (fun _ => rfl) (fun _ _ _ _ _ => rfl)
  · rw [z_g_s]
    by_cases hr : r' = r
    · rw [if_pos hr, hr, hI _ _ _ (e hr)]
    · rw [if_neg hr]
  · rw [z_g_s]
    by_cases hr : r' = r
    · rw [if_pos hr, hr, hJ _ _ _ (e hr)]
    · rw [if_neg hr]
theorem z_R.putI (h : z_R tc L F pl m) (hv : z_va (z_nb m) k r i) (f : Nat) (v : Int32) : z_R tc L (va_up F (pl k r i) (z_cell tc pl (z_s m r (z_uI (z_g m r) k i f v)) k r i)) pl (z_s m r (z_uI (z_g m r) k i f v)) :=
  h.putS hv _ (fun k' i' j g => by rw [z_I_u, if_neg fun q => g ⟨q.1, q.2.1⟩]) (fun _ _ _ _ => rfl)
theorem z_R.putJ (h : z_R tc L F pl m) (hv : z_va (z_nb m) k r i) (f : Nat) (v : Int64) : z_R tc L (va_up F (pl k r i) (z_cell tc pl (z_s m r (z_uJ (z_g m r) k i f v)) k r i)) pl (z_s m r (z_uJ (z_g m r) k i f v)) :=
  h.putS hv _ (fun _ _ _ _ => rfl) (fun k' i' j g => by rw [z_J_u, if_neg fun q => g ⟨q.1, q.2.1⟩])
theorem z_R.putD (h : z_R tc L F pl m) (hv : z_va (z_nb m) k r i) (j0 b : Nat) (hb : 2 ≤ b ∧ b < z_nb m) (h5 : j0 = 0 → k = 5) (hs : ∀ k' n b' j, z_rk k' = some (n, .inr b') → j < n → b' + j = j0 → k' = k) :
    z_R tc L (va_up F (pl k r i) (z_cell tc pl (z_sd m j0 (some b)) k r i)) pl (z_sd m j0 (some b)) := by
  have ho : ∀ j, j ≠ j0 → z_d (z_sd m j0 (some b)) j = z_d m j := fun j hj => if_neg hj
  refine h.put hv rfl (fun j q hj => ?_) fun k' r' i' hv' hn => ?_
  · by_cases e : j = j0
    · subst e
      have : z_d (z_sd m j (some b)) j = some b := if_pos rfl
      rw [this] at hj
      cases hj
      exact hb
    · rw [ho j e] at hj
      exact h.2.2.1 j q hj
  · have hkr : k' = k → z_rt k = 0 → r' = r ∧ i' = i := fun e hz => by
      subst e
      obtain ⟨h1, h2⟩ := hv'
      obtain ⟨h3, h4⟩ := hv
      have hc : z_cnt k' = 1 := by
        have : ∀ k, k < 34 → z_rt k = 0 → z_cnt k = 1 := by decide
        exact this k' (z_cnt_lt h1) hz
      omega
    have hz5 : z_rt 5 = 0 := rfl
    refine z_cell_cg (fun _ => rfl) (fun _ => rfl) (fun e => ho 0 fun q => ?_) (fun n b' j hr hj => ho _ fun q => ?_)
    · have hk := h5 q.symm
      obtain ⟨h1, h2⟩ := hkr (e.trans hk.symm) (by rw [hk]; rfl)
      exact hn ⟨e.trans hk.symm, h1, h2⟩
    · have hk := hs k' n b' j hr hj q
      have hz : z_rt k = 0 := by
        subst hk
        revert hr
        unfold z_rk
        split <;> intro hr <;> first | rfl | cases hr
      obtain ⟨h1, h2⟩ := hkr hk hz
      exact hn ⟨hk, h1, h2⟩
theorem z_rset {α : Type} {n f : Nat} {g : Nat → α} {v : α} (hf : f < n) : ((List.range n).map g).set f v = (List.range n).map fun j => if j = f then v else g j := by
  apply List.ext_getElem?
  intro j
  rw [List.getElem?_set]
  simp only [List.length_map, List.length_range, List.getElem?_map]
  by_cases hj : f = j
  · subst hj
    simp [hf]
  · rw [if_neg hj]
    by_cases hn : j < n
    · have : (List.range n)[j]? = some j := by simp [hn]
      rw [this, Option.map_some, Option.map_some, if_neg fun q : j = f => hj q.symm]
    · have : (List.range n)[j]? = none := by simp; omega
      simp [this]
theorem z_rget {α : Type} {n f : Nat} {g : Nat → α} (hf : f < n) : ((List.range n).map g)[f]? = some (g f) := by simp [hf]
theorem z_rw_in {α : Type} {n j : Nat} {d : α} {f : Nat → α} (h : j < n) : z_rw n d f j = f j := if_pos h
theorem z_rw_up {n j : Nat} {f g : Nat → Int32} {v : Int32} (h : j < n) (hv : g j = v) (ho : ∀ q, q ≠ j → g q = f q) : upd (z_rw n 0 f) j v = z_rw n 0 g := by
  funext q
  unfold upd z_rw
  by_cases hq : q = j
  · subst hq
    rw [if_pos rfl, if_pos h, hv]
  · rw [if_neg hq, ho q hq]
theorem z_rw_upL {n j : Nat} {f g : Nat → Int64} {v : Int64} (h : j < n) (hv : g j = v) (ho : ∀ q, q ≠ j → g q = f q) : vp_updL (z_rw n 0 f) j v = z_rw n 0 g := by
  funext q
  unfold vp_updL z_rw
  by_cases hq : q = j
  · subst hq
    rw [if_pos rfl, if_pos h, hv]
  · rw [if_neg hq, ho q hq]
theorem z_rw_upR {n j : Nat} {f g : Nat → Option Nat} {v : Nat} (h : j < n) (hv : g j = some v) (ho : ∀ q, q ≠ j → g q = f q) : va_up (z_rw n none f) j (some v) = z_rw n none g := by
  funext q
  unfold va_up z_rw
  by_cases hq : q = j
  · subst hq
    rw [if_pos rfl, if_pos h, hv]
  · rw [if_neg hq, ho q hq]
theorem z_rw_cpy {n : Nat} {f g h : Nat → Int32} (hh : ∀ q, q < n → h q = f q) : va_cpy (z_rw n 0 f) (z_rw n 0 g) 0 0 n = z_rw n 0 h := by
  funext q
  unfold va_cpy z_rw
  by_cases hq : q < n
  · simp [hq, hh q hq]
  · simp [hq]
theorem z_in_lt {x : Int32} {n : Nat} (h : vp_in x n) : x.toNatClampNeg < n := Nat.lt_of_not_le fun q => h (Or.inr q)
end Cells
