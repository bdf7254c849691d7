/-! ===== SOUNDNESS of one instruction ===== -/
section Snd
theorem z_li_e {a : Option zV} {K : Int32 → Prop} (h : z_li a K) : ∃ v, a = some (zi v) ∧ K v := by
  unfold z_li at h
  split at h
  · exact ⟨_, rfl, h⟩
  · exact h.elim
theorem z_ll_e {a : Option zV} {K : Int64 → Prop} (h : z_ll a K) : ∃ v, a = some (zl v) ∧ K v := by
  unfold z_ll at h
  split at h
  · exact ⟨_, rfl, h⟩
  · exact h.elim
theorem z_lr_e {a : Option zV} {K : Option (Nat × Nat × Nat) → Prop} (h : z_lr a K) : ∃ v, a = some (zr v) ∧ K v := by
  unfold z_lr at h
  split at h
  · exact ⟨_, rfl, h⟩
  · exact h.elim
theorem z_p1_e {st : List zV} {K : Int32 → List zV → Prop} (h : z_p1 st K) : ∃ x s, st = zi x :: s ∧ K x s := by
  unfold z_p1 at h
  split at h
  · exact ⟨_, _, rfl, h⟩
  · exact h.elim
theorem z_p2_e {st : List zV} {K : Int32 → Int32 → List zV → Prop} (h : z_p2 st K) : ∃ x y s, st = zi y :: zi x :: s ∧ K x y s := by
  unfold z_p2 at h
  split at h
  · exact ⟨_, _, _, rfl, h⟩
  · exact h.elim
theorem z_q1_e {st : List zV} {K : Int64 → List zV → Prop} (h : z_q1 st K) : ∃ x s, st = zl x :: s ∧ K x s := by
  unfold z_q1 at h
  split at h
  · exact ⟨_, _, rfl, h⟩
  · exact h.elim
theorem z_q2_e {st : List zV} {K : Int64 → Int64 → List zV → Prop} (h : z_q2 st K) : ∃ x y s, st = zl y :: zl x :: s ∧ K x y s := by
  unfold z_q2 at h
  split at h
  · exact ⟨_, _, _, rfl, h⟩
  · exact h.elim
theorem z_r1_e {st : List zV} {K : Option (Nat × Nat × Nat) → List zV → Prop} (h : z_r1 st K) : ∃ x s, st = zr x :: s ∧ K x s := by
  unfold z_r1 at h
  split at h
  · exact ⟨_, _, rfl, h⟩
  · exact h.elim
theorem z_h1_e {st : List zV} {K : (Nat × Nat × Nat) → List zV → Prop} (h : z_h1 st K) : ∃ x s, st = zr (some x) :: s ∧ K x s := by
  unfold z_h1 at h
  split at h
  · exact ⟨_, _, rfl, h⟩
  · exact h.elim
theorem z_a1_e {st : List zV} {K : Int32 → (Nat × Nat × Nat) → List zV → Prop} (h : z_a1 st K) : ∃ i x s, st = zi i :: zr (some x) :: s ∧ K i x s := by
  unfold z_a1 at h
  split at h
  · exact ⟨_, _, _, rfl, h⟩
  · exact h.elim
theorem z_c1_e {v : zV} {K : Prop} (h : z_c1 v K) : ¬ z_lg v ∧ K := by
  unfold z_c1 at h
  split at h
  · exact h.elim
  · rename_i x
    refine ⟨fun g => ?_, h⟩
    match v, g, x with
    | .inr (.inl y), _, x => exact x y rfl
theorem z_ok_e {b : Bool} {K : Prop} (h : z_ok b K) : b = true ∧ K := by
  unfold z_ok at h
  split at h
  · exact ⟨rfl, h⟩
  · exact h.elim
theorem z_on_e {b : Option Nat} {K : Nat → Prop} (h : z_on b K) : ∃ n, b = some n ∧ K n := by
  unfold z_on at h
  split at h
  · exact ⟨_, rfl, h⟩
  · exact h.elim
theorem z_pops_e : ∀ (n : Nat) (a st as s : List zV), z_pops n a st = some (as, s) → ∃ b, b.length = n ∧ st = b ++ s ∧ as = b.reverse ++ a
  | 0, a, st, as, s, h => by
    cases h
    exact ⟨[], rfl, rfl, rfl⟩
  | n + 1, a, [], as, s, h => by simp [z_pops] at h
  | n + 1, a, v :: st, as, s, h => by
    obtain ⟨b, h1, h2, h3⟩ := z_pops_e n (v :: a) st as s h
    exact ⟨v :: b, by simp [h1], by simp [h2], by simp [h3]⟩
theorem z_po_e {n : Nat} {st : List zV} {K : List zV → List zV → Prop} (h : z_po n st K) : ∃ as s, as.length = n ∧ st = as.reverse ++ s ∧ K as s := by
  unfold z_po at h
  split at h
  · rename_i as s hp
    obtain ⟨b, h1, h2, h3⟩ := z_pops_e _ _ _ _ _ hp
    subst h3
    exact ⟨_, s, by simp [h1], by simp [h2], h⟩
  · exact h.elim
theorem z_rc_e {as : List zV} {k : Nat} {K : Prop} (h : z_rc as k K) : ∃ g l, as = zr (some g) :: l ∧ g.1 = k ∧ K := by
  unfold z_rc at h
  split at h
  · obtain ⟨h1, h2⟩ := z_ok_e h
    exact ⟨_, _, rfl, Nat.eq_of_beq_eq_true h1, h2⟩
  · exact h.elim
theorem z_sh_e {pl : zP} : ∀ (st : List zV) (n : Nat), z_sh st n = true → ((st.map (z_cv pl)).map fun v => v.category).sum ≤ 2 * n
  | [], _, _ => by simp
  | _ :: _, 0, h => by simp [z_sh] at h
  | v :: st, n + 1, h => by
    have h1 := z_sh_e (pl := pl) st n h
    have h2 : (z_cv pl v).category ≤ 2 := by rcases lv_cat (z_cv pl v) with q | q <;> omega
    simp only [List.map_cons, List.sum_cons]
    omega
theorem z_sw_e {J : Nat → Prop} {pc : Nat} {x : Int} : ∀ (os : List Int) (lo : Int), z_sw J pc x lo os → ∀ (n : Nat) (o : Int), os[n]? = some o → x = lo + n → J ((pc : Int) + o).toNat
  | [], _, _, n, o, h, _ => by simp at h
  | o' :: os, lo, q, 0, o, h, e => by
    simp at h
    subst h
    exact q.1 (by simpa using e)
  | o' :: os, lo, q, n + 1, o, h, e => z_sw_e os (lo + 1) q.2 n o (by simpa using h) (by rw [e]; push_cast; omega)
theorem z_va.mono {nb nb' k r i : Nat} (h : z_va nb k r i) (hn : nb ≤ nb') : z_va nb' k r i := ⟨h.1, h.2.imp id fun q => q.imp id fun w => ⟨w.1, w.2.1, Nat.lt_of_lt_of_le w.2.2 hn⟩⟩
theorem z_vv.mono {sc : zX} {nb nb' : Nat} {v : zV} (h : z_vv sc nb v) (hn : nb ≤ nb') : z_vv sc nb' v := by
  unfold z_vv at h ⊢
  split
  · exact h.imp (fun q => q.mono hn) id
  · trivial
/-- what a frame of the JVM holds of the small machine's state -/
def z_ext (nb0 : Nat) (pl0 : zP) (nb : Nat) (pl : zP) : Prop := nb0 ≤ nb ∧ (∀ k r i, z_va nb0 k r i → pl k r i = pl0 k r i) ∧ pl 34 1 0 = pl0 34 1 0
def z_Hp (D : va_G) (tc : Nat → ClassId) (A : Nat → Prop) (s : State) (nb0 : Nat) (pl0 : zP) (m : zM) (H : Heap) (locs : List Loc) (pl : zP) : Prop :=
  (∃ L F, va_P D z_cl (va_pl L F) H ∧ va_D A (va_pl L F) ∧ z_R tc L F pl m) ∧ va_S A s.heap H locs ∧ z_ext nb0 pl0 (z_nb m) pl
theorem z_cv_ext {sc : zX} {nb0 nb : Nat} {pl0 pl : zP} {v : zV} (h : z_ext nb0 pl0 nb pl) (hv : z_vv sc nb0 v) : z_cv pl v = z_cv pl0 v := by
  match v, hv with
  | .inl x, _ => rfl
  | .inr (.inl x), _ => rfl
  | .inr (.inr none), _ => rfl
  | .inr (.inr (some g)), hv =>
    rcases hv with q | q
    · exact congrArg Value.ref (h.2.1 _ _ _ q)
    · subst q
      exact congrArg Value.ref h.2.2
theorem z_st_ext {sc : zX} {nb0 nb : Nat} {pl0 pl : zP} {st : List zV} (h : z_ext nb0 pl0 nb pl) (hv : z_vs sc nb0 st) : st.map (z_cv pl) = st.map (z_cv pl0) := List.map_congr_left fun v q => z_cv_ext h (hv v q)
theorem z_ls_ext {sc : zX} {nb0 nb nL : Nat} {pl0 pl : zP} {ls : zL} {la : Array Slot} (h : z_ext nb0 pl0 nb pl) (hv : z_vl sc nb0 ls) (hl : z_lR pl0 nL ls la) : z_lR pl nL ls la := ⟨hl.1, hl.2.1, hl.2.2.1, fun n v q => by rw [z_cv_ext h (hv n v q)]; exact hl.2.2.2 n v q⟩
theorem z_ext.tr {nb0 nb1 nb2 : Nat} {pl0 pl1 pl2 : zP} (h : z_ext nb0 pl0 nb1 pl1) (g : z_ext nb1 pl1 nb2 pl2) : z_ext nb0 pl0 nb2 pl2 := ⟨Nat.le_trans h.1 g.1, fun k r i q => (g.2.1 k r i (q.mono h.1)).trans (h.2.1 k r i q), g.2.2.trans h.2.2⟩
theorem z_Hp.set {D : va_G} {tc : Nat → ClassId} {A : Nat → Prop} {s : State} {nb0 : Nat} {pl0 pl : zP} {m m' : zM} {H1 : Heap} {locs1 : List Loc} {L : List Nat} {F : Nat → va_E} {k r i q0 : Nat} {w : va_E} (hD : va_D A (va_pl L F)) (hq : (va_pl L F)[q0]? = some (pl k r i, z_cell tc pl m k r i)) (hR : z_R tc L F pl m) (hv : z_va (z_nb m) k r i) (hw : w = z_cell tc pl m' k r i) (hR' : z_R tc L (va_up F (pl k r i) (z_cell tc pl m' k r i)) pl m') (hnb : z_nb m' = z_nb m) (hP1 : va_P D z_cl ((va_pl L F).set q0 (pl k r i, w)) H1) (hD1 : va_D A ((va_pl L F).set q0 (pl k r i, w))) (hS1 : va_S A s.heap H1 locs1) (he : z_ext nb0 pl0 (z_nb m) pl) : z_Hp D tc A s nb0 pl0 m' H1 locs1 pl := by
  have e := va_pl_set (X := []) (e := w) hD (hR.1 k r i hv).1 (by rw [(hR.1 k r i hv).2]; exact hq)
  have e1 : (va_pl L F).set q0 (pl k r i, w) = va_pl L (va_up F (pl k r i) (z_cell tc pl m' k r i)) := by rw [← hw]; exact e
  rw [e1] at hP1 hD1
  exact ⟨⟨L, _, hP1, hD1, hR'⟩, hS1, by rw [hnb]; exact he⟩
theorem z_obj {tc : Nat → ClassId} {pl : zP} {m : zM} {k r i : Nat} (hk : k < 7) : z_cell tc pl m k r i = .inr (k, z_fs pl m k r i) := by unfold z_cell; rw [if_pos hk]
theorem z_ik_ge {k n : Nat} (h : z_ik k = some n) : ¬ k < 7 := fun hk => by
  have : ∀ k, k < 7 → z_ik k = none := by decide
  rw [this k hk] at h
  cases h
theorem z_arr {tc : Nat → ClassId} {pl : zP} {m : zM} {k r i n : Nat} (h : z_ik k = some n) : z_cell tc pl m k r i = .inl (tc 0, n, .inl (z_rw n 0 fun j => z_I (z_g m r) k i j)) := by unfold z_cell; rw [if_neg (z_ik_ge h), h]
theorem z_arrL {tc : Nat → ClassId} {pl : zP} {m : zM} {k r i n : Nat} (h : z_lk k = some n) : z_cell tc pl m k r i = .inl (tc 1, n, .inr (.inl (z_rw n 0 fun j => z_J (z_g m r) k i j))) := by
  revert h
  unfold z_lk
  split <;> intro h <;> first | (cases h; rfl) | cases h
theorem z_arrR {tc : Nat → ClassId} {pl : zP} {m : zM} {k r i n k' : Nat} (h : z_rk k = some (n, .inl k')) : z_cell tc pl m k r i = .inl (tc (k' + 3), n, .inr (.inr (.inr (.inr (z_rw n none fun j => some (pl k' r j)))))) := by
  revert h
  unfold z_rk
  split <;> intro h <;> first | (cases h; rfl) | cases h
theorem z_arrD {tc : Nat → ClassId} {pl : zP} {m : zM} {k r i n b : Nat} (h : z_rk k = some (n, .inr b)) : z_cell tc pl m k r i = .inl (tc 3, n, .inr (.inr (.inr (.inr (z_rw n none fun j => (z_d m (b + j)).map fun q => pl 0 q 0))))) := by
  revert h
  unfold z_rk
  split <;> intro h <;> first | (cases h; rfl) | cases h
theorem z_fs_cl : ∀ k, k < 7 → z_cl[k]? = some (z_cn k, z_TT k, z_nf k) := by
  intro k hk
  match k, hk with
  | 0, _ => rfl
  | 1, _ => rfl
  | 2, _ => rfl
  | 3, _ => rfl
  | 4, _ => rfl
  | 5, _ => rfl
  | 6, _ => rfl
theorem z_in_all : ∀ k, k < 7 → ∀ w ∈ u_ws (z_cn k) (z_TT k) (z_nf k), w ∈ z_tbl := by
  intro k hk
  match k, hk with
  | 0, _ => exact z_in0
  | 1, _ => exact z_in1
  | 2, _ => exact z_in2
  | 3, _ => exact z_in3
  | 4, _ => exact z_in4
  | 5, _ => exact z_in5
  | 6, _ => exact z_in6
theorem z_ty_all : ∀ k, k < 7 → ∀ f, f < z_nf k → parseFieldDescriptor (z_TT k f).2.2.1 = some (z_YY k f) := by
  intro k hk
  match k, hk with
  | 0, _ => exact z_ty0
  | 1, _ => exact z_ty1
  | 2, _ => exact z_ty2
  | 3, _ => exact z_ty3
  | 4, _ => exact z_ty4
  | 5, _ => exact z_ty5
  | 6, _ => exact z_ty6
theorem z_nm_all : ∀ k, k < 7 → ∀ a, a < z_nf k → ∀ b, b < z_nf k → a ≠ b → (z_TT k a).2.1 ≠ (z_TT k b).2.1 := by
  intro k hk
  match k, hk with
  | 0, _ => exact z_nm0
  | 1, _ => exact z_nm1
  | 2, _ => exact z_nm2
  | 3, _ => exact z_nm3
  | 4, _ => exact z_nm4
  | 5, _ => exact z_nm5
  | 6, _ => exact z_nm6
theorem z_fy : ∀ k, k < 7 → ∀ f, f < z_nf k → (z_fT k f = 0 → z_YY k f = .int) ∧ (z_fT k f = 1 → z_YY k f = .long) ∧ (z_fT k f = 3 → z_YY k f = .object (z_cn 0) ∧ k = 5 ∧ f = 1) := by decide +kernel
end Snd
