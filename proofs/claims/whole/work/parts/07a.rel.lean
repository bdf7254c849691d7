/-! ===== THE SMALL MACHINE'S STATE AND THE JVM'S: values, cells, locals ===== -/
section Rel
abbrev zP : Type := Nat → Nat → Nat → Nat
def z_cv (pl : zP) (v : zV) : Value := match v with
  | .inl x => .int x
  | .inr (.inl x) => .long x
  | .inr (.inr none) => .null
  | .inr (.inr (some h)) => .ref (pl h.1 h.2.1 h.2.2)
/-- how many there are of a kind in a region; whose regions: 0 the class's own, 1 the model's, 2 the books' -/
def z_cnt (k : Nat) : Nat := ([1, 4, 5, 40, 6, 1, 1, 1, 1, 1, 1, 1, 5, 5, 40, 6, 6, 1, 1, 1, 1, 1, 1, 1, 1, 1, 1, 1, 1, 1, 1, 1, 1, 1] : List Nat).getD k 0
def z_rt (k : Nat) : Nat := ([2, 2, 2, 2, 2, 0, 1, 2, 2, 2, 2, 2, 2, 2, 2, 2, 2, 0, 0, 0, 0, 1, 1, 1, 1, 1, 1, 1, 1, 1, 1, 1, 1, 1] : List Nat).getD k 9
def z_va (nb k r i : Nat) : Prop := i < z_cnt k ∧ (z_rt k = 0 ∧ r = 0 ∨ z_rt k = 1 ∧ r = 1 ∨ z_rt k = 2 ∧ 2 ≤ r ∧ r < nb)
def z_vv (_ : zX) (nb : Nat) (v : zV) : Prop := match v with
  | .inr (.inr (some h)) => z_va nb h.1 h.2.1 h.2.2 ∨ h = (34, 1, 0)
  | _ => True
def z_tys (tc : Nat → ClassId) : List (ClassId × FieldType) := [(tc 0, .int), (tc 1, .long), (tc 2, .boolean), (tc 3, .object (z_cn 0)), (tc 4, .object (z_cn 1)), (tc 5, .object (z_cn 2)), (tc 6, .object (z_cn 3)), (tc 7, .object (z_cn 4))]
def z_fs (pl : zP) (m : zM) (k r i : Nat) : List Value := (List.range (z_nf k)).map fun f => z_cv pl (z_gf m (k, r, i) f)
def z_rw {α : Type} (n : Nat) (d : α) (f : Nat → α) : Nat → α := fun j => if j < n then f j else d
def z_cell (tc : Nat → ClassId) (pl : zP) (m : zM) (k r i : Nat) : va_E :=
  if k < 7 then .inr (k, z_fs pl m k r i) else match z_ik k with
    | some n => .inl (tc 0, n, .inl (z_rw n 0 fun j => z_I (z_g m r) k i j))
    | none => match z_lk k with
      | some n => .inl (tc 1, n, .inr (.inl (z_rw n 0 fun j => z_J (z_g m r) k i j)))
      | none => match z_rk k with
        | some (n, .inl k') => .inl (tc (k' + 3), n, .inr (.inr (.inr (.inr (z_rw n none fun j => some (pl k' r j))))))
        | some (n, .inr b) => .inl (tc 3, n, .inr (.inr (.inr (.inr (z_rw n none fun j => (z_d m (b + j)).map fun q => pl 0 q 0)))))
        | none => .inl (tc 2, 2, .inl (z_rw 2 0 fun j => z_I (z_g m r) k i j))
def z_R (tc : Nat → ClassId) (L : List Nat) (F : Nat → va_E) (pl : zP) (m : zM) : Prop :=
  (∀ k r i, z_va (z_nb m) k r i → pl k r i ∈ L ∧ F (pl k r i) = z_cell tc pl m k r i) ∧
  (∀ k r i k' r' i', z_va (z_nb m) k r i → z_va (z_nb m) k' r' i' → pl k r i = pl k' r' i' → k = k' ∧ r = r' ∧ i = i') ∧
  (∀ j q, z_d m j = some q → 2 ≤ q ∧ q < z_nb m) ∧ 2 < z_nb m
def z_lR (pl : zP) (nL : Nat) (ls : zL) (la : Array Slot) : Prop := la.size = nL ∧ lv_wf la ∧ ls.length = nL ∧ ∀ n v, z_ld ls n = some v → la[n]? = some (.val (z_cv pl v))
def z_vl (sc : zX) (nb : Nat) (ls : zL) : Prop := ∀ n v, z_ld ls n = some v → z_vv sc nb v
def z_vs (sc : zX) (nb : Nat) (st : List zV) : Prop := ∀ v, v ∈ st → z_vv sc nb v
def z_as (pl : zP) (ls : zL) : List (Nat × Value) := (List.range ls.length).filterMap fun n => (z_ld ls n).map fun v => (n, z_cv pl v)
theorem z_ld_lt : ∀ {ls : zL} {n : Nat} {v : zV}, z_ld ls n = some v → n < ls.length
  | [], _, _, h => by simp [z_ld] at h
  | _ :: _, 0, _, _ => Nat.zero_lt_succ _
  | _ :: l, n + 1, v, h => Nat.succ_lt_succ (z_ld_lt (ls := l) h)
theorem z_as_mem {pl : zP} {ls : zL} {n : Nat} {v : zV} (h : z_ld ls n = some v) : (n, z_cv pl v) ∈ z_as pl ls :=
  List.mem_filterMap.mpr ⟨n, List.mem_range.mpr (z_ld_lt h), by rw [h]; rfl⟩
theorem z_lR.has {pl : zP} {nL : Nat} {ls : zL} {la : Array Slot} (h : z_lR pl nL ls la) : lv_has la nL (z_as pl ls) := by
  refine ⟨h.1, h.2.1, fun q hq => ?_⟩
  obtain ⟨n, -, hn⟩ := List.mem_filterMap.mp hq
  cases hv : z_ld ls n with
  | none => rw [hv] at hn; simp at hn
  | some v =>
    rw [hv] at hn
    cases hn
    exact h.2.2.2 n v hv
theorem z_st_len : ∀ (ls : zL) (n : Nat) (v : zV), (z_st ls n v).length = ls.length
  | [], _, _ => rfl
  | _ :: _, 0, _ => rfl
  | _ :: l, 1, v => congrArg (· + 1) (z_st_len l 0 v)
  | _ :: l, n + 2, v => congrArg (· + 1) (z_st_len l (n + 1) v)
theorem z_lc_len : ∀ (ls : zL) (n : Nat), (z_lc ls n).length = ls.length
  | [], _ => rfl
  | _ :: _, 0 => rfl
  | _ :: l, n + 1 => congrArg (· + 1) (z_lc_len l n)
def z_lg (v : zV) : Prop := match v with
  | .inr (.inl _) => True
  | _ => False
theorem z_nl_some {a : Option zV} {w : zV} (h : z_nl a = some w) : a = some w ∧ ¬ z_lg w := by
  unfold z_nl at h
  split at h
  · cases h
  · rename_i x
    refine ⟨h, fun g => ?_⟩
    subst h
    match w, g, x with
    | .inr (.inl y), _, x => exact x y rfl
theorem z_ld_st : ∀ (ls : zL) (i : Nat) (v : zV) (n : Nat) (w : zV), z_ld (z_st ls i v) n = some w → (n = i ∧ w = v) ∨ (n ≠ i ∧ z_ld ls n = some w ∧ ¬ (n + 1 = i ∧ z_lg w))
  | [], _, _, _, _, h => by simp [z_st, z_ld] at h
  | _ :: _, 0, _, 0, _, h => Or.inl ⟨rfl, (Option.some.inj h).symm⟩
  | _ :: _, 0, _, n + 1, _, h => Or.inr ⟨by omega, h, fun g => by omega⟩
  | a :: l, 1, v, 0, w, h => by
    obtain ⟨h1, h2⟩ := z_nl_some (show z_nl a = some w from h)
    exact Or.inr ⟨by omega, h1, fun g => h2 g.2⟩
  | a :: l, 1, v, n + 1, w, h => by
    rcases z_ld_st l 0 v n w h with ⟨h1, h2⟩ | ⟨h1, h2, -⟩
    · exact Or.inl ⟨by omega, h2⟩
    · exact Or.inr ⟨by omega, h2, fun g => by omega⟩
  | a :: l, i + 2, v, 0, w, h => Or.inr ⟨by omega, h, fun g => by omega⟩
  | a :: l, i + 2, v, n + 1, w, h => by
    rcases z_ld_st l (i + 1) v n w h with ⟨h1, h2⟩ | ⟨h1, h2, h3⟩
    · exact Or.inl ⟨by omega, h2⟩
    · exact Or.inr ⟨by omega, h2, fun g => h3 ⟨by omega, g.2⟩⟩
theorem z_ld_lc : ∀ (ls : zL) (i n : Nat) (w : zV), z_ld (z_lc ls i) n = some w → n ≠ i ∧ z_ld ls n = some w
  | [], _, _, _, h => by simp [z_lc, z_ld] at h
  | _ :: _, 0, 0, _, h => by simp [z_lc, z_ld] at h
  | _ :: _, 0, n + 1, _, h => ⟨by omega, h⟩
  | _ :: _, i + 1, 0, _, h => ⟨by omega, h⟩
  | _ :: l, i + 1, n + 1, w, h => by
    obtain ⟨h1, h2⟩ := z_ld_lc l i n w h
    exact ⟨by omega, h2⟩
theorem z_cv_cat {pl : zP} (v : zV) : (z_cv pl v).category = 2 ↔ z_lg v := by
  match v with
  | .inl x => simp [z_cv, Value.category, z_lg]
  | .inr (.inl x) => simp [z_cv, Value.category, z_lg]
  | .inr (.inr none) => simp [z_cv, Value.category, z_lg]
  | .inr (.inr (some h)) => simp [z_cv, Value.category, z_lg]
theorem z_lR.st {pl : zP} {nL i : Nat} {ls : zL} {la la' : Array Slot} {v : zV} (h : z_lR pl nL ls la) (h' : lv_has la' nL ((i, z_cv pl v) :: (z_as pl ls).filter (fun q => !(q.1 == i) && !(q.1 + 1 == i && q.2.category == 2)))) : z_lR pl nL (z_st ls i v) la' := by
  refine ⟨h'.1, h'.2.1, (z_st_len _ _ _).trans h.2.2.1, fun n w hw => ?_⟩
  rcases z_ld_st _ _ _ _ _ hw with ⟨rfl, rfl⟩ | ⟨h1, h2, h3⟩
  · exact h'.2.2 _ List.mem_cons_self
  · refine h'.2.2 (n, z_cv pl w) (List.mem_cons_of_mem _ (List.mem_filter.mpr ⟨z_as_mem h2, ?_⟩))
    have h4 : ¬ (n + 1 = i ∧ (z_cv pl w).category = 2) := fun g => h3 ⟨g.1, (z_cv_cat w).mp g.2⟩
    simp only [Bool.and_eq_true, Bool.not_eq_true', beq_eq_false_iff_ne, ne_eq, Bool.and_eq_false_iff]
    refine ⟨h1, ?_⟩
    by_cases g : n + 1 = i
    · exact Or.inr fun q => h4 ⟨g, q⟩
    · exact Or.inl g
theorem z_lR.stl {pl : zP} {nL i : Nat} {ls : zL} {la la' : Array Slot} {v : zV} (h : z_lR pl nL ls la) (h' : lv_has la' nL ((i, z_cv pl v) :: (z_as pl ls).filter (fun q => !(q.1 == i) && (!(q.1 == i + 1) && !(q.1 + 1 == i && q.2.category == 2))))) : z_lR pl nL (z_lc (z_st ls i v) (i + 1)) la' := by
  refine ⟨h'.1, h'.2.1, (z_lc_len _ _).trans ((z_st_len _ _ _).trans h.2.2.1), fun n w hw => ?_⟩
  obtain ⟨h0, hw⟩ := z_ld_lc _ _ _ _ hw
  rcases z_ld_st _ _ _ _ _ hw with ⟨rfl, rfl⟩ | ⟨h1, h2, h3⟩
  · exact h'.2.2 _ List.mem_cons_self
  · refine h'.2.2 (n, z_cv pl w) (List.mem_cons_of_mem _ (List.mem_filter.mpr ⟨z_as_mem h2, ?_⟩))
    have h4 : ¬ (n + 1 = i ∧ (z_cv pl w).category = 2) := fun g => h3 ⟨g.1, (z_cv_cat w).mp g.2⟩
    simp only [Bool.and_eq_true, Bool.not_eq_true', beq_eq_false_iff_ne, ne_eq, Bool.and_eq_false_iff]
    refine ⟨h1, h0, ?_⟩
    by_cases g : n + 1 = i
    · exact Or.inr fun q => h4 ⟨g, q⟩
    · exact Or.inl g
theorem z_vl.st {sc : zX} {nb i : Nat} {ls : zL} {v : zV} (h : z_vl sc nb ls) (hv : z_vv sc nb v) : z_vl sc nb (z_st ls i v) := fun n w hw => by
  rcases z_ld_st _ _ _ _ _ hw with ⟨-, rfl⟩ | ⟨-, h2, -⟩
  · exact hv
  · exact h n w h2
theorem z_vl.lc {sc : zX} {nb i : Nat} {ls : zL} (h : z_vl sc nb ls) : z_vl sc nb (z_lc ls i) := fun n w hw => h n w (z_ld_lc _ _ _ _ hw).2
theorem z_vs.tl {sc : zX} {nb : Nat} {v : zV} {st : List zV} (h : z_vs sc nb (v :: st)) : z_vs sc nb st := fun w hw => h w (List.mem_cons_of_mem _ hw)
theorem z_vs.hd {sc : zX} {nb : Nat} {v : zV} {st : List zV} (h : z_vs sc nb (v :: st)) : z_vv sc nb v := h v List.mem_cons_self
theorem z_vs.cons {sc : zX} {nb : Nat} {v : zV} {st : List zV} (hv : z_vv sc nb v) (h : z_vs sc nb st) : z_vs sc nb (v :: st) := fun w hw => by
  rcases List.mem_cons.mp hw with rfl | q
  · exact hv
  · exact h w q
/-- entry -/
theorem z_ent_ld {pl : zP} : ∀ (as : List zV) (i n : Nat) (v : zV), z_ld (z_ent as) n = some v → (i + n, z_cv pl v) ∈ lv_args i (as.map (z_cv pl))
  | [], _, _, _, h => by simp [z_ent, z_ld] at h
  | .inl x :: l, i, 0, v, h => by
    cases h
    exact List.mem_cons_self
  | .inl x :: l, i, n + 1, v, h => by
    have h1 := z_ent_ld (pl := pl) l (i + 1) n v h
    rw [show i + 1 + n = i + (n + 1) by omega] at h1
    exact List.mem_cons_of_mem _ h1
  | .inr (.inr none) :: l, i, 0, v, h => by
    cases h
    exact List.mem_cons_self
  | .inr (.inr none) :: l, i, n + 1, v, h => by
    have h1 := z_ent_ld (pl := pl) l (i + 1) n v h
    rw [show i + 1 + n = i + (n + 1) by omega] at h1
    exact List.mem_cons_of_mem _ h1
  | .inr (.inr (some x)) :: l, i, 0, v, h => by
    cases h
    exact List.mem_cons_self
  | .inr (.inr (some x)) :: l, i, n + 1, v, h => by
    have h1 := z_ent_ld (pl := pl) l (i + 1) n v h
    rw [show i + 1 + n = i + (n + 1) by omega] at h1
    exact List.mem_cons_of_mem _ h1
  | .inr (.inl x) :: l, i, 0, v, h => by
    cases h
    exact List.mem_cons_self
  | .inr (.inl x) :: l, i, 1, v, h => by simp [z_ent, z_ld] at h
  | .inr (.inl x) :: l, i, n + 2, v, h => by
    have h1 := z_ent_ld (pl := pl) l (i + 2) n v h
    rw [show i + 2 + n = i + (n + 2) by omega] at h1
    exact List.mem_cons_of_mem _ h1
theorem z_ld_app : ∀ (a : zL) (n k : Nat) (v : zV), z_ld (a ++ List.replicate k none) n = some v → z_ld a n = some v
  | [], 0, 0, _, h => by simp [z_ld] at h
  | [], 0, k + 1, _, h => by simp [z_ld, List.replicate] at h
  | [], n + 1, 0, _, h => by simp [z_ld] at h
  | [], n + 1, k + 1, v, h => by
    have := z_ld_app [] n k v (by simpa [List.replicate, z_ld] using h)
    simp [z_ld] at this
  | _ :: _, 0, _, _, h => h
  | _ :: l, n + 1, k, v, h => z_ld_app l n k v h
theorem z_ent_vl {sc : zX} {nb : Nat} : ∀ (as : List zV), z_vs sc nb as → z_vl sc nb (z_ent as)
  | [], _ => fun n v h => by simp [z_ent, z_ld] at h
  | .inl x :: l, hv => fun n v h => by
    cases n with
    | zero => cases h; exact hv.hd
    | succ n => exact z_ent_vl l hv.tl n v h
  | .inr (.inr x) :: l, hv => fun n v h => by
    cases n with
    | zero => cases h; exact hv.hd
    | succ n => exact z_ent_vl l hv.tl n v h
  | .inr (.inl x) :: l, hv => fun n v h => by
    match n, h with
    | 0, h => cases h; exact hv.hd
    | 1, h => simp [z_ent, z_ld] at h
    | n + 2, h => exact z_ent_vl l hv.tl n v h
end Rel
