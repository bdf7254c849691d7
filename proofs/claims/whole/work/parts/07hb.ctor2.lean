/-! ===== A NEW BOOK ===== -/
section Ct2
def z_bq (n1 n4 n2 n3 k : Nat) : Nat := match k with
  | 0 => 1
  | 1 => n1
  | 2 => n2
  | 3 => n3
  | 4 => n4
  | 7 => 1
  | 8 => 1
  | 9 => 1
  | 10 => 1
  | 11 => 1
  | 12 => n2
  | 13 => n2
  | 14 => n3
  | 15 => n4
  | 16 => n4
  | _ => 0
def z_rfs (n : Nat) (f : Nat → Nat) : Nat → Option Nat := fun j => if j < n then some (f j) else none
def z_bc (n1 n4 n2 n3 : Nat) (tc : Nat → ClassId) (pb : Nat → Nat → Nat) (k i : Nat) : va_E := match k with
  | 0 => .inr (0, [.int 0, .int 30, .int 1, .int 0, .int 0, .int 0, .ref (pb 7 0), .ref (pb 8 0), .ref (pb 9 0), .ref (pb 10 0), .ref (pb 11 0), .int 0])
  | 1 => .inr (1, [.int 0, .int 0, .int 0, .long 0, .long 0])
  | 2 => .inr (2, [.ref (pb 12 i), .ref (pb 13 i), .int 0, .int 0, .int 0])
  | 3 => .inr (3, [.int 0, .int 0, .int 0, .int 0, .int 0, .int 0, .int 0, .int 0, .int 0, .int 0, .int 0, .int 0, .int 0, .long 0, .long 0, .ref (pb 14 i)])
  | 4 => .inr (4, [.ref (pb 15 i), .ref (pb 16 i), .int 0])
  | 7 => .inl (tc 4, 4, .inr (.inr (.inr (.inr (z_rfs n1 (pb 1))))))
  | 8 => .inl (tc 7, 6, .inr (.inr (.inr (.inr (z_rfs n4 (pb 4))))))
  | 9 => .inl (tc 5, 5, .inr (.inr (.inr (.inr (z_rfs n2 (pb 2))))))
  | 10 => .inl (tc 6, 40, .inr (.inr (.inr (.inr (z_rfs n3 (pb 3))))))
  | 11 => .inl (tc 0, 40, .inl fun _ => 0)
  | 12 => .inl (tc 0, 13, .inl fun _ => 0)
  | 13 => .inl (tc 0, 13, .inl fun _ => 0)
  | 14 => .inl (tc 0, 4, .inl fun _ => 0)
  | 15 => .inl (tc 0, 5, .inl fun _ => 0)
  | _ => .inl (tc 0, 4, .inl fun _ => 0)
def z_IV (q : Nat → Nat) (c : (Nat → Nat → Nat) → Nat → Nat → va_E) (ws : va_W) (pb : Nat → Nat → Nat) : Prop :=
  (∀ k i, i < q k → (pb k i, c pb k i) ∈ ws) ∧ (∀ k i k' i', i < q k → i' < q k' → pb k i = pb k' i' → k = k' ∧ i = i')
theorem z_D_app {A : Nat → Prop} {ws kw : va_W} {a : Nat} {x y : va_E} (hD : va_D A (ws ++ kw)) (h1 : (a, x) ∈ ws) (h2 : (a, y) ∈ kw) : False := by
  obtain ⟨i, hi⟩ := List.getElem?_of_mem h1
  obtain ⟨j, hj⟩ := List.getElem?_of_mem h2
  have hl := (List.getElem?_eq_some_iff.mp hi).1
  have h3 : (ws ++ kw)[i]? = some (a, x) := by rw [List.getElem?_append_left hl]; exact hi
  have h4 : (ws ++ kw)[ws.length + j]? = some (a, y) := by rw [List.getElem?_append_right (by omega), Nat.add_sub_cancel_left]; exact hj
  have := hD.1 _ _ _ _ h3 h4 rfl
  omega
theorem z_mem_set {ws : va_W} {q0 a b : Nat} {x y e : va_E} (h : ws[q0]? = some (a, x)) (hb : (b, y) ∈ ws) (hn : b ≠ a) : (b, y) ∈ ws.set q0 (a, e) := by
  obtain ⟨i, hi⟩ := List.getElem?_of_mem hb
  have hne : q0 ≠ i := fun q => by
    subst q
    rw [h] at hi
    cases hi
    exact hn rfl
  exact List.mem_of_getElem? (i := i) (by rw [List.getElem?_set, if_neg hne]; exact hi)
theorem z_IV.step {q q' : Nat → Nat} {c c' : (Nat → Nat → Nat) → Nat → Nat → va_E} {ws kw : va_W} {pb pb' : Nat → Nat → Nat} {A : Nat → Prop} {q0 ar : Nat} {x e' : va_E} (h : z_IV q c ws pb) (hD : va_D A (ws ++ kw)) (hx : (ws ++ kw)[q0]? = some (pb ar 0, x)) (har : 0 < q ar)
    (hp : ∀ k i, i < q k → pb' k i = pb k i) (hc : ∀ k i, i < q k → ¬ (k = ar ∧ i = 0) → c' pb' k i = c pb k i) (he : c' pb' ar 0 = e') (hn : ∀ k i, i < q' k → ¬ i < q k → (pb' k i, c' pb' k i) ∈ kw)
    (hi : ∀ k i k' i', i < q' k → ¬ i < q k → i' < q' k' → ¬ i' < q k' → pb' k i = pb' k' i' → k = k' ∧ i = i') : z_IV q' c' ((ws ++ kw).set q0 (pb ar 0, e')) pb' := by
  refine ⟨fun k i hk => ?_, fun k i k' i' hk hk' heq => ?_⟩
  · by_cases ho : i < q k
    · by_cases ha : k = ar ∧ i = 0
      · obtain ⟨rfl, rfl⟩ := ha
        rw [hp _ _ ho, he]
        exact List.mem_of_getElem? (i := q0) (by rw [List.getElem?_set, if_pos rfl, if_pos (List.getElem?_eq_some_iff.mp hx).1])
      · rw [hp _ _ ho, hc _ _ ho ha]
        exact z_mem_set hx (List.mem_append_left _ (h.1 k i ho)) (fun g => ha (h.2 _ _ _ _ ho har g))
    · have h1 := hn k i hk ho
      exact z_mem_set hx (List.mem_append_right _ h1) (fun g => by rw [g] at h1; exact z_D_app hD (h.1 ar 0 har) h1)
  · by_cases ho : i < q k
    · by_cases ho' : i' < q k'
      · rw [hp _ _ ho, hp _ _ ho'] at heq
        exact h.2 _ _ _ _ ho ho' heq
      · have h1 := hn k' i' hk' ho'
        rw [← heq, hp _ _ ho] at h1
        exact (z_D_app hD (h.1 k i ho) h1).elim
    · by_cases ho' : i' < q k'
      · have h1 := hn k i hk ho
        rw [heq, hp _ _ ho'] at h1
        exact (z_D_app hD (h.1 k' i' ho') h1).elim
      · exact hi _ _ _ _ hk ho hk' ho' heq
theorem z_rfs_cg {n : Nat} {f g : Nat → Nat} (h : ∀ j, j < n → g j = f j) : z_rfs n g = z_rfs n f := by
  funext j
  unfold z_rfs
  by_cases hj : j < n
  · rw [if_pos hj, if_pos hj, h j hj]
  · rw [if_neg hj, if_neg hj]
theorem z_rfs_up {n q : Nat} {f g : Nat → Nat} (h : ∀ j, j < n → g j = f j) (hq : g n = q) : va_up (z_rfs n f) n (some q) = z_rfs (n + 1) g := by
  funext j
  unfold va_up z_rfs
  by_cases hj : j = n
  · subst hj
    rw [if_pos rfl, if_pos (by omega), hq]
  · rw [if_neg hj]
    by_cases hl : j < n
    · rw [if_pos hl, if_pos (by omega), h j hl]
    · rw [if_neg hl, if_neg (by omega)]
theorem z_bc_cg {n1 n4 n2 n3 : Nat} {tc : Nat → ClassId} {pb pb' : Nat → Nat → Nat} (hp : ∀ k i, i < z_bq n1 n4 n2 n3 k → pb' k i = pb k i) {k i : Nat} (hi : i < z_bq n1 n4 n2 n3 k) : z_bc n1 n4 n2 n3 tc pb' k i = z_bc n1 n4 n2 n3 tc pb k i := by
  match k, hi with
  | 0, _ => simp only [z_bc, hp 7 0 Nat.zero_lt_one, hp 8 0 Nat.zero_lt_one, hp 9 0 Nat.zero_lt_one, hp 10 0 Nat.zero_lt_one, hp 11 0 Nat.zero_lt_one]
  | 1, _ => rfl
  | 2, hi => simp only [z_bc, hp 12 i hi, hp 13 i hi]
  | 3, hi => simp only [z_bc, hp 14 i hi]
  | 4, hi => simp only [z_bc, hp 15 i hi, hp 16 i hi]
  | 5, hi => exact absurd hi (Nat.not_lt_zero _)
  | 6, hi => exact absurd hi (Nat.not_lt_zero _)
  | 7, _ => simp only [z_bc, z_rfs_cg (n := n1) (f := pb 1) (g := pb' 1) (fun j hj => hp 1 j hj)]
  | 8, _ => simp only [z_bc, z_rfs_cg (n := n4) (f := pb 4) (g := pb' 4) (fun j hj => hp 4 j hj)]
  | 9, _ => simp only [z_bc, z_rfs_cg (n := n2) (f := pb 2) (g := pb' 2) (fun j hj => hp 2 j hj)]
  | 10, _ => simp only [z_bc, z_rfs_cg (n := n3) (f := pb 3) (g := pb' 3) (fun j hj => hp 3 j hj)]
  | 11, _ => rfl
  | 12, _ => rfl
  | 13, _ => rfl
  | 14, _ => rfl
  | 15, _ => rfl
  | 16, _ => rfl
  | n + 17, hi => exact absurd hi (Nat.not_lt_zero _)
theorem z_df_ok {k : Nat} : ∀ j, j < z_nf k → defaultValue (z_YY k j) = vp_V (z_df k) j := by
  intro j hj
  unfold vp_V z_df
  rw [List.getD_eq_getElem?_getD, List.getElem?_map, List.getElem?_range hj]
  rfl
def z_LI (D : va_G) (tc : Nat → ClassId) (A : Nat → Prop) (s : State) (h0 n1 n4 n2 n3 : Nat) (ws : va_W) (pb : Nat → Nat → Nat) (H : Heap) (locs : List Loc) : Prop :=
  va_P D z_cl ws H ∧ va_D A ws ∧ va_S A s.heap H locs ∧ z_IV (z_bq n1 n4 n2 n3) (z_bc n1 n4 n2 n3 tc) ws pb ∧ pb 0 0 = h0
def z_pb1 (pb : Nat → Nat → Nat) (n : Nat) (q : Nat) : Nat → Nat → Nat := fun kk i => if i = n then (if kk = 1 then q else pb kk i) else pb kk i
theorem z_new1 {n1 n4 n2 n3 kk i : Nat} (h : i < z_bq (n1 + 1) n4 n2 n3 kk) (g : ¬ i < z_bq n1 n4 n2 n3 kk) : (kk = 1) ∧ i = n1 := by
  unfold z_bq at h g
  split at h <;> simp_all <;> omega
theorem z_stp1 {n1 n4 n2 n3 : Nat} {tc : Nat → ClassId} {ws : va_W} {pb : Nat → Nat → Nat} {A : Nat → Prop} {q q0 : Nat} {x : va_E} (h : z_IV (z_bq n1 n4 n2 n3) (z_bc n1 n4 n2 n3 tc) ws pb) (hD : va_D A (ws ++ (z_kw tc 1 q []))) (hx : (ws ++ (z_kw tc 1 q []))[q0]? = some (pb 7 0, x)) :
    z_IV (z_bq (n1 + 1) n4 n2 n3) (z_bc (n1 + 1) n4 n2 n3 tc) ((ws ++ (z_kw tc 1 q [])).set q0 (pb 7 0, .inl (tc 4, 4, .inr (.inr (.inr (.inr (va_up (z_rfs n1 (pb 1)) n1 (some q)))))))) (z_pb1 pb n1 q) := by
  have hp : ∀ kk i, i < z_bq n1 n4 n2 n3 kk → (z_pb1 pb n1 q) kk i = pb kk i := by
    intro kk i hi
    unfold z_pb1
    by_cases e : i = n1
    · rw [if_pos e]
      subst e
      rw [if_neg (fun e => by subst e; exact absurd hi (Nat.lt_irrefl _))]
    · rw [if_neg e]
  refine z_IV.step h hD hx Nat.zero_lt_one hp (fun kk i hi hne => ?_) ?_ (fun kk i hi hg => ?_) (fun kk i k' i' hi hg hi' hg' he => ?_)
  · rw [← z_bc_cg hp hi]
    match kk, hi, hne with
    | 7, hi, hne => exact absurd ⟨rfl, by have : z_bq n1 n4 n2 n3 7 = 1 := rfl; omega⟩ hne
    | 0, _, _ => rfl
    | 1, _, _ => rfl
    | 2, _, _ => rfl
    | 3, _, _ => rfl
    | 4, _, _ => rfl
    | 5, _, _ => rfl
    | 6, _, _ => rfl
    | 8, _, _ => rfl
    | 9, _, _ => rfl
    | 10, _, _ => rfl
    | 11, _, _ => rfl
    | 12, _, _ => rfl
    | 13, _, _ => rfl
    | 14, _, _ => rfl
    | 15, _, _ => rfl
    | 16, _, _ => rfl
    | n + 17, _, _ => rfl
  · show Sum.inl _ = Sum.inl _
    rw [z_rfs_up (n := n1) (q := q) (g := (z_pb1 pb n1 q) 1) (fun j hj => hp 1 j hj) (by unfold z_pb1; rw [if_pos rfl, if_pos rfl])]
  · obtain ⟨hk, rfl⟩ := z_new1 hi hg
    rcases hk with rfl
    · exact List.mem_of_getElem? (i := 0) (by simp [z_kw, z_pb1, z_bc])
  · obtain ⟨hk, rfl⟩ := z_new1 hi hg
    obtain ⟨hk', rfl⟩ := z_new1 hi' hg'
    refine ⟨?_, rfl⟩
    have hnd : ∀ a b (y z : va_E) (u v : Nat), (z_kw tc 1 q [])[u]? = some (a, y) → (z_kw tc 1 q [])[v]? = some (b, z) → a = b → u = v := fun a b y z u v h1 h2 h3 => by
      have := hD.1 (ws.length + u) (ws.length + v) (a, y) (b, z) (by rw [List.getElem?_append_right (by omega), Nat.add_sub_cancel_left]; exact h1) (by rw [List.getElem?_append_right (by omega), Nat.add_sub_cancel_left]; exact h2) h3
      omega
    rcases hk with rfl <;> rcases hk' with rfl <;> simp only [z_pb1, if_true, if_false, Nat.reduceEqDiff] at he
    · rfl
def z_pb4 (pb : Nat → Nat → Nat) (n : Nat) (q a0 a1 : Nat) : Nat → Nat → Nat := fun kk i => if i = n then (if kk = 4 then q else if kk = 15 then a0 else if kk = 16 then a1 else pb kk i) else pb kk i
theorem z_new4 {n1 n4 n2 n3 kk i : Nat} (h : i < z_bq n1 (n4 + 1) n2 n3 kk) (g : ¬ i < z_bq n1 n4 n2 n3 kk) : (kk = 4 ∨ kk = 15 ∨ kk = 16) ∧ i = n4 := by
  unfold z_bq at h g
  split at h <;> simp_all <;> omega
theorem z_stp4 {n1 n4 n2 n3 : Nat} {tc : Nat → ClassId} {ws : va_W} {pb : Nat → Nat → Nat} {A : Nat → Prop} {q q0 a0 a1 : Nat} {x : va_E} (h : z_IV (z_bq n1 n4 n2 n3) (z_bc n1 n4 n2 n3 tc) ws pb) (hD : va_D A (ws ++ (z_kw tc 4 q [a0, a1]))) (hx : (ws ++ (z_kw tc 4 q [a0, a1]))[q0]? = some (pb 8 0, x)) :
    z_IV (z_bq n1 (n4 + 1) n2 n3) (z_bc n1 (n4 + 1) n2 n3 tc) ((ws ++ (z_kw tc 4 q [a0, a1])).set q0 (pb 8 0, .inl (tc 7, 6, .inr (.inr (.inr (.inr (va_up (z_rfs n4 (pb 4)) n4 (some q)))))))) (z_pb4 pb n4 q a0 a1) := by
  have hp : ∀ kk i, i < z_bq n1 n4 n2 n3 kk → (z_pb4 pb n4 q a0 a1) kk i = pb kk i := by
    intro kk i hi
    unfold z_pb4
    by_cases e : i = n4
    · rw [if_pos e]
      subst e
      rw [if_neg (fun e => by subst e; exact absurd hi (Nat.lt_irrefl _)), if_neg (fun e => by subst e; exact absurd hi (Nat.lt_irrefl _)), if_neg (fun e => by subst e; exact absurd hi (Nat.lt_irrefl _))]
    · rw [if_neg e]
  refine z_IV.step h hD hx Nat.zero_lt_one hp (fun kk i hi hne => ?_) ?_ (fun kk i hi hg => ?_) (fun kk i k' i' hi hg hi' hg' he => ?_)
  · rw [← z_bc_cg hp hi]
    match kk, hi, hne with
    | 8, hi, hne => exact absurd ⟨rfl, by have : z_bq n1 n4 n2 n3 8 = 1 := rfl; omega⟩ hne
    | 0, _, _ => rfl
    | 1, _, _ => rfl
    | 2, _, _ => rfl
    | 3, _, _ => rfl
    | 4, _, _ => rfl
    | 5, _, _ => rfl
    | 6, _, _ => rfl
    | 7, _, _ => rfl
    | 9, _, _ => rfl
    | 10, _, _ => rfl
    | 11, _, _ => rfl
    | 12, _, _ => rfl
    | 13, _, _ => rfl
    | 14, _, _ => rfl
    | 15, _, _ => rfl
    | 16, _, _ => rfl
    | n + 17, _, _ => rfl
  · show Sum.inl _ = Sum.inl _
    rw [z_rfs_up (n := n4) (q := q) (g := (z_pb4 pb n4 q a0 a1) 4) (fun j hj => hp 4 j hj) (by unfold z_pb4; rw [if_pos rfl, if_pos rfl])]
  · obtain ⟨hk, rfl⟩ := z_new4 hi hg
    rcases hk with rfl | rfl | rfl
    · exact List.mem_of_getElem? (i := 0) (by simp [z_kw, z_pb4, z_bc])
    · exact List.mem_of_getElem? (i := 1) (by simp [z_kw, z_pb4, z_bc])
    · exact List.mem_of_getElem? (i := 2) (by simp [z_kw, z_pb4, z_bc])
  · obtain ⟨hk, rfl⟩ := z_new4 hi hg
    obtain ⟨hk', rfl⟩ := z_new4 hi' hg'
    refine ⟨?_, rfl⟩
    have hnd : ∀ a b (y z : va_E) (u v : Nat), (z_kw tc 4 q [a0, a1])[u]? = some (a, y) → (z_kw tc 4 q [a0, a1])[v]? = some (b, z) → a = b → u = v := fun a b y z u v h1 h2 h3 => by
      have := hD.1 (ws.length + u) (ws.length + v) (a, y) (b, z) (by rw [List.getElem?_append_right (by omega), Nat.add_sub_cancel_left]; exact h1) (by rw [List.getElem?_append_right (by omega), Nat.add_sub_cancel_left]; exact h2) h3
      omega
    rcases hk with rfl | rfl | rfl <;> rcases hk' with rfl | rfl | rfl <;> simp only [z_pb4, if_true, if_false, Nat.reduceEqDiff] at he
    · rfl
    · exact absurd (hnd _ _ _ _ 0 1 rfl rfl he) (by decide)
    · exact absurd (hnd _ _ _ _ 0 2 rfl rfl he) (by decide)
    · exact absurd (hnd _ _ _ _ 1 0 rfl rfl he) (by decide)
    · rfl
    · exact absurd (hnd _ _ _ _ 1 2 rfl rfl he) (by decide)
    · exact absurd (hnd _ _ _ _ 2 0 rfl rfl he) (by decide)
    · exact absurd (hnd _ _ _ _ 2 1 rfl rfl he) (by decide)
    · rfl
def z_pb2 (pb : Nat → Nat → Nat) (n : Nat) (q a0 a1 : Nat) : Nat → Nat → Nat := fun kk i => if i = n then (if kk = 2 then q else if kk = 12 then a0 else if kk = 13 then a1 else pb kk i) else pb kk i
theorem z_new2 {n1 n4 n2 n3 kk i : Nat} (h : i < z_bq n1 n4 (n2 + 1) n3 kk) (g : ¬ i < z_bq n1 n4 n2 n3 kk) : (kk = 2 ∨ kk = 12 ∨ kk = 13) ∧ i = n2 := by
  unfold z_bq at h g
  split at h <;> simp_all <;> omega
theorem z_stp2 {n1 n4 n2 n3 : Nat} {tc : Nat → ClassId} {ws : va_W} {pb : Nat → Nat → Nat} {A : Nat → Prop} {q q0 a0 a1 : Nat} {x : va_E} (h : z_IV (z_bq n1 n4 n2 n3) (z_bc n1 n4 n2 n3 tc) ws pb) (hD : va_D A (ws ++ (z_kw tc 2 q [a0, a1]))) (hx : (ws ++ (z_kw tc 2 q [a0, a1]))[q0]? = some (pb 9 0, x)) :
    z_IV (z_bq n1 n4 (n2 + 1) n3) (z_bc n1 n4 (n2 + 1) n3 tc) ((ws ++ (z_kw tc 2 q [a0, a1])).set q0 (pb 9 0, .inl (tc 5, 5, .inr (.inr (.inr (.inr (va_up (z_rfs n2 (pb 2)) n2 (some q)))))))) (z_pb2 pb n2 q a0 a1) := by
  have hp : ∀ kk i, i < z_bq n1 n4 n2 n3 kk → (z_pb2 pb n2 q a0 a1) kk i = pb kk i := by
    intro kk i hi
    unfold z_pb2
    by_cases e : i = n2
    · rw [if_pos e]
      subst e
      rw [if_neg (fun e => by subst e; exact absurd hi (Nat.lt_irrefl _)), if_neg (fun e => by subst e; exact absurd hi (Nat.lt_irrefl _)), if_neg (fun e => by subst e; exact absurd hi (Nat.lt_irrefl _))]
    · rw [if_neg e]
  refine z_IV.step h hD hx Nat.zero_lt_one hp (fun kk i hi hne => ?_) ?_ (fun kk i hi hg => ?_) (fun kk i k' i' hi hg hi' hg' he => ?_)
  · rw [← z_bc_cg hp hi]
    match kk, hi, hne with
    | 9, hi, hne => exact absurd ⟨rfl, by have : z_bq n1 n4 n2 n3 9 = 1 := rfl; omega⟩ hne
    | 0, _, _ => rfl
    | 1, _, _ => rfl
    | 2, _, _ => rfl
    | 3, _, _ => rfl
    | 4, _, _ => rfl
    | 5, _, _ => rfl
    | 6, _, _ => rfl
    | 7, _, _ => rfl
    | 8, _, _ => rfl
    | 10, _, _ => rfl
    | 11, _, _ => rfl
    | 12, _, _ => rfl
    | 13, _, _ => rfl
    | 14, _, _ => rfl
    | 15, _, _ => rfl
    | 16, _, _ => rfl
    | n + 17, _, _ => rfl
  · show Sum.inl _ = Sum.inl _
    rw [z_rfs_up (n := n2) (q := q) (g := (z_pb2 pb n2 q a0 a1) 2) (fun j hj => hp 2 j hj) (by unfold z_pb2; rw [if_pos rfl, if_pos rfl])]
  · obtain ⟨hk, rfl⟩ := z_new2 hi hg
    rcases hk with rfl | rfl | rfl
    · exact List.mem_of_getElem? (i := 0) (by simp [z_kw, z_pb2, z_bc])
    · exact List.mem_of_getElem? (i := 1) (by simp [z_kw, z_pb2, z_bc])
    · exact List.mem_of_getElem? (i := 2) (by simp [z_kw, z_pb2, z_bc])
  · obtain ⟨hk, rfl⟩ := z_new2 hi hg
    obtain ⟨hk', rfl⟩ := z_new2 hi' hg'
    refine ⟨?_, rfl⟩
    have hnd : ∀ a b (y z : va_E) (u v : Nat), (z_kw tc 2 q [a0, a1])[u]? = some (a, y) → (z_kw tc 2 q [a0, a1])[v]? = some (b, z) → a = b → u = v := fun a b y z u v h1 h2 h3 => by
      have := hD.1 (ws.length + u) (ws.length + v) (a, y) (b, z) (by rw [List.getElem?_append_right (by omega), Nat.add_sub_cancel_left]; exact h1) (by rw [List.getElem?_append_right (by omega), Nat.add_sub_cancel_left]; exact h2) h3
      omega
    rcases hk with rfl | rfl | rfl <;> rcases hk' with rfl | rfl | rfl <;> simp only [z_pb2, if_true, if_false, Nat.reduceEqDiff] at he
    · rfl
    · exact absurd (hnd _ _ _ _ 0 1 rfl rfl he) (by decide)
    · exact absurd (hnd _ _ _ _ 0 2 rfl rfl he) (by decide)
    · exact absurd (hnd _ _ _ _ 1 0 rfl rfl he) (by decide)
    · rfl
    · exact absurd (hnd _ _ _ _ 1 2 rfl rfl he) (by decide)
    · exact absurd (hnd _ _ _ _ 2 0 rfl rfl he) (by decide)
    · exact absurd (hnd _ _ _ _ 2 1 rfl rfl he) (by decide)
    · rfl
def z_pb3 (pb : Nat → Nat → Nat) (n : Nat) (q a0 : Nat) : Nat → Nat → Nat := fun kk i => if i = n then (if kk = 3 then q else if kk = 14 then a0 else pb kk i) else pb kk i
theorem z_new3 {n1 n4 n2 n3 kk i : Nat} (h : i < z_bq n1 n4 n2 (n3 + 1) kk) (g : ¬ i < z_bq n1 n4 n2 n3 kk) : (kk = 3 ∨ kk = 14) ∧ i = n3 := by
  unfold z_bq at h g
  split at h <;> simp_all <;> omega
theorem z_stp3 {n1 n4 n2 n3 : Nat} {tc : Nat → ClassId} {ws : va_W} {pb : Nat → Nat → Nat} {A : Nat → Prop} {q q0 a0 : Nat} {x : va_E} (h : z_IV (z_bq n1 n4 n2 n3) (z_bc n1 n4 n2 n3 tc) ws pb) (hD : va_D A (ws ++ (z_kw tc 3 q [a0]))) (hx : (ws ++ (z_kw tc 3 q [a0]))[q0]? = some (pb 10 0, x)) :
    z_IV (z_bq n1 n4 n2 (n3 + 1)) (z_bc n1 n4 n2 (n3 + 1) tc) ((ws ++ (z_kw tc 3 q [a0])).set q0 (pb 10 0, .inl (tc 6, 40, .inr (.inr (.inr (.inr (va_up (z_rfs n3 (pb 3)) n3 (some q)))))))) (z_pb3 pb n3 q a0) := by
  have hp : ∀ kk i, i < z_bq n1 n4 n2 n3 kk → (z_pb3 pb n3 q a0) kk i = pb kk i := by
    intro kk i hi
    unfold z_pb3
    by_cases e : i = n3
    · rw [if_pos e]
      subst e
      rw [if_neg (fun e => by subst e; exact absurd hi (Nat.lt_irrefl _)), if_neg (fun e => by subst e; exact absurd hi (Nat.lt_irrefl _))]
    · rw [if_neg e]
  refine z_IV.step h hD hx Nat.zero_lt_one hp (fun kk i hi hne => ?_) ?_ (fun kk i hi hg => ?_) (fun kk i k' i' hi hg hi' hg' he => ?_)
  · rw [← z_bc_cg hp hi]
    match kk, hi, hne with
    | 10, hi, hne => exact absurd ⟨rfl, by have : z_bq n1 n4 n2 n3 10 = 1 := rfl; omega⟩ hne
    | 0, _, _ => rfl
    | 1, _, _ => rfl
    | 2, _, _ => rfl
    | 3, _, _ => rfl
    | 4, _, _ => rfl
    | 5, _, _ => rfl
    | 6, _, _ => rfl
    | 7, _, _ => rfl
    | 8, _, _ => rfl
    | 9, _, _ => rfl
    | 11, _, _ => rfl
    | 12, _, _ => rfl
    | 13, _, _ => rfl
    | 14, _, _ => rfl
    | 15, _, _ => rfl
    | 16, _, _ => rfl
    | n + 17, _, _ => rfl
  · show Sum.inl _ = Sum.inl _
    rw [z_rfs_up (n := n3) (q := q) (g := (z_pb3 pb n3 q a0) 3) (fun j hj => hp 3 j hj) (by unfold z_pb3; rw [if_pos rfl, if_pos rfl])]
  · obtain ⟨hk, rfl⟩ := z_new3 hi hg
    rcases hk with rfl | rfl
    · exact List.mem_of_getElem? (i := 0) (by simp [z_kw, z_pb3, z_bc])
    · exact List.mem_of_getElem? (i := 1) (by simp [z_kw, z_pb3, z_bc])
  · obtain ⟨hk, rfl⟩ := z_new3 hi hg
    obtain ⟨hk', rfl⟩ := z_new3 hi' hg'
    refine ⟨?_, rfl⟩
    have hnd : ∀ a b (y z : va_E) (u v : Nat), (z_kw tc 3 q [a0])[u]? = some (a, y) → (z_kw tc 3 q [a0])[v]? = some (b, z) → a = b → u = v := fun a b y z u v h1 h2 h3 => by
      have := hD.1 (ws.length + u) (ws.length + v) (a, y) (b, z) (by rw [List.getElem?_append_right (by omega), Nat.add_sub_cancel_left]; exact h1) (by rw [List.getElem?_append_right (by omega), Nat.add_sub_cancel_left]; exact h2) h3
      omega
    rcases hk with rfl | rfl <;> rcases hk' with rfl | rfl <;> simp only [z_pb3, if_true, if_false, Nat.reduceEqDiff] at he
    · rfl
    · exact absurd (hnd _ _ _ _ 0 1 rfl rfl he) (by decide)
    · exact absurd (hnd _ _ _ _ 1 0 rfl rfl he) (by decide)
    · rfl
theorem z_len2 {l : List Nat} (h : l.length = 2) : ∃ a b, l = [a, b] := by
  match l, h with
  | [a, b], _ => exact ⟨a, b, rfl⟩
theorem z_wk_good1 : GoodIn z_tbl (z_wk 1 1) := by
  intro w hw
  rcases List.mem_cons.mp hw with rfl | q
  · exact ⟨z_wc _ (List.mem_of_getElem? (i := 34) rfl), z_tbl_good _ (z_wc _ (List.mem_of_getElem? (i := 34) rfl))⟩
  · exact ⟨q, z_tbl_good _ q⟩
theorem z_wk_good4 : GoodIn z_tbl (z_wk 4 1) := by
  intro w hw
  rcases List.mem_cons.mp hw with rfl | q
  · exact ⟨z_wc _ (List.mem_of_getElem? (i := 37) rfl), z_tbl_good _ (z_wc _ (List.mem_of_getElem? (i := 37) rfl))⟩
  · exact ⟨q, z_tbl_good _ q⟩
theorem z_wk_good2 : GoodIn z_tbl (z_wk 2 1) := by
  intro w hw
  rcases List.mem_cons.mp hw with rfl | q
  · exact ⟨z_wc _ (List.mem_of_getElem? (i := 35) rfl), z_tbl_good _ (z_wc _ (List.mem_of_getElem? (i := 35) rfl))⟩
  · exact ⟨q, z_tbl_good _ q⟩
theorem z_wk_good3 : GoodIn z_tbl (z_wk 3 1) := by
  intro w hw
  rcases List.mem_cons.mp hw with rfl | q
  · exact ⟨z_wc _ (List.mem_of_getElem? (i := 36) rfl), z_tbl_good _ (z_wc _ (List.mem_of_getElem? (i := 36) rfl))⟩
  · exact ⟨q, z_tbl_good _ q⟩
variable {p : Program} {l : Launch} {e : Env} {R : Room} {s : State} {m : MethodId} {args : Array Value} {below : List Frame} {meth : Method} {c : Code} {Q : State → Prop} {D : va_G} {tc : Nat → ClassId} {A : Nat → Prop} {c0 s0 h0 n1 n4 n2 n3 : Nat}
set_option maxHeartbeats 4000000 in
set_option maxRecDepth 100000 in
theorem zl_1 (hx : p.tables.exec = Jvm.exec) (hb : c.code = prog_2_method_1_code) (hml : c.maxLocals = 2) (hown : s.vm.findClass (z_cn 0) = some m.cls) (hts : ∀ w ∈ z_tbl, w.before args s = true) (hK : va_K D z_cl (z_tys tc) s) (hZ : z_Zs s) (hA : ∀ q, s.heap.size ≤ q → A q) (hfr : 2 ≤ R.frames) (hlo : 32 ≤ R.locals) (hc : c0 + 1 * 4 ≤ R.cells) (hs : s0 + 5 * 4 ≤ R.slots)
    (kk : ∀ (ws : va_W) (pb : Nat → Nat → Nat) (H : Heap) (locs : List Loc) (ls : Array Slot), z_LI D tc A s h0 4 n4 n2 n3 ws pb H locs → lv_has ls 2 [(1, .int (nI 4)), (0, .ref h0)] → W p l e R s m args below meth c H locs (c0 + 1 * 4) (s0 + 5 * 4) Q (F0 m 83 ls [])) :
    ∀ (j n1 : Nat), n1 + j = 4 → ∀ (ws : va_W) (pb : Nat → Nat → Nat) (H : Heap) (locs : List Loc) (ls : Array Slot), z_LI D tc A s h0 n1 n4 n2 n3 ws pb H locs → lv_has ls 2 [(1, .int (nI n1)), (0, .ref h0)] → W p l e R s m args below meth c H locs (c0 + 1 * n1) (s0 + 5 * n1) Q (F0 m 59 ls []) := by
  intro j
  induction j with
  | zero =>
    intro n1 hn ws pb H locs ls hI hl
    obtain rfl : n1 = 4 := by omega
    refine lv_iload_n hx hb (show decode prog_2_method_1_code 59 = .ok (.iload_n 1, 1) by decide +kernel) rfl (lv_at hl 0 rfl) ?_
    refine lv_iconst (v := nI 4) hx hb (show decode prog_2_method_1_code 60 = .ok (.iconst 4, 1) by decide +kernel) (by decide) ?_
    exact lv_icmp_ge hx hb (show decode prog_2_method_1_code 61 = .ok (.if_icmp .ge 22, 3) by decide +kernel) (by decide) (fun _ => kk ws pb H locs ls hI hl) (fun h => absurd (by decide) h)
  | succ j ih =>
    intro n1 hn ws pb H locs ls hI hl
    obtain ⟨hP, hD, hS, hV, hp0⟩ := hI
    refine lv_iload_n hx hb (show decode prog_2_method_1_code 59 = .ok (.iload_n 1, 1) by decide +kernel) rfl (lv_at hl 0 rfl) ?_
    refine lv_iconst (v := nI 4) hx hb (show decode prog_2_method_1_code 60 = .ok (.iconst 4, 1) by decide +kernel) (by decide) ?_
    refine lv_icmp_ge (tgt := 83) hx hb (show decode prog_2_method_1_code 61 = .ok (.if_icmp .ge 22, 3) by decide +kernel) (by decide) (fun h => absurd h (nI_ge (by omega) (by decide))) (fun _ => ?_)
    refine lv_aload_n hx hb (show decode prog_2_method_1_code 64 = .ok (.aload_n 0, 1) by decide +kernel) rfl (lv_at hl 1 rfl) ?_
    obtain ⟨q9, hq9⟩ := List.getElem?_of_mem (hV.1 0 0 Nat.zero_lt_one)
    rw [hp0] at hq9
    obtain ⟨q8, hq8⟩ := List.getElem?_of_mem (hV.1 7 0 Nat.zero_lt_one)
    refine va_get (v := .ref (pb 7 0)) hx hb hts z_in0 hown hK hP q9 hq9 rfl 6 (by decide) (hts _ (z_FL_ok (own := 0) (n := 20) (a := 0) (b := 6) (by decide +kernel)).1) (fun _ h => h) rfl (show decode prog_2_method_1_code 65 = .ok (.getfield 20, 3) by decide +kernel) ?_
    refine lv_iload_n hx hb (show decode prog_2_method_1_code 68 = .ok (.iload_n 1, 1) by decide +kernel) rfl (lv_at hl 0 rfl) ?_
    refine va_new (ci := 1) (fs := z_df 1) (C := z_cn 1) (T := z_T1) (N := 5) hx hb hts z_in1 z_Y1 z_ty1 hown (hts _ (z_wc _ (List.mem_of_getElem? (i := 9) rfl))) (hts _ (z_wc _ (List.mem_of_getElem? (i := 17) rfl))) (hts _ (z_ini (c := 1) (by decide))) hK hP hD hS hA rfl (z_df_ok (k := 1)) (by omega) (by omega) (show decode prog_2_method_1_code 69 = .ok (.new 18, 3) by decide +kernel) (fun q H1 hP1 hD1 hS1 => ?_)
    refine lv_dup hx hb (show decode prog_2_method_1_code 72 = .ok (.dup, 1) by decide +kernel) rfl ?_
    have hPc : va_P D z_cl [(q, .inr (1, z_df 1))] H1 := fun u x hx => hP1 (ws.length + u) x (by rw [List.getElem?_append_right (by omega), Nat.add_sub_cancel_left]; exact hx)
    have hqA : A q := hD1.2 ws.length (q, .inr (1, z_df 1)) (by rw [List.getElem?_append_right (Nat.le_refl _), Nat.sub_self]; rfl)
    have hFA : ∀ q', z_Ak q H1.size q' → A q' := fun q' h => h.elim (fun g => by rw [g]; exact hqA) (fun g => hA q' (Nat.le_trans hS1.1 g))
    have hnw : ∀ (a : Nat) (x : va_E), (a, x) ∈ ws → a < H1.size ∧ ¬ z_Ak q H1.size a := fun a x hax => by
      obtain ⟨u, hu⟩ := List.getElem?_of_mem hax
      have hul := (List.getElem?_eq_some_iff.mp hu).1
      have hu1 : (ws ++ [(q, .inr (1, z_df 1))])[u]? = some (a, x) := by rw [List.getElem?_append_left hul]; exact hu
      have hlt := (hP1 u _ hu1).lt
      refine ⟨hlt, fun g => ?_⟩
      rcases g with g | g
      · have := hD1.1 u ws.length _ (q, .inr (1, z_df 1)) hu1 (by rw [List.getElem?_append_right (Nat.le_refl _), Nat.sub_self]; rfl) g
        omega
      · exact absurd hlt (Nat.not_lt.mpr g)
    refine va_callv (va_runIN (Ts := z_tbl) (As := []) (rest := [.ref q, .int (nI n1), .ref (pb 7 0)]) (b := q) ⟨hx, hb, hml, hown, hts⟩ (k_1 l D tc q H1.size) ⟨va_cnB (host := "BondStores") 0 hts z_wk_good1 rfl rfl rfl (hZ.2 _ (List.mem_of_getElem? (i := 0) rfl)) (hts _ (z_ini (c := 1) (by decide))) (by decide +kernel) ⟨hfr, hlo⟩, rfl, hts _ (z_wc _ (List.mem_of_getElem? (i := 27) rfl))⟩ ⟨fun a U g mk q => ⟨q.1, q.2.1, q.2.2.1, va_K.moved (u := U) (U := U.calling g mk a) (Vm.Alike.refl U.vm) q.2.2.2.1, z_Zs.same (s := U) (U := U.calling g mk a) rfl q.2.2.2.2⟩, fun U hU hW => ⟨rfl, by rw [hU], by rw [hU]; exact hPc, va_K.moved hW.alike hK, hZ.warm hW⟩⟩ rfl rfl hl.1 rfl (lv_room (Nat.le_of_ble_eq_true rfl)) (show decode prog_2_method_1_code 73 = .ok (.invokespecial 46, 3) by decide +kernel) ⟨by omega, by omega⟩) hS1 (fun q' _ h => hFA q' h) hFA (fun as t H2 locs2 ht hvm has hB hz hk hS2 => ?_)
    obtain ⟨hP2, hD2⟩ := hB
    rw [ht] at hP2
    obtain rfl := List.length_eq_zero_iff.mp has
    have hPw : va_P D z_cl ws H1 := fun u x hx => hP1 u x (by rw [List.getElem?_append_left (List.getElem?_eq_some_iff.mp hx).1]; exact hx)
    have hP3 : va_P D z_cl (ws ++ z_kw tc 1 q []) H2 := (hPw.kept (fun u x hx => hk _ (hnw x.1 x.2 (List.mem_of_getElem? hx)).1 (hnw x.1 x.2 (List.mem_of_getElem? hx)).2)).app hP2
    have hD3 : va_D A (ws ++ z_kw tc 1 q []) := va_D.app hD (hD2.weaken fun _ _ _ g => hFA _ g) (fun u v x y hx hy he => by
      have h1 := (hnw x.1 x.2 (List.mem_of_getElem? hx)).2
      rw [he] at h1
      exact h1 (hD2.2 v y hy))
    have hq8' : (ws ++ z_kw tc 1 q [])[q8]? = some (pb 7 0, z_bc n1 n4 n2 n3 tc pb 7 0) := by rw [List.getElem?_append_left (List.getElem?_eq_some_iff.mp hq8).1]; exact hq8
    have hqo : (ws ++ z_kw tc 1 q [])[ws.length]? = some (q, z_bc n1 n4 n2 n3 tc (z_pb1 pb n1 q) 1 n1) := by
      rw [List.getElem?_append_right (Nat.le_refl _), Nat.sub_self]
      simp [z_kw, z_bc, z_pb1]
    refine va_astq (r := (z_cn 1, z_T1, 5)) hx hb hK hP3 hD3 hS2 q8 4 ws.length 1 hq8' rfl hqo rfl (nI_in (by omega) (by decide)) (show decode prog_2_method_1_code 76 = .ok (.aastore, 1) by decide +kernel) (fun H3 locs3 hP4 hD4 hS4 => ?_)
    rw [nI_clamp (by omega : n1 < 2 ^ 31)] at hP4 hD4
    refine lv_iinc (k := 0) hx hb (show decode prog_2_method_1_code 77 = .ok (.iinc 1 1, 3) by decide +kernel) hl rfl (nI_succ n1).symm (by decide) rfl (fun ls' hl' => ?_)
    refine lv_goto hx hb (show decode prog_2_method_1_code 80 = .ok (.goto (-21), 3) by decide +kernel) (tgt := 59) (by decide) ?_
    exact W.cnt (by omega) (by omega) (ih (n1 + 1) (by omega) _ (z_pb1 pb n1 q) H3 locs3 ls' ⟨hP4, hD4, hS4, z_stp1 hV hD3 hq8', (by unfold z_pb1; simp [hp0])⟩ hl')
set_option maxHeartbeats 4000000 in
set_option maxRecDepth 100000 in
theorem zl_4 (hx : p.tables.exec = Jvm.exec) (hb : c.code = prog_2_method_1_code) (hml : c.maxLocals = 2) (hown : s.vm.findClass (z_cn 0) = some m.cls) (hts : ∀ w ∈ z_tbl, w.before args s = true) (hK : va_K D z_cl (z_tys tc) s) (hZ : z_Zs s) (hA : ∀ q, s.heap.size ≤ q → A q) (hfr : 2 ≤ R.frames) (hlo : 32 ≤ R.locals) (hc : c0 + 3 * 6 ≤ R.cells) (hs : s0 + 12 * 6 ≤ R.slots)
    (kk : ∀ (ws : va_W) (pb : Nat → Nat → Nat) (H : Heap) (locs : List Loc) (ls : Array Slot), z_LI D tc A s h0 n1 6 n2 n3 ws pb H locs → lv_has ls 2 [(1, .int (nI 6)), (0, .ref h0)] → W p l e R s m args below meth c H locs (c0 + 3 * 6) (s0 + 12 * 6) Q (F0 m 110 ls [])) :
    ∀ (j n4 : Nat), n4 + j = 6 → ∀ (ws : va_W) (pb : Nat → Nat → Nat) (H : Heap) (locs : List Loc) (ls : Array Slot), z_LI D tc A s h0 n1 n4 n2 n3 ws pb H locs → lv_has ls 2 [(1, .int (nI n4)), (0, .ref h0)] → W p l e R s m args below meth c H locs (c0 + 3 * n4) (s0 + 12 * n4) Q (F0 m 85 ls []) := by
  intro j
  induction j with
  | zero =>
    intro n4 hn ws pb H locs ls hI hl
    obtain rfl : n4 = 6 := by omega
    refine lv_iload_n hx hb (show decode prog_2_method_1_code 85 = .ok (.iload_n 1, 1) by decide +kernel) rfl (lv_at hl 0 rfl) ?_
    refine lv_bipush (v := nI 6) hx hb (show decode prog_2_method_1_code 86 = .ok (.bipush 6, 2) by decide +kernel) (by decide) ?_
    exact lv_icmp_ge hx hb (show decode prog_2_method_1_code 88 = .ok (.if_icmp .ge 22, 3) by decide +kernel) (by decide) (fun _ => kk ws pb H locs ls hI hl) (fun h => absurd (by decide) h)
  | succ j ih =>
    intro n4 hn ws pb H locs ls hI hl
    obtain ⟨hP, hD, hS, hV, hp0⟩ := hI
    refine lv_iload_n hx hb (show decode prog_2_method_1_code 85 = .ok (.iload_n 1, 1) by decide +kernel) rfl (lv_at hl 0 rfl) ?_
    refine lv_bipush (v := nI 6) hx hb (show decode prog_2_method_1_code 86 = .ok (.bipush 6, 2) by decide +kernel) (by decide) ?_
    refine lv_icmp_ge (tgt := 110) hx hb (show decode prog_2_method_1_code 88 = .ok (.if_icmp .ge 22, 3) by decide +kernel) (by decide) (fun h => absurd h (nI_ge (by omega) (by decide))) (fun _ => ?_)
    refine lv_aload_n hx hb (show decode prog_2_method_1_code 91 = .ok (.aload_n 0, 1) by decide +kernel) rfl (lv_at hl 1 rfl) ?_
    obtain ⟨q9, hq9⟩ := List.getElem?_of_mem (hV.1 0 0 Nat.zero_lt_one)
    rw [hp0] at hq9
    obtain ⟨q8, hq8⟩ := List.getElem?_of_mem (hV.1 8 0 Nat.zero_lt_one)
    refine va_get (v := .ref (pb 8 0)) hx hb hts z_in0 hown hK hP q9 hq9 rfl 7 (by decide) (hts _ (z_FL_ok (own := 0) (n := 26) (a := 0) (b := 7) (by decide +kernel)).1) (fun _ h => h) rfl (show decode prog_2_method_1_code 92 = .ok (.getfield 26, 3) by decide +kernel) ?_
    refine lv_iload_n hx hb (show decode prog_2_method_1_code 95 = .ok (.iload_n 1, 1) by decide +kernel) rfl (lv_at hl 0 rfl) ?_
    refine va_new (ci := 4) (fs := z_df 4) (C := z_cn 4) (T := z_T4) (N := 3) hx hb hts z_in4 z_Y4 z_ty4 hown (hts _ (z_wc _ (List.mem_of_getElem? (i := 10) rfl))) (hts _ (z_wc _ (List.mem_of_getElem? (i := 20) rfl))) (hts _ (z_ini (c := 4) (by decide))) hK hP hD hS hA rfl (z_df_ok (k := 4)) (by omega) (by omega) (show decode prog_2_method_1_code 96 = .ok (.new 24, 3) by decide +kernel) (fun q H1 hP1 hD1 hS1 => ?_)
    refine lv_dup hx hb (show decode prog_2_method_1_code 99 = .ok (.dup, 1) by decide +kernel) rfl ?_
    have hPc : va_P D z_cl [(q, .inr (4, z_df 4))] H1 := fun u x hx => hP1 (ws.length + u) x (by rw [List.getElem?_append_right (by omega), Nat.add_sub_cancel_left]; exact hx)
    have hqA : A q := hD1.2 ws.length (q, .inr (4, z_df 4)) (by rw [List.getElem?_append_right (Nat.le_refl _), Nat.sub_self]; rfl)
    have hFA : ∀ q', z_Ak q H1.size q' → A q' := fun q' h => h.elim (fun g => by rw [g]; exact hqA) (fun g => hA q' (Nat.le_trans hS1.1 g))
    have hnw : ∀ (a : Nat) (x : va_E), (a, x) ∈ ws → a < H1.size ∧ ¬ z_Ak q H1.size a := fun a x hax => by
      obtain ⟨u, hu⟩ := List.getElem?_of_mem hax
      have hul := (List.getElem?_eq_some_iff.mp hu).1
      have hu1 : (ws ++ [(q, .inr (4, z_df 4))])[u]? = some (a, x) := by rw [List.getElem?_append_left hul]; exact hu
      have hlt := (hP1 u _ hu1).lt
      refine ⟨hlt, fun g => ?_⟩
      rcases g with g | g
      · have := hD1.1 u ws.length _ (q, .inr (4, z_df 4)) hu1 (by rw [List.getElem?_append_right (Nat.le_refl _), Nat.sub_self]; rfl) g
        omega
      · exact absurd hlt (Nat.not_lt.mpr g)
    refine va_callv (va_runIN (Ts := z_tbl) (As := []) (rest := [.ref q, .int (nI n4), .ref (pb 8 0)]) (b := q) ⟨hx, hb, hml, hown, hts⟩ (k_4 l D tc q H1.size) ⟨va_cnB (host := "BondStores") 0 hts z_wk_good4 rfl rfl rfl (hZ.2 _ (List.mem_of_getElem? (i := 1) rfl)) (hts _ (z_ini (c := 4) (by decide))) (by decide +kernel) ⟨hfr, hlo⟩, rfl, hts _ (z_wc _ (List.mem_of_getElem? (i := 30) rfl))⟩ ⟨fun a U g mk q => ⟨q.1, q.2.1, q.2.2.1, va_K.moved (u := U) (U := U.calling g mk a) (Vm.Alike.refl U.vm) q.2.2.2.1, z_Zs.same (s := U) (U := U.calling g mk a) rfl q.2.2.2.2⟩, fun U hU hW => ⟨rfl, by rw [hU], by rw [hU]; exact hPc, va_K.moved hW.alike hK, hZ.warm hW⟩⟩ rfl rfl hl.1 rfl (lv_room (Nat.le_of_ble_eq_true rfl)) (show decode prog_2_method_1_code 100 = .ok (.invokespecial 47, 3) by decide +kernel) ⟨by omega, by omega⟩) hS1 (fun q' _ h => hFA q' h) hFA (fun as t H2 locs2 ht hvm has hB hz hk hS2 => ?_)
    obtain ⟨hP2, hD2⟩ := hB
    rw [ht] at hP2
    obtain ⟨a0, a1, rfl⟩ := z_len2 has
    have hPw : va_P D z_cl ws H1 := fun u x hx => hP1 u x (by rw [List.getElem?_append_left (List.getElem?_eq_some_iff.mp hx).1]; exact hx)
    have hP3 : va_P D z_cl (ws ++ z_kw tc 4 q [a0, a1]) H2 := (hPw.kept (fun u x hx => hk _ (hnw x.1 x.2 (List.mem_of_getElem? hx)).1 (hnw x.1 x.2 (List.mem_of_getElem? hx)).2)).app hP2
    have hD3 : va_D A (ws ++ z_kw tc 4 q [a0, a1]) := va_D.app hD (hD2.weaken fun _ _ _ g => hFA _ g) (fun u v x y hx hy he => by
      have h1 := (hnw x.1 x.2 (List.mem_of_getElem? hx)).2
      rw [he] at h1
      exact h1 (hD2.2 v y hy))
    have hq8' : (ws ++ z_kw tc 4 q [a0, a1])[q8]? = some (pb 8 0, z_bc n1 n4 n2 n3 tc pb 8 0) := by rw [List.getElem?_append_left (List.getElem?_eq_some_iff.mp hq8).1]; exact hq8
    have hqo : (ws ++ z_kw tc 4 q [a0, a1])[ws.length]? = some (q, z_bc n1 n4 n2 n3 tc (z_pb4 pb n4 q a0 a1) 4 n4) := by
      rw [List.getElem?_append_right (Nat.le_refl _), Nat.sub_self]
      simp [z_kw, z_bc, z_pb4]
    refine va_astq (r := (z_cn 4, z_T4, 3)) hx hb hK hP3 hD3 hS2 q8 7 ws.length 4 hq8' rfl hqo rfl (nI_in (by omega) (by decide)) (show decode prog_2_method_1_code 103 = .ok (.aastore, 1) by decide +kernel) (fun H3 locs3 hP4 hD4 hS4 => ?_)
    rw [nI_clamp (by omega : n4 < 2 ^ 31)] at hP4 hD4
    refine lv_iinc (k := 0) hx hb (show decode prog_2_method_1_code 104 = .ok (.iinc 1 1, 3) by decide +kernel) hl rfl (nI_succ n4).symm (by decide) rfl (fun ls' hl' => ?_)
    refine lv_goto hx hb (show decode prog_2_method_1_code 107 = .ok (.goto (-22), 3) by decide +kernel) (tgt := 85) (by decide) ?_
    exact W.cnt (by omega) (by omega) (ih (n4 + 1) (by omega) _ (z_pb4 pb n4 q a0 a1) H3 locs3 ls' ⟨hP4, hD4, hS4, z_stp4 hV hD3 hq8', (by unfold z_pb4; simp [hp0])⟩ hl')
set_option maxHeartbeats 4000000 in
set_option maxRecDepth 100000 in
theorem zl_2 (hx : p.tables.exec = Jvm.exec) (hb : c.code = prog_2_method_1_code) (hml : c.maxLocals = 2) (hown : s.vm.findClass (z_cn 0) = some m.cls) (hts : ∀ w ∈ z_tbl, w.before args s = true) (hK : va_K D z_cl (z_tys tc) s) (hZ : z_Zs s) (hA : ∀ q, s.heap.size ≤ q → A q) (hfr : 2 ≤ R.frames) (hlo : 32 ≤ R.locals) (hc : c0 + 3 * 5 ≤ R.cells) (hs : s0 + 31 * 5 ≤ R.slots)
    (kk : ∀ (ws : va_W) (pb : Nat → Nat → Nat) (H : Heap) (locs : List Loc) (ls : Array Slot), z_LI D tc A s h0 n1 n4 5 n3 ws pb H locs → lv_has ls 2 [(1, .int (nI 5)), (0, .ref h0)] → W p l e R s m args below meth c H locs (c0 + 3 * 5) (s0 + 31 * 5) Q (F0 m 136 ls [])) :
    ∀ (j n2 : Nat), n2 + j = 5 → ∀ (ws : va_W) (pb : Nat → Nat → Nat) (H : Heap) (locs : List Loc) (ls : Array Slot), z_LI D tc A s h0 n1 n4 n2 n3 ws pb H locs → lv_has ls 2 [(1, .int (nI n2)), (0, .ref h0)] → W p l e R s m args below meth c H locs (c0 + 3 * n2) (s0 + 31 * n2) Q (F0 m 112 ls []) := by
  intro j
  induction j with
  | zero =>
    intro n2 hn ws pb H locs ls hI hl
    obtain rfl : n2 = 5 := by omega
    refine lv_iload_n hx hb (show decode prog_2_method_1_code 112 = .ok (.iload_n 1, 1) by decide +kernel) rfl (lv_at hl 0 rfl) ?_
    refine lv_iconst (v := nI 5) hx hb (show decode prog_2_method_1_code 113 = .ok (.iconst 5, 1) by decide +kernel) (by decide) ?_
    exact lv_icmp_ge hx hb (show decode prog_2_method_1_code 114 = .ok (.if_icmp .ge 22, 3) by decide +kernel) (by decide) (fun _ => kk ws pb H locs ls hI hl) (fun h => absurd (by decide) h)
  | succ j ih =>
    intro n2 hn ws pb H locs ls hI hl
    obtain ⟨hP, hD, hS, hV, hp0⟩ := hI
    refine lv_iload_n hx hb (show decode prog_2_method_1_code 112 = .ok (.iload_n 1, 1) by decide +kernel) rfl (lv_at hl 0 rfl) ?_
    refine lv_iconst (v := nI 5) hx hb (show decode prog_2_method_1_code 113 = .ok (.iconst 5, 1) by decide +kernel) (by decide) ?_
    refine lv_icmp_ge (tgt := 136) hx hb (show decode prog_2_method_1_code 114 = .ok (.if_icmp .ge 22, 3) by decide +kernel) (by decide) (fun h => absurd h (nI_ge (by omega) (by decide))) (fun _ => ?_)
    refine lv_aload_n hx hb (show decode prog_2_method_1_code 117 = .ok (.aload_n 0, 1) by decide +kernel) rfl (lv_at hl 1 rfl) ?_
    obtain ⟨q9, hq9⟩ := List.getElem?_of_mem (hV.1 0 0 Nat.zero_lt_one)
    rw [hp0] at hq9
    obtain ⟨q8, hq8⟩ := List.getElem?_of_mem (hV.1 9 0 Nat.zero_lt_one)
    refine va_get (v := .ref (pb 9 0)) hx hb hts z_in0 hown hK hP q9 hq9 rfl 8 (by decide) (hts _ (z_FL_ok (own := 0) (n := 32) (a := 0) (b := 8) (by decide +kernel)).1) (fun _ h => h) rfl (show decode prog_2_method_1_code 118 = .ok (.getfield 32, 3) by decide +kernel) ?_
    refine lv_iload_n hx hb (show decode prog_2_method_1_code 121 = .ok (.iload_n 1, 1) by decide +kernel) rfl (lv_at hl 0 rfl) ?_
    refine va_new (ci := 2) (fs := z_df 2) (C := z_cn 2) (T := z_T2) (N := 5) hx hb hts z_in2 z_Y2 z_ty2 hown (hts _ (z_wc _ (List.mem_of_getElem? (i := 11) rfl))) (hts _ (z_wc _ (List.mem_of_getElem? (i := 18) rfl))) (hts _ (z_ini (c := 2) (by decide))) hK hP hD hS hA rfl (z_df_ok (k := 2)) (by omega) (by omega) (show decode prog_2_method_1_code 122 = .ok (.new 30, 3) by decide +kernel) (fun q H1 hP1 hD1 hS1 => ?_)
    refine lv_dup hx hb (show decode prog_2_method_1_code 125 = .ok (.dup, 1) by decide +kernel) rfl ?_
    have hPc : va_P D z_cl [(q, .inr (2, z_df 2))] H1 := fun u x hx => hP1 (ws.length + u) x (by rw [List.getElem?_append_right (by omega), Nat.add_sub_cancel_left]; exact hx)
    have hqA : A q := hD1.2 ws.length (q, .inr (2, z_df 2)) (by rw [List.getElem?_append_right (Nat.le_refl _), Nat.sub_self]; rfl)
    have hFA : ∀ q', z_Ak q H1.size q' → A q' := fun q' h => h.elim (fun g => by rw [g]; exact hqA) (fun g => hA q' (Nat.le_trans hS1.1 g))
    have hnw : ∀ (a : Nat) (x : va_E), (a, x) ∈ ws → a < H1.size ∧ ¬ z_Ak q H1.size a := fun a x hax => by
      obtain ⟨u, hu⟩ := List.getElem?_of_mem hax
      have hul := (List.getElem?_eq_some_iff.mp hu).1
      have hu1 : (ws ++ [(q, .inr (2, z_df 2))])[u]? = some (a, x) := by rw [List.getElem?_append_left hul]; exact hu
      have hlt := (hP1 u _ hu1).lt
      refine ⟨hlt, fun g => ?_⟩
      rcases g with g | g
      · have := hD1.1 u ws.length _ (q, .inr (2, z_df 2)) hu1 (by rw [List.getElem?_append_right (Nat.le_refl _), Nat.sub_self]; rfl) g
        omega
      · exact absurd hlt (Nat.not_lt.mpr g)
    refine va_callv (va_runIN (Ts := z_tbl) (As := []) (rest := [.ref q, .int (nI n2), .ref (pb 9 0)]) (b := q) ⟨hx, hb, hml, hown, hts⟩ (k_2 l D tc q H1.size) ⟨va_cnB (host := "BondStores") 0 hts z_wk_good2 rfl rfl rfl (hZ.2 _ (List.mem_of_getElem? (i := 2) rfl)) (hts _ (z_ini (c := 2) (by decide))) (by decide +kernel) ⟨hfr, hlo⟩, rfl, hts _ (z_wc _ (List.mem_of_getElem? (i := 28) rfl))⟩ ⟨fun a U g mk q => ⟨q.1, q.2.1, q.2.2.1, va_K.moved (u := U) (U := U.calling g mk a) (Vm.Alike.refl U.vm) q.2.2.2.1, z_Zs.same (s := U) (U := U.calling g mk a) rfl q.2.2.2.2⟩, fun U hU hW => ⟨rfl, by rw [hU], by rw [hU]; exact hPc, va_K.moved hW.alike hK, hZ.warm hW⟩⟩ rfl rfl hl.1 rfl (lv_room (Nat.le_of_ble_eq_true rfl)) (show decode prog_2_method_1_code 126 = .ok (.invokespecial 48, 3) by decide +kernel) ⟨by omega, by omega⟩) hS1 (fun q' _ h => hFA q' h) hFA (fun as t H2 locs2 ht hvm has hB hz hk hS2 => ?_)
    obtain ⟨hP2, hD2⟩ := hB
    rw [ht] at hP2
    obtain ⟨a0, a1, rfl⟩ := z_len2 has
    have hPw : va_P D z_cl ws H1 := fun u x hx => hP1 u x (by rw [List.getElem?_append_left (List.getElem?_eq_some_iff.mp hx).1]; exact hx)
    have hP3 : va_P D z_cl (ws ++ z_kw tc 2 q [a0, a1]) H2 := (hPw.kept (fun u x hx => hk _ (hnw x.1 x.2 (List.mem_of_getElem? hx)).1 (hnw x.1 x.2 (List.mem_of_getElem? hx)).2)).app hP2
    have hD3 : va_D A (ws ++ z_kw tc 2 q [a0, a1]) := va_D.app hD (hD2.weaken fun _ _ _ g => hFA _ g) (fun u v x y hx hy he => by
      have h1 := (hnw x.1 x.2 (List.mem_of_getElem? hx)).2
      rw [he] at h1
      exact h1 (hD2.2 v y hy))
    have hq8' : (ws ++ z_kw tc 2 q [a0, a1])[q8]? = some (pb 9 0, z_bc n1 n4 n2 n3 tc pb 9 0) := by rw [List.getElem?_append_left (List.getElem?_eq_some_iff.mp hq8).1]; exact hq8
    have hqo : (ws ++ z_kw tc 2 q [a0, a1])[ws.length]? = some (q, z_bc n1 n4 n2 n3 tc (z_pb2 pb n2 q a0 a1) 2 n2) := by
      rw [List.getElem?_append_right (Nat.le_refl _), Nat.sub_self]
      simp [z_kw, z_bc, z_pb2]
    refine va_astq (r := (z_cn 2, z_T2, 5)) hx hb hK hP3 hD3 hS2 q8 5 ws.length 2 hq8' rfl hqo rfl (nI_in (by omega) (by decide)) (show decode prog_2_method_1_code 129 = .ok (.aastore, 1) by decide +kernel) (fun H3 locs3 hP4 hD4 hS4 => ?_)
    rw [nI_clamp (by omega : n2 < 2 ^ 31)] at hP4 hD4
    refine lv_iinc (k := 0) hx hb (show decode prog_2_method_1_code 130 = .ok (.iinc 1 1, 3) by decide +kernel) hl rfl (nI_succ n2).symm (by decide) rfl (fun ls' hl' => ?_)
    refine lv_goto hx hb (show decode prog_2_method_1_code 133 = .ok (.goto (-21), 3) by decide +kernel) (tgt := 112) (by decide) ?_
    exact W.cnt (by omega) (by omega) (ih (n2 + 1) (by omega) _ (z_pb2 pb n2 q a0 a1) H3 locs3 ls' ⟨hP4, hD4, hS4, z_stp2 hV hD3 hq8', (by unfold z_pb2; simp [hp0])⟩ hl')
set_option maxHeartbeats 4000000 in
set_option maxRecDepth 100000 in
theorem zl_3 (hx : p.tables.exec = Jvm.exec) (hb : c.code = prog_2_method_1_code) (hml : c.maxLocals = 2) (hown : s.vm.findClass (z_cn 0) = some m.cls) (hts : ∀ w ∈ z_tbl, w.before args s = true) (hK : va_K D z_cl (z_tys tc) s) (hZ : z_Zs s) (hA : ∀ q, s.heap.size ≤ q → A q) (hfr : 2 ≤ R.frames) (hlo : 32 ≤ R.locals) (hc : c0 + 2 * 40 ≤ R.cells) (hs : s0 + 20 * 40 ≤ R.slots)
    (kk : ∀ (ws : va_W) (pb : Nat → Nat → Nat) (H : Heap) (locs : List Loc) (ls : Array Slot), z_LI D tc A s h0 n1 n4 n2 40 ws pb H locs → lv_has ls 2 [(1, .int (nI 40)), (0, .ref h0)] → W p l e R s m args below meth c H locs (c0 + 2 * 40) (s0 + 20 * 40) Q (F0 m 163 ls [])) :
    ∀ (j n3 : Nat), n3 + j = 40 → ∀ (ws : va_W) (pb : Nat → Nat → Nat) (H : Heap) (locs : List Loc) (ls : Array Slot), z_LI D tc A s h0 n1 n4 n2 n3 ws pb H locs → lv_has ls 2 [(1, .int (nI n3)), (0, .ref h0)] → W p l e R s m args below meth c H locs (c0 + 2 * n3) (s0 + 20 * n3) Q (F0 m 138 ls []) := by
  intro j
  induction j with
  | zero =>
    intro n3 hn ws pb H locs ls hI hl
    obtain rfl : n3 = 40 := by omega
    refine lv_iload_n hx hb (show decode prog_2_method_1_code 138 = .ok (.iload_n 1, 1) by decide +kernel) rfl (lv_at hl 0 rfl) ?_
    refine lv_bipush (v := nI 40) hx hb (show decode prog_2_method_1_code 139 = .ok (.bipush 40, 2) by decide +kernel) (by decide) ?_
    exact lv_icmp_ge hx hb (show decode prog_2_method_1_code 141 = .ok (.if_icmp .ge 22, 3) by decide +kernel) (by decide) (fun _ => kk ws pb H locs ls hI hl) (fun h => absurd (by decide) h)
  | succ j ih =>
    intro n3 hn ws pb H locs ls hI hl
    obtain ⟨hP, hD, hS, hV, hp0⟩ := hI
    refine lv_iload_n hx hb (show decode prog_2_method_1_code 138 = .ok (.iload_n 1, 1) by decide +kernel) rfl (lv_at hl 0 rfl) ?_
    refine lv_bipush (v := nI 40) hx hb (show decode prog_2_method_1_code 139 = .ok (.bipush 40, 2) by decide +kernel) (by decide) ?_
    refine lv_icmp_ge (tgt := 163) hx hb (show decode prog_2_method_1_code 141 = .ok (.if_icmp .ge 22, 3) by decide +kernel) (by decide) (fun h => absurd h (nI_ge (by omega) (by decide))) (fun _ => ?_)
    refine lv_aload_n hx hb (show decode prog_2_method_1_code 144 = .ok (.aload_n 0, 1) by decide +kernel) rfl (lv_at hl 1 rfl) ?_
    obtain ⟨q9, hq9⟩ := List.getElem?_of_mem (hV.1 0 0 Nat.zero_lt_one)
    rw [hp0] at hq9
    obtain ⟨q8, hq8⟩ := List.getElem?_of_mem (hV.1 10 0 Nat.zero_lt_one)
    refine va_get (v := .ref (pb 10 0)) hx hb hts z_in0 hown hK hP q9 hq9 rfl 9 (by decide) (hts _ (z_FL_ok (own := 0) (n := 38) (a := 0) (b := 9) (by decide +kernel)).1) (fun _ h => h) rfl (show decode prog_2_method_1_code 145 = .ok (.getfield 38, 3) by decide +kernel) ?_
    refine lv_iload_n hx hb (show decode prog_2_method_1_code 148 = .ok (.iload_n 1, 1) by decide +kernel) rfl (lv_at hl 0 rfl) ?_
    refine va_new (ci := 3) (fs := z_df 3) (C := z_cn 3) (T := z_T3) (N := 16) hx hb hts z_in3 z_Y3 z_ty3 hown (hts _ (z_wc _ (List.mem_of_getElem? (i := 12) rfl))) (hts _ (z_wc _ (List.mem_of_getElem? (i := 19) rfl))) (hts _ (z_ini (c := 3) (by decide))) hK hP hD hS hA rfl (z_df_ok (k := 3)) (by omega) (by omega) (show decode prog_2_method_1_code 149 = .ok (.new 36, 3) by decide +kernel) (fun q H1 hP1 hD1 hS1 => ?_)
    refine lv_dup hx hb (show decode prog_2_method_1_code 152 = .ok (.dup, 1) by decide +kernel) rfl ?_
    have hPc : va_P D z_cl [(q, .inr (3, z_df 3))] H1 := fun u x hx => hP1 (ws.length + u) x (by rw [List.getElem?_append_right (by omega), Nat.add_sub_cancel_left]; exact hx)
    have hqA : A q := hD1.2 ws.length (q, .inr (3, z_df 3)) (by rw [List.getElem?_append_right (Nat.le_refl _), Nat.sub_self]; rfl)
    have hFA : ∀ q', z_Ak q H1.size q' → A q' := fun q' h => h.elim (fun g => by rw [g]; exact hqA) (fun g => hA q' (Nat.le_trans hS1.1 g))
    have hnw : ∀ (a : Nat) (x : va_E), (a, x) ∈ ws → a < H1.size ∧ ¬ z_Ak q H1.size a := fun a x hax => by
      obtain ⟨u, hu⟩ := List.getElem?_of_mem hax
      have hul := (List.getElem?_eq_some_iff.mp hu).1
      have hu1 : (ws ++ [(q, .inr (3, z_df 3))])[u]? = some (a, x) := by rw [List.getElem?_append_left hul]; exact hu
      have hlt := (hP1 u _ hu1).lt
      refine ⟨hlt, fun g => ?_⟩
      rcases g with g | g
      · have := hD1.1 u ws.length _ (q, .inr (3, z_df 3)) hu1 (by rw [List.getElem?_append_right (Nat.le_refl _), Nat.sub_self]; rfl) g
        omega
      · exact absurd hlt (Nat.not_lt.mpr g)
    refine va_callv (va_runIN (Ts := z_tbl) (As := []) (rest := [.ref q, .int (nI n3), .ref (pb 10 0)]) (b := q) ⟨hx, hb, hml, hown, hts⟩ (k_3 l D tc q H1.size) ⟨va_cnB (host := "BondStores") 0 hts z_wk_good3 rfl rfl rfl (hZ.2 _ (List.mem_of_getElem? (i := 3) rfl)) (hts _ (z_ini (c := 3) (by decide))) (by decide +kernel) ⟨hfr, hlo⟩, rfl, hts _ (z_wc _ (List.mem_of_getElem? (i := 29) rfl))⟩ ⟨fun a U g mk q => ⟨q.1, q.2.1, q.2.2.1, va_K.moved (u := U) (U := U.calling g mk a) (Vm.Alike.refl U.vm) q.2.2.2.1, z_Zs.same (s := U) (U := U.calling g mk a) rfl q.2.2.2.2⟩, fun U hU hW => ⟨rfl, by rw [hU], by rw [hU]; exact hPc, va_K.moved hW.alike hK, hZ.warm hW⟩⟩ rfl rfl hl.1 rfl (lv_room (Nat.le_of_ble_eq_true rfl)) (show decode prog_2_method_1_code 153 = .ok (.invokespecial 49, 3) by decide +kernel) ⟨by omega, by omega⟩) hS1 (fun q' _ h => hFA q' h) hFA (fun as t H2 locs2 ht hvm has hB hz hk hS2 => ?_)
    obtain ⟨hP2, hD2⟩ := hB
    rw [ht] at hP2
    obtain ⟨a0, rfl⟩ := List.length_eq_one_iff.mp has
    have hPw : va_P D z_cl ws H1 := fun u x hx => hP1 u x (by rw [List.getElem?_append_left (List.getElem?_eq_some_iff.mp hx).1]; exact hx)
    have hP3 : va_P D z_cl (ws ++ z_kw tc 3 q [a0]) H2 := (hPw.kept (fun u x hx => hk _ (hnw x.1 x.2 (List.mem_of_getElem? hx)).1 (hnw x.1 x.2 (List.mem_of_getElem? hx)).2)).app hP2
    have hD3 : va_D A (ws ++ z_kw tc 3 q [a0]) := va_D.app hD (hD2.weaken fun _ _ _ g => hFA _ g) (fun u v x y hx hy he => by
      have h1 := (hnw x.1 x.2 (List.mem_of_getElem? hx)).2
      rw [he] at h1
      exact h1 (hD2.2 v y hy))
    have hq8' : (ws ++ z_kw tc 3 q [a0])[q8]? = some (pb 10 0, z_bc n1 n4 n2 n3 tc pb 10 0) := by rw [List.getElem?_append_left (List.getElem?_eq_some_iff.mp hq8).1]; exact hq8
    have hqo : (ws ++ z_kw tc 3 q [a0])[ws.length]? = some (q, z_bc n1 n4 n2 n3 tc (z_pb3 pb n3 q a0) 3 n3) := by
      rw [List.getElem?_append_right (Nat.le_refl _), Nat.sub_self]
      simp [z_kw, z_bc, z_pb3]
    refine va_astq (r := (z_cn 3, z_T3, 16)) hx hb hK hP3 hD3 hS2 q8 6 ws.length 3 hq8' rfl hqo rfl (nI_in (by omega) (by decide)) (show decode prog_2_method_1_code 156 = .ok (.aastore, 1) by decide +kernel) (fun H3 locs3 hP4 hD4 hS4 => ?_)
    rw [nI_clamp (by omega : n3 < 2 ^ 31)] at hP4 hD4
    refine lv_iinc (k := 0) hx hb (show decode prog_2_method_1_code 157 = .ok (.iinc 1 1, 3) by decide +kernel) hl rfl (nI_succ n3).symm (by decide) rfl (fun ls' hl' => ?_)
    refine lv_goto hx hb (show decode prog_2_method_1_code 160 = .ok (.goto (-22), 3) by decide +kernel) (tgt := 138) (by decide) ?_
    exact W.cnt (by omega) (by omega) (ih (n3 + 1) (by omega) _ (z_pb3 pb n3 q a0) H3 locs3 ls' ⟨hP4, hD4, hS4, z_stp3 hV hD3 hq8', (by unfold z_pb3; simp [hp0])⟩ hl')
end Ct2
