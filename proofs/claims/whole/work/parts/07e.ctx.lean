/-! ===== SOUNDNESS of one instruction, of a block, of a frame ===== -/
section Snd2
variable {p : Program} {l : Launch} {e : Env} {R : Room} {s : State} {mi : MethodId} {args : Array Value} {below : List Frame} {meth : Method} {c : Code} {QQ : State → Prop} {D : va_G} {tc : Nat → ClassId} {A : Nat → Prop} {c0 s0 nL nb0 B dp own rt : Nat} {pl0 : zP} {sc : zX} {cc : ByteArray} {C : zC} {Q : zQ}
/-- what is given of a frame -/
def z_Cx (p : Program) (R : Room) (s : State) (mi : MethodId) (args : Array Value) (c : Code) (own nL : Nat) (cc : ByteArray) (D : va_G) (tc : Nat → ClassId) (A : Nat → Prop) (B dp c0 s0 : Nat) : Prop :=
  p.tables.exec = Jvm.exec ∧ c.code = cc ∧ c.maxLocals = nL ∧ s.vm.findClass (z_cn own) = some mi.cls ∧ (∀ w ∈ z_tbl, w.before args s = true) ∧ va_K D z_cl (z_tys tc) s ∧ (∀ q, s.heap.size ≤ q → A q) ∧ dp + 1 ≤ R.frames ∧ 38 * (dp + 1) ≤ R.locals ∧ c0 + 123 * B ≤ R.cells ∧ s0 + 1154 * B ≤ R.slots
/-- the JVM at a frame that holds the small machine's state comes to QQ -/
def z_Fr (p : Program) (l : Launch) (e : Env) (R : Room) (s : State) (mi : MethodId) (args : Array Value) (below : List Frame) (meth : Method) (c : Code) (QQ : State → Prop) (D : va_G) (tc : Nat → ClassId) (A : Nat → Prop) (nb0 : Nat) (pl0 : zP) (sc : zX) (nL B c0 s0 : Nat) (pc : Nat) (ls : zL) (st : List zV) (m : zM) (u : Nat) : Prop :=
  u ≤ B → ∀ (H : Heap) (locs : List Loc) (pl : zP) (la : Array Slot), z_Hp D tc A s nb0 pl0 m H locs pl → z_lR pl nL ls la → z_vl sc (z_nb m) ls → z_vs sc (z_nb m) st → W p l e R s mi args below meth c H locs (c0 + 123 * u) (s0 + 1154 * u) QQ (F0 mi pc la (st.map (z_cv pl)))
def z_rti (r : Option zV) : Instr := match r with
  | none => .return_
  | some (.inl _) => .ireturn
  | some (.inr (.inl _)) => .lreturn
  | some (.inr (.inr _)) => .areturn
def z_rok (rt : Nat) (r : Option zV) : Prop := match r with
  | none => rt = 0
  | some (.inl v) => rt = 1 ∨ (rt = 2 ∧ (v = 0 ∨ v = 1))
  | some (.inr (.inl _)) => rt = 3
  | some (.inr (.inr h)) => rt = 4 ∧ h ≠ none
/-- returns; a new Book; calls: what the frame's soundness takes of them -/
def z_Hr (p : Program) (l : Launch) (e : Env) (R : Room) (s : State) (mi : MethodId) (args : Array Value) (below : List Frame) (meth : Method) (c : Code) (QQ : State → Prop) (D : va_G) (tc : Nat → ClassId) (A : Nat → Prop) (nb0 : Nat) (pl0 : zP) (sc : zX) (B c0 s0 rt : Nat) (cc : ByteArray) (Q : zQ) : Prop :=
  ∀ (r : Option zV) (m : zM) (u : Nat) (H : Heap) (locs : List Loc) (pl : zP) (la : Array Slot) (pc : Nat), Q r m → u ≤ B → z_Hp D tc A s nb0 pl0 m H locs pl → z_rok rt r → z_vs sc (z_nb m) r.toList → decode cc pc = .ok (z_rti r, 1) → W p l e R s mi args below meth c H locs (c0 + 123 * u) (s0 + 1154 * u) QQ (F0 mi pc la (r.toList.map (z_cv pl)))
def z_Hn (p : Program) (l : Launch) (e : Env) (R : Room) (s : State) (mi : MethodId) (args : Array Value) (below : List Frame) (meth : Method) (c : Code) (QQ : State → Prop) (D : va_G) (tc : Nat → ClassId) (A : Nat → Prop) (nb0 : Nat) (pl0 : zP) (nL B dp c0 s0 own : Nat) (cc : ByteArray) : Prop :=
  ∀ (m : zM) (u : Nat) (H : Heap) (locs : List Loc) (pl : zP) (la : Array Slot) (pc : Nat) (rest : List Value), own = 5 → u + 1 ≤ B → 2 ≤ dp → la.size = nL → (rest.map fun v => v.category).sum ≤ 4 → z_Hp D tc A s nb0 pl0 m H locs pl → decode cc pc = .ok (.new 7, 3) → decode cc (pc + 3) = .ok (.dup, 1) → decode cc (pc + 4) = .ok (.invokespecial 9, 3) →
    (∀ (H1 : Heap) (locs1 : List Loc) (pl1 : zP), z_Hp D tc A s nb0 pl0 (z_nw m) H1 locs1 pl1 → z_ext (z_nb m) pl (z_nb m + 1) pl1 → W p l e R s mi args below meth c H1 locs1 (c0 + 123 * (u + 1)) (s0 + 1154 * (u + 1)) QQ (F0 mi (pc + 7) la (.ref (pl1 0 (z_nb m) 0) :: rest))) → W p l e R s mi args below meth c H locs (c0 + 123 * u) (s0 + 1154 * u) QQ (F0 mi pc la rest)
def z_rm (d b : Nat) : Room := { frames := d, cells := 123 * b, slots := 1154 * b, locals := 38 * d }
def z_wd (j : Nat) : List Cond := Cond.code (z_nm j) (z_by j) (z_mL j) (z_re j) :: z_tbl
def z_Aw (L : List Nat) (sz : Nat) : Nat → Prop := fun q => q ∈ L ∨ sz ≤ q
/-- words that are no words of a head: handed on by the state -/
def z_Zn : List Cond := [.methodLinkNest "BondStores$Book" 46 ⟨"BondStores$Guarantor", "<init>", "()V"⟩ "BondStores", .methodLinkNest "BondStores$Book" 47 ⟨"BondStores$Store", "<init>", "()V"⟩ "BondStores", .methodLinkNest "BondStores$Book" 48 ⟨"BondStores$Kind", "<init>", "()V"⟩ "BondStores", .methodLinkNest "BondStores$Book" 49 ⟨"BondStores$Load", "<init>", "()V"⟩ "BondStores"]
def z_Zs (U : State) : Prop := (∀ k, k < 5 → va_AO (z_cn k) U) ∧ ∀ w ∈ z_Zn, va_Nw w U
def z_Pc (D : va_G) (tc : Nat → ClassId) (L : List Nat) (F : Nat → va_E) (pl : zP) (sz : Nat) (as : List zV) : Array Value → State → Prop := fun v U =>
  v = (as.map (z_cv pl)).toArray ∧ U.heap.size = sz ∧ va_P D z_cl (va_pl L F) U.heap ∧ va_D (fun _ => True) (va_pl L F) ∧ va_K D z_cl (z_tys tc) U ∧ z_Zs U
def z_Qc (D : va_G) (tc : Nat → ClassId) (L : List Nat) (pl : zP) (m : zM) (sz : Nat) (rt : Nat) (Q : zQ) : Array Value → State → Outcome → State → Prop := fun _ st oc t =>
  (∃ (r : Option zV) (m' : zM) (L' : List Nat) (F' : Nat → va_E) (pl' : zP), oc = .returned (r.map (z_cv pl')) ∧ Q r m' ∧ z_rok rt r ∧ z_vs none (z_nb m') r.toList ∧ va_P D z_cl (va_pl L' F') t.heap ∧ va_D (z_Aw L sz) (va_pl L' F') ∧ z_R tc L' F' pl' m' ∧ z_ext (z_nb m) pl (z_nb m') pl') ∧ va_F (z_Aw L sz) st t
def z_Hc (l : Launch) (D : va_G) (tc : Nat → ClassId) (dp : Nat) (C : zC) : Prop :=
  ∀ (j : Nat) (as : List zV) (m : zM) (QK : zQ) (L : List Nat) (F : Nat → va_E) (pl : zP) (sz : Nat), C j as m QK → 0 < j → j < 229 → z_sp j = 0 → z_vs none (z_nb m) as → z_R tc L F pl m →
    Met l (z_nm j) (z_wd j) (z_rm dp (z_mB j)) (z_Pc D tc L F pl sz as) (z_Qc D tc L pl m sz (z_mR j) QK) (123 * z_mB j) (1154 * z_mB j) (z_Aw L sz)
theorem z_Zs.warm {s U : State} (hW : s.WarmedH U.vm) (h : z_Zs s) : z_Zs U := by
  refine ⟨fun k hk => (h.1 k hk).moved hW.alike, fun w hw => ?_⟩
  have h1 := h.2 w hw
  simp only [z_Zn, List.mem_cons, List.not_mem_nil, or_false] at hw
  rcases hw with rfl | rfl | rfl | rfl <;> exact va_Nw.warmM hW h1
theorem z_Zs.same {s U : State} (hv : s.vm = U.vm) (h : z_Zs s) : z_Zs U := by
  refine ⟨fun k hk => (h.1 k hk).moved (by rw [hv]; exact Vm.Alike.refl _), fun w hw => ?_⟩
  refine va_Nw.same ?_ hv (h.2 w hw)
  simp only [z_Zn, List.mem_cons, List.not_mem_nil, or_false] at hw
  rcases hw with rfl | rfl | rfl | rfl <;> rfl
/-- behind a call -/
theorem z_after {pc : Nat} {la : Array Slot} {rest st0 : List Value} {a : Array Value} {m : zM} {pl : zP} {L : List Nat} {H : Heap} {locs : List Loc} {cells slots mc ms j : Nat} {QK : zQ} (hr : va_Run p l e R s mi args below meth c H locs cells slots mc ms (F0 mi pc la st0) rest (z_Qc D tc L pl m H.size (z_mR j) QK a) (z_Aw L H.size)) (hS : va_S A s.heap H locs) (hL : ∀ q, z_Aw L H.size q → A q) (he : z_ext nb0 pl0 (z_nb m) pl)
    (kk : ∀ (r : Option zV) (m' : zM) (pl' : zP) (H1 : Heap) (locs1 : List Loc), QK r m' → z_vs none (z_nb m') r.toList → z_ext (z_nb m) pl (z_nb m') pl' → z_Hp D tc A s nb0 pl0 m' H1 locs1 pl' → W p l e R s mi args below meth c H1 locs1 (cells + mc) (slots + ms) QQ (F0 mi (pc + 3) la ((r.map (z_cv pl')).toList ++ rest))) : W p l e R s mi args below meth c H locs cells slots QQ (F0 mi pc la st0) := by
  intro T hT X
  obtain ⟨v, st₀, t, T', Lc, h0, X', hLc, e1, e2, ⟨⟨r, m', L', F', pl', hv, hq, hrk, hvr, hP', hD', hR', hx'⟩, hz, hk⟩, st⟩ := hr T hT X
  cases hv
  rw [h0] at hz hk
  have hS' : va_S A s.heap T'.heap (locs ++ Lc) := ⟨Nat.le_trans hS.1 (by rw [e1]; exact hz), fun q h1 h2 => by rw [e1, hk q (Nat.lt_of_lt_of_le h1 hS.1) (fun z => h2 (hL q z))]; exact hS.2.1 q h1 h2, fun q hq => by
      rcases List.mem_append.mp hq with h | h
      · exact hS.2.2 q h
      · exact hL _ (hLc q h)⟩
  obtain ⟨t2, a1, b1⟩ := kk r m' pl' T'.heap (locs ++ Lc) hq hvr hx' ⟨⟨L', F', by rw [e1]; exact hP', hD'.weaken fun _ _ _ g => hL _ g, hR'⟩, hS', he.tr hx'⟩ T' rfl X'
  exact ⟨t2, st t2 a1, b1⟩

theorem z_b1 {a b : Nat} (h : Nat.beq a b = true) : a = b := Nat.eq_of_beq_eq_true h
theorem z_vv_va {nb : Nat} {h : Nat × Nat × Nat} (hv : z_vv sc nb (zr (some h))) (hk : h.1 ≠ 34) : z_va nb h.1 h.2.1 h.2.2 := by
  rcases hv with q | q
  · exact q
  · exact absurd (by rw [q]) hk
theorem z_ik34 {k n : Nat} (h : z_ik k = some n) : k ≠ 34 := fun e => by subst e; cases h
theorem z_lk34 {k n : Nat} (h : z_lk k = some n) : k ≠ 34 := fun e => by subst e; cases h
theorem z_rk34 {k : Nat} {n : Nat × (Nat ⊕ Nat)} (h : z_rk k = some n) : k ≠ 34 := fun e => by subst e; cases h
end Snd2
