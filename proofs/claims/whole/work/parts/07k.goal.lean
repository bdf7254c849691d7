/-! ===== THE LAW'S START OUT OF A PURE GOAL (its first rows are the skeleton's) ===== -/
def R_law : String := "BondStoresLaw"
def lw_P (b : Addr) (xs : List Int32) (args : Array Value) (s : State) : Prop := args = #[.ref b] ∧ s.IntsAt b xs ∧ xs.length ≤ 3584 ∧ (Jvm.Cond.and given_1 narrow_1).before args s = true
def lw_Q (_ : Array Value) (s : State) (o : Outcome) (t : State) : Prop := o = .returned (some (.int 1)) ∧ Framed s o t [] 600000 7302250
def lw_Z (below : List Frame) (a : Array Value) (s : State) : State → Prop := fun t => ∃ o, t.status = .running ∧ Ended t below o ∧ lw_Q a s o t
/-- the law's own end, with 1 on the stack, nothing written that was there before, its room as the claim has it -/
theorem lw_ret {p : Program} {l : Launch} {e : Env} {s : State} {m : MethodId} {below : List Frame} {meth : Method} {c : Code} {b : Nat} (hx : p.tables.exec = Jvm.exec) (hb : c.code = code) (hr : meth.sig.returnType = ret) (hlocks : meth.locks = false) {pc : Nat} {H : Heap} {ls : Array Slot} (hdg : decode code pc = .ok (.ireturn, 1)) : W p l e room_1 s m #[Value.ref b] below meth c H [] 600000 7302250 (lw_Z below #[Value.ref b] s) (F0 m pc ls [.int 1]) := by
  intro T hT X
  obtain ⟨fs, hret, hrun, hended, hW, hframe⟩ := X.leave (v := some (.int 1)) (hlocks := hlocks) (fun h => by rw [hr] at h; cases h)
  have hmeth' : T.vm.method? m = some meth := X.method'
  refine ⟨T.setFrames fs, ?_, .returned (some (.int 1)), hrun, hended, rfl, ⟨_, rfl⟩, hW, hframe⟩
  jvm_step X.here [X.here.top, hx, hb, hdg, hmeth', hr, ret, narrow_b1]
  (try refine ⟨rfl, ?_⟩); (try refine ⟨rfl, ?_⟩)
  first | (intro acts; rw [hret _ acts rfl rfl rfl]) | rw [hret _ _ rfl rfl rfl]
  exact Steps.refl _
/-- what holds at the law's entry: the machine, the code, the tables' words (any of lw_tbl by 'hts w (by decide +kernel)'), the script of L ints xs at the cell b, what the Statement gives of the start (any of its parts by flat_of_before) -/
def lw_At (p : Program) (s : State) (m : MethodId) (meth : Method) (c : Code) (b L : Nat) (xs : Nat → Int32) : Prop :=
  p.tables.exec = Jvm.exec ∧ c.code = code ∧ meth.sig.returnType = ret ∧ c.maxLocals = 4 ∧ s.vm.findClass R_law = some m.cls ∧ (∀ w ∈ lw_tbl, w.before #[Value.ref b] s = true) ∧ va_X b L xs s s.heap ∧ b < s.heap.size ∧ meth.locks = false ∧ (Jvm.Cond.and given_1 narrow_1).before #[Value.ref b] s = true
section Sg
def z_s0 : zS := (fun _ _ _ => 0, fun _ _ _ => 0)
def z_s1 : zS := (fun k _ f => if k = 22 ∧ f = 4 then 30 else if k = 22 ∧ f = 5 then 1 else 0, fun _ _ _ => 0)
def z_m0 : zM := (fun r => if r = 0 then z_s0 else if r = 1 then z_s1 else z_b0, fun _ => none, 3)
/-- what is left to show, over the small machine alone -/
def z_Law : Prop := ∀ (L : Nat) (xs : Nat → Int32), L ≤ 3584 → z_wp 0 (some (L, xs)) 9 (z_call 9) (fun r _ => r = some (zi 1)) 1100 18 [some (zr (some (34, 1, 0))), some (zr (some (5, 0, 0))), some (zr (some (6, 1, 0))), some (zi 0)] [] z_m0 0
theorem z_K0 {args : Array Value} {s : State} (hts : ∀ w ∈ lw_tbl, w.before args s = true) : ∃ (D : va_G) (tc : Nat → ClassId), va_K D z_cl (z_tys tc) s := by
  have htz : ∀ w ∈ z_tbl, w.before args s = true := fun w hw => hts w (z_tbl_in hw)
  obtain ⟨c0, i0, h0⟩ := u_known (C := z_cn 0) (T := z_T0) (N := 12) (n := 12) htz z_in0 (htz _ (z_wc _ (List.mem_of_getElem? (i := 16) rfl)))
  obtain ⟨c1, i1, h1⟩ := u_known (C := z_cn 1) (T := z_T1) (N := 5) (n := 5) htz z_in1 (htz _ (z_wc _ (List.mem_of_getElem? (i := 17) rfl)))
  obtain ⟨c2, i2, h2⟩ := u_known (C := z_cn 2) (T := z_T2) (N := 5) (n := 5) htz z_in2 (htz _ (z_wc _ (List.mem_of_getElem? (i := 18) rfl)))
  obtain ⟨c3, i3, h3⟩ := u_known (C := z_cn 3) (T := z_T3) (N := 16) (n := 16) htz z_in3 (htz _ (z_wc _ (List.mem_of_getElem? (i := 19) rfl)))
  obtain ⟨c4, i4, h4⟩ := u_known (C := z_cn 4) (T := z_T4) (N := 3) (n := 3) htz z_in4 (htz _ (z_wc _ (List.mem_of_getElem? (i := 20) rfl)))
  obtain ⟨c5, i5, h5⟩ := u_known (C := z_cn 5) (T := z_T5) (N := 13) (n := 13) htz z_in5 (htz _ (z_wc _ (List.mem_of_getElem? (i := 21) rfl)))
  obtain ⟨c6, i6, h6⟩ := u_known (C := z_cn 6) (T := z_T6) (N := 18) (n := 18) htz z_in6 (htz _ (z_wc _ (List.mem_of_getElem? (i := 22) rfl)))
  obtain ⟨t0, k0, u0, a0, b0, d0⟩ := Cond.arrayClass_spec (htz _ (z_wc _ (List.mem_of_getElem? (i := 23) rfl)))
  obtain ⟨t1, k1, u1, a1, b1, d1⟩ := Cond.arrayClass_spec (htz _ (z_wc _ (List.mem_of_getElem? (i := 24) rfl)))
  obtain ⟨t2, k2, u2, a2, b2, d2⟩ := Cond.arrayClass_spec (htz _ (z_wc _ (List.mem_of_getElem? (i := 25) rfl)))
  obtain ⟨u3, t3, k3, a3, b3, d3, e3, f3⟩ := Cond.arrayOver_spec (n := z_cn 0) (hts _ (List.mem_of_getElem? (i := 309) (by decide +kernel)))
  obtain ⟨u4, t4, k4, a4, b4, d4, e4, f4⟩ := Cond.arrayOver_spec (n := z_cn 1) (hts _ (List.mem_of_getElem? (i := 95) (by decide +kernel)))
  obtain ⟨u5, t5, k5, a5, b5, d5, e5, f5⟩ := Cond.arrayOver_spec (n := z_cn 2) (hts _ (List.mem_of_getElem? (i := 99) (by decide +kernel)))
  obtain ⟨u6, t6, k6, a6, b6, d6, e6, f6⟩ := Cond.arrayOver_spec (n := z_cn 3) (hts _ (List.mem_of_getElem? (i := 101) (by decide +kernel)))
  obtain ⟨u7, t7, k7, a7, b7, d7, e7, f7⟩ := Cond.arrayOver_spec (n := z_cn 4) (hts _ (List.mem_of_getElem? (i := 97) (by decide +kernel)))
  refine ⟨(fun k => if k = 0 then c0 else if k = 1 then c1 else if k = 2 then c2 else if k = 3 then c3 else if k = 4 then c4 else if k = 5 then c5 else c6, fun k => if k = 0 then i0 else if k = 1 then i1 else if k = 2 then i2 else if k = 3 then i3 else if k = 4 then i4 else if k = 5 then i5 else i6), fun k => if k = 0 then t0 else if k = 1 then t1 else if k = 2 then t2 else if k = 3 then t3 else if k = 4 then t4 else if k = 5 then t5 else if k = 6 then t6 else t7, fun k q hq => ?_, fun k q hq => ?_⟩
  · match k, hq with
    | 0, hq => cases hq; exact h0
    | 1, hq => cases hq; exact h1
    | 2, hq => cases hq; exact h2
    | 3, hq => cases hq; exact h3
    | 4, hq => cases hq; exact h4
    | 5, hq => cases hq; exact h5
    | 6, hq => cases hq; exact h6
    | k + 7, hq => cases hq
  · match k, hq with
    | 0, hq => cases hq; exact ⟨fun n z => ⟨fun k h => (by cases h), k0, b0, u0, d0⟩, a0⟩
    | 1, hq => cases hq; exact ⟨fun n z => ⟨fun k h => (by cases h), k1, b1, u1, d1⟩, a1⟩
    | 2, hq => cases hq; exact ⟨fun n z => ⟨fun k h => (by cases h), k2, b2, u2, d2⟩, a2⟩
    | 3, hq => cases hq; exact ⟨fun n z => ⟨fun k h => (by cases h), k3, d3, u3, e3⟩, k3, u3, d3, e3, a3, f3⟩
    | 4, hq => cases hq; exact ⟨fun n z => ⟨fun k h => (by cases h), k4, d4, u4, e4⟩, k4, u4, d4, e4, a4, f4⟩
    | 5, hq => cases hq; exact ⟨fun n z => ⟨fun k h => (by cases h), k5, d5, u5, e5⟩, k5, u5, d5, e5, a5, f5⟩
    | 6, hq => cases hq; exact ⟨fun n z => ⟨fun k h => (by cases h), k6, d6, u6, e6⟩, k6, u6, d6, e6, a6, f6⟩
    | 7, hq => cases hq; exact ⟨fun n z => ⟨fun k h => (by cases h), k7, d7, u7, e7⟩, k7, u7, d7, e7, a7, f7⟩
    | k + 8, hq => cases hq
theorem z_Z0 {args : Array Value} {s : State} (hts : ∀ w ∈ lw_tbl, w.before args s = true) : z_Zs s := by
  refine ⟨fun k hk => ?_, fun w hw => ?_⟩
  · match k, hk with
    | 0, _ => exact va_AO.of (hts _ (List.mem_of_getElem? (i := 309) (by decide +kernel)))
    | 1, _ => exact va_AO.of (hts _ (List.mem_of_getElem? (i := 95) (by decide +kernel)))
    | 2, _ => exact va_AO.of (hts _ (List.mem_of_getElem? (i := 99) (by decide +kernel)))
    | 3, _ => exact va_AO.of (hts _ (List.mem_of_getElem? (i := 101) (by decide +kernel)))
    | 4, _ => exact va_AO.of (hts _ (List.mem_of_getElem? (i := 97) (by decide +kernel)))
  · simp only [z_Zn, List.mem_cons, List.not_mem_nil, or_false] at hw
    rcases hw with rfl | rfl | rfl | rfl
    · exact va_Nw.of rfl (hts _ (List.mem_of_getElem? (i := 103) (by decide +kernel)))
    · exact va_Nw.of rfl (hts _ (List.mem_of_getElem? (i := 132) (by decide +kernel)))
    · exact va_Nw.of rfl (hts _ (List.mem_of_getElem? (i := 153) (by decide +kernel)))
    · exact va_Nw.of rfl (hts _ (List.mem_of_getElem? (i := 177) (by decide +kernel)))
def z_px (x md : Nat) (a5 a6 : List Nat) (k : Nat) : Nat := if k = 5 then x else if k = 6 then md else if k < 21 then a5.getD (k - 17) 0 else a6.getD (k - 21) 0
def z_pl0 (b x md : Nat) (a5 a6 : List Nat) (pb : Nat → Nat → Nat) : zP := fun k _ i => if k = 34 then b else if z_rt k = 2 then pb k i else z_px x md a5 a6 k
def z_ps (n k : Nat) : Nat := if k = 5 then 0 else 1 + (n + (if k = 6 then 4 else if k < 21 then k - 17 else k - 16))
theorem z_rwL0 {n : Nat} {f : Nat → Int64} (h : ∀ j, f j = 0) : z_rw n 0 f = fun _ => 0 := by
  funext j
  unfold z_rw
  by_cases hj : j < n
  · rw [if_pos hj, h]
  · rw [if_neg hj]
theorem z_rwN {n : Nat} {f : Nat → Option Nat} (h : ∀ j, f j = none) : z_rw n none f = fun _ => none := by
  funext j
  unfold z_rw
  by_cases hj : j < n
  · rw [if_pos hj, h]
  · rw [if_neg hj]
theorem z_row0 : (z_rw 891 0 fun j => z_I (z_g z_m0 1) 22 0 j) = upd (upd (fun _ => 0) 4 30) 5 1 := by
  funext j
  unfold z_rw upd
  by_cases h5 : j = 5
  · subst h5; decide
  · by_cases h4 : j = 4
    · subst h4; decide
    · rw [if_neg h5, if_neg h4]
      by_cases hj : j < 891
      · rw [if_pos hj]
        show (if 22 = 22 ∧ j = 4 then (30 : Int32) else if 22 = 22 ∧ j = 5 then 1 else 0) = 0
        rw [if_neg fun q => h4 q.2, if_neg fun q => h5 q.2]
      · rw [if_neg hj]
section E
variable {tc : Nat → ClassId} {b x md : Nat} {ws : va_W} {pb : Nat → Nat → Nat} {a5 a6 : List Nat}
theorem z_w56 : z_w5 tc x ws pb a5 ++ z_w6 tc md a6 = (x, .inr (5, [.ref (pb 0 0), .null, .ref (a5.getD 0 0), .ref (a5.getD 1 0), .ref (a5.getD 2 0), .int 0, .int 0, .int 0, .int 0, .int 0, .int 0, .int 0, .ref (a5.getD 3 0)])) :: (ws ++ ([(a5.getD 0 0, .inl (tc 3, 2, .inr (.inr (.inr (.inr fun _ => none))))), (a5.getD 1 0, .inl (tc 3, 8, .inr (.inr (.inr (.inr fun _ => none))))), (a5.getD 2 0, .inl (tc 0, 8, .inl fun _ => 0)), (a5.getD 3 0, .inl (tc 0, 12, .inl fun _ => 0))] ++ z_w6 tc md a6)) := by
  unfold z_w5
  simp
theorem zE_5 : (z_w5 tc x ws pb a5 ++ z_w6 tc md a6)[z_ps ws.length 5]? = some (z_px x md a5 a6 5, z_cell tc (z_pl0 b x md a5 a6 pb) z_m0 5 0 0) := rfl
theorem zE_6 : (z_w5 tc x ws pb a5 ++ z_w6 tc md a6)[z_ps ws.length 6]? = some (z_px x md a5 a6 6, z_cell tc (z_pl0 b x md a5 a6 pb) z_m0 6 1 0) := by
  rw [z_w56, show z_ps ws.length 6 = (ws.length + 4) + 1 from Nat.add_comm _ _, List.getElem?_cons_succ, List.getElem?_append_right (Nat.le_add_right _ _), Nat.add_sub_cancel_left]
  rfl
theorem zE_17 : (z_w5 tc x ws pb a5 ++ z_w6 tc md a6)[z_ps ws.length 17]? = some (z_px x md a5 a6 17, z_cell tc (z_pl0 b x md a5 a6 pb) z_m0 17 0 0) := by
  rw [z_w56, show z_ps ws.length 17 = ws.length + 1 from Nat.add_comm _ _, List.getElem?_cons_succ, List.getElem?_append_right (Nat.le_refl _), Nat.sub_self]
  rw [show z_cell tc (z_pl0 b x md a5 a6 pb) z_m0 17 0 0 = .inl (tc 3, 2, .inr (.inr (.inr (.inr (z_rw 2 none fun j => (z_d z_m0 (1 + j)).map fun q => z_pl0 b x md a5 a6 pb 0 q 0))))) from rfl, z_rwN (f := fun j => (z_d z_m0 (1 + j)).map fun q => z_pl0 b x md a5 a6 pb 0 q 0) (fun j => rfl)]
  rfl
theorem zE_18 : (z_w5 tc x ws pb a5 ++ z_w6 tc md a6)[z_ps ws.length 18]? = some (z_px x md a5 a6 18, z_cell tc (z_pl0 b x md a5 a6 pb) z_m0 18 0 0) := by
  rw [z_w56, show z_ps ws.length 18 = (ws.length + 1) + 1 from Nat.add_comm _ _, List.getElem?_cons_succ, List.getElem?_append_right (Nat.le_add_right _ _), Nat.add_sub_cancel_left]
  rw [show z_cell tc (z_pl0 b x md a5 a6 pb) z_m0 18 0 0 = .inl (tc 3, 8, .inr (.inr (.inr (.inr (z_rw 8 none fun j => (z_d z_m0 (3 + j)).map fun q => z_pl0 b x md a5 a6 pb 0 q 0))))) from rfl, z_rwN (f := fun j => (z_d z_m0 (3 + j)).map fun q => z_pl0 b x md a5 a6 pb 0 q 0) (fun j => rfl)]
  rfl
theorem zE_19 : (z_w5 tc x ws pb a5 ++ z_w6 tc md a6)[z_ps ws.length 19]? = some (z_px x md a5 a6 19, z_cell tc (z_pl0 b x md a5 a6 pb) z_m0 19 0 0) := by
  rw [z_w56, show z_ps ws.length 19 = (ws.length + 2) + 1 from Nat.add_comm _ _, List.getElem?_cons_succ, List.getElem?_append_right (Nat.le_add_right _ _), Nat.add_sub_cancel_left]
  rw [show z_cell tc (z_pl0 b x md a5 a6 pb) z_m0 19 0 0 = .inl (tc 0, 8, .inl (z_rw 8 0 fun j => z_I (z_g z_m0 0) 19 0 j)) from rfl, z_rw_0 (f := fun j => z_I (z_g z_m0 0) 19 0 j) (fun j => rfl)]
  rfl
theorem zE_20 : (z_w5 tc x ws pb a5 ++ z_w6 tc md a6)[z_ps ws.length 20]? = some (z_px x md a5 a6 20, z_cell tc (z_pl0 b x md a5 a6 pb) z_m0 20 0 0) := by
  rw [z_w56, show z_ps ws.length 20 = (ws.length + 3) + 1 from Nat.add_comm _ _, List.getElem?_cons_succ, List.getElem?_append_right (Nat.le_add_right _ _), Nat.add_sub_cancel_left]
  rw [show z_cell tc (z_pl0 b x md a5 a6 pb) z_m0 20 0 0 = .inl (tc 0, 12, .inl (z_rw 12 0 fun j => z_I (z_g z_m0 0) 20 0 j)) from rfl, z_rw_0 (f := fun j => z_I (z_g z_m0 0) 20 0 j) (fun j => rfl)]
  rfl
theorem zE_21 : (z_w5 tc x ws pb a5 ++ z_w6 tc md a6)[z_ps ws.length 21]? = some (z_px x md a5 a6 21, z_cell tc (z_pl0 b x md a5 a6 pb) z_m0 21 1 0) := by
  rw [z_w56, show z_ps ws.length 21 = (ws.length + 5) + 1 from Nat.add_comm _ _, List.getElem?_cons_succ, List.getElem?_append_right (Nat.le_add_right _ _), Nat.add_sub_cancel_left]
  rw [show z_cell tc (z_pl0 b x md a5 a6 pb) z_m0 21 1 0 = .inl (tc 0, 6, .inl (z_rw 6 0 fun j => z_I (z_g z_m0 1) 21 0 j)) from rfl, z_rw_0 (f := fun j => z_I (z_g z_m0 1) 21 0 j) (fun j => rfl)]
  rfl
theorem zE_22 : (z_w5 tc x ws pb a5 ++ z_w6 tc md a6)[z_ps ws.length 22]? = some (z_px x md a5 a6 22, z_cell tc (z_pl0 b x md a5 a6 pb) z_m0 22 1 0) := by
  rw [z_w56, show z_ps ws.length 22 = (ws.length + 6) + 1 from Nat.add_comm _ _, List.getElem?_cons_succ, List.getElem?_append_right (Nat.le_add_right _ _), Nat.add_sub_cancel_left]
  rw [show z_cell tc (z_pl0 b x md a5 a6 pb) z_m0 22 1 0 = .inl (tc 0, 891, .inl (z_rw 891 0 fun j => z_I (z_g z_m0 1) 22 0 j)) from rfl, z_row0]
  rfl
theorem zE_23 : (z_w5 tc x ws pb a5 ++ z_w6 tc md a6)[z_ps ws.length 23]? = some (z_px x md a5 a6 23, z_cell tc (z_pl0 b x md a5 a6 pb) z_m0 23 1 0) := by
  rw [z_w56, show z_ps ws.length 23 = (ws.length + 7) + 1 from Nat.add_comm _ _, List.getElem?_cons_succ, List.getElem?_append_right (Nat.le_add_right _ _), Nat.add_sub_cancel_left]
  rw [show z_cell tc (z_pl0 b x md a5 a6 pb) z_m0 23 1 0 = .inl (tc 1, 88, .inr (.inl (z_rw 88 0 fun j => z_J (z_g z_m0 1) 23 0 j))) from rfl, z_rwL0 (f := fun j => z_J (z_g z_m0 1) 23 0 j) (fun j => rfl)]
  rfl
theorem zE_24 : (z_w5 tc x ws pb a5 ++ z_w6 tc md a6)[z_ps ws.length 24]? = some (z_px x md a5 a6 24, z_cell tc (z_pl0 b x md a5 a6 pb) z_m0 24 1 0) := by
  rw [z_w56, show z_ps ws.length 24 = (ws.length + 8) + 1 from Nat.add_comm _ _, List.getElem?_cons_succ, List.getElem?_append_right (Nat.le_add_right _ _), Nat.add_sub_cancel_left]
  rw [show z_cell tc (z_pl0 b x md a5 a6 pb) z_m0 24 1 0 = .inl (tc 0, 7128, .inl (z_rw 7128 0 fun j => z_I (z_g z_m0 1) 24 0 j)) from rfl, z_rw_0 (f := fun j => z_I (z_g z_m0 1) 24 0 j) (fun j => rfl)]
  rfl
theorem zE_25 : (z_w5 tc x ws pb a5 ++ z_w6 tc md a6)[z_ps ws.length 25]? = some (z_px x md a5 a6 25, z_cell tc (z_pl0 b x md a5 a6 pb) z_m0 25 1 0) := by
  rw [z_w56, show z_ps ws.length 25 = (ws.length + 9) + 1 from Nat.add_comm _ _, List.getElem?_cons_succ, List.getElem?_append_right (Nat.le_add_right _ _), Nat.add_sub_cancel_left]
  rw [show z_cell tc (z_pl0 b x md a5 a6 pb) z_m0 25 1 0 = .inl (tc 1, 704, .inr (.inl (z_rw 704 0 fun j => z_J (z_g z_m0 1) 25 0 j))) from rfl, z_rwL0 (f := fun j => z_J (z_g z_m0 1) 25 0 j) (fun j => rfl)]
  rfl
theorem zE_26 : (z_w5 tc x ws pb a5 ++ z_w6 tc md a6)[z_ps ws.length 26]? = some (z_px x md a5 a6 26, z_cell tc (z_pl0 b x md a5 a6 pb) z_m0 26 1 0) := by
  rw [z_w56, show z_ps ws.length 26 = (ws.length + 10) + 1 from Nat.add_comm _ _, List.getElem?_cons_succ, List.getElem?_append_right (Nat.le_add_right _ _), Nat.add_sub_cancel_left]
  rw [show z_cell tc (z_pl0 b x md a5 a6 pb) z_m0 26 1 0 = .inl (tc 0, 8, .inl (z_rw 8 0 fun j => z_I (z_g z_m0 1) 26 0 j)) from rfl, z_rw_0 (f := fun j => z_I (z_g z_m0 1) 26 0 j) (fun j => rfl)]
  rfl
theorem zE_27 : (z_w5 tc x ws pb a5 ++ z_w6 tc md a6)[z_ps ws.length 27]? = some (z_px x md a5 a6 27, z_cell tc (z_pl0 b x md a5 a6 pb) z_m0 27 1 0) := by
  rw [z_w56, show z_ps ws.length 27 = (ws.length + 11) + 1 from Nat.add_comm _ _, List.getElem?_cons_succ, List.getElem?_append_right (Nat.le_add_right _ _), Nat.add_sub_cancel_left]
  rw [show z_cell tc (z_pl0 b x md a5 a6 pb) z_m0 27 1 0 = .inl (tc 0, 1782, .inl (z_rw 1782 0 fun j => z_I (z_g z_m0 1) 27 0 j)) from rfl, z_rw_0 (f := fun j => z_I (z_g z_m0 1) 27 0 j) (fun j => rfl)]
  rfl
theorem zE_28 : (z_w5 tc x ws pb a5 ++ z_w6 tc md a6)[z_ps ws.length 28]? = some (z_px x md a5 a6 28, z_cell tc (z_pl0 b x md a5 a6 pb) z_m0 28 1 0) := by
  rw [z_w56, show z_ps ws.length 28 = (ws.length + 12) + 1 from Nat.add_comm _ _, List.getElem?_cons_succ, List.getElem?_append_right (Nat.le_add_right _ _), Nat.add_sub_cancel_left]
  rw [show z_cell tc (z_pl0 b x md a5 a6 pb) z_m0 28 1 0 = .inl (tc 1, 176, .inr (.inl (z_rw 176 0 fun j => z_J (z_g z_m0 1) 28 0 j))) from rfl, z_rwL0 (f := fun j => z_J (z_g z_m0 1) 28 0 j) (fun j => rfl)]
  rfl
theorem zE_29 : (z_w5 tc x ws pb a5 ++ z_w6 tc md a6)[z_ps ws.length 29]? = some (z_px x md a5 a6 29, z_cell tc (z_pl0 b x md a5 a6 pb) z_m0 29 1 0) := by
  rw [z_w56, show z_ps ws.length 29 = (ws.length + 13) + 1 from Nat.add_comm _ _, List.getElem?_cons_succ, List.getElem?_append_right (Nat.le_add_right _ _), Nat.add_sub_cancel_left]
  rw [show z_cell tc (z_pl0 b x md a5 a6 pb) z_m0 29 1 0 = .inl (tc 2, 2, .inl (z_rw 2 0 fun j => z_I (z_g z_m0 1) 29 0 j)) from rfl, z_rw_0 (f := fun j => z_I (z_g z_m0 1) 29 0 j) (fun j => rfl)]
  rfl
theorem zE_30 : (z_w5 tc x ws pb a5 ++ z_w6 tc md a6)[z_ps ws.length 30]? = some (z_px x md a5 a6 30, z_cell tc (z_pl0 b x md a5 a6 pb) z_m0 30 1 0) := by
  rw [z_w56, show z_ps ws.length 30 = (ws.length + 14) + 1 from Nat.add_comm _ _, List.getElem?_cons_succ, List.getElem?_append_right (Nat.le_add_right _ _), Nat.add_sub_cancel_left]
  rw [show z_cell tc (z_pl0 b x md a5 a6 pb) z_m0 30 1 0 = .inl (tc 0, 891, .inl (z_rw 891 0 fun j => z_I (z_g z_m0 1) 30 0 j)) from rfl, z_rw_0 (f := fun j => z_I (z_g z_m0 1) 30 0 j) (fun j => rfl)]
  rfl
theorem zE_31 : (z_w5 tc x ws pb a5 ++ z_w6 tc md a6)[z_ps ws.length 31]? = some (z_px x md a5 a6 31, z_cell tc (z_pl0 b x md a5 a6 pb) z_m0 31 1 0) := by
  rw [z_w56, show z_ps ws.length 31 = (ws.length + 15) + 1 from Nat.add_comm _ _, List.getElem?_cons_succ, List.getElem?_append_right (Nat.le_add_right _ _), Nat.add_sub_cancel_left]
  rw [show z_cell tc (z_pl0 b x md a5 a6 pb) z_m0 31 1 0 = .inl (tc 1, 88, .inr (.inl (z_rw 88 0 fun j => z_J (z_g z_m0 1) 31 0 j))) from rfl, z_rwL0 (f := fun j => z_J (z_g z_m0 1) 31 0 j) (fun j => rfl)]
  rfl
theorem zE_32 : (z_w5 tc x ws pb a5 ++ z_w6 tc md a6)[z_ps ws.length 32]? = some (z_px x md a5 a6 32, z_cell tc (z_pl0 b x md a5 a6 pb) z_m0 32 1 0) := by
  rw [z_w56, show z_ps ws.length 32 = (ws.length + 16) + 1 from Nat.add_comm _ _, List.getElem?_cons_succ, List.getElem?_append_right (Nat.le_add_right _ _), Nat.add_sub_cancel_left]
  rw [show z_cell tc (z_pl0 b x md a5 a6 pb) z_m0 32 1 0 = .inl (tc 0, 4, .inl (z_rw 4 0 fun j => z_I (z_g z_m0 1) 32 0 j)) from rfl, z_rw_0 (f := fun j => z_I (z_g z_m0 1) 32 0 j) (fun j => rfl)]
  rfl
theorem zE_33 : (z_w5 tc x ws pb a5 ++ z_w6 tc md a6)[z_ps ws.length 33]? = some (z_px x md a5 a6 33, z_cell tc (z_pl0 b x md a5 a6 pb) z_m0 33 1 0) := by
  rw [z_w56, show z_ps ws.length 33 = (ws.length + 17) + 1 from Nat.add_comm _ _, List.getElem?_cons_succ, List.getElem?_append_right (Nat.le_add_right _ _), Nat.add_sub_cancel_left]
  rw [show z_cell tc (z_pl0 b x md a5 a6 pb) z_m0 33 1 0 = .inl (tc 0, 12, .inl (z_rw 12 0 fun j => z_I (z_g z_m0 1) 33 0 j)) from rfl, z_rw_0 (f := fun j => z_I (z_g z_m0 1) 33 0 j) (fun j => rfl)]
  rfl
theorem zE_all : ∀ k, k < 34 → z_rt k ≠ 2 → (k = 5 ∨ k = 6 ∨ (17 ≤ k ∧ k ≤ 33)) ∧ (z_w5 tc x ws pb a5 ++ z_w6 tc md a6)[z_ps ws.length k]? = some (z_px x md a5 a6 k, z_cell tc (z_pl0 b x md a5 a6 pb) z_m0 k (z_rt k) 0)
  | 0, _, h => absurd rfl h
  | 1, _, h => absurd rfl h
  | 2, _, h => absurd rfl h
  | 3, _, h => absurd rfl h
  | 4, _, h => absurd rfl h
  | 5, _, _ => ⟨Or.inl rfl, zE_5⟩
  | 6, _, _ => ⟨Or.inr (Or.inl rfl), zE_6⟩
  | 7, _, h => absurd rfl h
  | 8, _, h => absurd rfl h
  | 9, _, h => absurd rfl h
  | 10, _, h => absurd rfl h
  | 11, _, h => absurd rfl h
  | 12, _, h => absurd rfl h
  | 13, _, h => absurd rfl h
  | 14, _, h => absurd rfl h
  | 15, _, h => absurd rfl h
  | 16, _, h => absurd rfl h
  | 17, _, _ => ⟨Or.inr (Or.inr ⟨by decide, by decide⟩), zE_17⟩
  | 18, _, _ => ⟨Or.inr (Or.inr ⟨by decide, by decide⟩), zE_18⟩
  | 19, _, _ => ⟨Or.inr (Or.inr ⟨by decide, by decide⟩), zE_19⟩
  | 20, _, _ => ⟨Or.inr (Or.inr ⟨by decide, by decide⟩), zE_20⟩
  | 21, _, _ => ⟨Or.inr (Or.inr ⟨by decide, by decide⟩), zE_21⟩
  | 22, _, _ => ⟨Or.inr (Or.inr ⟨by decide, by decide⟩), zE_22⟩
  | 23, _, _ => ⟨Or.inr (Or.inr ⟨by decide, by decide⟩), zE_23⟩
  | 24, _, _ => ⟨Or.inr (Or.inr ⟨by decide, by decide⟩), zE_24⟩
  | 25, _, _ => ⟨Or.inr (Or.inr ⟨by decide, by decide⟩), zE_25⟩
  | 26, _, _ => ⟨Or.inr (Or.inr ⟨by decide, by decide⟩), zE_26⟩
  | 27, _, _ => ⟨Or.inr (Or.inr ⟨by decide, by decide⟩), zE_27⟩
  | 28, _, _ => ⟨Or.inr (Or.inr ⟨by decide, by decide⟩), zE_28⟩
  | 29, _, _ => ⟨Or.inr (Or.inr ⟨by decide, by decide⟩), zE_29⟩
  | 30, _, _ => ⟨Or.inr (Or.inr ⟨by decide, by decide⟩), zE_30⟩
  | 31, _, _ => ⟨Or.inr (Or.inr ⟨by decide, by decide⟩), zE_31⟩
  | 32, _, _ => ⟨Or.inr (Or.inr ⟨by decide, by decide⟩), zE_32⟩
  | 33, _, _ => ⟨Or.inr (Or.inr ⟨by decide, by decide⟩), zE_33⟩
  | n + 34, h, _ => absurd h (by omega)
theorem z_R0 {A : Nat → Prop} (hD : va_D A (z_w5 tc x ws pb a5 ++ z_w6 tc md a6)) (hV : z_IV (z_bq 4 6 5 40) (z_bc 4 6 5 40 tc) ws pb) : ∃ (L : List Nat) (F : Nat → va_E), z_w5 tc x ws pb a5 ++ z_w6 tc md a6 = va_pl L F ∧ z_R tc L F (z_pl0 b x md a5 a6 pb) z_m0 := by
  obtain ⟨F, hF1, hF2⟩ := z_asPl hD
  have hp1 : ∀ k i, z_rt k = 2 → z_pl0 b x md a5 a6 pb k 2 i = pb k i := fun k i h => by
    unfold z_pl0
    rw [if_neg (fun q => by subst q; cases h), if_pos h]
  have hp2 : ∀ k r i, k < 34 → z_rt k ≠ 2 → z_pl0 b x md a5 a6 pb k r i = z_px x md a5 a6 k := fun k r i hk h => by
    unfold z_pl0
    rw [if_neg (by omega), if_neg h]
  have hb : ∀ k i, z_rt k = 2 → i < z_cnt k → ∃ u, u < ws.length ∧ (z_w5 tc x ws pb a5 ++ z_w6 tc md a6)[u + 1]? = some (pb k i, z_cell tc (z_pl0 b x md a5 a6 pb) z_m0 k 2 i) := fun k i h hi => by
    have h1 := hV.1 k i (by rw [z_bq_cnt k (z_cnt_lt hi) h]; exact hi)
    rw [z_bc_cell (M := z_m0) (nb := 2) (pl := z_pl0 b x md a5 a6 pb) rfl hp1 k h hi] at h1
    obtain ⟨u, hu⟩ := List.getElem?_of_mem h1
    have hl := (List.getElem?_eq_some_iff.mp hu).1
    exact ⟨u, hl, by rw [z_w56, List.getElem?_cons_succ, List.getElem?_append_left hl]; exact hu⟩
  have hv3 : ∀ k r i, z_va 3 k r i → (z_rt k = 2 ∧ r = 2) ∨ (z_rt k ≠ 2 ∧ i = 0 ∧ r = z_rt k) := fun k r i hv => by
    have hk := z_cnt_lt hv.1
    rcases hv.2 with q | q | q
    · have : ∀ k, k < 34 → z_rt k ≠ 2 → z_cnt k = 1 := by decide
      have := this k hk (by omega)
      have := hv.1
      exact Or.inr ⟨by omega, by omega, by omega⟩
    · have : ∀ k, k < 34 → z_rt k ≠ 2 → z_cnt k = 1 := by decide
      have := this k hk (by omega)
      have := hv.1
      exact Or.inr ⟨by omega, by omega, by omega⟩
    · exact Or.inl ⟨q.1, by omega⟩
  have hat : ∀ k r i, z_va 3 k r i → ∃ u, (z_w5 tc x ws pb a5 ++ z_w6 tc md a6)[u]? = some (z_pl0 b x md a5 a6 pb k r i, z_cell tc (z_pl0 b x md a5 a6 pb) z_m0 k r i) ∧ ((z_rt k = 2 ∧ 1 ≤ u ∧ u ≤ ws.length) ∨ (z_rt k ≠ 2 ∧ u = z_ps ws.length k)) := fun k r i hv => by
    have hk := z_cnt_lt hv.1
    rcases hv3 k r i hv with ⟨h1, rfl⟩ | ⟨h1, rfl, rfl⟩
    · obtain ⟨u, h2, h3⟩ := hb k i h1 hv.1
      exact ⟨u + 1, by rw [hp1 k i h1]; exact h3, Or.inl ⟨h1, by omega, by omega⟩⟩
    · exact ⟨z_ps ws.length k, by rw [hp2 k _ _ hk h1]; exact (zE_all k hk h1).2, Or.inr ⟨h1, rfl⟩⟩
  refine ⟨_, F, hF1, fun k r i hv => ?_, fun k r i k' r' i' hv hv' he => ?_, fun j q h => (by cases h), by decide⟩
  · obtain ⟨u, h1, -⟩ := hat k r i hv
    have h2 := List.mem_of_getElem? h1
    exact ⟨List.mem_map.mpr ⟨_, h2, rfl⟩, hF2 _ _ h2⟩
  · obtain ⟨u, h1, h2⟩ := hat k r i hv
    obtain ⟨u', h1', h2'⟩ := hat k' r' i' hv'
    have hu := hD.1 _ _ _ _ h1 h1' he
    have hk := z_cnt_lt hv.1
    have hk' := z_cnt_lt hv'.1
    rcases h2 with ⟨g, g1, g2⟩ | ⟨g, g1⟩
    · rcases h2' with ⟨g', g1', g2'⟩ | ⟨g', g1'⟩
      · obtain ⟨-, rfl⟩ := (hv3 k r i hv).resolve_right (fun q => q.1 g)
        obtain ⟨-, rfl⟩ := (hv3 k' r' i' hv').resolve_right (fun q => q.1 g')
        rw [hp1 k i g, hp1 k' i' g'] at he
        obtain ⟨e1, e2⟩ := hV.2 _ _ _ _ (by rw [z_bq_cnt k hk g]; exact hv.1) (by rw [z_bq_cnt k' hk' g']; exact hv'.1) he
        exact ⟨e1, rfl, e2⟩
      · exfalso
        subst hu; subst g1'
        unfold z_ps at g1 g2
        by_cases e5 : k' = 5
        · rw [if_pos e5] at g1; omega
        · rw [if_neg e5] at g2; omega
    · rcases h2' with ⟨g', g1', g2'⟩ | ⟨g', g1'⟩
      · exfalso
        subst hu; subst g1
        unfold z_ps at g1' g2'
        by_cases e5 : k = 5
        · rw [if_pos e5] at g1'; omega
        · rw [if_neg e5] at g2'; omega
      · obtain ⟨-, e1, e2⟩ := (hv3 k r i hv).resolve_left (fun q => g q.1)
        obtain ⟨-, e1', e2'⟩ := (hv3 k' r' i' hv').resolve_left (fun q => g' q.1)
        have c1 := (zE_all (tc := tc) (b := b) (x := x) (md := md) (ws := ws) (pb := pb) (a5 := a5) (a6 := a6) k hk g).1
        have c2 := (zE_all (tc := tc) (b := b) (x := x) (md := md) (ws := ws) (pb := pb) (a5 := a5) (a6 := a6) k' hk' g').1
        have hkk : k = k' := by
          rw [g1, g1'] at hu
          unfold z_ps at hu
          split at hu <;> split at hu <;> (try split at hu) <;> (try split at hu) <;> (try split at hu) <;> (try split at hu) <;> omega
        subst hkk
        exact ⟨rfl, e2.trans e2'.symm, e1.trans e1'.symm⟩
end E
theorem z_wk_goodL5 : GoodIn z_tbl (z_wk 5 1) := by
  intro w hw
  rcases List.mem_cons.mp hw with rfl | q
  · exact ⟨z_wc _ (List.mem_of_getElem? (i := 38) rfl), z_tbl_good _ (z_wc _ (List.mem_of_getElem? (i := 38) rfl))⟩
  · exact ⟨q, z_tbl_good _ q⟩
theorem z_wk_goodL6 : GoodIn z_tbl (z_wk 6 1) := by
  intro w hw
  rcases List.mem_cons.mp hw with rfl | q
  · exact ⟨z_wc _ (List.mem_of_getElem? (i := 39) rfl), z_tbl_good _ (z_wc _ (List.mem_of_getElem? (i := 39) rfl))⟩
  · exact ⟨q, z_tbl_good _ q⟩
set_option maxHeartbeats 8000000 in
set_option maxRecDepth 100000 in
theorem whole_start (hlaw : z_Law) {p : Program} {e : Env} {s : State} {m : MethodId} {below : List Frame} {meth : Method} {c : Code} (l : Launch) {b L : Nat} {xs : Nat → Int32} (hL : L ≤ 3584) (C0 : lw_At p s m meth c b L xs) : W p l e room_1 s m #[Value.ref b] below meth c s.heap [] 0 0 (lw_Z below #[Value.ref b] s) (entryFrame m ([Value.ref b] : List Value).toArray 4) := by
  obtain ⟨hx, hb, hr, hml, hown, hts0, hX, hbl, hlocks, hgv⟩ := id C0
  have hts : ∀ w ∈ z_tbl, w.before #[Value.ref b] s = true := fun w hw => hts0 w (z_tbl_in hw)
  obtain ⟨D, tc, hK⟩ := z_K0 hts0
  have hZ := z_Z0 hts0
  generalize hAe : (fun q : Nat => s.heap.size ≤ q) = A
  have hA : ∀ q : Nat, s.heap.size ≤ q → A q := fun q h => by rw [← hAe]; exact h
  have hA' : ∀ q : Nat, A q → s.heap.size ≤ q := fun q h => by rw [← hAe] at h; exact h
  have hbA : ¬ A b := fun h => Nat.not_le.mpr hbl (hA' b h)
  have hS : va_S A s.heap s.heap [] := va_S.rf
  have hP : va_P D z_cl [] s.heap := fun k q h => by simp at h
  have hD : va_D A [] := ⟨fun i j p q h => by simp at h, fun k q h => by simp at h⟩
  have hl := lv_entry ([.ref b]) (n := 4) (Nat.le_of_ble_eq_true rfl)
  rw [lg_entry_eq]
  generalize (lg_sl ([.ref b]) ++ List.replicate (4 - (lg_sl ([.ref b])).length) Slot.unset).toArray = ls at hl ⊢
  have hl : lv_has ls 4 [(0, .ref b)] := hl
  refine va_new (ci := 5) (fs := z_df 5) (C := z_cn 5) (T := z_T5) (N := 13) hx hb hts z_in5 z_Y5 z_ty5 hown (hts _ (z_wc _ (List.mem_of_getElem? (i := 14) rfl))) (hts _ (z_wc _ (List.mem_of_getElem? (i := 21) rfl))) (hts _ (z_ini (c := 5) (by decide))) hK hP hD hS hA rfl (z_df_ok (k := 5)) (Nat.le_of_ble_eq_true rfl) (Nat.le_of_ble_eq_true rfl) (show decode code 0 = .ok (.new 7, 3) by decide +kernel) (fun x H1 hP1 hD1 hS1 => ?_)
  refine lv_dup hx hb (show decode code 3 = .ok (.dup, 1) by decide +kernel) rfl ?_
  have hFA : ∀ q', z_Ak x H1.size q' → A q' := fun q' h => h.elim (fun g => by rw [g]; exact hD1.2 0 _ rfl) (fun g => hA q' (Nat.le_trans hS1.1 g))
  refine va_callv (va_runI (Ts := z_tbl) (As := []) (rest := [.ref x]) (b := x) ⟨hx, hb, hml, hown, hts⟩ (k_5 l D tc x H1.size) (cwI 0 hts z_wk_goodL5 rfl rfl rfl (hts _ (z_ini (c := 5) (by decide))) (hts _ (z_wc _ (List.mem_of_getElem? (i := 41) rfl))) (hts _ (z_wc _ (List.mem_of_getElem? (i := 31) rfl))) rfl (by decide +kernel) ⟨Nat.le_of_ble_eq_true rfl, Nat.le_of_ble_eq_true rfl⟩) ⟨fun a U g mk q => ⟨q.1, q.2.1, q.2.2.1, va_K.moved (u := U) (U := U.calling g mk a) (Vm.Alike.refl U.vm) q.2.2.2.1, z_Zs.same (s := U) (U := U.calling g mk a) rfl q.2.2.2.2⟩, fun U hU hW => ⟨rfl, by rw [hU], by rw [hU]; exact hP1, va_K.moved hW.alike hK, hZ.warm hW⟩⟩ rfl rfl hl.1 rfl (lv_room (Nat.le_of_ble_eq_true rfl)) (show decode code 4 = .ok (.invokespecial 9, 3) by decide +kernel) ⟨Nat.le_of_ble_eq_true rfl, Nat.le_of_ble_eq_true rfl⟩) hS1 (fun q' _ h => hFA q' h) hFA (fun u9 t H2 locs2 ht hvm hpost hB hz hk hS2 => ?_)
  obtain ⟨ws, pb, a5⟩ := u9
  obtain ⟨ha5, hV⟩ := hpost
  obtain ⟨hP2, hD2⟩ := hB
  dsimp only at ha5 hV hP2 hD2
  rw [ht] at hP2
  have hD2 : va_D A (z_w5 tc x ws pb a5) := hD2.weaken fun _ _ _ g => hFA _ g
  refine lv_astore_n (lv' := [(1, .ref x), (0, .ref b)]) hx hb (show decode code 7 = .ok (.astore_n 1, 1) by decide +kernel) rfl hl (by decide) rfl (fun ls hl => ?_)
  refine va_new (ci := 6) (fs := z_df 6) (C := z_cn 6) (T := z_T6) (N := 18) hx hb hts z_in6 z_Y6 z_ty6 hown (hts _ (z_wc _ (List.mem_of_getElem? (i := 15) rfl))) (hts _ (z_wc _ (List.mem_of_getElem? (i := 22) rfl))) (hts _ (z_ini (c := 6) (by decide))) hK hP2 hD2 hS2 hA rfl (z_df_ok (k := 6)) (Nat.le_of_ble_eq_true rfl) (Nat.le_of_ble_eq_true rfl) (show decode code 8 = .ok (.new 10, 3) by decide +kernel) (fun md H3 hP3 hD3 hS3 => ?_)
  refine lv_dup hx hb (show decode code 11 = .ok (.dup, 1) by decide +kernel) rfl ?_
  generalize hw5 : z_w5 tc x ws pb a5 = w5 at hP2 hD2 hP3 hD3
  have hPc : va_P D z_cl [(md, .inr (6, z_df 6))] H3 := fun u x hx => hP3 (w5.length + u) x (by rw [List.getElem?_append_right (by omega), Nat.add_sub_cancel_left]; exact hx)
  have hqA : A md := hD3.2 w5.length (md, .inr (6, z_df 6)) (by rw [List.getElem?_append_right (Nat.le_refl _), Nat.sub_self]; rfl)
  have hFA3 : ∀ q', z_Ak md H3.size q' → A q' := fun q' h => h.elim (fun g => by rw [g]; exact hqA) (fun g => hA q' (Nat.le_trans hS3.1 g))
  have hnw : ∀ (a : Nat) (x : va_E), (a, x) ∈ w5 → a < H3.size ∧ ¬ z_Ak md H3.size a := fun a x hax => by
    obtain ⟨u, hu⟩ := List.getElem?_of_mem hax
    have hul := (List.getElem?_eq_some_iff.mp hu).1
    have hu1 : (w5 ++ [(md, .inr (6, z_df 6))])[u]? = some (a, x) := by rw [List.getElem?_append_left hul]; exact hu
    have hlt := (hP3 u _ hu1).lt
    refine ⟨hlt, fun g => ?_⟩
    rcases g with g | g
    · have := hD3.1 u w5.length _ (md, .inr (6, z_df 6)) hu1 (by rw [List.getElem?_append_right (Nat.le_refl _), Nat.sub_self]; rfl) g
      omega
    · exact absurd hlt (Nat.not_lt.mpr g)
  refine va_callv (va_runI (Ts := z_tbl) (As := []) (rest := [.ref md]) (b := md) ⟨hx, hb, hml, hown, hts⟩ (k_6 l D tc md H3.size) (cwI 0 hts z_wk_goodL6 rfl rfl rfl (hts _ (z_ini (c := 6) (by decide))) (hts _ (z_wc _ (List.mem_of_getElem? (i := 42) rfl))) (hts _ (z_wc _ (List.mem_of_getElem? (i := 32) rfl))) rfl (by decide +kernel) ⟨Nat.le_of_ble_eq_true rfl, Nat.le_of_ble_eq_true rfl⟩) ⟨fun a U g mk q => ⟨q.1, q.2.1, q.2.2.1, va_K.moved (u := U) (U := U.calling g mk a) (Vm.Alike.refl U.vm) q.2.2.2.1, z_Zs.same (s := U) (U := U.calling g mk a) rfl q.2.2.2.2⟩, fun U hU hW => ⟨rfl, by rw [hU], by rw [hU]; exact hPc, va_K.moved hW.alike hK, hZ.warm hW⟩⟩ rfl rfl hl.1 rfl (lv_room (Nat.le_of_ble_eq_true rfl)) (show decode code 12 = .ok (.invokespecial 12, 3) by decide +kernel) ⟨Nat.le_of_ble_eq_true rfl, Nat.le_of_ble_eq_true rfl⟩) hS3 (fun q' _ h => hFA3 q' h) hFA3 (fun a6 t4 H4 locs4 ht4 hvm4 ha6 hB4 hz4 hk4 hS4 => ?_)
  obtain ⟨hP4, hD4⟩ := hB4
  rw [ht4] at hP4
  have hPw : va_P D z_cl w5 H3 := fun u x hx => hP3 u x (by rw [List.getElem?_append_left (List.getElem?_eq_some_iff.mp hx).1]; exact hx)
  have hP5 : va_P D z_cl (w5 ++ z_w6 tc md a6) H4 := (hPw.kept (fun u x hx => hk4 _ (hnw x.1 x.2 (List.mem_of_getElem? hx)).1 (hnw x.1 x.2 (List.mem_of_getElem? hx)).2)).app hP4
  have hD5 : va_D A (w5 ++ z_w6 tc md a6) := va_D.app hD2 (hD4.weaken fun _ _ _ g => hFA3 _ g) (fun u v x y hx hy he => by
    have h1 := (hnw x.1 x.2 (List.mem_of_getElem? hx)).2
    rw [he] at h1
    exact h1 (hD4.2 v y hy))
  subst hw5
  obtain ⟨Lw, Fw, hLF, hR⟩ := z_R0 (b := b) hD5 hV
  rw [hLF] at hP5 hD5
  refine lv_astore_n (lv' := [(2, .ref md), (1, .ref x), (0, .ref b)]) hx hb (show decode code 15 = .ok (.astore_n 2, 1) by decide +kernel) rfl hl (by decide) rfl (fun ls hl => ?_)
  refine lv_iconst (v := 0) hx hb (show decode code 16 = .ok (.iconst 0, 1) by decide +kernel) (by decide) ?_
  refine lv_istore_n (lv' := [(3, .int 0), (2, .ref md), (1, .ref x), (0, .ref b)]) hx hb (show decode code 17 = .ok (.istore_n 3, 1) by decide +kernel) rfl hl (by decide) rfl (fun ls hl => ?_)
  have cx : z_Cx p room_1 s m #[Value.ref b] c 7 4 code D tc A 1100 9 142 12995 := ⟨hx, hb, hml, hown, hts, hK, hA, Nat.le_refl _, Nat.le_refl _, Nat.le_of_ble_eq_true rfl, Nat.le_of_ble_eq_true rfl⟩
  have hrt : z_Hr p l e room_1 s m #[Value.ref b] below meth c (lw_Z below #[Value.ref b] s) D tc A 3 (z_pl0 b x md a5 a6 pb) (some (L, xs)) 1100 142 12995 (z_mR 0) code (fun r _ => r = some (zi 1)) := by
    intro r m9 u H locs pl la pc hq hu hH hrk hvr hdec
    subst hq
    obtain ⟨_, hS9, _⟩ := hH
    refine W.widen (k := 600000) (n := 7302250) (by omega) (by omega) ?_
    exact va_forget (fun q hq => hA' _ (hS9.2.2 q hq)) (lw_ret hx hb hr hlocks hdec)
  have hF := z_wp_snd (e := e) (j := 0) (below := below) (meth := meth) cx hZ (fun q hq => by cases hq; exact ⟨hX, hbl, hbA⟩) (z_call_snd l D tc 9) (z_hn cx hZ) hrt (zh_all (j := 0) (by decide)) (hlaw L xs hL)
  refine hF (Nat.zero_le _) H4 locs4 (z_pl0 b x md a5 a6 pb) ls ⟨⟨Lw, Fw, hP5, hD5, hR⟩, hS4, ⟨Nat.le_refl _, fun _ _ _ _ => rfl, rfl⟩⟩ ⟨hl.1, hl.2.1, rfl, fun n v hv => ?_⟩ (fun n v hv => ?_) (fun v q => absurd q List.not_mem_nil)
  · match n, hv with
    | 0, hv => cases hv; exact lv_at hl 3 rfl
    | 1, hv => cases hv; exact lv_at hl 2 rfl
    | 2, hv => cases hv; exact lv_at hl 1 rfl
    | 3, hv => cases hv; exact lv_at hl 0 rfl
    | n + 4, hv => cases hv
  · match n, hv with
    | 0, hv => cases hv; exact Or.inr rfl
    | 1, hv => cases hv; exact Or.inl ⟨by decide, Or.inl ⟨rfl, rfl⟩⟩
    | 2, hv => cases hv; exact Or.inl ⟨by decide, Or.inr (Or.inl ⟨rfl, rfl⟩)⟩
    | 3, hv => cases hv; trivial
    | n + 4, hv => cases hv
end Sg
