/-! ===== CONSTRUCTORS: words, the small ones ===== -/
section Ct
def z_wcl : List Cond := [.methodLink "BondStores$Book" 3 objectInit, .methodLink "BondStores$Guarantor" 1 objectInit, .methodLink "BondStores$Store" 3 objectInit, .methodLink "BondStores$Kind" 3 objectInit, .methodLink "BondStores$Load" 3 objectInit, .methodLink "BondStores" 1 objectInit, .methodLink "BondStoresModel" 1 objectInit, .instanceMethod objectInit, .code objectInit ⟨#[0xb1]⟩ 1 none, .classLink "BondStores$Book" 18 "BondStores$Guarantor", .classLink "BondStores$Book" 24 "BondStores$Store", .classLink "BondStores$Book" 30 "BondStores$Kind", .classLink "BondStores$Book" 36 "BondStores$Load", .classLink "BondStores" 7 "BondStores$Book", .classLink "BondStoresLaw" 7 "BondStores", .classLink "BondStoresLaw" 10 "BondStoresModel", .instantiable "BondStores$Book" 12, .instantiable "BondStores$Guarantor" 5, .instantiable "BondStores$Kind" 5, .instantiable "BondStores$Load" 16, .instantiable "BondStores$Store" 3, .instantiable "BondStores" 13, .instantiable "BondStoresModel" 18, .arrayClass .int, .arrayClass .long, .arrayClass .boolean, .instanceMethod ⟨"BondStores$Book", "<init>", "()V"⟩, .instanceMethod ⟨"BondStores$Guarantor", "<init>", "()V"⟩, .instanceMethod ⟨"BondStores$Kind", "<init>", "()V"⟩, .instanceMethod ⟨"BondStores$Load", "<init>", "()V"⟩, .instanceMethod ⟨"BondStores$Store", "<init>", "()V"⟩, .instanceMethod ⟨"BondStores", "<init>", "()V"⟩, .instanceMethod ⟨"BondStoresModel", "<init>", "()V"⟩, .code ⟨"BondStores$Book", "<init>", "()V"⟩ prog_2_method_1_code 2 none, .code ⟨"BondStores$Guarantor", "<init>", "()V"⟩ prog_3_method_1_code 1 none, .code ⟨"BondStores$Kind", "<init>", "()V"⟩ prog_4_method_1_code 1 none, .code ⟨"BondStores$Load", "<init>", "()V"⟩ prog_5_method_1_code 1 none, .code ⟨"BondStores$Store", "<init>", "()V"⟩ prog_6_method_1_code 1 none, .code ⟨"BondStores", "<init>", "()V"⟩ prog_1_method_1_code 1 none, .code ⟨"BondStoresModel", "<init>", "()V"⟩ prog_8_method_1_code 1 none, .methodLink "BondStores" 9 ⟨"BondStores$Book", "<init>", "()V"⟩, .methodLink "BondStoresLaw" 9 ⟨"BondStores", "<init>", "()V"⟩, .methodLink "BondStoresLaw" 12 ⟨"BondStoresModel", "<init>", "()V"⟩]
theorem z_wc_e : z_wcl = ([93, 106, 135, 156, 180, 85, 899, 86, 87, 94, 96, 98, 100, 88, 80, 894, 89, 102, 152, 176, 131, 81, 895, 130, 955, 956, 91, 104, 154, 178, 133, 83, 897, 92, 105, 155, 179, 134, 84, 898, 90, 82, 896] : List Nat).filterMap fun i => lw_tbl[i]? := by decide +kernel
theorem z_wc : ∀ w ∈ z_wcl, w ∈ z_tbl := z_pick z_wc_e (by decide +kernel)
def z_kn (k : Nat) : MethodName := ⟨z_cn k, "<init>", "()V"⟩
def z_kb (k : Nat) : ByteArray := match k with
  | 0 => prog_2_method_1_code
  | 1 => prog_3_method_1_code
  | 2 => prog_4_method_1_code
  | 3 => prog_5_method_1_code
  | 4 => prog_6_method_1_code
  | 5 => prog_1_method_1_code
  | _ => prog_8_method_1_code
def z_wk (k ml : Nat) : List Cond := Cond.code (z_kn k) (z_kb k) ml none :: z_tbl
def z_df (k : Nat) : List Value := (List.range (z_nf k)).map fun f => defaultValue (z_YY k f)
def z_Ak (h0 sz : Nat) : Nat → Prop := fun q => q = h0 ∨ sz ≤ q
def z_kP (D : va_G) (tc : Nat → ClassId) (k h0 sz : Nat) : Array Value → State → Prop := fun v U =>
  v = ([.ref h0] : List Value).toArray ∧ U.heap.size = sz ∧ va_P D z_cl [(h0, .inr (k, z_df k))] U.heap ∧ va_K D z_cl (z_tys tc) U ∧ z_Zs U
def z_kw (tc : Nat → ClassId) (k h0 : Nat) (as : List Nat) : va_W := match k with
  | 1 => [(h0, .inr (1, [.int 0, .int 0, .int 0, .long 0, .long 0]))]
  | 2 => [(h0, .inr (2, [.ref (as.getD 0 0), .ref (as.getD 1 0), .int 0, .int 0, .int 0])), (as.getD 0 0, .inl (tc 0, 13, .inl fun _ => 0)), (as.getD 1 0, .inl (tc 0, 13, .inl fun _ => 0))]
  | 3 => [(h0, .inr (3, [.int 0, .int 0, .int 0, .int 0, .int 0, .int 0, .int 0, .int 0, .int 0, .int 0, .int 0, .int 0, .int 0, .long 0, .long 0, .ref (as.getD 0 0)])), (as.getD 0 0, .inl (tc 0, 4, .inl fun _ => 0))]
  | _ => [(h0, .inr (4, [.ref (as.getD 0 0), .ref (as.getD 1 0), .int 0])), (as.getD 0 0, .inl (tc 0, 5, .inl fun _ => 0)), (as.getD 1 0, .inl (tc 0, 4, .inl fun _ => 0))]
theorem z_tcI {D : va_G} {tc : Nat → ClassId} {cA : ClassId} {s : State} (h : va_K D z_cl (z_tys tc ++ [(cA, .int)]) s) : cA = tc 0 := by
  have h1 : s.vm.findClass ("[" ++ FieldType.int.toString) = some (tc 0) := (h.2 0 (tc 0, .int) rfl).2
  have h2 : s.vm.findClass ("[" ++ FieldType.int.toString) = some cA := (h.2 8 (cA, .int) rfl).2
  exact Option.some.inj (h2.symm.trans h1)
theorem z_tcL {D : va_G} {tc : Nat → ClassId} {cA : ClassId} {s : State} (h : va_K D z_cl (z_tys tc ++ [(cA, .long)]) s) : cA = tc 1 := by
  have h1 : s.vm.findClass ("[" ++ FieldType.long.toString) = some (tc 1) := (h.2 1 (tc 1, .long) rfl).2
  have h2 : s.vm.findClass ("[" ++ FieldType.long.toString) = some cA := (h.2 8 (cA, .long) rfl).2
  exact Option.some.inj (h2.symm.trans h1)
theorem z_tcB {D : va_G} {tc : Nat → ClassId} {cA : ClassId} {s : State} (h : va_K D z_cl (z_tys tc ++ [(cA, .boolean)]) s) : cA = tc 2 := by
  have h1 : s.vm.findClass ("[" ++ FieldType.boolean.toString) = some (tc 2) := (h.2 2 (tc 2, .boolean) rfl).2
  have h2 : s.vm.findClass ("[" ++ FieldType.boolean.toString) = some cA := (h.2 8 (cA, .boolean) rfl).2
  exact Option.some.inj (h2.symm.trans h1)
theorem z_tcO {D : va_G} {tc : Nat → ClassId} {cA : ClassId} {s : State} (k : Nat) (hk : (z_tys tc)[k + 3]? = some (tc (k + 3), .object (z_cn k))) (h : va_K D z_cl (z_tys tc ++ [(cA, .object (z_cn k))]) s) : cA = tc (k + 3) := by
  obtain ⟨_, _, _, _, _, h1⟩ := (h.2 (k + 3) (tc (k + 3), .object (z_cn k)) (by rw [List.getElem?_append_left (by have := (List.getElem?_eq_some_iff.mp hk).1; exact this)]; exact hk)).2
  obtain ⟨_, _, _, _, _, h2⟩ := (h.2 8 (cA, .object (z_cn k)) rfl).2
  exact Option.some.inj (h2.symm.trans h1)
theorem z_D1 {A : Nat → Prop} {h0 : Nat} {e : va_E} (h : A h0) : va_D A [(h0, e)] := by
  have key : ∀ (k : Nat) (q : Nat × va_E), ([(h0, e)] : va_W)[k]? = some q → k = 0 ∧ q = (h0, e) := by
    intro k q hk
    cases k with
    | zero => cases hk; exact ⟨rfl, rfl⟩
    | succ n => simp at hk
  exact ⟨fun i j p q hp hq _ => (key i p hp).1.trans (key j q hq).1.symm, fun k q hk => by rw [(key k q hk).2]; exact h⟩
set_option maxHeartbeats 4000000 in
set_option maxRecDepth 100000 in
theorem k_1 (l : Launch) (D : va_G) (tc : Nat → ClassId) (h0 sz : Nat) : Met l (z_kn 1) (z_wk 1 1) ({ frames := 1, cells := 0, slots := 0, locals := 12 }) (z_kP D tc 1 h0 sz) (va_Qv (fun as : List Nat => as.length = 0) (fun as t => va_P D z_cl (z_kw tc 1 h0 as) t.heap ∧ va_D (z_Ak h0 sz) (z_kw tc 1 h0 as)) (z_Ak h0 sz)) 0 0 (z_Ak h0 sz) := by
  refine Met.ofW (cc := prog_3_method_1_code) (maxL := 1) (ret := none) (by decide) rfl ?_
  intro p e s m args below meth c s₁ B hml hv
  obtain ⟨rfl, hsz, hP, hK, hZ⟩ := hv
  have hx := B.exec
  have hb := B.bytes
  have hr := B.returns
  have hts := atoms_spec (ws := z_wk 1 1) B.pre
  have hTs : ∀ w ∈ z_tbl, w ∈ z_wk 1 1 := fun w hw => List.mem_cons_of_mem _ hw
  have hown : s.vm.findClass (z_cn 1) = some m.cls := findClass_of_methodNamed B.named
  have hlocks := B.notSynchronized
  have hin : meth.name = "<init>" := (name_of_methodNamed B.named B.method).1
  subst hsz
  have hD : va_D (z_Ak h0 s.heap.size) [(h0, .inr (1, z_df 1))] := z_D1 (Or.inl rfl)
  generalize hAe : z_Ak h0 s.heap.size = A at hD ⊢
  have hA : ∀ q : Nat, s.heap.size ≤ q → A q := fun q h => by rw [← hAe]; exact Or.inr h
  have hS : va_S A s.heap s.heap [] := va_S.rf
  have hl := lv_entry ([.ref h0]) (n := 1) (Nat.le_of_ble_eq_true rfl)
  rw [lg_entry_eq]
  generalize (lg_sl ([.ref h0]) ++ List.replicate (1 - (lg_sl ([.ref h0])).length) Slot.unset).toArray = ls at hl ⊢
  have hl : lv_has ls 1 [(0, .ref h0)] := hl
  have hP : va_P D z_cl [(h0, .inr (1, [.int 0, .int 0, .int 0, .long 0, .long 0]))] s.heap := hP
  have hD : va_D A [(h0, .inr (1, [.int 0, .int 0, .int 0, .long 0, .long 0]))] := hD
  refine lv_aload_n hx hb (show decode prog_3_method_1_code 0 = .ok (.aload_n 0, 1) by decide +kernel) rfl (lv_at hl 0 rfl) ?_
  refine W.objInit hx hb hown (hts _ (hTs _ (z_wc _ (List.mem_of_getElem? (i := 1) rfl)))) (hts _ (hTs _ (z_wc _ (List.mem_of_getElem? (i := 7) rfl)))) (hts _ (hTs _ (z_wc _ (List.mem_of_getElem? (i := 8) rfl)))) rfl (by rw [hml]; exact hl.1) rfl (show decode prog_3_method_1_code 1 = .ok (.invokespecial 1, 3) by decide +kernel) (Nat.le_of_ble_eq_true rfl) (Nat.le_of_ble_eq_true rfl) ?_
  refine W.eq (g2 := F0 m 4 ls []) rfl ?_
  exact W.vret hx hb hr (fun t ht hW => ⟨⟨[], rfl, rfl, by rw [ht]; exact hP, hD⟩, hS.F ht⟩) hS.2.2 (show decode prog_3_method_1_code 4 = .ok (.return_, 1) by decide +kernel) hlocks
set_option maxHeartbeats 4000000 in
set_option maxRecDepth 100000 in
theorem k_2 (l : Launch) (D : va_G) (tc : Nat → ClassId) (h0 sz : Nat) : Met l (z_kn 2) (z_wk 2 1) ({ frames := 1, cells := 2, slots := 26, locals := 12 }) (z_kP D tc 2 h0 sz) (va_Qv (fun as : List Nat => as.length = 2) (fun as t => va_P D z_cl (z_kw tc 2 h0 as) t.heap ∧ va_D (z_Ak h0 sz) (z_kw tc 2 h0 as)) (z_Ak h0 sz)) 2 26 (z_Ak h0 sz) := by
  refine Met.ofW (cc := prog_4_method_1_code) (maxL := 1) (ret := none) (by decide) rfl ?_
  intro p e s m args below meth c s₁ B hml hv
  obtain ⟨rfl, hsz, hP, hK, hZ⟩ := hv
  have hx := B.exec
  have hb := B.bytes
  have hr := B.returns
  have hts := atoms_spec (ws := z_wk 2 1) B.pre
  have hTs : ∀ w ∈ z_tbl, w ∈ z_wk 2 1 := fun w hw => List.mem_cons_of_mem _ hw
  have hown : s.vm.findClass (z_cn 2) = some m.cls := findClass_of_methodNamed B.named
  have hlocks := B.notSynchronized
  have hin : meth.name = "<init>" := (name_of_methodNamed B.named B.method).1
  subst hsz
  have hD : va_D (z_Ak h0 s.heap.size) [(h0, .inr (2, z_df 2))] := z_D1 (Or.inl rfl)
  generalize hAe : z_Ak h0 s.heap.size = A at hD ⊢
  have hA : ∀ q : Nat, s.heap.size ≤ q → A q := fun q h => by rw [← hAe]; exact Or.inr h
  have hS : va_S A s.heap s.heap [] := va_S.rf
  have hl := lv_entry ([.ref h0]) (n := 1) (Nat.le_of_ble_eq_true rfl)
  rw [lg_entry_eq]
  generalize (lg_sl ([.ref h0]) ++ List.replicate (1 - (lg_sl ([.ref h0])).length) Slot.unset).toArray = ls at hl ⊢
  have hl : lv_has ls 1 [(0, .ref h0)] := hl
  have hP : va_P D z_cl [(h0, .inr (2, [.null, .null, .int 0, .int 0, .int 0]))] s.heap := hP
  have hD : va_D A [(h0, .inr (2, [.null, .null, .int 0, .int 0, .int 0]))] := hD
  refine lv_aload_n hx hb (show decode prog_4_method_1_code 0 = .ok (.aload_n 0, 1) by decide +kernel) rfl (lv_at hl 0 rfl) ?_
  refine W.objInit hx hb hown (hts _ (hTs _ (z_wc _ (List.mem_of_getElem? (i := 3) rfl)))) (hts _ (hTs _ (z_wc _ (List.mem_of_getElem? (i := 7) rfl)))) (hts _ (hTs _ (z_wc _ (List.mem_of_getElem? (i := 8) rfl)))) rfl (by rw [hml]; exact hl.1) rfl (show decode prog_4_method_1_code 1 = .ok (.invokespecial 3, 3) by decide +kernel) (Nat.le_of_ble_eq_true rfl) (Nat.le_of_ble_eq_true rfl) ?_
  refine W.eq (g2 := F0 m 4 ls []) rfl ?_
  refine lv_aload_n hx hb (show decode prog_4_method_1_code 4 = .ok (.aload_n 0, 1) by decide +kernel) rfl (lv_at hl 0 rfl) ?_
  refine lv_bipush (v := 13) hx hb (show decode prog_4_method_1_code 5 = .ok (.bipush 13, 2) by decide +kernel) (by decide) ?_
  refine va_newa (atype := .int) (ty := .int) (a0 := (13, .inl fun _ => 0)) (N' := 13) hx hb (hts _ (hTs _ (z_wc _ (List.mem_of_getElem? (i := 23) rfl)))) rfl hK hP hD hS hA (fun cA => rfl) (by decide) (by decide +kernel) (by decide) (Nat.le_of_ble_eq_true rfl) (Nat.le_of_ble_eq_true rfl) (show decode prog_4_method_1_code 7 = .ok (.newarray .int, 2) by decide +kernel) (fun q1 cA H hK9 hP hD hS => ?_)
  obtain rfl := z_tcI hK9
  have hP : va_P D z_cl [(h0, .inr (2, [.null, .null, .int 0, .int 0, .int 0])), (q1, .inl (tc 0, 13, .inl fun _ => 0))] H := hP
  have hD : va_D A [(h0, .inr (2, [.null, .null, .int 0, .int 0, .int 0])), (q1, .inl (tc 0, 13, .inl fun _ => 0))] := hD
  refine va_putF (D := D) (ci := 2) (v := .ref q1) (ty := z_Y2 0) (C := z_cn 2) (T := z_T2) (N := 5) hx hb hts (fun w hw => hTs _ (z_in2 w hw)) z_Y2 z_ty2 z_nm2 hown hK hP hD hS 0 rfl rfl 0 (by decide) (hts _ (hTs _ (z_FL_ok (own := 2) (n := 9) (a := 2) (b := 0) (by decide +kernel)).1)) (fun _ h9 => h9) rfl hin rfl (z_ty2 0 (by decide)) rfl rfl (Nat.le_of_ble_eq_true rfl) (show decode prog_4_method_1_code 9 = .ok (.putfield 9, 3) by decide +kernel) (fun H locs hP hD hS => ?_)
  have hP : va_P D z_cl [(h0, .inr (2, [.ref q1, .null, .int 0, .int 0, .int 0])), (q1, .inl (tc 0, 13, .inl fun _ => 0))] H := hP
  have hD : va_D A [(h0, .inr (2, [.ref q1, .null, .int 0, .int 0, .int 0])), (q1, .inl (tc 0, 13, .inl fun _ => 0))] := hD
  refine lv_aload_n hx hb (show decode prog_4_method_1_code 12 = .ok (.aload_n 0, 1) by decide +kernel) rfl (lv_at hl 0 rfl) ?_
  refine lv_bipush (v := 13) hx hb (show decode prog_4_method_1_code 13 = .ok (.bipush 13, 2) by decide +kernel) (by decide) ?_
  refine va_newa (atype := .int) (ty := .int) (a0 := (13, .inl fun _ => 0)) (N' := 13) hx hb (hts _ (hTs _ (z_wc _ (List.mem_of_getElem? (i := 23) rfl)))) rfl hK hP hD hS hA (fun cA => rfl) (by decide) (by decide +kernel) (by decide) (Nat.le_of_ble_eq_true rfl) (Nat.le_of_ble_eq_true rfl) (show decode prog_4_method_1_code 15 = .ok (.newarray .int, 2) by decide +kernel) (fun q2 cA H hK9 hP hD hS => ?_)
  obtain rfl := z_tcI hK9
  have hP : va_P D z_cl [(h0, .inr (2, [.ref q1, .null, .int 0, .int 0, .int 0])), (q1, .inl (tc 0, 13, .inl fun _ => 0)), (q2, .inl (tc 0, 13, .inl fun _ => 0))] H := hP
  have hD : va_D A [(h0, .inr (2, [.ref q1, .null, .int 0, .int 0, .int 0])), (q1, .inl (tc 0, 13, .inl fun _ => 0)), (q2, .inl (tc 0, 13, .inl fun _ => 0))] := hD
  refine va_putF (D := D) (ci := 2) (v := .ref q2) (ty := z_Y2 1) (C := z_cn 2) (T := z_T2) (N := 5) hx hb hts (fun w hw => hTs _ (z_in2 w hw)) z_Y2 z_ty2 z_nm2 hown hK hP hD hS 0 rfl rfl 1 (by decide) (hts _ (hTs _ (z_FL_ok (own := 2) (n := 15) (a := 2) (b := 1) (by decide +kernel)).1)) (fun _ h9 => h9) rfl hin rfl (z_ty2 1 (by decide)) rfl rfl (Nat.le_of_ble_eq_true rfl) (show decode prog_4_method_1_code 17 = .ok (.putfield 15, 3) by decide +kernel) (fun H locs hP hD hS => ?_)
  have hP : va_P D z_cl [(h0, .inr (2, [.ref q1, .ref q2, .int 0, .int 0, .int 0])), (q1, .inl (tc 0, 13, .inl fun _ => 0)), (q2, .inl (tc 0, 13, .inl fun _ => 0))] H := hP
  have hD : va_D A [(h0, .inr (2, [.ref q1, .ref q2, .int 0, .int 0, .int 0])), (q1, .inl (tc 0, 13, .inl fun _ => 0)), (q2, .inl (tc 0, 13, .inl fun _ => 0))] := hD
  exact W.vret hx hb hr (fun t ht hW => ⟨⟨[q1, q2], rfl, rfl, by rw [ht]; exact hP, hD⟩, hS.F ht⟩) hS.2.2 (show decode prog_4_method_1_code 20 = .ok (.return_, 1) by decide +kernel) hlocks
set_option maxHeartbeats 4000000 in
set_option maxRecDepth 100000 in
theorem k_3 (l : Launch) (D : va_G) (tc : Nat → ClassId) (h0 sz : Nat) : Met l (z_kn 3) (z_wk 3 1) ({ frames := 1, cells := 1, slots := 4, locals := 12 }) (z_kP D tc 3 h0 sz) (va_Qv (fun as : List Nat => as.length = 1) (fun as t => va_P D z_cl (z_kw tc 3 h0 as) t.heap ∧ va_D (z_Ak h0 sz) (z_kw tc 3 h0 as)) (z_Ak h0 sz)) 1 4 (z_Ak h0 sz) := by
  refine Met.ofW (cc := prog_5_method_1_code) (maxL := 1) (ret := none) (by decide) rfl ?_
  intro p e s m args below meth c s₁ B hml hv
  obtain ⟨rfl, hsz, hP, hK, hZ⟩ := hv
  have hx := B.exec
  have hb := B.bytes
  have hr := B.returns
  have hts := atoms_spec (ws := z_wk 3 1) B.pre
  have hTs : ∀ w ∈ z_tbl, w ∈ z_wk 3 1 := fun w hw => List.mem_cons_of_mem _ hw
  have hown : s.vm.findClass (z_cn 3) = some m.cls := findClass_of_methodNamed B.named
  have hlocks := B.notSynchronized
  have hin : meth.name = "<init>" := (name_of_methodNamed B.named B.method).1
  subst hsz
  have hD : va_D (z_Ak h0 s.heap.size) [(h0, .inr (3, z_df 3))] := z_D1 (Or.inl rfl)
  generalize hAe : z_Ak h0 s.heap.size = A at hD ⊢
  have hA : ∀ q : Nat, s.heap.size ≤ q → A q := fun q h => by rw [← hAe]; exact Or.inr h
  have hS : va_S A s.heap s.heap [] := va_S.rf
  have hl := lv_entry ([.ref h0]) (n := 1) (Nat.le_of_ble_eq_true rfl)
  rw [lg_entry_eq]
  generalize (lg_sl ([.ref h0]) ++ List.replicate (1 - (lg_sl ([.ref h0])).length) Slot.unset).toArray = ls at hl ⊢
  have hl : lv_has ls 1 [(0, .ref h0)] := hl
  have hP : va_P D z_cl [(h0, .inr (3, [.int 0, .int 0, .int 0, .int 0, .int 0, .int 0, .int 0, .int 0, .int 0, .int 0, .int 0, .int 0, .int 0, .long 0, .long 0, .null]))] s.heap := hP
  have hD : va_D A [(h0, .inr (3, [.int 0, .int 0, .int 0, .int 0, .int 0, .int 0, .int 0, .int 0, .int 0, .int 0, .int 0, .int 0, .int 0, .long 0, .long 0, .null]))] := hD
  refine lv_aload_n hx hb (show decode prog_5_method_1_code 0 = .ok (.aload_n 0, 1) by decide +kernel) rfl (lv_at hl 0 rfl) ?_
  refine W.objInit hx hb hown (hts _ (hTs _ (z_wc _ (List.mem_of_getElem? (i := 4) rfl)))) (hts _ (hTs _ (z_wc _ (List.mem_of_getElem? (i := 7) rfl)))) (hts _ (hTs _ (z_wc _ (List.mem_of_getElem? (i := 8) rfl)))) rfl (by rw [hml]; exact hl.1) rfl (show decode prog_5_method_1_code 1 = .ok (.invokespecial 3, 3) by decide +kernel) (Nat.le_of_ble_eq_true rfl) (Nat.le_of_ble_eq_true rfl) ?_
  refine W.eq (g2 := F0 m 4 ls []) rfl ?_
  refine lv_aload_n hx hb (show decode prog_5_method_1_code 4 = .ok (.aload_n 0, 1) by decide +kernel) rfl (lv_at hl 0 rfl) ?_
  refine lv_iconst (v := 4) hx hb (show decode prog_5_method_1_code 5 = .ok (.iconst 4, 1) by decide +kernel) (by decide) ?_
  refine va_newa (atype := .int) (ty := .int) (a0 := (4, .inl fun _ => 0)) (N' := 4) hx hb (hts _ (hTs _ (z_wc _ (List.mem_of_getElem? (i := 23) rfl)))) rfl hK hP hD hS hA (fun cA => rfl) (by decide) (by decide +kernel) (by decide) (Nat.le_of_ble_eq_true rfl) (Nat.le_of_ble_eq_true rfl) (show decode prog_5_method_1_code 6 = .ok (.newarray .int, 2) by decide +kernel) (fun q1 cA H hK9 hP hD hS => ?_)
  obtain rfl := z_tcI hK9
  have hP : va_P D z_cl [(h0, .inr (3, [.int 0, .int 0, .int 0, .int 0, .int 0, .int 0, .int 0, .int 0, .int 0, .int 0, .int 0, .int 0, .int 0, .long 0, .long 0, .null])), (q1, .inl (tc 0, 4, .inl fun _ => 0))] H := hP
  have hD : va_D A [(h0, .inr (3, [.int 0, .int 0, .int 0, .int 0, .int 0, .int 0, .int 0, .int 0, .int 0, .int 0, .int 0, .int 0, .int 0, .long 0, .long 0, .null])), (q1, .inl (tc 0, 4, .inl fun _ => 0))] := hD
  refine va_putF (D := D) (ci := 3) (v := .ref q1) (ty := z_Y3 15) (C := z_cn 3) (T := z_T3) (N := 16) hx hb hts (fun w hw => hTs _ (z_in3 w hw)) z_Y3 z_ty3 z_nm3 hown hK hP hD hS 0 rfl rfl 15 (by decide) (hts _ (hTs _ (z_FL_ok (own := 3) (n := 9) (a := 3) (b := 15) (by decide +kernel)).1)) (fun _ h9 => h9) rfl hin rfl (z_ty3 15 (by decide)) rfl rfl (Nat.le_of_ble_eq_true rfl) (show decode prog_5_method_1_code 8 = .ok (.putfield 9, 3) by decide +kernel) (fun H locs hP hD hS => ?_)
  have hP : va_P D z_cl [(h0, .inr (3, [.int 0, .int 0, .int 0, .int 0, .int 0, .int 0, .int 0, .int 0, .int 0, .int 0, .int 0, .int 0, .int 0, .long 0, .long 0, .ref q1])), (q1, .inl (tc 0, 4, .inl fun _ => 0))] H := hP
  have hD : va_D A [(h0, .inr (3, [.int 0, .int 0, .int 0, .int 0, .int 0, .int 0, .int 0, .int 0, .int 0, .int 0, .int 0, .int 0, .int 0, .long 0, .long 0, .ref q1])), (q1, .inl (tc 0, 4, .inl fun _ => 0))] := hD
  exact W.vret hx hb hr (fun t ht hW => ⟨⟨[q1], rfl, rfl, by rw [ht]; exact hP, hD⟩, hS.F ht⟩) hS.2.2 (show decode prog_5_method_1_code 11 = .ok (.return_, 1) by decide +kernel) hlocks
set_option maxHeartbeats 4000000 in
set_option maxRecDepth 100000 in
theorem k_4 (l : Launch) (D : va_G) (tc : Nat → ClassId) (h0 sz : Nat) : Met l (z_kn 4) (z_wk 4 1) ({ frames := 1, cells := 2, slots := 9, locals := 12 }) (z_kP D tc 4 h0 sz) (va_Qv (fun as : List Nat => as.length = 2) (fun as t => va_P D z_cl (z_kw tc 4 h0 as) t.heap ∧ va_D (z_Ak h0 sz) (z_kw tc 4 h0 as)) (z_Ak h0 sz)) 2 9 (z_Ak h0 sz) := by
  refine Met.ofW (cc := prog_6_method_1_code) (maxL := 1) (ret := none) (by decide) rfl ?_
  intro p e s m args below meth c s₁ B hml hv
  obtain ⟨rfl, hsz, hP, hK, hZ⟩ := hv
  have hx := B.exec
  have hb := B.bytes
  have hr := B.returns
  have hts := atoms_spec (ws := z_wk 4 1) B.pre
  have hTs : ∀ w ∈ z_tbl, w ∈ z_wk 4 1 := fun w hw => List.mem_cons_of_mem _ hw
  have hown : s.vm.findClass (z_cn 4) = some m.cls := findClass_of_methodNamed B.named
  have hlocks := B.notSynchronized
  have hin : meth.name = "<init>" := (name_of_methodNamed B.named B.method).1
  subst hsz
  have hD : va_D (z_Ak h0 s.heap.size) [(h0, .inr (4, z_df 4))] := z_D1 (Or.inl rfl)
  generalize hAe : z_Ak h0 s.heap.size = A at hD ⊢
  have hA : ∀ q : Nat, s.heap.size ≤ q → A q := fun q h => by rw [← hAe]; exact Or.inr h
  have hS : va_S A s.heap s.heap [] := va_S.rf
  have hl := lv_entry ([.ref h0]) (n := 1) (Nat.le_of_ble_eq_true rfl)
  rw [lg_entry_eq]
  generalize (lg_sl ([.ref h0]) ++ List.replicate (1 - (lg_sl ([.ref h0])).length) Slot.unset).toArray = ls at hl ⊢
  have hl : lv_has ls 1 [(0, .ref h0)] := hl
  have hP : va_P D z_cl [(h0, .inr (4, [.null, .null, .int 0]))] s.heap := hP
  have hD : va_D A [(h0, .inr (4, [.null, .null, .int 0]))] := hD
  refine lv_aload_n hx hb (show decode prog_6_method_1_code 0 = .ok (.aload_n 0, 1) by decide +kernel) rfl (lv_at hl 0 rfl) ?_
  refine W.objInit hx hb hown (hts _ (hTs _ (z_wc _ (List.mem_of_getElem? (i := 2) rfl)))) (hts _ (hTs _ (z_wc _ (List.mem_of_getElem? (i := 7) rfl)))) (hts _ (hTs _ (z_wc _ (List.mem_of_getElem? (i := 8) rfl)))) rfl (by rw [hml]; exact hl.1) rfl (show decode prog_6_method_1_code 1 = .ok (.invokespecial 3, 3) by decide +kernel) (Nat.le_of_ble_eq_true rfl) (Nat.le_of_ble_eq_true rfl) ?_
  refine W.eq (g2 := F0 m 4 ls []) rfl ?_
  refine lv_aload_n hx hb (show decode prog_6_method_1_code 4 = .ok (.aload_n 0, 1) by decide +kernel) rfl (lv_at hl 0 rfl) ?_
  refine lv_iconst (v := 5) hx hb (show decode prog_6_method_1_code 5 = .ok (.iconst 5, 1) by decide +kernel) (by decide) ?_
  refine va_newa (atype := .int) (ty := .int) (a0 := (5, .inl fun _ => 0)) (N' := 5) hx hb (hts _ (hTs _ (z_wc _ (List.mem_of_getElem? (i := 23) rfl)))) rfl hK hP hD hS hA (fun cA => rfl) (by decide) (by decide +kernel) (by decide) (Nat.le_of_ble_eq_true rfl) (Nat.le_of_ble_eq_true rfl) (show decode prog_6_method_1_code 6 = .ok (.newarray .int, 2) by decide +kernel) (fun q1 cA H hK9 hP hD hS => ?_)
  obtain rfl := z_tcI hK9
  have hP : va_P D z_cl [(h0, .inr (4, [.null, .null, .int 0])), (q1, .inl (tc 0, 5, .inl fun _ => 0))] H := hP
  have hD : va_D A [(h0, .inr (4, [.null, .null, .int 0])), (q1, .inl (tc 0, 5, .inl fun _ => 0))] := hD
  refine va_putF (D := D) (ci := 4) (v := .ref q1) (ty := z_Y4 0) (C := z_cn 4) (T := z_T4) (N := 3) hx hb hts (fun w hw => hTs _ (z_in4 w hw)) z_Y4 z_ty4 z_nm4 hown hK hP hD hS 0 rfl rfl 0 (by decide) (hts _ (hTs _ (z_FL_ok (own := 4) (n := 9) (a := 4) (b := 0) (by decide +kernel)).1)) (fun _ h9 => h9) rfl hin rfl (z_ty4 0 (by decide)) rfl rfl (Nat.le_of_ble_eq_true rfl) (show decode prog_6_method_1_code 8 = .ok (.putfield 9, 3) by decide +kernel) (fun H locs hP hD hS => ?_)
  have hP : va_P D z_cl [(h0, .inr (4, [.ref q1, .null, .int 0])), (q1, .inl (tc 0, 5, .inl fun _ => 0))] H := hP
  have hD : va_D A [(h0, .inr (4, [.ref q1, .null, .int 0])), (q1, .inl (tc 0, 5, .inl fun _ => 0))] := hD
  refine lv_aload_n hx hb (show decode prog_6_method_1_code 11 = .ok (.aload_n 0, 1) by decide +kernel) rfl (lv_at hl 0 rfl) ?_
  refine lv_iconst (v := 4) hx hb (show decode prog_6_method_1_code 12 = .ok (.iconst 4, 1) by decide +kernel) (by decide) ?_
  refine va_newa (atype := .int) (ty := .int) (a0 := (4, .inl fun _ => 0)) (N' := 4) hx hb (hts _ (hTs _ (z_wc _ (List.mem_of_getElem? (i := 23) rfl)))) rfl hK hP hD hS hA (fun cA => rfl) (by decide) (by decide +kernel) (by decide) (Nat.le_of_ble_eq_true rfl) (Nat.le_of_ble_eq_true rfl) (show decode prog_6_method_1_code 13 = .ok (.newarray .int, 2) by decide +kernel) (fun q2 cA H hK9 hP hD hS => ?_)
  obtain rfl := z_tcI hK9
  have hP : va_P D z_cl [(h0, .inr (4, [.ref q1, .null, .int 0])), (q1, .inl (tc 0, 5, .inl fun _ => 0)), (q2, .inl (tc 0, 4, .inl fun _ => 0))] H := hP
  have hD : va_D A [(h0, .inr (4, [.ref q1, .null, .int 0])), (q1, .inl (tc 0, 5, .inl fun _ => 0)), (q2, .inl (tc 0, 4, .inl fun _ => 0))] := hD
  refine va_putF (D := D) (ci := 4) (v := .ref q2) (ty := z_Y4 1) (C := z_cn 4) (T := z_T4) (N := 3) hx hb hts (fun w hw => hTs _ (z_in4 w hw)) z_Y4 z_ty4 z_nm4 hown hK hP hD hS 0 rfl rfl 1 (by decide) (hts _ (hTs _ (z_FL_ok (own := 4) (n := 15) (a := 4) (b := 1) (by decide +kernel)).1)) (fun _ h9 => h9) rfl hin rfl (z_ty4 1 (by decide)) rfl rfl (Nat.le_of_ble_eq_true rfl) (show decode prog_6_method_1_code 15 = .ok (.putfield 15, 3) by decide +kernel) (fun H locs hP hD hS => ?_)
  have hP : va_P D z_cl [(h0, .inr (4, [.ref q1, .ref q2, .int 0])), (q1, .inl (tc 0, 5, .inl fun _ => 0)), (q2, .inl (tc 0, 4, .inl fun _ => 0))] H := hP
  have hD : va_D A [(h0, .inr (4, [.ref q1, .ref q2, .int 0])), (q1, .inl (tc 0, 5, .inl fun _ => 0)), (q2, .inl (tc 0, 4, .inl fun _ => 0))] := hD
  exact W.vret hx hb hr (fun t ht hW => ⟨⟨[q1, q2], rfl, rfl, by rw [ht]; exact hP, hD⟩, hS.F ht⟩) hS.2.2 (show decode prog_6_method_1_code 18 = .ok (.return_, 1) by decide +kernel) hlocks
end Ct
