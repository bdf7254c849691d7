/-! ===== THE BOOK'S CONTRACT; the small machine's new Book ===== -/
section Ct3
theorem z_rfs0 {f : Nat → Nat} : z_rfs 0 f = fun _ => none := by
  funext j
  simp [z_rfs]
def z_pb0 (h0 q1 q2 q3 q4 q5 : Nat) : Nat → Nat → Nat := fun k _ => if k = 7 then q1 else if k = 8 then q2 else if k = 9 then q3 else if k = 10 then q4 else if k = 11 then q5 else h0
theorem z_IV0 {A : Nat → Prop} {tc : Nat → ClassId} {h0 q1 q2 q3 q4 q5 : Nat} (hD : va_D A [(h0, .inr (0, [.int 0, .int 30, .int 1, .int 0, .int 0, .int 0, .ref q1, .ref q2, .ref q3, .ref q4, .ref q5, .int 0])), (q1, .inl (tc 4, 4, .inr (.inr (.inr (.inr fun _ => none))))), (q2, .inl (tc 7, 6, .inr (.inr (.inr (.inr fun _ => none))))), (q3, .inl (tc 5, 5, .inr (.inr (.inr (.inr fun _ => none))))), (q4, .inl (tc 6, 40, .inr (.inr (.inr (.inr fun _ => none))))), (q5, .inl (tc 0, 40, .inl fun _ => 0))]) : z_IV (z_bq 0 0 0 0) (z_bc 0 0 0 0 tc) [(h0, .inr (0, [.int 0, .int 30, .int 1, .int 0, .int 0, .int 0, .ref q1, .ref q2, .ref q3, .ref q4, .ref q5, .int 0])), (q1, .inl (tc 4, 4, .inr (.inr (.inr (.inr fun _ => none))))), (q2, .inl (tc 7, 6, .inr (.inr (.inr (.inr fun _ => none))))), (q3, .inl (tc 5, 5, .inr (.inr (.inr (.inr fun _ => none))))), (q4, .inl (tc 6, 40, .inr (.inr (.inr (.inr fun _ => none))))), (q5, .inl (tc 0, 40, .inl fun _ => 0))] (z_pb0 h0 q1 q2 q3 q4 q5) := by
  have key : ∀ k i, i < z_bq 0 0 0 0 k → i = 0 ∧ (k = 0 ∨ (7 ≤ k ∧ k ≤ 11)) ∧ ([(h0, .inr (0, [.int 0, .int 30, .int 1, .int 0, .int 0, .int 0, .ref q1, .ref q2, .ref q3, .ref q4, .ref q5, .int 0])), (q1, .inl (tc 4, 4, .inr (.inr (.inr (.inr fun _ => none))))), (q2, .inl (tc 7, 6, .inr (.inr (.inr (.inr fun _ => none))))), (q3, .inl (tc 5, 5, .inr (.inr (.inr (.inr fun _ => none))))), (q4, .inl (tc 6, 40, .inr (.inr (.inr (.inr fun _ => none))))), (q5, .inl (tc 0, 40, .inl fun _ => 0))] : va_W)[if k = 0 then 0 else k - 6]? = some (z_pb0 h0 q1 q2 q3 q4 q5 k i, z_bc 0 0 0 0 tc (z_pb0 h0 q1 q2 q3 q4 q5) k i) := by
    intro k i hi
    match k, hi with
    | 0, hi => exact ⟨by have : z_bq 0 0 0 0 0 = 1 := rfl; omega, Or.inl rfl, rfl⟩
    | 1, hi => exact absurd hi (Nat.not_lt_zero _)
    | 2, hi => exact absurd hi (Nat.not_lt_zero _)
    | 3, hi => exact absurd hi (Nat.not_lt_zero _)
    | 4, hi => exact absurd hi (Nat.not_lt_zero _)
    | 5, hi => exact absurd hi (Nat.not_lt_zero _)
    | 6, hi => exact absurd hi (Nat.not_lt_zero _)
    | 7, hi => exact ⟨by have : z_bq 0 0 0 0 7 = 1 := rfl; omega, Or.inr (by omega), by simp only [z_bc, z_rfs0]; rfl⟩
    | 8, hi => exact ⟨by have : z_bq 0 0 0 0 8 = 1 := rfl; omega, Or.inr (by omega), by simp only [z_bc, z_rfs0]; rfl⟩
    | 9, hi => exact ⟨by have : z_bq 0 0 0 0 9 = 1 := rfl; omega, Or.inr (by omega), by simp only [z_bc, z_rfs0]; rfl⟩
    | 10, hi => exact ⟨by have : z_bq 0 0 0 0 10 = 1 := rfl; omega, Or.inr (by omega), by simp only [z_bc, z_rfs0]; rfl⟩
    | 11, hi => exact ⟨by have : z_bq 0 0 0 0 11 = 1 := rfl; omega, Or.inr (by omega), rfl⟩
    | 12, hi => exact absurd hi (Nat.not_lt_zero _)
    | 13, hi => exact absurd hi (Nat.not_lt_zero _)
    | 14, hi => exact absurd hi (Nat.not_lt_zero _)
    | 15, hi => exact absurd hi (Nat.not_lt_zero _)
    | 16, hi => exact absurd hi (Nat.not_lt_zero _)
    | n + 17, hi => exact absurd hi (Nat.not_lt_zero _)
  refine ⟨fun k i hi => List.mem_of_getElem? (key k i hi).2.2, fun k i k' i' hi hi' he => ?_⟩
  obtain ⟨h1, h2, h3⟩ := key k i hi
  obtain ⟨h1', h2', h3'⟩ := key k' i' hi'
  have h4 := hD.1 _ _ _ _ h3 h3' he
  refine ⟨?_, h1.trans h1'.symm⟩
  by_cases e : k = 0
  · by_cases e' : k' = 0
    · omega
    · rw [if_pos e, if_neg e'] at h4; omega
  · by_cases e' : k' = 0
    · rw [if_neg e, if_pos e'] at h4; omega
    · rw [if_neg e, if_neg e'] at h4; omega
set_option maxHeartbeats 8000000 in
set_option maxRecDepth 100000 in
theorem k_0 (l : Launch) (D : va_G) (tc : Nat → ClassId) (h0 sz : Nat) : Met l (z_kn 0) (z_wk 0 2) ({ frames := 2, cells := 122, slots := 1142, locals := 32 }) (z_kP D tc 0 h0 sz) (va_Qv (fun u : va_W × (Nat → Nat → Nat) => u.2 0 0 = h0 ∧ z_IV (z_bq 4 6 5 40) (z_bc 4 6 5 40 tc) u.1 u.2) (fun u t => va_P D z_cl u.1 t.heap ∧ va_D (z_Ak h0 sz) u.1) (z_Ak h0 sz)) 122 1142 (z_Ak h0 sz) := by
  refine Met.ofW (cc := prog_2_method_1_code) (maxL := 2) (ret := none) (by decide) rfl ?_
  intro p e s m args below meth c s₁ B hml hv
  obtain ⟨rfl, hsz, hP, hK, hZ⟩ := hv
  have hx := B.exec
  have hb := B.bytes
  have hr := B.returns
  have hts := atoms_spec (ws := z_wk 0 2) B.pre
  have hTs : ∀ w ∈ z_tbl, w ∈ z_wk 0 2 := fun w hw => List.mem_cons_of_mem _ hw
  have hown : s.vm.findClass (z_cn 0) = some m.cls := findClass_of_methodNamed B.named
  have hlocks := B.notSynchronized
  have hin : meth.name = "<init>" := (name_of_methodNamed B.named B.method).1
  subst hsz
  have hD : va_D (z_Ak h0 s.heap.size) [(h0, .inr (0, z_df 0))] := z_D1 (Or.inl rfl)
  generalize hAe : z_Ak h0 s.heap.size = A at hD ⊢
  have hA : ∀ q : Nat, s.heap.size ≤ q → A q := fun q h => by rw [← hAe]; exact Or.inr h
  have hS : va_S A s.heap s.heap [] := va_S.rf
  have hl := lv_entry ([.ref h0]) (n := 2) (Nat.le_of_ble_eq_true rfl)
  rw [lg_entry_eq]
  generalize (lg_sl ([.ref h0]) ++ List.replicate (2 - (lg_sl ([.ref h0])).length) Slot.unset).toArray = ls at hl ⊢
  have hl : lv_has ls 2 [(0, .ref h0)] := hl
  have hP : va_P D z_cl [(h0, .inr (0, [.int 0, .int 0, .int 0, .int 0, .int 0, .int 0, .null, .null, .null, .null, .null, .int 0]))] s.heap := hP
  have hD : va_D A [(h0, .inr (0, [.int 0, .int 0, .int 0, .int 0, .int 0, .int 0, .null, .null, .null, .null, .null, .int 0]))] := hD
  refine lv_aload_n hx hb (show decode prog_2_method_1_code 0 = .ok (.aload_n 0, 1) by decide +kernel) rfl (lv_at hl 0 rfl) ?_
  refine W.objInit hx hb hown (hts _ (hTs _ (z_wc _ (List.mem_of_getElem? (i := 0) rfl)))) (hts _ (hTs _ (z_wc _ (List.mem_of_getElem? (i := 7) rfl)))) (hts _ (hTs _ (z_wc _ (List.mem_of_getElem? (i := 8) rfl)))) rfl (by rw [hml]; exact hl.1) rfl (show decode prog_2_method_1_code 1 = .ok (.invokespecial 3, 3) by decide +kernel) (Nat.le_of_ble_eq_true rfl) (Nat.le_of_ble_eq_true rfl) ?_
  refine W.eq (g2 := F0 m 4 ls []) rfl ?_
  refine lv_aload_n hx hb (show decode prog_2_method_1_code 4 = .ok (.aload_n 0, 1) by decide +kernel) rfl (lv_at hl 0 rfl) ?_
  refine lv_bipush (v := 30) hx hb (show decode prog_2_method_1_code 5 = .ok (.bipush 30, 2) by decide +kernel) (by decide) ?_
  refine va_put (D := D) (ci := 0) (v := .int 30) (ty := z_Y0 1) (C := z_cn 0) (T := z_T0) (N := 12) hx hb hts (fun w hw => hTs _ (z_in0 w hw)) z_Y0 z_ty0 z_nm0 hown hK hP hD hS 0 rfl rfl 1 (by decide) (hts _ (hTs _ (z_FL_ok (own := 0) (n := 9) (a := 0) (b := 1) (by decide +kernel)).1)) (fun _ h9 => h9) rfl (z_ty0 1 (by decide)) rfl rfl (Nat.le_of_ble_eq_true rfl) (show decode prog_2_method_1_code 7 = .ok (.putfield 9, 3) by decide +kernel) (fun H locs hP hD hS => ?_)
  have hP : va_P D z_cl [(h0, .inr (0, [.int 0, .int 30, .int 0, .int 0, .int 0, .int 0, .null, .null, .null, .null, .null, .int 0]))] H := hP
  have hD : va_D A [(h0, .inr (0, [.int 0, .int 30, .int 0, .int 0, .int 0, .int 0, .null, .null, .null, .null, .null, .int 0]))] := hD
  refine lv_aload_n hx hb (show decode prog_2_method_1_code 10 = .ok (.aload_n 0, 1) by decide +kernel) rfl (lv_at hl 0 rfl) ?_
  refine lv_iconst (v := 1) hx hb (show decode prog_2_method_1_code 11 = .ok (.iconst 1, 1) by decide +kernel) (by decide) ?_
  refine va_put (D := D) (ci := 0) (v := .int 1) (ty := z_Y0 2) (C := z_cn 0) (T := z_T0) (N := 12) hx hb hts (fun w hw => hTs _ (z_in0 w hw)) z_Y0 z_ty0 z_nm0 hown hK hP hD hS 0 rfl rfl 2 (by decide) (hts _ (hTs _ (z_FL_ok (own := 0) (n := 15) (a := 0) (b := 2) (by decide +kernel)).1)) (fun _ h9 => h9) rfl (z_ty0 2 (by decide)) rfl rfl (Nat.le_of_ble_eq_true rfl) (show decode prog_2_method_1_code 12 = .ok (.putfield 15, 3) by decide +kernel) (fun H locs hP hD hS => ?_)
  have hP : va_P D z_cl [(h0, .inr (0, [.int 0, .int 30, .int 1, .int 0, .int 0, .int 0, .null, .null, .null, .null, .null, .int 0]))] H := hP
  have hD : va_D A [(h0, .inr (0, [.int 0, .int 30, .int 1, .int 0, .int 0, .int 0, .null, .null, .null, .null, .null, .int 0]))] := hD
  refine lv_aload_n hx hb (show decode prog_2_method_1_code 15 = .ok (.aload_n 0, 1) by decide +kernel) rfl (lv_at hl 0 rfl) ?_
  refine lv_iconst (v := 4) hx hb (show decode prog_2_method_1_code 16 = .ok (.iconst 4, 1) by decide +kernel) (by decide) ?_
  refine va_newq (C := z_cn 1) (N' := 4) hx hb hown (hts _ (hTs _ (z_wc _ (List.mem_of_getElem? (i := 9) rfl)))) (hZ.1 1 (by decide)) hK hP hD hS hA (by decide) (by decide +kernel) (by decide) (Nat.le_of_ble_eq_true rfl) (Nat.le_of_ble_eq_true rfl) (show decode prog_2_method_1_code 17 = .ok (.anewarray 18, 3) by decide +kernel) (fun q1 cA H hK9 hP hD hS => ?_)
  obtain rfl := z_tcO 1 rfl hK9
  have hP : va_P D z_cl [(h0, .inr (0, [.int 0, .int 30, .int 1, .int 0, .int 0, .int 0, .null, .null, .null, .null, .null, .int 0])), (q1, .inl (tc 4, 4, .inr (.inr (.inr (.inr fun _ => none)))))] H := hP
  have hD : va_D A [(h0, .inr (0, [.int 0, .int 30, .int 1, .int 0, .int 0, .int 0, .null, .null, .null, .null, .null, .int 0])), (q1, .inl (tc 4, 4, .inr (.inr (.inr (.inr fun _ => none)))))] := hD
  refine va_putF (D := D) (ci := 0) (v := .ref q1) (ty := z_Y0 6) (C := z_cn 0) (T := z_T0) (N := 12) hx hb hts (fun w hw => hTs _ (z_in0 w hw)) z_Y0 z_ty0 z_nm0 hown hK hP hD hS 0 rfl rfl 6 (by decide) (hts _ (hTs _ (z_FL_ok (own := 0) (n := 20) (a := 0) (b := 6) (by decide +kernel)).1)) (fun _ h9 => h9) rfl hin rfl (z_ty0 6 (by decide)) rfl rfl (Nat.le_of_ble_eq_true rfl) (show decode prog_2_method_1_code 20 = .ok (.putfield 20, 3) by decide +kernel) (fun H locs hP hD hS => ?_)
  have hP : va_P D z_cl [(h0, .inr (0, [.int 0, .int 30, .int 1, .int 0, .int 0, .int 0, .ref q1, .null, .null, .null, .null, .int 0])), (q1, .inl (tc 4, 4, .inr (.inr (.inr (.inr fun _ => none)))))] H := hP
  have hD : va_D A [(h0, .inr (0, [.int 0, .int 30, .int 1, .int 0, .int 0, .int 0, .ref q1, .null, .null, .null, .null, .int 0])), (q1, .inl (tc 4, 4, .inr (.inr (.inr (.inr fun _ => none)))))] := hD
  refine lv_aload_n hx hb (show decode prog_2_method_1_code 23 = .ok (.aload_n 0, 1) by decide +kernel) rfl (lv_at hl 0 rfl) ?_
  refine lv_bipush (v := 6) hx hb (show decode prog_2_method_1_code 24 = .ok (.bipush 6, 2) by decide +kernel) (by decide) ?_
  refine va_newq (C := z_cn 4) (N' := 6) hx hb hown (hts _ (hTs _ (z_wc _ (List.mem_of_getElem? (i := 10) rfl)))) (hZ.1 4 (by decide)) hK hP hD hS hA (by decide) (by decide +kernel) (by decide) (Nat.le_of_ble_eq_true rfl) (Nat.le_of_ble_eq_true rfl) (show decode prog_2_method_1_code 26 = .ok (.anewarray 24, 3) by decide +kernel) (fun q2 cA H hK9 hP hD hS => ?_)
  obtain rfl := z_tcO 4 rfl hK9
  have hP : va_P D z_cl [(h0, .inr (0, [.int 0, .int 30, .int 1, .int 0, .int 0, .int 0, .ref q1, .null, .null, .null, .null, .int 0])), (q1, .inl (tc 4, 4, .inr (.inr (.inr (.inr fun _ => none))))), (q2, .inl (tc 7, 6, .inr (.inr (.inr (.inr fun _ => none)))))] H := hP
  have hD : va_D A [(h0, .inr (0, [.int 0, .int 30, .int 1, .int 0, .int 0, .int 0, .ref q1, .null, .null, .null, .null, .int 0])), (q1, .inl (tc 4, 4, .inr (.inr (.inr (.inr fun _ => none))))), (q2, .inl (tc 7, 6, .inr (.inr (.inr (.inr fun _ => none)))))] := hD
  refine va_putF (D := D) (ci := 0) (v := .ref q2) (ty := z_Y0 7) (C := z_cn 0) (T := z_T0) (N := 12) hx hb hts (fun w hw => hTs _ (z_in0 w hw)) z_Y0 z_ty0 z_nm0 hown hK hP hD hS 0 rfl rfl 7 (by decide) (hts _ (hTs _ (z_FL_ok (own := 0) (n := 26) (a := 0) (b := 7) (by decide +kernel)).1)) (fun _ h9 => h9) rfl hin rfl (z_ty0 7 (by decide)) rfl rfl (Nat.le_of_ble_eq_true rfl) (show decode prog_2_method_1_code 29 = .ok (.putfield 26, 3) by decide +kernel) (fun H locs hP hD hS => ?_)
  have hP : va_P D z_cl [(h0, .inr (0, [.int 0, .int 30, .int 1, .int 0, .int 0, .int 0, .ref q1, .ref q2, .null, .null, .null, .int 0])), (q1, .inl (tc 4, 4, .inr (.inr (.inr (.inr fun _ => none))))), (q2, .inl (tc 7, 6, .inr (.inr (.inr (.inr fun _ => none)))))] H := hP
  have hD : va_D A [(h0, .inr (0, [.int 0, .int 30, .int 1, .int 0, .int 0, .int 0, .ref q1, .ref q2, .null, .null, .null, .int 0])), (q1, .inl (tc 4, 4, .inr (.inr (.inr (.inr fun _ => none))))), (q2, .inl (tc 7, 6, .inr (.inr (.inr (.inr fun _ => none)))))] := hD
  refine lv_aload_n hx hb (show decode prog_2_method_1_code 32 = .ok (.aload_n 0, 1) by decide +kernel) rfl (lv_at hl 0 rfl) ?_
  refine lv_iconst (v := 5) hx hb (show decode prog_2_method_1_code 33 = .ok (.iconst 5, 1) by decide +kernel) (by decide) ?_
  refine va_newq (C := z_cn 2) (N' := 5) hx hb hown (hts _ (hTs _ (z_wc _ (List.mem_of_getElem? (i := 11) rfl)))) (hZ.1 2 (by decide)) hK hP hD hS hA (by decide) (by decide +kernel) (by decide) (Nat.le_of_ble_eq_true rfl) (Nat.le_of_ble_eq_true rfl) (show decode prog_2_method_1_code 34 = .ok (.anewarray 30, 3) by decide +kernel) (fun q3 cA H hK9 hP hD hS => ?_)
  obtain rfl := z_tcO 2 rfl hK9
  have hP : va_P D z_cl [(h0, .inr (0, [.int 0, .int 30, .int 1, .int 0, .int 0, .int 0, .ref q1, .ref q2, .null, .null, .null, .int 0])), (q1, .inl (tc 4, 4, .inr (.inr (.inr (.inr fun _ => none))))), (q2, .inl (tc 7, 6, .inr (.inr (.inr (.inr fun _ => none))))), (q3, .inl (tc 5, 5, .inr (.inr (.inr (.inr fun _ => none)))))] H := hP
  have hD : va_D A [(h0, .inr (0, [.int 0, .int 30, .int 1, .int 0, .int 0, .int 0, .ref q1, .ref q2, .null, .null, .null, .int 0])), (q1, .inl (tc 4, 4, .inr (.inr (.inr (.inr fun _ => none))))), (q2, .inl (tc 7, 6, .inr (.inr (.inr (.inr fun _ => none))))), (q3, .inl (tc 5, 5, .inr (.inr (.inr (.inr fun _ => none)))))] := hD
  refine va_putF (D := D) (ci := 0) (v := .ref q3) (ty := z_Y0 8) (C := z_cn 0) (T := z_T0) (N := 12) hx hb hts (fun w hw => hTs _ (z_in0 w hw)) z_Y0 z_ty0 z_nm0 hown hK hP hD hS 0 rfl rfl 8 (by decide) (hts _ (hTs _ (z_FL_ok (own := 0) (n := 32) (a := 0) (b := 8) (by decide +kernel)).1)) (fun _ h9 => h9) rfl hin rfl (z_ty0 8 (by decide)) rfl rfl (Nat.le_of_ble_eq_true rfl) (show decode prog_2_method_1_code 37 = .ok (.putfield 32, 3) by decide +kernel) (fun H locs hP hD hS => ?_)
  have hP : va_P D z_cl [(h0, .inr (0, [.int 0, .int 30, .int 1, .int 0, .int 0, .int 0, .ref q1, .ref q2, .ref q3, .null, .null, .int 0])), (q1, .inl (tc 4, 4, .inr (.inr (.inr (.inr fun _ => none))))), (q2, .inl (tc 7, 6, .inr (.inr (.inr (.inr fun _ => none))))), (q3, .inl (tc 5, 5, .inr (.inr (.inr (.inr fun _ => none)))))] H := hP
  have hD : va_D A [(h0, .inr (0, [.int 0, .int 30, .int 1, .int 0, .int 0, .int 0, .ref q1, .ref q2, .ref q3, .null, .null, .int 0])), (q1, .inl (tc 4, 4, .inr (.inr (.inr (.inr fun _ => none))))), (q2, .inl (tc 7, 6, .inr (.inr (.inr (.inr fun _ => none))))), (q3, .inl (tc 5, 5, .inr (.inr (.inr (.inr fun _ => none)))))] := hD
  refine lv_aload_n hx hb (show decode prog_2_method_1_code 40 = .ok (.aload_n 0, 1) by decide +kernel) rfl (lv_at hl 0 rfl) ?_
  refine lv_bipush (v := 40) hx hb (show decode prog_2_method_1_code 41 = .ok (.bipush 40, 2) by decide +kernel) (by decide) ?_
  refine va_newq (C := z_cn 3) (N' := 40) hx hb hown (hts _ (hTs _ (z_wc _ (List.mem_of_getElem? (i := 12) rfl)))) (hZ.1 3 (by decide)) hK hP hD hS hA (by decide) (by decide +kernel) (by decide) (Nat.le_of_ble_eq_true rfl) (Nat.le_of_ble_eq_true rfl) (show decode prog_2_method_1_code 43 = .ok (.anewarray 36, 3) by decide +kernel) (fun q4 cA H hK9 hP hD hS => ?_)
  obtain rfl := z_tcO 3 rfl hK9
  have hP : va_P D z_cl [(h0, .inr (0, [.int 0, .int 30, .int 1, .int 0, .int 0, .int 0, .ref q1, .ref q2, .ref q3, .null, .null, .int 0])), (q1, .inl (tc 4, 4, .inr (.inr (.inr (.inr fun _ => none))))), (q2, .inl (tc 7, 6, .inr (.inr (.inr (.inr fun _ => none))))), (q3, .inl (tc 5, 5, .inr (.inr (.inr (.inr fun _ => none))))), (q4, .inl (tc 6, 40, .inr (.inr (.inr (.inr fun _ => none)))))] H := hP
  have hD : va_D A [(h0, .inr (0, [.int 0, .int 30, .int 1, .int 0, .int 0, .int 0, .ref q1, .ref q2, .ref q3, .null, .null, .int 0])), (q1, .inl (tc 4, 4, .inr (.inr (.inr (.inr fun _ => none))))), (q2, .inl (tc 7, 6, .inr (.inr (.inr (.inr fun _ => none))))), (q3, .inl (tc 5, 5, .inr (.inr (.inr (.inr fun _ => none))))), (q4, .inl (tc 6, 40, .inr (.inr (.inr (.inr fun _ => none)))))] := hD
  refine va_putF (D := D) (ci := 0) (v := .ref q4) (ty := z_Y0 9) (C := z_cn 0) (T := z_T0) (N := 12) hx hb hts (fun w hw => hTs _ (z_in0 w hw)) z_Y0 z_ty0 z_nm0 hown hK hP hD hS 0 rfl rfl 9 (by decide) (hts _ (hTs _ (z_FL_ok (own := 0) (n := 38) (a := 0) (b := 9) (by decide +kernel)).1)) (fun _ h9 => h9) rfl hin rfl (z_ty0 9 (by decide)) rfl rfl (Nat.le_of_ble_eq_true rfl) (show decode prog_2_method_1_code 46 = .ok (.putfield 38, 3) by decide +kernel) (fun H locs hP hD hS => ?_)
  have hP : va_P D z_cl [(h0, .inr (0, [.int 0, .int 30, .int 1, .int 0, .int 0, .int 0, .ref q1, .ref q2, .ref q3, .ref q4, .null, .int 0])), (q1, .inl (tc 4, 4, .inr (.inr (.inr (.inr fun _ => none))))), (q2, .inl (tc 7, 6, .inr (.inr (.inr (.inr fun _ => none))))), (q3, .inl (tc 5, 5, .inr (.inr (.inr (.inr fun _ => none))))), (q4, .inl (tc 6, 40, .inr (.inr (.inr (.inr fun _ => none)))))] H := hP
  have hD : va_D A [(h0, .inr (0, [.int 0, .int 30, .int 1, .int 0, .int 0, .int 0, .ref q1, .ref q2, .ref q3, .ref q4, .null, .int 0])), (q1, .inl (tc 4, 4, .inr (.inr (.inr (.inr fun _ => none))))), (q2, .inl (tc 7, 6, .inr (.inr (.inr (.inr fun _ => none))))), (q3, .inl (tc 5, 5, .inr (.inr (.inr (.inr fun _ => none))))), (q4, .inl (tc 6, 40, .inr (.inr (.inr (.inr fun _ => none)))))] := hD
  refine lv_aload_n hx hb (show decode prog_2_method_1_code 49 = .ok (.aload_n 0, 1) by decide +kernel) rfl (lv_at hl 0 rfl) ?_
  refine lv_bipush (v := 40) hx hb (show decode prog_2_method_1_code 50 = .ok (.bipush 40, 2) by decide +kernel) (by decide) ?_
  refine va_newa (atype := .int) (ty := .int) (a0 := (40, .inl fun _ => 0)) (N' := 40) hx hb (hts _ (hTs _ (z_wc _ (List.mem_of_getElem? (i := 23) rfl)))) rfl hK hP hD hS hA (fun cA => rfl) (by decide) (by decide +kernel) (by decide) (Nat.le_of_ble_eq_true rfl) (Nat.le_of_ble_eq_true rfl) (show decode prog_2_method_1_code 52 = .ok (.newarray .int, 2) by decide +kernel) (fun q5 cA H hK9 hP hD hS => ?_)
  obtain rfl := z_tcI hK9
  have hP : va_P D z_cl [(h0, .inr (0, [.int 0, .int 30, .int 1, .int 0, .int 0, .int 0, .ref q1, .ref q2, .ref q3, .ref q4, .null, .int 0])), (q1, .inl (tc 4, 4, .inr (.inr (.inr (.inr fun _ => none))))), (q2, .inl (tc 7, 6, .inr (.inr (.inr (.inr fun _ => none))))), (q3, .inl (tc 5, 5, .inr (.inr (.inr (.inr fun _ => none))))), (q4, .inl (tc 6, 40, .inr (.inr (.inr (.inr fun _ => none))))), (q5, .inl (tc 0, 40, .inl fun _ => 0))] H := hP
  have hD : va_D A [(h0, .inr (0, [.int 0, .int 30, .int 1, .int 0, .int 0, .int 0, .ref q1, .ref q2, .ref q3, .ref q4, .null, .int 0])), (q1, .inl (tc 4, 4, .inr (.inr (.inr (.inr fun _ => none))))), (q2, .inl (tc 7, 6, .inr (.inr (.inr (.inr fun _ => none))))), (q3, .inl (tc 5, 5, .inr (.inr (.inr (.inr fun _ => none))))), (q4, .inl (tc 6, 40, .inr (.inr (.inr (.inr fun _ => none))))), (q5, .inl (tc 0, 40, .inl fun _ => 0))] := hD
  refine va_putF (D := D) (ci := 0) (v := .ref q5) (ty := z_Y0 10) (C := z_cn 0) (T := z_T0) (N := 12) hx hb hts (fun w hw => hTs _ (z_in0 w hw)) z_Y0 z_ty0 z_nm0 hown hK hP hD hS 0 rfl rfl 10 (by decide) (hts _ (hTs _ (z_FL_ok (own := 0) (n := 42) (a := 0) (b := 10) (by decide +kernel)).1)) (fun _ h9 => h9) rfl hin rfl (z_ty0 10 (by decide)) rfl rfl (Nat.le_of_ble_eq_true rfl) (show decode prog_2_method_1_code 54 = .ok (.putfield 42, 3) by decide +kernel) (fun H locs hP hD hS => ?_)
  have hP : va_P D z_cl [(h0, .inr (0, [.int 0, .int 30, .int 1, .int 0, .int 0, .int 0, .ref q1, .ref q2, .ref q3, .ref q4, .ref q5, .int 0])), (q1, .inl (tc 4, 4, .inr (.inr (.inr (.inr fun _ => none))))), (q2, .inl (tc 7, 6, .inr (.inr (.inr (.inr fun _ => none))))), (q3, .inl (tc 5, 5, .inr (.inr (.inr (.inr fun _ => none))))), (q4, .inl (tc 6, 40, .inr (.inr (.inr (.inr fun _ => none))))), (q5, .inl (tc 0, 40, .inl fun _ => 0))] H := hP
  have hD : va_D A [(h0, .inr (0, [.int 0, .int 30, .int 1, .int 0, .int 0, .int 0, .ref q1, .ref q2, .ref q3, .ref q4, .ref q5, .int 0])), (q1, .inl (tc 4, 4, .inr (.inr (.inr (.inr fun _ => none))))), (q2, .inl (tc 7, 6, .inr (.inr (.inr (.inr fun _ => none))))), (q3, .inl (tc 5, 5, .inr (.inr (.inr (.inr fun _ => none))))), (q4, .inl (tc 6, 40, .inr (.inr (.inr (.inr fun _ => none))))), (q5, .inl (tc 0, 40, .inl fun _ => 0))] := hD
  have htz : ∀ w ∈ z_tbl, w.before ([Value.ref h0] : List Value).toArray s = true := fun w hw => hts w (hTs w hw)
  have hV0 := z_IV0 (tc := tc) hD
  refine lv_iconst (v := nI 0) hx hb (show decode prog_2_method_1_code 57 = .ok (.iconst 0, 1) by decide +kernel) (by decide) ?_
  refine lv_istore_n hx hb (show decode prog_2_method_1_code 58 = .ok (.istore_n 1, 1) by decide +kernel) rfl hl (by decide) rfl (fun ls hl => ?_)
  refine W.cnt (a' := 5 + 1 * 0) (b' := 95 + 5 * 0) rfl rfl (zl_1 (c0 := 5) (s0 := 95) hx hb hml hown htz hK hZ hA (Nat.le_refl _) (Nat.le_refl _) (Nat.le_of_ble_eq_true rfl) (Nat.le_of_ble_eq_true rfl) (fun ws pb H locs ls hI hl => ?_) 4 0 rfl _ _ _ _ ls ⟨hP, hD, hS, hV0, rfl⟩ hl)
  refine lv_iconst (v := nI 0) hx hb (show decode prog_2_method_1_code 83 = .ok (.iconst 0, 1) by decide +kernel) (by decide) ?_
  refine lv_istore_n hx hb (show decode prog_2_method_1_code 84 = .ok (.istore_n 1, 1) by decide +kernel) rfl hl (by decide) rfl (fun ls hl => ?_)
  refine W.cnt (a' := 9 + 3 * 0) (b' := 115 + 12 * 0) rfl rfl (zl_4 (c0 := 9) (s0 := 115) hx hb hml hown htz hK hZ hA (Nat.le_refl _) (Nat.le_refl _) (Nat.le_of_ble_eq_true rfl) (Nat.le_of_ble_eq_true rfl) (fun ws pb H locs ls hI hl => ?_) 6 0 rfl _ _ _ _ ls hI hl)
  refine lv_iconst (v := nI 0) hx hb (show decode prog_2_method_1_code 110 = .ok (.iconst 0, 1) by decide +kernel) (by decide) ?_
  refine lv_istore_n hx hb (show decode prog_2_method_1_code 111 = .ok (.istore_n 1, 1) by decide +kernel) rfl hl (by decide) rfl (fun ls hl => ?_)
  refine W.cnt (a' := 27 + 3 * 0) (b' := 187 + 31 * 0) rfl rfl (zl_2 (c0 := 27) (s0 := 187) hx hb hml hown htz hK hZ hA (Nat.le_refl _) (Nat.le_refl _) (Nat.le_of_ble_eq_true rfl) (Nat.le_of_ble_eq_true rfl) (fun ws pb H locs ls hI hl => ?_) 5 0 rfl _ _ _ _ ls hI hl)
  refine lv_iconst (v := nI 0) hx hb (show decode prog_2_method_1_code 136 = .ok (.iconst 0, 1) by decide +kernel) (by decide) ?_
  refine lv_istore_n hx hb (show decode prog_2_method_1_code 137 = .ok (.istore_n 1, 1) by decide +kernel) rfl hl (by decide) rfl (fun ls hl => ?_)
  refine W.cnt (a' := 42 + 2 * 0) (b' := 342 + 20 * 0) rfl rfl (zl_3 (c0 := 42) (s0 := 342) hx hb hml hown htz hK hZ hA (Nat.le_refl _) (Nat.le_refl _) (Nat.le_of_ble_eq_true rfl) (Nat.le_of_ble_eq_true rfl) (fun ws pb H locs ls hI hl => ?_) 40 0 rfl _ _ _ _ ls hI hl)
  obtain ⟨hP, hD, hS, hV, hp0⟩ := hI
  exact W.vret hx hb hr (fun t ht hW => ⟨⟨(ws, pb), rfl, ⟨hp0, hV⟩, by rw [ht]; exact hP, hD⟩, hS.F ht⟩) hS.2.2 (show decode prog_2_method_1_code 163 = .ok (.return_, 1) by decide +kernel) hlocks
theorem z_rw_0 {n : Nat} {f : Nat → Int32} (h : ∀ j, f j = 0) : z_rw n 0 f = fun _ => 0 := by
  funext j
  unfold z_rw
  by_cases hj : j < n
  · rw [if_pos hj, h]
  · rw [if_neg hj]
theorem z_rw_r {n : Nat} {f g : Nat → Nat} (h : ∀ j, f j = g j) : z_rfs n g = z_rw n none (fun j => some (f j)) := by
  funext j
  unfold z_rw z_rfs
  by_cases hj : j < n
  · rw [if_pos hj, if_pos hj, ← h]
  · rw [if_neg hj, if_neg hj]
theorem z_bc_cell {tc : Nat → ClassId} {pb : Nat → Nat → Nat} {pl : zP} {M : zM} {nb i : Nat} (hg : z_g M nb = z_b0) (hp : ∀ k i, z_rt k = 2 → pl k nb i = pb k i) : ∀ k, z_rt k = 2 → i < z_cnt k → z_bc 4 6 5 40 tc pb k i = z_cell tc pl M k nb i
  | 0, _, hi => by
    obtain rfl : i = 0 := by have : z_cnt 0 = 1 := rfl; omega
    show _ = Sum.inr (0, [Value.int (z_I (z_g M nb) 0 0 0), Value.int (z_I (z_g M nb) 0 0 1), Value.int (z_I (z_g M nb) 0 0 2), Value.int (z_I (z_g M nb) 0 0 3), Value.int (z_I (z_g M nb) 0 0 4), Value.int (z_I (z_g M nb) 0 0 5), Value.ref (pl 7 nb 0), Value.ref (pl 8 nb 0), Value.ref (pl 9 nb 0), Value.ref (pl 10 nb 0), Value.ref (pl 11 nb 0), Value.int (z_I (z_g M nb) 0 0 11)])
    rw [hg, hp 7 0 rfl, hp 8 0 rfl, hp 9 0 rfl, hp 10 0 rfl, hp 11 0 rfl]
    rfl
  | 1, _, hi => by
    show _ = Sum.inr (1, [Value.int (z_I (z_g M nb) 1 i 0), Value.int (z_I (z_g M nb) 1 i 1), Value.int (z_I (z_g M nb) 1 i 2), Value.long (z_J (z_g M nb) 1 i 3), Value.long (z_J (z_g M nb) 1 i 4)])
    rw [hg]
    rfl
  | 2, _, hi => by
    show _ = Sum.inr (2, [Value.ref (pl 12 nb i), Value.ref (pl 13 nb i), Value.int (z_I (z_g M nb) 2 i 2), Value.int (z_I (z_g M nb) 2 i 3), Value.int (z_I (z_g M nb) 2 i 4)])
    rw [hg, hp 12 i rfl, hp 13 i rfl]
    rfl
  | 3, _, hi => by
    show _ = Sum.inr (3, [Value.int (z_I (z_g M nb) 3 i 0), Value.int (z_I (z_g M nb) 3 i 1), Value.int (z_I (z_g M nb) 3 i 2), Value.int (z_I (z_g M nb) 3 i 3), Value.int (z_I (z_g M nb) 3 i 4), Value.int (z_I (z_g M nb) 3 i 5), Value.int (z_I (z_g M nb) 3 i 6), Value.int (z_I (z_g M nb) 3 i 7), Value.int (z_I (z_g M nb) 3 i 8), Value.int (z_I (z_g M nb) 3 i 9), Value.int (z_I (z_g M nb) 3 i 10), Value.int (z_I (z_g M nb) 3 i 11), Value.int (z_I (z_g M nb) 3 i 12), Value.long (z_J (z_g M nb) 3 i 13), Value.long (z_J (z_g M nb) 3 i 14), Value.ref (pl 14 nb i)])
    rw [hg, hp 14 i rfl]
    rfl
  | 4, _, hi => by
    show _ = Sum.inr (4, [Value.ref (pl 15 nb i), Value.ref (pl 16 nb i), Value.int (z_I (z_g M nb) 4 i 2)])
    rw [hg, hp 15 i rfl, hp 16 i rfl]
    rfl
  | 7, _, _ => by
    show Sum.inl (tc 4, 4, Sum.inr (Sum.inr (Sum.inr (Sum.inr (z_rfs 4 (pb 1)))))) = Sum.inl (tc 4, 4, Sum.inr (Sum.inr (Sum.inr (Sum.inr (z_rw 4 none (fun j => some (pl 1 nb j)))))))
    rw [z_rw_r (fun j => hp 1 j rfl)]
  | 8, _, _ => by
    show Sum.inl (tc 7, 6, Sum.inr (Sum.inr (Sum.inr (Sum.inr (z_rfs 6 (pb 4)))))) = Sum.inl (tc 7, 6, Sum.inr (Sum.inr (Sum.inr (Sum.inr (z_rw 6 none (fun j => some (pl 4 nb j)))))))
    rw [z_rw_r (fun j => hp 4 j rfl)]
  | 9, _, _ => by
    show Sum.inl (tc 5, 5, Sum.inr (Sum.inr (Sum.inr (Sum.inr (z_rfs 5 (pb 2)))))) = Sum.inl (tc 5, 5, Sum.inr (Sum.inr (Sum.inr (Sum.inr (z_rw 5 none (fun j => some (pl 2 nb j)))))))
    rw [z_rw_r (fun j => hp 2 j rfl)]
  | 10, _, _ => by
    show Sum.inl (tc 6, 40, Sum.inr (Sum.inr (Sum.inr (Sum.inr (z_rfs 40 (pb 3)))))) = Sum.inl (tc 6, 40, Sum.inr (Sum.inr (Sum.inr (Sum.inr (z_rw 40 none (fun j => some (pl 3 nb j)))))))
    rw [z_rw_r (fun j => hp 3 j rfl)]
  | 11, _, _ => by
    show Sum.inl (tc 0, 40, Sum.inl fun _ => 0) = Sum.inl (tc 0, 40, Sum.inl (z_rw 40 0 fun j => z_I (z_g M nb) 11 i j))
    rw [hg, z_rw_0 (f := fun j => z_I z_b0 11 i j) (fun j => rfl)]
  | 12, _, _ => by
    show Sum.inl (tc 0, 13, Sum.inl fun _ => 0) = Sum.inl (tc 0, 13, Sum.inl (z_rw 13 0 fun j => z_I (z_g M nb) 12 i j))
    rw [hg, z_rw_0 (f := fun j => z_I z_b0 12 i j) (fun j => rfl)]
  | 13, _, _ => by
    show Sum.inl (tc 0, 13, Sum.inl fun _ => 0) = Sum.inl (tc 0, 13, Sum.inl (z_rw 13 0 fun j => z_I (z_g M nb) 13 i j))
    rw [hg, z_rw_0 (f := fun j => z_I z_b0 13 i j) (fun j => rfl)]
  | 14, _, _ => by
    show Sum.inl (tc 0, 4, Sum.inl fun _ => 0) = Sum.inl (tc 0, 4, Sum.inl (z_rw 4 0 fun j => z_I (z_g M nb) 14 i j))
    rw [hg, z_rw_0 (f := fun j => z_I z_b0 14 i j) (fun j => rfl)]
  | 15, _, _ => by
    show Sum.inl (tc 0, 5, Sum.inl fun _ => 0) = Sum.inl (tc 0, 5, Sum.inl (z_rw 5 0 fun j => z_I (z_g M nb) 15 i j))
    rw [hg, z_rw_0 (f := fun j => z_I z_b0 15 i j) (fun j => rfl)]
  | 16, _, _ => by
    show Sum.inl (tc 0, 4, Sum.inl fun _ => 0) = Sum.inl (tc 0, 4, Sum.inl (z_rw 4 0 fun j => z_I (z_g M nb) 16 i j))
    rw [hg, z_rw_0 (f := fun j => z_I z_b0 16 i j) (fun j => rfl)]
  | 5, h, _ => absurd h (by decide)
  | 6, h, _ => absurd h (by decide)
  | 17, h, _ => absurd h (by decide)
  | 18, h, _ => absurd h (by decide)
  | 19, h, _ => absurd h (by decide)
  | 20, h, _ => absurd h (by decide)
  | 21, h, _ => absurd h (by decide)
  | 22, h, _ => absurd h (by decide)
  | 23, h, _ => absurd h (by decide)
  | 24, h, _ => absurd h (by decide)
  | 25, h, _ => absurd h (by decide)
  | 26, h, _ => absurd h (by decide)
  | 27, h, _ => absurd h (by decide)
  | 28, h, _ => absurd h (by decide)
  | 29, h, _ => absurd h (by decide)
  | 30, h, _ => absurd h (by decide)
  | 31, h, _ => absurd h (by decide)
  | 32, h, _ => absurd h (by decide)
  | 33, h, _ => absurd h (by decide)
  | n + 34, h, _ => absurd h (by show ¬ 9 = 2; decide)
theorem z_bq_cnt : ∀ k, k < 34 → z_rt k = 2 → z_bq 4 6 5 40 k = z_cnt k := by decide
theorem z_asPl {A : Nat → Prop} {ws : va_W} (hD : va_D A ws) : ∃ F : Nat → va_E, ws = va_pl (ws.map fun q => q.1) F ∧ ∀ a e, (a, e) ∈ ws → F a = e := by
  have key : ∀ a e, (a, e) ∈ ws → (((ws.find? fun q => q.1 == a).map fun q => q.2).getD (.inr (0, []))) = e := by
    intro a e h
    cases hf : ws.find? fun q => q.1 == a with
    | none =>
      have := List.find?_eq_none.mp hf _ h
      simp at this
    | some q =>
      have h1 := List.find?_some hf
      have h2 := List.mem_of_find?_eq_some hf
      simp at h1
      obtain ⟨i, hi⟩ := List.getElem?_of_mem h
      obtain ⟨j, hj⟩ := List.getElem?_of_mem h2
      have h3 := hD.1 i j _ _ hi hj h1.symm
      subst h3
      rw [hi] at hj
      cases hj
      rfl
  refine ⟨fun a => ((ws.find? fun q => q.1 == a).map fun q => q.2).getD (.inr (0, [])), ?_, key⟩
  unfold va_pl
  rw [List.map_map]
  conv => lhs; rw [← List.map_id ws]
  refine List.map_congr_left fun q hq => ?_
  show q = (q.1, ((ws.find? fun x => x.1 == q.1).map fun q => q.2).getD (.inr (0, [])))
  rw [key q.1 q.2 hq]
theorem z_cell_ext {tc : Nat → ClassId} {L : List Nat} {F : Nat → va_E} {pl pl' : zP} {m m' : zM} {k r i nb' : Nat} (hR : z_R tc L F pl m) (hv : z_va (z_nb m) k r i) (hX : z_ext (z_nb m) pl nb' pl') (hI : ∀ j, z_I (z_g m' r) k i j = z_I (z_g m r) k i j) (hJ : ∀ j, z_J (z_g m' r) k i j = z_J (z_g m r) k i j) (hd : ∀ j, z_d m' j = z_d m j) : z_cell tc pl' m' k r i = z_cell tc pl m k r i := by
  rw [z_cell_cg (m := m) (m' := m') (pl := pl') hI hJ (fun _ => hd 0) (fun _ _ _ _ _ => hd _)]
  unfold z_cell
  by_cases hk : k < 7
  · rw [if_pos hk, if_pos hk]
    unfold z_fs
    rw [List.map_congr_left fun f hf => z_cv_ext (sc := none) hX (z_gf_vv (g := (k, r, i)) hR hv hk (List.mem_range.mp hf))]
  · rw [if_neg hk, if_neg hk]
    cases h1 : z_ik k with
    | some n => rfl
    | none =>
      cases h2 : z_lk k with
      | some n => rfl
      | none =>
        rcases h3 : z_rk k with _ | ⟨n, k' | b⟩
        · rfl
        · have e : (z_rw n none fun j => some (pl' k' r j)) = z_rw n none fun j => some (pl k' r j) := by
            funext j
            unfold z_rw
            by_cases hj : j < n
            · obtain ⟨_, _, h5⟩ := z_rk_in (tc := tc) (nb := z_nb m) h3 hv hj
              rw [if_pos hj, if_pos hj]
              exact congrArg some (hX.2.1 _ _ _ h5)
            · rw [if_neg hj, if_neg hj]
          simp only [e]
        · have e : (z_rw n none fun j => (z_d m (b + j)).map fun q => pl' 0 q 0) = z_rw n none fun j => (z_d m (b + j)).map fun q => pl 0 q 0 := by
            funext j
            unfold z_rw
            by_cases hj : j < n
            · rw [if_pos hj, if_pos hj]
              show (z_d m (b + j)).map (fun q => pl' 0 q 0) = (z_d m (b + j)).map (fun q => pl 0 q 0)
              cases h4 : z_d m (b + j) with
              | none => rfl
              | some q =>
                obtain ⟨h5, h6⟩ := hR.2.2.1 _ _ h4
                rw [Option.map_some, Option.map_some, hX.2.1 0 q 0 ⟨by decide, Or.inr (Or.inr ⟨rfl, h5, h6⟩)⟩]
            · rw [if_neg hj, if_neg hj]
          simp only [e]
def z_plN (nb : Nat) (pb : Nat → Nat → Nat) (pl : zP) : zP := fun k r i => if r = nb ∧ z_rt k = 2 then pb k i else pl k r i
theorem z_plN_n {nb : Nat} {pb : Nat → Nat → Nat} {pl : zP} {k r i : Nat} (h : r = nb) (g : z_rt k = 2) : z_plN nb pb pl k r i = pb k i := if_pos ⟨h, g⟩
theorem z_plN_o {nb : Nat} {pb : Nat → Nat → Nat} {pl : zP} {k r i : Nat} (h : r ≠ nb) : z_plN nb pb pl k r i = pl k r i := if_neg fun q => h q.1
theorem z_wk_good0 : GoodIn z_tbl (z_wk 0 2) := by
  intro w hw
  rcases List.mem_cons.mp hw with rfl | q
  · exact ⟨z_wc _ (List.mem_of_getElem? (i := 33) rfl), z_tbl_good _ (z_wc _ (List.mem_of_getElem? (i := 33) rfl))⟩
  · exact ⟨q, z_tbl_good _ q⟩
variable {p : Program} {l : Launch} {e : Env} {R : Room} {s : State} {mi : MethodId} {args : Array Value} {below : List Frame} {meth : Method} {c : Code} {QQ : State → Prop} {D : va_G} {tc : Nat → ClassId} {A : Nat → Prop} {c0 s0 nL nb0 B dp own rt : Nat} {pl0 : zP} {sc : zX} {cc : ByteArray} {C : zC} {Q : zQ}
/-- a Book that was made is a region of the small machine's memory -/
theorem z_newR {L : List Nat} {F : Nat → va_E} {pl : zP} {m : zM} {ws : va_W} {pb : Nat → Nat → Nat} {H : Heap} {locs : List Loc} (hR : z_R tc L F pl m) (hV : z_IV (z_bq 4 6 5 40) (z_bc 4 6 5 40 tc) ws pb) (hP : va_P D z_cl (va_pl L F ++ ws) H) (hD : va_D A (va_pl L F ++ ws)) (hS : va_S A s.heap H locs) (hX : z_ext nb0 pl0 (z_nb m) pl) :
    ∃ pl1 : zP, z_Hp D tc A s nb0 pl0 (z_nw m) H locs pl1 ∧ z_ext (z_nb m) pl (z_nb m + 1) pl1 ∧ pl1 0 (z_nb m) 0 = pb 0 0 := by
  obtain ⟨F1, hF1, hF2⟩ := z_asPl hD
  have hnb : 2 < z_nb m := hR.2.2.2
  have hrt : ∀ k r i, z_va (z_nb m + 1) k r i → r = z_nb m → z_rt k = 2 ∧ i < z_bq 4 6 5 40 k := fun k r i hv hr => by
    have h1 : z_rt k = 2 := by
      rcases hv.2 with q | q | q
      · omega
      · omega
      · exact q.1
    exact ⟨h1, by rw [z_bq_cnt k (z_cnt_lt hv.1) h1]; exact hv.1⟩
  have hold : ∀ k r i, z_va (z_nb m + 1) k r i → r ≠ z_nb m → z_va (z_nb m) k r i := fun k r i hv hr => ⟨hv.1, hv.2.imp id fun q => q.imp id fun w => ⟨w.1, w.2.1, by omega⟩⟩
  have hp1 : ∀ k i, z_rt k = 2 → (z_plN (z_nb m) pb pl) k (z_nb m) i = pb k i := fun k i h => if_pos ⟨rfl, h⟩
  have hX1 : z_ext (z_nb m) pl (z_nb m + 1) (z_plN (z_nb m) pb pl) := by
    refine ⟨Nat.le_succ _, fun k r i hv => if_neg fun q => ?_, if_neg fun q => by omega⟩
    rcases hv.2 with w | w | w <;> omega
  have hoL : ∀ k r i, z_va (z_nb m) k r i → (pl k r i, z_cell tc pl m k r i) ∈ va_pl L F := fun k r i hv => List.mem_map.mpr ⟨pl k r i, (hR.1 k r i hv).1, by rw [(hR.1 k r i hv).2]⟩
  refine ⟨z_plN (z_nb m) pb pl, ⟨⟨_, F1, by rw [← hF1]; exact hP, by rw [← hF1]; exact hD, ?_⟩, hS, hX.tr hX1⟩, hX1, hp1 0 0 rfl⟩
  refine ⟨fun k r i hv => ?_, fun k r i k' r' i' hv hv' he => ?_, fun j q hj => ?_, Nat.lt_succ_of_lt hnb⟩
  · by_cases hr : r = z_nb m
    · obtain ⟨h1, h2⟩ := hrt k r i hv hr
      subst hr
      have h3 := List.mem_append_right (va_pl L F) (hV.1 k i h2)
      rw [hp1 k i h1]
      refine ⟨List.mem_map.mpr ⟨_, h3, rfl⟩, ?_⟩
      rw [hF2 _ _ h3]
      exact z_bc_cell (M := z_nw m) (nb := z_nb m) (if_pos rfl) hp1 k h1 hv.1
    · have hv2 := hold k r i hv hr
      have h3 := List.mem_append_left ws (hoL k r i hv2)
      rw [z_plN_o hr]
      refine ⟨List.mem_map.mpr ⟨_, h3, rfl⟩, ?_⟩
      rw [hF2 _ _ h3]
      have hg : z_g (z_nw m) r = z_g m r := if_neg hr
      exact (z_cell_ext (m' := z_nw m) hR hv2 hX1 (fun j => by rw [hg]) (fun j => by rw [hg]) (fun j => rfl)).symm
  · by_cases hr : r = z_nb m
    · obtain ⟨h1, h2⟩ := hrt k r i hv hr
      by_cases hr' : r' = z_nb m
      · obtain ⟨h1', h2'⟩ := hrt k' r' i' hv' hr'
        rw [z_plN_n hr h1, z_plN_n hr' h1'] at he
        obtain ⟨h3, h4⟩ := hV.2 _ _ _ _ h2 h2' he
        exact ⟨h3, hr.trans hr'.symm, h4⟩
      · rw [z_plN_n hr h1, z_plN_o hr'] at he
        have h3 := hV.1 k i h2
        rw [he] at h3
        exact (z_D_app hD (hoL _ _ _ (hold k' r' i' hv' hr')) h3).elim
    · by_cases hr' : r' = z_nb m
      · obtain ⟨h1', h2'⟩ := hrt k' r' i' hv' hr'
        rw [z_plN_n hr' h1', z_plN_o hr] at he
        have h3 := hV.1 k' i' h2'
        rw [← he] at h3
        exact (z_D_app hD (hoL _ _ _ (hold k r i hv hr)) h3).elim
      · rw [z_plN_o hr', z_plN_o hr] at he
        exact hR.2.1 _ _ _ _ _ _ (hold k r i hv hr) (hold k' r' i' hv' hr') he
  · have := hR.2.2.1 j q hj
    exact ⟨this.1, Nat.lt_succ_of_lt this.2⟩
set_option maxHeartbeats 4000000 in
theorem z_hn (cx : z_Cx p R s mi args c own nL cc D tc A B dp c0 s0) (hZ : z_Zs s) : z_Hn p l e R s mi args below meth c QQ D tc A nb0 pl0 nL B dp c0 s0 own cc := by
  obtain ⟨hx, hb, hml, hown, hts, hVK, hA, hfr, hlo, hcells, hslots⟩ := cx
  intro m u H locs pl la pc rest h5 hu hdp hla hrest hH hd0 hd3 hd4 kk
  subst h5
  obtain ⟨⟨L, F, hP, hD, hR⟩, hS, hX⟩ := hH
  refine va_new (ci := 0) (fs := z_df 0) (C := z_cn 0) (T := z_T0) (N := 12) hx hb hts z_in0 z_Y0 z_ty0 hown (hts _ (z_wc _ (List.mem_of_getElem? (i := 13) rfl))) (hts _ (z_wc _ (List.mem_of_getElem? (i := 16) rfl))) (hts _ (z_ini (c := 0) (by decide))) hVK hP hD hS hA rfl (z_df_ok (k := 0)) (by omega) (by omega) hd0 (fun q H1 hP1 hD1 hS1 => ?_)
  refine lv_dup hx hb hd3 rfl ?_
  have hPc : va_P D z_cl [(q, .inr (0, z_df 0))] H1 := fun u x hx => hP1 ((va_pl L F).length + u) x (by rw [List.getElem?_append_right (by omega), Nat.add_sub_cancel_left]; exact hx)
  have hqA : A q := hD1.2 (va_pl L F).length (q, .inr (0, z_df 0)) (by rw [List.getElem?_append_right (Nat.le_refl _), Nat.sub_self]; rfl)
  have hFA : ∀ q', z_Ak q H1.size q' → A q' := fun q' h => h.elim (fun g => by rw [g]; exact hqA) (fun g => hA q' (Nat.le_trans hS1.1 g))
  have hnw : ∀ (a : Nat) (x : va_E), (a, x) ∈ va_pl L F → a < H1.size ∧ ¬ z_Ak q H1.size a := fun a x hax => by
    obtain ⟨u, hu⟩ := List.getElem?_of_mem hax
    have hul := (List.getElem?_eq_some_iff.mp hu).1
    have hu1 : (va_pl L F ++ [(q, .inr (0, z_df 0))])[u]? = some (a, x) := by rw [List.getElem?_append_left hul]; exact hu
    have hlt := (hP1 u _ hu1).lt
    refine ⟨hlt, fun g => ?_⟩
    rcases g with g | g
    · have := hD1.1 u (va_pl L F).length _ (q, .inr (0, z_df 0)) hu1 (by rw [List.getElem?_append_right (Nat.le_refl _), Nat.sub_self]; rfl) g
      omega
    · exact absurd hlt (Nat.not_lt.mpr g)
  refine va_callv (va_runI (Ts := z_tbl) (As := []) (rest := .ref q :: rest) (b := q) ⟨hx, hb, hml, hown, hts⟩ (k_0 l D tc q H1.size) (cwI 0 hts z_wk_good0 rfl rfl rfl (hts _ (z_ini (c := 0) (by decide))) (hts _ (z_wc _ (List.mem_of_getElem? (i := 40) rfl))) (hts _ (z_wc _ (List.mem_of_getElem? (i := 26) rfl))) rfl (by decide +kernel) ⟨by show 2 + 1 ≤ R.frames; omega, by show 8 + (2 + 11) + 32 ≤ R.locals; omega⟩) ⟨fun a U g mk q => ⟨q.1, q.2.1, q.2.2.1, va_K.moved (u := U) (U := U.calling g mk a) (Vm.Alike.refl U.vm) q.2.2.2.1, z_Zs.same (s := U) (U := U.calling g mk a) rfl q.2.2.2.2⟩, fun U hU hW => ⟨rfl, by rw [hU], by rw [hU]; exact hPc, va_K.moved hW.alike hVK, hZ.warm hW⟩⟩ rfl rfl hla rfl (lv_room (by rw [List.map_cons, List.sum_cons]; have : (Value.ref q).category = 1 := rfl; omega)) hd4 ⟨by omega, by omega⟩) hS1 (fun q' _ h => hFA q' h) hFA (fun u9 t H2 locs2 ht hvm hpost hB hz hk hS2 => ?_)
  obtain ⟨ws, pb⟩ := u9
  obtain ⟨hp0, hV⟩ := hpost
  obtain ⟨hP2, hD2⟩ := hB
  dsimp only at hp0 hV hP2 hD2
  rw [ht] at hP2
  have hPw : va_P D z_cl (va_pl L F) H1 := fun u x hx => hP1 u x (by rw [List.getElem?_append_left (List.getElem?_eq_some_iff.mp hx).1]; exact hx)
  have hP3 : va_P D z_cl (va_pl L F ++ ws) H2 := (hPw.kept (fun u x hx => hk _ (hnw x.1 x.2 (List.mem_of_getElem? hx)).1 (hnw x.1 x.2 (List.mem_of_getElem? hx)).2)).app hP2
  have hD3 : va_D A (va_pl L F ++ ws) := va_D.app hD (hD2.weaken fun _ _ _ g => hFA _ g) (fun u v x y hx hy he => by
    have h1 := (hnw x.1 x.2 (List.mem_of_getElem? hx)).2
    rw [he] at h1
    exact h1 (hD2.2 v y hy))
  obtain ⟨pl1, hH1, hx1, hpl⟩ := z_newR hR hV hP3 hD3 hS2 hX
  have hw := kk H2 locs2 pl1 hH1 hx1
  rw [hpl, hp0] at hw
  exact W.cnt (by omega) (by omega) hw
end Ct3
