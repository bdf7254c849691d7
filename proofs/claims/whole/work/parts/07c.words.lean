/-! ===== WORDS of the tables, by links and methods ===== -/
section Words
theorem z_pick {ws : List Cond} {ps : List Nat} (h : ws = ps.filterMap fun i => lw_tbl[i]?) (hg : ws.all goodWord = true) : ∀ w ∈ ws, w ∈ z_tbl := by
  intro w hw
  refine z_tbl_of ?_ (List.all_eq_true.mp hg w hw)
  rw [h] at hw
  obtain ⟨i, -, hi⟩ := List.mem_filterMap.mp hw
  exact List.mem_of_getElem? hi
theorem z_FL_e : (z_FL.map fun q => Cond.fieldLink (z_cn q.1) q.2.1 (z_cn q.2.2.1) (z_TT q.2.2.1 q.2.2.2).2.1 (z_TT q.2.2.1 q.2.2.2).2.2.1) = z_FP.filterMap fun i => lw_tbl[i]? := by decide +kernel
theorem z_FL_g : (z_FL.map fun q => Cond.fieldLink (z_cn q.1) q.2.1 (z_cn q.2.2.1) (z_TT q.2.2.1 q.2.2.2).2.1 (z_TT q.2.2.1 q.2.2.2).2.2.1).all goodWord = true := by decide +kernel
theorem z_FL_n : (z_FL.all fun q => Nat.ble (q.2.2.1 + 1) 7 && Nat.ble (q.2.2.2 + 1) (z_nf q.2.2.1)) = true := by decide +kernel
theorem z_FL_ok {own n a b : Nat} (h : (own, n, a, b) ∈ z_FL) : Cond.fieldLink (z_cn own) n (z_cn a) (z_TT a b).2.1 (z_TT a b).2.2.1 ∈ z_tbl ∧ a < 7 ∧ b < z_nf a := by
  refine ⟨z_pick z_FL_e z_FL_g _ (List.mem_map.mpr ⟨_, h, rfl⟩), ?_⟩
  have h1 := List.all_eq_true.mp z_FL_n _ h
  simp only [Bool.and_eq_true] at h1
  exact ⟨Nat.le_of_ble_eq_true h1.1, Nat.le_of_ble_eq_true h1.2⟩
def z_mn (j : Nat) : MethodName := match Nat.beq j 999 with
  | true => arraycopyName
  | false => z_nm j
theorem z_ML_e : (z_ML.map fun q => Cond.methodLink (z_cn q.1) q.2.1 (z_mn q.2.2)) = z_MP.filterMap fun i => lw_tbl[i]? := by decide +kernel
theorem z_ML_g : (z_ML.map fun q => Cond.methodLink (z_cn q.1) q.2.1 (z_mn q.2.2)).all goodWord = true := by decide +kernel
theorem z_ML_n : (z_ML.all fun q => Nat.ble (q.2.2 + 1) 229 || Nat.beq q.2.2 999) = true := by decide +kernel
theorem z_ML_ok {own n j : Nat} (h : (own, n, j) ∈ z_ML) : Cond.methodLink (z_cn own) n (z_mn j) ∈ z_tbl ∧ (j < 229 ∨ j = 999) := by
  refine ⟨z_pick z_ML_e z_ML_g _ (List.mem_map.mpr ⟨_, h, rfl⟩), ?_⟩
  have h1 := List.all_eq_true.mp z_ML_n _ h
  simp only [Bool.or_eq_true] at h1
  exact h1.imp Nat.le_of_ble_eq_true Nat.eq_of_beq_eq_true
theorem z_CI_e : (z_CI.map fun q => Cond.constant (z_cn q.1) q.2.1 q.2.2) = z_CP.filterMap fun i => lw_tbl[i]? := by decide +kernel
theorem z_CI_ok {own n : Nat} {v : Int32} (h : (own, n, v) ∈ z_CI) : Cond.constant (z_cn own) n v ∈ z_tbl := z_pick z_CI_e (by decide +kernel) _ (List.mem_map.mpr ⟨_, h, rfl⟩)
theorem z_CJ_e : (z_CJ.map fun q => Cond.constantLong (z_cn q.1) q.2.1 q.2.2) = z_CQ.filterMap fun i => lw_tbl[i]? := by decide +kernel
theorem z_CJ_ok {own n : Nat} {v : Int64} (h : (own, n, v) ∈ z_CJ) : Cond.constantLong (z_cn own) n v ∈ z_tbl := z_pick z_CJ_e (by decide +kernel) _ (List.mem_map.mpr ⟨_, h, rfl⟩)
theorem z_rg {P : Nat → Prop} {Wf : Nat → Cond} {ws : List Cond} (h : ((List.range 228).map fun j => Wf (j + 1)) = ws) (hw : ∀ w ∈ ws, w ∈ z_tbl) {j : Nat} (h0 : 0 < j) (h1 : j < 229) : Wf j ∈ z_tbl := by
  subst h
  refine hw _ (List.mem_map.mpr ⟨j - 1, List.mem_range.mpr (by omega), ?_⟩)
  rw [Nat.sub_add_cancel h0]
theorem z_co_g : (((List.range 228).map fun j => Cond.code (z_nm (j + 1)) (z_by (j + 1)) (z_mL (j + 1)) (z_re (j + 1))).all goodWord) = true := by decide +kernel
theorem z_co {j : Nat} (h0 : 0 < j) (h1 : j < 229) : Cond.code (z_nm j) (z_by j) (z_mL j) (z_re j) ∈ z_tbl := z_rg (P := fun _ => True) (Wf := fun j => Cond.code (z_nm j) (z_by j) (z_mL j) (z_re j)) rfl (fun w hw => z_tbl_of (z_CW_in w (by rw [← z_CW_e]; exact hw)) (List.all_eq_true.mp z_co_g w hw)) h0 h1
def z_wi (j : Nat) : Cond := match z_mS j with
  | 1 => .static (z_nm j)
  | _ => .instanceMethod (z_nm j)
theorem z_wi_e : ((List.range 228).map fun j => z_wi (j + 1)) = z_PI.filterMap fun i => lw_tbl[i]? := by decide +kernel
theorem z_wi_ok {j : Nat} (h0 : 0 < j) (h1 : j < 229) : z_wi j ∈ z_tbl := z_rg (P := fun _ => True) (Wf := z_wi) rfl (z_pick z_wi_e (by decide +kernel)) h0 h1
def z_wsl (j : Nat) : Cond := match z_mS j with
  | 1 => .selects "BondStores" ⟨"BondStores", "refused", "(I)I"⟩ ⟨"BondStores", "refused", "(I)I"⟩
  | _ => .selects (z_cn (z_mK j)) (z_nm j) (z_nm j)
theorem z_ws_e : ((List.range 228).map fun j => z_wsl (j + 1)) = z_PS.filterMap fun i => lw_tbl[i]? := by decide +kernel
theorem z_ws_ok {j : Nat} (h0 : 0 < j) (h1 : j < 229) : z_wsl j ∈ z_tbl := z_rg (P := fun _ => True) (Wf := z_wsl) rfl (z_pick z_ws_e (by decide +kernel)) h0 h1
theorem z_ini_e : ((List.range 10).map fun c => Cond.initialized (z_cn c)) = z_PN.filterMap fun i => lw_tbl[i]? := by decide +kernel
theorem z_ini {c : Nat} (h : c < 10) : Cond.initialized (z_cn c) ∈ z_tbl := z_pick z_ini_e (by decide +kernel) _ (List.mem_map.mpr ⟨c, List.mem_range.mpr h, rfl⟩)
theorem z_mt0 : ((List.range 228).all fun j => decide ((z_nm (j + 1)).cls = z_cn (z_mK (j + 1)))) = true := by decide +kernel
theorem z_mt1 : ((List.range 228).all fun j => Nat.ble (z_mK (j + 1) + 1) 10) = true := by decide +kernel
theorem z_mt2 : ((List.range 228).all fun j => Nat.ble (z_mL (j + 1)) 19) = true := by decide +kernel
theorem z_mt3 : ((List.range 228).all fun j => decide ((parseMethodDescriptor (z_nm (j + 1)).desc).map (fun d => d.parameters.length) = some (z_mA (j + 1)))) = true := by decide +kernel
theorem z_mt4 : ((List.range 228).all fun j => decide (plainName (z_nm (j + 1)).cls = true) || (Nat.beq j 225 || Nat.beq j 226)) = true := by decide +kernel
theorem z_mt5 : ((List.range 228).all fun j => decide ((z_nm (j + 1)).cls ≠ "java/lang/invoke/MethodHandle")) = true := by decide +kernel
theorem z_mt6 : ((List.range 228).all fun j => decide ((z_nm (j + 1)).cls ≠ "java/lang/invoke/VarHandle")) = true := by decide +kernel
theorem z_mt7 : ((List.range 228).all fun j => (Nat.beq (z_mS (j + 1)) 0 || Nat.beq (z_mS (j + 1)) 1)) = true := by decide +kernel
end Words
