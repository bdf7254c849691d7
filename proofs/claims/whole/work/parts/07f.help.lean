/-! ===== helpers of the soundness ===== -/
section Snd3
theorem z_ri_e {st : List zV} {rt : Nat} {Q : Option zV → Prop} (h : z_ri st rt Q) : ∃ r, st = [r] ∧ z_rok rt (some r) ∧ z_rti (some r) = .ireturn ∧ Q (some r) := by
  unfold z_ri at h
  split at h
  · exact ⟨_, rfl, Or.inl rfl, rfl, h⟩
  · exact ⟨_, rfl, Or.inr ⟨rfl, h.1⟩, rfl, h.2⟩
  · exact h.elim
theorem z_rl_e {st : List zV} {rt : Nat} {Q : Option zV → Prop} (h : z_rl st rt Q) : ∃ r, st = [r] ∧ z_rok rt (some r) ∧ z_rti (some r) = .lreturn ∧ Q (some r) := by
  unfold z_rl at h
  split at h
  · exact ⟨_, rfl, rfl, rfl, h⟩
  · exact h.elim
theorem z_ra_e {st : List zV} {rt : Nat} {Q : Option zV → Prop} (h : z_ra st rt Q) : ∃ r, st = [r] ∧ z_rok rt (some r) ∧ z_rti (some r) = .areturn ∧ Q (some r) := by
  unfold z_ra at h
  split at h
  · exact ⟨_, rfl, ⟨rfl, fun q => nomatch q⟩, rfl, h⟩
  · exact h.elim
theorem z_rv_e {st : List zV} {rt : Nat} {Q : Prop} (h : z_rv st rt Q) : st = [] ∧ rt = 0 ∧ Q := by
  unfold z_rv at h
  split at h
  · exact ⟨rfl, rfl, h⟩
  · exact h.elim
theorem W.cnt {p : Program} {l : Launch} {e : Env} {R : Room} {s : State} {m : MethodId} {args : Array Value} {below : List Frame} {meth : Method} {c : Code} {H : Heap} {locs : List Loc} {a b a' b' : Nat} {Q : State → Prop} {g : JFrame} (h1 : a = a') (h2 : b = b') (h : W p l e R s m args below meth c H locs a' b' Q g) : W p l e R s m args below meth c H locs a b Q g := by subst h1; subst h2; exact h
theorem z_psh_cv {pl : zP} {r : Option zV} {st : List zV} : (z_psh r st).map (z_cv pl) = (r.map (z_cv pl)).toList ++ st.map (z_cv pl) := by cases r <;> rfl
theorem z_vs_psh {sc : zX} {nb : Nat} {r : Option zV} {st : List zV} (hr : z_vs none nb r.toList) (hs : z_vs sc nb st) : z_vs sc nb (z_psh r st) := by
  cases r with
  | none => exact hs
  | some v => exact z_vs.cons (hr v (by simp)) hs
theorem z_in_A {A : Nat → Prop} {L : List Nat} {F : Nat → va_E} {q : Nat} (hD : va_D A (va_pl L F)) (h : q ∈ L) : A q := by
  obtain ⟨k, hk⟩ := va_pl_get (X := []) (f := F) h
  exact hD.2 k (q, F q) hk
theorem z_bk_cv {pl : zP} {b : Option Nat} : z_cv pl (z_bk b) = va_rf (b.map fun q => pl 0 q 0) := by cases b <;> rfl
theorem z_bk_vv {tc : Nat → ClassId} {L : List Nat} {F : Nat → va_E} {pl : zP} {m : zM} {sc : zX} {j : Nat} (hR : z_R tc L F pl m) : z_vv sc (z_nb m) (z_bk (z_d m j)) := by
  cases h : z_d m j with
  | none => trivial
  | some q =>
    obtain ⟨h1, h2⟩ := hR.2.2.1 j q h
    exact Or.inl ⟨(by decide : 0 < z_cnt 0), Or.inr (Or.inr ⟨rfl, h1, h2⟩)⟩
theorem z_fK_b : ∀ k, k < 7 → ∀ f, f < z_nf k → (!(z_fT k f == 2) || ((z_cnt (z_fK k f) == z_cnt k) && ((k == 5 && f == 0 && z_fK k f == 0) || (z_rt (z_fK k f) == z_rt k && !(k == 5 && f == 0))))) = true := by decide +kernel
theorem z_fK_ok : ∀ k, k < 7 → ∀ f, f < z_nf k → z_fT k f = 2 → (z_cnt (z_fK k f) = z_cnt k ∧ ((k = 5 ∧ f = 0 ∧ z_fK k f = 0) ∨ (z_rt (z_fK k f) = z_rt k ∧ ¬ (k = 5 ∧ f = 0)))) := by
  intro k hk f hf h
  have h1 := z_fK_b k hk f hf
  simp only [h, beq_self_eq_true, Bool.not_true, Bool.false_or, Bool.and_eq_true, Bool.or_eq_true, beq_iff_eq, Bool.not_eq_true', Bool.and_eq_false_iff, beq_eq_false_iff_ne] at h1
  obtain ⟨h2, h3⟩ := h1
  refine ⟨h2, h3.imp (fun q => ⟨q.1.1, q.1.2, q.2⟩) (fun q => ⟨q.1, fun w => ?_⟩)⟩
  rcases q.2 with e | e
  · exact e w.1
  · exact e w.2
theorem z_gf_vv {tc : Nat → ClassId} {L : List Nat} {F : Nat → va_E} {pl : zP} {m : zM} {sc : zX} {g : Nat × Nat × Nat} {b : Nat} (hR : z_R tc L F pl m) (hv : z_va (z_nb m) g.1 g.2.1 g.2.2) (hk : g.1 < 7) (hf : b < z_nf g.1) : z_vv sc (z_nb m) (z_gf m g b) := by
  obtain ⟨k, r, i⟩ := g
  unfold z_gf
  rcases z_fT_ok k hk b hf with h | h | h | ⟨h, h5⟩ <;> simp only [h]
  · trivial
  · trivial
  · obtain ⟨h1, h2⟩ := z_fK_ok k hk b hf h
    refine Or.inl ⟨by rw [h1]; exact hv.1, ?_⟩
    rcases h2 with ⟨h3, h4, h5⟩ | ⟨h3, h4⟩
    · dsimp only at *
      subst h3; subst h4
      rw [h5]
      exact Or.inr (Or.inr ⟨rfl, Nat.le_refl 2, hR.2.2.2⟩)
    · have e : z_fR k r b = r := by
        unfold z_fR
        split
        · exact absurd ⟨rfl, rfl⟩ h4
        · rfl
      dsimp only
      rw [h3, e]
      exact hv.2
  · exact z_bk_vv hR
theorem z_pf_e {tc : Nat → ClassId} {L : List Nat} {F : Nat → va_E} {pl : zP} {m : zM} {sc : zX} {g : Nat × Nat × Nat} {b : Nat} {v : zV} {K : zM → Prop} (hR : z_R tc L F pl m) (hv : z_va (z_nb m) g.1 g.2.1 g.2.2) (hk : g.1 < 7) (hf : b < z_nf g.1) (hvv : z_vv sc (z_nb m) v) (h : z_pf m g b v K) :
    ∃ m', z_nb m' = z_nb m ∧ K m' ∧ z_R tc L (va_up F (pl g.1 g.2.1 g.2.2) (z_cell tc pl m' g.1 g.2.1 g.2.2)) pl m' ∧ narrow (z_YY g.1 b) (z_cv pl v) = z_cv pl v ∧ fits (z_YY g.1 b) (z_cv pl v) = true ∧ (z_fs pl m g.1 g.2.1 g.2.2).set b (z_cv pl v) = z_fs pl m' g.1 g.2.1 g.2.2 := by
  obtain ⟨k, r, i⟩ := g
  dsimp only at *
  obtain ⟨hy0, hy1, hy3⟩ := z_fy k hk b hf
  unfold z_pf at h
  split at h
  · rename_i x h0
    refine ⟨z_s m r (z_uI (z_g m r) k i b x), rfl, h, hR.putI hv b x, by rw [hy0 h0]; rfl, by rw [hy0 h0]; rfl, ?_⟩
    unfold z_fs
    rw [z_rset hf]
    refine List.map_congr_left fun f hf' => ?_
    by_cases e : f = b
    · subst e
      rw [if_pos rfl]
      simp only [z_gf, h0]
      rw [z_g_ss, z_I_u, if_pos ⟨rfl, rfl, rfl⟩]
    · rw [if_neg e]
      refine congrArg (z_cv pl) ?_
      unfold z_gf
      dsimp only
      rw [z_g_ss, z_I_u, if_neg (fun q => e q.2.2)]
      rfl
  · rename_i x h0
    refine ⟨z_s m r (z_uJ (z_g m r) k i b x), rfl, h, hR.putJ hv b x, by rw [hy1 h0]; rfl, by rw [hy1 h0]; rfl, ?_⟩
    unfold z_fs
    rw [z_rset hf]
    refine List.map_congr_left fun f hf' => ?_
    by_cases e : f = b
    · subst e
      rw [if_pos rfl]
      simp only [z_gf, h0]
      rw [z_g_ss, z_J_u, if_pos ⟨rfl, rfl, rfl⟩]
    · rw [if_neg e]
      refine congrArg (z_cv pl) ?_
      unfold z_gf
      dsimp only
      rw [z_g_ss, z_J_u, if_neg (fun q => e q.2.2)]
      rfl
  · rename_i x h0
    obtain ⟨gk, gr, gi⟩ := x
    obtain ⟨hy4, h5, h6⟩ := hy3 h0
    split at h
    · rename_i hg
      dsimp only at hg h
      subst hg
      have hvf := z_vv_va hvv (show (0 : Nat) ≠ 34 by decide)
      have hfi : gi = 0 := by have : z_cnt 0 = 1 := rfl; have := hvf.1; dsimp only at *; omega
      have hfr : 2 ≤ gr ∧ gr < z_nb m := by
        have : z_rt 0 = 2 := rfl
        have := hvf.2
        dsimp only at *
        omega
      subst hfi; subst h5; subst h6
      refine ⟨z_sd m 0 (some gr), rfl, h, hR.putD hv 0 gr hfr (fun _ => rfl) ?_, by rw [hy4]; rfl, by rw [hy4]; rfl, ?_⟩
      · intro k' n b' j hr hj e
        revert hr
        unfold z_rk
        split <;> intro hr <;> cases hr <;> omega
      · unfold z_fs
        rw [z_rset hf]
        refine List.map_congr_left fun f hf' => ?_
        by_cases e : f = 1
        · subst e
          rfl
        · rw [if_neg e]
          refine congrArg (z_cv pl) ?_
          have : ∀ f, f < 13 → f ≠ 1 → z_fT 5 f = 0 ∨ z_fT 5 f = 2 := by decide
          unfold z_gf
          rcases this f (List.mem_range.mp hf') e with q | q <;> simp only [q] <;> rfl
    · exact h.elim
  · exact h.elim
theorem z_rk_in {tc : Nat → ClassId} {nb k r i n k' j : Nat} (h : z_rk k = some (n, .inl k')) (hv : z_va nb k r i) (hj : j < n) : ∃ t1 : Nat, (z_tys tc)[t1]? = some (tc (k' + 3), FieldType.object (z_cn k')) ∧ z_va nb k' r j := by
  revert h
  unfold z_rk
  split <;> intro h <;> cases h
  · exact ⟨4, rfl, ⟨hj, hv.2⟩⟩
  · exact ⟨7, rfl, ⟨hj, hv.2⟩⟩
  · exact ⟨5, rfl, ⟨hj, hv.2⟩⟩
  · exact ⟨6, rfl, ⟨hj, hv.2⟩⟩
theorem z_rk_slot {k n b j : Nat} (h : z_rk k = some (n, .inr b)) (hj : j < n) : (b + j = 0 → k = 5) ∧ ∀ k' n' b' j', z_rk k' = some (n', .inr b') → j' < n' → b' + j' = b + j → k' = k := by
  have key : ∀ k n b, z_rk k = some (n, .inr b) → (k = 17 ∧ n = 2 ∧ b = 1) ∨ (k = 18 ∧ n = 8 ∧ b = 3) := by
    intro k n b h
    revert h
    unfold z_rk
    split <;> intro h <;> first | (cases h; simp) | cases h
  rcases key _ _ _ h with ⟨rfl, rfl, rfl⟩ | ⟨rfl, rfl, rfl⟩
  · refine ⟨fun q => by omega, fun k' n' b' j' h' hj' e => ?_⟩
    rcases key _ _ _ h' with ⟨rfl, rfl, rfl⟩ | ⟨rfl, rfl, rfl⟩ <;> omega
  · refine ⟨fun q => by omega, fun k' n' b' j' h' hj' e => ?_⟩
    rcases key _ _ _ h' with ⟨rfl, rfl, rfl⟩ | ⟨rfl, rfl, rfl⟩ <;> omega
theorem z_all228 {f : Nat → Bool} (h : ((List.range 228).all fun j => f (j + 1)) = true) {j : Nat} (h0 : 0 < j) (h1 : j < 229) : f j = true := by
  have := List.all_eq_true.mp h (j - 1) (List.mem_range.mpr (by omega))
  rwa [Nat.sub_add_cancel h0] at this
theorem z_mth {j : Nat} (h0 : 0 < j) (h1 : j < 229) : (z_nm j).cls = z_cn (z_mK j) ∧ z_mK j < 10 ∧ z_mL j ≤ 19 ∧ (parseMethodDescriptor (z_nm j).desc).map (fun d => d.parameters.length) = some (z_mA j) ∧ (z_nm j).cls ≠ "java/lang/invoke/MethodHandle" ∧ (z_nm j).cls ≠ "java/lang/invoke/VarHandle" ∧ (z_sp j = 0 → plainName (z_nm j).cls = true) := by
  refine ⟨of_decide_eq_true (z_all228 (f := fun j => decide ((z_nm j).cls = z_cn (z_mK j))) z_mt0 h0 h1), Nat.le_of_ble_eq_true (z_all228 (f := fun j => Nat.ble (z_mK j + 1) 10) z_mt1 h0 h1), Nat.le_of_ble_eq_true (z_all228 (f := fun j => Nat.ble (z_mL j) 19) z_mt2 h0 h1), of_decide_eq_true (z_all228 (f := fun j => decide ((parseMethodDescriptor (z_nm j).desc).map (fun d => d.parameters.length) = some (z_mA j))) z_mt3 h0 h1), of_decide_eq_true (z_all228 (f := fun j => decide ((z_nm j).cls ≠ "java/lang/invoke/MethodHandle")) z_mt5 h0 h1), of_decide_eq_true (z_all228 (f := fun j => decide ((z_nm j).cls ≠ "java/lang/invoke/VarHandle")) z_mt6 h0 h1), fun hs => ?_⟩
  have h2 := List.all_eq_true.mp z_mt4 (j - 1) (List.mem_range.mpr (by omega))
  rw [Nat.sub_add_cancel h0] at h2
  simp only [Bool.or_eq_true, decide_eq_true_eq] at h2
  rcases h2 with q | q | q
  · exact q
  · have := Nat.eq_of_beq_eq_true q
    have e : j = 226 := by omega
    subst e; cases hs
  · have := Nat.eq_of_beq_eq_true q
    have e : j = 227 := by omega
    subst e; cases hs
theorem z_sp_v {j : Nat} (h : j < 229) (hs : z_mS j = 0) : z_sp j = 0 := by
  have : ∀ j, j < 229 → z_mS j = 0 → z_sp j = 0 := by decide +kernel
  exact this j h hs
theorem z_mK_v {j : Nat} (h0 : 0 < j) (h : j < 229) (hs : z_mS j = 0) : z_mK j < 7 := by
  have : ∀ j, j < 229 → 0 < j → z_mS j = 0 → z_mK j < 7 := by decide +kernel
  exact this j h h0 hs
theorem z_mn_v {j : Nat} (h : z_sp j = 0) : z_mn j = z_nm j := by
  unfold z_mn
  have : Nat.beq j 999 = false := by
    cases q : Nat.beq j 999 with
    | false => rfl
    | true =>
      have := Nat.eq_of_beq_eq_true q
      subst this; cases h
  rw [this]
theorem z_wd_good {j : Nat} (h0 : 0 < j) (h : j < 229) : GoodIn z_tbl (z_wd j) := by
  intro w hw
  rcases List.mem_cons.mp hw with rfl | q
  · exact ⟨z_co h0 h, z_tbl_good _ (z_co h0 h)⟩
  · exact ⟨q, z_tbl_good _ q⟩
theorem z_sp_e {j n : Nat} (h : z_sp j = n + 1) : (n = 0 ∧ j = 999) ∨ (n = 1 ∧ j = 226) ∨ (n = 2 ∧ j = 227) := by
  unfold z_sp at h
  split at h
  · exact Or.inl ⟨by omega, by assumption⟩
  · split at h
    · exact Or.inr (Or.inl ⟨by omega, by assumption⟩)
    · split at h
      · exact Or.inr (Or.inr ⟨by omega, by assumption⟩)
      · omega
theorem z_ac_e {m : zM} {as : List zV} {K : zM → Prop} (h : z_ac m as K) : ∃ (h g : Nat × Nat × Nat) (n : Int32), as = [zr (some h), zi 0, zr (some g), zi 0, zi n] ∧ h.2.1 ≠ g.2.1 ∧ z_ik h.1 = some n.toNatClampNeg ∧ z_ik g.1 = some n.toNatClampNeg ∧ 0 ≤ n ∧ K (z_s m g.2.1 (z_cp (z_g m g.2.1) g.1 g.2.2 (z_g m h.2.1) h.1 h.2.2)) := by
  unfold z_ac at h
  split at h
  · obtain ⟨h1, rfl, rfl, h4, h5, h6, h7⟩ := h
    exact ⟨_, _, _, rfl, h1, h4, h5, h6, h7⟩
  · exact h.elim
theorem z_I_cp (S : zS) (k i : Nat) (T : zS) (k2 i2 k' i' f' : Nat) : z_I (z_cp S k i T k2 i2) k' i' f' = if k' = k ∧ i' = i then z_I T k2 i2 f' else z_I S k' i' f' := rfl
theorem z_J_cp (S : zS) (k i : Nat) (T : zS) (k2 i2 k' i' f' : Nat) : z_J (z_cp S k i T k2 i2) k' i' f' = z_J S k' i' f' := rfl
theorem z_R.putC {tc : Nat → ClassId} {L : List Nat} {F : Nat → va_E} {pl : zP} {m : zM} {k r i : Nat} (h : z_R tc L F pl m) (hv : z_va (z_nb m) k r i) (T : zS) (k2 i2 : Nat) : z_R tc L (va_up F (pl k r i) (z_cell tc pl (z_s m r (z_cp (z_g m r) k i T k2 i2)) k r i)) pl (z_s m r (z_cp (z_g m r) k i T k2 i2)) :=
  h.putS hv _ (fun k' i' j g => by rw [z_I_cp, if_neg g]) (fun _ _ _ _ => rfl)
theorem z_w_sys : Cond.native arraycopyName ∈ z_tbl ∧ Cond.static arraycopyName ∈ z_tbl ∧ Cond.initialized "java/lang/System" ∈ z_tbl := by
  have h : [Cond.native arraycopyName, Cond.static arraycopyName, Cond.initialized "java/lang/System"] = ([384, 383, 77] : List Nat).filterMap fun i => lw_tbl[i]? := by decide +kernel
  have hp := z_pick h (by decide +kernel)
  exact ⟨hp _ (by simp), hp _ (by simp), hp _ (by simp)⟩
theorem z_w_max : z_nm 226 = Lib.Math.max.name ∧ z_by 226 = Lib.Math.max.code ∧ z_mL 226 = 2 ∧ z_re 226 = some .int := ⟨by decide +kernel, by decide +kernel, rfl, rfl⟩
theorem z_w_min : z_nm 227 = Lib.Math.min.name ∧ z_by 227 = Lib.Math.min.code ∧ z_mL 227 = 2 ∧ z_re 227 = some .int := ⟨by decide +kernel, by decide +kernel, rfl, rfl⟩
end Snd3
