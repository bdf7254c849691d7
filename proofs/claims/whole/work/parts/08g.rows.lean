/-! ===== THE CLASS: rows of loads, copies of a Book, new guarantors and stores ===== -/
section Bk3
variable {d r i k g s r2 i2 l : Nat} {m : zM} {Q : zQ} {v w a b c : Int32}
def cEntGo (e : Int32) : Nat → zS → zS
  | 0, S => z_uI S 11 0 0 e
  | n + 1, S => if e < z_I S 11 0 n then cEntGo e n (z_uI S 11 0 (n + 1) (z_I S 11 0 n)) else z_uI S 11 0 (n + 1) e
theorem cEntGo_o {e : Int32} {k i f : Nat} (h : k ≠ 11) : ∀ (n : Nat) (S : zS), z_I (cEntGo e n S) k i f = z_I S k i f
  | 0, S => by simp [cEntGo, z_I_u, h]
  | n + 1, S => by
    rw [cEntGo]
    split
    · rw [cEntGo_o h n]; simp [z_I_u, h]
    · simp [z_I_u, h]
theorem cEntGo_J {e : Int32} {k i f : Nat} : ∀ (n : Nat) (S : zS), z_J (cEntGo e n S) k i f = z_J S k i f
  | 0, S => rfl
  | n + 1, S => by
    rw [cEntGo]
    split
    · rw [cEntGo_J n]; rfl
    · rfl
theorem z_v040 : vp_in 0 40 = True := z_vp (by decide)
theorem z_0lt {n : Nat} (h : n < 2 ^ 31) : (nI n ≤ 0) = (n = 0) := by
  by_cases e : n = 0
  · subst e; exact eq_true_of_decide rfl |>.trans (by simp)
  · rw [eq_false (nI_nle (by omega) h), eq_false e]
set_option maxRecDepth 100000 in
set_option maxHeartbeats 4000000 in
theorem zl_5 {e : Int32} : ∀ (n : Nat) (S : zS), n ≤ 39 → zW 5 d Q 23 [some (zr (some (0, r, 0))), some (zi a), some (zi b), some (zi e), some (zi (nI n))] [] (z_s m r S) 0 = Q none (z_s m r (z_uI (cEntGo e n S) 0 0 11 (z_I S 0 0 11 + 1))) := by
  intro n
  induction n with
  | zero =>
    intro S h
    have h1 : ((0 : Int32) ≤ 0) = True := by decide
    rw [zu_5_23]
    simp only [↓zu_5_63, ↓zx_nil, ↓zx_cons, ↓zp_li, ↓zp_ll, ↓zp_lr, ↓zq_li0, ↓zq_li1, ↓zq_ll0, ↓zq_ll1, ↓zq_lr0, ↓zq_lr1, ↓zk_0, ↓zk_1n, ↓zk_1i, ↓zk_1r, ↓zk_1l, ↓zk_2, zp_okt, ↓zp_okl, zp_sh0, zp_sh1, zp_psn, zp_pss, ↓zp_ri1, ↓zp_ri20, ↓zp_ri21, ↓zp_rl, ↓zp_ra, ↓zp_rv, ↓zp_br, ↓reduceIte, Nat.reduceAdd, Nat.zero_add, Nat.add_zero, Nat.le_refl, Nat.zero_le, ↓zx_aload_0, ↓zyg_0_11, ↓zx_bipush, ↓zy_ic_lt, ↓zx_ret, ↓zx_iload_1, ↓zy_imul, ↓zx_iload_2, ↓zy_iadd, ↓zy_istore_3, ↓zy_istore, ↓zx_iload, ↓zy_if_le, ↓zyg_0_10, ↓zx_iconst, ↓zy_isub, ↓zx_iload_3, ↓zy_ic_le, ↓zy_iinc, ↓zx_goto, ↓zy_dupi, ↓zy_dupr, ↓zyp_0_11, ↓zya_11, ↓zya_14, ↓zya_15, ↓zya_16, ↓zyb_11, ↓zyb_14, ↓zyb_15, ↓zyb_16, h1, nI_0, z_v040, z_c0, true_and, z_g_ss, zq_ss, z_I_u, Nat.reduceEqDiff, false_and, if_false, cEntGo]
  | succ n ih =>
    intro S h
    have h1 : (nI (n + 1) ≤ 0) = False := eq_false (nI_nle (by omega) (by omega))
    have h2 := z_vi1 (show n < 40 by omega) (by decide)
    have h2' := z_vi1 (show n + 1 < 40 by omega) (by decide)
    have h3 := nI_clamp (show n < 2 ^ 31 by omega)
    have h3' := nI_clamp (show n + 1 < 2 ^ 31 by omega)
    rw [zu_5_23]
    simp only [↓zu_5_63, ↓zx_nil, ↓zx_cons, ↓zp_li, ↓zp_ll, ↓zp_lr, ↓zq_li0, ↓zq_li1, ↓zq_ll0, ↓zq_ll1, ↓zq_lr0, ↓zq_lr1, ↓zk_0, ↓zk_1n, ↓zk_1i, ↓zk_1r, ↓zk_1l, ↓zk_2, zp_okt, ↓zp_okl, zp_sh0, zp_sh1, zp_psn, zp_pss, ↓zp_ri1, ↓zp_ri20, ↓zp_ri21, ↓zp_rl, ↓zp_ra, ↓zp_rv, ↓zp_br, ↓reduceIte, Nat.reduceAdd, Nat.zero_add, Nat.add_zero, Nat.le_refl, Nat.zero_le, ↓zx_aload_0, ↓zyg_0_11, ↓zx_bipush, ↓zy_ic_lt, ↓zx_ret, ↓zx_iload_1, ↓zy_imul, ↓zx_iload_2, ↓zy_iadd, ↓zy_istore_3, ↓zy_istore, ↓zx_iload, ↓zy_if_le, ↓zyg_0_10, ↓zx_iconst, ↓zy_isub, ↓zx_iload_3, ↓zy_ic_le, ↓zy_iinc, ↓zx_goto, ↓zy_dupi, ↓zy_dupr, ↓zyp_0_11, ↓zya_11, ↓zya_14, ↓zya_15, ↓zya_16, ↓zyb_11, ↓zyb_14, ↓zyb_15, ↓zyb_16, h1, h2, h2', h3, h3', nI_pred, z_m1, true_and, z_g_ss, zq_ss, ih _ (by omega : n ≤ 39), z_I_u, Nat.reduceEqDiff, false_and, if_false, cEntGo, ← Int32.not_lt]
    by_cases q : e < z_I S 11 0 n
    · simp only [q, not_true_eq_false, if_false, if_true]
    · simp only [q, not_false_eq_true, if_false, if_true]
def cEnter (S : zS) (v : Int32) (i : Nat) : zS := if z_I S 0 0 11 < 40 then z_uI (cEntGo (v * 40 + nI i) (z_I S 0 0 11).toNatClampNeg S) 0 0 11 (z_I S 0 0 11 + 1) else S
set_option maxRecDepth 100000 in
set_option maxHeartbeats 4000000 in
theorem zs_5 (h : z_nn (z_I (z_g m r) 0 0 11) 40) : z_call (d + 1) 5 [zr (some (0, r, 0)), zi v, zi (nI i)] m Q = Q none (z_s m r (cEnter (z_g m r) v i)) := by
  unfold cEnter
  by_cases h1 : z_I (z_g m r) 0 0 11 < 40
  · have h2 : (z_I (z_g m r) 0 0 11).toNatClampNeg ≤ 39 := by
      refine Nat.le_of_lt_succ (Nat.lt_of_not_le fun q => ?_)
      rw [h.eq] at h1
      exact nI_nlt q z_nn_lt h1
    have h3 := zl_5 (d := d) (Q := Q) (r := r) (m := m) (a := v) (b := nI i) (e := v * 40 + nI i) _ (z_g m r) h2
    rw [← h.eq, zq_id] at h3
    simp only [↓zen_5, ↓zu_5_0, ↓zu_5_10, ↓zx_nil, ↓zx_cons, ↓zp_li, ↓zp_ll, ↓zp_lr, ↓zq_li0, ↓zq_li1, ↓zq_ll0, ↓zq_ll1, ↓zq_lr0, ↓zq_lr1, ↓zk_0, ↓zk_1n, ↓zk_1i, ↓zk_1r, ↓zk_1l, ↓zk_2, zp_okt, ↓zp_okl, zp_sh0, zp_sh1, zp_psn, zp_pss, ↓zp_ri1, ↓zp_ri20, ↓zp_ri21, ↓zp_rl, ↓zp_ra, ↓zp_rv, ↓zp_br, ↓reduceIte, Nat.reduceAdd, Nat.zero_add, Nat.add_zero, Nat.le_refl, Nat.zero_le, ↓zx_aload_0, ↓zyg_0_11, ↓zx_bipush, ↓zy_ic_lt, ↓zx_ret, ↓zx_iload_1, ↓zy_imul, ↓zx_iload_2, ↓zy_iadd, ↓zy_istore_3, ↓zy_istore, ↓zx_iload, ↓zy_if_le, ↓zyg_0_10, ↓zx_iconst, ↓zy_isub, ↓zx_iload_3, ↓zy_ic_le, ↓zy_iinc, ↓zx_goto, ↓zy_dupi, ↓zy_dupr, ↓zyp_0_11, ↓zya_11, ↓zya_14, ↓zya_15, ↓zya_16, ↓zyb_11, ↓zyb_14, ↓zyb_15, ↓zyb_16, h1, if_true]
    exact h3
  · simp only [↓zen_5, ↓zu_5_0, ↓zx_nil, ↓zx_cons, ↓zp_li, ↓zp_ll, ↓zp_lr, ↓zq_li0, ↓zq_li1, ↓zq_ll0, ↓zq_ll1, ↓zq_lr0, ↓zq_lr1, ↓zk_0, ↓zk_1n, ↓zk_1i, ↓zk_1r, ↓zk_1l, ↓zk_2, zp_okt, ↓zp_okl, zp_sh0, zp_sh1, zp_psn, zp_pss, ↓zp_ri1, ↓zp_ri20, ↓zp_ri21, ↓zp_rl, ↓zp_ra, ↓zp_rv, ↓zp_br, ↓reduceIte, Nat.reduceAdd, Nat.zero_add, Nat.add_zero, Nat.le_refl, Nat.zero_le, ↓zx_aload_0, ↓zyg_0_11, ↓zx_bipush, ↓zy_ic_lt, ↓zx_ret, ↓zx_iload_1, ↓zy_imul, ↓zx_iload_2, ↓zy_iadd, ↓zy_istore_3, ↓zy_istore, ↓zx_iload, ↓zy_if_le, ↓zyg_0_10, ↓zx_iconst, ↓zy_isub, ↓zx_iload_3, ↓zy_ic_le, ↓zy_iinc, ↓zx_goto, ↓zy_dupi, ↓zy_dupr, ↓zyp_0_11, ↓zya_11, ↓zya_14, ↓zya_15, ↓zya_16, ↓zyb_11, ↓zyb_14, ↓zyb_15, ↓zyb_16, h1, if_false, zq_id]
theorem cEnter_nn {S : zS} {v : Int32} {i : Nat} (h : z_nn (z_I S 0 0 11) 40) : z_nn (z_I (cEnter S v i) 0 0 11) 40 := by
  unfold cEnter
  split
  · rename_i h1
    rw [z_I_u, if_pos ⟨rfl, rfl, rfl⟩]
    have hlt : (z_I S 0 0 11).toNatClampNeg < 40 := by
      refine Nat.lt_of_not_le fun q => ?_
      rw [h.eq] at h1
      exact nI_nlt q z_nn_lt h1
    rw [h.eq, nI_1]
    exact ⟨nI_pos' (by omega), by rw [nI_clamp (by omega)]; omega⟩
  · exact h
theorem cEnter_o {S : zS} {v : Int32} {j k i f : Nat} (h : k ≠ 11) (h2 : ¬ (k = 0 ∧ i = 0 ∧ f = 11)) : z_I (cEnter S v j) k i f = z_I S k i f := by
  unfold cEnter
  split
  · rw [z_I_u, if_neg h2, cEntGo_o h]
  · rfl
theorem cEnter_J {S : zS} {v : Int32} {j k i f : Nat} : z_J (cEnter S v j) k i f = z_J S k i f := by
  unfold cEnter
  split
  · rw [z_J_uI, cEntGo_J]
  · rfl
-- lines
def cLuW (i : Nat) (S : zS) : zS := if z_I S 3 i 0 = 0 then cEnter S (z_I S 3 i 6) i else S
def cLuG (i : Nat) (S : zS) : zS := if z_I S 3 i 0 = 1 then cEnter S (cLatest S i) i else S
def cLuT (v w : Int32) (i : Nat) (S : zS) : zS := if z_I S 3 i 0 = 1 ∧ z_I S 3 i 2 = v ∧ z_I S 3 i 3 = w then cEnter S (cLatest S i) i else S
def cLuL (i : Nat) (S : zS) : zS := if z_I S 3 i 0 = 1 ∧ cLatest S i < z_I S 0 0 0 then cEnter S 0 i else S
def cLUp (f : Nat → zS → zS) (S : zS) : zS := z_it f (cL S) 0 (z_uI S 0 0 11 0)
theorem z_nnr {S : zS} : z_nn (z_I (z_uI S 0 0 11 0) 0 0 11) 40 := by rw [z_I_u, if_pos ⟨rfl, rfl, rfl⟩]; exact ⟨by decide, by decide⟩
theorem z_l5 {S : zS} : z_I (z_uI S 0 0 11 0) 0 0 5 = z_I S 0 0 5 := by simp [z_I_u]
set_option maxRecDepth 100000 in
set_option maxHeartbeats 4000000 in
theorem zl_004 {t : Nat} (ht2 : t ≤ 40) : ∀ (n i : Nat) (S : zS), z_I S 0 0 5 = nI t → z_nn (z_I S 0 0 11) 40 → i + n = t → zW 4 (d + 1) Q 7 [some (zr (some (0, r, 0))), some (zi (nI i))] [] (z_s m r S) 0 = Q (some (zi (z_I (z_it cLuW n i S) 0 0 11))) (z_s m r (z_it cLuW n i S)) := by
  intro n
  induction n with
  | zero =>
    intro i S ht hr hi
    have h1 := z_le1 (show t ≤ i by omega) (by omega)
    rw [zu_4_7]
    simp only [↓zu_4_47, ↓zx_nil, ↓zx_cons, ↓zp_li, ↓zp_ll, ↓zp_lr, ↓zq_li0, ↓zq_li1, ↓zq_ll0, ↓zq_ll1, ↓zq_lr0, ↓zq_lr1, ↓zk_0, ↓zk_1n, ↓zk_1i, ↓zk_1r, ↓zk_1l, ↓zk_2, zp_okt, ↓zp_okl, zp_sh0, zp_sh1, zp_psn, zp_pss, ↓zp_ri1, ↓zp_ri20, ↓zp_ri21, ↓zp_rl, ↓zp_ra, ↓zp_rv, ↓zp_br, ↓reduceIte, Nat.reduceAdd, Nat.zero_add, Nat.add_zero, Nat.le_refl, Nat.zero_le, ↓zx_aload_0, ↓zx_iconst, ↓zyp_0_11, ↓zy_istore_1, ↓zx_iload_1, ↓zyg_0_5, ↓zy_ic_ge, ↓zyg_0_9, ↓zya_7, ↓zya_8, ↓zya_9, ↓zya_10, ↓zya_17, ↓zya_18, ↓zyg_3_0, ↓zy_if_ne, ↓zyg_3_6, ↓zyc_5, ↓zy_iinc, ↓zx_goto, ↓zyg_0_11, ↓zx_iret, z_g_ss, ht, h1, z_it]
  | succ n ih =>
    intro i S ht hr hi
    have h1 := z_le0 (show i < t by omega) (by omega)
    have h2 := z_vi1 (show i < 40 by omega) (by decide)
    have h3 := nI_clamp (show i < 2 ^ 31 by omega)
    have h5 := fun v Q => zs_5 (d := d) (r := r) (m := z_s m r S) (Q := Q) (v := v) (i := i) (by rw [z_g_ss]; exact hr)
    rw [zu_4_7]
    simp only [↓zu_4_41, ↓zx_nil, ↓zx_cons, ↓zp_li, ↓zp_ll, ↓zp_lr, ↓zq_li0, ↓zq_li1, ↓zq_ll0, ↓zq_ll1, ↓zq_lr0, ↓zq_lr1, ↓zk_0, ↓zk_1n, ↓zk_1i, ↓zk_1r, ↓zk_1l, ↓zk_2, zp_okt, ↓zp_okl, zp_sh0, zp_sh1, zp_psn, zp_pss, ↓zp_ri1, ↓zp_ri20, ↓zp_ri21, ↓zp_rl, ↓zp_ra, ↓zp_rv, ↓zp_br, ↓reduceIte, Nat.reduceAdd, Nat.zero_add, Nat.add_zero, Nat.le_refl, Nat.zero_le, ↓zx_aload_0, ↓zx_iconst, ↓zyp_0_11, ↓zy_istore_1, ↓zx_iload_1, ↓zyg_0_5, ↓zy_ic_ge, ↓zyg_0_9, ↓zya_7, ↓zya_8, ↓zya_9, ↓zya_10, ↓zya_17, ↓zya_18, ↓zyg_3_0, ↓zy_if_ne, ↓zyg_3_6, ↓zyc_5, ↓zy_iinc, ↓zx_goto, ↓zyg_0_11, ↓zx_iret, z_g_ss, zq_ss, ht, h1, h2, h3, true_and, nI_1, h5, z_it, cLuW]
    by_cases e : z_I S 3 i 0 = 0
    · simp only [e, if_true]
      rw [ih (i + 1) _ (by rw [cEnter_o (by decide) (by decide)]; exact ht) (cEnter_nn hr) (by omega)]
    · simp only [e, if_false]
      rw [ih (i + 1) _ ht hr (by omega)]
set_option maxRecDepth 100000 in
set_option maxHeartbeats 4000000 in
theorem zs_4 (h : z_nn (z_I (z_g m r) 0 0 5) 40) : z_call (d + 2) 4 [zr (some (0, r, 0))] m Q = Q (some (zi (z_I (cLUp cLuW (z_g m r)) 0 0 11))) (z_s m r (cLUp cLuW (z_g m r))) := by
  simp only [↓zen_4, ↓zu_4_0, ↓zx_nil, ↓zx_cons, ↓zp_li, ↓zp_ll, ↓zp_lr, ↓zq_li0, ↓zq_li1, ↓zq_ll0, ↓zq_ll1, ↓zq_lr0, ↓zq_lr1, ↓zk_0, ↓zk_1n, ↓zk_1i, ↓zk_1r, ↓zk_1l, ↓zk_2, zp_okt, ↓zp_okl, zp_sh0, zp_sh1, zp_psn, zp_pss, ↓zp_ri1, ↓zp_ri20, ↓zp_ri21, ↓zp_rl, ↓zp_ra, ↓zp_rv, ↓zp_br, ↓reduceIte, Nat.reduceAdd, Nat.zero_add, Nat.add_zero, Nat.le_refl, Nat.zero_le, ↓zx_aload_0, ↓zx_iconst, ↓zyp_0_11, ↓zy_istore_1, ↓zx_iload_1, ↓zyg_0_5, ↓zy_ic_ge, ↓zyg_0_9, ↓zya_7, ↓zya_8, ↓zya_9, ↓zya_10, ↓zya_17, ↓zya_18, ↓zyg_3_0, ↓zy_if_ne, ↓zyg_3_6, ↓zyc_5, ↓zy_iinc, ↓zx_goto, ↓zyg_0_11, ↓zx_iret]
  exact zl_004 h.2 (cL (z_g m r)) 0 _ (z_l5.trans h.eq) z_nnr (by unfold cL; omega)
set_option maxRecDepth 100000 in
set_option maxHeartbeats 4000000 in
theorem zl_39 {t : Nat} (ht2 : t ≤ 40) : ∀ (n i : Nat) (S : zS), z_I S 0 0 5 = nI t → z_nn (z_I S 0 0 11) 40 → i + n = t → zW 39 (d + 1) Q 7 [some (zr (some (0, r, 0))), some (zi (nI i))] [] (z_s m r S) 0 = Q (some (zi (z_I (z_it cLuG n i S) 0 0 11))) (z_s m r (z_it cLuG n i S)) := by
  intro n
  induction n with
  | zero =>
    intro i S ht hr hi
    have h1 := z_le1 (show t ≤ i by omega) (by omega)
    rw [zu_39_7]
    simp only [↓zu_39_48, ↓zx_nil, ↓zx_cons, ↓zp_li, ↓zp_ll, ↓zp_lr, ↓zq_li0, ↓zq_li1, ↓zq_ll0, ↓zq_ll1, ↓zq_lr0, ↓zq_lr1, ↓zk_0, ↓zk_1n, ↓zk_1i, ↓zk_1r, ↓zk_1l, ↓zk_2, zp_okt, ↓zp_okl, zp_sh0, zp_sh1, zp_psn, zp_pss, ↓zp_ri1, ↓zp_ri20, ↓zp_ri21, ↓zp_rl, ↓zp_ra, ↓zp_rv, ↓zp_br, ↓reduceIte, Nat.reduceAdd, Nat.zero_add, Nat.add_zero, Nat.le_refl, Nat.zero_le, ↓zx_aload_0, ↓zx_iconst, ↓zyp_0_11, ↓zy_istore_1, ↓zx_iload_1, ↓zyg_0_5, ↓zy_ic_ge, ↓zyg_0_9, ↓zya_7, ↓zya_8, ↓zya_9, ↓zya_10, ↓zya_17, ↓zya_18, ↓zyg_3_0, ↓zy_ic_ne, ↓zyc_60, ↓zyc_5, ↓zy_iinc, ↓zx_goto, ↓zyg_0_11, ↓zx_iret, z_g_ss, ht, h1, z_it]
  | succ n ih =>
    intro i S ht hr hi
    have h1 := z_le0 (show i < t by omega) (by omega)
    have h2 := z_vi1 (show i < 40 by omega) (by decide)
    have h3 := nI_clamp (show i < 2 ^ 31 by omega)
    have h5 := fun v Q => zs_5 (d := d) (r := r) (m := z_s m r S) (Q := Q) (v := v) (i := i) (by rw [z_g_ss]; exact hr)
    rw [zu_39_7]
    simp only [↓zu_39_42, ↓zx_nil, ↓zx_cons, ↓zp_li, ↓zp_ll, ↓zp_lr, ↓zq_li0, ↓zq_li1, ↓zq_ll0, ↓zq_ll1, ↓zq_lr0, ↓zq_lr1, ↓zk_0, ↓zk_1n, ↓zk_1i, ↓zk_1r, ↓zk_1l, ↓zk_2, zp_okt, ↓zp_okl, zp_sh0, zp_sh1, zp_psn, zp_pss, ↓zp_ri1, ↓zp_ri20, ↓zp_ri21, ↓zp_rl, ↓zp_ra, ↓zp_rv, ↓zp_br, ↓reduceIte, Nat.reduceAdd, Nat.zero_add, Nat.add_zero, Nat.le_refl, Nat.zero_le, ↓zx_aload_0, ↓zx_iconst, ↓zyp_0_11, ↓zy_istore_1, ↓zx_iload_1, ↓zyg_0_5, ↓zy_ic_ge, ↓zyg_0_9, ↓zya_7, ↓zya_8, ↓zya_9, ↓zya_10, ↓zya_17, ↓zya_18, ↓zyg_3_0, ↓zy_ic_ne, ↓zyc_60, ↓zyc_5, ↓zy_iinc, ↓zx_goto, ↓zyg_0_11, ↓zx_iret, z_g_ss, zq_ss, ht, h1, h2, h3, true_and, nI_1, ↓zs_60, h5, z_it, cLuG]
    by_cases e : z_I S 3 i 0 = 1
    · simp only [e, if_true]
      rw [ih (i + 1) _ (by rw [cEnter_o (by decide) (by decide)]; exact ht) (cEnter_nn hr) (by omega)]
    · simp only [e, if_false]
      rw [ih (i + 1) _ ht hr (by omega)]
set_option maxRecDepth 100000 in
set_option maxHeartbeats 4000000 in
theorem zs_39 (h : z_nn (z_I (z_g m r) 0 0 5) 40) : z_call (d + 2) 39 [zr (some (0, r, 0))] m Q = Q (some (zi (z_I (cLUp cLuG (z_g m r)) 0 0 11))) (z_s m r (cLUp cLuG (z_g m r))) := by
  simp only [↓zen_39, ↓zu_39_0, ↓zx_nil, ↓zx_cons, ↓zp_li, ↓zp_ll, ↓zp_lr, ↓zq_li0, ↓zq_li1, ↓zq_ll0, ↓zq_ll1, ↓zq_lr0, ↓zq_lr1, ↓zk_0, ↓zk_1n, ↓zk_1i, ↓zk_1r, ↓zk_1l, ↓zk_2, zp_okt, ↓zp_okl, zp_sh0, zp_sh1, zp_psn, zp_pss, ↓zp_ri1, ↓zp_ri20, ↓zp_ri21, ↓zp_rl, ↓zp_ra, ↓zp_rv, ↓zp_br, ↓reduceIte, Nat.reduceAdd, Nat.zero_add, Nat.add_zero, Nat.le_refl, Nat.zero_le, ↓zx_aload_0, ↓zx_iconst, ↓zyp_0_11, ↓zy_istore_1, ↓zx_iload_1, ↓zyg_0_5, ↓zy_ic_ge, ↓zyg_0_9, ↓zya_7, ↓zya_8, ↓zya_9, ↓zya_10, ↓zya_17, ↓zya_18, ↓zyg_3_0, ↓zy_ic_ne, ↓zyc_60, ↓zyc_5, ↓zy_iinc, ↓zx_goto, ↓zyg_0_11, ↓zx_iret]
  exact zl_39 h.2 (cL (z_g m r)) 0 _ (z_l5.trans h.eq) z_nnr (by unfold cL; omega)
set_option maxRecDepth 100000 in
set_option maxHeartbeats 4000000 in
theorem zl_31 {t : Nat} (ht2 : t ≤ 40) : ∀ (n i : Nat) (S : zS), z_I S 0 0 5 = nI t → z_nn (z_I S 0 0 11) 40 → i + n = t → zW 31 (d + 1) Q 7 [some (zr (some (0, r, 0))), some (zi v), some (zi w), some (zi (nI i))] [] (z_s m r S) 0 = Q (some (zi (z_I (z_it (cLuT v w) n i S) 0 0 11))) (z_s m r (z_it (cLuT v w) n i S)) := by
  intro n
  induction n with
  | zero =>
    intro i S ht hr hi
    have h1 := z_le1 (show t ≤ i by omega) (by omega)
    rw [zu_31_7]
    simp only [↓zu_31_50, ↓zx_nil, ↓zx_cons, ↓zp_li, ↓zp_ll, ↓zp_lr, ↓zq_li0, ↓zq_li1, ↓zq_ll0, ↓zq_ll1, ↓zq_lr0, ↓zq_lr1, ↓zk_0, ↓zk_1n, ↓zk_1i, ↓zk_1r, ↓zk_1l, ↓zk_2, zp_okt, ↓zp_okl, zp_sh0, zp_sh1, zp_psn, zp_pss, ↓zp_ri1, ↓zp_ri20, ↓zp_ri21, ↓zp_rl, ↓zp_ra, ↓zp_rv, ↓zp_br, ↓reduceIte, Nat.reduceAdd, Nat.zero_add, Nat.add_zero, Nat.le_refl, Nat.zero_le, ↓zx_aload_0, ↓zx_iconst, ↓zyp_0_11, ↓zy_istore_3, ↓zx_iload_3, ↓zyg_0_5, ↓zy_ic_ge, ↓zyg_0_9, ↓zya_7, ↓zya_8, ↓zya_9, ↓zya_10, ↓zya_17, ↓zya_18, ↓zx_iload_1, ↓zx_iload_2, ↓zyc_29, ↓zy_if_eq, ↓zyc_60, ↓zyc_5, ↓zy_iinc, ↓zx_goto, ↓zyg_0_11, ↓zx_iret, z_g_ss, ht, h1, z_it]
  | succ n ih =>
    intro i S ht hr hi
    have h1 := z_le0 (show i < t by omega) (by omega)
    have h2 := z_vi1 (show i < 40 by omega) (by decide)
    have h3 := nI_clamp (show i < 2 ^ 31 by omega)
    have h5 := fun v Q => zs_5 (d := d) (r := r) (m := z_s m r S) (Q := Q) (v := v) (i := i) (by rw [z_g_ss]; exact hr)
    rw [zu_31_7]
    simp only [↓zu_31_44, ↓zx_nil, ↓zx_cons, ↓zp_li, ↓zp_ll, ↓zp_lr, ↓zq_li0, ↓zq_li1, ↓zq_ll0, ↓zq_ll1, ↓zq_lr0, ↓zq_lr1, ↓zk_0, ↓zk_1n, ↓zk_1i, ↓zk_1r, ↓zk_1l, ↓zk_2, zp_okt, ↓zp_okl, zp_sh0, zp_sh1, zp_psn, zp_pss, ↓zp_ri1, ↓zp_ri20, ↓zp_ri21, ↓zp_rl, ↓zp_ra, ↓zp_rv, ↓zp_br, ↓reduceIte, Nat.reduceAdd, Nat.zero_add, Nat.add_zero, Nat.le_refl, Nat.zero_le, ↓zx_aload_0, ↓zx_iconst, ↓zyp_0_11, ↓zy_istore_3, ↓zx_iload_3, ↓zyg_0_5, ↓zy_ic_ge, ↓zyg_0_9, ↓zya_7, ↓zya_8, ↓zya_9, ↓zya_10, ↓zya_17, ↓zya_18, ↓zx_iload_1, ↓zx_iload_2, ↓zyc_29, ↓zy_if_eq, ↓zyc_60, ↓zyc_5, ↓zy_iinc, ↓zx_goto, ↓zyg_0_11, ↓zx_iret, z_g_ss, zq_ss, ht, h1, h2, h3, true_and, nI_1, ↓zs_60, ↓zs_29, z_i10, h5, z_it, cLuT]
    by_cases e : z_I S 3 i 0 = 1 ∧ z_I S 3 i 2 = v ∧ z_I S 3 i 3 = w
    · rw [if_neg (fun q => q e), if_pos e]
      rw [ih (i + 1) _ (by rw [cEnter_o (by decide) (by decide)]; exact ht) (cEnter_nn hr) (by omega)]
    · rw [if_pos e, if_neg e]
      rw [ih (i + 1) _ ht hr (by omega)]
set_option maxRecDepth 100000 in
set_option maxHeartbeats 4000000 in
theorem zs_31 (h : z_nn (z_I (z_g m r) 0 0 5) 40) : z_call (d + 2) 31 [zr (some (0, r, 0)), zi v, zi w] m Q = Q (some (zi (z_I (cLUp (cLuT v w) (z_g m r)) 0 0 11))) (z_s m r (cLUp (cLuT v w) (z_g m r))) := by
  simp only [↓zen_31, ↓zu_31_0, ↓zx_nil, ↓zx_cons, ↓zp_li, ↓zp_ll, ↓zp_lr, ↓zq_li0, ↓zq_li1, ↓zq_ll0, ↓zq_ll1, ↓zq_lr0, ↓zq_lr1, ↓zk_0, ↓zk_1n, ↓zk_1i, ↓zk_1r, ↓zk_1l, ↓zk_2, zp_okt, ↓zp_okl, zp_sh0, zp_sh1, zp_psn, zp_pss, ↓zp_ri1, ↓zp_ri20, ↓zp_ri21, ↓zp_rl, ↓zp_ra, ↓zp_rv, ↓zp_br, ↓reduceIte, Nat.reduceAdd, Nat.zero_add, Nat.add_zero, Nat.le_refl, Nat.zero_le, ↓zx_aload_0, ↓zx_iconst, ↓zyp_0_11, ↓zy_istore_3, ↓zx_iload_3, ↓zyg_0_5, ↓zy_ic_ge, ↓zyg_0_9, ↓zya_7, ↓zya_8, ↓zya_9, ↓zya_10, ↓zya_17, ↓zya_18, ↓zx_iload_1, ↓zx_iload_2, ↓zyc_29, ↓zy_if_eq, ↓zyc_60, ↓zyc_5, ↓zy_iinc, ↓zx_goto, ↓zyg_0_11, ↓zx_iret]
  exact zl_31 h.2 (cL (z_g m r)) 0 _ (z_l5.trans h.eq) z_nnr (by unfold cL; omega)
set_option maxRecDepth 100000 in
set_option maxHeartbeats 4000000 in
theorem zl_40 {t : Nat} (ht2 : t ≤ 40) : ∀ (n i : Nat) (S : zS), z_I S 0 0 5 = nI t → z_nn (z_I S 0 0 11) 40 → i + n = t → zW 40 (d + 2) Q 7 [some (zr (some (0, r, 0))), some (zi (nI i))] [] (z_s m r S) 0 = Q (some (zi (z_I (z_it cLuL n i S) 0 0 11))) (z_s m r (z_it cLuL n i S)) := by
  intro n
  induction n with
  | zero =>
    intro i S ht hr hi
    have h1 := z_le1 (show t ≤ i by omega) (by omega)
    rw [zu_40_7]
    simp only [↓zu_40_53, ↓zx_nil, ↓zx_cons, ↓zp_li, ↓zp_ll, ↓zp_lr, ↓zq_li0, ↓zq_li1, ↓zq_ll0, ↓zq_ll1, ↓zq_lr0, ↓zq_lr1, ↓zk_0, ↓zk_1n, ↓zk_1i, ↓zk_1r, ↓zk_1l, ↓zk_2, zp_okt, ↓zp_okl, zp_sh0, zp_sh1, zp_psn, zp_pss, ↓zp_ri1, ↓zp_ri20, ↓zp_ri21, ↓zp_rl, ↓zp_ra, ↓zp_rv, ↓zp_br, ↓reduceIte, Nat.reduceAdd, Nat.zero_add, Nat.add_zero, Nat.le_refl, Nat.zero_le, ↓zx_aload_0, ↓zx_iconst, ↓zyp_0_11, ↓zy_istore_1, ↓zx_iload_1, ↓zyg_0_5, ↓zy_ic_ge, ↓zyg_0_9, ↓zya_7, ↓zya_8, ↓zya_9, ↓zya_10, ↓zya_17, ↓zya_18, ↓zyg_3_0, ↓zy_ic_ne, ↓zyc_41, ↓zy_if_eq, ↓zyc_5, ↓zy_iinc, ↓zx_goto, ↓zyg_0_11, ↓zx_iret, z_g_ss, ht, h1, z_it]
  | succ n ih =>
    intro i S ht hr hi
    have h1 := z_le0 (show i < t by omega) (by omega)
    have h2 := z_vi1 (show i < 40 by omega) (by decide)
    have h3 := nI_clamp (show i < 2 ^ 31 by omega)
    have h5 := fun v Q => zs_5 (d := d + 1) (r := r) (m := z_s m r S) (Q := Q) (v := v) (i := i) (by rw [z_g_ss]; exact hr)
    rw [zu_40_7]
    simp only [↓zu_40_47, ↓zx_nil, ↓zx_cons, ↓zp_li, ↓zp_ll, ↓zp_lr, ↓zq_li0, ↓zq_li1, ↓zq_ll0, ↓zq_ll1, ↓zq_lr0, ↓zq_lr1, ↓zk_0, ↓zk_1n, ↓zk_1i, ↓zk_1r, ↓zk_1l, ↓zk_2, zp_okt, ↓zp_okl, zp_sh0, zp_sh1, zp_psn, zp_pss, ↓zp_ri1, ↓zp_ri20, ↓zp_ri21, ↓zp_rl, ↓zp_ra, ↓zp_rv, ↓zp_br, ↓reduceIte, Nat.reduceAdd, Nat.zero_add, Nat.add_zero, Nat.le_refl, Nat.zero_le, ↓zx_aload_0, ↓zx_iconst, ↓zyp_0_11, ↓zy_istore_1, ↓zx_iload_1, ↓zyg_0_5, ↓zy_ic_ge, ↓zyg_0_9, ↓zya_7, ↓zya_8, ↓zya_9, ↓zya_10, ↓zya_17, ↓zya_18, ↓zyg_3_0, ↓zy_ic_ne, ↓zyc_41, ↓zy_if_eq, ↓zyc_5, ↓zy_iinc, ↓zx_goto, ↓zyg_0_11, ↓zx_iret, z_g_ss, zq_ss, ht, h1, h2, h3, true_and, nI_1, ↓zs_41, z_i10, h5, z_it, cLuL]
    by_cases e : z_I S 3 i 0 = 1
    · by_cases e2 : cLatest S i < z_I S 0 0 0
      · simp only [e, e2, if_true, not_true_eq_false, if_false, and_self]
        rw [ih (i + 1) _ (by rw [cEnter_o (by decide) (by decide)]; exact ht) (cEnter_nn hr) (by omega)]
      · simp only [e, e2, if_true, not_false_eq_true, if_false, and_false]
        rw [ih (i + 1) _ ht hr (by omega)]
    · simp only [e, if_false, false_and]
      rw [ih (i + 1) _ ht hr (by omega)]
set_option maxRecDepth 100000 in
set_option maxHeartbeats 4000000 in
theorem zs_40 (h : z_nn (z_I (z_g m r) 0 0 5) 40) : z_call (d + 3) 40 [zr (some (0, r, 0))] m Q = Q (some (zi (z_I (cLUp cLuL (z_g m r)) 0 0 11))) (z_s m r (cLUp cLuL (z_g m r))) := by
  simp only [↓zen_40, ↓zu_40_0, ↓zx_nil, ↓zx_cons, ↓zp_li, ↓zp_ll, ↓zp_lr, ↓zq_li0, ↓zq_li1, ↓zq_ll0, ↓zq_ll1, ↓zq_lr0, ↓zq_lr1, ↓zk_0, ↓zk_1n, ↓zk_1i, ↓zk_1r, ↓zk_1l, ↓zk_2, zp_okt, ↓zp_okl, zp_sh0, zp_sh1, zp_psn, zp_pss, ↓zp_ri1, ↓zp_ri20, ↓zp_ri21, ↓zp_rl, ↓zp_ra, ↓zp_rv, ↓zp_br, ↓reduceIte, Nat.reduceAdd, Nat.zero_add, Nat.add_zero, Nat.le_refl, Nat.zero_le, ↓zx_aload_0, ↓zx_iconst, ↓zyp_0_11, ↓zy_istore_1, ↓zx_iload_1, ↓zyg_0_5, ↓zy_ic_ge, ↓zyg_0_9, ↓zya_7, ↓zya_8, ↓zya_9, ↓zya_10, ↓zya_17, ↓zya_18, ↓zyg_3_0, ↓zy_ic_ne, ↓zyc_41, ↓zy_if_eq, ↓zyc_5, ↓zy_iinc, ↓zx_goto, ↓zyg_0_11, ↓zx_iret]
  exact zl_40 h.2 (cL (z_g m r)) 0 _ (z_l5.trans h.eq) z_nnr (by unfold cL; omega)
-- new ones
set_option maxRecDepth 100000 in
set_option maxHeartbeats 4000000 in
theorem zs_2 (h : vp_in (z_I (z_g m r) 0 0 3) 4) : z_call (d + 2) 2 [zr (some (0, r, 0)), zi v] m Q = Q (some (zi (z_I (z_g m r) 0 0 3))) (z_s m r (z_uI (cBegin (z_g m r) (z_I (z_g m r) 0 0 3).toNatClampNeg v) 0 0 3 (z_I (z_g m r) 0 0 3 + 1))) := by
  have h1 : ∀ (S : zS) (g : Nat) (v : Int32), z_I (cBegin S g v) 0 0 3 = z_I S 0 0 3 := fun S g v => by simp [cBegin, z_I_u, z_I_uJ]
  simp only [↓zen_2, ↓zu_2_0, ↓zx_nil, ↓zx_cons, ↓zp_li, ↓zp_ll, ↓zp_lr, ↓zq_li0, ↓zq_li1, ↓zq_ll0, ↓zq_ll1, ↓zq_lr0, ↓zq_lr1, ↓zk_0, ↓zk_1n, ↓zk_1i, ↓zk_1r, ↓zk_1l, ↓zk_2, zp_okt, ↓zp_okl, zp_sh0, zp_sh1, zp_psn, zp_pss, ↓zp_ri1, ↓zp_ri20, ↓zp_ri21, ↓zp_rl, ↓zp_ra, ↓zp_rv, ↓zp_br, ↓reduceIte, Nat.reduceAdd, Nat.zero_add, Nat.add_zero, Nat.le_refl, Nat.zero_le, ↓zx_aload_0, ↓zyg_0_3, ↓zy_istore_2, ↓zyg_0_6, ↓zx_iload_2, ↓zya_7, ↓zya_8, ↓zya_9, ↓zya_10, ↓zya_17, ↓zya_18, ↓zx_iload_1, ↓zyc_46, ↓zy_dupi, ↓zy_dupr, ↓zx_iconst, ↓zy_iadd, ↓zyp_0_3, ↓zx_iret, eq_true h, true_and, ↓zs_46, z_g_ss, zq_ss, h1]
theorem cAppend_0 {S : zS} {s i f : Nat} {g n : Int32} : z_I (cAppend S s g n).2 0 i f = z_I S 0 i f := by
  unfold cAppend
  split
  · rfl
  · split
    · simp [z_I_u]
    · rfl
theorem cLineSt_0 {s i f : Nat} {g : Int32} {p : Int32 × zS} : z_I (cLineSt s g p).2 0 i f = z_I p.2 0 i f := by
  unfold cLineSt
  split
  · rfl
  · rw [cAppend_0]
theorem cLineUp_0 {S : zS} {s i f : Nat} {a b c : Int32} : z_I (cLineUp S s a b c) 0 i f = z_I S 0 i f := by
  unfold cLineUp
  rw [cLineSt_0, cLineSt_0, cLineSt_0, cLineSt_0]
  simp only [z_I_u, Nat.reduceEqDiff, false_and, if_false, cLine0, cAppend_0]
set_option maxRecDepth 100000 in
set_option maxHeartbeats 4000000 in
theorem zs_14 (h : vp_in (z_I (z_g m r) 0 0 4) 6) : z_call (d + 4) 14 [zr (some (0, r, 0)), zi a, zi b, zi c] m Q = Q (some (zi (z_I (z_g m r) 0 0 4))) (z_s m r (z_uI (cBeginS (z_g m r) (z_I (z_g m r) 0 0 4).toNatClampNeg a b c) 0 0 4 (z_I (z_g m r) 0 0 4 + 1))) := by
  have h1 : ∀ (S : zS) (g : Nat) (a b c : Int32), z_I (cBeginS S g a b c) 0 0 4 = z_I S 0 0 4 := fun S g a b c => by unfold cBeginS; rw [cLineUp_0]; simp [z_I_u]
  simp only [↓zen_14, ↓zu_14_0, ↓zx_nil, ↓zx_cons, ↓zp_li, ↓zp_ll, ↓zp_lr, ↓zq_li0, ↓zq_li1, ↓zq_ll0, ↓zq_ll1, ↓zq_lr0, ↓zq_lr1, ↓zk_0, ↓zk_1n, ↓zk_1i, ↓zk_1r, ↓zk_1l, ↓zk_2, zp_okt, ↓zp_okl, zp_sh0, zp_sh1, zp_psn, zp_pss, ↓zp_ri1, ↓zp_ri20, ↓zp_ri21, ↓zp_rl, ↓zp_ra, ↓zp_rv, ↓zp_br, ↓reduceIte, Nat.reduceAdd, Nat.zero_add, Nat.add_zero, Nat.le_refl, Nat.zero_le, ↓zx_aload_0, ↓zyg_0_4, ↓zy_istore, ↓zyg_0_7, ↓zx_iload, ↓zya_7, ↓zya_8, ↓zya_9, ↓zya_10, ↓zya_17, ↓zya_18, ↓zx_iload_1, ↓zx_iload_2, ↓zx_iload_3, ↓zyc_65, ↓zy_dupi, ↓zy_dupr, ↓zx_iconst, ↓zy_iadd, ↓zyp_0_4, ↓zx_iret, eq_true h, true_and, ↓zs_65, z_g_ss, zq_ss, h1]
-- copies of a Book
def cpHd (S T : zS) : zS := z_uI (z_uI (z_uI (z_uI (z_uI (z_uI S 0 0 0 (z_I T 0 0 0)) 0 0 1 (z_I T 0 0 1)) 0 0 2 (z_I T 0 0 2)) 0 0 3 (z_I T 0 0 3)) 0 0 4 (z_I T 0 0 4)) 0 0 5 (z_I T 0 0 5)
def cpBk (S T : zS) : zS :=
  z_it (fun i S => cpLo S i T i) (cL T) 0 (z_it (fun i S => cpKi S i T i) 5 0 (z_it (fun i S => cpSr S i T i) (cS T) 0 (z_it (fun i S => cpGu S i T i) (cG T) 0 (cpHd S T))))
set_option maxRecDepth 100000 in
set_option maxHeartbeats 4000000 in
theorem zl_1a {t : Nat} (ht2 : t ≤ 4) (hr : r2 ≠ r) {e : zL} : ∀ (n i : Nat) (S : zS), z_I S 0 0 3 = nI t → i + n = t → zW 1 (d + 1) Q 50 [some (zr (some (0, r, 0))), some (zr (some (0, r2, 0))), some (zi (nI i))] [] (z_s m r S) 0 = zW 1 (d + 1) Q 81 [some (zr (some (0, r, 0))), some (zr (some (0, r2, 0))), some (zi 0)] [] (z_s m r (z_it (fun i S => cpGu S i (z_g m r2) i) n i S)) 0 := by
  intro n
  induction n with
  | zero =>
    intro i S ht hi
    have h1 := z_le1 (show t ≤ i by omega) (by omega)
    rw [zu_1_50]
    simp only [↓zu_1_79, ↓zx_nil, ↓zx_cons, ↓zp_li, ↓zp_ll, ↓zp_lr, ↓zq_li0, ↓zq_li1, ↓zq_ll0, ↓zq_ll1, ↓zq_lr0, ↓zq_lr1, ↓zk_0, ↓zk_1n, ↓zk_1i, ↓zk_1r, ↓zk_1l, ↓zk_2, zp_okt, ↓zp_okl, zp_sh0, zp_sh1, zp_psn, zp_pss, ↓zp_ri1, ↓zp_ri20, ↓zp_ri21, ↓zp_rl, ↓zp_ra, ↓zp_rv, ↓zp_br, ↓reduceIte, Nat.reduceAdd, Nat.zero_add, Nat.add_zero, Nat.le_refl, Nat.zero_le, ↓zx_aload_0, ↓zx_aload_1, ↓zyg_0_0, ↓zyp_0_0, ↓zyg_0_1, ↓zyp_0_1, ↓zyg_0_2, ↓zyp_0_2, ↓zyg_0_3, ↓zyp_0_3, ↓zyg_0_4, ↓zyp_0_4, ↓zyg_0_5, ↓zyp_0_5, ↓zx_iconst, ↓zy_istore_2, ↓zx_iload_2, ↓zy_ic_ge, ↓zyg_0_6, ↓zya_7, ↓zya_8, ↓zya_9, ↓zya_10, ↓zya_17, ↓zya_18, ↓zyc_45, ↓zy_iinc, ↓zx_goto, ↓zyg_0_7, ↓zyc_64, ↓zyg_0_8, ↓zyc_49, ↓zyg_0_9, ↓zyc_58, ↓zx_ret, z_g_ss, ht, h1, z_it]
  | succ n ih =>
    intro i S ht hi
    have h1 := z_le0 (show i < t by omega) (by omega)
    have h2 := z_vi1 (show i < 4 by omega) (by decide)
    have h3 := nI_clamp (show i < 2 ^ 31 by omega)
    have h4 := fun S => z_g_sn (m := m) (S := S) hr
    rw [zu_1_50]
    simp only [↓zx_nil, ↓zx_cons, ↓zp_li, ↓zp_ll, ↓zp_lr, ↓zq_li0, ↓zq_li1, ↓zq_ll0, ↓zq_ll1, ↓zq_lr0, ↓zq_lr1, ↓zk_0, ↓zk_1n, ↓zk_1i, ↓zk_1r, ↓zk_1l, ↓zk_2, zp_okt, ↓zp_okl, zp_sh0, zp_sh1, zp_psn, zp_pss, ↓zp_ri1, ↓zp_ri20, ↓zp_ri21, ↓zp_rl, ↓zp_ra, ↓zp_rv, ↓zp_br, ↓reduceIte, Nat.reduceAdd, Nat.zero_add, Nat.add_zero, Nat.le_refl, Nat.zero_le, ↓zx_aload_0, ↓zx_aload_1, ↓zyg_0_0, ↓zyp_0_0, ↓zyg_0_1, ↓zyp_0_1, ↓zyg_0_2, ↓zyp_0_2, ↓zyg_0_3, ↓zyp_0_3, ↓zyg_0_4, ↓zyp_0_4, ↓zyg_0_5, ↓zyp_0_5, ↓zx_iconst, ↓zy_istore_2, ↓zx_iload_2, ↓zy_ic_ge, ↓zyg_0_6, ↓zya_7, ↓zya_8, ↓zya_9, ↓zya_10, ↓zya_17, ↓zya_18, ↓zyc_45, ↓zy_iinc, ↓zx_goto, ↓zyg_0_7, ↓zyc_64, ↓zyg_0_8, ↓zyc_49, ↓zyg_0_9, ↓zyc_58, ↓zx_ret, z_g_ss, zq_ss, ht, h1, h2, h3, true_and, nI_1, ↓zs_45 hr, h4, z_it]
    rw [ih (i + 1) _ (by simp [cpGu, z_I_u, z_I_uJ, ht]) (by omega)]
set_option maxRecDepth 100000 in
set_option maxHeartbeats 4000000 in
theorem zl_1b {t : Nat} (ht2 : t ≤ 6) (hr : r2 ≠ r) : ∀ (n i : Nat) (S : zS), z_I S 0 0 4 = nI t → i + n = t → zW 1 (d + 1) Q 81 [some (zr (some (0, r, 0))), some (zr (some (0, r2, 0))), some (zi (nI i))] [] (z_s m r S) 0 = zW 1 (d + 1) Q 112 [some (zr (some (0, r, 0))), some (zr (some (0, r2, 0))), some (zi 0)] [] (z_s m r (z_it (fun i S => cpSr S i (z_g m r2) i) n i S)) 0 := by
  intro n
  induction n with
  | zero =>
    intro i S ht hi
    have h1 := z_le1 (show t ≤ i by omega) (by omega)
    rw [zu_1_81]
    simp only [↓zu_1_110, ↓zx_nil, ↓zx_cons, ↓zp_li, ↓zp_ll, ↓zp_lr, ↓zq_li0, ↓zq_li1, ↓zq_ll0, ↓zq_ll1, ↓zq_lr0, ↓zq_lr1, ↓zk_0, ↓zk_1n, ↓zk_1i, ↓zk_1r, ↓zk_1l, ↓zk_2, zp_okt, ↓zp_okl, zp_sh0, zp_sh1, zp_psn, zp_pss, ↓zp_ri1, ↓zp_ri20, ↓zp_ri21, ↓zp_rl, ↓zp_ra, ↓zp_rv, ↓zp_br, ↓reduceIte, Nat.reduceAdd, Nat.zero_add, Nat.add_zero, Nat.le_refl, Nat.zero_le, ↓zx_aload_0, ↓zx_aload_1, ↓zyg_0_0, ↓zyp_0_0, ↓zyg_0_1, ↓zyp_0_1, ↓zyg_0_2, ↓zyp_0_2, ↓zyg_0_3, ↓zyp_0_3, ↓zyg_0_4, ↓zyp_0_4, ↓zyg_0_5, ↓zyp_0_5, ↓zx_iconst, ↓zy_istore_2, ↓zx_iload_2, ↓zy_ic_ge, ↓zyg_0_6, ↓zya_7, ↓zya_8, ↓zya_9, ↓zya_10, ↓zya_17, ↓zya_18, ↓zyc_45, ↓zy_iinc, ↓zx_goto, ↓zyg_0_7, ↓zyc_64, ↓zyg_0_8, ↓zyc_49, ↓zyg_0_9, ↓zyc_58, ↓zx_ret, z_g_ss, ht, h1, z_it]
  | succ n ih =>
    intro i S ht hi
    have h1 := z_le0 (show i < t by omega) (by omega)
    have h2 := z_vi1 (show i < 6 by omega) (by decide)
    have h3 := nI_clamp (show i < 2 ^ 31 by omega)
    have h4 := fun S => z_g_sn (m := m) (S := S) hr
    rw [zu_1_81]
    simp only [↓zx_nil, ↓zx_cons, ↓zp_li, ↓zp_ll, ↓zp_lr, ↓zq_li0, ↓zq_li1, ↓zq_ll0, ↓zq_ll1, ↓zq_lr0, ↓zq_lr1, ↓zk_0, ↓zk_1n, ↓zk_1i, ↓zk_1r, ↓zk_1l, ↓zk_2, zp_okt, ↓zp_okl, zp_sh0, zp_sh1, zp_psn, zp_pss, ↓zp_ri1, ↓zp_ri20, ↓zp_ri21, ↓zp_rl, ↓zp_ra, ↓zp_rv, ↓zp_br, ↓reduceIte, Nat.reduceAdd, Nat.zero_add, Nat.add_zero, Nat.le_refl, Nat.zero_le, ↓zx_aload_0, ↓zx_aload_1, ↓zyg_0_0, ↓zyp_0_0, ↓zyg_0_1, ↓zyp_0_1, ↓zyg_0_2, ↓zyp_0_2, ↓zyg_0_3, ↓zyp_0_3, ↓zyg_0_4, ↓zyp_0_4, ↓zyg_0_5, ↓zyp_0_5, ↓zx_iconst, ↓zy_istore_2, ↓zx_iload_2, ↓zy_ic_ge, ↓zyg_0_6, ↓zya_7, ↓zya_8, ↓zya_9, ↓zya_10, ↓zya_17, ↓zya_18, ↓zyc_45, ↓zy_iinc, ↓zx_goto, ↓zyg_0_7, ↓zyc_64, ↓zyg_0_8, ↓zyc_49, ↓zyg_0_9, ↓zyc_58, ↓zx_ret, z_g_ss, zq_ss, ht, h1, h2, h3, true_and, nI_1, ↓zs_64 hr, h4, z_it]
    rw [ih (i + 1) _ (by simp [cpSr, z_I_u, z_I_cp, ht]) (by omega)]
set_option maxRecDepth 100000 in
set_option maxHeartbeats 4000000 in
theorem zl_1c (hr : r2 ≠ r) : ∀ (n i : Nat) (S : zS), i + n = 5 → zW 1 (d + 1) Q 112 [some (zr (some (0, r, 0))), some (zr (some (0, r2, 0))), some (zi (nI i))] [] (z_s m r S) 0 = zW 1 (d + 1) Q 140 [some (zr (some (0, r, 0))), some (zr (some (0, r2, 0))), some (zi 0)] [] (z_s m r (z_it (fun i S => cpKi S i (z_g m r2) i) n i S)) 0 := by
  intro n
  induction n with
  | zero =>
    intro i S hi
    have h1 : ((5 : Int32) ≤ nI i) = True := z_le1 (show 5 ≤ i by omega) (by omega)
    rw [zu_1_112]
    simp only [↓zu_1_138, ↓zx_nil, ↓zx_cons, ↓zp_li, ↓zp_ll, ↓zp_lr, ↓zq_li0, ↓zq_li1, ↓zq_ll0, ↓zq_ll1, ↓zq_lr0, ↓zq_lr1, ↓zk_0, ↓zk_1n, ↓zk_1i, ↓zk_1r, ↓zk_1l, ↓zk_2, zp_okt, ↓zp_okl, zp_sh0, zp_sh1, zp_psn, zp_pss, ↓zp_ri1, ↓zp_ri20, ↓zp_ri21, ↓zp_rl, ↓zp_ra, ↓zp_rv, ↓zp_br, ↓reduceIte, Nat.reduceAdd, Nat.zero_add, Nat.add_zero, Nat.le_refl, Nat.zero_le, ↓zx_aload_0, ↓zx_aload_1, ↓zyg_0_0, ↓zyp_0_0, ↓zyg_0_1, ↓zyp_0_1, ↓zyg_0_2, ↓zyp_0_2, ↓zyg_0_3, ↓zyp_0_3, ↓zyg_0_4, ↓zyp_0_4, ↓zyg_0_5, ↓zyp_0_5, ↓zx_iconst, ↓zy_istore_2, ↓zx_iload_2, ↓zy_ic_ge, ↓zyg_0_6, ↓zya_7, ↓zya_8, ↓zya_9, ↓zya_10, ↓zya_17, ↓zya_18, ↓zyc_45, ↓zy_iinc, ↓zx_goto, ↓zyg_0_7, ↓zyc_64, ↓zyg_0_8, ↓zyc_49, ↓zyg_0_9, ↓zyc_58, ↓zx_ret, z_g_ss, h1, z_it]
  | succ n ih =>
    intro i S hi
    have h1 : ((5 : Int32) ≤ nI i) = False := z_le0 (show i < 5 by omega) (by decide)
    have h2 := z_vi1 (show i < 5 by omega) (by decide)
    have h3 := nI_clamp (show i < 2 ^ 31 by omega)
    have h4 := fun S => z_g_sn (m := m) (S := S) hr
    rw [zu_1_112]
    simp only [↓zx_nil, ↓zx_cons, ↓zp_li, ↓zp_ll, ↓zp_lr, ↓zq_li0, ↓zq_li1, ↓zq_ll0, ↓zq_ll1, ↓zq_lr0, ↓zq_lr1, ↓zk_0, ↓zk_1n, ↓zk_1i, ↓zk_1r, ↓zk_1l, ↓zk_2, zp_okt, ↓zp_okl, zp_sh0, zp_sh1, zp_psn, zp_pss, ↓zp_ri1, ↓zp_ri20, ↓zp_ri21, ↓zp_rl, ↓zp_ra, ↓zp_rv, ↓zp_br, ↓reduceIte, Nat.reduceAdd, Nat.zero_add, Nat.add_zero, Nat.le_refl, Nat.zero_le, ↓zx_aload_0, ↓zx_aload_1, ↓zyg_0_0, ↓zyp_0_0, ↓zyg_0_1, ↓zyp_0_1, ↓zyg_0_2, ↓zyp_0_2, ↓zyg_0_3, ↓zyp_0_3, ↓zyg_0_4, ↓zyp_0_4, ↓zyg_0_5, ↓zyp_0_5, ↓zx_iconst, ↓zy_istore_2, ↓zx_iload_2, ↓zy_ic_ge, ↓zyg_0_6, ↓zya_7, ↓zya_8, ↓zya_9, ↓zya_10, ↓zya_17, ↓zya_18, ↓zyc_45, ↓zy_iinc, ↓zx_goto, ↓zyg_0_7, ↓zyc_64, ↓zyg_0_8, ↓zyc_49, ↓zyg_0_9, ↓zyc_58, ↓zx_ret, z_g_ss, zq_ss, h1, h2, h3, true_and, nI_1, ↓zs_49 hr, h4, z_it]
    rw [ih (i + 1) _ (by omega)]
set_option maxRecDepth 100000 in
set_option maxHeartbeats 4000000 in
theorem zl_1d {t : Nat} (ht2 : t ≤ 40) (hr : r2 ≠ r) : ∀ (n i : Nat) (S : zS), z_I S 0 0 5 = nI t → i + n = t → zW 1 (d + 1) Q 140 [some (zr (some (0, r, 0))), some (zr (some (0, r2, 0))), some (zi (nI i))] [] (z_s m r S) 0 = Q none (z_s m r (z_it (fun i S => cpLo S i (z_g m r2) i) n i S)) := by
  intro n
  induction n with
  | zero =>
    intro i S ht hi
    have h1 := z_le1 (show t ≤ i by omega) (by omega)
    rw [zu_1_140]
    simp only [↓zu_1_169, ↓zx_nil, ↓zx_cons, ↓zp_li, ↓zp_ll, ↓zp_lr, ↓zq_li0, ↓zq_li1, ↓zq_ll0, ↓zq_ll1, ↓zq_lr0, ↓zq_lr1, ↓zk_0, ↓zk_1n, ↓zk_1i, ↓zk_1r, ↓zk_1l, ↓zk_2, zp_okt, ↓zp_okl, zp_sh0, zp_sh1, zp_psn, zp_pss, ↓zp_ri1, ↓zp_ri20, ↓zp_ri21, ↓zp_rl, ↓zp_ra, ↓zp_rv, ↓zp_br, ↓reduceIte, Nat.reduceAdd, Nat.zero_add, Nat.add_zero, Nat.le_refl, Nat.zero_le, ↓zx_aload_0, ↓zx_aload_1, ↓zyg_0_0, ↓zyp_0_0, ↓zyg_0_1, ↓zyp_0_1, ↓zyg_0_2, ↓zyp_0_2, ↓zyg_0_3, ↓zyp_0_3, ↓zyg_0_4, ↓zyp_0_4, ↓zyg_0_5, ↓zyp_0_5, ↓zx_iconst, ↓zy_istore_2, ↓zx_iload_2, ↓zy_ic_ge, ↓zyg_0_6, ↓zya_7, ↓zya_8, ↓zya_9, ↓zya_10, ↓zya_17, ↓zya_18, ↓zyc_45, ↓zy_iinc, ↓zx_goto, ↓zyg_0_7, ↓zyc_64, ↓zyg_0_8, ↓zyc_49, ↓zyg_0_9, ↓zyc_58, ↓zx_ret, z_g_ss, ht, h1, z_it]
  | succ n ih =>
    intro i S ht hi
    have h1 := z_le0 (show i < t by omega) (by omega)
    have h2 := z_vi1 (show i < 40 by omega) (by decide)
    have h3 := nI_clamp (show i < 2 ^ 31 by omega)
    have h4 := fun S => z_g_sn (m := m) (S := S) hr
    rw [zu_1_140]
    simp only [↓zx_nil, ↓zx_cons, ↓zp_li, ↓zp_ll, ↓zp_lr, ↓zq_li0, ↓zq_li1, ↓zq_ll0, ↓zq_ll1, ↓zq_lr0, ↓zq_lr1, ↓zk_0, ↓zk_1n, ↓zk_1i, ↓zk_1r, ↓zk_1l, ↓zk_2, zp_okt, ↓zp_okl, zp_sh0, zp_sh1, zp_psn, zp_pss, ↓zp_ri1, ↓zp_ri20, ↓zp_ri21, ↓zp_rl, ↓zp_ra, ↓zp_rv, ↓zp_br, ↓reduceIte, Nat.reduceAdd, Nat.zero_add, Nat.add_zero, Nat.le_refl, Nat.zero_le, ↓zx_aload_0, ↓zx_aload_1, ↓zyg_0_0, ↓zyp_0_0, ↓zyg_0_1, ↓zyp_0_1, ↓zyg_0_2, ↓zyp_0_2, ↓zyg_0_3, ↓zyp_0_3, ↓zyg_0_4, ↓zyp_0_4, ↓zyg_0_5, ↓zyp_0_5, ↓zx_iconst, ↓zy_istore_2, ↓zx_iload_2, ↓zy_ic_ge, ↓zyg_0_6, ↓zya_7, ↓zya_8, ↓zya_9, ↓zya_10, ↓zya_17, ↓zya_18, ↓zyc_45, ↓zy_iinc, ↓zx_goto, ↓zyg_0_7, ↓zyc_64, ↓zyg_0_8, ↓zyc_49, ↓zyg_0_9, ↓zyc_58, ↓zx_ret, z_g_ss, zq_ss, ht, h1, h2, h3, true_and, nI_1, ↓zs_58 hr, h4, z_it]
    rw [ih (i + 1) _ (by simp [cpLo, z_I_u, z_I_uJ, z_I_cp, ht]) (by omega)]
theorem z_it_0 {f : Nat → zS → zS} {x : Nat} (h : ∀ i S, z_I (f i S) 0 0 x = z_I S 0 0 x) : ∀ (n i : Nat) (S : zS), z_I (z_it f n i S) 0 0 x = z_I S 0 0 x
  | 0, _, _ => rfl
  | n + 1, i, S => by rw [z_it, z_it_0 h n, h]
set_option maxRecDepth 100000 in
set_option maxHeartbeats 4000000 in
theorem zs_1 (hr : r2 ≠ r) (hg : z_nn (z_I (z_g m r2) 0 0 3) 4) (hs : z_nn (z_I (z_g m r2) 0 0 4) 6) (hl : z_nn (z_I (z_g m r2) 0 0 5) 40) : z_call (d + 2) 1 [zr (some (0, r, 0)), zr (some (0, r2, 0))] m Q = Q none (z_s m r (cpBk (z_g m r) (z_g m r2))) := by
  have h4 := fun S => z_g_sn (m := m) (S := S) hr
  simp only [↓zen_1, ↓zu_1_0, ↓zx_nil, ↓zx_cons, ↓zp_li, ↓zp_ll, ↓zp_lr, ↓zq_li0, ↓zq_li1, ↓zq_ll0, ↓zq_ll1, ↓zq_lr0, ↓zq_lr1, ↓zk_0, ↓zk_1n, ↓zk_1i, ↓zk_1r, ↓zk_1l, ↓zk_2, zp_okt, ↓zp_okl, zp_sh0, zp_sh1, zp_psn, zp_pss, ↓zp_ri1, ↓zp_ri20, ↓zp_ri21, ↓zp_rl, ↓zp_ra, ↓zp_rv, ↓zp_br, ↓reduceIte, Nat.reduceAdd, Nat.zero_add, Nat.add_zero, Nat.le_refl, Nat.zero_le, ↓zx_aload_0, ↓zx_aload_1, ↓zyg_0_0, ↓zyp_0_0, ↓zyg_0_1, ↓zyp_0_1, ↓zyg_0_2, ↓zyp_0_2, ↓zyg_0_3, ↓zyp_0_3, ↓zyg_0_4, ↓zyp_0_4, ↓zyg_0_5, ↓zyp_0_5, ↓zx_iconst, ↓zy_istore_2, ↓zx_iload_2, ↓zy_ic_ge, ↓zyg_0_6, ↓zya_7, ↓zya_8, ↓zya_9, ↓zya_10, ↓zya_17, ↓zya_18, ↓zyc_45, ↓zy_iinc, ↓zx_goto, ↓zyg_0_7, ↓zyc_64, ↓zyg_0_8, ↓zyc_49, ↓zyg_0_9, ↓zyc_58, ↓zx_ret, z_g_ss, zq_ss, h4]
  have c3 : z_I (cpHd (z_g m r) (z_g m r2)) 0 0 3 = z_I (z_g m r2) 0 0 3 := by simp [cpHd, z_I_u]
  have c4 : z_I (cpHd (z_g m r) (z_g m r2)) 0 0 4 = z_I (z_g m r2) 0 0 4 := by simp [cpHd, z_I_u]
  have c5 : z_I (cpHd (z_g m r) (z_g m r2)) 0 0 5 = z_I (z_g m r2) 0 0 5 := by simp [cpHd, z_I_u]
  have g1 := zl_1a (d := d) (Q := Q) (r := r) (m := m) (e := []) hg.2 hr (cG (z_g m r2)) 0 (cpHd (z_g m r) (z_g m r2)) (c3.trans hg.eq) (by unfold cG; omega)
  have g2 := zl_1b (d := d) (Q := Q) (r := r) (m := m) hs.2 hr (cS (z_g m r2)) 0 (z_it (fun i S => cpGu S i (z_g m r2) i) (cG (z_g m r2)) 0 (cpHd (z_g m r) (z_g m r2))) ((z_it_0 (fun i S => by simp [cpGu, z_I_u, z_I_uJ]) _ _ _).trans (c4.trans hs.eq)) (by unfold cS; omega)
  have g3 := zl_1c (d := d) (Q := Q) (r := r) (m := m) hr 5 0 (z_it (fun i S => cpSr S i (z_g m r2) i) (cS (z_g m r2)) 0 (z_it (fun i S => cpGu S i (z_g m r2) i) (cG (z_g m r2)) 0 (cpHd (z_g m r) (z_g m r2)))) rfl
  have g4 := zl_1d (d := d) (Q := Q) (r := r) (m := m) hl.2 hr (cL (z_g m r2)) 0 (z_it (fun i S => cpKi S i (z_g m r2) i) 5 0 (z_it (fun i S => cpSr S i (z_g m r2) i) (cS (z_g m r2)) 0 (z_it (fun i S => cpGu S i (z_g m r2) i) (cG (z_g m r2)) 0 (cpHd (z_g m r) (z_g m r2))))) ((z_it_0 (fun i S => by simp [cpKi, z_I_u, z_I_cp]) _ _ _).trans ((z_it_0 (fun i S => by simp [cpSr, z_I_u, z_I_cp]) _ _ _).trans ((z_it_0 (fun i S => by simp [cpGu, z_I_u, z_I_uJ]) _ _ _).trans (c5.trans hl.eq)))) (by unfold cL; omega)
  rw [nI_0] at g1 g2 g3 g4
  exact g1.trans (g2.trans (g3.trans g4))
end Bk3
