/-! ===== THE CLASS: a Book's loops that ask ===== -/
section Bk1
variable {d r i k g s r2 i2 : Nat} {m : zM} {Q : zQ} {v w a b c : Int32}
def cL (S : zS) : Nat := (z_I S 0 0 5).toNatClampNeg
def cG (S : zS) : Nat := (z_I S 0 0 3).toNatClampNeg
def cS (S : zS) : Nat := (z_I S 0 0 4).toNatClampNeg
-- how many loads are in a state
def cCnt (S : zS) (v : Int32) (n i : Nat) (a : Int32) : Int32 := z_it (fun i a => if z_I S 3 i 0 = v then a + 1 else a) n i a
set_option maxRecDepth 100000 in
set_option maxHeartbeats 4000000 in
theorem zl_20 {t : Nat} (ht : z_I (z_g m r) 0 0 5 = nI t) (ht2 : t ≤ 40) : ∀ (n i : Nat) (a : Int32), i + n = t → zW 20 d Q 4 [some (zr (some (0, r, 0))), some (zi v), some (zi a), some (zi (nI i))] [] m 0 = Q (some (zi (cCnt (z_g m r) v n i a))) m := by
  intro n
  induction n with
  | zero =>
    intro i a hi
    have h1 := z_le1 (show t ≤ i by omega) (by omega)
    rw [zu_20_4]
    simp only [↓zu_20_34, ↓zx_nil, ↓zx_cons, ↓zp_li, ↓zp_ll, ↓zp_lr, ↓zq_li0, ↓zq_li1, ↓zq_ll0, ↓zq_ll1, ↓zq_lr0, ↓zq_lr1, ↓zk_0, ↓zk_1n, ↓zk_1i, ↓zk_1r, ↓zk_1l, ↓zk_2, zp_okt, ↓zp_okl, zp_sh0, zp_sh1, zp_psn, zp_pss, ↓zp_ri1, ↓zp_ri20, ↓zp_ri21, ↓zp_rl, ↓zp_ra, ↓zp_rv, ↓zp_br, ↓reduceIte, Nat.reduceAdd, Nat.zero_add, Nat.add_zero, Nat.le_refl, Nat.zero_le, ↓zx_iconst, ↓zy_istore_2, ↓zy_istore_3, ↓zx_iload_3, ↓zx_aload_0, ↓zyg_0_5, ↓zy_ic_ge, ↓zyg_0_9, ↓zya_7, ↓zya_8, ↓zya_9, ↓zya_10, ↓zya_17, ↓zya_18, ↓zyg_3_0, ↓zx_iload_1, ↓zy_ic_ne, ↓zy_iinc, ↓zx_goto, ↓zx_iload_2, ↓zx_iret, ht, h1]; rfl
  | succ n ih =>
    intro i a hi
    have h1 := z_le0 (show i < t by omega) (by omega)
    have h2 := z_vi1 (show i < 40 by omega) (by decide)
    have h3 := nI_clamp (show i < 2 ^ 31 by omega)
    rw [zu_20_4]
    simp only [↓zu_20_28, ↓zu_20_34, ↓zx_nil, ↓zx_cons, ↓zp_li, ↓zp_ll, ↓zp_lr, ↓zq_li0, ↓zq_li1, ↓zq_ll0, ↓zq_ll1, ↓zq_lr0, ↓zq_lr1, ↓zk_0, ↓zk_1n, ↓zk_1i, ↓zk_1r, ↓zk_1l, ↓zk_2, zp_okt, ↓zp_okl, zp_sh0, zp_sh1, zp_psn, zp_pss, ↓zp_ri1, ↓zp_ri20, ↓zp_ri21, ↓zp_rl, ↓zp_ra, ↓zp_rv, ↓zp_br, ↓reduceIte, Nat.reduceAdd, Nat.zero_add, Nat.add_zero, Nat.le_refl, Nat.zero_le, ↓zx_iconst, ↓zy_istore_2, ↓zy_istore_3, ↓zx_iload_3, ↓zx_aload_0, ↓zyg_0_5, ↓zy_ic_ge, ↓zyg_0_9, ↓zya_7, ↓zya_8, ↓zya_9, ↓zya_10, ↓zya_17, ↓zya_18, ↓zyg_3_0, ↓zx_iload_1, ↓zy_ic_ne, ↓zy_iinc, ↓zx_goto, ↓zx_iload_2, ↓zx_iret, ht, h1, h2, h3, true_and, nI_1]
    simp only [ih (i + 1) _ (by omega : i + 1 + n = t), cCnt, z_it]
    split <;> rfl
set_option maxRecDepth 100000 in
set_option maxHeartbeats 4000000 in
theorem zs_20 (h : z_nn (z_I (z_g m r) 0 0 5) 40) : z_call (d + 1) 20 [zr (some (0, r, 0)), zi v] m Q = Q (some (zi (cCnt (z_g m r) v (cL (z_g m r)) 0 0))) m := by
  simp only [↓zen_20, ↓zu_20_0, ↓zx_nil, ↓zx_cons, ↓zp_li, ↓zp_ll, ↓zp_lr, ↓zq_li0, ↓zq_li1, ↓zq_ll0, ↓zq_ll1, ↓zq_lr0, ↓zq_lr1, ↓zk_0, ↓zk_1n, ↓zk_1i, ↓zk_1r, ↓zk_1l, ↓zk_2, zp_okt, ↓zp_okl, zp_sh0, zp_sh1, zp_psn, zp_pss, ↓zp_ri1, ↓zp_ri20, ↓zp_ri21, ↓zp_rl, ↓zp_ra, ↓zp_rv, ↓zp_br, ↓reduceIte, Nat.reduceAdd, Nat.zero_add, Nat.add_zero, Nat.le_refl, Nat.zero_le, ↓zx_iconst, ↓zy_istore_2, ↓zy_istore_3, ↓zx_iload_3, ↓zx_aload_0, ↓zyg_0_5, ↓zy_ic_ge, ↓zyg_0_9, ↓zya_7, ↓zya_8, ↓zya_9, ↓zya_10, ↓zya_17, ↓zya_18, ↓zyg_3_0, ↓zx_iload_1, ↓zy_ic_ne, ↓zy_iinc, ↓zx_goto, ↓zx_iload_2, ↓zx_iret]
  exact zl_20 h.eq h.2 (cL (z_g m r)) 0 0 (by unfold cL; omega)
-- sums over guarantors
def cSumG (S : zS) (f : Nat) (n i : Nat) (a : Int32) : Int32 := z_it (fun i a => a + z_I S 1 i f) n i a
set_option maxRecDepth 100000 in
set_option maxHeartbeats 4000000 in
theorem zl_42 {t : Nat} (ht : z_I (z_g m r) 0 0 3 = nI t) (ht2 : t ≤ 4) : ∀ (n i : Nat) (a : Int32), i + n = t → zW 42 d Q 4 [some (zr (some (0, r, 0))), some (zi a), some (zi (nI i))] [] m 0 = Q (some (zi (cSumG (z_g m r) 2 n i a))) m := by
  intro n
  induction n with
  | zero =>
    intro i a hi
    have h1 := z_le1 (show t ≤ i by omega) (by omega)
    rw [zu_42_4]
    simp only [↓zu_42_30, ↓zx_nil, ↓zx_cons, ↓zp_li, ↓zp_ll, ↓zp_lr, ↓zq_li0, ↓zq_li1, ↓zq_ll0, ↓zq_ll1, ↓zq_lr0, ↓zq_lr1, ↓zk_0, ↓zk_1n, ↓zk_1i, ↓zk_1r, ↓zk_1l, ↓zk_2, zp_okt, ↓zp_okl, zp_sh0, zp_sh1, zp_psn, zp_pss, ↓zp_ri1, ↓zp_ri20, ↓zp_ri21, ↓zp_rl, ↓zp_ra, ↓zp_rv, ↓zp_br, ↓reduceIte, Nat.reduceAdd, Nat.zero_add, Nat.add_zero, Nat.le_refl, Nat.zero_le, ↓zx_iconst, ↓zy_istore_1, ↓zy_istore_2, ↓zx_iload_2, ↓zx_aload_0, ↓zyg_0_3, ↓zy_ic_ge, ↓zx_iload_1, ↓zyg_0_6, ↓zya_7, ↓zya_8, ↓zya_9, ↓zya_10, ↓zya_17, ↓zya_18, ↓zyg_1_2, ↓zy_iadd, ↓zy_iinc, ↓zx_goto, ↓zx_iret, ht, h1]; rfl
  | succ n ih =>
    intro i a hi
    have h1 := z_le0 (show i < t by omega) (by omega)
    have h2 := z_vi1 (show i < 4 by omega) (by decide)
    have h3 := nI_clamp (show i < 2 ^ 31 by omega)
    rw [zu_42_4]
    simp only [↓zu_42_30, ↓zx_nil, ↓zx_cons, ↓zp_li, ↓zp_ll, ↓zp_lr, ↓zq_li0, ↓zq_li1, ↓zq_ll0, ↓zq_ll1, ↓zq_lr0, ↓zq_lr1, ↓zk_0, ↓zk_1n, ↓zk_1i, ↓zk_1r, ↓zk_1l, ↓zk_2, zp_okt, ↓zp_okl, zp_sh0, zp_sh1, zp_psn, zp_pss, ↓zp_ri1, ↓zp_ri20, ↓zp_ri21, ↓zp_rl, ↓zp_ra, ↓zp_rv, ↓zp_br, ↓reduceIte, Nat.reduceAdd, Nat.zero_add, Nat.add_zero, Nat.le_refl, Nat.zero_le, ↓zx_iconst, ↓zy_istore_1, ↓zy_istore_2, ↓zx_iload_2, ↓zx_aload_0, ↓zyg_0_3, ↓zy_ic_ge, ↓zx_iload_1, ↓zyg_0_6, ↓zya_7, ↓zya_8, ↓zya_9, ↓zya_10, ↓zya_17, ↓zya_18, ↓zyg_1_2, ↓zy_iadd, ↓zy_iinc, ↓zx_goto, ↓zx_iret, ht, h1, h2, h3, true_and, nI_1]
    simp only [ih (i + 1) _ (by omega : i + 1 + n = t), cSumG, z_it]
set_option maxRecDepth 100000 in
set_option maxHeartbeats 4000000 in
theorem zs_42 (h : z_nn (z_I (z_g m r) 0 0 3) 4) : z_call (d + 1) 42 [zr (some (0, r, 0))] m Q = Q (some (zi (cSumG (z_g m r) 2 (cG (z_g m r)) 0 0))) m := by
  simp only [↓zen_42, ↓zu_42_0, ↓zx_nil, ↓zx_cons, ↓zp_li, ↓zp_ll, ↓zp_lr, ↓zq_li0, ↓zq_li1, ↓zq_ll0, ↓zq_ll1, ↓zq_lr0, ↓zq_lr1, ↓zk_0, ↓zk_1n, ↓zk_1i, ↓zk_1r, ↓zk_1l, ↓zk_2, zp_okt, ↓zp_okl, zp_sh0, zp_sh1, zp_psn, zp_pss, ↓zp_ri1, ↓zp_ri20, ↓zp_ri21, ↓zp_rl, ↓zp_ra, ↓zp_rv, ↓zp_br, ↓reduceIte, Nat.reduceAdd, Nat.zero_add, Nat.add_zero, Nat.le_refl, Nat.zero_le, ↓zx_iconst, ↓zy_istore_1, ↓zy_istore_2, ↓zx_iload_2, ↓zx_aload_0, ↓zyg_0_3, ↓zy_ic_ge, ↓zx_iload_1, ↓zyg_0_6, ↓zya_7, ↓zya_8, ↓zya_9, ↓zya_10, ↓zya_17, ↓zya_18, ↓zyg_1_2, ↓zy_iadd, ↓zy_iinc, ↓zx_goto, ↓zx_iret]
  exact zl_42 h.eq h.2 (cG (z_g m r)) 0 0 (by unfold cG; omega)
set_option maxRecDepth 100000 in
set_option maxHeartbeats 4000000 in
theorem zl_43 {t : Nat} (ht : z_I (z_g m r) 0 0 3 = nI t) (ht2 : t ≤ 4) : ∀ (n i : Nat) (a : Int32), i + n = t → zW 43 d Q 4 [some (zr (some (0, r, 0))), some (zi a), some (zi (nI i))] [] m 0 = Q (some (zi (cSumG (z_g m r) 1 n i a))) m := by
  intro n
  induction n with
  | zero =>
    intro i a hi
    have h1 := z_le1 (show t ≤ i by omega) (by omega)
    rw [zu_43_4]
    simp only [↓zu_43_30, ↓zx_nil, ↓zx_cons, ↓zp_li, ↓zp_ll, ↓zp_lr, ↓zq_li0, ↓zq_li1, ↓zq_ll0, ↓zq_ll1, ↓zq_lr0, ↓zq_lr1, ↓zk_0, ↓zk_1n, ↓zk_1i, ↓zk_1r, ↓zk_1l, ↓zk_2, zp_okt, ↓zp_okl, zp_sh0, zp_sh1, zp_psn, zp_pss, ↓zp_ri1, ↓zp_ri20, ↓zp_ri21, ↓zp_rl, ↓zp_ra, ↓zp_rv, ↓zp_br, ↓reduceIte, Nat.reduceAdd, Nat.zero_add, Nat.add_zero, Nat.le_refl, Nat.zero_le, ↓zx_iconst, ↓zy_istore_1, ↓zy_istore_2, ↓zx_iload_2, ↓zx_aload_0, ↓zyg_0_3, ↓zy_ic_ge, ↓zx_iload_1, ↓zyg_0_6, ↓zya_7, ↓zya_8, ↓zya_9, ↓zya_10, ↓zya_17, ↓zya_18, ↓zyg_1_1, ↓zy_iadd, ↓zy_iinc, ↓zx_goto, ↓zx_iret, ht, h1]; rfl
  | succ n ih =>
    intro i a hi
    have h1 := z_le0 (show i < t by omega) (by omega)
    have h2 := z_vi1 (show i < 4 by omega) (by decide)
    have h3 := nI_clamp (show i < 2 ^ 31 by omega)
    rw [zu_43_4]
    simp only [↓zu_43_30, ↓zx_nil, ↓zx_cons, ↓zp_li, ↓zp_ll, ↓zp_lr, ↓zq_li0, ↓zq_li1, ↓zq_ll0, ↓zq_ll1, ↓zq_lr0, ↓zq_lr1, ↓zk_0, ↓zk_1n, ↓zk_1i, ↓zk_1r, ↓zk_1l, ↓zk_2, zp_okt, ↓zp_okl, zp_sh0, zp_sh1, zp_psn, zp_pss, ↓zp_ri1, ↓zp_ri20, ↓zp_ri21, ↓zp_rl, ↓zp_ra, ↓zp_rv, ↓zp_br, ↓reduceIte, Nat.reduceAdd, Nat.zero_add, Nat.add_zero, Nat.le_refl, Nat.zero_le, ↓zx_iconst, ↓zy_istore_1, ↓zy_istore_2, ↓zx_iload_2, ↓zx_aload_0, ↓zyg_0_3, ↓zy_ic_ge, ↓zx_iload_1, ↓zyg_0_6, ↓zya_7, ↓zya_8, ↓zya_9, ↓zya_10, ↓zya_17, ↓zya_18, ↓zyg_1_1, ↓zy_iadd, ↓zy_iinc, ↓zx_goto, ↓zx_iret, ht, h1, h2, h3, true_and, nI_1]
    simp only [ih (i + 1) _ (by omega : i + 1 + n = t), cSumG, z_it]
set_option maxRecDepth 100000 in
set_option maxHeartbeats 4000000 in
theorem zs_43 (h : z_nn (z_I (z_g m r) 0 0 3) 4) : z_call (d + 1) 43 [zr (some (0, r, 0))] m Q = Q (some (zi (cSumG (z_g m r) 1 (cG (z_g m r)) 0 0))) m := by
  simp only [↓zen_43, ↓zu_43_0, ↓zx_nil, ↓zx_cons, ↓zp_li, ↓zp_ll, ↓zp_lr, ↓zq_li0, ↓zq_li1, ↓zq_ll0, ↓zq_ll1, ↓zq_lr0, ↓zq_lr1, ↓zk_0, ↓zk_1n, ↓zk_1i, ↓zk_1r, ↓zk_1l, ↓zk_2, zp_okt, ↓zp_okl, zp_sh0, zp_sh1, zp_psn, zp_pss, ↓zp_ri1, ↓zp_ri20, ↓zp_ri21, ↓zp_rl, ↓zp_ra, ↓zp_rv, ↓zp_br, ↓reduceIte, Nat.reduceAdd, Nat.zero_add, Nat.add_zero, Nat.le_refl, Nat.zero_le, ↓zx_iconst, ↓zy_istore_1, ↓zy_istore_2, ↓zx_iload_2, ↓zx_aload_0, ↓zyg_0_3, ↓zy_ic_ge, ↓zx_iload_1, ↓zyg_0_6, ↓zya_7, ↓zya_8, ↓zya_9, ↓zya_10, ↓zya_17, ↓zya_18, ↓zyg_1_1, ↓zy_iadd, ↓zy_iinc, ↓zx_goto, ↓zx_iret]
  exact zl_43 h.eq h.2 (cG (z_g m r)) 0 0 (by unfold cG; omega)
-- all stocks
def cStk (S : zS) (n i : Nat) (a : Int32) : Int32 := z_it (fun i a => a + z_I S 15 i 0 + z_I S 15 i 1 + z_I S 15 i 2 + z_I S 15 i 3 + z_I S 15 i 4) n i a
set_option maxRecDepth 100000 in
set_option maxHeartbeats 4000000 in
theorem zl_44 {t : Nat} (ht : z_I (z_g m r) 0 0 4 = nI t) (ht2 : t ≤ 6) : ∀ (n i : Nat) (a : Int32) (e : Option zV), i + n = t → zW 44 d Q 4 [some (zr (some (0, r, 0))), some (zi a), some (zi (nI i)), e] [] m 0 = Q (some (zi (cStk (z_g m r) n i a))) m := by
  intro n
  induction n with
  | zero =>
    intro i a e hi
    have h1 := z_le1 (show t ≤ i by omega) (by omega)
    rw [zu_44_4]
    simp only [↓zu_44_45, ↓zx_nil, ↓zx_cons, ↓zp_li, ↓zp_ll, ↓zp_lr, ↓zq_li0, ↓zq_li1, ↓zq_ll0, ↓zq_ll1, ↓zq_lr0, ↓zq_lr1, ↓zk_0, ↓zk_1n, ↓zk_1i, ↓zk_1r, ↓zk_1l, ↓zk_2, zp_okt, ↓zp_okl, zp_sh0, zp_sh1, zp_psn, zp_pss, ↓zp_ri1, ↓zp_ri20, ↓zp_ri21, ↓zp_rl, ↓zp_ra, ↓zp_rv, ↓zp_br, ↓reduceIte, Nat.reduceAdd, Nat.zero_add, Nat.add_zero, Nat.le_refl, Nat.zero_le, ↓zx_iconst, ↓zy_istore_1, ↓zy_istore_2, ↓zx_iload_2, ↓zx_aload_0, ↓zyg_0_4, ↓zy_ic_ge, ↓zy_istore_3, ↓zx_iload_3, ↓zx_iload_1, ↓zyg_0_7, ↓zya_7, ↓zya_8, ↓zya_9, ↓zya_10, ↓zya_17, ↓zya_18, ↓zyg_4_0, ↓zy_iadd, ↓zy_iinc, ↓zx_goto, ↓zx_iret, ↓zya_11, ↓zya_14, ↓zya_15, ↓zya_16, ht, h1]; rfl
  | succ n ih =>
    intro i a e hi
    have h1 := z_le0 (show i < t by omega) (by omega)
    have h2 := z_vi1 (show i < 6 by omega) (by decide)
    have h3 := nI_clamp (show i < 2 ^ 31 by omega)
    rw [zu_44_4]
    simp only [↓zx_nil, ↓zx_cons, ↓zp_li, ↓zp_ll, ↓zp_lr, ↓zq_li0, ↓zq_li1, ↓zq_ll0, ↓zq_ll1, ↓zq_lr0, ↓zq_lr1, ↓zk_0, ↓zk_1n, ↓zk_1i, ↓zk_1r, ↓zk_1l, ↓zk_2, zp_okt, ↓zp_okl, zp_sh0, zp_sh1, zp_psn, zp_pss, ↓zp_ri1, ↓zp_ri20, ↓zp_ri21, ↓zp_rl, ↓zp_ra, ↓zp_rv, ↓zp_br, ↓reduceIte, Nat.reduceAdd, Nat.zero_add, Nat.add_zero, Nat.le_refl, Nat.zero_le, ↓zx_iconst, ↓zy_istore_1, ↓zy_istore_2, ↓zx_iload_2, ↓zx_aload_0, ↓zyg_0_4, ↓zy_ic_ge, ↓zy_istore_3, ↓zx_iload_3, ↓zx_iload_1, ↓zyg_0_7, ↓zya_7, ↓zya_8, ↓zya_9, ↓zya_10, ↓zya_17, ↓zya_18, ↓zyg_4_0, ↓zy_iadd, ↓zy_iinc, ↓zx_goto, ↓zx_iret, ↓zya_11, ↓zya_14, ↓zya_15, ↓zya_16, ht, h1, h2, h3, true_and, nI_1]
    iterate 6 (rw [zu_44_14]; simp only [↓zu_44_39, ↓zx_nil, ↓zx_cons, ↓zp_li, ↓zp_ll, ↓zp_lr, ↓zq_li0, ↓zq_li1, ↓zq_ll0, ↓zq_ll1, ↓zq_lr0, ↓zq_lr1, ↓zk_0, ↓zk_1n, ↓zk_1i, ↓zk_1r, ↓zk_1l, ↓zk_2, zp_okt, ↓zp_okl, zp_sh0, zp_sh1, zp_psn, zp_pss, ↓zp_ri1, ↓zp_ri20, ↓zp_ri21, ↓zp_rl, ↓zp_ra, ↓zp_rv, ↓zp_br, ↓reduceIte, Nat.reduceAdd, Nat.zero_add, Nat.add_zero, Nat.le_refl, Nat.zero_le, ↓zx_iconst, ↓zy_istore_1, ↓zy_istore_2, ↓zx_iload_2, ↓zx_aload_0, ↓zyg_0_4, ↓zy_ic_ge, ↓zy_istore_3, ↓zx_iload_3, ↓zx_iload_1, ↓zyg_0_7, ↓zya_7, ↓zya_8, ↓zya_9, ↓zya_10, ↓zya_17, ↓zya_18, ↓zyg_4_0, ↓zy_iadd, ↓zy_iinc, ↓zx_goto, ↓zx_iret, ↓zya_11, ↓zya_14, ↓zya_15, ↓zya_16, ht, h1, h2, h3, nI_1, z_50, z_51, z_52, z_53, z_54, z_55, z_01, z_12, z_23, z_34, z_45, z_v05, z_v15, z_v25, z_v35, z_v45, z_c0, z_c1', z_c2, z_c3, z_c4, true_and])
    simp only [ih (i + 1) _ _ (by omega : i + 1 + n = t), cStk, z_it]
set_option maxRecDepth 100000 in
set_option maxHeartbeats 4000000 in
theorem zs_44 (h : z_nn (z_I (z_g m r) 0 0 4) 6) : z_call (d + 1) 44 [zr (some (0, r, 0))] m Q = Q (some (zi (cStk (z_g m r) (cS (z_g m r)) 0 0))) m := by
  simp only [↓zen_44, ↓zu_44_0, ↓zx_nil, ↓zx_cons, ↓zp_li, ↓zp_ll, ↓zp_lr, ↓zq_li0, ↓zq_li1, ↓zq_ll0, ↓zq_ll1, ↓zq_lr0, ↓zq_lr1, ↓zk_0, ↓zk_1n, ↓zk_1i, ↓zk_1r, ↓zk_1l, ↓zk_2, zp_okt, ↓zp_okl, zp_sh0, zp_sh1, zp_psn, zp_pss, ↓zp_ri1, ↓zp_ri20, ↓zp_ri21, ↓zp_rl, ↓zp_ra, ↓zp_rv, ↓zp_br, ↓reduceIte, Nat.reduceAdd, Nat.zero_add, Nat.add_zero, Nat.le_refl, Nat.zero_le, ↓zx_iconst, ↓zy_istore_1, ↓zy_istore_2, ↓zx_iload_2, ↓zx_aload_0, ↓zyg_0_4, ↓zy_ic_ge, ↓zy_istore_3, ↓zx_iload_3, ↓zx_iload_1, ↓zyg_0_7, ↓zya_7, ↓zya_8, ↓zya_9, ↓zya_10, ↓zya_17, ↓zya_18, ↓zyg_4_0, ↓zy_iadd, ↓zy_iinc, ↓zx_goto, ↓zx_iret, ↓zya_11, ↓zya_14, ↓zya_15, ↓zya_16]
  exact zl_44 h.eq h.2 (cS (z_g m r)) 0 0 none (by unfold cS; omega)
-- what is free for a store
def cLn (S : zS) (s i : Nat) : Nat := (z_I S 16 s i).toNatClampNeg
def cFFGo (S : zS) (s : Nat) (n i : Nat) (a : Int32) : Int32 := z_it (fun i a => a + cFree S (cLn S s i)) n i a
def cFF (S : zS) (s : Nat) : Int32 := cFFGo S s (cOrd S s) 0 0
set_option maxRecDepth 100000 in
set_option maxHeartbeats 4000000 in
theorem zl_8 {t : Nat} (ht : z_I (z_g m r) 4 s 2 = nI t) (ht2 : t ≤ 4) (hl : ∀ i, i < 4 → vp_in (z_I (z_g m r) 16 s i) 4) : ∀ (n i : Nat) (a : Int32), i + n = t → zW 8 (d + 1) Q 4 [some (zr (some (0, r, 0))), some (zr (some (4, r, s))), some (zi a), some (zi (nI i))] [] m 0 = Q (some (zi (cFFGo (z_g m r) s n i a))) m := by
  intro n
  induction n with
  | zero =>
    intro i a hi
    have h1 := z_le1 (show t ≤ i by omega) (by omega)
    rw [zu_8_4]
    simp only [↓zu_8_35, ↓zx_nil, ↓zx_cons, ↓zp_li, ↓zp_ll, ↓zp_lr, ↓zq_li0, ↓zq_li1, ↓zq_ll0, ↓zq_ll1, ↓zq_lr0, ↓zq_lr1, ↓zk_0, ↓zk_1n, ↓zk_1i, ↓zk_1r, ↓zk_1l, ↓zk_2, zp_okt, ↓zp_okl, zp_sh0, zp_sh1, zp_psn, zp_pss, ↓zp_ri1, ↓zp_ri20, ↓zp_ri21, ↓zp_rl, ↓zp_ra, ↓zp_rv, ↓zp_br, ↓reduceIte, Nat.reduceAdd, Nat.zero_add, Nat.add_zero, Nat.le_refl, Nat.zero_le, ↓zx_iconst, ↓zy_istore_2, ↓zy_istore_3, ↓zx_iload_3, ↓zx_aload_1, ↓zyg_4_2, ↓zy_ic_ge, ↓zx_iload_2, ↓zx_aload_0, ↓zyg_0_6, ↓zyg_4_1, ↓zya_7, ↓zya_8, ↓zya_9, ↓zya_10, ↓zya_17, ↓zya_18, ↓zyc_47, ↓zy_iadd, ↓zy_iinc, ↓zx_goto, ↓zx_iret, ↓zya_11, ↓zya_14, ↓zya_15, ↓zya_16, ht, h1]; rfl
  | succ n ih =>
    intro i a hi
    have h1 := z_le0 (show i < t by omega) (by omega)
    have h2 := z_vi1 (show i < 4 by omega) (by decide)
    have h3 := nI_clamp (show i < 2 ^ 31 by omega)
    have h4 := eq_true (hl i (by omega))
    rw [zu_8_4]
    simp only [↓zu_8_35, ↓zx_nil, ↓zx_cons, ↓zp_li, ↓zp_ll, ↓zp_lr, ↓zq_li0, ↓zq_li1, ↓zq_ll0, ↓zq_ll1, ↓zq_lr0, ↓zq_lr1, ↓zk_0, ↓zk_1n, ↓zk_1i, ↓zk_1r, ↓zk_1l, ↓zk_2, zp_okt, ↓zp_okl, zp_sh0, zp_sh1, zp_psn, zp_pss, ↓zp_ri1, ↓zp_ri20, ↓zp_ri21, ↓zp_rl, ↓zp_ra, ↓zp_rv, ↓zp_br, ↓reduceIte, Nat.reduceAdd, Nat.zero_add, Nat.add_zero, Nat.le_refl, Nat.zero_le, ↓zx_iconst, ↓zy_istore_2, ↓zy_istore_3, ↓zx_iload_3, ↓zx_aload_1, ↓zyg_4_2, ↓zy_ic_ge, ↓zx_iload_2, ↓zx_aload_0, ↓zyg_0_6, ↓zyg_4_1, ↓zya_7, ↓zya_8, ↓zya_9, ↓zya_10, ↓zya_17, ↓zya_18, ↓zyc_47, ↓zy_iadd, ↓zy_iinc, ↓zx_goto, ↓zx_iret, ↓zya_11, ↓zya_14, ↓zya_15, ↓zya_16, ht, h1, h2, h3, h4, true_and, nI_1, ↓zs_47]
    simp only [ih (i + 1) _ (by omega : i + 1 + n = t), cFFGo, z_it, cLn]
set_option maxRecDepth 100000 in
set_option maxHeartbeats 4000000 in
theorem zs_8 (h : z_nn (z_I (z_g m r) 4 s 2) 4) (hl : ∀ i, i < 4 → vp_in (z_I (z_g m r) 16 s i) 4) : z_call (d + 2) 8 [zr (some (0, r, 0)), zr (some (4, r, s))] m Q = Q (some (zi (cFF (z_g m r) s))) m := by
  simp only [↓zen_8, ↓zu_8_0, ↓zx_nil, ↓zx_cons, ↓zp_li, ↓zp_ll, ↓zp_lr, ↓zq_li0, ↓zq_li1, ↓zq_ll0, ↓zq_ll1, ↓zq_lr0, ↓zq_lr1, ↓zk_0, ↓zk_1n, ↓zk_1i, ↓zk_1r, ↓zk_1l, ↓zk_2, zp_okt, ↓zp_okl, zp_sh0, zp_sh1, zp_psn, zp_pss, ↓zp_ri1, ↓zp_ri20, ↓zp_ri21, ↓zp_rl, ↓zp_ra, ↓zp_rv, ↓zp_br, ↓reduceIte, Nat.reduceAdd, Nat.zero_add, Nat.add_zero, Nat.le_refl, Nat.zero_le, ↓zx_iconst, ↓zy_istore_2, ↓zy_istore_3, ↓zx_iload_3, ↓zx_aload_1, ↓zyg_4_2, ↓zy_ic_ge, ↓zx_iload_2, ↓zx_aload_0, ↓zyg_0_6, ↓zyg_4_1, ↓zya_7, ↓zya_8, ↓zya_9, ↓zya_10, ↓zya_17, ↓zya_18, ↓zyc_47, ↓zy_iadd, ↓zy_iinc, ↓zx_goto, ↓zx_iret, ↓zya_11, ↓zya_14, ↓zya_15, ↓zya_16]
  exact zl_8 h.eq h.2 hl (cOrd (z_g m r) s) 0 0 (by unfold cOrd; omega)
-- what is on its way to a store
def cRestsTo (S : zS) (v w : Int32) (n i : Nat) (a : Int32) : Int32 := z_it (fun i a => if z_I S 3 i 0 = 1 ∧ z_I S 3 i 2 = v ∧ z_I S 3 i 3 = w then a + cRest S i else a) n i a
set_option maxRecDepth 100000 in
set_option maxHeartbeats 4000000 in
theorem zl_28 {t : Nat} (ht : z_I (z_g m r) 0 0 5 = nI t) (ht2 : t ≤ 40) : ∀ (n i : Nat) (a : Int32), i + n = t → zW 28 (d + 1) Q 5 [some (zr (some (0, r, 0))), some (zi v), some (zi w), some (zi a), some (zi (nI i))] [] m 0 = Q (some (zi (cRestsTo (z_g m r) v w n i a))) m := by
  intro n
  induction n with
  | zero =>
    intro i a hi
    have h1 := z_le1 (show t ≤ i by omega) (by omega)
    rw [zu_28_5]
    simp only [↓zu_28_49, ↓zx_nil, ↓zx_cons, ↓zp_li, ↓zp_ll, ↓zp_lr, ↓zq_li0, ↓zq_li1, ↓zq_ll0, ↓zq_ll1, ↓zq_lr0, ↓zq_lr1, ↓zk_0, ↓zk_1n, ↓zk_1i, ↓zk_1r, ↓zk_1l, ↓zk_2, zp_okt, ↓zp_okl, zp_sh0, zp_sh1, zp_psn, zp_pss, ↓zp_ri1, ↓zp_ri20, ↓zp_ri21, ↓zp_rl, ↓zp_ra, ↓zp_rv, ↓zp_br, ↓reduceIte, Nat.reduceAdd, Nat.zero_add, Nat.add_zero, Nat.le_refl, Nat.zero_le, ↓zx_iconst, ↓zy_istore_3, ↓zy_istore, ↓zx_iload, ↓zx_aload_0, ↓zyg_0_5, ↓zy_ic_ge, ↓zyg_0_9, ↓zya_7, ↓zya_8, ↓zya_9, ↓zya_10, ↓zya_17, ↓zya_18, ↓zx_iload_1, ↓zx_iload_2, ↓zyc_29, ↓zy_if_eq, ↓zx_iload_3, ↓zyc_59, ↓zy_iadd, ↓zy_iinc, ↓zx_goto, ↓zx_iret, ht, h1]; rfl
  | succ n ih =>
    intro i a hi
    have h1 := z_le0 (show i < t by omega) (by omega)
    have h2 := z_vi1 (show i < 40 by omega) (by decide)
    have h3 := nI_clamp (show i < 2 ^ 31 by omega)
    rw [zu_28_5]
    simp only [↓zu_28_43, ↓zu_28_49, ↓zx_nil, ↓zx_cons, ↓zp_li, ↓zp_ll, ↓zp_lr, ↓zq_li0, ↓zq_li1, ↓zq_ll0, ↓zq_ll1, ↓zq_lr0, ↓zq_lr1, ↓zk_0, ↓zk_1n, ↓zk_1i, ↓zk_1r, ↓zk_1l, ↓zk_2, zp_okt, ↓zp_okl, zp_sh0, zp_sh1, zp_psn, zp_pss, ↓zp_ri1, ↓zp_ri20, ↓zp_ri21, ↓zp_rl, ↓zp_ra, ↓zp_rv, ↓zp_br, ↓reduceIte, Nat.reduceAdd, Nat.zero_add, Nat.add_zero, Nat.le_refl, Nat.zero_le, ↓zx_iconst, ↓zy_istore_3, ↓zy_istore, ↓zx_iload, ↓zx_aload_0, ↓zyg_0_5, ↓zy_ic_ge, ↓zyg_0_9, ↓zya_7, ↓zya_8, ↓zya_9, ↓zya_10, ↓zya_17, ↓zya_18, ↓zx_iload_1, ↓zx_iload_2, ↓zyc_29, ↓zy_if_eq, ↓zx_iload_3, ↓zyc_59, ↓zy_iadd, ↓zy_iinc, ↓zx_goto, ↓zx_iret, ht, h1, h2, h3, true_and, nI_1, ↓zs_29, ↓zs_59, z_i10]
    simp only [ih (i + 1) _ (by omega : i + 1 + n = t), cRestsTo, z_it]
    by_cases e : z_I (z_g m r) 3 i 0 = 1 ∧ z_I (z_g m r) 3 i 2 = v ∧ z_I (z_g m r) 3 i 3 = w
    · simp only [e, not_true_eq_false, if_false, if_true, and_self]
    · simp only [e, not_false_eq_true, if_false, if_true]
set_option maxRecDepth 100000 in
set_option maxHeartbeats 4000000 in
theorem zs_28 (h : z_nn (z_I (z_g m r) 0 0 5) 40) : z_call (d + 2) 28 [zr (some (0, r, 0)), zi v, zi w] m Q = Q (some (zi (cRestsTo (z_g m r) v w (cL (z_g m r)) 0 0))) m := by
  simp only [↓zen_28, ↓zu_28_0, ↓zx_nil, ↓zx_cons, ↓zp_li, ↓zp_ll, ↓zp_lr, ↓zq_li0, ↓zq_li1, ↓zq_ll0, ↓zq_ll1, ↓zq_lr0, ↓zq_lr1, ↓zk_0, ↓zk_1n, ↓zk_1i, ↓zk_1r, ↓zk_1l, ↓zk_2, zp_okt, ↓zp_okl, zp_sh0, zp_sh1, zp_psn, zp_pss, ↓zp_ri1, ↓zp_ri20, ↓zp_ri21, ↓zp_rl, ↓zp_ra, ↓zp_rv, ↓zp_br, ↓reduceIte, Nat.reduceAdd, Nat.zero_add, Nat.add_zero, Nat.le_refl, Nat.zero_le, ↓zx_iconst, ↓zy_istore_3, ↓zy_istore, ↓zx_iload, ↓zx_aload_0, ↓zyg_0_5, ↓zy_ic_ge, ↓zyg_0_9, ↓zya_7, ↓zya_8, ↓zya_9, ↓zya_10, ↓zya_17, ↓zya_18, ↓zx_iload_1, ↓zx_iload_2, ↓zyc_29, ↓zy_if_eq, ↓zx_iload_3, ↓zyc_59, ↓zy_iadd, ↓zy_iinc, ↓zx_goto, ↓zx_iret]
  exact zl_28 h.eq h.2 (cL (z_g m r)) 0 0 (by unfold cL; omega)
set_option maxRecDepth 100000 in
set_option maxHeartbeats 4000000 in
theorem zs_6 (h : z_nn (z_I (z_g m r) 0 0 11) 40) : z_call (d + 1) 6 [zr (some (0, r, 0)), zi v] m Q = Q (some (zi (if 0 ≤ v ∧ v < z_I (z_g m r) 0 0 11 then z_I (z_g m r) 11 0 v.toNatClampNeg - z_I (z_g m r) 11 0 v.toNatClampNeg / 40 * 40 else 0))) m := by
  by_cases h1 : v < 0
  · have h2 : ¬ (0 ≤ v ∧ v < z_I (z_g m r) 0 0 11) := fun q => absurd h1 (Int32.not_lt.mpr q.1)
    simp only [↓zen_6, ↓zu_6_0, ↓zu_6_24, ↓zu_6_25, ↓zx_nil, ↓zx_cons, ↓zp_li, ↓zp_ll, ↓zp_lr, ↓zq_li0, ↓zq_li1, ↓zq_ll0, ↓zq_ll1, ↓zq_lr0, ↓zq_lr1, ↓zk_0, ↓zk_1n, ↓zk_1i, ↓zk_1r, ↓zk_1l, ↓zk_2, zp_okt, ↓zp_okl, zp_sh0, zp_sh1, zp_psn, zp_pss, ↓zp_ri1, ↓zp_ri20, ↓zp_ri21, ↓zp_rl, ↓zp_ra, ↓zp_rv, ↓zp_br, ↓reduceIte, Nat.reduceAdd, Nat.zero_add, Nat.add_zero, Nat.le_refl, Nat.zero_le, ↓zx_iload_1, ↓zy_if_lt, ↓zx_aload_0, ↓zyg_0_11, ↓zy_ic_ge, ↓zyg_0_10, ↓zx_bipush, ↓zy_irem, ↓zx_goto, ↓zx_iconst, ↓zx_iret, ↓zya_11, ↓zya_14, ↓zya_15, ↓zya_16, h1, h2, if_false]
  · by_cases h2 : z_I (z_g m r) 0 0 11 ≤ v
    · have h3 : ¬ (0 ≤ v ∧ v < z_I (z_g m r) 0 0 11) := fun q => absurd q.2 (Int32.not_lt.mpr h2)
      simp only [↓zen_6, ↓zu_6_0, ↓zu_6_24, ↓zu_6_25, ↓zx_nil, ↓zx_cons, ↓zp_li, ↓zp_ll, ↓zp_lr, ↓zq_li0, ↓zq_li1, ↓zq_ll0, ↓zq_ll1, ↓zq_lr0, ↓zq_lr1, ↓zk_0, ↓zk_1n, ↓zk_1i, ↓zk_1r, ↓zk_1l, ↓zk_2, zp_okt, ↓zp_okl, zp_sh0, zp_sh1, zp_psn, zp_pss, ↓zp_ri1, ↓zp_ri20, ↓zp_ri21, ↓zp_rl, ↓zp_ra, ↓zp_rv, ↓zp_br, ↓reduceIte, Nat.reduceAdd, Nat.zero_add, Nat.add_zero, Nat.le_refl, Nat.zero_le, ↓zx_iload_1, ↓zy_if_lt, ↓zx_aload_0, ↓zyg_0_11, ↓zy_ic_ge, ↓zyg_0_10, ↓zx_bipush, ↓zy_irem, ↓zx_goto, ↓zx_iconst, ↓zx_iret, ↓zya_11, ↓zya_14, ↓zya_15, ↓zya_16, h1, h2, h3, if_false]
    · have h0 : 0 ≤ v := Int32.not_lt.mp h1
      have h3 : 0 ≤ v ∧ v < z_I (z_g m r) 0 0 11 := ⟨h0, Int32.not_le.mp h2⟩
      have h4 : vp_in v 40 := fun q => by
        rcases q with q | q
        · exact h1 q
        · refine h2 ?_
          rw [h.eq, z_nn_eq h0]
          exact nI_le (Nat.le_trans h.2 q) z_nn_lt
      simp only [↓zen_6, ↓zu_6_0, ↓zu_6_24, ↓zu_6_25, ↓zx_nil, ↓zx_cons, ↓zp_li, ↓zp_ll, ↓zp_lr, ↓zq_li0, ↓zq_li1, ↓zq_ll0, ↓zq_ll1, ↓zq_lr0, ↓zq_lr1, ↓zk_0, ↓zk_1n, ↓zk_1i, ↓zk_1r, ↓zk_1l, ↓zk_2, zp_okt, ↓zp_okl, zp_sh0, zp_sh1, zp_psn, zp_pss, ↓zp_ri1, ↓zp_ri20, ↓zp_ri21, ↓zp_rl, ↓zp_ra, ↓zp_rv, ↓zp_br, ↓reduceIte, Nat.reduceAdd, Nat.zero_add, Nat.add_zero, Nat.le_refl, Nat.zero_le, ↓zx_iload_1, ↓zy_if_lt, ↓zx_aload_0, ↓zyg_0_11, ↓zy_ic_ge, ↓zyg_0_10, ↓zx_bipush, ↓zy_irem, ↓zx_goto, ↓zx_iconst, ↓zx_iret, ↓zya_11, ↓zya_14, ↓zya_15, ↓zya_16, h1, h2, h3, h4, true_and, if_true, show ¬ (40 : Int32) = 0 by decide, not_false_eq_true]
end Bk1
