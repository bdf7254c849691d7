/-! ===== THE CLASS: BondStores, questions (4): bits ===== -/
section Bs9
variable {d r i k g s r2 i2 l : Nat} {m : zM} {Q : zQ} {v w a b c e f x y : Int32}
abbrev z_us (x n : Int32) : Int32 := (x.toUInt32 >>> (n.toUInt32 &&& Int32.toUInt32 31)).toInt32
abbrev qB1 (x : Int32) : Int32 := x - (z_us x 1 &&& 1431655765)
abbrev qB2 (y : Int32) : Int32 := (y &&& 858993459) + (z_us y 2 &&& 858993459)
abbrev qB3 (y : Int32) : Int32 := (y + z_us y 4) &&& 252645135
abbrev qB4 (y : Int32) : Int32 := y + z_us y 8
abbrev qB5 (y : Int32) : Int32 := y + z_us y 16
def qBc (x : Int32) : Int32 := qB5 (qB4 (qB3 (qB2 (qB1 x)))) &&& 63
set_option maxRecDepth 100000 in
set_option maxHeartbeats 4000000 in
theorem zs_228 : z_call (d + 1) 228 [zi x] m Q = Q (some (zi (qBc x))) m := by
  simp only [↓zen_228, ↓zu_228_0, ↓zx_nil, ↓zx_cons, ↓zp_li, ↓zp_ll, ↓zp_lr, ↓zq_li0, ↓zq_li1, ↓zq_ll0, ↓zq_ll1, ↓zq_lr0, ↓zq_lr1, ↓zk_0, ↓zk_1n, ↓zk_1i, ↓zk_1r, ↓zk_1l, ↓zk_2, zp_okt, ↓zp_okl, zp_sh0, zp_sh1, zp_psn, zp_pss, ↓zp_ri1, ↓zp_ri20, ↓zp_ri21, ↓zp_rl, ↓zp_ra, ↓zp_rv, ↓zp_br, ↓reduceIte, Nat.reduceAdd, Nat.zero_add, Nat.add_zero, Nat.le_refl, Nat.zero_le, ↓zx_iload_0, ↓zx_iconst, ↓zy_iushr, ↓zx_ldc_w, ↓zy_iand, ↓zy_isub, ↓zy_istore_0, ↓zy_iadd, ↓zx_bipush, ↓zx_iret]
  rfl
abbrev qBit (x : Int32) (i : Nat) : Prop := (x >>> (nI i &&& 31)) &&& 1 = 1
def qChg (X : zS) (x : Int32) : Nat → Nat → Int32 → Int32
  | 0, _, a => a
  | n + 1, i, a => if qBit x i then a + z_I X 20 0 i else qChg X x n (i + 1) (a - z_I X 20 0 i)
set_option maxRecDepth 100000 in
set_option maxHeartbeats 4000000 in
theorem zl_116 {t : Nat} (ht : t ≤ 12) : ∀ (n i : Nat) (a : Int32), i + n = t → zW 116 d Q 5 [some (zr (some (5, 0, 0))), some (zi x), some (zi (nI t)), some (zi a), some (zi (nI i))] [] m 0 = Q (some (zi (qChg (z_g m 0) x n i a))) m := by
  intro n
  induction n with
  | zero =>
    intro i a hi
    have h1 := z_le1 (show t ≤ i by omega) (by omega)
    rw [zu_116_5]
    simp only [↓zu_116_31, ↓zu_116_47, ↓zx_nil, ↓zx_cons, ↓zp_li, ↓zp_ll, ↓zp_lr, ↓zq_li0, ↓zq_li1, ↓zq_ll0, ↓zq_ll1, ↓zq_lr0, ↓zq_lr1, ↓zk_0, ↓zk_1n, ↓zk_1i, ↓zk_1r, ↓zk_1l, ↓zk_2, zp_okt, ↓zp_okl, zp_sh0, zp_sh1, zp_psn, zp_pss, ↓zp_ri1, ↓zp_ri20, ↓zp_ri21, ↓zp_rl, ↓zp_ra, ↓zp_rv, ↓zp_br, ↓reduceIte, Nat.reduceAdd, Nat.zero_add, Nat.add_zero, Nat.le_refl, Nat.zero_le, ↓zx_iconst, ↓zy_istore_3, ↓zy_istore, ↓zx_iload, ↓zx_iload_2, ↓zy_ic_ge, ↓zx_iload_1, ↓zy_ishr, ↓zy_iand, ↓zy_ic_ne, ↓zx_iload_3, ↓zx_aload_0, ↓zyg_5_12, ↓zy_iadd, ↓zx_iret, ↓zy_isub, ↓zy_iinc, ↓zx_goto, ↓zya_19, ↓zya_20, ↓zya_11, ↓zya_12, ↓zya_13, ↓zya_14, ↓zya_15, ↓zya_16, h1, if_true, qChg]
  | succ n ih =>
    intro i a hi
    have h1 := z_le0 (show i < t by omega) (by omega)
    have h2 := z_vi1 (show i < 12 by omega) (by decide)
    have h3 := nI_clamp (show i < 2 ^ 31 by omega)
    rw [zu_116_5]
    by_cases h4 : x >>> (nI i &&& 31) &&& 1 = 1
    · simp only [↓zu_116_31, ↓zu_116_47, ↓zx_nil, ↓zx_cons, ↓zp_li, ↓zp_ll, ↓zp_lr, ↓zq_li0, ↓zq_li1, ↓zq_ll0, ↓zq_ll1, ↓zq_lr0, ↓zq_lr1, ↓zk_0, ↓zk_1n, ↓zk_1i, ↓zk_1r, ↓zk_1l, ↓zk_2, zp_okt, ↓zp_okl, zp_sh0, zp_sh1, zp_psn, zp_pss, ↓zp_ri1, ↓zp_ri20, ↓zp_ri21, ↓zp_rl, ↓zp_ra, ↓zp_rv, ↓zp_br, ↓reduceIte, Nat.reduceAdd, Nat.zero_add, Nat.add_zero, Nat.le_refl, Nat.zero_le, ↓zx_iconst, ↓zy_istore_3, ↓zy_istore, ↓zx_iload, ↓zx_iload_2, ↓zy_ic_ge, ↓zx_iload_1, ↓zy_ishr, ↓zy_iand, ↓zy_ic_ne, ↓zx_iload_3, ↓zx_aload_0, ↓zyg_5_12, ↓zy_iadd, ↓zx_iret, ↓zy_isub, ↓zy_iinc, ↓zx_goto, ↓zya_19, ↓zya_20, ↓zya_11, ↓zya_12, ↓zya_13, ↓zya_14, ↓zya_15, ↓zya_16, z_i10, z_10, z_00, and_self, not_true_eq_false, not_false_eq_true, true_and, and_true, false_and, and_false, true_or, false_or, or_false, or_true, or_self, if_true, if_false, ite_self, ↓zs_72, h1, h2, h3, h4, qBit, qChg]
    · simp only [↓zu_116_31, ↓zu_116_47, ↓zx_nil, ↓zx_cons, ↓zp_li, ↓zp_ll, ↓zp_lr, ↓zq_li0, ↓zq_li1, ↓zq_ll0, ↓zq_ll1, ↓zq_lr0, ↓zq_lr1, ↓zk_0, ↓zk_1n, ↓zk_1i, ↓zk_1r, ↓zk_1l, ↓zk_2, zp_okt, ↓zp_okl, zp_sh0, zp_sh1, zp_psn, zp_pss, ↓zp_ri1, ↓zp_ri20, ↓zp_ri21, ↓zp_rl, ↓zp_ra, ↓zp_rv, ↓zp_br, ↓reduceIte, Nat.reduceAdd, Nat.zero_add, Nat.add_zero, Nat.le_refl, Nat.zero_le, ↓zx_iconst, ↓zy_istore_3, ↓zy_istore, ↓zx_iload, ↓zx_iload_2, ↓zy_ic_ge, ↓zx_iload_1, ↓zy_ishr, ↓zy_iand, ↓zy_ic_ne, ↓zx_iload_3, ↓zx_aload_0, ↓zyg_5_12, ↓zy_iadd, ↓zx_iret, ↓zy_isub, ↓zy_iinc, ↓zx_goto, ↓zya_19, ↓zya_20, ↓zya_11, ↓zya_12, ↓zya_13, ↓zya_14, ↓zya_15, ↓zya_16, z_i10, z_10, z_00, and_self, not_true_eq_false, not_false_eq_true, true_and, and_true, false_and, and_false, true_or, false_or, or_false, or_true, or_self, if_true, if_false, ite_self, ↓zs_72, h1, h2, h3, h4, nI_1, qBit, qChg]
      exact ih (i + 1) _ (by omega)
set_option maxRecDepth 100000 in
set_option maxHeartbeats 4000000 in
theorem zs_116 {t : Nat} (ht : t ≤ 12) : z_call (d + 1) 116 [zr (some (5, 0, 0)), zi x, zi (nI t)] m Q = Q (some (zi (qChg (z_g m 0) x t 0 0))) m := by
  simp only [↓zen_116, ↓zu_116_0, ↓zx_nil, ↓zx_cons, ↓zp_li, ↓zp_ll, ↓zp_lr, ↓zq_li0, ↓zq_li1, ↓zq_ll0, ↓zq_ll1, ↓zq_lr0, ↓zq_lr1, ↓zk_0, ↓zk_1n, ↓zk_1i, ↓zk_1r, ↓zk_1l, ↓zk_2, zp_okt, ↓zp_okl, zp_sh0, zp_sh1, zp_psn, zp_pss, ↓zp_ri1, ↓zp_ri20, ↓zp_ri21, ↓zp_rl, ↓zp_ra, ↓zp_rv, ↓zp_br, ↓reduceIte, Nat.reduceAdd, Nat.zero_add, Nat.add_zero, Nat.le_refl, Nat.zero_le, ↓zx_iconst, ↓zy_istore_3, ↓zy_istore, ↓zx_iload, ↓zx_iload_2, ↓zy_ic_ge, ↓zx_iload_1, ↓zy_ishr, ↓zy_iand, ↓zy_ic_ne, ↓zx_iload_3, ↓zx_aload_0, ↓zyg_5_12, ↓zy_iadd, ↓zx_iret, ↓zy_isub, ↓zy_iinc, ↓zx_goto, ↓zya_19, ↓zya_20, ↓zya_11, ↓zya_12, ↓zya_13, ↓zya_14, ↓zya_15, ↓zya_16]
  exact zl_116 ht t 0 0 (by omega)
def qSum (X : zS) (x : Int32) (n i : Nat) (a : Int32) : Int32 := z_it (fun i a => if qBit x i then a + z_I X 20 0 i else a) n i a
set_option maxRecDepth 100000 in
set_option maxHeartbeats 4000000 in
theorem zl_117 {t : Nat} (ht : t ≤ 12) : ∀ (n i : Nat) (a : Int32), i + n = t → zW 117 d Q 5 [some (zr (some (5, 0, 0))), some (zi (nI t)), some (zi x), some (zi a), some (zi (nI i))] [] m 0 = Q (some (zi (qSum (z_g m 0) x n i a))) m := by
  intro n
  induction n with
  | zero =>
    intro i a hi
    have h1 := z_le1 (show t ≤ i by omega) (by omega)
    rw [zu_117_5]
    simp only [↓zu_117_31, ↓zu_117_37, ↓zx_nil, ↓zx_cons, ↓zp_li, ↓zp_ll, ↓zp_lr, ↓zq_li0, ↓zq_li1, ↓zq_ll0, ↓zq_ll1, ↓zq_lr0, ↓zq_lr1, ↓zk_0, ↓zk_1n, ↓zk_1i, ↓zk_1r, ↓zk_1l, ↓zk_2, zp_okt, ↓zp_okl, zp_sh0, zp_sh1, zp_psn, zp_pss, ↓zp_ri1, ↓zp_ri20, ↓zp_ri21, ↓zp_rl, ↓zp_ra, ↓zp_rv, ↓zp_br, ↓reduceIte, Nat.reduceAdd, Nat.zero_add, Nat.add_zero, Nat.le_refl, Nat.zero_le, ↓zx_iconst, ↓zy_istore_3, ↓zy_istore, ↓zx_iload, ↓zx_iload_1, ↓zy_ic_ge, ↓zx_iload_2, ↓zy_ishr, ↓zy_iand, ↓zy_ic_ne, ↓zx_iload_3, ↓zx_aload_0, ↓zyg_5_12, ↓zy_iadd, ↓zy_iinc, ↓zx_goto, ↓zx_iret, ↓zya_19, ↓zya_20, ↓zya_11, ↓zya_12, ↓zya_13, ↓zya_14, ↓zya_15, ↓zya_16, h1, if_true]
    rfl
  | succ n ih =>
    intro i a hi
    have h1 := z_le0 (show i < t by omega) (by omega)
    have h2 := z_vi1 (show i < 12 by omega) (by decide)
    have h3 := nI_clamp (show i < 2 ^ 31 by omega)
    rw [zu_117_5]
    by_cases h4 : x >>> (nI i &&& 31) &&& 1 = 1
    · simp only [↓zu_117_31, ↓zu_117_37, ↓zx_nil, ↓zx_cons, ↓zp_li, ↓zp_ll, ↓zp_lr, ↓zq_li0, ↓zq_li1, ↓zq_ll0, ↓zq_ll1, ↓zq_lr0, ↓zq_lr1, ↓zk_0, ↓zk_1n, ↓zk_1i, ↓zk_1r, ↓zk_1l, ↓zk_2, zp_okt, ↓zp_okl, zp_sh0, zp_sh1, zp_psn, zp_pss, ↓zp_ri1, ↓zp_ri20, ↓zp_ri21, ↓zp_rl, ↓zp_ra, ↓zp_rv, ↓zp_br, ↓reduceIte, Nat.reduceAdd, Nat.zero_add, Nat.add_zero, Nat.le_refl, Nat.zero_le, ↓zx_iconst, ↓zy_istore_3, ↓zy_istore, ↓zx_iload, ↓zx_iload_1, ↓zy_ic_ge, ↓zx_iload_2, ↓zy_ishr, ↓zy_iand, ↓zy_ic_ne, ↓zx_iload_3, ↓zx_aload_0, ↓zyg_5_12, ↓zy_iadd, ↓zy_iinc, ↓zx_goto, ↓zx_iret, ↓zya_19, ↓zya_20, ↓zya_11, ↓zya_12, ↓zya_13, ↓zya_14, ↓zya_15, ↓zya_16, z_i10, z_10, z_00, and_self, not_true_eq_false, not_false_eq_true, true_and, and_true, false_and, and_false, true_or, false_or, or_false, or_true, or_self, if_true, if_false, ite_self, ↓zs_72, h1, h2, h3, h4, nI_1]
      rw [ih (i + 1) _ (by omega)]
      show _ = Q (some (zi (z_it _ n (i + 1) (if qBit x i then _ else _)))) m
      rw [if_pos h4]; rfl
    · simp only [↓zu_117_31, ↓zu_117_37, ↓zx_nil, ↓zx_cons, ↓zp_li, ↓zp_ll, ↓zp_lr, ↓zq_li0, ↓zq_li1, ↓zq_ll0, ↓zq_ll1, ↓zq_lr0, ↓zq_lr1, ↓zk_0, ↓zk_1n, ↓zk_1i, ↓zk_1r, ↓zk_1l, ↓zk_2, zp_okt, ↓zp_okl, zp_sh0, zp_sh1, zp_psn, zp_pss, ↓zp_ri1, ↓zp_ri20, ↓zp_ri21, ↓zp_rl, ↓zp_ra, ↓zp_rv, ↓zp_br, ↓reduceIte, Nat.reduceAdd, Nat.zero_add, Nat.add_zero, Nat.le_refl, Nat.zero_le, ↓zx_iconst, ↓zy_istore_3, ↓zy_istore, ↓zx_iload, ↓zx_iload_1, ↓zy_ic_ge, ↓zx_iload_2, ↓zy_ishr, ↓zy_iand, ↓zy_ic_ne, ↓zx_iload_3, ↓zx_aload_0, ↓zyg_5_12, ↓zy_iadd, ↓zy_iinc, ↓zx_goto, ↓zx_iret, ↓zya_19, ↓zya_20, ↓zya_11, ↓zya_12, ↓zya_13, ↓zya_14, ↓zya_15, ↓zya_16, z_i10, z_10, z_00, and_self, not_true_eq_false, not_false_eq_true, true_and, and_true, false_and, and_false, true_or, false_or, or_false, or_true, or_self, if_true, if_false, ite_self, ↓zs_72, h1, h2, h3, h4, nI_1]
      rw [ih (i + 1) _ (by omega)]
      show _ = Q (some (zi (z_it _ n (i + 1) (if qBit x i then _ else _)))) m
      rw [if_neg h4]; rfl
set_option maxRecDepth 100000 in
set_option maxHeartbeats 4000000 in
theorem zs_117 {t : Nat} (ht : t ≤ 12) : z_call (d + 1) 117 [zr (some (5, 0, 0)), zi (nI t), zi x] m Q = Q (some (zi (qSum (z_g m 0) x t 0 0))) m := by
  simp only [↓zen_117, ↓zu_117_0, ↓zx_nil, ↓zx_cons, ↓zp_li, ↓zp_ll, ↓zp_lr, ↓zq_li0, ↓zq_li1, ↓zq_ll0, ↓zq_ll1, ↓zq_lr0, ↓zq_lr1, ↓zk_0, ↓zk_1n, ↓zk_1i, ↓zk_1r, ↓zk_1l, ↓zk_2, zp_okt, ↓zp_okl, zp_sh0, zp_sh1, zp_psn, zp_pss, ↓zp_ri1, ↓zp_ri20, ↓zp_ri21, ↓zp_rl, ↓zp_ra, ↓zp_rv, ↓zp_br, ↓reduceIte, Nat.reduceAdd, Nat.zero_add, Nat.add_zero, Nat.le_refl, Nat.zero_le, ↓zx_iconst, ↓zy_istore_3, ↓zy_istore, ↓zx_iload, ↓zx_iload_1, ↓zy_ic_ge, ↓zx_iload_2, ↓zy_ishr, ↓zy_iand, ↓zy_ic_ne, ↓zx_iload_3, ↓zx_aload_0, ↓zyg_5_12, ↓zy_iadd, ↓zy_iinc, ↓zx_goto, ↓zx_iret, ↓zya_19, ↓zya_20, ↓zya_11, ↓zya_12, ↓zya_13, ↓zya_14, ↓zya_15, ↓zya_16]
  exact zl_117 ht t 0 0 (by omega)
theorem z_1s {t : Nat} (ht : t ≤ 12) : (1 : Int32) <<< (nI t &&& 31) = nI (2 ^ t) := by
  have : ∀ t : Fin 13, (1 : Int32) <<< (nI t.val &&& 31) = nI (2 ^ t.val) := by decide
  exact this ⟨t, by omega⟩
theorem z_2p {t : Nat} (ht : t ≤ 12) : 2 ^ t ≤ 4096 := Nat.pow_le_pow_right (n := 2) (j := 12) (by decide) ht
def qFull (X : zS) (t : Nat) (bound : Int32) : Nat → Nat → Int32 → Int32 → Int32 → Int32
  | 0, _, fo, _, _ => fo
  | n + 1, i, fo, fs, su => if ¬ bound < su + qChg X (nI i) t 0 0 ∧ ¬ su + qChg X (nI i) t 0 0 ≤ fs then qFull X t bound n (i + 1) (nI i) (su + qChg X (nI i) t 0 0) (su + qChg X (nI i) t 0 0) else qFull X t bound n (i + 1) fo fs (su + qChg X (nI i) t 0 0)
set_option maxRecDepth 100000 in
set_option maxHeartbeats 4000000 in
theorem zl_115 {t : Nat} (ht : t ≤ 12) : ∀ (n i : Nat) (fo fs su : Int32), i + n = 2 ^ t → zW 115 (d + 1) Q 11 [some (zr (some (5, 0, 0))), some (zi (nI t)), some (zi b), some (zi fo), some (zi fs), some (zi su), some (zi (nI i))] [] m 0 = Q (some (zi (qFull (z_g m 0) t b n i fo fs su))) m := by
  have hp := z_2p ht
  have h5 := z_1s ht
  intro n
  induction n with
  | zero =>
    intro i fo fs su hi
    have h1 := z_le1 (show 2 ^ t ≤ i by omega) (by omega)
    rw [zu_115_11]
    simp only [↓zu_115_51, ↓zu_115_57, ↓zx_nil, ↓zx_cons, ↓zp_li, ↓zp_ll, ↓zp_lr, ↓zq_li0, ↓zq_li1, ↓zq_ll0, ↓zq_ll1, ↓zq_lr0, ↓zq_lr1, ↓zk_0, ↓zk_1n, ↓zk_1i, ↓zk_1r, ↓zk_1l, ↓zk_2, zp_okt, ↓zp_okl, zp_sh0, zp_sh1, zp_psn, zp_pss, ↓zp_ri1, ↓zp_ri20, ↓zp_ri21, ↓zp_rl, ↓zp_ra, ↓zp_rv, ↓zp_br, ↓reduceIte, Nat.reduceAdd, Nat.zero_add, Nat.add_zero, Nat.le_refl, Nat.zero_le, ↓zx_iconst, ↓zy_istore_3, ↓zy_istore, ↓zx_iload, ↓zx_iload_1, ↓zy_ishl, ↓zy_ic_ge, ↓zx_aload_0, ↓zyc_116, ↓zy_iadd, ↓zx_iload_2, ↓zy_ic_gt, ↓zy_ic_le, ↓zy_iinc, ↓zx_goto, ↓zx_iload_3, ↓zx_iret, h5, h1, if_true, qFull]
  | succ n ih =>
    intro i fo fs su hi
    have h1 := z_le0 (show i < 2 ^ t by omega) (by omega)
    rw [zu_115_11]
    by_cases h6 : b < su + qChg (z_g m 0) (nI i) t 0 0
    · simp only [↓zu_115_51, ↓zu_115_57, ↓zx_nil, ↓zx_cons, ↓zp_li, ↓zp_ll, ↓zp_lr, ↓zq_li0, ↓zq_li1, ↓zq_ll0, ↓zq_ll1, ↓zq_lr0, ↓zq_lr1, ↓zk_0, ↓zk_1n, ↓zk_1i, ↓zk_1r, ↓zk_1l, ↓zk_2, zp_okt, ↓zp_okl, zp_sh0, zp_sh1, zp_psn, zp_pss, ↓zp_ri1, ↓zp_ri20, ↓zp_ri21, ↓zp_rl, ↓zp_ra, ↓zp_rv, ↓zp_br, ↓reduceIte, Nat.reduceAdd, Nat.zero_add, Nat.add_zero, Nat.le_refl, Nat.zero_le, ↓zx_iconst, ↓zy_istore_3, ↓zy_istore, ↓zx_iload, ↓zx_iload_1, ↓zy_ishl, ↓zy_ic_ge, ↓zx_aload_0, ↓zyc_116, ↓zy_iadd, ↓zx_iload_2, ↓zy_ic_gt, ↓zy_ic_le, ↓zy_iinc, ↓zx_goto, ↓zx_iload_3, ↓zx_iret, z_i10, z_10, z_00, and_self, not_true_eq_false, not_false_eq_true, true_and, and_true, false_and, and_false, true_or, false_or, or_false, or_true, or_self, if_true, if_false, ite_self, ↓zs_72, h5, h1, ↓zs_116 ht, h6, nI_1, qFull]
      exact ih (i + 1) _ _ _ (by omega)
    · by_cases h7 : su + qChg (z_g m 0) (nI i) t 0 0 ≤ fs
      · simp only [↓zu_115_51, ↓zu_115_57, ↓zx_nil, ↓zx_cons, ↓zp_li, ↓zp_ll, ↓zp_lr, ↓zq_li0, ↓zq_li1, ↓zq_ll0, ↓zq_ll1, ↓zq_lr0, ↓zq_lr1, ↓zk_0, ↓zk_1n, ↓zk_1i, ↓zk_1r, ↓zk_1l, ↓zk_2, zp_okt, ↓zp_okl, zp_sh0, zp_sh1, zp_psn, zp_pss, ↓zp_ri1, ↓zp_ri20, ↓zp_ri21, ↓zp_rl, ↓zp_ra, ↓zp_rv, ↓zp_br, ↓reduceIte, Nat.reduceAdd, Nat.zero_add, Nat.add_zero, Nat.le_refl, Nat.zero_le, ↓zx_iconst, ↓zy_istore_3, ↓zy_istore, ↓zx_iload, ↓zx_iload_1, ↓zy_ishl, ↓zy_ic_ge, ↓zx_aload_0, ↓zyc_116, ↓zy_iadd, ↓zx_iload_2, ↓zy_ic_gt, ↓zy_ic_le, ↓zy_iinc, ↓zx_goto, ↓zx_iload_3, ↓zx_iret, z_i10, z_10, z_00, and_self, not_true_eq_false, not_false_eq_true, true_and, and_true, false_and, and_false, true_or, false_or, or_false, or_true, or_self, if_true, if_false, ite_self, ↓zs_72, h5, h1, ↓zs_116 ht, h6, h7, nI_1, qFull]
        exact ih (i + 1) _ _ _ (by omega)
      · simp only [↓zu_115_51, ↓zu_115_57, ↓zx_nil, ↓zx_cons, ↓zp_li, ↓zp_ll, ↓zp_lr, ↓zq_li0, ↓zq_li1, ↓zq_ll0, ↓zq_ll1, ↓zq_lr0, ↓zq_lr1, ↓zk_0, ↓zk_1n, ↓zk_1i, ↓zk_1r, ↓zk_1l, ↓zk_2, zp_okt, ↓zp_okl, zp_sh0, zp_sh1, zp_psn, zp_pss, ↓zp_ri1, ↓zp_ri20, ↓zp_ri21, ↓zp_rl, ↓zp_ra, ↓zp_rv, ↓zp_br, ↓reduceIte, Nat.reduceAdd, Nat.zero_add, Nat.add_zero, Nat.le_refl, Nat.zero_le, ↓zx_iconst, ↓zy_istore_3, ↓zy_istore, ↓zx_iload, ↓zx_iload_1, ↓zy_ishl, ↓zy_ic_ge, ↓zx_aload_0, ↓zyc_116, ↓zy_iadd, ↓zx_iload_2, ↓zy_ic_gt, ↓zy_ic_le, ↓zy_iinc, ↓zx_goto, ↓zx_iload_3, ↓zx_iret, z_i10, z_10, z_00, and_self, not_true_eq_false, not_false_eq_true, true_and, and_true, false_and, and_false, true_or, false_or, or_false, or_true, or_self, if_true, if_false, ite_self, ↓zs_72, h5, h1, ↓zs_116 ht, h6, h7, nI_1, qFull]
        exact ih (i + 1) _ _ _ (by omega)
set_option maxRecDepth 100000 in
set_option maxHeartbeats 4000000 in
theorem zs_115 {t : Nat} (ht : t ≤ 12) : z_call (d + 2) 115 [zr (some (5, 0, 0)), zi (nI t), zi b] m Q = Q (some (zi (qFull (z_g m 0) t b (2 ^ t - 1) 1 0 0 0))) m := by
  have hp : 0 < 2 ^ t := Nat.pow_pos (by decide)
  simp only [↓zen_115, ↓zu_115_0, ↓zx_nil, ↓zx_cons, ↓zp_li, ↓zp_ll, ↓zp_lr, ↓zq_li0, ↓zq_li1, ↓zq_ll0, ↓zq_ll1, ↓zq_lr0, ↓zq_lr1, ↓zk_0, ↓zk_1n, ↓zk_1i, ↓zk_1r, ↓zk_1l, ↓zk_2, zp_okt, ↓zp_okl, zp_sh0, zp_sh1, zp_psn, zp_pss, ↓zp_ri1, ↓zp_ri20, ↓zp_ri21, ↓zp_rl, ↓zp_ra, ↓zp_rv, ↓zp_br, ↓reduceIte, Nat.reduceAdd, Nat.zero_add, Nat.add_zero, Nat.le_refl, Nat.zero_le, ↓zx_iconst, ↓zy_istore_3, ↓zy_istore, ↓zx_iload, ↓zx_iload_1, ↓zy_ishl, ↓zy_ic_ge, ↓zx_aload_0, ↓zyc_116, ↓zy_iadd, ↓zx_iload_2, ↓zy_ic_gt, ↓zy_ic_le, ↓zy_iinc, ↓zx_goto, ↓zx_iload_3, ↓zx_iret]
  exact zl_115 ht (2 ^ t - 1) 1 0 0 0 (by omega)
def qFew (X : zS) (t : Nat) (want : Int32) : Nat → Nat → Int32 → Int32 → Int32
  | 0, _, fo, _ => fo
  | n + 1, i, fo, su => qFew X t want n (i + 1) (if su + qChg X (nI i) t 0 0 = want ∧ (fo = 0 ∨ ¬ qBc fo ≤ qBc (nI i)) then nI i else fo) (su + qChg X (nI i) t 0 0)
set_option maxRecDepth 100000 in
set_option maxHeartbeats 4000000 in
theorem zl_119 {t : Nat} (ht : t ≤ 12) : ∀ (n i : Nat) (fo su : Int32), i + n = 2 ^ t → zW 119 (d + 1) Q 8 [some (zr (some (5, 0, 0))), some (zi (nI t)), some (zi b), some (zi fo), some (zi su), some (zi (nI i))] [] m 0 = Q (some (zi (qFew (z_g m 0) t b n i fo su))) m := by
  have hp := z_2p ht
  have h5 := z_1s ht
  intro n
  induction n with
  | zero =>
    intro i fo su hi
    have h1 := z_le1 (show 2 ^ t ≤ i by omega) (by omega)
    rw [zu_119_8]
    simp only [↓zu_119_50, ↓zu_119_53, ↓zu_119_59, ↓zx_nil, ↓zx_cons, ↓zp_li, ↓zp_ll, ↓zp_lr, ↓zq_li0, ↓zq_li1, ↓zq_ll0, ↓zq_ll1, ↓zq_lr0, ↓zq_lr1, ↓zk_0, ↓zk_1n, ↓zk_1i, ↓zk_1r, ↓zk_1l, ↓zk_2, zp_okt, ↓zp_okl, zp_sh0, zp_sh1, zp_psn, zp_pss, ↓zp_ri1, ↓zp_ri20, ↓zp_ri21, ↓zp_rl, ↓zp_ra, ↓zp_rv, ↓zp_br, ↓reduceIte, Nat.reduceAdd, Nat.zero_add, Nat.add_zero, Nat.le_refl, Nat.zero_le, ↓zx_iconst, ↓zy_istore_3, ↓zy_istore, ↓zx_iload, ↓zx_iload_1, ↓zy_ishl, ↓zy_ic_ge, ↓zx_aload_0, ↓zyc_116, ↓zy_iadd, ↓zx_iload_2, ↓zy_ic_ne, ↓zx_iload_3, ↓zy_if_eq, ↓zyc_228, ↓zy_iinc, ↓zx_goto, ↓zx_iret, h5, h1, if_true, qFew]
  | succ n ih =>
    intro i fo su hi
    have h1 := z_le0 (show i < 2 ^ t by omega) (by omega)
    rw [zu_119_8]
    by_cases h6 : su + qChg (z_g m 0) (nI i) t 0 0 = b
    · by_cases h7 : fo = 0
      · simp only [↓zu_119_50, ↓zu_119_53, ↓zu_119_59, ↓zx_nil, ↓zx_cons, ↓zp_li, ↓zp_ll, ↓zp_lr, ↓zq_li0, ↓zq_li1, ↓zq_ll0, ↓zq_ll1, ↓zq_lr0, ↓zq_lr1, ↓zk_0, ↓zk_1n, ↓zk_1i, ↓zk_1r, ↓zk_1l, ↓zk_2, zp_okt, ↓zp_okl, zp_sh0, zp_sh1, zp_psn, zp_pss, ↓zp_ri1, ↓zp_ri20, ↓zp_ri21, ↓zp_rl, ↓zp_ra, ↓zp_rv, ↓zp_br, ↓reduceIte, Nat.reduceAdd, Nat.zero_add, Nat.add_zero, Nat.le_refl, Nat.zero_le, ↓zx_iconst, ↓zy_istore_3, ↓zy_istore, ↓zx_iload, ↓zx_iload_1, ↓zy_ishl, ↓zy_ic_ge, ↓zx_aload_0, ↓zyc_116, ↓zy_iadd, ↓zx_iload_2, ↓zy_ic_ne, ↓zx_iload_3, ↓zy_if_eq, ↓zyc_228, ↓zy_iinc, ↓zx_goto, ↓zx_iret, z_i10, z_10, z_00, and_self, not_true_eq_false, not_false_eq_true, true_and, and_true, false_and, and_false, true_or, false_or, or_false, or_true, or_self, if_true, if_false, ite_self, ↓zs_72, h5, h1, ↓zs_116 ht, h6, h7, nI_1, qFew]
        exact ih (i + 1) _ _ (by omega)
      · by_cases h8 : qBc fo ≤ qBc (nI i)
        · simp only [↓zu_119_50, ↓zu_119_53, ↓zu_119_59, ↓zx_nil, ↓zx_cons, ↓zp_li, ↓zp_ll, ↓zp_lr, ↓zq_li0, ↓zq_li1, ↓zq_ll0, ↓zq_ll1, ↓zq_lr0, ↓zq_lr1, ↓zk_0, ↓zk_1n, ↓zk_1i, ↓zk_1r, ↓zk_1l, ↓zk_2, zp_okt, ↓zp_okl, zp_sh0, zp_sh1, zp_psn, zp_pss, ↓zp_ri1, ↓zp_ri20, ↓zp_ri21, ↓zp_rl, ↓zp_ra, ↓zp_rv, ↓zp_br, ↓reduceIte, Nat.reduceAdd, Nat.zero_add, Nat.add_zero, Nat.le_refl, Nat.zero_le, ↓zx_iconst, ↓zy_istore_3, ↓zy_istore, ↓zx_iload, ↓zx_iload_1, ↓zy_ishl, ↓zy_ic_ge, ↓zx_aload_0, ↓zyc_116, ↓zy_iadd, ↓zx_iload_2, ↓zy_ic_ne, ↓zx_iload_3, ↓zy_if_eq, ↓zyc_228, ↓zy_iinc, ↓zx_goto, ↓zx_iret, z_i10, z_10, z_00, and_self, not_true_eq_false, not_false_eq_true, true_and, and_true, false_and, and_false, true_or, false_or, or_false, or_true, or_self, if_true, if_false, ite_self, ↓zs_72, h5, h1, ↓zs_116 ht, ↓zs_228, h6, h7, h8, nI_1, qFew]
          exact ih (i + 1) _ _ (by omega)
        · simp only [↓zu_119_50, ↓zu_119_53, ↓zu_119_59, ↓zx_nil, ↓zx_cons, ↓zp_li, ↓zp_ll, ↓zp_lr, ↓zq_li0, ↓zq_li1, ↓zq_ll0, ↓zq_ll1, ↓zq_lr0, ↓zq_lr1, ↓zk_0, ↓zk_1n, ↓zk_1i, ↓zk_1r, ↓zk_1l, ↓zk_2, zp_okt, ↓zp_okl, zp_sh0, zp_sh1, zp_psn, zp_pss, ↓zp_ri1, ↓zp_ri20, ↓zp_ri21, ↓zp_rl, ↓zp_ra, ↓zp_rv, ↓zp_br, ↓reduceIte, Nat.reduceAdd, Nat.zero_add, Nat.add_zero, Nat.le_refl, Nat.zero_le, ↓zx_iconst, ↓zy_istore_3, ↓zy_istore, ↓zx_iload, ↓zx_iload_1, ↓zy_ishl, ↓zy_ic_ge, ↓zx_aload_0, ↓zyc_116, ↓zy_iadd, ↓zx_iload_2, ↓zy_ic_ne, ↓zx_iload_3, ↓zy_if_eq, ↓zyc_228, ↓zy_iinc, ↓zx_goto, ↓zx_iret, z_i10, z_10, z_00, and_self, not_true_eq_false, not_false_eq_true, true_and, and_true, false_and, and_false, true_or, false_or, or_false, or_true, or_self, if_true, if_false, ite_self, ↓zs_72, h5, h1, ↓zs_116 ht, ↓zs_228, h6, h7, h8, nI_1, qFew]
          exact ih (i + 1) _ _ (by omega)
    · simp only [↓zu_119_50, ↓zu_119_53, ↓zu_119_59, ↓zx_nil, ↓zx_cons, ↓zp_li, ↓zp_ll, ↓zp_lr, ↓zq_li0, ↓zq_li1, ↓zq_ll0, ↓zq_ll1, ↓zq_lr0, ↓zq_lr1, ↓zk_0, ↓zk_1n, ↓zk_1i, ↓zk_1r, ↓zk_1l, ↓zk_2, zp_okt, ↓zp_okl, zp_sh0, zp_sh1, zp_psn, zp_pss, ↓zp_ri1, ↓zp_ri20, ↓zp_ri21, ↓zp_rl, ↓zp_ra, ↓zp_rv, ↓zp_br, ↓reduceIte, Nat.reduceAdd, Nat.zero_add, Nat.add_zero, Nat.le_refl, Nat.zero_le, ↓zx_iconst, ↓zy_istore_3, ↓zy_istore, ↓zx_iload, ↓zx_iload_1, ↓zy_ishl, ↓zy_ic_ge, ↓zx_aload_0, ↓zyc_116, ↓zy_iadd, ↓zx_iload_2, ↓zy_ic_ne, ↓zx_iload_3, ↓zy_if_eq, ↓zyc_228, ↓zy_iinc, ↓zx_goto, ↓zx_iret, z_i10, z_10, z_00, and_self, not_true_eq_false, not_false_eq_true, true_and, and_true, false_and, and_false, true_or, false_or, or_false, or_true, or_self, if_true, if_false, ite_self, ↓zs_72, h5, h1, ↓zs_116 ht, h6, nI_1, qFew]
      exact ih (i + 1) _ _ (by omega)
set_option maxRecDepth 100000 in
set_option maxHeartbeats 4000000 in
theorem zs_119 {t : Nat} (ht : t ≤ 12) : z_call (d + 2) 119 [zr (some (5, 0, 0)), zi (nI t), zi b] m Q = Q (some (zi (qFew (z_g m 0) t b (2 ^ t - 1) 1 0 0))) m := by
  have hp : 0 < 2 ^ t := Nat.pow_pos (by decide)
  simp only [↓zen_119, ↓zu_119_0, ↓zx_nil, ↓zx_cons, ↓zp_li, ↓zp_ll, ↓zp_lr, ↓zq_li0, ↓zq_li1, ↓zq_ll0, ↓zq_ll1, ↓zq_lr0, ↓zq_lr1, ↓zk_0, ↓zk_1n, ↓zk_1i, ↓zk_1r, ↓zk_1l, ↓zk_2, zp_okt, ↓zp_okl, zp_sh0, zp_sh1, zp_psn, zp_pss, ↓zp_ri1, ↓zp_ri20, ↓zp_ri21, ↓zp_rl, ↓zp_ra, ↓zp_rv, ↓zp_br, ↓reduceIte, Nat.reduceAdd, Nat.zero_add, Nat.add_zero, Nat.le_refl, Nat.zero_le, ↓zx_iconst, ↓zy_istore_3, ↓zy_istore, ↓zx_iload, ↓zx_iload_1, ↓zy_ishl, ↓zy_ic_ge, ↓zx_aload_0, ↓zyc_116, ↓zy_iadd, ↓zx_iload_2, ↓zy_ic_ne, ↓zx_iload_3, ↓zy_if_eq, ↓zyc_228, ↓zy_iinc, ↓zx_goto, ↓zx_iret]
  exact zl_119 ht (2 ^ t - 1) 1 0 0 (by omega)
-- 25 total
def qTotS (S : zS) (v w : Int32) (i : Nat) (p : Int64) : Int64 := if v = -1 ∨ nI i = v then p + (if w = 0 then z_J S 1 i 3 else z_J S 1 i 4) else p
def qTot (S : zS) (v w : Int32) (n i : Nat) (p : Int64) : Int64 := z_it (qTotS S v w) n i p
set_option maxRecDepth 100000 in
set_option maxHeartbeats 4000000 in
theorem zl_101 {t : Nat} (ht : t ≤ 4) (hg : z_I (z_g m 2) 0 0 3 = nI t) : ∀ (n i : Nat) (p : Int64) (o7 : Option zV), i + n = t → zW 101 d Q 45 [some (zr (some (5, 0, 0))), some (zi v), some (zi w), some (zi (if v = -1 then 1 else 0)), some (zl p), none, some (zi (nI i)), o7] [] m 0 = Q (some (zl (qTot (z_g m 2) v w n i p))) m := by
  intro n
  induction n with
  | zero =>
    intro i p o7 hi
    have h1 := z_le1 (show t ≤ i by omega) (by omega)
    rw [zu_101_45]
    simp only [↓zu_101_107, ↓zx_nil, ↓zx_cons, ↓zp_li, ↓zp_ll, ↓zp_lr, ↓zq_li0, ↓zq_li1, ↓zq_ll0, ↓zq_ll1, ↓zq_lr0, ↓zq_lr1, ↓zk_0, ↓zk_1n, ↓zk_1i, ↓zk_1r, ↓zk_1l, ↓zk_2, zp_okt, ↓zp_okl, zp_sh0, zp_sh1, zp_psn, zp_pss, ↓zp_ri1, ↓zp_ri20, ↓zp_ri21, ↓zp_rl, ↓zp_ra, ↓zp_rv, ↓zp_br, ↓reduceIte, Nat.reduceAdd, Nat.zero_add, Nat.add_zero, Nat.le_refl, Nat.zero_le, ↓zx_iload_1, ↓zx_iconst, ↓zy_ic_ne, ↓zx_goto, ↓zy_istore_3, ↓zx_iload_2, ↓zyc_71, ↓zy_if_ne, ↓zx_iload_3, ↓zx_aload_0, ↓zyg_5_0, ↓zyc_10, ↓zx_ldc2, ↓zx_lret, ↓zx_lconst0, ↓zy_lstore, ↓zkl_0, ↓zkl_1n, ↓zkl_1i, ↓zkl_1r, ↓zkl_1l, ↓zkl_2, ↓zy_istore, ↓zx_iload, ↓zyg_0_3, ↓zy_ic_ge, ↓zyg_0_6, ↓zya_7, ↓zya_8, ↓zya_9, ↓zya_10, ↓zya_17, ↓zya_18, ↓zy_astore, ↓zx_lload, ↓zx_aload, ↓zyg_1_3, ↓zyg_1_4, ↓zy_ladd, ↓zy_iinc, hg, h1, if_true]
    rfl
  | succ n ih =>
    intro i p o7 hi
    have h1 := z_le0 (show i < t by omega) (by omega)
    have h2 := z_vi1 (show i < 4 by omega) (by decide)
    have h3 := nI_clamp (show i < 2 ^ 31 by omega)
    rw [zu_101_45]
    show _ = Q (some (zl (qTot (z_g m 2) v w n (i + 1) (qTotS (z_g m 2) v w i p)))) m
    rcases Classical.em (v = -1) with h4 | h4
    · have h4 := eq_true h4
      rcases Classical.em (w = 0) with h5 | h5
      · have h5 := eq_true h5
        simp only [h4, if_true] at ih
        simp only [↓zu_101_67, ↓zu_101_93, ↓zu_101_98, ↓zu_101_101, ↓zu_101_107, ↓zx_nil, ↓zx_cons, ↓zp_li, ↓zp_ll, ↓zp_lr, ↓zq_li0, ↓zq_li1, ↓zq_ll0, ↓zq_ll1, ↓zq_lr0, ↓zq_lr1, ↓zk_0, ↓zk_1n, ↓zk_1i, ↓zk_1r, ↓zk_1l, ↓zk_2, zp_okt, ↓zp_okl, zp_sh0, zp_sh1, zp_psn, zp_pss, ↓zp_ri1, ↓zp_ri20, ↓zp_ri21, ↓zp_rl, ↓zp_ra, ↓zp_rv, ↓zp_br, ↓reduceIte, Nat.reduceAdd, Nat.zero_add, Nat.add_zero, Nat.le_refl, Nat.zero_le, ↓zx_iload_1, ↓zx_iconst, ↓zy_ic_ne, ↓zx_goto, ↓zy_istore_3, ↓zx_iload_2, ↓zyc_71, ↓zy_if_ne, ↓zx_iload_3, ↓zx_aload_0, ↓zyg_5_0, ↓zyc_10, ↓zx_ldc2, ↓zx_lret, ↓zx_lconst0, ↓zy_lstore, ↓zkl_0, ↓zkl_1n, ↓zkl_1i, ↓zkl_1r, ↓zkl_1l, ↓zkl_2, ↓zy_istore, ↓zx_iload, ↓zyg_0_3, ↓zy_ic_ge, ↓zyg_0_6, ↓zya_7, ↓zya_8, ↓zya_9, ↓zya_10, ↓zya_17, ↓zya_18, ↓zy_astore, ↓zx_lload, ↓zx_aload, ↓zyg_1_3, ↓zyg_1_4, ↓zy_ladd, ↓zy_iinc, z_i10, z_10, z_00, and_self, not_true_eq_false, not_false_eq_true, true_and, and_true, false_and, and_false, true_or, false_or, or_false, or_true, or_self, if_true, if_false, ite_self, ↓zs_72, hg, h1, h2, h3, h4, h5, nI_1, qTotS, ih (i + 1) _ _ (show i + 1 + n = t by omega)]
      · simp only [h4, if_true] at ih
        simp only [↓zu_101_67, ↓zu_101_93, ↓zu_101_98, ↓zu_101_101, ↓zu_101_107, ↓zx_nil, ↓zx_cons, ↓zp_li, ↓zp_ll, ↓zp_lr, ↓zq_li0, ↓zq_li1, ↓zq_ll0, ↓zq_ll1, ↓zq_lr0, ↓zq_lr1, ↓zk_0, ↓zk_1n, ↓zk_1i, ↓zk_1r, ↓zk_1l, ↓zk_2, zp_okt, ↓zp_okl, zp_sh0, zp_sh1, zp_psn, zp_pss, ↓zp_ri1, ↓zp_ri20, ↓zp_ri21, ↓zp_rl, ↓zp_ra, ↓zp_rv, ↓zp_br, ↓reduceIte, Nat.reduceAdd, Nat.zero_add, Nat.add_zero, Nat.le_refl, Nat.zero_le, ↓zx_iload_1, ↓zx_iconst, ↓zy_ic_ne, ↓zx_goto, ↓zy_istore_3, ↓zx_iload_2, ↓zyc_71, ↓zy_if_ne, ↓zx_iload_3, ↓zx_aload_0, ↓zyg_5_0, ↓zyc_10, ↓zx_ldc2, ↓zx_lret, ↓zx_lconst0, ↓zy_lstore, ↓zkl_0, ↓zkl_1n, ↓zkl_1i, ↓zkl_1r, ↓zkl_1l, ↓zkl_2, ↓zy_istore, ↓zx_iload, ↓zyg_0_3, ↓zy_ic_ge, ↓zyg_0_6, ↓zya_7, ↓zya_8, ↓zya_9, ↓zya_10, ↓zya_17, ↓zya_18, ↓zy_astore, ↓zx_lload, ↓zx_aload, ↓zyg_1_3, ↓zyg_1_4, ↓zy_ladd, ↓zy_iinc, z_i10, z_10, z_00, and_self, not_true_eq_false, not_false_eq_true, true_and, and_true, false_and, and_false, true_or, false_or, or_false, or_true, or_self, if_true, if_false, ite_self, ↓zs_72, hg, h1, h2, h3, h4, h5, nI_1, qTotS, ih (i + 1) _ _ (show i + 1 + n = t by omega)]
    · simp only [h4, if_false] at ih
      rcases Classical.em (nI i = v) with h6 | h6
      · have h6 := eq_true h6
        rcases Classical.em (w = 0) with h5 | h5
        · have h5 := eq_true h5
          simp only [↓zu_101_67, ↓zu_101_93, ↓zu_101_98, ↓zu_101_101, ↓zu_101_107, ↓zx_nil, ↓zx_cons, ↓zp_li, ↓zp_ll, ↓zp_lr, ↓zq_li0, ↓zq_li1, ↓zq_ll0, ↓zq_ll1, ↓zq_lr0, ↓zq_lr1, ↓zk_0, ↓zk_1n, ↓zk_1i, ↓zk_1r, ↓zk_1l, ↓zk_2, zp_okt, ↓zp_okl, zp_sh0, zp_sh1, zp_psn, zp_pss, ↓zp_ri1, ↓zp_ri20, ↓zp_ri21, ↓zp_rl, ↓zp_ra, ↓zp_rv, ↓zp_br, ↓reduceIte, Nat.reduceAdd, Nat.zero_add, Nat.add_zero, Nat.le_refl, Nat.zero_le, ↓zx_iload_1, ↓zx_iconst, ↓zy_ic_ne, ↓zx_goto, ↓zy_istore_3, ↓zx_iload_2, ↓zyc_71, ↓zy_if_ne, ↓zx_iload_3, ↓zx_aload_0, ↓zyg_5_0, ↓zyc_10, ↓zx_ldc2, ↓zx_lret, ↓zx_lconst0, ↓zy_lstore, ↓zkl_0, ↓zkl_1n, ↓zkl_1i, ↓zkl_1r, ↓zkl_1l, ↓zkl_2, ↓zy_istore, ↓zx_iload, ↓zyg_0_3, ↓zy_ic_ge, ↓zyg_0_6, ↓zya_7, ↓zya_8, ↓zya_9, ↓zya_10, ↓zya_17, ↓zya_18, ↓zy_astore, ↓zx_lload, ↓zx_aload, ↓zyg_1_3, ↓zyg_1_4, ↓zy_ladd, ↓zy_iinc, z_i10, z_10, z_00, and_self, not_true_eq_false, not_false_eq_true, true_and, and_true, false_and, and_false, true_or, false_or, or_false, or_true, or_self, if_true, if_false, ite_self, ↓zs_72, hg, h1, h2, h3, h4, h5, h6, nI_1, qTotS, ih (i + 1) _ _ (show i + 1 + n = t by omega)]
        · simp only [↓zu_101_67, ↓zu_101_93, ↓zu_101_98, ↓zu_101_101, ↓zu_101_107, ↓zx_nil, ↓zx_cons, ↓zp_li, ↓zp_ll, ↓zp_lr, ↓zq_li0, ↓zq_li1, ↓zq_ll0, ↓zq_ll1, ↓zq_lr0, ↓zq_lr1, ↓zk_0, ↓zk_1n, ↓zk_1i, ↓zk_1r, ↓zk_1l, ↓zk_2, zp_okt, ↓zp_okl, zp_sh0, zp_sh1, zp_psn, zp_pss, ↓zp_ri1, ↓zp_ri20, ↓zp_ri21, ↓zp_rl, ↓zp_ra, ↓zp_rv, ↓zp_br, ↓reduceIte, Nat.reduceAdd, Nat.zero_add, Nat.add_zero, Nat.le_refl, Nat.zero_le, ↓zx_iload_1, ↓zx_iconst, ↓zy_ic_ne, ↓zx_goto, ↓zy_istore_3, ↓zx_iload_2, ↓zyc_71, ↓zy_if_ne, ↓zx_iload_3, ↓zx_aload_0, ↓zyg_5_0, ↓zyc_10, ↓zx_ldc2, ↓zx_lret, ↓zx_lconst0, ↓zy_lstore, ↓zkl_0, ↓zkl_1n, ↓zkl_1i, ↓zkl_1r, ↓zkl_1l, ↓zkl_2, ↓zy_istore, ↓zx_iload, ↓zyg_0_3, ↓zy_ic_ge, ↓zyg_0_6, ↓zya_7, ↓zya_8, ↓zya_9, ↓zya_10, ↓zya_17, ↓zya_18, ↓zy_astore, ↓zx_lload, ↓zx_aload, ↓zyg_1_3, ↓zyg_1_4, ↓zy_ladd, ↓zy_iinc, z_i10, z_10, z_00, and_self, not_true_eq_false, not_false_eq_true, true_and, and_true, false_and, and_false, true_or, false_or, or_false, or_true, or_self, if_true, if_false, ite_self, ↓zs_72, hg, h1, h2, h3, h4, h5, h6, nI_1, qTotS, ih (i + 1) _ _ (show i + 1 + n = t by omega)]
      · simp only [↓zu_101_67, ↓zu_101_93, ↓zu_101_98, ↓zu_101_101, ↓zu_101_107, ↓zx_nil, ↓zx_cons, ↓zp_li, ↓zp_ll, ↓zp_lr, ↓zq_li0, ↓zq_li1, ↓zq_ll0, ↓zq_ll1, ↓zq_lr0, ↓zq_lr1, ↓zk_0, ↓zk_1n, ↓zk_1i, ↓zk_1r, ↓zk_1l, ↓zk_2, zp_okt, ↓zp_okl, zp_sh0, zp_sh1, zp_psn, zp_pss, ↓zp_ri1, ↓zp_ri20, ↓zp_ri21, ↓zp_rl, ↓zp_ra, ↓zp_rv, ↓zp_br, ↓reduceIte, Nat.reduceAdd, Nat.zero_add, Nat.add_zero, Nat.le_refl, Nat.zero_le, ↓zx_iload_1, ↓zx_iconst, ↓zy_ic_ne, ↓zx_goto, ↓zy_istore_3, ↓zx_iload_2, ↓zyc_71, ↓zy_if_ne, ↓zx_iload_3, ↓zx_aload_0, ↓zyg_5_0, ↓zyc_10, ↓zx_ldc2, ↓zx_lret, ↓zx_lconst0, ↓zy_lstore, ↓zkl_0, ↓zkl_1n, ↓zkl_1i, ↓zkl_1r, ↓zkl_1l, ↓zkl_2, ↓zy_istore, ↓zx_iload, ↓zyg_0_3, ↓zy_ic_ge, ↓zyg_0_6, ↓zya_7, ↓zya_8, ↓zya_9, ↓zya_10, ↓zya_17, ↓zya_18, ↓zy_astore, ↓zx_lload, ↓zx_aload, ↓zyg_1_3, ↓zyg_1_4, ↓zy_ladd, ↓zy_iinc, z_i10, z_10, z_00, and_self, not_true_eq_false, not_false_eq_true, true_and, and_true, false_and, and_false, true_or, false_or, or_false, or_true, or_self, if_true, if_false, ite_self, ↓zs_72, hg, h1, h2, h3, h4, h6, nI_1, qTotS, ih (i + 1) _ _ (show i + 1 + n = t by omega)]
set_option maxRecDepth 100000 in
set_option maxHeartbeats 4000000 in
theorem zs_101 (hM : cMok m) : z_call (d + 2) 101 [zr (some (5, 0, 0)), zi v, zi w] m Q = if ¬ (w < 0 ∨ 1 < w) ∧ (v = -1 ∨ (0 ≤ v ∧ v < z_I (z_g m 2) 0 0 3)) then Q (some (zl (qTot (z_g m 2) v w (cG (z_g m 2)) 0 0))) m else Q (some (zl (-1))) m := by
  have hl := zl_101 (d := d + 1) (v := v) (w := w) (Q := Q) hM.1.1.2 hM.1.1.eq (cG (z_g m 2)) 0 0 none (by unfold cG; omega)
  by_cases c0 : w < 0 ∨ 1 < w
  · simp only [↓zen_101, ↓zu_101_0, ↓zu_101_9, ↓zu_101_10, ↓zu_101_35, ↓zu_101_39, ↓zu_101_67, ↓zu_101_93, ↓zu_101_98, ↓zu_101_101, ↓zu_101_107, ↓zx_nil, ↓zx_cons, ↓zp_li, ↓zp_ll, ↓zp_lr, ↓zq_li0, ↓zq_li1, ↓zq_ll0, ↓zq_ll1, ↓zq_lr0, ↓zq_lr1, ↓zk_0, ↓zk_1n, ↓zk_1i, ↓zk_1r, ↓zk_1l, ↓zk_2, zp_okt, ↓zp_okl, zp_sh0, zp_sh1, zp_psn, zp_pss, ↓zp_ri1, ↓zp_ri20, ↓zp_ri21, ↓zp_rl, ↓zp_ra, ↓zp_rv, ↓zp_br, ↓reduceIte, Nat.reduceAdd, Nat.zero_add, Nat.add_zero, Nat.le_refl, Nat.zero_le, ↓zx_iload_1, ↓zx_iconst, ↓zy_ic_ne, ↓zx_goto, ↓zy_istore_3, ↓zx_iload_2, ↓zyc_71, ↓zy_if_ne, ↓zx_iload_3, ↓zx_aload_0, ↓zyg_5_0, ↓zyc_10, ↓zx_ldc2, ↓zx_lret, ↓zx_lconst0, ↓zy_lstore, ↓zkl_0, ↓zkl_1n, ↓zkl_1i, ↓zkl_1r, ↓zkl_1l, ↓zkl_2, ↓zy_istore, ↓zx_iload, ↓zyg_0_3, ↓zy_ic_ge, ↓zyg_0_6, ↓zya_7, ↓zya_8, ↓zya_9, ↓zya_10, ↓zya_17, ↓zya_18, ↓zy_astore, ↓zx_lload, ↓zx_aload, ↓zyg_1_3, ↓zyg_1_4, ↓zy_ladd, ↓zy_iinc, ↓zs_71, z_i10, z_10, z_00, and_self, not_true_eq_false, not_false_eq_true, true_and, and_true, false_and, and_false, true_or, false_or, or_false, or_true, or_self, if_true, if_false, ite_self, ↓zs_72, c0]
  · by_cases c1 : v = -1
    · simp only [c1, if_true] at hl
      simp only [↓zen_101, ↓zu_101_0, ↓zu_101_9, ↓zu_101_10, ↓zu_101_35, ↓zu_101_39, ↓zu_101_67, ↓zu_101_93, ↓zu_101_98, ↓zu_101_101, ↓zu_101_107, ↓zx_nil, ↓zx_cons, ↓zp_li, ↓zp_ll, ↓zp_lr, ↓zq_li0, ↓zq_li1, ↓zq_ll0, ↓zq_ll1, ↓zq_lr0, ↓zq_lr1, ↓zk_0, ↓zk_1n, ↓zk_1i, ↓zk_1r, ↓zk_1l, ↓zk_2, zp_okt, ↓zp_okl, zp_sh0, zp_sh1, zp_psn, zp_pss, ↓zp_ri1, ↓zp_ri20, ↓zp_ri21, ↓zp_rl, ↓zp_ra, ↓zp_rv, ↓zp_br, ↓reduceIte, Nat.reduceAdd, Nat.zero_add, Nat.add_zero, Nat.le_refl, Nat.zero_le, ↓zx_iload_1, ↓zx_iconst, ↓zy_ic_ne, ↓zx_goto, ↓zy_istore_3, ↓zx_iload_2, ↓zyc_71, ↓zy_if_ne, ↓zx_iload_3, ↓zx_aload_0, ↓zyg_5_0, ↓zyc_10, ↓zx_ldc2, ↓zx_lret, ↓zx_lconst0, ↓zy_lstore, ↓zkl_0, ↓zkl_1n, ↓zkl_1i, ↓zkl_1r, ↓zkl_1l, ↓zkl_2, ↓zy_istore, ↓zx_iload, ↓zyg_0_3, ↓zy_ic_ge, ↓zyg_0_6, ↓zya_7, ↓zya_8, ↓zya_9, ↓zya_10, ↓zya_17, ↓zya_18, ↓zy_astore, ↓zx_lload, ↓zx_aload, ↓zyg_1_3, ↓zyg_1_4, ↓zy_ladd, ↓zy_iinc, ↓zs_71, z_i10, z_10, z_00, and_self, not_true_eq_false, not_false_eq_true, true_and, and_true, false_and, and_false, true_or, false_or, or_false, or_true, or_self, if_true, if_false, ite_self, ↓zs_72, c0, c1]
      exact hl
    · simp only [c1, if_false] at hl
      by_cases c2 : 0 ≤ v ∧ v < z_I (z_g m 2) 0 0 3
      · simp only [↓zen_101, ↓zu_101_0, ↓zu_101_9, ↓zu_101_10, ↓zu_101_35, ↓zu_101_39, ↓zu_101_67, ↓zu_101_93, ↓zu_101_98, ↓zu_101_101, ↓zu_101_107, ↓zx_nil, ↓zx_cons, ↓zp_li, ↓zp_ll, ↓zp_lr, ↓zq_li0, ↓zq_li1, ↓zq_ll0, ↓zq_ll1, ↓zq_lr0, ↓zq_lr1, ↓zk_0, ↓zk_1n, ↓zk_1i, ↓zk_1r, ↓zk_1l, ↓zk_2, zp_okt, ↓zp_okl, zp_sh0, zp_sh1, zp_psn, zp_pss, ↓zp_ri1, ↓zp_ri20, ↓zp_ri21, ↓zp_rl, ↓zp_ra, ↓zp_rv, ↓zp_br, ↓reduceIte, Nat.reduceAdd, Nat.zero_add, Nat.add_zero, Nat.le_refl, Nat.zero_le, ↓zx_iload_1, ↓zx_iconst, ↓zy_ic_ne, ↓zx_goto, ↓zy_istore_3, ↓zx_iload_2, ↓zyc_71, ↓zy_if_ne, ↓zx_iload_3, ↓zx_aload_0, ↓zyg_5_0, ↓zyc_10, ↓zx_ldc2, ↓zx_lret, ↓zx_lconst0, ↓zy_lstore, ↓zkl_0, ↓zkl_1n, ↓zkl_1i, ↓zkl_1r, ↓zkl_1l, ↓zkl_2, ↓zy_istore, ↓zx_iload, ↓zyg_0_3, ↓zy_ic_ge, ↓zyg_0_6, ↓zya_7, ↓zya_8, ↓zya_9, ↓zya_10, ↓zya_17, ↓zya_18, ↓zy_astore, ↓zx_lload, ↓zx_aload, ↓zyg_1_3, ↓zyg_1_4, ↓zy_ladd, ↓zy_iinc, ↓zs_71, ↓zs_10, z_i10, z_10, z_00, and_self, not_true_eq_false, not_false_eq_true, true_and, and_true, false_and, and_false, true_or, false_or, or_false, or_true, or_self, if_true, if_false, ite_self, ↓zs_72, c0, c1, c2]
        exact hl
      · simp only [↓zen_101, ↓zu_101_0, ↓zu_101_9, ↓zu_101_10, ↓zu_101_35, ↓zu_101_39, ↓zu_101_67, ↓zu_101_93, ↓zu_101_98, ↓zu_101_101, ↓zu_101_107, ↓zx_nil, ↓zx_cons, ↓zp_li, ↓zp_ll, ↓zp_lr, ↓zq_li0, ↓zq_li1, ↓zq_ll0, ↓zq_ll1, ↓zq_lr0, ↓zq_lr1, ↓zk_0, ↓zk_1n, ↓zk_1i, ↓zk_1r, ↓zk_1l, ↓zk_2, zp_okt, ↓zp_okl, zp_sh0, zp_sh1, zp_psn, zp_pss, ↓zp_ri1, ↓zp_ri20, ↓zp_ri21, ↓zp_rl, ↓zp_ra, ↓zp_rv, ↓zp_br, ↓reduceIte, Nat.reduceAdd, Nat.zero_add, Nat.add_zero, Nat.le_refl, Nat.zero_le, ↓zx_iload_1, ↓zx_iconst, ↓zy_ic_ne, ↓zx_goto, ↓zy_istore_3, ↓zx_iload_2, ↓zyc_71, ↓zy_if_ne, ↓zx_iload_3, ↓zx_aload_0, ↓zyg_5_0, ↓zyc_10, ↓zx_ldc2, ↓zx_lret, ↓zx_lconst0, ↓zy_lstore, ↓zkl_0, ↓zkl_1n, ↓zkl_1i, ↓zkl_1r, ↓zkl_1l, ↓zkl_2, ↓zy_istore, ↓zx_iload, ↓zyg_0_3, ↓zy_ic_ge, ↓zyg_0_6, ↓zya_7, ↓zya_8, ↓zya_9, ↓zya_10, ↓zya_17, ↓zya_18, ↓zy_astore, ↓zx_lload, ↓zx_aload, ↓zyg_1_3, ↓zyg_1_4, ↓zy_ladd, ↓zy_iinc, ↓zs_71, ↓zs_10, z_i10, z_10, z_00, and_self, not_true_eq_false, not_false_eq_true, true_and, and_true, false_and, and_false, true_or, false_or, or_false, or_true, or_self, if_true, if_false, ite_self, ↓zs_72, c0, c1, c2]
end Bs9
