/-! ===== THE MODEL: rows laid aside ===== -/
section Mo7
variable {d r i k g s l t q : Nat} {m : zM} {Q : zQ} {v w a b c e f x y : Int32}
def mBrI (ka q n i : Nat) (M : zS) : zS := z_it (fun j M => z_uI M 22 0 j (z_I M ka 0 (891 * q + j))) n i M
def mBrJ (kb q n i : Nat) (M : zS) : zS := z_it (fun j M => z_uJ M 23 0 j (z_J M kb 0 (88 * q + j))) n i M
def mBring (ka kb q : Nat) (M : zS) : zS := mBrJ kb q 88 0 (mBrI ka q 891 0 M)
def mLyI (ka q n i : Nat) (M : zS) : zS := z_it (fun j M => z_uI M ka 0 (891 * q + j) (z_I M 22 0 j)) n i M
def mLyJ (kb q n i : Nat) (M : zS) : zS := z_it (fun j M => z_uJ M kb 0 (88 * q + j) (z_J M 23 0 j)) n i M
def mLay (ka kb q : Nat) (M : zS) : zS := mLyJ kb q 88 0 (mLyI ka q 891 0 M)
set_option maxRecDepth 100000 in
set_option maxHeartbeats 4000000 in
theorem zl_127_24b (hq : q < 8) : ∀ (n i : Nat) (M : zS), i + n = 88 → zW 127 d Q 37 [some (zr (some (6, 1, 0))), some (zr (some (24, 1, 0))), some (zr (some (25, 1, 0))), some (zi (nI q)), some (zi (nI i))] [] (z_s m 1 M) 0 = Q none (z_s m 1 (mBrJ 25 q n i M)) := by
  intro n
  induction n with
  | zero =>
    intro i M hi
    have h1 : (88 ≤ nI i) = True := z_le1 (a := 88) (by omega) (by omega)
    rw [zu_127_37]
    simp only [↓zu_127_66, ↓zx_nil, ↓zx_cons, ↓zp_li, ↓zp_ll, ↓zp_lr, ↓zq_li0, ↓zq_li1, ↓zq_ll0, ↓zq_ll1, ↓zq_lr0, ↓zq_lr1, ↓zk_0, ↓zk_1n, ↓zk_1i, ↓zk_1r, ↓zk_1l, ↓zk_2, zp_okt, ↓zp_okl, zp_sh0, zp_sh1, zp_psn, zp_pss, ↓zp_ri1, ↓zp_ri20, ↓zp_ri21, ↓zp_rl, ↓zp_ra, ↓zp_rv, ↓zp_br, ↓reduceIte, Nat.reduceAdd, Nat.zero_add, Nat.add_zero, Nat.le_refl, Nat.zero_le, ↓zx_iconst, ↓zy_istore, ↓zx_iload, ↓zx_sipush, ↓zy_ic_ge, ↓zx_aload_0, ↓zyg_6_3, ↓zx_aload_1, ↓zx_iload_3, ↓zy_imul, ↓zy_iadd, ↓zy_iinc, ↓zx_goto, ↓zx_bipush, ↓zyg_6_4, ↓zx_aload_2, ↓zx_ret, ↓zya_21, ↓zya_22, ↓zya_24, ↓zya_26, ↓zya_27, ↓zya_30, ↓zya_32, ↓zya_33, ↓zyb_21, ↓zyb_22, ↓zyb_24, ↓zyb_26, ↓zyb_27, ↓zyb_30, ↓zyb_32, ↓zyb_33, ↓zya_23, ↓zya_25, ↓zya_28, ↓zya_31, ↓zyb_23, ↓zyb_25, ↓zyb_28, ↓zyb_31, h1, if_true]
    rfl
  | succ n ih =>
    intro i M hi
    have h1 : (88 ≤ nI i) = False := z_le0 (a := 88) (by omega) (by omega)
    rw [zu_127_37]
    simp (disch := omega) only [↓zx_nil, ↓zx_cons, ↓zp_li, ↓zp_ll, ↓zp_lr, ↓zq_li0, ↓zq_li1, ↓zq_ll0, ↓zq_ll1, ↓zq_lr0, ↓zq_lr1, ↓zk_0, ↓zk_1n, ↓zk_1i, ↓zk_1r, ↓zk_1l, ↓zk_2, zp_okt, ↓zp_okl, zp_sh0, zp_sh1, zp_psn, zp_pss, ↓zp_ri1, ↓zp_ri20, ↓zp_ri21, ↓zp_rl, ↓zp_ra, ↓zp_rv, ↓zp_br, ↓reduceIte, Nat.reduceAdd, Nat.zero_add, Nat.add_zero, Nat.le_refl, Nat.zero_le, ↓zx_iconst, ↓zy_istore, ↓zx_iload, ↓zx_sipush, ↓zy_ic_ge, ↓zx_aload_0, ↓zyg_6_3, ↓zx_aload_1, ↓zx_iload_3, ↓zy_imul, ↓zy_iadd, ↓zy_iinc, ↓zx_goto, ↓zx_bipush, ↓zyg_6_4, ↓zx_aload_2, ↓zx_ret, ↓zya_21, ↓zya_22, ↓zya_24, ↓zya_26, ↓zya_27, ↓zya_30, ↓zya_32, ↓zya_33, ↓zyb_21, ↓zyb_22, ↓zyb_24, ↓zyb_26, ↓zyb_27, ↓zyb_30, ↓zyb_32, ↓zyb_33, ↓zya_23, ↓zya_25, ↓zya_28, ↓zya_31, ↓zyb_23, ↓zyb_25, ↓zyb_28, ↓zyb_31, z_i10, z_10, z_00, and_self, not_true_eq_false, not_false_eq_true, true_and, and_true, false_and, and_false, true_or, false_or, or_false, or_true, or_self, if_true, if_false, ite_self, ↓zs_72, zn_p0, zn_p1, zn_p2, zn_p3, zn_p4, zn_p5, zn_p6, zn_p7, zn_p8, zn_p13, zn_p88, zn_p891, zn_m2, zn_m3, zn_m8, zn_m17, zn_m29, zn_m88, zn_m891, zn_a2, zn_a3, zn_a6, zn_a8, zn_a18, zn_a66, zn_a88, zn_a211, zn_a891, zp_ri2i, nI_add, z_vr, nI_clamp, zn_w0, zn_w1, zn_w2, zn_w3, zn_w4, zn_w5, zn_t0, zn_t1, zn_t2, zn_t3, zn_t4, zn_t5, h1, z_g_ss, zq_ss]
    exact ih (i + 1) _ (by omega)
set_option maxRecDepth 100000 in
set_option maxHeartbeats 4000000 in
theorem zl_127_24a (hq : q < 8) : ∀ (n i : Nat) (M : zS), i + n = 891 → zW 127 d Q 3 [some (zr (some (6, 1, 0))), some (zr (some (24, 1, 0))), some (zr (some (25, 1, 0))), some (zi (nI q)), some (zi (nI i))] [] (z_s m 1 M) 0 = Q none (z_s m 1 (mBrJ 25 q 88 0 (mBrI 24 q n i M))) := by
  intro n
  induction n with
  | zero =>
    intro i M hi
    have h1 : (891 ≤ nI i) = True := z_le1 (a := 891) (by omega) (by omega)
    rw [zu_127_3]
    simp only [↓zu_127_34, ↓zx_nil, ↓zx_cons, ↓zp_li, ↓zp_ll, ↓zp_lr, ↓zq_li0, ↓zq_li1, ↓zq_ll0, ↓zq_ll1, ↓zq_lr0, ↓zq_lr1, ↓zk_0, ↓zk_1n, ↓zk_1i, ↓zk_1r, ↓zk_1l, ↓zk_2, zp_okt, ↓zp_okl, zp_sh0, zp_sh1, zp_psn, zp_pss, ↓zp_ri1, ↓zp_ri20, ↓zp_ri21, ↓zp_rl, ↓zp_ra, ↓zp_rv, ↓zp_br, ↓reduceIte, Nat.reduceAdd, Nat.zero_add, Nat.add_zero, Nat.le_refl, Nat.zero_le, ↓zx_iconst, ↓zy_istore, ↓zx_iload, ↓zx_sipush, ↓zy_ic_ge, ↓zx_aload_0, ↓zyg_6_3, ↓zx_aload_1, ↓zx_iload_3, ↓zy_imul, ↓zy_iadd, ↓zy_iinc, ↓zx_goto, ↓zx_bipush, ↓zyg_6_4, ↓zx_aload_2, ↓zx_ret, ↓zya_21, ↓zya_22, ↓zya_24, ↓zya_26, ↓zya_27, ↓zya_30, ↓zya_32, ↓zya_33, ↓zyb_21, ↓zyb_22, ↓zyb_24, ↓zyb_26, ↓zyb_27, ↓zyb_30, ↓zyb_32, ↓zyb_33, ↓zya_23, ↓zya_25, ↓zya_28, ↓zya_31, ↓zyb_23, ↓zyb_25, ↓zyb_28, ↓zyb_31, h1, if_true]
    exact zl_127_24b hq 88 0 M (by omega)
  | succ n ih =>
    intro i M hi
    have h1 : (891 ≤ nI i) = False := z_le0 (a := 891) (by omega) (by omega)
    rw [zu_127_3]
    simp (disch := omega) only [↓zx_nil, ↓zx_cons, ↓zp_li, ↓zp_ll, ↓zp_lr, ↓zq_li0, ↓zq_li1, ↓zq_ll0, ↓zq_ll1, ↓zq_lr0, ↓zq_lr1, ↓zk_0, ↓zk_1n, ↓zk_1i, ↓zk_1r, ↓zk_1l, ↓zk_2, zp_okt, ↓zp_okl, zp_sh0, zp_sh1, zp_psn, zp_pss, ↓zp_ri1, ↓zp_ri20, ↓zp_ri21, ↓zp_rl, ↓zp_ra, ↓zp_rv, ↓zp_br, ↓reduceIte, Nat.reduceAdd, Nat.zero_add, Nat.add_zero, Nat.le_refl, Nat.zero_le, ↓zx_iconst, ↓zy_istore, ↓zx_iload, ↓zx_sipush, ↓zy_ic_ge, ↓zx_aload_0, ↓zyg_6_3, ↓zx_aload_1, ↓zx_iload_3, ↓zy_imul, ↓zy_iadd, ↓zy_iinc, ↓zx_goto, ↓zx_bipush, ↓zyg_6_4, ↓zx_aload_2, ↓zx_ret, ↓zya_21, ↓zya_22, ↓zya_24, ↓zya_26, ↓zya_27, ↓zya_30, ↓zya_32, ↓zya_33, ↓zyb_21, ↓zyb_22, ↓zyb_24, ↓zyb_26, ↓zyb_27, ↓zyb_30, ↓zyb_32, ↓zyb_33, ↓zya_23, ↓zya_25, ↓zya_28, ↓zya_31, ↓zyb_23, ↓zyb_25, ↓zyb_28, ↓zyb_31, z_i10, z_10, z_00, and_self, not_true_eq_false, not_false_eq_true, true_and, and_true, false_and, and_false, true_or, false_or, or_false, or_true, or_self, if_true, if_false, ite_self, ↓zs_72, zn_p0, zn_p1, zn_p2, zn_p3, zn_p4, zn_p5, zn_p6, zn_p7, zn_p8, zn_p13, zn_p88, zn_p891, zn_m2, zn_m3, zn_m8, zn_m17, zn_m29, zn_m88, zn_m891, zn_a2, zn_a3, zn_a6, zn_a8, zn_a18, zn_a66, zn_a88, zn_a211, zn_a891, zp_ri2i, nI_add, z_vr, nI_clamp, zn_w0, zn_w1, zn_w2, zn_w3, zn_w4, zn_w5, zn_t0, zn_t1, zn_t2, zn_t3, zn_t4, zn_t5, h1, z_g_ss, zq_ss]
    exact ih (i + 1) _ (by omega)
set_option maxRecDepth 100000 in
set_option maxHeartbeats 4000000 in
theorem zs_127_24 (hq : q < 8) : z_call (d + 1) 127 [zr (some (6, 1, 0)), zr (some (24, 1, 0)), zr (some (25, 1, 0)), zi (nI q)] m Q = Q none (z_s m 1 (mBring 24 25 q (z_g m 1))) := by
  have h := zl_127_24a (d := d) (m := m) (Q := Q) hq 891 0 (z_g m 1) (by omega)
  rw [zq_id] at h
  simp only [↓zen_127, ↓zu_127_0, ↓zu_127_34, ↓zu_127_66, ↓zx_nil, ↓zx_cons, ↓zp_li, ↓zp_ll, ↓zp_lr, ↓zq_li0, ↓zq_li1, ↓zq_ll0, ↓zq_ll1, ↓zq_lr0, ↓zq_lr1, ↓zk_0, ↓zk_1n, ↓zk_1i, ↓zk_1r, ↓zk_1l, ↓zk_2, zp_okt, ↓zp_okl, zp_sh0, zp_sh1, zp_psn, zp_pss, ↓zp_ri1, ↓zp_ri20, ↓zp_ri21, ↓zp_rl, ↓zp_ra, ↓zp_rv, ↓zp_br, ↓reduceIte, Nat.reduceAdd, Nat.zero_add, Nat.add_zero, Nat.le_refl, Nat.zero_le, ↓zx_iconst, ↓zy_istore, ↓zx_iload, ↓zx_sipush, ↓zy_ic_ge, ↓zx_aload_0, ↓zyg_6_3, ↓zx_aload_1, ↓zx_iload_3, ↓zy_imul, ↓zy_iadd, ↓zy_iinc, ↓zx_goto, ↓zx_bipush, ↓zyg_6_4, ↓zx_aload_2, ↓zx_ret, ↓zya_21, ↓zya_22, ↓zya_24, ↓zya_26, ↓zya_27, ↓zya_30, ↓zya_32, ↓zya_33, ↓zyb_21, ↓zyb_22, ↓zyb_24, ↓zyb_26, ↓zyb_27, ↓zyb_30, ↓zyb_32, ↓zyb_33, ↓zya_23, ↓zya_25, ↓zya_28, ↓zya_31, ↓zyb_23, ↓zyb_25, ↓zyb_28, ↓zyb_31]
  exact h
set_option maxRecDepth 100000 in
set_option maxHeartbeats 4000000 in
theorem zl_131_24b (hq : q < 8) : ∀ (n i : Nat) (M : zS), i + n = 88 → zW 131 d Q 37 [some (zr (some (6, 1, 0))), some (zr (some (24, 1, 0))), some (zr (some (25, 1, 0))), some (zi (nI q)), some (zi (nI i))] [] (z_s m 1 M) 0 = Q none (z_s m 1 (mLyJ 25 q n i M)) := by
  intro n
  induction n with
  | zero =>
    intro i M hi
    have h1 : (88 ≤ nI i) = True := z_le1 (a := 88) (by omega) (by omega)
    rw [zu_131_37]
    simp only [↓zu_131_66, ↓zx_nil, ↓zx_cons, ↓zp_li, ↓zp_ll, ↓zp_lr, ↓zq_li0, ↓zq_li1, ↓zq_ll0, ↓zq_ll1, ↓zq_lr0, ↓zq_lr1, ↓zk_0, ↓zk_1n, ↓zk_1i, ↓zk_1r, ↓zk_1l, ↓zk_2, zp_okt, ↓zp_okl, zp_sh0, zp_sh1, zp_psn, zp_pss, ↓zp_ri1, ↓zp_ri20, ↓zp_ri21, ↓zp_rl, ↓zp_ra, ↓zp_rv, ↓zp_br, ↓reduceIte, Nat.reduceAdd, Nat.zero_add, Nat.add_zero, Nat.le_refl, Nat.zero_le, ↓zx_iconst, ↓zy_istore, ↓zx_iload, ↓zx_sipush, ↓zy_ic_ge, ↓zx_aload_1, ↓zx_iload_3, ↓zy_imul, ↓zy_iadd, ↓zx_aload_0, ↓zyg_6_3, ↓zy_iinc, ↓zx_goto, ↓zx_bipush, ↓zx_aload_2, ↓zyg_6_4, ↓zx_ret, ↓zya_21, ↓zya_22, ↓zya_24, ↓zya_26, ↓zya_27, ↓zya_30, ↓zya_32, ↓zya_33, ↓zyb_21, ↓zyb_22, ↓zyb_24, ↓zyb_26, ↓zyb_27, ↓zyb_30, ↓zyb_32, ↓zyb_33, ↓zya_23, ↓zya_25, ↓zya_28, ↓zya_31, ↓zyb_23, ↓zyb_25, ↓zyb_28, ↓zyb_31, h1, if_true]
    rfl
  | succ n ih =>
    intro i M hi
    have h1 : (88 ≤ nI i) = False := z_le0 (a := 88) (by omega) (by omega)
    rw [zu_131_37]
    simp (disch := omega) only [↓zx_nil, ↓zx_cons, ↓zp_li, ↓zp_ll, ↓zp_lr, ↓zq_li0, ↓zq_li1, ↓zq_ll0, ↓zq_ll1, ↓zq_lr0, ↓zq_lr1, ↓zk_0, ↓zk_1n, ↓zk_1i, ↓zk_1r, ↓zk_1l, ↓zk_2, zp_okt, ↓zp_okl, zp_sh0, zp_sh1, zp_psn, zp_pss, ↓zp_ri1, ↓zp_ri20, ↓zp_ri21, ↓zp_rl, ↓zp_ra, ↓zp_rv, ↓zp_br, ↓reduceIte, Nat.reduceAdd, Nat.zero_add, Nat.add_zero, Nat.le_refl, Nat.zero_le, ↓zx_iconst, ↓zy_istore, ↓zx_iload, ↓zx_sipush, ↓zy_ic_ge, ↓zx_aload_1, ↓zx_iload_3, ↓zy_imul, ↓zy_iadd, ↓zx_aload_0, ↓zyg_6_3, ↓zy_iinc, ↓zx_goto, ↓zx_bipush, ↓zx_aload_2, ↓zyg_6_4, ↓zx_ret, ↓zya_21, ↓zya_22, ↓zya_24, ↓zya_26, ↓zya_27, ↓zya_30, ↓zya_32, ↓zya_33, ↓zyb_21, ↓zyb_22, ↓zyb_24, ↓zyb_26, ↓zyb_27, ↓zyb_30, ↓zyb_32, ↓zyb_33, ↓zya_23, ↓zya_25, ↓zya_28, ↓zya_31, ↓zyb_23, ↓zyb_25, ↓zyb_28, ↓zyb_31, z_i10, z_10, z_00, and_self, not_true_eq_false, not_false_eq_true, true_and, and_true, false_and, and_false, true_or, false_or, or_false, or_true, or_self, if_true, if_false, ite_self, ↓zs_72, zn_p0, zn_p1, zn_p2, zn_p3, zn_p4, zn_p5, zn_p6, zn_p7, zn_p8, zn_p13, zn_p88, zn_p891, zn_m2, zn_m3, zn_m8, zn_m17, zn_m29, zn_m88, zn_m891, zn_a2, zn_a3, zn_a6, zn_a8, zn_a18, zn_a66, zn_a88, zn_a211, zn_a891, zp_ri2i, nI_add, z_vr, nI_clamp, zn_w0, zn_w1, zn_w2, zn_w3, zn_w4, zn_w5, zn_t0, zn_t1, zn_t2, zn_t3, zn_t4, zn_t5, h1, z_g_ss, zq_ss]
    exact ih (i + 1) _ (by omega)
set_option maxRecDepth 100000 in
set_option maxHeartbeats 4000000 in
theorem zl_131_24a (hq : q < 8) : ∀ (n i : Nat) (M : zS), i + n = 891 → zW 131 d Q 3 [some (zr (some (6, 1, 0))), some (zr (some (24, 1, 0))), some (zr (some (25, 1, 0))), some (zi (nI q)), some (zi (nI i))] [] (z_s m 1 M) 0 = Q none (z_s m 1 (mLyJ 25 q 88 0 (mLyI 24 q n i M))) := by
  intro n
  induction n with
  | zero =>
    intro i M hi
    have h1 : (891 ≤ nI i) = True := z_le1 (a := 891) (by omega) (by omega)
    rw [zu_131_3]
    simp only [↓zu_131_34, ↓zx_nil, ↓zx_cons, ↓zp_li, ↓zp_ll, ↓zp_lr, ↓zq_li0, ↓zq_li1, ↓zq_ll0, ↓zq_ll1, ↓zq_lr0, ↓zq_lr1, ↓zk_0, ↓zk_1n, ↓zk_1i, ↓zk_1r, ↓zk_1l, ↓zk_2, zp_okt, ↓zp_okl, zp_sh0, zp_sh1, zp_psn, zp_pss, ↓zp_ri1, ↓zp_ri20, ↓zp_ri21, ↓zp_rl, ↓zp_ra, ↓zp_rv, ↓zp_br, ↓reduceIte, Nat.reduceAdd, Nat.zero_add, Nat.add_zero, Nat.le_refl, Nat.zero_le, ↓zx_iconst, ↓zy_istore, ↓zx_iload, ↓zx_sipush, ↓zy_ic_ge, ↓zx_aload_1, ↓zx_iload_3, ↓zy_imul, ↓zy_iadd, ↓zx_aload_0, ↓zyg_6_3, ↓zy_iinc, ↓zx_goto, ↓zx_bipush, ↓zx_aload_2, ↓zyg_6_4, ↓zx_ret, ↓zya_21, ↓zya_22, ↓zya_24, ↓zya_26, ↓zya_27, ↓zya_30, ↓zya_32, ↓zya_33, ↓zyb_21, ↓zyb_22, ↓zyb_24, ↓zyb_26, ↓zyb_27, ↓zyb_30, ↓zyb_32, ↓zyb_33, ↓zya_23, ↓zya_25, ↓zya_28, ↓zya_31, ↓zyb_23, ↓zyb_25, ↓zyb_28, ↓zyb_31, h1, if_true]
    exact zl_131_24b hq 88 0 M (by omega)
  | succ n ih =>
    intro i M hi
    have h1 : (891 ≤ nI i) = False := z_le0 (a := 891) (by omega) (by omega)
    rw [zu_131_3]
    simp (disch := omega) only [↓zx_nil, ↓zx_cons, ↓zp_li, ↓zp_ll, ↓zp_lr, ↓zq_li0, ↓zq_li1, ↓zq_ll0, ↓zq_ll1, ↓zq_lr0, ↓zq_lr1, ↓zk_0, ↓zk_1n, ↓zk_1i, ↓zk_1r, ↓zk_1l, ↓zk_2, zp_okt, ↓zp_okl, zp_sh0, zp_sh1, zp_psn, zp_pss, ↓zp_ri1, ↓zp_ri20, ↓zp_ri21, ↓zp_rl, ↓zp_ra, ↓zp_rv, ↓zp_br, ↓reduceIte, Nat.reduceAdd, Nat.zero_add, Nat.add_zero, Nat.le_refl, Nat.zero_le, ↓zx_iconst, ↓zy_istore, ↓zx_iload, ↓zx_sipush, ↓zy_ic_ge, ↓zx_aload_1, ↓zx_iload_3, ↓zy_imul, ↓zy_iadd, ↓zx_aload_0, ↓zyg_6_3, ↓zy_iinc, ↓zx_goto, ↓zx_bipush, ↓zx_aload_2, ↓zyg_6_4, ↓zx_ret, ↓zya_21, ↓zya_22, ↓zya_24, ↓zya_26, ↓zya_27, ↓zya_30, ↓zya_32, ↓zya_33, ↓zyb_21, ↓zyb_22, ↓zyb_24, ↓zyb_26, ↓zyb_27, ↓zyb_30, ↓zyb_32, ↓zyb_33, ↓zya_23, ↓zya_25, ↓zya_28, ↓zya_31, ↓zyb_23, ↓zyb_25, ↓zyb_28, ↓zyb_31, z_i10, z_10, z_00, and_self, not_true_eq_false, not_false_eq_true, true_and, and_true, false_and, and_false, true_or, false_or, or_false, or_true, or_self, if_true, if_false, ite_self, ↓zs_72, zn_p0, zn_p1, zn_p2, zn_p3, zn_p4, zn_p5, zn_p6, zn_p7, zn_p8, zn_p13, zn_p88, zn_p891, zn_m2, zn_m3, zn_m8, zn_m17, zn_m29, zn_m88, zn_m891, zn_a2, zn_a3, zn_a6, zn_a8, zn_a18, zn_a66, zn_a88, zn_a211, zn_a891, zp_ri2i, nI_add, z_vr, nI_clamp, zn_w0, zn_w1, zn_w2, zn_w3, zn_w4, zn_w5, zn_t0, zn_t1, zn_t2, zn_t3, zn_t4, zn_t5, h1, z_g_ss, zq_ss]
    exact ih (i + 1) _ (by omega)
set_option maxRecDepth 100000 in
set_option maxHeartbeats 4000000 in
theorem zs_131_24 (hq : q < 8) : z_call (d + 1) 131 [zr (some (6, 1, 0)), zr (some (24, 1, 0)), zr (some (25, 1, 0)), zi (nI q)] m Q = Q none (z_s m 1 (mLay 24 25 q (z_g m 1))) := by
  have h := zl_131_24a (d := d) (m := m) (Q := Q) hq 891 0 (z_g m 1) (by omega)
  rw [zq_id] at h
  simp only [↓zen_131, ↓zu_131_0, ↓zu_131_34, ↓zu_131_66, ↓zx_nil, ↓zx_cons, ↓zp_li, ↓zp_ll, ↓zp_lr, ↓zq_li0, ↓zq_li1, ↓zq_ll0, ↓zq_ll1, ↓zq_lr0, ↓zq_lr1, ↓zk_0, ↓zk_1n, ↓zk_1i, ↓zk_1r, ↓zk_1l, ↓zk_2, zp_okt, ↓zp_okl, zp_sh0, zp_sh1, zp_psn, zp_pss, ↓zp_ri1, ↓zp_ri20, ↓zp_ri21, ↓zp_rl, ↓zp_ra, ↓zp_rv, ↓zp_br, ↓reduceIte, Nat.reduceAdd, Nat.zero_add, Nat.add_zero, Nat.le_refl, Nat.zero_le, ↓zx_iconst, ↓zy_istore, ↓zx_iload, ↓zx_sipush, ↓zy_ic_ge, ↓zx_aload_1, ↓zx_iload_3, ↓zy_imul, ↓zy_iadd, ↓zx_aload_0, ↓zyg_6_3, ↓zy_iinc, ↓zx_goto, ↓zx_bipush, ↓zx_aload_2, ↓zyg_6_4, ↓zx_ret, ↓zya_21, ↓zya_22, ↓zya_24, ↓zya_26, ↓zya_27, ↓zya_30, ↓zya_32, ↓zya_33, ↓zyb_21, ↓zyb_22, ↓zyb_24, ↓zyb_26, ↓zyb_27, ↓zyb_30, ↓zyb_32, ↓zyb_33, ↓zya_23, ↓zya_25, ↓zya_28, ↓zya_31, ↓zyb_23, ↓zyb_25, ↓zyb_28, ↓zyb_31]
  exact h
set_option maxRecDepth 100000 in
set_option maxHeartbeats 4000000 in
theorem zl_127_27b (hq : q < 2) : ∀ (n i : Nat) (M : zS), i + n = 88 → zW 127 d Q 37 [some (zr (some (6, 1, 0))), some (zr (some (27, 1, 0))), some (zr (some (28, 1, 0))), some (zi (nI q)), some (zi (nI i))] [] (z_s m 1 M) 0 = Q none (z_s m 1 (mBrJ 28 q n i M)) := by
  intro n
  induction n with
  | zero =>
    intro i M hi
    have h1 : (88 ≤ nI i) = True := z_le1 (a := 88) (by omega) (by omega)
    rw [zu_127_37]
    simp only [↓zu_127_66, ↓zx_nil, ↓zx_cons, ↓zp_li, ↓zp_ll, ↓zp_lr, ↓zq_li0, ↓zq_li1, ↓zq_ll0, ↓zq_ll1, ↓zq_lr0, ↓zq_lr1, ↓zk_0, ↓zk_1n, ↓zk_1i, ↓zk_1r, ↓zk_1l, ↓zk_2, zp_okt, ↓zp_okl, zp_sh0, zp_sh1, zp_psn, zp_pss, ↓zp_ri1, ↓zp_ri20, ↓zp_ri21, ↓zp_rl, ↓zp_ra, ↓zp_rv, ↓zp_br, ↓reduceIte, Nat.reduceAdd, Nat.zero_add, Nat.add_zero, Nat.le_refl, Nat.zero_le, ↓zx_iconst, ↓zy_istore, ↓zx_iload, ↓zx_sipush, ↓zy_ic_ge, ↓zx_aload_0, ↓zyg_6_3, ↓zx_aload_1, ↓zx_iload_3, ↓zy_imul, ↓zy_iadd, ↓zy_iinc, ↓zx_goto, ↓zx_bipush, ↓zyg_6_4, ↓zx_aload_2, ↓zx_ret, ↓zya_21, ↓zya_22, ↓zya_24, ↓zya_26, ↓zya_27, ↓zya_30, ↓zya_32, ↓zya_33, ↓zyb_21, ↓zyb_22, ↓zyb_24, ↓zyb_26, ↓zyb_27, ↓zyb_30, ↓zyb_32, ↓zyb_33, ↓zya_23, ↓zya_25, ↓zya_28, ↓zya_31, ↓zyb_23, ↓zyb_25, ↓zyb_28, ↓zyb_31, h1, if_true]
    rfl
  | succ n ih =>
    intro i M hi
    have h1 : (88 ≤ nI i) = False := z_le0 (a := 88) (by omega) (by omega)
    rw [zu_127_37]
    simp (disch := omega) only [↓zx_nil, ↓zx_cons, ↓zp_li, ↓zp_ll, ↓zp_lr, ↓zq_li0, ↓zq_li1, ↓zq_ll0, ↓zq_ll1, ↓zq_lr0, ↓zq_lr1, ↓zk_0, ↓zk_1n, ↓zk_1i, ↓zk_1r, ↓zk_1l, ↓zk_2, zp_okt, ↓zp_okl, zp_sh0, zp_sh1, zp_psn, zp_pss, ↓zp_ri1, ↓zp_ri20, ↓zp_ri21, ↓zp_rl, ↓zp_ra, ↓zp_rv, ↓zp_br, ↓reduceIte, Nat.reduceAdd, Nat.zero_add, Nat.add_zero, Nat.le_refl, Nat.zero_le, ↓zx_iconst, ↓zy_istore, ↓zx_iload, ↓zx_sipush, ↓zy_ic_ge, ↓zx_aload_0, ↓zyg_6_3, ↓zx_aload_1, ↓zx_iload_3, ↓zy_imul, ↓zy_iadd, ↓zy_iinc, ↓zx_goto, ↓zx_bipush, ↓zyg_6_4, ↓zx_aload_2, ↓zx_ret, ↓zya_21, ↓zya_22, ↓zya_24, ↓zya_26, ↓zya_27, ↓zya_30, ↓zya_32, ↓zya_33, ↓zyb_21, ↓zyb_22, ↓zyb_24, ↓zyb_26, ↓zyb_27, ↓zyb_30, ↓zyb_32, ↓zyb_33, ↓zya_23, ↓zya_25, ↓zya_28, ↓zya_31, ↓zyb_23, ↓zyb_25, ↓zyb_28, ↓zyb_31, z_i10, z_10, z_00, and_self, not_true_eq_false, not_false_eq_true, true_and, and_true, false_and, and_false, true_or, false_or, or_false, or_true, or_self, if_true, if_false, ite_self, ↓zs_72, zn_p0, zn_p1, zn_p2, zn_p3, zn_p4, zn_p5, zn_p6, zn_p7, zn_p8, zn_p13, zn_p88, zn_p891, zn_m2, zn_m3, zn_m8, zn_m17, zn_m29, zn_m88, zn_m891, zn_a2, zn_a3, zn_a6, zn_a8, zn_a18, zn_a66, zn_a88, zn_a211, zn_a891, zp_ri2i, nI_add, z_vr, nI_clamp, zn_w0, zn_w1, zn_w2, zn_w3, zn_w4, zn_w5, zn_t0, zn_t1, zn_t2, zn_t3, zn_t4, zn_t5, h1, z_g_ss, zq_ss]
    exact ih (i + 1) _ (by omega)
set_option maxRecDepth 100000 in
set_option maxHeartbeats 4000000 in
theorem zl_127_27a (hq : q < 2) : ∀ (n i : Nat) (M : zS), i + n = 891 → zW 127 d Q 3 [some (zr (some (6, 1, 0))), some (zr (some (27, 1, 0))), some (zr (some (28, 1, 0))), some (zi (nI q)), some (zi (nI i))] [] (z_s m 1 M) 0 = Q none (z_s m 1 (mBrJ 28 q 88 0 (mBrI 27 q n i M))) := by
  intro n
  induction n with
  | zero =>
    intro i M hi
    have h1 : (891 ≤ nI i) = True := z_le1 (a := 891) (by omega) (by omega)
    rw [zu_127_3]
    simp only [↓zu_127_34, ↓zx_nil, ↓zx_cons, ↓zp_li, ↓zp_ll, ↓zp_lr, ↓zq_li0, ↓zq_li1, ↓zq_ll0, ↓zq_ll1, ↓zq_lr0, ↓zq_lr1, ↓zk_0, ↓zk_1n, ↓zk_1i, ↓zk_1r, ↓zk_1l, ↓zk_2, zp_okt, ↓zp_okl, zp_sh0, zp_sh1, zp_psn, zp_pss, ↓zp_ri1, ↓zp_ri20, ↓zp_ri21, ↓zp_rl, ↓zp_ra, ↓zp_rv, ↓zp_br, ↓reduceIte, Nat.reduceAdd, Nat.zero_add, Nat.add_zero, Nat.le_refl, Nat.zero_le, ↓zx_iconst, ↓zy_istore, ↓zx_iload, ↓zx_sipush, ↓zy_ic_ge, ↓zx_aload_0, ↓zyg_6_3, ↓zx_aload_1, ↓zx_iload_3, ↓zy_imul, ↓zy_iadd, ↓zy_iinc, ↓zx_goto, ↓zx_bipush, ↓zyg_6_4, ↓zx_aload_2, ↓zx_ret, ↓zya_21, ↓zya_22, ↓zya_24, ↓zya_26, ↓zya_27, ↓zya_30, ↓zya_32, ↓zya_33, ↓zyb_21, ↓zyb_22, ↓zyb_24, ↓zyb_26, ↓zyb_27, ↓zyb_30, ↓zyb_32, ↓zyb_33, ↓zya_23, ↓zya_25, ↓zya_28, ↓zya_31, ↓zyb_23, ↓zyb_25, ↓zyb_28, ↓zyb_31, h1, if_true]
    exact zl_127_27b hq 88 0 M (by omega)
  | succ n ih =>
    intro i M hi
    have h1 : (891 ≤ nI i) = False := z_le0 (a := 891) (by omega) (by omega)
    rw [zu_127_3]
    simp (disch := omega) only [↓zx_nil, ↓zx_cons, ↓zp_li, ↓zp_ll, ↓zp_lr, ↓zq_li0, ↓zq_li1, ↓zq_ll0, ↓zq_ll1, ↓zq_lr0, ↓zq_lr1, ↓zk_0, ↓zk_1n, ↓zk_1i, ↓zk_1r, ↓zk_1l, ↓zk_2, zp_okt, ↓zp_okl, zp_sh0, zp_sh1, zp_psn, zp_pss, ↓zp_ri1, ↓zp_ri20, ↓zp_ri21, ↓zp_rl, ↓zp_ra, ↓zp_rv, ↓zp_br, ↓reduceIte, Nat.reduceAdd, Nat.zero_add, Nat.add_zero, Nat.le_refl, Nat.zero_le, ↓zx_iconst, ↓zy_istore, ↓zx_iload, ↓zx_sipush, ↓zy_ic_ge, ↓zx_aload_0, ↓zyg_6_3, ↓zx_aload_1, ↓zx_iload_3, ↓zy_imul, ↓zy_iadd, ↓zy_iinc, ↓zx_goto, ↓zx_bipush, ↓zyg_6_4, ↓zx_aload_2, ↓zx_ret, ↓zya_21, ↓zya_22, ↓zya_24, ↓zya_26, ↓zya_27, ↓zya_30, ↓zya_32, ↓zya_33, ↓zyb_21, ↓zyb_22, ↓zyb_24, ↓zyb_26, ↓zyb_27, ↓zyb_30, ↓zyb_32, ↓zyb_33, ↓zya_23, ↓zya_25, ↓zya_28, ↓zya_31, ↓zyb_23, ↓zyb_25, ↓zyb_28, ↓zyb_31, z_i10, z_10, z_00, and_self, not_true_eq_false, not_false_eq_true, true_and, and_true, false_and, and_false, true_or, false_or, or_false, or_true, or_self, if_true, if_false, ite_self, ↓zs_72, zn_p0, zn_p1, zn_p2, zn_p3, zn_p4, zn_p5, zn_p6, zn_p7, zn_p8, zn_p13, zn_p88, zn_p891, zn_m2, zn_m3, zn_m8, zn_m17, zn_m29, zn_m88, zn_m891, zn_a2, zn_a3, zn_a6, zn_a8, zn_a18, zn_a66, zn_a88, zn_a211, zn_a891, zp_ri2i, nI_add, z_vr, nI_clamp, zn_w0, zn_w1, zn_w2, zn_w3, zn_w4, zn_w5, zn_t0, zn_t1, zn_t2, zn_t3, zn_t4, zn_t5, h1, z_g_ss, zq_ss]
    exact ih (i + 1) _ (by omega)
set_option maxRecDepth 100000 in
set_option maxHeartbeats 4000000 in
theorem zs_127_27 (hq : q < 2) : z_call (d + 1) 127 [zr (some (6, 1, 0)), zr (some (27, 1, 0)), zr (some (28, 1, 0)), zi (nI q)] m Q = Q none (z_s m 1 (mBring 27 28 q (z_g m 1))) := by
  have h := zl_127_27a (d := d) (m := m) (Q := Q) hq 891 0 (z_g m 1) (by omega)
  rw [zq_id] at h
  simp only [↓zen_127, ↓zu_127_0, ↓zu_127_34, ↓zu_127_66, ↓zx_nil, ↓zx_cons, ↓zp_li, ↓zp_ll, ↓zp_lr, ↓zq_li0, ↓zq_li1, ↓zq_ll0, ↓zq_ll1, ↓zq_lr0, ↓zq_lr1, ↓zk_0, ↓zk_1n, ↓zk_1i, ↓zk_1r, ↓zk_1l, ↓zk_2, zp_okt, ↓zp_okl, zp_sh0, zp_sh1, zp_psn, zp_pss, ↓zp_ri1, ↓zp_ri20, ↓zp_ri21, ↓zp_rl, ↓zp_ra, ↓zp_rv, ↓zp_br, ↓reduceIte, Nat.reduceAdd, Nat.zero_add, Nat.add_zero, Nat.le_refl, Nat.zero_le, ↓zx_iconst, ↓zy_istore, ↓zx_iload, ↓zx_sipush, ↓zy_ic_ge, ↓zx_aload_0, ↓zyg_6_3, ↓zx_aload_1, ↓zx_iload_3, ↓zy_imul, ↓zy_iadd, ↓zy_iinc, ↓zx_goto, ↓zx_bipush, ↓zyg_6_4, ↓zx_aload_2, ↓zx_ret, ↓zya_21, ↓zya_22, ↓zya_24, ↓zya_26, ↓zya_27, ↓zya_30, ↓zya_32, ↓zya_33, ↓zyb_21, ↓zyb_22, ↓zyb_24, ↓zyb_26, ↓zyb_27, ↓zyb_30, ↓zyb_32, ↓zyb_33, ↓zya_23, ↓zya_25, ↓zya_28, ↓zya_31, ↓zyb_23, ↓zyb_25, ↓zyb_28, ↓zyb_31]
  exact h
set_option maxRecDepth 100000 in
set_option maxHeartbeats 4000000 in
theorem zl_131_27b (hq : q < 2) : ∀ (n i : Nat) (M : zS), i + n = 88 → zW 131 d Q 37 [some (zr (some (6, 1, 0))), some (zr (some (27, 1, 0))), some (zr (some (28, 1, 0))), some (zi (nI q)), some (zi (nI i))] [] (z_s m 1 M) 0 = Q none (z_s m 1 (mLyJ 28 q n i M)) := by
  intro n
  induction n with
  | zero =>
    intro i M hi
    have h1 : (88 ≤ nI i) = True := z_le1 (a := 88) (by omega) (by omega)
    rw [zu_131_37]
    simp only [↓zu_131_66, ↓zx_nil, ↓zx_cons, ↓zp_li, ↓zp_ll, ↓zp_lr, ↓zq_li0, ↓zq_li1, ↓zq_ll0, ↓zq_ll1, ↓zq_lr0, ↓zq_lr1, ↓zk_0, ↓zk_1n, ↓zk_1i, ↓zk_1r, ↓zk_1l, ↓zk_2, zp_okt, ↓zp_okl, zp_sh0, zp_sh1, zp_psn, zp_pss, ↓zp_ri1, ↓zp_ri20, ↓zp_ri21, ↓zp_rl, ↓zp_ra, ↓zp_rv, ↓zp_br, ↓reduceIte, Nat.reduceAdd, Nat.zero_add, Nat.add_zero, Nat.le_refl, Nat.zero_le, ↓zx_iconst, ↓zy_istore, ↓zx_iload, ↓zx_sipush, ↓zy_ic_ge, ↓zx_aload_1, ↓zx_iload_3, ↓zy_imul, ↓zy_iadd, ↓zx_aload_0, ↓zyg_6_3, ↓zy_iinc, ↓zx_goto, ↓zx_bipush, ↓zx_aload_2, ↓zyg_6_4, ↓zx_ret, ↓zya_21, ↓zya_22, ↓zya_24, ↓zya_26, ↓zya_27, ↓zya_30, ↓zya_32, ↓zya_33, ↓zyb_21, ↓zyb_22, ↓zyb_24, ↓zyb_26, ↓zyb_27, ↓zyb_30, ↓zyb_32, ↓zyb_33, ↓zya_23, ↓zya_25, ↓zya_28, ↓zya_31, ↓zyb_23, ↓zyb_25, ↓zyb_28, ↓zyb_31, h1, if_true]
    rfl
  | succ n ih =>
    intro i M hi
    have h1 : (88 ≤ nI i) = False := z_le0 (a := 88) (by omega) (by omega)
    rw [zu_131_37]
    simp (disch := omega) only [↓zx_nil, ↓zx_cons, ↓zp_li, ↓zp_ll, ↓zp_lr, ↓zq_li0, ↓zq_li1, ↓zq_ll0, ↓zq_ll1, ↓zq_lr0, ↓zq_lr1, ↓zk_0, ↓zk_1n, ↓zk_1i, ↓zk_1r, ↓zk_1l, ↓zk_2, zp_okt, ↓zp_okl, zp_sh0, zp_sh1, zp_psn, zp_pss, ↓zp_ri1, ↓zp_ri20, ↓zp_ri21, ↓zp_rl, ↓zp_ra, ↓zp_rv, ↓zp_br, ↓reduceIte, Nat.reduceAdd, Nat.zero_add, Nat.add_zero, Nat.le_refl, Nat.zero_le, ↓zx_iconst, ↓zy_istore, ↓zx_iload, ↓zx_sipush, ↓zy_ic_ge, ↓zx_aload_1, ↓zx_iload_3, ↓zy_imul, ↓zy_iadd, ↓zx_aload_0, ↓zyg_6_3, ↓zy_iinc, ↓zx_goto, ↓zx_bipush, ↓zx_aload_2, ↓zyg_6_4, ↓zx_ret, ↓zya_21, ↓zya_22, ↓zya_24, ↓zya_26, ↓zya_27, ↓zya_30, ↓zya_32, ↓zya_33, ↓zyb_21, ↓zyb_22, ↓zyb_24, ↓zyb_26, ↓zyb_27, ↓zyb_30, ↓zyb_32, ↓zyb_33, ↓zya_23, ↓zya_25, ↓zya_28, ↓zya_31, ↓zyb_23, ↓zyb_25, ↓zyb_28, ↓zyb_31, z_i10, z_10, z_00, and_self, not_true_eq_false, not_false_eq_true, true_and, and_true, false_and, and_false, true_or, false_or, or_false, or_true, or_self, if_true, if_false, ite_self, ↓zs_72, zn_p0, zn_p1, zn_p2, zn_p3, zn_p4, zn_p5, zn_p6, zn_p7, zn_p8, zn_p13, zn_p88, zn_p891, zn_m2, zn_m3, zn_m8, zn_m17, zn_m29, zn_m88, zn_m891, zn_a2, zn_a3, zn_a6, zn_a8, zn_a18, zn_a66, zn_a88, zn_a211, zn_a891, zp_ri2i, nI_add, z_vr, nI_clamp, zn_w0, zn_w1, zn_w2, zn_w3, zn_w4, zn_w5, zn_t0, zn_t1, zn_t2, zn_t3, zn_t4, zn_t5, h1, z_g_ss, zq_ss]
    exact ih (i + 1) _ (by omega)
set_option maxRecDepth 100000 in
set_option maxHeartbeats 4000000 in
theorem zl_131_27a (hq : q < 2) : ∀ (n i : Nat) (M : zS), i + n = 891 → zW 131 d Q 3 [some (zr (some (6, 1, 0))), some (zr (some (27, 1, 0))), some (zr (some (28, 1, 0))), some (zi (nI q)), some (zi (nI i))] [] (z_s m 1 M) 0 = Q none (z_s m 1 (mLyJ 28 q 88 0 (mLyI 27 q n i M))) := by
  intro n
  induction n with
  | zero =>
    intro i M hi
    have h1 : (891 ≤ nI i) = True := z_le1 (a := 891) (by omega) (by omega)
    rw [zu_131_3]
    simp only [↓zu_131_34, ↓zx_nil, ↓zx_cons, ↓zp_li, ↓zp_ll, ↓zp_lr, ↓zq_li0, ↓zq_li1, ↓zq_ll0, ↓zq_ll1, ↓zq_lr0, ↓zq_lr1, ↓zk_0, ↓zk_1n, ↓zk_1i, ↓zk_1r, ↓zk_1l, ↓zk_2, zp_okt, ↓zp_okl, zp_sh0, zp_sh1, zp_psn, zp_pss, ↓zp_ri1, ↓zp_ri20, ↓zp_ri21, ↓zp_rl, ↓zp_ra, ↓zp_rv, ↓zp_br, ↓reduceIte, Nat.reduceAdd, Nat.zero_add, Nat.add_zero, Nat.le_refl, Nat.zero_le, ↓zx_iconst, ↓zy_istore, ↓zx_iload, ↓zx_sipush, ↓zy_ic_ge, ↓zx_aload_1, ↓zx_iload_3, ↓zy_imul, ↓zy_iadd, ↓zx_aload_0, ↓zyg_6_3, ↓zy_iinc, ↓zx_goto, ↓zx_bipush, ↓zx_aload_2, ↓zyg_6_4, ↓zx_ret, ↓zya_21, ↓zya_22, ↓zya_24, ↓zya_26, ↓zya_27, ↓zya_30, ↓zya_32, ↓zya_33, ↓zyb_21, ↓zyb_22, ↓zyb_24, ↓zyb_26, ↓zyb_27, ↓zyb_30, ↓zyb_32, ↓zyb_33, ↓zya_23, ↓zya_25, ↓zya_28, ↓zya_31, ↓zyb_23, ↓zyb_25, ↓zyb_28, ↓zyb_31, h1, if_true]
    exact zl_131_27b hq 88 0 M (by omega)
  | succ n ih =>
    intro i M hi
    have h1 : (891 ≤ nI i) = False := z_le0 (a := 891) (by omega) (by omega)
    rw [zu_131_3]
    simp (disch := omega) only [↓zx_nil, ↓zx_cons, ↓zp_li, ↓zp_ll, ↓zp_lr, ↓zq_li0, ↓zq_li1, ↓zq_ll0, ↓zq_ll1, ↓zq_lr0, ↓zq_lr1, ↓zk_0, ↓zk_1n, ↓zk_1i, ↓zk_1r, ↓zk_1l, ↓zk_2, zp_okt, ↓zp_okl, zp_sh0, zp_sh1, zp_psn, zp_pss, ↓zp_ri1, ↓zp_ri20, ↓zp_ri21, ↓zp_rl, ↓zp_ra, ↓zp_rv, ↓zp_br, ↓reduceIte, Nat.reduceAdd, Nat.zero_add, Nat.add_zero, Nat.le_refl, Nat.zero_le, ↓zx_iconst, ↓zy_istore, ↓zx_iload, ↓zx_sipush, ↓zy_ic_ge, ↓zx_aload_1, ↓zx_iload_3, ↓zy_imul, ↓zy_iadd, ↓zx_aload_0, ↓zyg_6_3, ↓zy_iinc, ↓zx_goto, ↓zx_bipush, ↓zx_aload_2, ↓zyg_6_4, ↓zx_ret, ↓zya_21, ↓zya_22, ↓zya_24, ↓zya_26, ↓zya_27, ↓zya_30, ↓zya_32, ↓zya_33, ↓zyb_21, ↓zyb_22, ↓zyb_24, ↓zyb_26, ↓zyb_27, ↓zyb_30, ↓zyb_32, ↓zyb_33, ↓zya_23, ↓zya_25, ↓zya_28, ↓zya_31, ↓zyb_23, ↓zyb_25, ↓zyb_28, ↓zyb_31, z_i10, z_10, z_00, and_self, not_true_eq_false, not_false_eq_true, true_and, and_true, false_and, and_false, true_or, false_or, or_false, or_true, or_self, if_true, if_false, ite_self, ↓zs_72, zn_p0, zn_p1, zn_p2, zn_p3, zn_p4, zn_p5, zn_p6, zn_p7, zn_p8, zn_p13, zn_p88, zn_p891, zn_m2, zn_m3, zn_m8, zn_m17, zn_m29, zn_m88, zn_m891, zn_a2, zn_a3, zn_a6, zn_a8, zn_a18, zn_a66, zn_a88, zn_a211, zn_a891, zp_ri2i, nI_add, z_vr, nI_clamp, zn_w0, zn_w1, zn_w2, zn_w3, zn_w4, zn_w5, zn_t0, zn_t1, zn_t2, zn_t3, zn_t4, zn_t5, h1, z_g_ss, zq_ss]
    exact ih (i + 1) _ (by omega)
set_option maxRecDepth 100000 in
set_option maxHeartbeats 4000000 in
theorem zs_131_27 (hq : q < 2) : z_call (d + 1) 131 [zr (some (6, 1, 0)), zr (some (27, 1, 0)), zr (some (28, 1, 0)), zi (nI q)] m Q = Q none (z_s m 1 (mLay 27 28 q (z_g m 1))) := by
  have h := zl_131_27a (d := d) (m := m) (Q := Q) hq 891 0 (z_g m 1) (by omega)
  rw [zq_id] at h
  simp only [↓zen_131, ↓zu_131_0, ↓zu_131_34, ↓zu_131_66, ↓zx_nil, ↓zx_cons, ↓zp_li, ↓zp_ll, ↓zp_lr, ↓zq_li0, ↓zq_li1, ↓zq_ll0, ↓zq_ll1, ↓zq_lr0, ↓zq_lr1, ↓zk_0, ↓zk_1n, ↓zk_1i, ↓zk_1r, ↓zk_1l, ↓zk_2, zp_okt, ↓zp_okl, zp_sh0, zp_sh1, zp_psn, zp_pss, ↓zp_ri1, ↓zp_ri20, ↓zp_ri21, ↓zp_rl, ↓zp_ra, ↓zp_rv, ↓zp_br, ↓reduceIte, Nat.reduceAdd, Nat.zero_add, Nat.add_zero, Nat.le_refl, Nat.zero_le, ↓zx_iconst, ↓zy_istore, ↓zx_iload, ↓zx_sipush, ↓zy_ic_ge, ↓zx_aload_1, ↓zx_iload_3, ↓zy_imul, ↓zy_iadd, ↓zx_aload_0, ↓zyg_6_3, ↓zy_iinc, ↓zx_goto, ↓zx_bipush, ↓zx_aload_2, ↓zyg_6_4, ↓zx_ret, ↓zya_21, ↓zya_22, ↓zya_24, ↓zya_26, ↓zya_27, ↓zya_30, ↓zya_32, ↓zya_33, ↓zyb_21, ↓zyb_22, ↓zyb_24, ↓zyb_26, ↓zyb_27, ↓zyb_30, ↓zyb_32, ↓zyb_33, ↓zya_23, ↓zya_25, ↓zya_28, ↓zya_31, ↓zyb_23, ↓zyb_25, ↓zyb_28, ↓zyb_31]
  exact h
set_option maxRecDepth 100000 in
set_option maxHeartbeats 4000000 in
theorem zl_127_30b (hq : q < 1) : ∀ (n i : Nat) (M : zS), i + n = 88 → zW 127 d Q 37 [some (zr (some (6, 1, 0))), some (zr (some (30, 1, 0))), some (zr (some (31, 1, 0))), some (zi (nI q)), some (zi (nI i))] [] (z_s m 1 M) 0 = Q none (z_s m 1 (mBrJ 31 q n i M)) := by
  intro n
  induction n with
  | zero =>
    intro i M hi
    have h1 : (88 ≤ nI i) = True := z_le1 (a := 88) (by omega) (by omega)
    rw [zu_127_37]
    simp only [↓zu_127_66, ↓zx_nil, ↓zx_cons, ↓zp_li, ↓zp_ll, ↓zp_lr, ↓zq_li0, ↓zq_li1, ↓zq_ll0, ↓zq_ll1, ↓zq_lr0, ↓zq_lr1, ↓zk_0, ↓zk_1n, ↓zk_1i, ↓zk_1r, ↓zk_1l, ↓zk_2, zp_okt, ↓zp_okl, zp_sh0, zp_sh1, zp_psn, zp_pss, ↓zp_ri1, ↓zp_ri20, ↓zp_ri21, ↓zp_rl, ↓zp_ra, ↓zp_rv, ↓zp_br, ↓reduceIte, Nat.reduceAdd, Nat.zero_add, Nat.add_zero, Nat.le_refl, Nat.zero_le, ↓zx_iconst, ↓zy_istore, ↓zx_iload, ↓zx_sipush, ↓zy_ic_ge, ↓zx_aload_0, ↓zyg_6_3, ↓zx_aload_1, ↓zx_iload_3, ↓zy_imul, ↓zy_iadd, ↓zy_iinc, ↓zx_goto, ↓zx_bipush, ↓zyg_6_4, ↓zx_aload_2, ↓zx_ret, ↓zya_21, ↓zya_22, ↓zya_24, ↓zya_26, ↓zya_27, ↓zya_30, ↓zya_32, ↓zya_33, ↓zyb_21, ↓zyb_22, ↓zyb_24, ↓zyb_26, ↓zyb_27, ↓zyb_30, ↓zyb_32, ↓zyb_33, ↓zya_23, ↓zya_25, ↓zya_28, ↓zya_31, ↓zyb_23, ↓zyb_25, ↓zyb_28, ↓zyb_31, h1, if_true]
    rfl
  | succ n ih =>
    intro i M hi
    have h1 : (88 ≤ nI i) = False := z_le0 (a := 88) (by omega) (by omega)
    rw [zu_127_37]
    simp (disch := omega) only [↓zx_nil, ↓zx_cons, ↓zp_li, ↓zp_ll, ↓zp_lr, ↓zq_li0, ↓zq_li1, ↓zq_ll0, ↓zq_ll1, ↓zq_lr0, ↓zq_lr1, ↓zk_0, ↓zk_1n, ↓zk_1i, ↓zk_1r, ↓zk_1l, ↓zk_2, zp_okt, ↓zp_okl, zp_sh0, zp_sh1, zp_psn, zp_pss, ↓zp_ri1, ↓zp_ri20, ↓zp_ri21, ↓zp_rl, ↓zp_ra, ↓zp_rv, ↓zp_br, ↓reduceIte, Nat.reduceAdd, Nat.zero_add, Nat.add_zero, Nat.le_refl, Nat.zero_le, ↓zx_iconst, ↓zy_istore, ↓zx_iload, ↓zx_sipush, ↓zy_ic_ge, ↓zx_aload_0, ↓zyg_6_3, ↓zx_aload_1, ↓zx_iload_3, ↓zy_imul, ↓zy_iadd, ↓zy_iinc, ↓zx_goto, ↓zx_bipush, ↓zyg_6_4, ↓zx_aload_2, ↓zx_ret, ↓zya_21, ↓zya_22, ↓zya_24, ↓zya_26, ↓zya_27, ↓zya_30, ↓zya_32, ↓zya_33, ↓zyb_21, ↓zyb_22, ↓zyb_24, ↓zyb_26, ↓zyb_27, ↓zyb_30, ↓zyb_32, ↓zyb_33, ↓zya_23, ↓zya_25, ↓zya_28, ↓zya_31, ↓zyb_23, ↓zyb_25, ↓zyb_28, ↓zyb_31, z_i10, z_10, z_00, and_self, not_true_eq_false, not_false_eq_true, true_and, and_true, false_and, and_false, true_or, false_or, or_false, or_true, or_self, if_true, if_false, ite_self, ↓zs_72, zn_p0, zn_p1, zn_p2, zn_p3, zn_p4, zn_p5, zn_p6, zn_p7, zn_p8, zn_p13, zn_p88, zn_p891, zn_m2, zn_m3, zn_m8, zn_m17, zn_m29, zn_m88, zn_m891, zn_a2, zn_a3, zn_a6, zn_a8, zn_a18, zn_a66, zn_a88, zn_a211, zn_a891, zp_ri2i, nI_add, z_vr, nI_clamp, zn_w0, zn_w1, zn_w2, zn_w3, zn_w4, zn_w5, zn_t0, zn_t1, zn_t2, zn_t3, zn_t4, zn_t5, h1, z_g_ss, zq_ss]
    exact ih (i + 1) _ (by omega)
set_option maxRecDepth 100000 in
set_option maxHeartbeats 4000000 in
theorem zl_127_30a (hq : q < 1) : ∀ (n i : Nat) (M : zS), i + n = 891 → zW 127 d Q 3 [some (zr (some (6, 1, 0))), some (zr (some (30, 1, 0))), some (zr (some (31, 1, 0))), some (zi (nI q)), some (zi (nI i))] [] (z_s m 1 M) 0 = Q none (z_s m 1 (mBrJ 31 q 88 0 (mBrI 30 q n i M))) := by
  intro n
  induction n with
  | zero =>
    intro i M hi
    have h1 : (891 ≤ nI i) = True := z_le1 (a := 891) (by omega) (by omega)
    rw [zu_127_3]
    simp only [↓zu_127_34, ↓zx_nil, ↓zx_cons, ↓zp_li, ↓zp_ll, ↓zp_lr, ↓zq_li0, ↓zq_li1, ↓zq_ll0, ↓zq_ll1, ↓zq_lr0, ↓zq_lr1, ↓zk_0, ↓zk_1n, ↓zk_1i, ↓zk_1r, ↓zk_1l, ↓zk_2, zp_okt, ↓zp_okl, zp_sh0, zp_sh1, zp_psn, zp_pss, ↓zp_ri1, ↓zp_ri20, ↓zp_ri21, ↓zp_rl, ↓zp_ra, ↓zp_rv, ↓zp_br, ↓reduceIte, Nat.reduceAdd, Nat.zero_add, Nat.add_zero, Nat.le_refl, Nat.zero_le, ↓zx_iconst, ↓zy_istore, ↓zx_iload, ↓zx_sipush, ↓zy_ic_ge, ↓zx_aload_0, ↓zyg_6_3, ↓zx_aload_1, ↓zx_iload_3, ↓zy_imul, ↓zy_iadd, ↓zy_iinc, ↓zx_goto, ↓zx_bipush, ↓zyg_6_4, ↓zx_aload_2, ↓zx_ret, ↓zya_21, ↓zya_22, ↓zya_24, ↓zya_26, ↓zya_27, ↓zya_30, ↓zya_32, ↓zya_33, ↓zyb_21, ↓zyb_22, ↓zyb_24, ↓zyb_26, ↓zyb_27, ↓zyb_30, ↓zyb_32, ↓zyb_33, ↓zya_23, ↓zya_25, ↓zya_28, ↓zya_31, ↓zyb_23, ↓zyb_25, ↓zyb_28, ↓zyb_31, h1, if_true]
    exact zl_127_30b hq 88 0 M (by omega)
  | succ n ih =>
    intro i M hi
    have h1 : (891 ≤ nI i) = False := z_le0 (a := 891) (by omega) (by omega)
    rw [zu_127_3]
    simp (disch := omega) only [↓zx_nil, ↓zx_cons, ↓zp_li, ↓zp_ll, ↓zp_lr, ↓zq_li0, ↓zq_li1, ↓zq_ll0, ↓zq_ll1, ↓zq_lr0, ↓zq_lr1, ↓zk_0, ↓zk_1n, ↓zk_1i, ↓zk_1r, ↓zk_1l, ↓zk_2, zp_okt, ↓zp_okl, zp_sh0, zp_sh1, zp_psn, zp_pss, ↓zp_ri1, ↓zp_ri20, ↓zp_ri21, ↓zp_rl, ↓zp_ra, ↓zp_rv, ↓zp_br, ↓reduceIte, Nat.reduceAdd, Nat.zero_add, Nat.add_zero, Nat.le_refl, Nat.zero_le, ↓zx_iconst, ↓zy_istore, ↓zx_iload, ↓zx_sipush, ↓zy_ic_ge, ↓zx_aload_0, ↓zyg_6_3, ↓zx_aload_1, ↓zx_iload_3, ↓zy_imul, ↓zy_iadd, ↓zy_iinc, ↓zx_goto, ↓zx_bipush, ↓zyg_6_4, ↓zx_aload_2, ↓zx_ret, ↓zya_21, ↓zya_22, ↓zya_24, ↓zya_26, ↓zya_27, ↓zya_30, ↓zya_32, ↓zya_33, ↓zyb_21, ↓zyb_22, ↓zyb_24, ↓zyb_26, ↓zyb_27, ↓zyb_30, ↓zyb_32, ↓zyb_33, ↓zya_23, ↓zya_25, ↓zya_28, ↓zya_31, ↓zyb_23, ↓zyb_25, ↓zyb_28, ↓zyb_31, z_i10, z_10, z_00, and_self, not_true_eq_false, not_false_eq_true, true_and, and_true, false_and, and_false, true_or, false_or, or_false, or_true, or_self, if_true, if_false, ite_self, ↓zs_72, zn_p0, zn_p1, zn_p2, zn_p3, zn_p4, zn_p5, zn_p6, zn_p7, zn_p8, zn_p13, zn_p88, zn_p891, zn_m2, zn_m3, zn_m8, zn_m17, zn_m29, zn_m88, zn_m891, zn_a2, zn_a3, zn_a6, zn_a8, zn_a18, zn_a66, zn_a88, zn_a211, zn_a891, zp_ri2i, nI_add, z_vr, nI_clamp, zn_w0, zn_w1, zn_w2, zn_w3, zn_w4, zn_w5, zn_t0, zn_t1, zn_t2, zn_t3, zn_t4, zn_t5, h1, z_g_ss, zq_ss]
    exact ih (i + 1) _ (by omega)
set_option maxRecDepth 100000 in
set_option maxHeartbeats 4000000 in
theorem zs_127_30 (hq : q < 1) : z_call (d + 1) 127 [zr (some (6, 1, 0)), zr (some (30, 1, 0)), zr (some (31, 1, 0)), zi (nI q)] m Q = Q none (z_s m 1 (mBring 30 31 q (z_g m 1))) := by
  have h := zl_127_30a (d := d) (m := m) (Q := Q) hq 891 0 (z_g m 1) (by omega)
  rw [zq_id] at h
  simp only [↓zen_127, ↓zu_127_0, ↓zu_127_34, ↓zu_127_66, ↓zx_nil, ↓zx_cons, ↓zp_li, ↓zp_ll, ↓zp_lr, ↓zq_li0, ↓zq_li1, ↓zq_ll0, ↓zq_ll1, ↓zq_lr0, ↓zq_lr1, ↓zk_0, ↓zk_1n, ↓zk_1i, ↓zk_1r, ↓zk_1l, ↓zk_2, zp_okt, ↓zp_okl, zp_sh0, zp_sh1, zp_psn, zp_pss, ↓zp_ri1, ↓zp_ri20, ↓zp_ri21, ↓zp_rl, ↓zp_ra, ↓zp_rv, ↓zp_br, ↓reduceIte, Nat.reduceAdd, Nat.zero_add, Nat.add_zero, Nat.le_refl, Nat.zero_le, ↓zx_iconst, ↓zy_istore, ↓zx_iload, ↓zx_sipush, ↓zy_ic_ge, ↓zx_aload_0, ↓zyg_6_3, ↓zx_aload_1, ↓zx_iload_3, ↓zy_imul, ↓zy_iadd, ↓zy_iinc, ↓zx_goto, ↓zx_bipush, ↓zyg_6_4, ↓zx_aload_2, ↓zx_ret, ↓zya_21, ↓zya_22, ↓zya_24, ↓zya_26, ↓zya_27, ↓zya_30, ↓zya_32, ↓zya_33, ↓zyb_21, ↓zyb_22, ↓zyb_24, ↓zyb_26, ↓zyb_27, ↓zyb_30, ↓zyb_32, ↓zyb_33, ↓zya_23, ↓zya_25, ↓zya_28, ↓zya_31, ↓zyb_23, ↓zyb_25, ↓zyb_28, ↓zyb_31]
  exact h
set_option maxRecDepth 100000 in
set_option maxHeartbeats 4000000 in
theorem zl_131_30b (hq : q < 1) : ∀ (n i : Nat) (M : zS), i + n = 88 → zW 131 d Q 37 [some (zr (some (6, 1, 0))), some (zr (some (30, 1, 0))), some (zr (some (31, 1, 0))), some (zi (nI q)), some (zi (nI i))] [] (z_s m 1 M) 0 = Q none (z_s m 1 (mLyJ 31 q n i M)) := by
  intro n
  induction n with
  | zero =>
    intro i M hi
    have h1 : (88 ≤ nI i) = True := z_le1 (a := 88) (by omega) (by omega)
    rw [zu_131_37]
    simp only [↓zu_131_66, ↓zx_nil, ↓zx_cons, ↓zp_li, ↓zp_ll, ↓zp_lr, ↓zq_li0, ↓zq_li1, ↓zq_ll0, ↓zq_ll1, ↓zq_lr0, ↓zq_lr1, ↓zk_0, ↓zk_1n, ↓zk_1i, ↓zk_1r, ↓zk_1l, ↓zk_2, zp_okt, ↓zp_okl, zp_sh0, zp_sh1, zp_psn, zp_pss, ↓zp_ri1, ↓zp_ri20, ↓zp_ri21, ↓zp_rl, ↓zp_ra, ↓zp_rv, ↓zp_br, ↓reduceIte, Nat.reduceAdd, Nat.zero_add, Nat.add_zero, Nat.le_refl, Nat.zero_le, ↓zx_iconst, ↓zy_istore, ↓zx_iload, ↓zx_sipush, ↓zy_ic_ge, ↓zx_aload_1, ↓zx_iload_3, ↓zy_imul, ↓zy_iadd, ↓zx_aload_0, ↓zyg_6_3, ↓zy_iinc, ↓zx_goto, ↓zx_bipush, ↓zx_aload_2, ↓zyg_6_4, ↓zx_ret, ↓zya_21, ↓zya_22, ↓zya_24, ↓zya_26, ↓zya_27, ↓zya_30, ↓zya_32, ↓zya_33, ↓zyb_21, ↓zyb_22, ↓zyb_24, ↓zyb_26, ↓zyb_27, ↓zyb_30, ↓zyb_32, ↓zyb_33, ↓zya_23, ↓zya_25, ↓zya_28, ↓zya_31, ↓zyb_23, ↓zyb_25, ↓zyb_28, ↓zyb_31, h1, if_true]
    rfl
  | succ n ih =>
    intro i M hi
    have h1 : (88 ≤ nI i) = False := z_le0 (a := 88) (by omega) (by omega)
    rw [zu_131_37]
    simp (disch := omega) only [↓zx_nil, ↓zx_cons, ↓zp_li, ↓zp_ll, ↓zp_lr, ↓zq_li0, ↓zq_li1, ↓zq_ll0, ↓zq_ll1, ↓zq_lr0, ↓zq_lr1, ↓zk_0, ↓zk_1n, ↓zk_1i, ↓zk_1r, ↓zk_1l, ↓zk_2, zp_okt, ↓zp_okl, zp_sh0, zp_sh1, zp_psn, zp_pss, ↓zp_ri1, ↓zp_ri20, ↓zp_ri21, ↓zp_rl, ↓zp_ra, ↓zp_rv, ↓zp_br, ↓reduceIte, Nat.reduceAdd, Nat.zero_add, Nat.add_zero, Nat.le_refl, Nat.zero_le, ↓zx_iconst, ↓zy_istore, ↓zx_iload, ↓zx_sipush, ↓zy_ic_ge, ↓zx_aload_1, ↓zx_iload_3, ↓zy_imul, ↓zy_iadd, ↓zx_aload_0, ↓zyg_6_3, ↓zy_iinc, ↓zx_goto, ↓zx_bipush, ↓zx_aload_2, ↓zyg_6_4, ↓zx_ret, ↓zya_21, ↓zya_22, ↓zya_24, ↓zya_26, ↓zya_27, ↓zya_30, ↓zya_32, ↓zya_33, ↓zyb_21, ↓zyb_22, ↓zyb_24, ↓zyb_26, ↓zyb_27, ↓zyb_30, ↓zyb_32, ↓zyb_33, ↓zya_23, ↓zya_25, ↓zya_28, ↓zya_31, ↓zyb_23, ↓zyb_25, ↓zyb_28, ↓zyb_31, z_i10, z_10, z_00, and_self, not_true_eq_false, not_false_eq_true, true_and, and_true, false_and, and_false, true_or, false_or, or_false, or_true, or_self, if_true, if_false, ite_self, ↓zs_72, zn_p0, zn_p1, zn_p2, zn_p3, zn_p4, zn_p5, zn_p6, zn_p7, zn_p8, zn_p13, zn_p88, zn_p891, zn_m2, zn_m3, zn_m8, zn_m17, zn_m29, zn_m88, zn_m891, zn_a2, zn_a3, zn_a6, zn_a8, zn_a18, zn_a66, zn_a88, zn_a211, zn_a891, zp_ri2i, nI_add, z_vr, nI_clamp, zn_w0, zn_w1, zn_w2, zn_w3, zn_w4, zn_w5, zn_t0, zn_t1, zn_t2, zn_t3, zn_t4, zn_t5, h1, z_g_ss, zq_ss]
    exact ih (i + 1) _ (by omega)
set_option maxRecDepth 100000 in
set_option maxHeartbeats 4000000 in
theorem zl_131_30a (hq : q < 1) : ∀ (n i : Nat) (M : zS), i + n = 891 → zW 131 d Q 3 [some (zr (some (6, 1, 0))), some (zr (some (30, 1, 0))), some (zr (some (31, 1, 0))), some (zi (nI q)), some (zi (nI i))] [] (z_s m 1 M) 0 = Q none (z_s m 1 (mLyJ 31 q 88 0 (mLyI 30 q n i M))) := by
  intro n
  induction n with
  | zero =>
    intro i M hi
    have h1 : (891 ≤ nI i) = True := z_le1 (a := 891) (by omega) (by omega)
    rw [zu_131_3]
    simp only [↓zu_131_34, ↓zx_nil, ↓zx_cons, ↓zp_li, ↓zp_ll, ↓zp_lr, ↓zq_li0, ↓zq_li1, ↓zq_ll0, ↓zq_ll1, ↓zq_lr0, ↓zq_lr1, ↓zk_0, ↓zk_1n, ↓zk_1i, ↓zk_1r, ↓zk_1l, ↓zk_2, zp_okt, ↓zp_okl, zp_sh0, zp_sh1, zp_psn, zp_pss, ↓zp_ri1, ↓zp_ri20, ↓zp_ri21, ↓zp_rl, ↓zp_ra, ↓zp_rv, ↓zp_br, ↓reduceIte, Nat.reduceAdd, Nat.zero_add, Nat.add_zero, Nat.le_refl, Nat.zero_le, ↓zx_iconst, ↓zy_istore, ↓zx_iload, ↓zx_sipush, ↓zy_ic_ge, ↓zx_aload_1, ↓zx_iload_3, ↓zy_imul, ↓zy_iadd, ↓zx_aload_0, ↓zyg_6_3, ↓zy_iinc, ↓zx_goto, ↓zx_bipush, ↓zx_aload_2, ↓zyg_6_4, ↓zx_ret, ↓zya_21, ↓zya_22, ↓zya_24, ↓zya_26, ↓zya_27, ↓zya_30, ↓zya_32, ↓zya_33, ↓zyb_21, ↓zyb_22, ↓zyb_24, ↓zyb_26, ↓zyb_27, ↓zyb_30, ↓zyb_32, ↓zyb_33, ↓zya_23, ↓zya_25, ↓zya_28, ↓zya_31, ↓zyb_23, ↓zyb_25, ↓zyb_28, ↓zyb_31, h1, if_true]
    exact zl_131_30b hq 88 0 M (by omega)
  | succ n ih =>
    intro i M hi
    have h1 : (891 ≤ nI i) = False := z_le0 (a := 891) (by omega) (by omega)
    rw [zu_131_3]
    simp (disch := omega) only [↓zx_nil, ↓zx_cons, ↓zp_li, ↓zp_ll, ↓zp_lr, ↓zq_li0, ↓zq_li1, ↓zq_ll0, ↓zq_ll1, ↓zq_lr0, ↓zq_lr1, ↓zk_0, ↓zk_1n, ↓zk_1i, ↓zk_1r, ↓zk_1l, ↓zk_2, zp_okt, ↓zp_okl, zp_sh0, zp_sh1, zp_psn, zp_pss, ↓zp_ri1, ↓zp_ri20, ↓zp_ri21, ↓zp_rl, ↓zp_ra, ↓zp_rv, ↓zp_br, ↓reduceIte, Nat.reduceAdd, Nat.zero_add, Nat.add_zero, Nat.le_refl, Nat.zero_le, ↓zx_iconst, ↓zy_istore, ↓zx_iload, ↓zx_sipush, ↓zy_ic_ge, ↓zx_aload_1, ↓zx_iload_3, ↓zy_imul, ↓zy_iadd, ↓zx_aload_0, ↓zyg_6_3, ↓zy_iinc, ↓zx_goto, ↓zx_bipush, ↓zx_aload_2, ↓zyg_6_4, ↓zx_ret, ↓zya_21, ↓zya_22, ↓zya_24, ↓zya_26, ↓zya_27, ↓zya_30, ↓zya_32, ↓zya_33, ↓zyb_21, ↓zyb_22, ↓zyb_24, ↓zyb_26, ↓zyb_27, ↓zyb_30, ↓zyb_32, ↓zyb_33, ↓zya_23, ↓zya_25, ↓zya_28, ↓zya_31, ↓zyb_23, ↓zyb_25, ↓zyb_28, ↓zyb_31, z_i10, z_10, z_00, and_self, not_true_eq_false, not_false_eq_true, true_and, and_true, false_and, and_false, true_or, false_or, or_false, or_true, or_self, if_true, if_false, ite_self, ↓zs_72, zn_p0, zn_p1, zn_p2, zn_p3, zn_p4, zn_p5, zn_p6, zn_p7, zn_p8, zn_p13, zn_p88, zn_p891, zn_m2, zn_m3, zn_m8, zn_m17, zn_m29, zn_m88, zn_m891, zn_a2, zn_a3, zn_a6, zn_a8, zn_a18, zn_a66, zn_a88, zn_a211, zn_a891, zp_ri2i, nI_add, z_vr, nI_clamp, zn_w0, zn_w1, zn_w2, zn_w3, zn_w4, zn_w5, zn_t0, zn_t1, zn_t2, zn_t3, zn_t4, zn_t5, h1, z_g_ss, zq_ss]
    exact ih (i + 1) _ (by omega)
set_option maxRecDepth 100000 in
set_option maxHeartbeats 4000000 in
theorem zs_131_30 (hq : q < 1) : z_call (d + 1) 131 [zr (some (6, 1, 0)), zr (some (30, 1, 0)), zr (some (31, 1, 0)), zi (nI q)] m Q = Q none (z_s m 1 (mLay 30 31 q (z_g m 1))) := by
  have h := zl_131_30a (d := d) (m := m) (Q := Q) hq 891 0 (z_g m 1) (by omega)
  rw [zq_id] at h
  simp only [↓zen_131, ↓zu_131_0, ↓zu_131_34, ↓zu_131_66, ↓zx_nil, ↓zx_cons, ↓zp_li, ↓zp_ll, ↓zp_lr, ↓zq_li0, ↓zq_li1, ↓zq_ll0, ↓zq_ll1, ↓zq_lr0, ↓zq_lr1, ↓zk_0, ↓zk_1n, ↓zk_1i, ↓zk_1r, ↓zk_1l, ↓zk_2, zp_okt, ↓zp_okl, zp_sh0, zp_sh1, zp_psn, zp_pss, ↓zp_ri1, ↓zp_ri20, ↓zp_ri21, ↓zp_rl, ↓zp_ra, ↓zp_rv, ↓zp_br, ↓reduceIte, Nat.reduceAdd, Nat.zero_add, Nat.add_zero, Nat.le_refl, Nat.zero_le, ↓zx_iconst, ↓zy_istore, ↓zx_iload, ↓zx_sipush, ↓zy_ic_ge, ↓zx_aload_1, ↓zx_iload_3, ↓zy_imul, ↓zy_iadd, ↓zx_aload_0, ↓zyg_6_3, ↓zy_iinc, ↓zx_goto, ↓zx_bipush, ↓zx_aload_2, ↓zyg_6_4, ↓zx_ret, ↓zya_21, ↓zya_22, ↓zya_24, ↓zya_26, ↓zya_27, ↓zya_30, ↓zya_32, ↓zya_33, ↓zyb_21, ↓zyb_22, ↓zyb_24, ↓zyb_26, ↓zyb_27, ↓zyb_30, ↓zyb_32, ↓zyb_33, ↓zya_23, ↓zya_25, ↓zya_28, ↓zya_31, ↓zyb_23, ↓zyb_25, ↓zyb_28, ↓zyb_31]
  exact h
-- remembering
def mSf1 (n i : Nat) (M : zS) : zS := z_it (fun j M => z_uI M 24 0 j (z_I M 24 0 (j + 891))) n i M
def mSf2 (n i : Nat) (M : zS) : zS := z_it (fun j M => z_uJ M 25 0 j (z_J M 25 0 (j + 88))) n i M
def mSf3 (n i : Nat) (M : zS) : zS := z_it (fun j M => z_uI M 26 0 j (z_I M 26 0 (j + 1))) n i M
def mShift (M : zS) : zS := mSf3 7 0 (mSf2 616 0 (mSf1 6237 0 M))
abbrev mNu (M : zS) : Nat := (z_I M 6 0 8).toNatClampNeg
def mRem0 (M : zS) : zS := if z_I M 6 0 8 = 8 then z_uI (mShift M) 6 0 8 (z_I (mShift M) 6 0 8 - 1) else M
def mRem1 (M : zS) (v : Int32) : zS := z_uI (mLay 24 25 (mNu M) M) 26 0 (mNu M) v
def mRem (M : zS) (v : Int32) : zS := z_uI (mRem1 (mRem0 M) v) 6 0 8 (nI (mNu (mRem0 M) + 1))
end Mo7
