/-! ===== THE MODEL: remembering, what was tried ===== -/
section Mo8
variable {d r i k g s l t q : Nat} {m : zM} {Q : zQ} {v w a b c e f x y : Int32}
theorem z_it_I {α : Type} {F : Nat → zS → zS} {π : zS → α} (h : ∀ j M, π (F j M) = π M) : ∀ (n i : Nat) (M : zS), π (z_it F n i M) = π M
  | 0, _, _ => rfl
  | n + 1, i, M => (z_it_I h n (i + 1) (F i M)).trans (h i M)
theorem z_I_o {M : zS} {k i f k' i' f' : Nat} (h : k' ≠ k) : z_I (z_uI M k i f v) k' i' f' = z_I M k' i' f' := by
  rw [z_I_u, if_neg fun q => h q.1]
theorem mLyI_o {M : zS} {ka k i f n j : Nat} (h : k ≠ ka) : z_I (mLyI ka q n j M) k i f = z_I M k i f := z_it_I (π := fun M => z_I M k i f) (fun _ _ => z_I_o h) n j M
theorem mLyJ_o {M : zS} {kb k i f n j : Nat} : z_I (mLyJ kb q n j M) k i f = z_I M k i f := z_it_I (F := fun j M => z_uJ M kb 0 (88 * q + j) (z_J M 23 0 j)) (π := fun M => z_I M k i f) (fun _ _ => rfl) n j M
theorem mLay_o {M : zS} {ka kb k i f : Nat} (h : k ≠ ka) : z_I (mLay ka kb q M) k i f = z_I M k i f := by
  unfold mLay
  rw [mLyJ_o, mLyI_o h]
theorem mSf1_o {M : zS} {k i f n j : Nat} (h : k ≠ 24) : z_I (mSf1 n j M) k i f = z_I M k i f := z_it_I (π := fun M => z_I M k i f) (fun _ _ => z_I_o h) n j M
theorem mSf2_o {M : zS} {k i f n j : Nat} : z_I (mSf2 n j M) k i f = z_I M k i f := z_it_I (F := fun j M => z_uJ M 25 0 j (z_J M 25 0 (j + 88))) (π := fun M => z_I M k i f) (fun _ _ => rfl) n j M
theorem mSf3_o {M : zS} {k i f n j : Nat} (h : k ≠ 26) : z_I (mSf3 n j M) k i f = z_I M k i f := z_it_I (π := fun M => z_I M k i f) (fun _ _ => z_I_o h) n j M
theorem mShift_o {M : zS} {k i f : Nat} (h : k ≠ 24) (h2 : k ≠ 26) : z_I (mShift M) k i f = z_I M k i f := by
  unfold mShift
  rw [mSf3_o h2, mSf2_o, mSf1_o h]
set_option maxRecDepth 100000 in
set_option maxHeartbeats 4000000 in
theorem zl_134d {n : Nat} {M : zS} (hn : n < 8) (e : z_I M 6 0 8 = nI n) {o2 : Option zV} : zW 134 (d + 1) Q 108 [some (zr (some (6, 1, 0))), some (zi v), o2] [] (z_s m 1 M) 0 = Q none (z_s m 1 (z_uI (mRem1 M v) 6 0 8 (nI (mNu M + 1)))) := by
  have h131 := fun Q => zs_131_24 (d := d) (m := z_s m 1 M) (Q := Q) (q := n) hn
  rw [z_g_ss] at h131
  have e2 : z_I (mLay 24 25 n M) 6 0 8 = nI n := (mLay_o (by decide)).trans e
  have e3 : z_I (z_uI (mLay 24 25 n M) 26 0 n v) 6 0 8 = nI n := (z_I_o (by decide)).trans e2
  unfold mRem1 mNu
  rw [e, nI_clamp (by omega)]
  simp (disch := omega) only [↓zu_134_108, ↓zx_nil, ↓zx_cons, ↓zp_li, ↓zp_ll, ↓zp_lr, ↓zq_li0, ↓zq_li1, ↓zq_ll0, ↓zq_ll1, ↓zq_lr0, ↓zq_lr1, ↓zk_0, ↓zk_1n, ↓zk_1i, ↓zk_1r, ↓zk_1l, ↓zk_2, zp_okt, ↓zp_okl, zp_sh0, zp_sh1, zp_psn, zp_pss, ↓zp_ri1, ↓zp_ri20, ↓zp_ri21, ↓zp_rl, ↓zp_ra, ↓zp_rv, ↓zp_br, ↓reduceIte, Nat.reduceAdd, Nat.zero_add, Nat.add_zero, Nat.le_refl, Nat.zero_le, ↓zx_aload_0, ↓zyg_6_8, ↓zx_bipush, ↓zy_ic_ne, ↓zx_iconst, ↓zy_istore_2, ↓zx_iload_2, ↓zx_sipush, ↓zy_ic_ge, ↓zyg_6_5, ↓zy_iadd, ↓zy_iinc, ↓zx_goto, ↓zyg_6_6, ↓zyg_6_7, ↓zy_dupi, ↓zy_dupr, ↓zy_isub, ↓zyp_6_8, ↓zyc_131, ↓zx_iload_1, ↓zx_ret, ↓zya_21, ↓zya_22, ↓zya_24, ↓zya_26, ↓zya_27, ↓zya_30, ↓zya_32, ↓zya_33, ↓zyb_21, ↓zyb_22, ↓zyb_24, ↓zyb_26, ↓zyb_27, ↓zyb_30, ↓zyb_32, ↓zyb_33, ↓zya_23, ↓zya_25, ↓zya_28, ↓zya_31, ↓zyb_23, ↓zyb_25, ↓zyb_28, ↓zyb_31, z_i10, z_10, z_00, and_self, not_true_eq_false, not_false_eq_true, true_and, and_true, false_and, and_false, true_or, false_or, or_false, or_true, or_self, if_true, if_false, ite_self, ↓zs_72, zn_p0, zn_p1, zn_p2, zn_p3, zn_p4, zn_p5, zn_p6, zn_p7, zn_p8, zn_p13, zn_p88, zn_p891, zn_m2, zn_m3, zn_m8, zn_m17, zn_m29, zn_m88, zn_m891, zn_a2, zn_a3, zn_a6, zn_a8, zn_a18, zn_a66, zn_a88, zn_a211, zn_a891, zp_ri2i, nI_add, z_vr, nI_clamp, zn_w0, zn_w1, zn_w2, zn_w3, zn_w4, zn_w5, zn_t0, zn_t1, zn_t2, zn_t3, zn_t4, zn_t5, z_g_ss, zq_ss, e, h131, e2, e3]
set_option maxRecDepth 100000 in
set_option maxHeartbeats 4000000 in
theorem zl_134c : ∀ (n i : Nat) (M : zS), i + n = 7 → z_I M 6 0 8 = 8 → zW 134 (d + 1) Q 72 [some (zr (some (6, 1, 0))), some (zi v), some (zi (nI i))] [] (z_s m 1 M) 0 = Q none (z_s m 1 (z_uI (mRem1 (z_uI (mSf3 n i M) 6 0 8 7) v) 6 0 8 (nI (mNu (z_uI (mSf3 n i M) 6 0 8 7) + 1)))) := by
  intro n
  induction n with
  | zero =>
    intro i M hi e
    have h1 : (7 ≤ nI i) = True := z_le1 (a := 7) (by omega) (by omega)
    have h7 : (8 : Int32) - 1 = 7 := by decide
    have h := zl_134d (d := d) (Q := Q) (m := m) (v := v) (n := 7) (M := z_uI M 6 0 8 7) (o2 := some (zi (nI i))) (by decide) (by rw [z_I_u, if_pos ⟨rfl, rfl, rfl⟩]; rfl)
    rw [zu_134_72]
    simp only [↓zu_134_98, ↓zx_nil, ↓zx_cons, ↓zp_li, ↓zp_ll, ↓zp_lr, ↓zq_li0, ↓zq_li1, ↓zq_ll0, ↓zq_ll1, ↓zq_lr0, ↓zq_lr1, ↓zk_0, ↓zk_1n, ↓zk_1i, ↓zk_1r, ↓zk_1l, ↓zk_2, zp_okt, ↓zp_okl, zp_sh0, zp_sh1, zp_psn, zp_pss, ↓zp_ri1, ↓zp_ri20, ↓zp_ri21, ↓zp_rl, ↓zp_ra, ↓zp_rv, ↓zp_br, ↓reduceIte, Nat.reduceAdd, Nat.zero_add, Nat.add_zero, Nat.le_refl, Nat.zero_le, ↓zx_aload_0, ↓zyg_6_8, ↓zx_bipush, ↓zy_ic_ne, ↓zx_iconst, ↓zy_istore_2, ↓zx_iload_2, ↓zx_sipush, ↓zy_ic_ge, ↓zyg_6_5, ↓zy_iadd, ↓zy_iinc, ↓zx_goto, ↓zyg_6_6, ↓zyg_6_7, ↓zy_dupi, ↓zy_dupr, ↓zy_isub, ↓zyp_6_8, ↓zyc_131, ↓zx_iload_1, ↓zx_ret, ↓zya_21, ↓zya_22, ↓zya_24, ↓zya_26, ↓zya_27, ↓zya_30, ↓zya_32, ↓zya_33, ↓zyb_21, ↓zyb_22, ↓zyb_24, ↓zyb_26, ↓zyb_27, ↓zyb_30, ↓zyb_32, ↓zyb_33, ↓zya_23, ↓zya_25, ↓zya_28, ↓zya_31, ↓zyb_23, ↓zyb_25, ↓zyb_28, ↓zyb_31, z_i10, z_10, z_00, and_self, not_true_eq_false, not_false_eq_true, true_and, and_true, false_and, and_false, true_or, false_or, or_false, or_true, or_self, if_true, if_false, ite_self, ↓zs_72, h1, z_g_ss, zq_ss, e, h7]
    exact h
  | succ n ih =>
    intro i M hi e
    have h1 : (7 ≤ nI i) = False := z_le0 (a := 7) (by omega) (by omega)
    rw [zu_134_72]
    simp (disch := omega) only [↓zx_nil, ↓zx_cons, ↓zp_li, ↓zp_ll, ↓zp_lr, ↓zq_li0, ↓zq_li1, ↓zq_ll0, ↓zq_ll1, ↓zq_lr0, ↓zq_lr1, ↓zk_0, ↓zk_1n, ↓zk_1i, ↓zk_1r, ↓zk_1l, ↓zk_2, zp_okt, ↓zp_okl, zp_sh0, zp_sh1, zp_psn, zp_pss, ↓zp_ri1, ↓zp_ri20, ↓zp_ri21, ↓zp_rl, ↓zp_ra, ↓zp_rv, ↓zp_br, ↓reduceIte, Nat.reduceAdd, Nat.zero_add, Nat.add_zero, Nat.le_refl, Nat.zero_le, ↓zx_aload_0, ↓zyg_6_8, ↓zx_bipush, ↓zy_ic_ne, ↓zx_iconst, ↓zy_istore_2, ↓zx_iload_2, ↓zx_sipush, ↓zy_ic_ge, ↓zyg_6_5, ↓zy_iadd, ↓zy_iinc, ↓zx_goto, ↓zyg_6_6, ↓zyg_6_7, ↓zy_dupi, ↓zy_dupr, ↓zy_isub, ↓zyp_6_8, ↓zyc_131, ↓zx_iload_1, ↓zx_ret, ↓zya_21, ↓zya_22, ↓zya_24, ↓zya_26, ↓zya_27, ↓zya_30, ↓zya_32, ↓zya_33, ↓zyb_21, ↓zyb_22, ↓zyb_24, ↓zyb_26, ↓zyb_27, ↓zyb_30, ↓zyb_32, ↓zyb_33, ↓zya_23, ↓zya_25, ↓zya_28, ↓zya_31, ↓zyb_23, ↓zyb_25, ↓zyb_28, ↓zyb_31, z_i10, z_10, z_00, and_self, not_true_eq_false, not_false_eq_true, true_and, and_true, false_and, and_false, true_or, false_or, or_false, or_true, or_self, if_true, if_false, ite_self, ↓zs_72, zn_p0, zn_p1, zn_p2, zn_p3, zn_p4, zn_p5, zn_p6, zn_p7, zn_p8, zn_p13, zn_p88, zn_p891, zn_m2, zn_m3, zn_m8, zn_m17, zn_m29, zn_m88, zn_m891, zn_a2, zn_a3, zn_a6, zn_a8, zn_a18, zn_a66, zn_a88, zn_a211, zn_a891, zp_ri2i, nI_add, z_vr, nI_clamp, zn_w0, zn_w1, zn_w2, zn_w3, zn_w4, zn_w5, zn_t0, zn_t1, zn_t2, zn_t3, zn_t4, zn_t5, h1, z_g_ss, zq_ss]
    exact ih (i + 1) _ (by omega) ((z_I_o (by decide)).trans e)
set_option maxRecDepth 100000 in
set_option maxHeartbeats 4000000 in
theorem zl_134b : ∀ (n i : Nat) (M : zS), i + n = 616 → z_I M 6 0 8 = 8 → zW 134 (d + 1) Q 42 [some (zr (some (6, 1, 0))), some (zi v), some (zi (nI i))] [] (z_s m 1 M) 0 = Q none (z_s m 1 (z_uI (mRem1 (z_uI (mSf3 7 0 (mSf2 n i M)) 6 0 8 7) v) 6 0 8 (nI (mNu (z_uI (mSf3 7 0 (mSf2 n i M)) 6 0 8 7) + 1)))) := by
  intro n
  induction n with
  | zero =>
    intro i M hi e
    have h1 : (616 ≤ nI i) = True := z_le1 (a := 616) (by omega) (by omega)
    rw [zu_134_42]
    simp only [↓zu_134_70, ↓zx_nil, ↓zx_cons, ↓zp_li, ↓zp_ll, ↓zp_lr, ↓zq_li0, ↓zq_li1, ↓zq_ll0, ↓zq_ll1, ↓zq_lr0, ↓zq_lr1, ↓zk_0, ↓zk_1n, ↓zk_1i, ↓zk_1r, ↓zk_1l, ↓zk_2, zp_okt, ↓zp_okl, zp_sh0, zp_sh1, zp_psn, zp_pss, ↓zp_ri1, ↓zp_ri20, ↓zp_ri21, ↓zp_rl, ↓zp_ra, ↓zp_rv, ↓zp_br, ↓reduceIte, Nat.reduceAdd, Nat.zero_add, Nat.add_zero, Nat.le_refl, Nat.zero_le, ↓zx_aload_0, ↓zyg_6_8, ↓zx_bipush, ↓zy_ic_ne, ↓zx_iconst, ↓zy_istore_2, ↓zx_iload_2, ↓zx_sipush, ↓zy_ic_ge, ↓zyg_6_5, ↓zy_iadd, ↓zy_iinc, ↓zx_goto, ↓zyg_6_6, ↓zyg_6_7, ↓zy_dupi, ↓zy_dupr, ↓zy_isub, ↓zyp_6_8, ↓zyc_131, ↓zx_iload_1, ↓zx_ret, ↓zya_21, ↓zya_22, ↓zya_24, ↓zya_26, ↓zya_27, ↓zya_30, ↓zya_32, ↓zya_33, ↓zyb_21, ↓zyb_22, ↓zyb_24, ↓zyb_26, ↓zyb_27, ↓zyb_30, ↓zyb_32, ↓zyb_33, ↓zya_23, ↓zya_25, ↓zya_28, ↓zya_31, ↓zyb_23, ↓zyb_25, ↓zyb_28, ↓zyb_31, z_i10, z_10, z_00, and_self, not_true_eq_false, not_false_eq_true, true_and, and_true, false_and, and_false, true_or, false_or, or_false, or_true, or_self, if_true, if_false, ite_self, ↓zs_72, h1]
    exact zl_134c 7 0 M (by omega) e
  | succ n ih =>
    intro i M hi e
    have h1 : (616 ≤ nI i) = False := z_le0 (a := 616) (by omega) (by omega)
    rw [zu_134_42]
    simp (disch := omega) only [↓zx_nil, ↓zx_cons, ↓zp_li, ↓zp_ll, ↓zp_lr, ↓zq_li0, ↓zq_li1, ↓zq_ll0, ↓zq_ll1, ↓zq_lr0, ↓zq_lr1, ↓zk_0, ↓zk_1n, ↓zk_1i, ↓zk_1r, ↓zk_1l, ↓zk_2, zp_okt, ↓zp_okl, zp_sh0, zp_sh1, zp_psn, zp_pss, ↓zp_ri1, ↓zp_ri20, ↓zp_ri21, ↓zp_rl, ↓zp_ra, ↓zp_rv, ↓zp_br, ↓reduceIte, Nat.reduceAdd, Nat.zero_add, Nat.add_zero, Nat.le_refl, Nat.zero_le, ↓zx_aload_0, ↓zyg_6_8, ↓zx_bipush, ↓zy_ic_ne, ↓zx_iconst, ↓zy_istore_2, ↓zx_iload_2, ↓zx_sipush, ↓zy_ic_ge, ↓zyg_6_5, ↓zy_iadd, ↓zy_iinc, ↓zx_goto, ↓zyg_6_6, ↓zyg_6_7, ↓zy_dupi, ↓zy_dupr, ↓zy_isub, ↓zyp_6_8, ↓zyc_131, ↓zx_iload_1, ↓zx_ret, ↓zya_21, ↓zya_22, ↓zya_24, ↓zya_26, ↓zya_27, ↓zya_30, ↓zya_32, ↓zya_33, ↓zyb_21, ↓zyb_22, ↓zyb_24, ↓zyb_26, ↓zyb_27, ↓zyb_30, ↓zyb_32, ↓zyb_33, ↓zya_23, ↓zya_25, ↓zya_28, ↓zya_31, ↓zyb_23, ↓zyb_25, ↓zyb_28, ↓zyb_31, z_i10, z_10, z_00, and_self, not_true_eq_false, not_false_eq_true, true_and, and_true, false_and, and_false, true_or, false_or, or_false, or_true, or_self, if_true, if_false, ite_self, ↓zs_72, zn_p0, zn_p1, zn_p2, zn_p3, zn_p4, zn_p5, zn_p6, zn_p7, zn_p8, zn_p13, zn_p88, zn_p891, zn_m2, zn_m3, zn_m8, zn_m17, zn_m29, zn_m88, zn_m891, zn_a2, zn_a3, zn_a6, zn_a8, zn_a18, zn_a66, zn_a88, zn_a211, zn_a891, zp_ri2i, nI_add, z_vr, nI_clamp, zn_w0, zn_w1, zn_w2, zn_w3, zn_w4, zn_w5, zn_t0, zn_t1, zn_t2, zn_t3, zn_t4, zn_t5, h1, z_g_ss, zq_ss]
    exact ih (i + 1) _ (by omega) e
set_option maxRecDepth 100000 in
set_option maxHeartbeats 4000000 in
theorem zl_134a : ∀ (n i : Nat) (M : zS), i + n = 6237 → z_I M 6 0 8 = 8 → zW 134 (d + 1) Q 11 [some (zr (some (6, 1, 0))), some (zi v), some (zi (nI i))] [] (z_s m 1 M) 0 = Q none (z_s m 1 (z_uI (mRem1 (z_uI (mSf3 7 0 (mSf2 616 0 (mSf1 n i M))) 6 0 8 7) v) 6 0 8 (nI (mNu (z_uI (mSf3 7 0 (mSf2 616 0 (mSf1 n i M))) 6 0 8 7) + 1)))) := by
  intro n
  induction n with
  | zero =>
    intro i M hi e
    have h1 : (6237 ≤ nI i) = True := z_le1 (a := 6237) (by omega) (by omega)
    rw [zu_134_11]
    simp only [↓zu_134_40, ↓zx_nil, ↓zx_cons, ↓zp_li, ↓zp_ll, ↓zp_lr, ↓zq_li0, ↓zq_li1, ↓zq_ll0, ↓zq_ll1, ↓zq_lr0, ↓zq_lr1, ↓zk_0, ↓zk_1n, ↓zk_1i, ↓zk_1r, ↓zk_1l, ↓zk_2, zp_okt, ↓zp_okl, zp_sh0, zp_sh1, zp_psn, zp_pss, ↓zp_ri1, ↓zp_ri20, ↓zp_ri21, ↓zp_rl, ↓zp_ra, ↓zp_rv, ↓zp_br, ↓reduceIte, Nat.reduceAdd, Nat.zero_add, Nat.add_zero, Nat.le_refl, Nat.zero_le, ↓zx_aload_0, ↓zyg_6_8, ↓zx_bipush, ↓zy_ic_ne, ↓zx_iconst, ↓zy_istore_2, ↓zx_iload_2, ↓zx_sipush, ↓zy_ic_ge, ↓zyg_6_5, ↓zy_iadd, ↓zy_iinc, ↓zx_goto, ↓zyg_6_6, ↓zyg_6_7, ↓zy_dupi, ↓zy_dupr, ↓zy_isub, ↓zyp_6_8, ↓zyc_131, ↓zx_iload_1, ↓zx_ret, ↓zya_21, ↓zya_22, ↓zya_24, ↓zya_26, ↓zya_27, ↓zya_30, ↓zya_32, ↓zya_33, ↓zyb_21, ↓zyb_22, ↓zyb_24, ↓zyb_26, ↓zyb_27, ↓zyb_30, ↓zyb_32, ↓zyb_33, ↓zya_23, ↓zya_25, ↓zya_28, ↓zya_31, ↓zyb_23, ↓zyb_25, ↓zyb_28, ↓zyb_31, z_i10, z_10, z_00, and_self, not_true_eq_false, not_false_eq_true, true_and, and_true, false_and, and_false, true_or, false_or, or_false, or_true, or_self, if_true, if_false, ite_self, ↓zs_72, h1]
    exact zl_134b 616 0 M (by omega) e
  | succ n ih =>
    intro i M hi e
    have h1 : (6237 ≤ nI i) = False := z_le0 (a := 6237) (by omega) (by omega)
    rw [zu_134_11]
    simp (disch := omega) only [↓zx_nil, ↓zx_cons, ↓zp_li, ↓zp_ll, ↓zp_lr, ↓zq_li0, ↓zq_li1, ↓zq_ll0, ↓zq_ll1, ↓zq_lr0, ↓zq_lr1, ↓zk_0, ↓zk_1n, ↓zk_1i, ↓zk_1r, ↓zk_1l, ↓zk_2, zp_okt, ↓zp_okl, zp_sh0, zp_sh1, zp_psn, zp_pss, ↓zp_ri1, ↓zp_ri20, ↓zp_ri21, ↓zp_rl, ↓zp_ra, ↓zp_rv, ↓zp_br, ↓reduceIte, Nat.reduceAdd, Nat.zero_add, Nat.add_zero, Nat.le_refl, Nat.zero_le, ↓zx_aload_0, ↓zyg_6_8, ↓zx_bipush, ↓zy_ic_ne, ↓zx_iconst, ↓zy_istore_2, ↓zx_iload_2, ↓zx_sipush, ↓zy_ic_ge, ↓zyg_6_5, ↓zy_iadd, ↓zy_iinc, ↓zx_goto, ↓zyg_6_6, ↓zyg_6_7, ↓zy_dupi, ↓zy_dupr, ↓zy_isub, ↓zyp_6_8, ↓zyc_131, ↓zx_iload_1, ↓zx_ret, ↓zya_21, ↓zya_22, ↓zya_24, ↓zya_26, ↓zya_27, ↓zya_30, ↓zya_32, ↓zya_33, ↓zyb_21, ↓zyb_22, ↓zyb_24, ↓zyb_26, ↓zyb_27, ↓zyb_30, ↓zyb_32, ↓zyb_33, ↓zya_23, ↓zya_25, ↓zya_28, ↓zya_31, ↓zyb_23, ↓zyb_25, ↓zyb_28, ↓zyb_31, z_i10, z_10, z_00, and_self, not_true_eq_false, not_false_eq_true, true_and, and_true, false_and, and_false, true_or, false_or, or_false, or_true, or_self, if_true, if_false, ite_self, ↓zs_72, zn_p0, zn_p1, zn_p2, zn_p3, zn_p4, zn_p5, zn_p6, zn_p7, zn_p8, zn_p13, zn_p88, zn_p891, zn_m2, zn_m3, zn_m8, zn_m17, zn_m29, zn_m88, zn_m891, zn_a2, zn_a3, zn_a6, zn_a8, zn_a18, zn_a66, zn_a88, zn_a211, zn_a891, zp_ri2i, nI_add, z_vr, nI_clamp, zn_w0, zn_w1, zn_w2, zn_w3, zn_w4, zn_w5, zn_t0, zn_t1, zn_t2, zn_t3, zn_t4, zn_t5, h1, z_g_ss, zq_ss]
    exact ih (i + 1) _ (by omega) ((z_I_o (by decide)).trans e)
set_option maxRecDepth 100000 in
set_option maxHeartbeats 4000000 in
theorem zs_134 (h : z_nn (z_I (z_g m 1) 6 0 8) 8) : z_call (d + 2) 134 [zr (some (6, 1, 0)), zi v] m Q = Q none (z_s m 1 (mRem (z_g m 1) v)) := by
  unfold mRem
  rcases Classical.em (z_I (z_g m 1) 6 0 8 = 8) with h8 | h8
  · have ha := zl_134a (d := d) (m := m) (v := v) (Q := Q) 6237 0 (z_g m 1) (by omega) h8
    have e : mRem0 (z_g m 1) = z_uI (mSf3 7 0 (mSf2 616 0 (mSf1 6237 0 (z_g m 1)))) 6 0 8 7 := by
      unfold mRem0
      rw [if_pos h8, mShift_o (by decide) (by decide), h8]
      rfl
    rw [zq_id] at ha
    rw [e, ← ha]
    have h9 := eq_true h8
    simp only [↓zen_134, ↓zu_134_0, ↓zx_nil, ↓zx_cons, ↓zp_li, ↓zp_ll, ↓zp_lr, ↓zq_li0, ↓zq_li1, ↓zq_ll0, ↓zq_ll1, ↓zq_lr0, ↓zq_lr1, ↓zk_0, ↓zk_1n, ↓zk_1i, ↓zk_1r, ↓zk_1l, ↓zk_2, zp_okt, ↓zp_okl, zp_sh0, zp_sh1, zp_psn, zp_pss, ↓zp_ri1, ↓zp_ri20, ↓zp_ri21, ↓zp_rl, ↓zp_ra, ↓zp_rv, ↓zp_br, ↓reduceIte, Nat.reduceAdd, Nat.zero_add, Nat.add_zero, Nat.le_refl, Nat.zero_le, ↓zx_aload_0, ↓zyg_6_8, ↓zx_bipush, ↓zy_ic_ne, ↓zx_iconst, ↓zy_istore_2, ↓zx_iload_2, ↓zx_sipush, ↓zy_ic_ge, ↓zyg_6_5, ↓zy_iadd, ↓zy_iinc, ↓zx_goto, ↓zyg_6_6, ↓zyg_6_7, ↓zy_dupi, ↓zy_dupr, ↓zy_isub, ↓zyp_6_8, ↓zyc_131, ↓zx_iload_1, ↓zx_ret, ↓zya_21, ↓zya_22, ↓zya_24, ↓zya_26, ↓zya_27, ↓zya_30, ↓zya_32, ↓zya_33, ↓zyb_21, ↓zyb_22, ↓zyb_24, ↓zyb_26, ↓zyb_27, ↓zyb_30, ↓zyb_32, ↓zyb_33, ↓zya_23, ↓zya_25, ↓zya_28, ↓zya_31, ↓zyb_23, ↓zyb_25, ↓zyb_28, ↓zyb_31, z_i10, z_10, z_00, and_self, not_true_eq_false, not_false_eq_true, true_and, and_true, false_and, and_false, true_or, false_or, or_false, or_true, or_self, if_true, if_false, ite_self, ↓zs_72, h9]
    rfl
  · have e : mRem0 (z_g m 1) = z_g m 1 := by unfold mRem0; rw [if_neg h8]
    have hn : mNu (z_g m 1) < 8 := by
      have h1 := h.2
      refine Nat.lt_of_le_of_ne h1 fun q => h8 ?_
      rw [h.eq]; exact congrArg nI q
    have ha := zl_134d (d := d) (m := m) (v := v) (Q := Q) (o2 := none) hn h.eq
    rw [zq_id] at ha
    rw [e, ← ha]
    simp only [↓zen_134, ↓zu_134_0, ↓zx_nil, ↓zx_cons, ↓zp_li, ↓zp_ll, ↓zp_lr, ↓zq_li0, ↓zq_li1, ↓zq_ll0, ↓zq_ll1, ↓zq_lr0, ↓zq_lr1, ↓zk_0, ↓zk_1n, ↓zk_1i, ↓zk_1r, ↓zk_1l, ↓zk_2, zp_okt, ↓zp_okl, zp_sh0, zp_sh1, zp_psn, zp_pss, ↓zp_ri1, ↓zp_ri20, ↓zp_ri21, ↓zp_rl, ↓zp_ra, ↓zp_rv, ↓zp_br, ↓reduceIte, Nat.reduceAdd, Nat.zero_add, Nat.add_zero, Nat.le_refl, Nat.zero_le, ↓zx_aload_0, ↓zyg_6_8, ↓zx_bipush, ↓zy_ic_ne, ↓zx_iconst, ↓zy_istore_2, ↓zx_iload_2, ↓zx_sipush, ↓zy_ic_ge, ↓zyg_6_5, ↓zy_iadd, ↓zy_iinc, ↓zx_goto, ↓zyg_6_6, ↓zyg_6_7, ↓zy_dupi, ↓zy_dupr, ↓zy_isub, ↓zyp_6_8, ↓zyc_131, ↓zx_iload_1, ↓zx_ret, ↓zya_21, ↓zya_22, ↓zya_24, ↓zya_26, ↓zya_27, ↓zya_30, ↓zya_32, ↓zya_33, ↓zyb_21, ↓zyb_22, ↓zyb_24, ↓zyb_26, ↓zyb_27, ↓zyb_30, ↓zyb_32, ↓zyb_33, ↓zya_23, ↓zya_25, ↓zya_28, ↓zya_31, ↓zyb_23, ↓zyb_25, ↓zyb_28, ↓zyb_31, z_i10, z_10, z_00, and_self, not_true_eq_false, not_false_eq_true, true_and, and_true, false_and, and_false, true_or, false_or, or_false, or_true, or_self, if_true, if_false, ite_self, ↓zs_72, h8]
-- what was tried goes
def mRefu (M : zS) (v : Int32) : zS := z_uI (z_uI M 6 0 1 v) 21 0 (-v).toNatClampNeg (z_I M 21 0 (-v).toNatClampNeg + 1)
set_option maxRecDepth 100000 in
set_option maxHeartbeats 4000000 in
theorem zs_169 (h : v = -1 ∨ v = -2 ∨ v = -4 ∨ v = -5) : z_call (d + 2) 169 [zr (some (6, 1, 0)), zi v] m Q = Q (some (zi v)) (z_s m 1 (mRefu (mBring 30 31 0 (z_g m 1)) v)) := by
  have h1 := fun Q => zs_127_30 (d := d) (m := m) (Q := Q) (q := 0) (by decide)
  have e : nI 0 = 0 := rfl
  rw [e] at h1
  simp only [↓zen_169, ↓zu_169_0, ↓zx_nil, ↓zx_cons, ↓zp_li, ↓zp_ll, ↓zp_lr, ↓zq_li0, ↓zq_li1, ↓zq_ll0, ↓zq_ll1, ↓zq_lr0, ↓zq_lr1, ↓zk_0, ↓zk_1n, ↓zk_1i, ↓zk_1r, ↓zk_1l, ↓zk_2, zp_okt, ↓zp_okl, zp_sh0, zp_sh1, zp_psn, zp_pss, ↓zp_ri1, ↓zp_ri20, ↓zp_ri21, ↓zp_rl, ↓zp_ra, ↓zp_rv, ↓zp_br, ↓reduceIte, Nat.reduceAdd, Nat.zero_add, Nat.add_zero, Nat.le_refl, Nat.zero_le, ↓zx_aload_0, ↓zyg_6_12, ↓zyg_6_13, ↓zx_iconst, ↓zyc_127, ↓zx_iload_1, ↓zyc_126, ↓zx_iret, z_i10, z_10, z_00, and_self, not_true_eq_false, not_false_eq_true, true_and, and_true, false_and, and_false, true_or, false_or, or_false, or_true, or_self, if_true, if_false, ite_self, ↓zs_72, h1, ↓zs_126 h, z_g_ss, zq_ss]
  rfl
-- what was tried stays
def mSw1 (n i : Nat) (M : zS) : zS := z_it (fun j M => z_uI (z_uI M 22 0 j (z_I M 30 0 j)) 30 0 j (z_I M 22 0 j)) n i M
def mSw2 (n i : Nat) (M : zS) : zS := z_it (fun j M => z_uJ (z_uJ M 23 0 j (z_J M 31 0 j)) 31 0 j (z_J M 23 0 j)) n i M
def mSwap (M : zS) : zS := mSw2 88 0 (mSw1 891 0 M)
def mKeepT (M : zS) (v : Int32) : zS := mBring 30 31 0 (mRem (mSwap M) v)
set_option maxRecDepth 100000 in
set_option maxHeartbeats 4000000 in
theorem zl_170b : ∀ (n i : Nat) (M : zS) (o3 o4 : Option zV), i + n = 88 → z_nn (z_I M 6 0 8) 8 → (o3 = none ∨ (∃ x, o3 = some (zi x)) ∨ ∃ p, o3 = some (zl p)) → zW 170 (d + 2) Q 43 [some (zr (some (6, 1, 0))), some (zi v), some (zi (nI i)), o3, o4] [] (z_s m 1 M) 0 = Q none (z_s m 1 (mBring 30 31 0 (mRem (mSw2 n i M) v))) := by
  intro n
  induction n with
  | zero =>
    intro i M o3 o4 hi e _
    have h1 : (88 ≤ nI i) = True := z_le1 (a := 88) (by omega) (by omega)
    have h134 := fun Q => zs_134 (d := d) (m := z_s m 1 M) (v := v) (Q := Q) (by rw [z_g_ss]; exact e)
    have h127 := fun Q => zs_127_30 (d := d + 1) (m := z_s m 1 (mRem M v)) (Q := Q) (q := 0) (by decide)
    have e0 : nI 0 = 0 := rfl
    rw [e0] at h127
    rw [z_g_ss] at h134 h127
    simp only [zq_ss] at h134 h127
    rw [zu_170_43]
    simp only [↓zu_170_81, ↓zx_nil, ↓zx_cons, ↓zp_li, ↓zp_ll, ↓zp_lr, ↓zq_li0, ↓zq_li1, ↓zq_ll0, ↓zq_ll1, ↓zq_lr0, ↓zq_lr1, ↓zk_0, ↓zk_1n, ↓zk_1i, ↓zk_1r, ↓zk_1l, ↓zk_2, zp_okt, ↓zp_okl, zp_sh0, zp_sh1, zp_psn, zp_pss, ↓zp_ri1, ↓zp_ri20, ↓zp_ri21, ↓zp_rl, ↓zp_ra, ↓zp_rv, ↓zp_br, ↓reduceIte, Nat.reduceAdd, Nat.zero_add, Nat.add_zero, Nat.le_refl, Nat.zero_le, ↓zx_iconst, ↓zy_istore_2, ↓zx_iload_2, ↓zx_sipush, ↓zy_ic_ge, ↓zx_aload_0, ↓zyg_6_3, ↓zy_istore_3, ↓zyg_6_12, ↓zx_iload_3, ↓zy_iinc, ↓zx_goto, ↓zx_bipush, ↓zyg_6_4, ↓zy_lstore_3, ↓zkl_0, ↓zkl_1n, ↓zkl_1i, ↓zkl_1r, ↓zkl_1l, ↓zkl_2, ↓zyg_6_13, ↓zx_lload_3, ↓zx_iload_1, ↓zyc_134, ↓zyc_127, ↓zx_ret, ↓zya_21, ↓zya_22, ↓zya_24, ↓zya_26, ↓zya_27, ↓zya_30, ↓zya_32, ↓zya_33, ↓zyb_21, ↓zyb_22, ↓zyb_24, ↓zyb_26, ↓zyb_27, ↓zyb_30, ↓zyb_32, ↓zyb_33, ↓zya_23, ↓zya_25, ↓zya_28, ↓zya_31, ↓zyb_23, ↓zyb_25, ↓zyb_28, ↓zyb_31, z_i10, z_10, z_00, and_self, not_true_eq_false, not_false_eq_true, true_and, and_true, false_and, and_false, true_or, false_or, or_false, or_true, or_self, if_true, if_false, ite_self, ↓zs_72, h1, h134, h127]
    rfl
  | succ n ih =>
    intro i M o3 o4 hi e ho
    have h1 : (88 ≤ nI i) = False := z_le0 (a := 88) (by omega) (by omega)
    rw [zu_170_43]
    have ih := ih (i + 1) (z_uJ (z_uJ M 23 0 i (z_J M 31 0 i)) 31 0 i (z_J M 23 0 i)) (some (zl (z_J M 23 0 i))) none (by omega) e (.inr (.inr ⟨_, rfl⟩))
    show _ = Q none (z_s m 1 (mBring 30 31 0 (mRem (mSw2 n (i + 1) (z_uJ (z_uJ M 23 0 i (z_J M 31 0 i)) 31 0 i (z_J M 23 0 i))) v)))
    rw [← ih]
    simp (disch := omega) only [↓zx_nil, ↓zx_cons, ↓zp_li, ↓zp_ll, ↓zp_lr, ↓zq_li0, ↓zq_li1, ↓zq_ll0, ↓zq_ll1, ↓zq_lr0, ↓zq_lr1, ↓zk_0, ↓zk_1n, ↓zk_1i, ↓zk_1r, ↓zk_1l, ↓zk_2, zp_okt, ↓zp_okl, zp_sh0, zp_sh1, zp_psn, zp_pss, ↓zp_ri1, ↓zp_ri20, ↓zp_ri21, ↓zp_rl, ↓zp_ra, ↓zp_rv, ↓zp_br, ↓reduceIte, Nat.reduceAdd, Nat.zero_add, Nat.add_zero, Nat.le_refl, Nat.zero_le, ↓zx_iconst, ↓zy_istore_2, ↓zx_iload_2, ↓zx_sipush, ↓zy_ic_ge, ↓zx_aload_0, ↓zyg_6_3, ↓zy_istore_3, ↓zyg_6_12, ↓zx_iload_3, ↓zy_iinc, ↓zx_goto, ↓zx_bipush, ↓zyg_6_4, ↓zy_lstore_3, ↓zkl_0, ↓zkl_1n, ↓zkl_1i, ↓zkl_1r, ↓zkl_1l, ↓zkl_2, ↓zyg_6_13, ↓zx_lload_3, ↓zx_iload_1, ↓zyc_134, ↓zyc_127, ↓zx_ret, ↓zya_21, ↓zya_22, ↓zya_24, ↓zya_26, ↓zya_27, ↓zya_30, ↓zya_32, ↓zya_33, ↓zyb_21, ↓zyb_22, ↓zyb_24, ↓zyb_26, ↓zyb_27, ↓zyb_30, ↓zyb_32, ↓zyb_33, ↓zya_23, ↓zya_25, ↓zya_28, ↓zya_31, ↓zyb_23, ↓zyb_25, ↓zyb_28, ↓zyb_31, z_i10, z_10, z_00, and_self, not_true_eq_false, not_false_eq_true, true_and, and_true, false_and, and_false, true_or, false_or, or_false, or_true, or_self, if_true, if_false, ite_self, ↓zs_72, zn_p0, zn_p1, zn_p2, zn_p3, zn_p4, zn_p5, zn_p6, zn_p7, zn_p8, zn_p13, zn_p88, zn_p891, zn_m2, zn_m3, zn_m8, zn_m17, zn_m29, zn_m88, zn_m891, zn_a2, zn_a3, zn_a6, zn_a8, zn_a18, zn_a66, zn_a88, zn_a211, zn_a891, zp_ri2i, nI_add, z_vr, nI_clamp, zn_w0, zn_w1, zn_w2, zn_w3, zn_w4, zn_w5, zn_t0, zn_t1, zn_t2, zn_t3, zn_t4, zn_t5, h1, z_g_ss, zq_ss]
set_option maxRecDepth 100000 in
set_option maxHeartbeats 4000000 in
theorem zl_170a : ∀ (n i : Nat) (M : zS) (o3 : Option zV), i + n = 891 → z_nn (z_I M 6 0 8) 8 → (o3 = none ∨ (∃ x, o3 = some (zi x))) → zW 170 (d + 2) Q 2 [some (zr (some (6, 1, 0))), some (zi v), some (zi (nI i)), o3, none] [] (z_s m 1 M) 0 = Q none (z_s m 1 (mBring 30 31 0 (mRem (mSw2 88 0 (mSw1 n i M)) v))) := by
  intro n
  induction n with
  | zero =>
    intro i M o3 hi e ho
    have h1 : (891 ≤ nI i) = True := z_le1 (a := 891) (by omega) (by omega)
    rw [zu_170_2]
    simp only [↓zu_170_41, ↓zx_nil, ↓zx_cons, ↓zp_li, ↓zp_ll, ↓zp_lr, ↓zq_li0, ↓zq_li1, ↓zq_ll0, ↓zq_ll1, ↓zq_lr0, ↓zq_lr1, ↓zk_0, ↓zk_1n, ↓zk_1i, ↓zk_1r, ↓zk_1l, ↓zk_2, zp_okt, ↓zp_okl, zp_sh0, zp_sh1, zp_psn, zp_pss, ↓zp_ri1, ↓zp_ri20, ↓zp_ri21, ↓zp_rl, ↓zp_ra, ↓zp_rv, ↓zp_br, ↓reduceIte, Nat.reduceAdd, Nat.zero_add, Nat.add_zero, Nat.le_refl, Nat.zero_le, ↓zx_iconst, ↓zy_istore_2, ↓zx_iload_2, ↓zx_sipush, ↓zy_ic_ge, ↓zx_aload_0, ↓zyg_6_3, ↓zy_istore_3, ↓zyg_6_12, ↓zx_iload_3, ↓zy_iinc, ↓zx_goto, ↓zx_bipush, ↓zyg_6_4, ↓zy_lstore_3, ↓zkl_0, ↓zkl_1n, ↓zkl_1i, ↓zkl_1r, ↓zkl_1l, ↓zkl_2, ↓zyg_6_13, ↓zx_lload_3, ↓zx_iload_1, ↓zyc_134, ↓zyc_127, ↓zx_ret, ↓zya_21, ↓zya_22, ↓zya_24, ↓zya_26, ↓zya_27, ↓zya_30, ↓zya_32, ↓zya_33, ↓zyb_21, ↓zyb_22, ↓zyb_24, ↓zyb_26, ↓zyb_27, ↓zyb_30, ↓zyb_32, ↓zyb_33, ↓zya_23, ↓zya_25, ↓zya_28, ↓zya_31, ↓zyb_23, ↓zyb_25, ↓zyb_28, ↓zyb_31, z_i10, z_10, z_00, and_self, not_true_eq_false, not_false_eq_true, true_and, and_true, false_and, and_false, true_or, false_or, or_false, or_true, or_self, if_true, if_false, ite_self, ↓zs_72, h1]
    exact zl_170b 88 0 M o3 none (by omega) e (ho.imp_right .inl)
  | succ n ih =>
    intro i M o3 hi e ho
    have h1 : (891 ≤ nI i) = False := z_le0 (a := 891) (by omega) (by omega)
    rw [zu_170_2]
    have ih := ih (i + 1) (z_uI (z_uI M 22 0 i (z_I M 30 0 i)) 30 0 i (z_I M 22 0 i)) (some (zi (z_I M 22 0 i))) (by omega) (by rw [z_I_o (by decide), z_I_o (by decide)]; exact e) (.inr ⟨_, rfl⟩)
    show _ = Q none (z_s m 1 (mBring 30 31 0 (mRem (mSw2 88 0 (mSw1 n (i + 1) (z_uI (z_uI M 22 0 i (z_I M 30 0 i)) 30 0 i (z_I M 22 0 i)))) v)))
    rw [← ih]
    have e30 : ∀ x : Int32, z_I (z_uI M 22 0 i x) 30 0 i = z_I M 30 0 i := fun x => z_I_o (by decide)
    simp (disch := omega) only [↓zx_nil, ↓zx_cons, ↓zp_li, ↓zp_ll, ↓zp_lr, ↓zq_li0, ↓zq_li1, ↓zq_ll0, ↓zq_ll1, ↓zq_lr0, ↓zq_lr1, ↓zk_0, ↓zk_1n, ↓zk_1i, ↓zk_1r, ↓zk_1l, ↓zk_2, zp_okt, ↓zp_okl, zp_sh0, zp_sh1, zp_psn, zp_pss, ↓zp_ri1, ↓zp_ri20, ↓zp_ri21, ↓zp_rl, ↓zp_ra, ↓zp_rv, ↓zp_br, ↓reduceIte, Nat.reduceAdd, Nat.zero_add, Nat.add_zero, Nat.le_refl, Nat.zero_le, ↓zx_iconst, ↓zy_istore_2, ↓zx_iload_2, ↓zx_sipush, ↓zy_ic_ge, ↓zx_aload_0, ↓zyg_6_3, ↓zy_istore_3, ↓zyg_6_12, ↓zx_iload_3, ↓zy_iinc, ↓zx_goto, ↓zx_bipush, ↓zyg_6_4, ↓zy_lstore_3, ↓zkl_0, ↓zkl_1n, ↓zkl_1i, ↓zkl_1r, ↓zkl_1l, ↓zkl_2, ↓zyg_6_13, ↓zx_lload_3, ↓zx_iload_1, ↓zyc_134, ↓zyc_127, ↓zx_ret, ↓zya_21, ↓zya_22, ↓zya_24, ↓zya_26, ↓zya_27, ↓zya_30, ↓zya_32, ↓zya_33, ↓zyb_21, ↓zyb_22, ↓zyb_24, ↓zyb_26, ↓zyb_27, ↓zyb_30, ↓zyb_32, ↓zyb_33, ↓zya_23, ↓zya_25, ↓zya_28, ↓zya_31, ↓zyb_23, ↓zyb_25, ↓zyb_28, ↓zyb_31, z_i10, z_10, z_00, and_self, not_true_eq_false, not_false_eq_true, true_and, and_true, false_and, and_false, true_or, false_or, or_false, or_true, or_self, if_true, if_false, ite_self, ↓zs_72, zn_p0, zn_p1, zn_p2, zn_p3, zn_p4, zn_p5, zn_p6, zn_p7, zn_p8, zn_p13, zn_p88, zn_p891, zn_m2, zn_m3, zn_m8, zn_m17, zn_m29, zn_m88, zn_m891, zn_a2, zn_a3, zn_a6, zn_a8, zn_a18, zn_a66, zn_a88, zn_a211, zn_a891, zp_ri2i, nI_add, z_vr, nI_clamp, zn_w0, zn_w1, zn_w2, zn_w3, zn_w4, zn_w5, zn_t0, zn_t1, zn_t2, zn_t3, zn_t4, zn_t5, h1, z_g_ss, zq_ss, e30]
set_option maxRecDepth 100000 in
set_option maxHeartbeats 4000000 in
theorem zs_170 (h : z_nn (z_I (z_g m 1) 6 0 8) 8) : z_call (d + 3) 170 [zr (some (6, 1, 0)), zi v] m Q = Q none (z_s m 1 (mKeepT (z_g m 1) v)) := by
  have ha := zl_170a (d := d) (m := m) (v := v) (Q := Q) 891 0 (z_g m 1) none (by omega) h (.inl rfl)
  rw [zq_id] at ha
  simp only [↓zen_170, ↓zu_170_0, ↓zu_170_41, ↓zu_170_81, ↓zx_nil, ↓zx_cons, ↓zp_li, ↓zp_ll, ↓zp_lr, ↓zq_li0, ↓zq_li1, ↓zq_ll0, ↓zq_ll1, ↓zq_lr0, ↓zq_lr1, ↓zk_0, ↓zk_1n, ↓zk_1i, ↓zk_1r, ↓zk_1l, ↓zk_2, zp_okt, ↓zp_okl, zp_sh0, zp_sh1, zp_psn, zp_pss, ↓zp_ri1, ↓zp_ri20, ↓zp_ri21, ↓zp_rl, ↓zp_ra, ↓zp_rv, ↓zp_br, ↓reduceIte, Nat.reduceAdd, Nat.zero_add, Nat.add_zero, Nat.le_refl, Nat.zero_le, ↓zx_iconst, ↓zy_istore_2, ↓zx_iload_2, ↓zx_sipush, ↓zy_ic_ge, ↓zx_aload_0, ↓zyg_6_3, ↓zy_istore_3, ↓zyg_6_12, ↓zx_iload_3, ↓zy_iinc, ↓zx_goto, ↓zx_bipush, ↓zyg_6_4, ↓zy_lstore_3, ↓zkl_0, ↓zkl_1n, ↓zkl_1i, ↓zkl_1r, ↓zkl_1l, ↓zkl_2, ↓zyg_6_13, ↓zx_lload_3, ↓zx_iload_1, ↓zyc_134, ↓zyc_127, ↓zx_ret, ↓zya_21, ↓zya_22, ↓zya_24, ↓zya_26, ↓zya_27, ↓zya_30, ↓zya_32, ↓zya_33, ↓zyb_21, ↓zyb_22, ↓zyb_24, ↓zyb_26, ↓zyb_27, ↓zyb_30, ↓zyb_32, ↓zyb_33, ↓zya_23, ↓zya_25, ↓zya_28, ↓zya_31, ↓zyb_23, ↓zyb_25, ↓zyb_28, ↓zyb_31]
  exact ha
end Mo8
