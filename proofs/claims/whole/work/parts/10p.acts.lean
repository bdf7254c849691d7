/-! ===== THE MODEL: acts (1) ===== -/
section Mo16
variable {d r i k g s l t q : Nat} {m : zM} {Q : zQ} {v w a b c e f x y : Int32}
abbrev mTh (M : zS) : zS := z_uI M 6 0 0 0
theorem mTh_r {M : zS} {j : Nat} : z_I (mTh M) 22 0 j = z_I M 22 0 j := z_I_o (by decide)
set_option maxRecDepth 100000 in
set_option maxHeartbeats 4000000 in
theorem zs_126' (h : v = -1 ∨ v = -2 ∨ v = -4 ∨ v = -5) : z_call (d + 1) 126 [zr (some (6, 1, 0)), zi v] m Q = Q (some (zi v)) (z_s m 1 (mRefu (z_g m 1) v)) := zs_126 h
set_option maxRecDepth 100000 in
set_option maxHeartbeats 4000000 in
theorem zs_126a : z_call (d + 1) 126 [zr (some (6, 1, 0)), zi (-1)] m Q = Q (some (zi (-1))) (z_s m 1 (mRefu (z_g m 1) (-1))) := zs_126 (.inl rfl)
set_option maxRecDepth 100000 in
set_option maxHeartbeats 4000000 in
theorem zs_126b : z_call (d + 1) 126 [zr (some (6, 1, 0)), zi (-2)] m Q = Q (some (zi (-2))) (z_s m 1 (mRefu (z_g m 1) (-2))) := zs_126 (.inr (.inl rfl))
set_option maxRecDepth 100000 in
set_option maxHeartbeats 4000000 in
theorem zs_126c : z_call (d + 1) 126 [zr (some (6, 1, 0)), zi (-4)] m Q = Q (some (zi (-4))) (z_s m 1 (mRefu (z_g m 1) (-4))) := zs_126 (.inr (.inr (.inl rfl)))
set_option maxRecDepth 100000 in
set_option maxHeartbeats 4000000 in
theorem zs_126d : z_call (d + 1) 126 [zr (some (6, 1, 0)), zi (-5)] m Q = Q (some (zi (-5))) (z_s m 1 (mRefu (z_g m 1) (-5))) := zs_126 (.inr (.inr (.inr rfl)))
-- 22 image
def mImg (M : zS) (j : Nat) : zS := z_uI (z_uI (mLay 27 28 j (mTh M)) 29 0 j 1) 6 0 1 0
set_option maxRecDepth 100000 in
set_option maxHeartbeats 4000000 in
theorem zs_129 : z_call (d + 2) 129 [zr (some (6, 1, 0)), zi v] m Q = if v < 0 ∨ 1 < v then Q (some (zi (-1))) (z_s m 1 (mRefu (mTh (z_g m 1)) (-1))) else Q (some (zi (z_I (z_g m 1) 22 0 0))) (z_s m 1 (mImg (z_g m 1) v.toNatClampNeg)) := by
  have e01 : (0 ≤ v.toInt64 ∧ v.toInt64 ≤ 1) = ¬ (v < 0 ∨ 1 < v) := z_in64 (lo := 0) (hi := 1) rfl rfl
  by_cases c1 : v < 0 ∨ 1 < v
  · simp only [↓zen_129, ↓zu_129_0, ↓zu_129_21, ↓zx_nil, ↓zx_cons, ↓zp_li, ↓zp_ll, ↓zp_lr, ↓zq_li0, ↓zq_li1, ↓zq_ll0, ↓zq_ll1, ↓zq_lr0, ↓zq_lr1, ↓zk_0, ↓zk_1n, ↓zk_1i, ↓zk_1r, ↓zk_1l, ↓zk_2, zp_okt, ↓zp_okl, zp_sh0, zp_sh1, zp_psn, zp_pss, ↓zp_ri1, ↓zp_ri20, ↓zp_ri21, ↓zp_rl, ↓zp_ra, ↓zp_rv, ↓zp_br, ↓reduceIte, Nat.reduceAdd, Nat.zero_add, Nat.add_zero, Nat.le_refl, Nat.zero_le, ↓zx_aload_0, ↓zx_iconst, ↓zyp_6_0, ↓zx_iload_1, ↓zy_i2l, ↓zx_lconst0, ↓zx_lconst1, ↓zyc_130, ↓zy_if_ne, ↓zyc_126, ↓zx_iret, ↓zyg_6_9, ↓zyg_6_10, ↓zyc_131, ↓zyg_6_11, ↓zyb_29, ↓zyg_6_3, ↓zyc_128, ↓zya_21, ↓zya_22, ↓zya_24, ↓zya_26, ↓zya_27, ↓zya_30, ↓zya_32, ↓zya_33, z_i10, z_10, z_00, and_self, not_true_eq_false, not_false_eq_true, true_and, and_true, false_and, and_false, true_or, false_or, or_false, or_true, or_self, if_true, if_false, ite_self, ↓zs_72, ↓zs_130, e01, c1, ↓zs_126a, z_g_ss, zq_ss]
  · have k1 := z_im c1
    have h0 : (0 : Int32) ≤ v := Int32.not_lt.mp fun q => c1 (.inl q)
    have hq : v.toNatClampNeg < 2 := Nat.lt_of_not_le fun q => k1 (.inr q)
    have h131 := fun Q => zs_131_27 (d := d) (m := z_s m 1 (mTh (z_g m 1))) (Q := Q) (q := v.toNatClampNeg) hq
    rw [← z_nn_eq h0, z_g_ss] at h131
    simp only [zq_ss] at h131
    have e1 : ∀ x : Int32, z_I (z_uI (mLay 27 28 v.toNatClampNeg (mTh (z_g m 1))) 29 0 v.toNatClampNeg x) 22 0 0 = z_I (z_g m 1) 22 0 0 := fun x => by
      rw [z_I_o (by decide), mLay_o (by decide), mTh_r]
    simp only [↓zen_129, ↓zu_129_0, ↓zu_129_21, ↓zx_nil, ↓zx_cons, ↓zp_li, ↓zp_ll, ↓zp_lr, ↓zq_li0, ↓zq_li1, ↓zq_ll0, ↓zq_ll1, ↓zq_lr0, ↓zq_lr1, ↓zk_0, ↓zk_1n, ↓zk_1i, ↓zk_1r, ↓zk_1l, ↓zk_2, zp_okt, ↓zp_okl, zp_sh0, zp_sh1, zp_psn, zp_pss, ↓zp_ri1, ↓zp_ri20, ↓zp_ri21, ↓zp_rl, ↓zp_ra, ↓zp_rv, ↓zp_br, ↓reduceIte, Nat.reduceAdd, Nat.zero_add, Nat.add_zero, Nat.le_refl, Nat.zero_le, ↓zx_aload_0, ↓zx_iconst, ↓zyp_6_0, ↓zx_iload_1, ↓zy_i2l, ↓zx_lconst0, ↓zx_lconst1, ↓zyc_130, ↓zy_if_ne, ↓zyc_126, ↓zx_iret, ↓zyg_6_9, ↓zyg_6_10, ↓zyc_131, ↓zyg_6_11, ↓zyb_29, ↓zyg_6_3, ↓zyc_128, ↓zya_21, ↓zya_22, ↓zya_24, ↓zya_26, ↓zya_27, ↓zya_30, ↓zya_32, ↓zya_33, z_i10, z_10, z_00, and_self, not_true_eq_false, not_false_eq_true, true_and, and_true, false_and, and_false, true_or, false_or, or_false, or_true, or_self, if_true, if_false, ite_self, ↓zs_72, ↓zs_130, e01, c1, h131, eq_true k1, z_g_ss, zq_ss, zn_w0, zn_t0, e1, ↓zs_128]
    rfl
-- 23 back
def mBk (M : zS) (j : Nat) : zS := z_uI (z_uI (mBring 27 28 j (mTh M)) 6 0 8 0) 6 0 1 0
set_option maxRecDepth 100000 in
set_option maxHeartbeats 4000000 in
theorem zs_132 : z_call (d + 2) 132 [zr (some (6, 1, 0)), zi v] m Q = if v < 0 ∨ 1 < v then Q (some (zi (-1))) (z_s m 1 (mRefu (mTh (z_g m 1)) (-1))) else if z_I (z_g m 1) 29 0 v.toNatClampNeg = 0 then Q (some (zi (-4))) (z_s m 1 (mRefu (mTh (z_g m 1)) (-4))) else Q (some (zi (z_I (mBring 27 28 v.toNatClampNeg (mTh (z_g m 1))) 22 0 0))) (z_s m 1 (mBk (z_g m 1) v.toNatClampNeg)) := by
  have e01 : (0 ≤ v.toInt64 ∧ v.toInt64 ≤ 1) = ¬ (v < 0 ∨ 1 < v) := z_in64 (lo := 0) (hi := 1) rfl rfl
  by_cases c1 : v < 0 ∨ 1 < v
  · simp only [↓zen_132, ↓zu_132_0, ↓zu_132_21, ↓zu_132_37, ↓zx_nil, ↓zx_cons, ↓zp_li, ↓zp_ll, ↓zp_lr, ↓zq_li0, ↓zq_li1, ↓zq_ll0, ↓zq_ll1, ↓zq_lr0, ↓zq_lr1, ↓zk_0, ↓zk_1n, ↓zk_1i, ↓zk_1r, ↓zk_1l, ↓zk_2, zp_okt, ↓zp_okl, zp_sh0, zp_sh1, zp_psn, zp_pss, ↓zp_ri1, ↓zp_ri20, ↓zp_ri21, ↓zp_rl, ↓zp_ra, ↓zp_rv, ↓zp_br, ↓reduceIte, Nat.reduceAdd, Nat.zero_add, Nat.add_zero, Nat.le_refl, Nat.zero_le, ↓zx_aload_0, ↓zx_iconst, ↓zyp_6_0, ↓zx_iload_1, ↓zy_i2l, ↓zx_lconst0, ↓zx_lconst1, ↓zyc_130, ↓zy_if_ne, ↓zyc_126, ↓zx_iret, ↓zyg_6_11, ↓zya_29, ↓zx_bipush, ↓zyg_6_9, ↓zyg_6_10, ↓zyc_127, ↓zyp_6_8, ↓zyg_6_3, ↓zyc_128, ↓zya_21, ↓zya_22, ↓zya_24, ↓zya_26, ↓zya_27, ↓zya_30, ↓zya_32, ↓zya_33, z_i10, z_10, z_00, and_self, not_true_eq_false, not_false_eq_true, true_and, and_true, false_and, and_false, true_or, false_or, or_false, or_true, or_self, if_true, if_false, ite_self, ↓zs_72, ↓zs_130, e01, c1, ↓zs_126a, z_g_ss, zq_ss]
  · have k1 := z_im c1
    have h0 : (0 : Int32) ≤ v := Int32.not_lt.mp fun q => c1 (.inl q)
    have hq : v.toNatClampNeg < 2 := Nat.lt_of_not_le fun q => k1 (.inr q)
    have e2 : z_I (z_uI (z_g m 1) 6 0 0 0) 29 0 v.toNatClampNeg = z_I (z_g m 1) 29 0 v.toNatClampNeg := z_I_o (by decide)
    rcases Classical.em (z_I (z_g m 1) 29 0 v.toNatClampNeg = 0) with c2 | c2
    · have c2 := eq_true c2
      simp only [↓zen_132, ↓zu_132_0, ↓zu_132_21, ↓zu_132_37, ↓zx_nil, ↓zx_cons, ↓zp_li, ↓zp_ll, ↓zp_lr, ↓zq_li0, ↓zq_li1, ↓zq_ll0, ↓zq_ll1, ↓zq_lr0, ↓zq_lr1, ↓zk_0, ↓zk_1n, ↓zk_1i, ↓zk_1r, ↓zk_1l, ↓zk_2, zp_okt, ↓zp_okl, zp_sh0, zp_sh1, zp_psn, zp_pss, ↓zp_ri1, ↓zp_ri20, ↓zp_ri21, ↓zp_rl, ↓zp_ra, ↓zp_rv, ↓zp_br, ↓reduceIte, Nat.reduceAdd, Nat.zero_add, Nat.add_zero, Nat.le_refl, Nat.zero_le, ↓zx_aload_0, ↓zx_iconst, ↓zyp_6_0, ↓zx_iload_1, ↓zy_i2l, ↓zx_lconst0, ↓zx_lconst1, ↓zyc_130, ↓zy_if_ne, ↓zyc_126, ↓zx_iret, ↓zyg_6_11, ↓zya_29, ↓zx_bipush, ↓zyg_6_9, ↓zyg_6_10, ↓zyc_127, ↓zyp_6_8, ↓zyg_6_3, ↓zyc_128, ↓zya_21, ↓zya_22, ↓zya_24, ↓zya_26, ↓zya_27, ↓zya_30, ↓zya_32, ↓zya_33, z_i10, z_10, z_00, and_self, not_true_eq_false, not_false_eq_true, true_and, and_true, false_and, and_false, true_or, false_or, or_false, or_true, or_self, if_true, if_false, ite_self, ↓zs_72, ↓zs_130, e01, c1, eq_true k1, e2, c2, ↓zs_126c, z_g_ss, zq_ss]
    · have h127 := fun Q => zs_127_27 (d := d) (m := z_s m 1 (mTh (z_g m 1))) (Q := Q) (q := v.toNatClampNeg) hq
      rw [← z_nn_eq h0, z_g_ss] at h127
      simp only [zq_ss] at h127
      have e1 : ∀ (M : zS) (x : Int32), z_I (z_uI M 6 0 8 x) 22 0 0 = z_I M 22 0 0 := fun M x => z_I_o (by decide)
      simp only [↓zen_132, ↓zu_132_0, ↓zu_132_21, ↓zu_132_37, ↓zx_nil, ↓zx_cons, ↓zp_li, ↓zp_ll, ↓zp_lr, ↓zq_li0, ↓zq_li1, ↓zq_ll0, ↓zq_ll1, ↓zq_lr0, ↓zq_lr1, ↓zk_0, ↓zk_1n, ↓zk_1i, ↓zk_1r, ↓zk_1l, ↓zk_2, zp_okt, ↓zp_okl, zp_sh0, zp_sh1, zp_psn, zp_pss, ↓zp_ri1, ↓zp_ri20, ↓zp_ri21, ↓zp_rl, ↓zp_ra, ↓zp_rv, ↓zp_br, ↓reduceIte, Nat.reduceAdd, Nat.zero_add, Nat.add_zero, Nat.le_refl, Nat.zero_le, ↓zx_aload_0, ↓zx_iconst, ↓zyp_6_0, ↓zx_iload_1, ↓zy_i2l, ↓zx_lconst0, ↓zx_lconst1, ↓zyc_130, ↓zy_if_ne, ↓zyc_126, ↓zx_iret, ↓zyg_6_11, ↓zya_29, ↓zx_bipush, ↓zyg_6_9, ↓zyg_6_10, ↓zyc_127, ↓zyp_6_8, ↓zyg_6_3, ↓zyc_128, ↓zya_21, ↓zya_22, ↓zya_24, ↓zya_26, ↓zya_27, ↓zya_30, ↓zya_32, ↓zya_33, z_i10, z_10, z_00, and_self, not_true_eq_false, not_false_eq_true, true_and, and_true, false_and, and_false, true_or, false_or, or_false, or_true, or_self, if_true, if_false, ite_self, ↓zs_72, ↓zs_130, e01, c1, eq_true k1, e2, c2, h127, z_g_ss, zq_ss, zn_w0, zn_t0, e1, ↓zs_128]
      rfl
-- 21 undo
abbrev mUn1 (M : zS) : zS := z_uI (mTh M) 6 0 8 (nI (mNu M - 1))
def mUn (M : zS) : zS := z_uI (mBring 24 25 (mNu M - 1) (mUn1 M)) 6 0 1 0
set_option maxRecDepth 100000 in
set_option maxHeartbeats 4000000 in
theorem zs_125 (h : z_nn (z_I (z_g m 1) 6 0 8) 8) : z_call (d + 2) 125 [zr (some (6, 1, 0))] m Q = if z_I (z_g m 1) 6 0 8 = 0 then Q (some (zi (-4))) (z_s m 1 (mRefu (mTh (z_g m 1)) (-4))) else Q (some (zi (z_I (z_g m 1) 26 0 (mNu (z_g m 1) - 1)))) (z_s m 1 (mUn (z_g m 1))) := by
  have e2 : z_I (z_uI (z_g m 1) 6 0 0 0) 6 0 8 = z_I (z_g m 1) 6 0 8 := by rw [z_I_u, if_neg (by decide)]
  rcases Classical.em (z_I (z_g m 1) 6 0 8 = 0) with c2 | c2
  · have c2 := eq_true c2
    simp only [↓zen_125, ↓zu_125_0, ↓zu_125_19, ↓zx_nil, ↓zx_cons, ↓zp_li, ↓zp_ll, ↓zp_lr, ↓zq_li0, ↓zq_li1, ↓zq_ll0, ↓zq_ll1, ↓zq_lr0, ↓zq_lr1, ↓zk_0, ↓zk_1n, ↓zk_1i, ↓zk_1r, ↓zk_1l, ↓zk_2, zp_okt, ↓zp_okl, zp_sh0, zp_sh1, zp_psn, zp_pss, ↓zp_ri1, ↓zp_ri20, ↓zp_ri21, ↓zp_rl, ↓zp_ra, ↓zp_rv, ↓zp_br, ↓reduceIte, Nat.reduceAdd, Nat.zero_add, Nat.add_zero, Nat.le_refl, Nat.zero_le, ↓zx_aload_0, ↓zx_iconst, ↓zyp_6_0, ↓zyg_6_8, ↓zy_if_ne, ↓zx_bipush, ↓zyc_126, ↓zx_iret, ↓zy_dupi, ↓zy_dupr, ↓zy_isub, ↓zyp_6_8, ↓zyg_6_5, ↓zyg_6_6, ↓zyc_127, ↓zyg_6_7, ↓zyc_128, ↓zya_21, ↓zya_22, ↓zya_24, ↓zya_26, ↓zya_27, ↓zya_30, ↓zya_32, ↓zya_33, z_i10, z_10, z_00, and_self, not_true_eq_false, not_false_eq_true, true_and, and_true, false_and, and_false, true_or, false_or, or_false, or_true, or_self, if_true, if_false, ite_self, ↓zs_72, e2, c2, ↓zs_126c, z_g_ss, zq_ss]
  · have e6 : z_I (z_g m 1) 6 0 8 = nI (mNu (z_g m 1)) := h.eq
    have b6 : mNu (z_g m 1) ≤ 8 := h.2
    have b7 : 0 < mNu (z_g m 1) := by
      rcases Nat.eq_zero_or_pos (mNu (z_g m 1)) with q | q
      · exact absurd (by rw [e6, q]; rfl) c2
      · exact q
    have hm1 : z_I (z_g m 1) 6 0 8 - 1 = nI (mNu (z_g m 1) - 1) := by
      obtain ⟨q, e⟩ := Nat.exists_eq_add_of_le' b7
      rw [e6, e]; exact nI_pred q
    have h127 := fun Q => zs_127_24 (d := d) (m := z_s m 1 (mUn1 (z_g m 1))) (Q := Q) (q := mNu (z_g m 1) - 1) (by omega)
    rw [z_g_ss] at h127
    simp only [zq_ss] at h127
    have e3 : z_I (mUn1 (z_g m 1)) 6 0 8 = nI (mNu (z_g m 1) - 1) := by rw [z_I_u, if_pos ⟨rfl, rfl, rfl⟩]
    have e4 : z_I (mBring 24 25 (mNu (z_g m 1) - 1) (mUn1 (z_g m 1))) 6 0 8 = nI (mNu (z_g m 1) - 1) := (mBring_o (by decide)).trans e3
    have e5 : z_I (mBring 24 25 (mNu (z_g m 1) - 1) (mUn1 (z_g m 1))) 26 0 (mNu (z_g m 1) - 1) = z_I (z_g m 1) 26 0 (mNu (z_g m 1) - 1) := by
      rw [mBring_o (by decide), z_I_o (by decide), z_I_o (by decide)]
    have v1 := z_vi1 (show mNu (z_g m 1) - 1 < 8 by omega) (by decide)
    have v2 := nI_clamp (show mNu (z_g m 1) - 1 < 2 ^ 31 by omega)
    simp only [↓zen_125, ↓zu_125_0, ↓zu_125_19, ↓zx_nil, ↓zx_cons, ↓zp_li, ↓zp_ll, ↓zp_lr, ↓zq_li0, ↓zq_li1, ↓zq_ll0, ↓zq_ll1, ↓zq_lr0, ↓zq_lr1, ↓zk_0, ↓zk_1n, ↓zk_1i, ↓zk_1r, ↓zk_1l, ↓zk_2, zp_okt, ↓zp_okl, zp_sh0, zp_sh1, zp_psn, zp_pss, ↓zp_ri1, ↓zp_ri20, ↓zp_ri21, ↓zp_rl, ↓zp_ra, ↓zp_rv, ↓zp_br, ↓reduceIte, Nat.reduceAdd, Nat.zero_add, Nat.add_zero, Nat.le_refl, Nat.zero_le, ↓zx_aload_0, ↓zx_iconst, ↓zyp_6_0, ↓zyg_6_8, ↓zy_if_ne, ↓zx_bipush, ↓zyc_126, ↓zx_iret, ↓zy_dupi, ↓zy_dupr, ↓zy_isub, ↓zyp_6_8, ↓zyg_6_5, ↓zyg_6_6, ↓zyc_127, ↓zyg_6_7, ↓zyc_128, ↓zya_21, ↓zya_22, ↓zya_24, ↓zya_26, ↓zya_27, ↓zya_30, ↓zya_32, ↓zya_33, z_i10, z_10, z_00, and_self, not_true_eq_false, not_false_eq_true, true_and, and_true, false_and, and_false, true_or, false_or, or_false, or_true, or_self, if_true, if_false, ite_self, ↓zs_72, e2, c2, hm1, z_g_ss, zq_ss, e3, h127, e4, e5, v1, v2, ↓zs_128]
    rfl
end Mo16
