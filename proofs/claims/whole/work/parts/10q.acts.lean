/-! ===== THE MODEL: acts (2) ===== -/
section Mo17
variable {d r i k g s l t q : Nat} {m : zM} {Q : zQ} {v w a b c e f x y : Int32}
-- 2 guarantor
abbrev mGu1 (M : zS) (v : Int32) : zS := z_uI (mRem (mTh M) 0) 22 0 (6 + 3 * (z_I M 22 0 1).toNatClampNeg) v
def mGu2 (M : zS) (v : Int32) : zS := z_uI (mGu1 M v) 22 0 1 (z_I M 22 0 1 + 1)
theorem mTh_u {M : zS} : z_I (mTh M) 6 0 8 = z_I M 6 0 8 := by rw [z_I_u, if_neg (by decide)]
set_option maxRecDepth 100000 in
set_option maxHeartbeats 4000000 in
theorem zs_133 (hn : z_nn (z_I (z_g m 1) 22 0 1) 4) (hu : z_nn (z_I (z_g m 1) 6 0 8) 8) (hB : ¬ (v < 0 ∨ 9999999 < v) → ¬ z_I (z_g m 1) 22 0 1 = 4 → mBok (mGu2 (z_g m 1) v)) : z_call (d + 7) 133 [zr (some (6, 1, 0)), zi v] m Q = if v < 0 ∨ 9999999 < v then Q (some (zi (-1))) (z_s m 1 (mRefu (mTh (z_g m 1)) (-1))) else if z_I (z_g m 1) 22 0 1 = 4 then Q (some (zi (-5))) (z_s m 1 (mRefu (mTh (z_g m 1)) (-5))) else Q (some (zi (z_I (z_g m 1) 22 0 1))) (z_s m 1 (mActd (mGu2 (z_g m 1) v))) := by
  have e01 : (0 ≤ v.toInt64 ∧ v.toInt64 ≤ 9999999) = ¬ (v < 0 ∨ 9999999 < v) := z_in64 (lo := 0) (hi := 9999999) rfl rfl
  by_cases c1 : v < 0 ∨ 9999999 < v
  · simp only [↓zen_133, ↓zu_133_0, ↓zu_133_23, ↓zu_133_42, ↓zx_nil, ↓zx_cons, ↓zp_li, ↓zp_ll, ↓zp_lr, ↓zq_li0, ↓zq_li1, ↓zq_ll0, ↓zq_ll1, ↓zq_lr0, ↓zq_lr1, ↓zk_0, ↓zk_1n, ↓zk_1i, ↓zk_1r, ↓zk_1l, ↓zk_2, zp_okt, ↓zp_okl, zp_sh0, zp_sh1, zp_psn, zp_pss, ↓zp_ri1, ↓zp_ri20, ↓zp_ri21, ↓zp_rl, ↓zp_ra, ↓zp_rv, ↓zp_br, ↓reduceIte, Nat.reduceAdd, Nat.zero_add, Nat.add_zero, Nat.le_refl, Nat.zero_le, ↓zx_aload_0, ↓zx_iconst, ↓zyp_6_0, ↓zx_iload_1, ↓zy_i2l, ↓zx_lconst0, ↓zx_ldc2, ↓zyc_130, ↓zy_if_ne, ↓zyc_126, ↓zx_iret, ↓zyg_6_3, ↓zy_istore_2, ↓zx_iload_2, ↓zy_ic_ne, ↓zx_bipush, ↓zyc_134, ↓zyc_135, ↓zy_dup2, ↓zy_iadd, ↓zyc_136, ↓zya_21, ↓zya_22, ↓zya_24, ↓zya_26, ↓zya_27, ↓zya_30, ↓zya_32, ↓zya_33, ↓zyb_21, ↓zyb_22, ↓zyb_24, ↓zyb_26, ↓zyb_27, ↓zyb_30, ↓zyb_32, ↓zyb_33, z_i10, z_10, z_00, and_self, not_true_eq_false, not_false_eq_true, true_and, and_true, false_and, and_false, true_or, false_or, or_false, or_true, or_self, if_true, if_false, ite_self, ↓zs_72, ↓zs_130, e01, c1, ↓zs_126a, z_g_ss, zq_ss]
  · have e1 : z_I (z_uI (z_g m 1) 6 0 0 0) 22 0 1 = z_I (z_g m 1) 22 0 1 := mTh_r
    rcases Classical.em (z_I (z_g m 1) 22 0 1 = 4) with c2 | c2
    · have c2 := eq_true c2
      simp only [↓zen_133, ↓zu_133_0, ↓zu_133_23, ↓zu_133_42, ↓zx_nil, ↓zx_cons, ↓zp_li, ↓zp_ll, ↓zp_lr, ↓zq_li0, ↓zq_li1, ↓zq_ll0, ↓zq_ll1, ↓zq_lr0, ↓zq_lr1, ↓zk_0, ↓zk_1n, ↓zk_1i, ↓zk_1r, ↓zk_1l, ↓zk_2, zp_okt, ↓zp_okl, zp_sh0, zp_sh1, zp_psn, zp_pss, ↓zp_ri1, ↓zp_ri20, ↓zp_ri21, ↓zp_rl, ↓zp_ra, ↓zp_rv, ↓zp_br, ↓reduceIte, Nat.reduceAdd, Nat.zero_add, Nat.add_zero, Nat.le_refl, Nat.zero_le, ↓zx_aload_0, ↓zx_iconst, ↓zyp_6_0, ↓zx_iload_1, ↓zy_i2l, ↓zx_lconst0, ↓zx_ldc2, ↓zyc_130, ↓zy_if_ne, ↓zyc_126, ↓zx_iret, ↓zyg_6_3, ↓zy_istore_2, ↓zx_iload_2, ↓zy_ic_ne, ↓zx_bipush, ↓zyc_134, ↓zyc_135, ↓zy_dup2, ↓zy_iadd, ↓zyc_136, ↓zya_21, ↓zya_22, ↓zya_24, ↓zya_26, ↓zya_27, ↓zya_30, ↓zya_32, ↓zya_33, ↓zyb_21, ↓zyb_22, ↓zyb_24, ↓zyb_26, ↓zyb_27, ↓zyb_30, ↓zyb_32, ↓zyb_33, z_i10, z_10, z_00, and_self, not_true_eq_false, not_false_eq_true, true_and, and_true, false_and, and_false, true_or, false_or, or_false, or_true, or_self, if_true, if_false, ite_self, ↓zs_72, zn_p0, zn_p1, zn_p2, zn_p3, zn_p4, zn_p5, zn_p6, zn_p7, zn_p8, zn_p13, zn_p88, zn_p891, zn_m2, zn_m3, zn_m8, zn_m17, zn_m29, zn_m88, zn_m891, zn_a2, zn_a3, zn_a6, zn_a8, zn_a18, zn_a66, zn_a88, zn_a211, zn_a891, zp_ri2i, nI_add, z_vr, nI_clamp, zn_w0, zn_w1, zn_w2, zn_w3, zn_w4, zn_w5, zn_t0, zn_t1, zn_t2, zn_t3, zn_t4, zn_t5, ↓zs_130, e01, c1, e1, c2, ↓zs_126d, z_g_ss, zq_ss]
    · have ht : (z_I (z_g m 1) 22 0 1).toNatClampNeg < 4 := by
        refine Nat.lt_of_le_of_ne hn.2 fun q => c2 ?_
        rw [hn.eq, q]; rfl
      have h134 := fun Q => zs_134 (d := d + 4) (m := z_s m 1 (mTh (z_g m 1))) (v := 0) (Q := Q) (by rw [z_g_ss, mTh_u]; exact hu)
      rw [z_g_ss] at h134
      simp only [zq_ss] at h134
      have h136 := fun x Q => zs_136 (d := d) (m := z_s m 1 (mGu2 (z_g m 1) v)) (v := x) (Q := Q) (by rw [z_g_ss]; exact hB c1 c2)
      rw [z_g_ss] at h136
      simp only [zq_ss] at h136
      have h135 := fun Q => zs_135 (d := d + 5) (m := z_s m 1 (mRem (mTh (z_g m 1)) 0)) (g := (z_I (z_g m 1) 22 0 1).toNatClampNeg) (Q := Q)
      rw [← hn.eq] at h135
      have v1 : vp_in (nI (6 + 3 * (z_I (z_g m 1) 22 0 1).toNatClampNeg)) 891 = True := z_vi1 (by omega) (by decide)
      have v2 := nI_clamp (show 6 + 3 * (z_I (z_g m 1) 22 0 1).toNatClampNeg < 2 ^ 31 by omega)
      have e2 : z_I (mGu1 (z_g m 1) v) 22 0 1 = z_I (z_g m 1) 22 0 1 := by
        rw [zn_un (by omega), mRem_r, mTh_r]
      simp only [↓zen_133, ↓zu_133_0, ↓zu_133_23, ↓zu_133_42, ↓zx_nil, ↓zx_cons, ↓zp_li, ↓zp_ll, ↓zp_lr, ↓zq_li0, ↓zq_li1, ↓zq_ll0, ↓zq_ll1, ↓zq_lr0, ↓zq_lr1, ↓zk_0, ↓zk_1n, ↓zk_1i, ↓zk_1r, ↓zk_1l, ↓zk_2, zp_okt, ↓zp_okl, zp_sh0, zp_sh1, zp_psn, zp_pss, ↓zp_ri1, ↓zp_ri20, ↓zp_ri21, ↓zp_rl, ↓zp_ra, ↓zp_rv, ↓zp_br, ↓reduceIte, Nat.reduceAdd, Nat.zero_add, Nat.add_zero, Nat.le_refl, Nat.zero_le, ↓zx_aload_0, ↓zx_iconst, ↓zyp_6_0, ↓zx_iload_1, ↓zy_i2l, ↓zx_lconst0, ↓zx_ldc2, ↓zyc_130, ↓zy_if_ne, ↓zyc_126, ↓zx_iret, ↓zyg_6_3, ↓zy_istore_2, ↓zx_iload_2, ↓zy_ic_ne, ↓zx_bipush, ↓zyc_134, ↓zyc_135, ↓zy_dup2, ↓zy_iadd, ↓zyc_136, ↓zya_21, ↓zya_22, ↓zya_24, ↓zya_26, ↓zya_27, ↓zya_30, ↓zya_32, ↓zya_33, ↓zyb_21, ↓zyb_22, ↓zyb_24, ↓zyb_26, ↓zyb_27, ↓zyb_30, ↓zyb_32, ↓zyb_33, z_i10, z_10, z_00, and_self, not_true_eq_false, not_false_eq_true, true_and, and_true, false_and, and_false, true_or, false_or, or_false, or_true, or_self, if_true, if_false, ite_self, ↓zs_72, zn_w1, zn_t1, ↓zs_130, e01, c1, e1, c2, h134, h135, v1, v2, z_g_ss, zq_ss, e2]
      exact h136 _ _
end Mo17
