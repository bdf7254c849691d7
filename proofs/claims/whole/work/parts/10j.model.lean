/-! ===== THE MODEL: days, all adjusted ===== -/
section Mo10
variable {d r i k g s l t q : Nat} {m : zM} {Q : zQ} {v w a b c e f x y : Int32}
set_option maxRecDepth 100000 in
set_option maxHeartbeats 4000000 in
theorem zs_177n (h : z_nn (z_I (z_g m 1) 22 0 3) 40) (hi : i < mN (z_g m 1)) : z_call (d + 3) 177 [zr (some (6, 1, 0)), zi (nI i)] m Q = Q (some (zi (if mSt (z_g m 1) i = 1 then 1 else 0))) m := by
  have h2 := h.2
  have hi : i < (z_I (z_g m 1) 22 0 3).toNatClampNeg := hi
  have e1 : (0 ≤ nI i ∧ nI i < z_I (z_g m 1) 22 0 3) = True := eq_true ⟨nI_pos' (by omega), by rw [h.eq]; exact nI_lt hi (by omega)⟩
  have e2 := nI_clamp (show i < 2 ^ 31 by omega)
  have h3 := zs_177 (d := d) (m := m) (Q := Q) (v := nI i) h
  simp only [e1, e2, true_and] at h3
  exact h3
set_option maxRecDepth 100000 in
set_option maxHeartbeats 4000000 in
theorem zl_197 : ∀ (n i : Nat) (M : zS), i + n = mN M → mBok M → zW 197 (d + 5) Q 12 [some (zr (some (6, 1, 0))), some (zi (nI i))] [] (z_s m 1 M) 0 = Q none (z_s m 1 (mTurns (mDaL n i M))) := by
  intro n
  induction n with
  | zero =>
    intro i M hi hB
    have hi : i + 0 = (z_I M 22 0 3).toNatClampNeg := hi
    have hN2 := hB.1.2
    have h1 : (z_I M 22 0 3 ≤ nI i) = True := by rw [hB.1.eq]; exact z_le1 (by omega) (by omega)
    have h137 := fun Q => zs_137 (d := d) (m := z_s m 1 M) (Q := Q) (by rw [z_g_ss]; exact hB)
    rw [z_g_ss] at h137
    simp only [zq_ss] at h137
    rw [zu_197_12]
    simp only [↓zu_197_89, ↓zx_nil, ↓zx_cons, ↓zp_li, ↓zp_ll, ↓zp_lr, ↓zq_li0, ↓zq_li1, ↓zq_ll0, ↓zq_ll1, ↓zq_lr0, ↓zq_lr1, ↓zk_0, ↓zk_1n, ↓zk_1i, ↓zk_1r, ↓zk_1l, ↓zk_2, zp_okt, ↓zp_okl, zp_sh0, zp_sh1, zp_psn, zp_pss, ↓zp_ri1, ↓zp_ri20, ↓zp_ri21, ↓zp_rl, ↓zp_ra, ↓zp_rv, ↓zp_br, ↓reduceIte, Nat.reduceAdd, Nat.zero_add, Nat.add_zero, Nat.le_refl, Nat.zero_le, ↓zx_aload_0, ↓zyg_6_3, ↓zx_iconst, ↓zy_dup2, ↓zy_iadd, ↓zy_istore_1, ↓zx_iload_1, ↓zy_ic_ge, ↓zyc_177, ↓zy_if_eq, ↓zyc_180, ↓zyc_138, ↓zyc_183, ↓zy_dupi, ↓zy_dupr, ↓zyg_6_15, ↓zyp_6_15, ↓zy_iinc, ↓zx_goto, ↓zyc_137, ↓zx_ret, ↓zya_21, ↓zya_22, ↓zya_24, ↓zya_26, ↓zya_27, ↓zya_30, ↓zya_32, ↓zya_33, ↓zyb_21, ↓zyb_22, ↓zyb_24, ↓zyb_26, ↓zyb_27, ↓zyb_30, ↓zyb_32, ↓zyb_33, z_i10, z_10, z_00, and_self, not_true_eq_false, not_false_eq_true, true_and, and_true, false_and, and_false, true_or, false_or, or_false, or_true, or_self, if_true, if_false, ite_self, ↓zs_72, zn_p0, zn_p1, zn_p2, zn_p3, zn_p4, zn_p5, zn_p6, zn_p7, zn_p8, zn_p13, zn_p88, zn_p891, zn_m2, zn_m3, zn_m8, zn_m17, zn_m29, zn_m88, zn_m891, zn_a2, zn_a3, zn_a6, zn_a8, zn_a18, zn_a66, zn_a88, zn_a211, zn_a891, zp_ri2i, nI_add, z_vr, nI_clamp, zn_w0, zn_w1, zn_w2, zn_w3, zn_w4, zn_w5, zn_t0, zn_t1, zn_t2, zn_t3, zn_t4, zn_t5, h1, z_g_ss, h137]
    rfl
  | succ n ih =>
    intro i M hi hB
    have hi : i + (n + 1) = (z_I M 22 0 3).toNatClampNeg := hi
    have hN2 := hB.1.2
    have h1 : (z_I M 22 0 3 ≤ nI i) = False := by rw [hB.1.eq]; exact z_le0 (by omega) (by omega)
    have w := hB.2 i (by omega)
    have hl := w.hl
    have h177 := fun Q => zs_177n (d := d + 2) (m := z_s m 1 M) (i := i) (Q := Q) (by rw [z_g_ss]; exact hB.1) (by rw [z_g_ss]; show i < (z_I M 22 0 3).toNatClampNeg; omega)
    have h180 := fun Q => zs_180 (d := d + 3) (m := z_s m 1 M) (l := i) (Q := Q) hl
    have h183 := fun x y z Q => zs_183 (d := d + 1) (m := z_s m 1 M) (l := i) (s := mFr M i) (x := x) (y := y) (z := z) (Q := Q) (by rw [z_g_ss]; exact w)
    rw [z_g_ss] at h177 h180 h183
    simp only [zq_ss] at h183
    rw [zu_197_12]
    unfold mDaL mOv
    rcases Classical.em (mSt M i = 1) with h2 | h2
    · rcases Classical.em (z_I M 22 0 0 ≤ mLat M i + z_I M 22 0 4) with h3 | h3
      · rw [if_neg fun q => q.2 h3, ← ih (i + 1) M (by show i + 1 + n = (z_I M 22 0 3).toNatClampNeg; omega) hB]
        have h2 := eq_true h2
        simp (disch := omega) only [↓zu_197_83, ↓zx_nil, ↓zx_cons, ↓zp_li, ↓zp_ll, ↓zp_lr, ↓zq_li0, ↓zq_li1, ↓zq_ll0, ↓zq_ll1, ↓zq_lr0, ↓zq_lr1, ↓zk_0, ↓zk_1n, ↓zk_1i, ↓zk_1r, ↓zk_1l, ↓zk_2, zp_okt, ↓zp_okl, zp_sh0, zp_sh1, zp_psn, zp_pss, ↓zp_ri1, ↓zp_ri20, ↓zp_ri21, ↓zp_rl, ↓zp_ra, ↓zp_rv, ↓zp_br, ↓reduceIte, Nat.reduceAdd, Nat.zero_add, Nat.add_zero, Nat.le_refl, Nat.zero_le, ↓zx_aload_0, ↓zyg_6_3, ↓zx_iconst, ↓zy_dup2, ↓zy_iadd, ↓zy_istore_1, ↓zx_iload_1, ↓zy_ic_ge, ↓zyc_177, ↓zy_if_eq, ↓zyc_180, ↓zyc_138, ↓zyc_183, ↓zy_dupi, ↓zy_dupr, ↓zyg_6_15, ↓zyp_6_15, ↓zy_iinc, ↓zx_goto, ↓zyc_137, ↓zx_ret, ↓zya_21, ↓zya_22, ↓zya_24, ↓zya_26, ↓zya_27, ↓zya_30, ↓zya_32, ↓zya_33, ↓zyb_21, ↓zyb_22, ↓zyb_24, ↓zyb_26, ↓zyb_27, ↓zyb_30, ↓zyb_32, ↓zyb_33, z_i10, z_10, z_00, and_self, not_true_eq_false, not_false_eq_true, true_and, and_true, false_and, and_false, true_or, false_or, or_false, or_true, or_self, if_true, if_false, ite_self, ↓zs_72, zn_p0, zn_p1, zn_p2, zn_p3, zn_p4, zn_p5, zn_p6, zn_p7, zn_p8, zn_p13, zn_p88, zn_p891, zn_m2, zn_m3, zn_m8, zn_m17, zn_m29, zn_m88, zn_m891, zn_a2, zn_a3, zn_a6, zn_a8, zn_a18, zn_a66, zn_a88, zn_a211, zn_a891, zp_ri2i, nI_add, z_vr, nI_clamp, zn_w0, zn_w1, zn_w2, zn_w3, zn_w4, zn_w5, zn_t0, zn_t1, zn_t2, zn_t3, zn_t4, zn_t5, h1, h2, h3, h177, h180, z_g_ss]
      · rw [if_pos ⟨h2, h3⟩]
        have h4 : mSk M (z_uI (mDaE M i) 6 0 15 (z_I (mDaE M i) 6 0 15 + 1)) := .tr (.daE w) (.u6 (by decide))
        rw [← ih (i + 1) _ (by show i + 1 + n = (z_I _ 22 0 3).toNatClampNeg; rw [h4.n3]; omega) (h4.bok hB)]
        have h2 := eq_true h2
        simp (disch := omega) only [↓zu_197_83, ↓zx_nil, ↓zx_cons, ↓zp_li, ↓zp_ll, ↓zp_lr, ↓zq_li0, ↓zq_li1, ↓zq_ll0, ↓zq_ll1, ↓zq_lr0, ↓zq_lr1, ↓zk_0, ↓zk_1n, ↓zk_1i, ↓zk_1r, ↓zk_1l, ↓zk_2, zp_okt, ↓zp_okl, zp_sh0, zp_sh1, zp_psn, zp_pss, ↓zp_ri1, ↓zp_ri20, ↓zp_ri21, ↓zp_rl, ↓zp_ra, ↓zp_rv, ↓zp_br, ↓reduceIte, Nat.reduceAdd, Nat.zero_add, Nat.add_zero, Nat.le_refl, Nat.zero_le, ↓zx_aload_0, ↓zyg_6_3, ↓zx_iconst, ↓zy_dup2, ↓zy_iadd, ↓zy_istore_1, ↓zx_iload_1, ↓zy_ic_ge, ↓zyc_177, ↓zy_if_eq, ↓zyc_180, ↓zyc_138, ↓zyc_183, ↓zy_dupi, ↓zy_dupr, ↓zyg_6_15, ↓zyp_6_15, ↓zy_iinc, ↓zx_goto, ↓zyc_137, ↓zx_ret, ↓zya_21, ↓zya_22, ↓zya_24, ↓zya_26, ↓zya_27, ↓zya_30, ↓zya_32, ↓zya_33, ↓zyb_21, ↓zyb_22, ↓zyb_24, ↓zyb_26, ↓zyb_27, ↓zyb_30, ↓zyb_32, ↓zyb_33, z_i10, z_10, z_00, and_self, not_true_eq_false, not_false_eq_true, true_and, and_true, false_and, and_false, true_or, false_or, or_false, or_true, or_self, if_true, if_false, ite_self, ↓zs_72, zn_p0, zn_p1, zn_p2, zn_p3, zn_p4, zn_p5, zn_p6, zn_p7, zn_p8, zn_p13, zn_p88, zn_p891, zn_m2, zn_m3, zn_m8, zn_m17, zn_m29, zn_m88, zn_m891, zn_a2, zn_a3, zn_a6, zn_a8, zn_a18, zn_a66, zn_a88, zn_a211, zn_a891, zp_ri2i, nI_add, z_vr, nI_clamp, zn_w0, zn_w1, zn_w2, zn_w3, zn_w4, zn_w5, zn_t0, zn_t1, zn_t2, zn_t3, zn_t4, zn_t5, ↓zs_138, h1, h2, h3, h177, h180, h183, z_g_ss, zq_ss]
        rfl
    · rw [if_neg fun q => h2 q.1, ← ih (i + 1) M (by show i + 1 + n = (z_I M 22 0 3).toNatClampNeg; omega) hB]
      simp (disch := omega) only [↓zu_197_83, ↓zx_nil, ↓zx_cons, ↓zp_li, ↓zp_ll, ↓zp_lr, ↓zq_li0, ↓zq_li1, ↓zq_ll0, ↓zq_ll1, ↓zq_lr0, ↓zq_lr1, ↓zk_0, ↓zk_1n, ↓zk_1i, ↓zk_1r, ↓zk_1l, ↓zk_2, zp_okt, ↓zp_okl, zp_sh0, zp_sh1, zp_psn, zp_pss, ↓zp_ri1, ↓zp_ri20, ↓zp_ri21, ↓zp_rl, ↓zp_ra, ↓zp_rv, ↓zp_br, ↓reduceIte, Nat.reduceAdd, Nat.zero_add, Nat.add_zero, Nat.le_refl, Nat.zero_le, ↓zx_aload_0, ↓zyg_6_3, ↓zx_iconst, ↓zy_dup2, ↓zy_iadd, ↓zy_istore_1, ↓zx_iload_1, ↓zy_ic_ge, ↓zyc_177, ↓zy_if_eq, ↓zyc_180, ↓zyc_138, ↓zyc_183, ↓zy_dupi, ↓zy_dupr, ↓zyg_6_15, ↓zyp_6_15, ↓zy_iinc, ↓zx_goto, ↓zyc_137, ↓zx_ret, ↓zya_21, ↓zya_22, ↓zya_24, ↓zya_26, ↓zya_27, ↓zya_30, ↓zya_32, ↓zya_33, ↓zyb_21, ↓zyb_22, ↓zyb_24, ↓zyb_26, ↓zyb_27, ↓zyb_30, ↓zyb_32, ↓zyb_33, z_i10, z_10, z_00, and_self, not_true_eq_false, not_false_eq_true, true_and, and_true, false_and, and_false, true_or, false_or, or_false, or_true, or_self, if_true, if_false, ite_self, ↓zs_72, zn_p0, zn_p1, zn_p2, zn_p3, zn_p4, zn_p5, zn_p6, zn_p7, zn_p8, zn_p13, zn_p88, zn_p891, zn_m2, zn_m3, zn_m8, zn_m17, zn_m29, zn_m88, zn_m891, zn_a2, zn_a3, zn_a6, zn_a8, zn_a18, zn_a66, zn_a88, zn_a211, zn_a891, zp_ri2i, nI_add, z_vr, nI_clamp, zn_w0, zn_w1, zn_w2, zn_w3, zn_w4, zn_w5, zn_t0, zn_t1, zn_t2, zn_t3, zn_t4, zn_t5, h1, h2, h177, z_g_ss]
abbrev mDay1 (M : zS) : zS := z_uI M 22 0 0 (z_I M 22 0 0 + 1)
def mDay (M : zS) : zS := mTurns (mDaL (mN M) 0 (mDay1 M))
theorem mSk.day1 {M : zS} : mSk M (mDay1 M) := .up mSki_0
theorem mSk.day {M : zS} (h : mBok M) : mSk M (mDay M) := by
  have h1 := mSk.day1.bok h
  have h2 := mSk.daL (mN M) 0 (mDay1 M) h1 (by show 0 + mN M = (z_I _ 22 0 3).toNatClampNeg; rw [mSk.day1.n3, Nat.zero_add])
  exact .tr .day1 (.tr h2 (.turns (h2.bok h1)))
set_option maxRecDepth 100000 in
set_option maxHeartbeats 4000000 in
theorem zs_197 (h : mBok (z_g m 1)) : z_call (d + 6) 197 [zr (some (6, 1, 0))] m Q = Q none (z_s m 1 (mDay (z_g m 1))) := by
  have ha := zl_197 (d := d) (m := m) (Q := Q) (mN (z_g m 1)) 0 (mDay1 (z_g m 1)) (by show 0 + mN (z_g m 1) = (z_I _ 22 0 3).toNatClampNeg; rw [mSk.day1.n3, Nat.zero_add]) (mSk.day1.bok h)
  simp only [↓zen_197, ↓zu_197_0, ↓zu_197_83, ↓zu_197_89, ↓zx_nil, ↓zx_cons, ↓zp_li, ↓zp_ll, ↓zp_lr, ↓zq_li0, ↓zq_li1, ↓zq_ll0, ↓zq_ll1, ↓zq_lr0, ↓zq_lr1, ↓zk_0, ↓zk_1n, ↓zk_1i, ↓zk_1r, ↓zk_1l, ↓zk_2, zp_okt, ↓zp_okl, zp_sh0, zp_sh1, zp_psn, zp_pss, ↓zp_ri1, ↓zp_ri20, ↓zp_ri21, ↓zp_rl, ↓zp_ra, ↓zp_rv, ↓zp_br, ↓reduceIte, Nat.reduceAdd, Nat.zero_add, Nat.add_zero, Nat.le_refl, Nat.zero_le, ↓zx_aload_0, ↓zyg_6_3, ↓zx_iconst, ↓zy_dup2, ↓zy_iadd, ↓zy_istore_1, ↓zx_iload_1, ↓zy_ic_ge, ↓zyc_177, ↓zy_if_eq, ↓zyc_180, ↓zyc_138, ↓zyc_183, ↓zy_dupi, ↓zy_dupr, ↓zyg_6_15, ↓zyp_6_15, ↓zy_iinc, ↓zx_goto, ↓zyc_137, ↓zx_ret, ↓zya_21, ↓zya_22, ↓zya_24, ↓zya_26, ↓zya_27, ↓zya_30, ↓zya_32, ↓zya_33, ↓zyb_21, ↓zyb_22, ↓zyb_24, ↓zyb_26, ↓zyb_27, ↓zyb_30, ↓zyb_32, ↓zyb_33, z_i10, z_10, z_00, and_self, not_true_eq_false, not_false_eq_true, true_and, and_true, false_and, and_false, true_or, false_or, or_false, or_true, or_self, if_true, if_false, ite_self, ↓zs_72, zn_p0, zn_p1, zn_p2, zn_p3, zn_p4, zn_p5, zn_p6, zn_p7, zn_p8, zn_p13, zn_p88, zn_p891, zn_m2, zn_m3, zn_m8, zn_m17, zn_m29, zn_m88, zn_m891, zn_a2, zn_a3, zn_a6, zn_a8, zn_a18, zn_a66, zn_a88, zn_a211, zn_a891, zp_ri2i, nI_add, z_vr, nI_clamp, zn_w0, zn_w1, zn_w2, zn_w3, zn_w4, zn_w5, zn_t0, zn_t1, zn_t2, zn_t3, zn_t4, zn_t5]
  exact ha
def mDaysG : Nat → zS → zS
  | 0, M => M
  | n + 1, M => mDaysG n (mDay M)
theorem mSk.daysG : ∀ (n : Nat) (M : zS), mBok M → mSk M (mDaysG n M)
  | 0, _, _ => .rf
  | n + 1, M, h => .tr (.day h) (mSk.daysG n _ ((mSk.day h).bok h))
set_option maxRecDepth 100000 in
set_option maxHeartbeats 4000000 in
theorem zl_196 {t : Nat} (ht : t ≤ 90) : ∀ (n i : Nat) (M : zS), i + n = t → mBok M → zW 196 (d + 6) Q 7 [some (zr (some (6, 1, 0))), some (zi (nI t)), some (zi (nI i))] [] (z_s m 1 M) 0 = Q none (z_s m 1 (mDaysG n M)) := by
  intro n
  induction n with
  | zero =>
    intro i M hi hB
    have h1 := z_le1 (show t ≤ i by omega) (by omega)
    rw [zu_196_7]
    simp only [↓zu_196_22, ↓zx_nil, ↓zx_cons, ↓zp_li, ↓zp_ll, ↓zp_lr, ↓zq_li0, ↓zq_li1, ↓zq_ll0, ↓zq_ll1, ↓zq_lr0, ↓zq_lr1, ↓zk_0, ↓zk_1n, ↓zk_1i, ↓zk_1r, ↓zk_1l, ↓zk_2, zp_okt, ↓zp_okl, zp_sh0, zp_sh1, zp_psn, zp_pss, ↓zp_ri1, ↓zp_ri20, ↓zp_ri21, ↓zp_rl, ↓zp_ra, ↓zp_rv, ↓zp_br, ↓reduceIte, Nat.reduceAdd, Nat.zero_add, Nat.add_zero, Nat.le_refl, Nat.zero_le, ↓zx_aload_0, ↓zx_iconst, ↓zyp_6_15, ↓zy_istore_2, ↓zx_iload_2, ↓zx_iload_1, ↓zy_ic_ge, ↓zyc_197, ↓zy_iinc, ↓zx_goto, ↓zx_ret, z_i10, z_10, z_00, and_self, not_true_eq_false, not_false_eq_true, true_and, and_true, false_and, and_false, true_or, false_or, or_false, or_true, or_self, if_true, if_false, ite_self, ↓zs_72, h1]
    rfl
  | succ n ih =>
    intro i M hi hB
    have h1 := z_le0 (show i < t by omega) (by omega)
    have h197 := fun Q => zs_197 (d := d) (m := z_s m 1 M) (Q := Q) (by rw [z_g_ss]; exact hB)
    rw [z_g_ss] at h197
    simp only [zq_ss] at h197
    rw [zu_196_7]
    simp only [↓zx_nil, ↓zx_cons, ↓zp_li, ↓zp_ll, ↓zp_lr, ↓zq_li0, ↓zq_li1, ↓zq_ll0, ↓zq_ll1, ↓zq_lr0, ↓zq_lr1, ↓zk_0, ↓zk_1n, ↓zk_1i, ↓zk_1r, ↓zk_1l, ↓zk_2, zp_okt, ↓zp_okl, zp_sh0, zp_sh1, zp_psn, zp_pss, ↓zp_ri1, ↓zp_ri20, ↓zp_ri21, ↓zp_rl, ↓zp_ra, ↓zp_rv, ↓zp_br, ↓reduceIte, Nat.reduceAdd, Nat.zero_add, Nat.add_zero, Nat.le_refl, Nat.zero_le, ↓zx_aload_0, ↓zx_iconst, ↓zyp_6_15, ↓zy_istore_2, ↓zx_iload_2, ↓zx_iload_1, ↓zy_ic_ge, ↓zyc_197, ↓zy_iinc, ↓zx_goto, ↓zx_ret, z_i10, z_10, z_00, and_self, not_true_eq_false, not_false_eq_true, true_and, and_true, false_and, and_false, true_or, false_or, or_false, or_true, or_self, if_true, if_false, ite_self, ↓zs_72, h1, h197, nI_1]
    exact ih (i + 1) _ (by omega) ((mSk.day hB).bok hB)
def mDays (M : zS) (t : Nat) : zS := mDaysG t (z_uI M 6 0 15 0)
set_option maxRecDepth 100000 in
set_option maxHeartbeats 4000000 in
theorem zs_196 {t : Nat} (ht : t ≤ 90) (h : mBok (z_g m 1)) : z_call (d + 7) 196 [zr (some (6, 1, 0)), zi (nI t)] m Q = Q none (z_s m 1 (mDays (z_g m 1) t)) := by
  have ha := zl_196 (d := d) (m := m) (Q := Q) ht t 0 (z_uI (z_g m 1) 6 0 15 0) (by omega) ((mSk.u6 (by decide)).bok h)
  simp only [↓zen_196, ↓zu_196_0, ↓zu_196_22, ↓zx_nil, ↓zx_cons, ↓zp_li, ↓zp_ll, ↓zp_lr, ↓zq_li0, ↓zq_li1, ↓zq_ll0, ↓zq_ll1, ↓zq_lr0, ↓zq_lr1, ↓zk_0, ↓zk_1n, ↓zk_1i, ↓zk_1r, ↓zk_1l, ↓zk_2, zp_okt, ↓zp_okl, zp_sh0, zp_sh1, zp_psn, zp_pss, ↓zp_ri1, ↓zp_ri20, ↓zp_ri21, ↓zp_rl, ↓zp_ra, ↓zp_rv, ↓zp_br, ↓reduceIte, Nat.reduceAdd, Nat.zero_add, Nat.add_zero, Nat.le_refl, Nat.zero_le, ↓zx_aload_0, ↓zx_iconst, ↓zyp_6_15, ↓zy_istore_2, ↓zx_iload_2, ↓zx_iload_1, ↓zy_ic_ge, ↓zyc_197, ↓zy_iinc, ↓zx_goto, ↓zx_ret, z_i10, z_10, z_00, and_self, not_true_eq_false, not_false_eq_true, true_and, and_true, false_and, and_false, true_or, false_or, or_false, or_true, or_self, if_true, if_false, ite_self, ↓zs_72, zn_p0, zn_p1, zn_p2, zn_p3, zn_p4, zn_p5, zn_p6, zn_p7, zn_p8, zn_p13, zn_p88, zn_p891, zn_m2, zn_m3, zn_m8, zn_m17, zn_m29, zn_m88, zn_m891, zn_a2, zn_a3, zn_a6, zn_a8, zn_a18, zn_a66, zn_a88, zn_a211, zn_a891, zp_ri2i, nI_add, z_vr, nI_clamp, zn_w0, zn_w1, zn_w2, zn_w3, zn_w4, zn_w5, zn_t0, zn_t1, zn_t2, zn_t3, zn_t4, zn_t5]
  exact ha
-- all of a kind adjusted
def mAaG (v : Int32) : Nat → Nat → Bool → zS → Bool × zS
  | 0, _, b, M => (b, M)
  | n + 1, i, b, M => if b = true then (if mSt M i = 1 ∧ z_I M 22 0 (211 + 17 * i + 2) = v then mAaG v n (i + 1) (mAdj M i (mFr M i)).1 (mAdj M i (mFr M i)).2 else mAaG v n (i + 1) true M) else (b, M)
set_option maxRecDepth 100000 in
set_option maxHeartbeats 4000000 in
theorem zl_163 : ∀ (n i : Nat) (b : Bool) (M : zS), i + n = mN M → mBok M → zW 163 (d + 5) Q 4 [some (zr (some (6, 1, 0))), some (zi v), some (zi (bI b)), some (zi (nI i))] [] (z_s m 1 M) 0 = Q (some (zi (bI (mAaG v n i b M).1))) (z_s m 1 (mAaG v n i b M).2) := by
  intro n
  induction n with
  | zero =>
    intro i b M hi hB
    have hi : i + 0 = (z_I M 22 0 3).toNatClampNeg := hi
    have hN2 := hB.1.2
    have h1 : (z_I M 22 0 3 ≤ nI i) = True := by rw [hB.1.eq]; exact z_le1 (by omega) (by omega)
    rw [zu_163_4]
    simp only [↓zu_163_62, ↓zx_nil, ↓zx_cons, ↓zp_li, ↓zp_ll, ↓zp_lr, ↓zq_li0, ↓zq_li1, ↓zq_ll0, ↓zq_ll1, ↓zq_lr0, ↓zq_lr1, ↓zk_0, ↓zk_1n, ↓zk_1i, ↓zk_1r, ↓zk_1l, ↓zk_2, zp_okt, ↓zp_okl, zp_sh0, zp_sh1, zp_psn, zp_pss, ↓zp_ri1, ↓zp_ri20, ↓zp_ri21, ↓zp_rl, ↓zp_ra, ↓zp_rv, ↓zp_br, ↓reduceIte, Nat.reduceAdd, Nat.zero_add, Nat.add_zero, Nat.le_refl, Nat.zero_le, ↓zx_iconst, ↓zy_istore_2, ↓zy_istore_3, ↓zx_iload_3, ↓zx_aload_0, ↓zyg_6_3, ↓zy_ic_ge, ↓zx_iload_2, ↓zy_if_eq, ↓zyc_164, ↓zy_ic_ne, ↓zyc_138, ↓zy_iadd, ↓zx_iload_1, ↓zyc_165, ↓zx_goto, ↓zy_iinc, ↓zx_iret, ↓zya_21, ↓zya_22, ↓zya_24, ↓zya_26, ↓zya_27, ↓zya_30, ↓zya_32, ↓zya_33, z_i10, z_10, z_00, and_self, not_true_eq_false, not_false_eq_true, true_and, and_true, false_and, and_false, true_or, false_or, or_false, or_true, or_self, if_true, if_false, ite_self, ↓zs_72, zn_p0, zn_p1, zn_p2, zn_p3, zn_p4, zn_p5, zn_p6, zn_p7, zn_p8, zn_p13, zn_p88, zn_p891, zn_m2, zn_m3, zn_m8, zn_m17, zn_m29, zn_m88, zn_m891, zn_a2, zn_a3, zn_a6, zn_a8, zn_a18, zn_a66, zn_a88, zn_a211, zn_a891, zp_ri2i, nI_add, z_vr, nI_clamp, zn_w0, zn_w1, zn_w2, zn_w3, zn_w4, zn_w5, zn_t0, zn_t1, zn_t2, zn_t3, zn_t4, zn_t5, h1, z_g_ss]
    rfl
  | succ n ih =>
    intro i b M hi hB
    have hi : i + (n + 1) = (z_I M 22 0 3).toNatClampNeg := hi
    have hN2 := hB.1.2
    have h1 : (z_I M 22 0 3 ≤ nI i) = False := by rw [hB.1.eq]; exact z_le0 (by omega) (by omega)
    have w := hB.2 i (by omega)
    have hl := w.hl
    have h164 := fun Q => zs_164 (d := d + 3) (m := z_s m 1 M) (l := i) (Q := Q) hl
    have h165 := fun Q => zs_165 (d := d) (m := z_s m 1 M) (l := i) (s := mFr M i) (Q := Q) (by rw [z_g_ss]; exact w)
    rw [z_g_ss] at h164 h165
    simp only [zq_ss] at h165
    rw [zu_163_4]
    unfold mAaG
    cases b with
    | false =>
      rw [if_neg (by decide)]
      simp (disch := omega) only [↓zu_163_62, ↓zx_nil, ↓zx_cons, ↓zp_li, ↓zp_ll, ↓zp_lr, ↓zq_li0, ↓zq_li1, ↓zq_ll0, ↓zq_ll1, ↓zq_lr0, ↓zq_lr1, ↓zk_0, ↓zk_1n, ↓zk_1i, ↓zk_1r, ↓zk_1l, ↓zk_2, zp_okt, ↓zp_okl, zp_sh0, zp_sh1, zp_psn, zp_pss, ↓zp_ri1, ↓zp_ri20, ↓zp_ri21, ↓zp_rl, ↓zp_ra, ↓zp_rv, ↓zp_br, ↓reduceIte, Nat.reduceAdd, Nat.zero_add, Nat.add_zero, Nat.le_refl, Nat.zero_le, ↓zx_iconst, ↓zy_istore_2, ↓zy_istore_3, ↓zx_iload_3, ↓zx_aload_0, ↓zyg_6_3, ↓zy_ic_ge, ↓zx_iload_2, ↓zy_if_eq, ↓zyc_164, ↓zy_ic_ne, ↓zyc_138, ↓zy_iadd, ↓zx_iload_1, ↓zyc_165, ↓zx_goto, ↓zy_iinc, ↓zx_iret, ↓zya_21, ↓zya_22, ↓zya_24, ↓zya_26, ↓zya_27, ↓zya_30, ↓zya_32, ↓zya_33, z_i10, z_10, z_00, and_self, not_true_eq_false, not_false_eq_true, true_and, and_true, false_and, and_false, true_or, false_or, or_false, or_true, or_self, if_true, if_false, ite_self, ↓zs_72, zn_p0, zn_p1, zn_p2, zn_p3, zn_p4, zn_p5, zn_p6, zn_p7, zn_p8, zn_p13, zn_p88, zn_p891, zn_m2, zn_m3, zn_m8, zn_m17, zn_m29, zn_m88, zn_m891, zn_a2, zn_a3, zn_a6, zn_a8, zn_a18, zn_a66, zn_a88, zn_a211, zn_a891, zp_ri2i, nI_add, z_vr, nI_clamp, zn_w0, zn_w1, zn_w2, zn_w3, zn_w4, zn_w5, zn_t0, zn_t1, zn_t2, zn_t3, zn_t4, zn_t5, h1, z_g_ss, bI, Bool.false_eq_true]
    | true =>
      rw [if_pos rfl]
      rcases Classical.em (mSt M i = 1) with h2 | h2
      · rcases Classical.em (z_I M 22 0 (211 + 17 * i + 2) = v) with h3 | h3
        · rw [if_pos ⟨h2, h3⟩]
          have h4 := mSk.adj w
          rw [← ih (i + 1) _ _ (by show i + 1 + n = (z_I _ 22 0 3).toNatClampNeg; rw [h4.n3]; omega) (h4.bok hB)]
          have h2 := eq_true h2
          have h3 := eq_true h3
          cases hq : (mAdj M i (mFr M i)).1 with
          | true => simp (disch := omega) only [↓zu_163_50, ↓zu_163_54, ↓zu_163_55, ↓zx_nil, ↓zx_cons, ↓zp_li, ↓zp_ll, ↓zp_lr, ↓zq_li0, ↓zq_li1, ↓zq_ll0, ↓zq_ll1, ↓zq_lr0, ↓zq_lr1, ↓zk_0, ↓zk_1n, ↓zk_1i, ↓zk_1r, ↓zk_1l, ↓zk_2, zp_okt, ↓zp_okl, zp_sh0, zp_sh1, zp_psn, zp_pss, ↓zp_ri1, ↓zp_ri20, ↓zp_ri21, ↓zp_rl, ↓zp_ra, ↓zp_rv, ↓zp_br, ↓reduceIte, Nat.reduceAdd, Nat.zero_add, Nat.add_zero, Nat.le_refl, Nat.zero_le, ↓zx_iconst, ↓zy_istore_2, ↓zy_istore_3, ↓zx_iload_3, ↓zx_aload_0, ↓zyg_6_3, ↓zy_ic_ge, ↓zx_iload_2, ↓zy_if_eq, ↓zyc_164, ↓zy_ic_ne, ↓zyc_138, ↓zy_iadd, ↓zx_iload_1, ↓zyc_165, ↓zx_goto, ↓zy_iinc, ↓zx_iret, ↓zya_21, ↓zya_22, ↓zya_24, ↓zya_26, ↓zya_27, ↓zya_30, ↓zya_32, ↓zya_33, z_i10, z_10, z_00, and_self, not_true_eq_false, not_false_eq_true, true_and, and_true, false_and, and_false, true_or, false_or, or_false, or_true, or_self, if_true, if_false, ite_self, ↓zs_72, zn_p0, zn_p1, zn_p2, zn_p3, zn_p4, zn_p5, zn_p6, zn_p7, zn_p8, zn_p13, zn_p88, zn_p891, zn_m2, zn_m3, zn_m8, zn_m17, zn_m29, zn_m88, zn_m891, zn_a2, zn_a3, zn_a6, zn_a8, zn_a18, zn_a66, zn_a88, zn_a211, zn_a891, zp_ri2i, nI_add, z_vr, nI_clamp, zn_w0, zn_w1, zn_w2, zn_w3, zn_w4, zn_w5, zn_t0, zn_t1, zn_t2, zn_t3, zn_t4, zn_t5, ↓zs_138, h1, h2, h3, h164, h165, z_g_ss, zq_ss, hq, bI, Bool.false_eq_true]
          | false => simp (disch := omega) only [↓zu_163_50, ↓zu_163_54, ↓zu_163_55, ↓zx_nil, ↓zx_cons, ↓zp_li, ↓zp_ll, ↓zp_lr, ↓zq_li0, ↓zq_li1, ↓zq_ll0, ↓zq_ll1, ↓zq_lr0, ↓zq_lr1, ↓zk_0, ↓zk_1n, ↓zk_1i, ↓zk_1r, ↓zk_1l, ↓zk_2, zp_okt, ↓zp_okl, zp_sh0, zp_sh1, zp_psn, zp_pss, ↓zp_ri1, ↓zp_ri20, ↓zp_ri21, ↓zp_rl, ↓zp_ra, ↓zp_rv, ↓zp_br, ↓reduceIte, Nat.reduceAdd, Nat.zero_add, Nat.add_zero, Nat.le_refl, Nat.zero_le, ↓zx_iconst, ↓zy_istore_2, ↓zy_istore_3, ↓zx_iload_3, ↓zx_aload_0, ↓zyg_6_3, ↓zy_ic_ge, ↓zx_iload_2, ↓zy_if_eq, ↓zyc_164, ↓zy_ic_ne, ↓zyc_138, ↓zy_iadd, ↓zx_iload_1, ↓zyc_165, ↓zx_goto, ↓zy_iinc, ↓zx_iret, ↓zya_21, ↓zya_22, ↓zya_24, ↓zya_26, ↓zya_27, ↓zya_30, ↓zya_32, ↓zya_33, z_i10, z_10, z_00, and_self, not_true_eq_false, not_false_eq_true, true_and, and_true, false_and, and_false, true_or, false_or, or_false, or_true, or_self, if_true, if_false, ite_self, ↓zs_72, zn_p0, zn_p1, zn_p2, zn_p3, zn_p4, zn_p5, zn_p6, zn_p7, zn_p8, zn_p13, zn_p88, zn_p891, zn_m2, zn_m3, zn_m8, zn_m17, zn_m29, zn_m88, zn_m891, zn_a2, zn_a3, zn_a6, zn_a8, zn_a18, zn_a66, zn_a88, zn_a211, zn_a891, zp_ri2i, nI_add, z_vr, nI_clamp, zn_w0, zn_w1, zn_w2, zn_w3, zn_w4, zn_w5, zn_t0, zn_t1, zn_t2, zn_t3, zn_t4, zn_t5, ↓zs_138, h1, h2, h3, h164, h165, z_g_ss, zq_ss, hq, bI, Bool.false_eq_true]
        · rw [if_neg fun q => h3 q.2, ← ih (i + 1) true M (by show i + 1 + n = (z_I M 22 0 3).toNatClampNeg; omega) hB]
          have h2 := eq_true h2
          simp (disch := omega) only [↓zu_163_50, ↓zu_163_54, ↓zu_163_55, ↓zx_nil, ↓zx_cons, ↓zp_li, ↓zp_ll, ↓zp_lr, ↓zq_li0, ↓zq_li1, ↓zq_ll0, ↓zq_ll1, ↓zq_lr0, ↓zq_lr1, ↓zk_0, ↓zk_1n, ↓zk_1i, ↓zk_1r, ↓zk_1l, ↓zk_2, zp_okt, ↓zp_okl, zp_sh0, zp_sh1, zp_psn, zp_pss, ↓zp_ri1, ↓zp_ri20, ↓zp_ri21, ↓zp_rl, ↓zp_ra, ↓zp_rv, ↓zp_br, ↓reduceIte, Nat.reduceAdd, Nat.zero_add, Nat.add_zero, Nat.le_refl, Nat.zero_le, ↓zx_iconst, ↓zy_istore_2, ↓zy_istore_3, ↓zx_iload_3, ↓zx_aload_0, ↓zyg_6_3, ↓zy_ic_ge, ↓zx_iload_2, ↓zy_if_eq, ↓zyc_164, ↓zy_ic_ne, ↓zyc_138, ↓zy_iadd, ↓zx_iload_1, ↓zyc_165, ↓zx_goto, ↓zy_iinc, ↓zx_iret, ↓zya_21, ↓zya_22, ↓zya_24, ↓zya_26, ↓zya_27, ↓zya_30, ↓zya_32, ↓zya_33, z_i10, z_10, z_00, and_self, not_true_eq_false, not_false_eq_true, true_and, and_true, false_and, and_false, true_or, false_or, or_false, or_true, or_self, if_true, if_false, ite_self, ↓zs_72, zn_p0, zn_p1, zn_p2, zn_p3, zn_p4, zn_p5, zn_p6, zn_p7, zn_p8, zn_p13, zn_p88, zn_p891, zn_m2, zn_m3, zn_m8, zn_m17, zn_m29, zn_m88, zn_m891, zn_a2, zn_a3, zn_a6, zn_a8, zn_a18, zn_a66, zn_a88, zn_a211, zn_a891, zp_ri2i, nI_add, z_vr, nI_clamp, zn_w0, zn_w1, zn_w2, zn_w3, zn_w4, zn_w5, zn_t0, zn_t1, zn_t2, zn_t3, zn_t4, zn_t5, ↓zs_138, h1, h2, h3, h164, z_g_ss, bI]
      · rw [if_neg fun q => h2 q.1, ← ih (i + 1) true M (by show i + 1 + n = (z_I M 22 0 3).toNatClampNeg; omega) hB]
        simp (disch := omega) only [↓zu_163_50, ↓zu_163_54, ↓zu_163_55, ↓zx_nil, ↓zx_cons, ↓zp_li, ↓zp_ll, ↓zp_lr, ↓zq_li0, ↓zq_li1, ↓zq_ll0, ↓zq_ll1, ↓zq_lr0, ↓zq_lr1, ↓zk_0, ↓zk_1n, ↓zk_1i, ↓zk_1r, ↓zk_1l, ↓zk_2, zp_okt, ↓zp_okl, zp_sh0, zp_sh1, zp_psn, zp_pss, ↓zp_ri1, ↓zp_ri20, ↓zp_ri21, ↓zp_rl, ↓zp_ra, ↓zp_rv, ↓zp_br, ↓reduceIte, Nat.reduceAdd, Nat.zero_add, Nat.add_zero, Nat.le_refl, Nat.zero_le, ↓zx_iconst, ↓zy_istore_2, ↓zy_istore_3, ↓zx_iload_3, ↓zx_aload_0, ↓zyg_6_3, ↓zy_ic_ge, ↓zx_iload_2, ↓zy_if_eq, ↓zyc_164, ↓zy_ic_ne, ↓zyc_138, ↓zy_iadd, ↓zx_iload_1, ↓zyc_165, ↓zx_goto, ↓zy_iinc, ↓zx_iret, ↓zya_21, ↓zya_22, ↓zya_24, ↓zya_26, ↓zya_27, ↓zya_30, ↓zya_32, ↓zya_33, z_i10, z_10, z_00, and_self, not_true_eq_false, not_false_eq_true, true_and, and_true, false_and, and_false, true_or, false_or, or_false, or_true, or_self, if_true, if_false, ite_self, ↓zs_72, zn_p0, zn_p1, zn_p2, zn_p3, zn_p4, zn_p5, zn_p6, zn_p7, zn_p8, zn_p13, zn_p88, zn_p891, zn_m2, zn_m3, zn_m8, zn_m17, zn_m29, zn_m88, zn_m891, zn_a2, zn_a3, zn_a6, zn_a8, zn_a18, zn_a66, zn_a88, zn_a211, zn_a891, zp_ri2i, nI_add, z_vr, nI_clamp, zn_w0, zn_w1, zn_w2, zn_w3, zn_w4, zn_w5, zn_t0, zn_t1, zn_t2, zn_t3, zn_t4, zn_t5, h1, h2, h164, z_g_ss, bI]
def mAll (M : zS) (v : Int32) : Bool × zS := mAaG v (mN M) 0 true M
set_option maxRecDepth 100000 in
set_option maxHeartbeats 4000000 in
theorem zs_163 (h : mBok (z_g m 1)) : z_call (d + 6) 163 [zr (some (6, 1, 0)), zi v] m Q = Q (some (zi (bI (mAll (z_g m 1) v).1))) (z_s m 1 (mAll (z_g m 1) v).2) := by
  have ha := zl_163 (d := d) (m := m) (Q := Q) (v := v) (mN (z_g m 1)) 0 true (z_g m 1) (Nat.zero_add _) h
  rw [zq_id] at ha
  simp only [↓zen_163, ↓zu_163_0, ↓zu_163_50, ↓zu_163_54, ↓zu_163_55, ↓zu_163_62, ↓zx_nil, ↓zx_cons, ↓zp_li, ↓zp_ll, ↓zp_lr, ↓zq_li0, ↓zq_li1, ↓zq_ll0, ↓zq_ll1, ↓zq_lr0, ↓zq_lr1, ↓zk_0, ↓zk_1n, ↓zk_1i, ↓zk_1r, ↓zk_1l, ↓zk_2, zp_okt, ↓zp_okl, zp_sh0, zp_sh1, zp_psn, zp_pss, ↓zp_ri1, ↓zp_ri20, ↓zp_ri21, ↓zp_rl, ↓zp_ra, ↓zp_rv, ↓zp_br, ↓reduceIte, Nat.reduceAdd, Nat.zero_add, Nat.add_zero, Nat.le_refl, Nat.zero_le, ↓zx_iconst, ↓zy_istore_2, ↓zy_istore_3, ↓zx_iload_3, ↓zx_aload_0, ↓zyg_6_3, ↓zy_ic_ge, ↓zx_iload_2, ↓zy_if_eq, ↓zyc_164, ↓zy_ic_ne, ↓zyc_138, ↓zy_iadd, ↓zx_iload_1, ↓zyc_165, ↓zx_goto, ↓zy_iinc, ↓zx_iret, ↓zya_21, ↓zya_22, ↓zya_24, ↓zya_26, ↓zya_27, ↓zya_30, ↓zya_32, ↓zya_33]
  exact ha
end Mo10
