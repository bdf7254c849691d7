/-! ===== THE MODEL: releasing, becoming due ===== -/
section Mo5
variable {d r i k g s l t n2 : Nat} {m : zM} {Q : zQ} {v w a b c e f x y : Int32}
def mLok (M : zS) : Prop := ∀ k, k < 4 → ∃ g, g < 4 ∧ z_I M 32 0 k = nI g
theorem mLine_ok {M : zS} (h : mOok M s) : mLok (mLine M s) := fun k hk => by
  rw [mLine_k h hk]
  exact oLine_g h hk
theorem mLok.u {M : zS} {j : Nat} (h : mLok M) : mLok (z_uI M 22 0 j v) := fun k hk => by
  rw [zn_u32]
  exact h k hk
abbrev mG (M : zS) (k : Nat) : Nat := (z_I M 32 0 k).toNatClampNeg
abbrev mIts (l k : Nat) (p : Int32 × zS) : Int32 := mMin p.1 (z_I p.2 22 0 (211 + 17 * l + 13 + mG p.2 k))
abbrev mTak (l k : Nat) (p : Int32 × zS) : zS := z_uI p.2 22 0 (211 + 17 * l + 13 + mG p.2 k) (z_I p.2 22 0 (211 + 17 * l + 13 + mG p.2 k) - mIts l k p)
def mReS (l : Nat) (o : Option Nat) (k : Nat) (p : Int32 × zS) : Int32 × zS :=
  (p.1 - mIts l k p, match o with
    | none => z_uI (mTak l k p) 22 0 (6 + 3 * mG p.2 k + 1) (z_I (mTak l k p) 22 0 (6 + 3 * mG p.2 k + 1) - mIts l k p)
    | some n => z_uI (mTak l k p) 22 0 (211 + 17 * n + 13 + mG p.2 k) (z_I (mTak l k p) 22 0 (211 + 17 * n + 13 + mG p.2 k) + mIts l k p))
theorem mReS_ok {o : Option Nat} {p : Int32 × zS} (h : mLok p.2) : mLok (mReS l o k p).2 := by
  cases o with
  | none => exact h.u.u
  | some n => exact h.u.u
def mReG (l : Nat) (o : Option Nat) : Nat → Int32 × zS → Int32 × zS
  | 0, p => p
  | n + 1, p => mReG l o n (mReS l o n p)
def mSum1 (M : zS) (l : Nat) (a : Int32) : zS := z_uJ M 23 0 (8 + 2 * l + 1) (z_J M 23 0 (8 + 2 * l + 1) + a.toInt64)
def mRel (M : zS) (l s : Nat) (o : Option Nat) (a : Int32) : zS := mSum1 (mReG l o 4 (a, mLine M s)).2 l a
def oI (o : Option Nat) : Int32 := match o with
  | none => -1
  | some n => nI n
theorem zn_pm {n : Nat} : nI n + -1 = nI n - 1 := by
  rw [Int32.sub_eq_add_neg]
set_option maxRecDepth 100000 in
set_option maxHeartbeats 4000000 in
theorem zl_167 {o : Option Nat} (hl : l < 40) (ho : ∀ n, o = some n → n < 40) : ∀ (n : Nat) (p : Int32 × zS) (o6 o7 : Option zV), n ≤ 4 → mLok p.2 → zW 167 (d + 2) Q 11 [some (zr (some (6, 1, 0))), some (zi (nI l)), some (zi a), some (zi (oI o)), some (zi p.1), some (zi (nI n - 1)), o6, o7] [] (z_s m 1 p.2) 0 = Q none (z_s m 1 (mSum1 (mReG l o n p).2 l a)) := by
  intro n
  induction n with
  | zero =>
    intro p o6 o7 hn hp
    have h1 : ((nI 0 - 1 : Int32) < 0) = True := eq_true (by decide)
    rw [zu_167_11]
    simp (disch := omega) only [↓zu_167_125, ↓zx_nil, ↓zx_cons, ↓zp_li, ↓zp_ll, ↓zp_lr, ↓zq_li0, ↓zq_li1, ↓zq_ll0, ↓zq_ll1, ↓zq_lr0, ↓zq_lr1, ↓zk_0, ↓zk_1n, ↓zk_1i, ↓zk_1r, ↓zk_1l, ↓zk_2, zp_okt, ↓zp_okl, zp_sh0, zp_sh1, zp_psn, zp_pss, ↓zp_ri1, ↓zp_ri20, ↓zp_ri21, ↓zp_rl, ↓zp_ra, ↓zp_rv, ↓zp_br, ↓reduceIte, Nat.reduceAdd, Nat.zero_add, Nat.add_zero, Nat.le_refl, Nat.zero_le, ↓zx_aload_0, ↓zx_iload_1, ↓zyc_168, ↓zx_iload_2, ↓zy_istore, ↓zx_iconst, ↓zx_iload, ↓zy_if_lt, ↓zyg_6_14, ↓zyg_6_3, ↓zyc_138, ↓zx_bipush, ↓zy_iadd, ↓zyc_149, ↓zy_dup2, ↓zy_isub, ↓zx_iload_3, ↓zy_ic_ne, ↓zyc_135, ↓zx_goto, ↓zy_iinc, ↓zyg_6_4, ↓zy_imul, ↓zy_i2l, ↓zy_ladd, ↓zx_ret, ↓zya_21, ↓zya_22, ↓zya_24, ↓zya_26, ↓zya_27, ↓zya_30, ↓zya_32, ↓zya_33, ↓zyb_21, ↓zyb_22, ↓zyb_24, ↓zyb_26, ↓zyb_27, ↓zyb_30, ↓zyb_32, ↓zyb_33, ↓zya_23, ↓zya_25, ↓zya_28, ↓zya_31, ↓zyb_23, ↓zyb_25, ↓zyb_28, ↓zyb_31, z_i10, z_10, z_00, and_self, not_true_eq_false, not_false_eq_true, true_and, and_true, false_and, and_false, true_or, false_or, or_false, or_true, or_self, if_true, if_false, ite_self, ↓zs_72, zn_p0, zn_p1, zn_p2, zn_p3, zn_p4, zn_p5, zn_p6, zn_p7, zn_p8, zn_p13, zn_p88, zn_p891, zn_m2, zn_m3, zn_m8, zn_m17, zn_m29, zn_m88, zn_m891, zn_a2, zn_a3, zn_a6, zn_a8, zn_a18, zn_a66, zn_a88, zn_a211, zn_a891, zp_ri2i, nI_add, z_vr, nI_clamp, zn_w0, zn_w1, zn_w2, zn_w3, zn_w4, zn_w5, zn_t0, zn_t1, zn_t2, zn_t3, zn_t4, zn_t5, h1, z_g_ss, zq_ss]
    rfl
  | succ n ih =>
    intro p o6 o7 hn hp
    obtain ⟨g, hg, h4⟩ := hp n (by omega)
    have h1 : (nI n < 0) = False := eq_false (nI_pos (by omega))
    have hgc : (nI g).toNatClampNeg = g := nI_clamp (by omega)
    have ih := ih (mReS l o n p) (some (zi (nI g))) (some (zi (mIts l n p))) (by omega) (mReS_ok hp)
    rw [zu_167_11]
    show _ = Q none (z_s m 1 (mSum1 (mReG l o n (mReS l o n p)).2 l a))
    rw [← ih, nI_pred]
    cases o with
    | none =>
      simp (maxSteps := 2000000) (disch := omega) only [↓zu_167_92, ↓zu_167_112, ↓zx_nil, ↓zx_cons, ↓zp_li, ↓zp_ll, ↓zp_lr, ↓zq_li0, ↓zq_li1, ↓zq_ll0, ↓zq_ll1, ↓zq_lr0, ↓zq_lr1, ↓zk_0, ↓zk_1n, ↓zk_1i, ↓zk_1r, ↓zk_1l, ↓zk_2, zp_okt, ↓zp_okl, zp_sh0, zp_sh1, zp_psn, zp_pss, ↓zp_ri1, ↓zp_ri20, ↓zp_ri21, ↓zp_rl, ↓zp_ra, ↓zp_rv, ↓zp_br, ↓reduceIte, Nat.reduceAdd, Nat.zero_add, Nat.add_zero, Nat.le_refl, Nat.zero_le, ↓zx_aload_0, ↓zx_iload_1, ↓zyc_168, ↓zx_iload_2, ↓zy_istore, ↓zx_iconst, ↓zx_iload, ↓zy_if_lt, ↓zyg_6_14, ↓zyg_6_3, ↓zyc_138, ↓zx_bipush, ↓zy_iadd, ↓zyc_149, ↓zy_dup2, ↓zy_isub, ↓zx_iload_3, ↓zy_ic_ne, ↓zyc_135, ↓zx_goto, ↓zy_iinc, ↓zyg_6_4, ↓zy_imul, ↓zy_i2l, ↓zy_ladd, ↓zx_ret, ↓zya_21, ↓zya_22, ↓zya_24, ↓zya_26, ↓zya_27, ↓zya_30, ↓zya_32, ↓zya_33, ↓zyb_21, ↓zyb_22, ↓zyb_24, ↓zyb_26, ↓zyb_27, ↓zyb_30, ↓zyb_32, ↓zyb_33, ↓zya_23, ↓zya_25, ↓zya_28, ↓zya_31, ↓zyb_23, ↓zyb_25, ↓zyb_28, ↓zyb_31, z_i10, z_10, z_00, and_self, not_true_eq_false, not_false_eq_true, true_and, and_true, false_and, and_false, true_or, false_or, or_false, or_true, or_self, if_true, if_false, ite_self, ↓zs_72, ↓zs_138, ↓zs_149, ↓zs_135, zn_p0, zn_p1, zn_p2, zn_p3, zn_p4, zn_p5, zn_p6, zn_p7, zn_p8, zn_p13, zn_p88, zn_p891, zn_m2, zn_m3, zn_m8, zn_m17, zn_m29, zn_m88, zn_m891, zn_a2, zn_a3, zn_a6, zn_a8, zn_a18, zn_a66, zn_a88, zn_a211, zn_a891, zp_ri2i, nI_add, z_vr, nI_clamp, zn_w0, zn_w1, zn_w2, zn_w3, zn_w4, zn_w5, zn_t0, zn_t1, zn_t2, zn_t3, zn_t4, zn_t5, h1, h4, z_g_ss, zq_ss, oI, mReS, mTak, mIts, mG, zn_pm]
    | some n2 =>
      have hn2 := ho n2 rfl
      have h5 : (nI n2 = -1) = False := eq_false fun q => by
        have : nI n2 < 0 := by rw [q]; decide
        exact nI_pos (by omega) this
      simp (maxSteps := 2000000) (disch := omega) only [↓zu_167_92, ↓zu_167_112, ↓zx_nil, ↓zx_cons, ↓zp_li, ↓zp_ll, ↓zp_lr, ↓zq_li0, ↓zq_li1, ↓zq_ll0, ↓zq_ll1, ↓zq_lr0, ↓zq_lr1, ↓zk_0, ↓zk_1n, ↓zk_1i, ↓zk_1r, ↓zk_1l, ↓zk_2, zp_okt, ↓zp_okl, zp_sh0, zp_sh1, zp_psn, zp_pss, ↓zp_ri1, ↓zp_ri20, ↓zp_ri21, ↓zp_rl, ↓zp_ra, ↓zp_rv, ↓zp_br, ↓reduceIte, Nat.reduceAdd, Nat.zero_add, Nat.add_zero, Nat.le_refl, Nat.zero_le, ↓zx_aload_0, ↓zx_iload_1, ↓zyc_168, ↓zx_iload_2, ↓zy_istore, ↓zx_iconst, ↓zx_iload, ↓zy_if_lt, ↓zyg_6_14, ↓zyg_6_3, ↓zyc_138, ↓zx_bipush, ↓zy_iadd, ↓zyc_149, ↓zy_dup2, ↓zy_isub, ↓zx_iload_3, ↓zy_ic_ne, ↓zyc_135, ↓zx_goto, ↓zy_iinc, ↓zyg_6_4, ↓zy_imul, ↓zy_i2l, ↓zy_ladd, ↓zx_ret, ↓zya_21, ↓zya_22, ↓zya_24, ↓zya_26, ↓zya_27, ↓zya_30, ↓zya_32, ↓zya_33, ↓zyb_21, ↓zyb_22, ↓zyb_24, ↓zyb_26, ↓zyb_27, ↓zyb_30, ↓zyb_32, ↓zyb_33, ↓zya_23, ↓zya_25, ↓zya_28, ↓zya_31, ↓zyb_23, ↓zyb_25, ↓zyb_28, ↓zyb_31, z_i10, z_10, z_00, and_self, not_true_eq_false, not_false_eq_true, true_and, and_true, false_and, and_false, true_or, false_or, or_false, or_true, or_self, if_true, if_false, ite_self, ↓zs_72, ↓zs_138, ↓zs_149, ↓zs_135, zn_p0, zn_p1, zn_p2, zn_p3, zn_p4, zn_p5, zn_p6, zn_p7, zn_p8, zn_p13, zn_p88, zn_p891, zn_m2, zn_m3, zn_m8, zn_m17, zn_m29, zn_m88, zn_m891, zn_a2, zn_a3, zn_a6, zn_a8, zn_a18, zn_a66, zn_a88, zn_a211, zn_a891, zp_ri2i, nI_add, z_vr, nI_clamp, zn_w0, zn_w1, zn_w2, zn_w3, zn_w4, zn_w5, zn_t0, zn_t1, zn_t2, zn_t3, zn_t4, zn_t5, h1, h4, h5, z_g_ss, zq_ss, oI, mReS, mTak, mIts, mG, zn_pm]
set_option maxRecDepth 100000 in
set_option maxHeartbeats 4000000 in
theorem zs_167 {o : Option Nat} (hl : l < 40) (hs : s < 6) (hf : z_I (z_g m 1) 22 0 (211 + 17 * l) = nI s) (hO : mOok (z_g m 1) s) (ho : ∀ n, o = some n → n < 40) : z_call (d + 3) 167 [zr (some (6, 1, 0)), zi (nI l), zi a, zi (oI o)] m Q = Q none (z_s m 1 (mRel (z_g m 1) l s o a)) := by
  have h := zl_167 (d := d) (m := m) (Q := Q) (a := a) (o := o) hl ho 4 (a, mLine (z_g m 1) s) none none (by omega) (mLine_ok hO)
  have e3 : nI 4 - 1 = 3 := by decide
  rw [e3] at h
  simp only [↓zen_167, ↓zu_167_0, ↓zu_167_92, ↓zu_167_112, ↓zu_167_125, ↓zx_nil, ↓zx_cons, ↓zp_li, ↓zp_ll, ↓zp_lr, ↓zq_li0, ↓zq_li1, ↓zq_ll0, ↓zq_ll1, ↓zq_lr0, ↓zq_lr1, ↓zk_0, ↓zk_1n, ↓zk_1i, ↓zk_1r, ↓zk_1l, ↓zk_2, zp_okt, ↓zp_okl, zp_sh0, zp_sh1, zp_psn, zp_pss, ↓zp_ri1, ↓zp_ri20, ↓zp_ri21, ↓zp_rl, ↓zp_ra, ↓zp_rv, ↓zp_br, ↓reduceIte, Nat.reduceAdd, Nat.zero_add, Nat.add_zero, Nat.le_refl, Nat.zero_le, ↓zx_aload_0, ↓zx_iload_1, ↓zyc_168, ↓zx_iload_2, ↓zy_istore, ↓zx_iconst, ↓zx_iload, ↓zy_if_lt, ↓zyg_6_14, ↓zyg_6_3, ↓zyc_138, ↓zx_bipush, ↓zy_iadd, ↓zyc_149, ↓zy_dup2, ↓zy_isub, ↓zx_iload_3, ↓zy_ic_ne, ↓zyc_135, ↓zx_goto, ↓zy_iinc, ↓zyg_6_4, ↓zy_imul, ↓zy_i2l, ↓zy_ladd, ↓zx_ret, ↓zya_21, ↓zya_22, ↓zya_24, ↓zya_26, ↓zya_27, ↓zya_30, ↓zya_32, ↓zya_33, ↓zyb_21, ↓zyb_22, ↓zyb_24, ↓zyb_26, ↓zyb_27, ↓zyb_30, ↓zyb_32, ↓zyb_33, ↓zya_23, ↓zya_25, ↓zya_28, ↓zya_31, ↓zyb_23, ↓zyb_25, ↓zyb_28, ↓zyb_31, z_i10, z_10, z_00, and_self, not_true_eq_false, not_false_eq_true, true_and, and_true, false_and, and_false, true_or, false_or, or_false, or_true, or_self, if_true, if_false, ite_self, ↓zs_72, ↓zs_168 hl hs hf]
  exact h
-- becoming due
def mDuS (l k : Nat) (p : Int32 × zS) : Int32 × zS := (p.1 - mIts l k p, mOwes (z_uI (mTak l k p) 22 0 (6 + 3 * mG p.2 k + 1) (z_I (mTak l k p) 22 0 (6 + 3 * mG p.2 k + 1) - mIts l k p)) (mG p.2 k) (mIts l k p))
theorem mLok.j {M : zS} {k i f : Nat} {q : Int64} (h : mLok M) : mLok (z_uJ M k i f q) := h
theorem mDuS_ok {p : Int32 × zS} (h : mLok p.2) : mLok (mDuS l k p).2 := (h.u.u.u : mLok _).j
def mDue (M : zS) (l s : Nat) (a : Int32) : zS := (z_it (mDuS l) 4 0 (a, mLine M s)).2
set_option maxRecDepth 100000 in
set_option maxHeartbeats 4000000 in
theorem zl_186 (hl : l < 40) : ∀ (n i : Nat) (p : Int32 × zS) (o5 o6 : Option zV), i + n = 4 → mLok p.2 → zW 186 (d + 2) Q 10 [some (zr (some (6, 1, 0))), some (zi (nI l)), some (zi a), some (zi p.1), some (zi (nI i)), o5, o6] [] (z_s m 1 p.2) 0 = Q none (z_s m 1 (z_it (mDuS l) n i p).2) := by
  intro n
  induction n with
  | zero =>
    intro i p o5 o6 hi hp
    have h1 : (4 ≤ nI i) = True := z_le1 (a := 4) (by omega) (by omega)
    rw [zu_186_10]
    simp (disch := omega) only [↓zu_186_102, ↓zx_nil, ↓zx_cons, ↓zp_li, ↓zp_ll, ↓zp_lr, ↓zq_li0, ↓zq_li1, ↓zq_ll0, ↓zq_ll1, ↓zq_lr0, ↓zq_lr1, ↓zk_0, ↓zk_1n, ↓zk_1i, ↓zk_1r, ↓zk_1l, ↓zk_2, zp_okt, ↓zp_okl, zp_sh0, zp_sh1, zp_psn, zp_pss, ↓zp_ri1, ↓zp_ri20, ↓zp_ri21, ↓zp_rl, ↓zp_ra, ↓zp_rv, ↓zp_br, ↓reduceIte, Nat.reduceAdd, Nat.zero_add, Nat.add_zero, Nat.le_refl, Nat.zero_le, ↓zx_aload_0, ↓zx_iload_1, ↓zyc_168, ↓zx_iload_2, ↓zy_istore_3, ↓zx_iconst, ↓zy_istore, ↓zx_iload, ↓zy_ic_ge, ↓zyg_6_14, ↓zx_iload_3, ↓zyg_6_3, ↓zyc_138, ↓zx_bipush, ↓zy_iadd, ↓zyc_149, ↓zy_dup2, ↓zy_isub, ↓zyc_135, ↓zyc_187, ↓zy_iinc, ↓zx_goto, ↓zx_ret, ↓zya_21, ↓zya_22, ↓zya_24, ↓zya_26, ↓zya_27, ↓zya_30, ↓zya_32, ↓zya_33, ↓zyb_21, ↓zyb_22, ↓zyb_24, ↓zyb_26, ↓zyb_27, ↓zyb_30, ↓zyb_32, ↓zyb_33, z_i10, z_10, z_00, and_self, not_true_eq_false, not_false_eq_true, true_and, and_true, false_and, and_false, true_or, false_or, or_false, or_true, or_self, if_true, if_false, ite_self, ↓zs_72, zn_p0, zn_p1, zn_p2, zn_p3, zn_p4, zn_p5, zn_p6, zn_p7, zn_p8, zn_p13, zn_p88, zn_p891, zn_m2, zn_m3, zn_m8, zn_m17, zn_m29, zn_m88, zn_m891, zn_a2, zn_a3, zn_a6, zn_a8, zn_a18, zn_a66, zn_a88, zn_a211, zn_a891, zp_ri2i, nI_add, z_vr, nI_clamp, zn_w0, zn_w1, zn_w2, zn_w3, zn_w4, zn_w5, zn_t0, zn_t1, zn_t2, zn_t3, zn_t4, zn_t5, h1]
    rfl
  | succ n ih =>
    intro i p o5 o6 hi hp
    obtain ⟨g, hg, h4⟩ := hp i (by omega)
    have h1 : (4 ≤ nI i) = False := z_le0 (a := 4) (by omega) (by omega)
    have ih := ih (i + 1) (mDuS l i p) (some (zi (nI g))) (some (zi (mIts l i p))) (by omega) (mDuS_ok hp)
    rw [zu_186_10]
    show _ = Q none (z_s m 1 (z_it (mDuS l) n (i + 1) (mDuS l i p)).2)
    rw [← ih]
    simp (maxSteps := 2000000) (disch := omega) only [↓zx_nil, ↓zx_cons, ↓zp_li, ↓zp_ll, ↓zp_lr, ↓zq_li0, ↓zq_li1, ↓zq_ll0, ↓zq_ll1, ↓zq_lr0, ↓zq_lr1, ↓zk_0, ↓zk_1n, ↓zk_1i, ↓zk_1r, ↓zk_1l, ↓zk_2, zp_okt, ↓zp_okl, zp_sh0, zp_sh1, zp_psn, zp_pss, ↓zp_ri1, ↓zp_ri20, ↓zp_ri21, ↓zp_rl, ↓zp_ra, ↓zp_rv, ↓zp_br, ↓reduceIte, Nat.reduceAdd, Nat.zero_add, Nat.add_zero, Nat.le_refl, Nat.zero_le, ↓zx_aload_0, ↓zx_iload_1, ↓zyc_168, ↓zx_iload_2, ↓zy_istore_3, ↓zx_iconst, ↓zy_istore, ↓zx_iload, ↓zy_ic_ge, ↓zyg_6_14, ↓zx_iload_3, ↓zyg_6_3, ↓zyc_138, ↓zx_bipush, ↓zy_iadd, ↓zyc_149, ↓zy_dup2, ↓zy_isub, ↓zyc_135, ↓zyc_187, ↓zy_iinc, ↓zx_goto, ↓zx_ret, ↓zya_21, ↓zya_22, ↓zya_24, ↓zya_26, ↓zya_27, ↓zya_30, ↓zya_32, ↓zya_33, ↓zyb_21, ↓zyb_22, ↓zyb_24, ↓zyb_26, ↓zyb_27, ↓zyb_30, ↓zyb_32, ↓zyb_33, z_i10, z_10, z_00, and_self, not_true_eq_false, not_false_eq_true, true_and, and_true, false_and, and_false, true_or, false_or, or_false, or_true, or_self, if_true, if_false, ite_self, ↓zs_72, ↓zs_138, ↓zs_149, ↓zs_135, ↓zs_187 hg, zn_p0, zn_p1, zn_p2, zn_p3, zn_p4, zn_p5, zn_p6, zn_p7, zn_p8, zn_p13, zn_p88, zn_p891, zn_m2, zn_m3, zn_m8, zn_m17, zn_m29, zn_m88, zn_m891, zn_a2, zn_a3, zn_a6, zn_a8, zn_a18, zn_a66, zn_a88, zn_a211, zn_a891, zp_ri2i, nI_add, z_vr, nI_clamp, zn_w0, zn_w1, zn_w2, zn_w3, zn_w4, zn_w5, zn_t0, zn_t1, zn_t2, zn_t3, zn_t4, zn_t5, h1, h4, z_g_ss, zq_ss, mDuS, mTak, mIts, mG]
set_option maxRecDepth 100000 in
set_option maxHeartbeats 4000000 in
theorem zs_186 (hl : l < 40) (hs : s < 6) (hf : z_I (z_g m 1) 22 0 (211 + 17 * l) = nI s) (hO : mOok (z_g m 1) s) : z_call (d + 3) 186 [zr (some (6, 1, 0)), zi (nI l), zi a] m Q = Q none (z_s m 1 (mDue (z_g m 1) l s a)) := by
  have h := zl_186 (d := d) (m := m) (Q := Q) (a := a) hl 4 0 (a, mLine (z_g m 1) s) none none (by omega) (mLine_ok hO)
  simp only [↓zen_186, ↓zu_186_0, ↓zu_186_102, ↓zx_nil, ↓zx_cons, ↓zp_li, ↓zp_ll, ↓zp_lr, ↓zq_li0, ↓zq_li1, ↓zq_ll0, ↓zq_ll1, ↓zq_lr0, ↓zq_lr1, ↓zk_0, ↓zk_1n, ↓zk_1i, ↓zk_1r, ↓zk_1l, ↓zk_2, zp_okt, ↓zp_okl, zp_sh0, zp_sh1, zp_psn, zp_pss, ↓zp_ri1, ↓zp_ri20, ↓zp_ri21, ↓zp_rl, ↓zp_ra, ↓zp_rv, ↓zp_br, ↓reduceIte, Nat.reduceAdd, Nat.zero_add, Nat.add_zero, Nat.le_refl, Nat.zero_le, ↓zx_aload_0, ↓zx_iload_1, ↓zyc_168, ↓zx_iload_2, ↓zy_istore_3, ↓zx_iconst, ↓zy_istore, ↓zx_iload, ↓zy_ic_ge, ↓zyg_6_14, ↓zx_iload_3, ↓zyg_6_3, ↓zyc_138, ↓zx_bipush, ↓zy_iadd, ↓zyc_149, ↓zy_dup2, ↓zy_isub, ↓zyc_135, ↓zyc_187, ↓zy_iinc, ↓zx_goto, ↓zx_ret, ↓zya_21, ↓zya_22, ↓zya_24, ↓zya_26, ↓zya_27, ↓zya_30, ↓zya_32, ↓zya_33, ↓zyb_21, ↓zyb_22, ↓zyb_24, ↓zyb_26, ↓zyb_27, ↓zyb_30, ↓zyb_32, ↓zyb_33, z_i10, z_10, z_00, and_self, not_true_eq_false, not_false_eq_true, true_and, and_true, false_and, and_false, true_or, false_or, or_false, or_true, or_self, if_true, if_false, ite_self, ↓zs_72, ↓zs_168 hl hs hf]
  exact h
-- the skeleton: what these acts leave alone
def mSki (j : Nat) : Prop := (1 ≤ j ∧ j ≤ 5) ∨ (18 ≤ j ∧ j < 66 ∧ 5 ≤ (j - 18) % 8) ∨ (66 ≤ j ∧ j < 211) ∨ (211 ≤ j ∧ (j - 211) % 17 < 3)
def mSk (M N : zS) : Prop := ∀ j, mSki j → z_I N 22 0 j = z_I M 22 0 j
theorem mSk.rf {M : zS} : mSk M M := fun _ _ => rfl
theorem mSk.tr {M N P : zS} (h : mSk M N) (h' : mSk N P) : mSk M P := fun j hj => (h' j hj).trans (h j hj)
theorem mSk.up {M : zS} {j : Nat} (h : ¬ mSki j) : mSk M (z_uI M 22 0 j v) := fun i hi => zn_un fun e => h (e ▸ hi)
theorem mSk.uj {M : zS} {k i f : Nat} {q : Int64} : mSk M (z_uJ M k i f q) := fun _ _ => rfl
theorem mSki_ld {l f : Nat} (h3 : 3 ≤ f) (hf : f < 17) : ¬ mSki (211 + 17 * l + f) := by unfold mSki; omega
theorem mSki_gu {g f : Nat} (hg : g < 4) (hf : f < 3) : ¬ mSki (6 + 3 * g + f) := by unfold mSki; omega
theorem mSki_0 : ¬ mSki 0 := by unfold mSki; omega
theorem mSki_sr {s f : Nat} (hs : s < 6) (hf : f < 5) : ¬ mSki (18 + 8 * s + f) := by unfold mSki; omega
def mWl (M : zS) (l s : Nat) : Prop := l < 40 ∧ s < 6 ∧ z_I M 22 0 (211 + 17 * l) = nI s ∧ mOok M s ∧ mKok M l
theorem mWl.hl {M : zS} (w : mWl M l s) : l < 40 := w.1
theorem mWl.hs {M : zS} (w : mWl M l s) : s < 6 := w.2.1
theorem mWl.hf {M : zS} (w : mWl M l s) : z_I M 22 0 (211 + 17 * l) = nI s := w.2.2.1
theorem mWl.hO {M : zS} (w : mWl M l s) : mOok M s := w.2.2.2.1
theorem mWl.hK {M : zS} (w : mWl M l s) : mKok M l := w.2.2.2.2
theorem mSk.wl {M N : zS} (h : mSk M N) (w : mWl M l s) : mWl N l s := by
  have hs := w.hs
  have e2 : z_I N 22 0 (211 + 17 * l + 2) = z_I M 22 0 (211 + 17 * l + 2) := h _ (by unfold mSki; omega)
  have hk := w.hK.1.2
  have e0 : ∀ j, j < 3 → mO N s j = mO M s j := fun j hj => h _ (by unfold mSki; omega)
  refine ⟨w.hl, hs, (h _ (by unfold mSki; omega)).trans w.hf, ?_, ?_⟩
  · unfold mOok
    rw [e0 0 (by decide), e0 1 (by decide), e0 2 (by decide)]
    exact w.hO
  · unfold mKok mKd
    rw [e2, h (66 + 29 * (z_I M 22 0 (211 + 17 * l + 2)).toNatClampNeg) (by unfold mSki; omega)]
    exact w.hK
end Mo5
