/-! ===== THE MODEL: holding, releasing ===== -/
section Mo3
variable {d r i k g s l t : Nat} {m : zM} {Q : zQ} {v w a b c e f x y : Int32}
theorem zn_un {M : zS} {a b : Nat} {v : Int32} (h : b ≠ a) : z_I (z_uI M 22 0 a v) 22 0 b = z_I M 22 0 b := by
  rw [z_I_u, if_neg fun q => h q.2.2]
theorem zn_u32 {M : zS} {a b : Nat} {v : Int32} : z_I (z_uI M 22 0 a v) 32 0 b = z_I M 32 0 b := by
  rw [z_I_u, if_neg fun q => absurd q.1 (by decide)]
theorem zn_u22 {M : zS} {a b : Nat} {v : Int32} : z_I (z_uI M 32 0 a v) 22 0 b = z_I M 22 0 b := by
  rw [z_I_u, if_neg fun q => absurd q.1 (by decide)]
-- the order of a store: none, or a guarantor
def mOrd (M : zS) (s : Nat) : Prop := ∀ j, j < 3 → z_I M 22 0 (18 + 8 * s + 5 + j) = -1 ∨ ∃ g, g < 4 ∧ z_I M 22 0 (18 + 8 * s + 5 + j) = nI g
theorem zn_n1 {g : Nat} (hg : g < 4) : (nI g = -1) = False := eq_false fun q => by
  have : nI g < 0 := by rw [q]; decide
  exact nI_pos (by omega) this
def mFfS (M : zS) (s j : Nat) (a : Int32) : Int32 := a + if z_I M 22 0 (18 + 8 * s + 5 + j) = -1 then 0 else mFree M (z_I M 22 0 (18 + 8 * s + 5 + j)).toNatClampNeg
def mFF (M : zS) (s : Nat) : Int32 := z_it (mFfS M s) 3 0 0
set_option maxRecDepth 100000 in
set_option maxHeartbeats 4000000 in
theorem zl_146 (hs : s < 6) (ho : mOrd (z_g m 1) s) : ∀ (n i : Nat) (a : Int32) (o4 : Option zV), i + n = 3 → zW 146 (d + 2) Q 4 [some (zr (some (6, 1, 0))), some (zi (nI s)), some (zi a), some (zi (nI i)), o4] [] m 0 = Q (some (zi (z_it (mFfS (z_g m 1) s) n i a))) m := by
  intro n
  induction n with
  | zero =>
    intro i a o4 hi
    have h1 : (3 ≤ nI i) = True := z_le1 (a := 3) (by omega) (by omega)
    rw [zu_146_4]
    simp only [↓zu_146_49, ↓zx_nil, ↓zx_cons, ↓zp_li, ↓zp_ll, ↓zp_lr, ↓zq_li0, ↓zq_li1, ↓zq_ll0, ↓zq_ll1, ↓zq_lr0, ↓zq_lr1, ↓zk_0, ↓zk_1n, ↓zk_1i, ↓zk_1r, ↓zk_1l, ↓zk_2, zp_okt, ↓zp_okl, zp_sh0, zp_sh1, zp_psn, zp_pss, ↓zp_ri1, ↓zp_ri20, ↓zp_ri21, ↓zp_rl, ↓zp_ra, ↓zp_rv, ↓zp_br, ↓reduceIte, Nat.reduceAdd, Nat.zero_add, Nat.add_zero, Nat.le_refl, Nat.zero_le, ↓zx_iconst, ↓zy_istore_2, ↓zy_istore_3, ↓zx_iload_3, ↓zy_ic_ge, ↓zx_aload_0, ↓zyg_6_3, ↓zx_iload_1, ↓zyc_147, ↓zy_iadd, ↓zy_istore, ↓zx_iload_2, ↓zx_iload, ↓zy_ic_ne, ↓zx_goto, ↓zyc_148, ↓zy_iinc, ↓zx_iret, ↓zya_21, ↓zya_22, ↓zya_24, ↓zya_26, ↓zya_27, ↓zya_30, ↓zya_32, ↓zya_33, h1, if_true]
    rfl
  | succ n ih =>
    intro i a o4 hi
    have h1 : (3 ≤ nI i) = False := z_le0 (a := 3) (by omega) (by omega)
    rw [zu_146_4]
    show _ = Q (some (zi (z_it (mFfS (z_g m 1) s) n (i + 1) (mFfS (z_g m 1) s i a)))) m
    rw [← ih (i + 1) _ (some (zi (z_I (z_g m 1) 22 0 (18 + 8 * s + 5 + i)))) (by omega)]
    unfold mFfS
    rcases ho i (by omega) with h4 | ⟨g, hg, h4⟩
    · have h5 := eq_true h4
      simp (disch := omega) only [↓zu_146_35, ↓zu_146_41, ↓zx_nil, ↓zx_cons, ↓zp_li, ↓zp_ll, ↓zp_lr, ↓zq_li0, ↓zq_li1, ↓zq_ll0, ↓zq_ll1, ↓zq_lr0, ↓zq_lr1, ↓zk_0, ↓zk_1n, ↓zk_1i, ↓zk_1r, ↓zk_1l, ↓zk_2, zp_okt, ↓zp_okl, zp_sh0, zp_sh1, zp_psn, zp_pss, ↓zp_ri1, ↓zp_ri20, ↓zp_ri21, ↓zp_rl, ↓zp_ra, ↓zp_rv, ↓zp_br, ↓reduceIte, Nat.reduceAdd, Nat.zero_add, Nat.add_zero, Nat.le_refl, Nat.zero_le, ↓zx_iconst, ↓zy_istore_2, ↓zy_istore_3, ↓zx_iload_3, ↓zy_ic_ge, ↓zx_aload_0, ↓zyg_6_3, ↓zx_iload_1, ↓zyc_147, ↓zy_iadd, ↓zy_istore, ↓zx_iload_2, ↓zx_iload, ↓zy_ic_ne, ↓zx_goto, ↓zyc_148, ↓zy_iinc, ↓zx_iret, ↓zya_21, ↓zya_22, ↓zya_24, ↓zya_26, ↓zya_27, ↓zya_30, ↓zya_32, ↓zya_33, z_i10, z_10, z_00, and_self, not_true_eq_false, not_false_eq_true, true_and, and_true, false_and, and_false, true_or, false_or, or_false, or_true, or_self, if_true, if_false, ite_self, ↓zs_72, ↓zs_147, zn_p0, zn_p1, zn_p2, zn_p3, zn_p4, zn_p5, zn_p6, zn_p7, zn_p8, zn_p13, zn_p88, zn_p891, zn_m2, zn_m3, zn_m8, zn_m17, zn_m29, zn_m88, zn_m891, zn_a2, zn_a3, zn_a6, zn_a8, zn_a18, zn_a66, zn_a88, zn_a211, zn_a891, zp_ri2i, nI_add, z_vr, nI_clamp, zn_w0, zn_w1, zn_w2, zn_w3, zn_w4, zn_w5, zn_t0, zn_t1, zn_t2, zn_t3, zn_t4, zn_t5, h1, h5]
    · have h5 := zn_n1 hg
      simp (disch := omega) only [↓zu_146_35, ↓zu_146_41, ↓zx_nil, ↓zx_cons, ↓zp_li, ↓zp_ll, ↓zp_lr, ↓zq_li0, ↓zq_li1, ↓zq_ll0, ↓zq_ll1, ↓zq_lr0, ↓zq_lr1, ↓zk_0, ↓zk_1n, ↓zk_1i, ↓zk_1r, ↓zk_1l, ↓zk_2, zp_okt, ↓zp_okl, zp_sh0, zp_sh1, zp_psn, zp_pss, ↓zp_ri1, ↓zp_ri20, ↓zp_ri21, ↓zp_rl, ↓zp_ra, ↓zp_rv, ↓zp_br, ↓reduceIte, Nat.reduceAdd, Nat.zero_add, Nat.add_zero, Nat.le_refl, Nat.zero_le, ↓zx_iconst, ↓zy_istore_2, ↓zy_istore_3, ↓zx_iload_3, ↓zy_ic_ge, ↓zx_aload_0, ↓zyg_6_3, ↓zx_iload_1, ↓zyc_147, ↓zy_iadd, ↓zy_istore, ↓zx_iload_2, ↓zx_iload, ↓zy_ic_ne, ↓zx_goto, ↓zyc_148, ↓zy_iinc, ↓zx_iret, ↓zya_21, ↓zya_22, ↓zya_24, ↓zya_26, ↓zya_27, ↓zya_30, ↓zya_32, ↓zya_33, z_i10, z_10, z_00, and_self, not_true_eq_false, not_false_eq_true, true_and, and_true, false_and, and_false, true_or, false_or, or_false, or_true, or_self, if_true, if_false, ite_self, ↓zs_72, ↓zs_147, ↓zs_148, zn_p0, zn_p1, zn_p2, zn_p3, zn_p4, zn_p5, zn_p6, zn_p7, zn_p8, zn_p13, zn_p88, zn_p891, zn_m2, zn_m3, zn_m8, zn_m17, zn_m29, zn_m88, zn_m891, zn_a2, zn_a3, zn_a6, zn_a8, zn_a18, zn_a66, zn_a88, zn_a211, zn_a891, zp_ri2i, nI_add, z_vr, nI_clamp, zn_w0, zn_w1, zn_w2, zn_w3, zn_w4, zn_w5, zn_t0, zn_t1, zn_t2, zn_t3, zn_t4, zn_t5, h1, h4, h5]
set_option maxRecDepth 100000 in
set_option maxHeartbeats 4000000 in
theorem zs_146 (hs : s < 6) (ho : mOrd (z_g m 1) s) : z_call (d + 3) 146 [zr (some (6, 1, 0)), zi (nI s)] m Q = Q (some (zi (mFF (z_g m 1) s))) m := by
  simp only [↓zen_146, ↓zu_146_0, ↓zu_146_35, ↓zu_146_41, ↓zu_146_49, ↓zx_nil, ↓zx_cons, ↓zp_li, ↓zp_ll, ↓zp_lr, ↓zq_li0, ↓zq_li1, ↓zq_ll0, ↓zq_ll1, ↓zq_lr0, ↓zq_lr1, ↓zk_0, ↓zk_1n, ↓zk_1i, ↓zk_1r, ↓zk_1l, ↓zk_2, zp_okt, ↓zp_okl, zp_sh0, zp_sh1, zp_psn, zp_pss, ↓zp_ri1, ↓zp_ri20, ↓zp_ri21, ↓zp_rl, ↓zp_ra, ↓zp_rv, ↓zp_br, ↓reduceIte, Nat.reduceAdd, Nat.zero_add, Nat.add_zero, Nat.le_refl, Nat.zero_le, ↓zx_iconst, ↓zy_istore_2, ↓zy_istore_3, ↓zx_iload_3, ↓zy_ic_ge, ↓zx_aload_0, ↓zyg_6_3, ↓zx_iload_1, ↓zyc_147, ↓zy_iadd, ↓zy_istore, ↓zx_iload_2, ↓zx_iload, ↓zy_ic_ne, ↓zx_goto, ↓zyc_148, ↓zy_iinc, ↓zx_iret, ↓zya_21, ↓zya_22, ↓zya_24, ↓zya_26, ↓zya_27, ↓zya_30, ↓zya_32, ↓zya_33]
  exact zl_146 hs ho 3 0 0 none (by omega)
-- holding
def mHoS (l s j : Nat) (p : Int32 × zS) : Int32 × zS :=
  if z_I p.2 22 0 (18 + 8 * s + 5 + j) = -1 then p else
  if mMin p.1 (mFree p.2 (z_I p.2 22 0 (18 + 8 * s + 5 + j)).toNatClampNeg) ≤ 0 then p else
  (p.1 - mMin p.1 (mFree p.2 (z_I p.2 22 0 (18 + 8 * s + 5 + j)).toNatClampNeg),
   z_uI (z_uI p.2 22 0 (6 + 3 * (z_I p.2 22 0 (18 + 8 * s + 5 + j)).toNatClampNeg + 1) (z_I p.2 22 0 (6 + 3 * (z_I p.2 22 0 (18 + 8 * s + 5 + j)).toNatClampNeg + 1) + mMin p.1 (mFree p.2 (z_I p.2 22 0 (18 + 8 * s + 5 + j)).toNatClampNeg))) 22 0 (211 + 17 * l + 13 + (z_I p.2 22 0 (18 + 8 * s + 5 + j)).toNatClampNeg) (z_I p.2 22 0 (211 + 17 * l + 13 + (z_I p.2 22 0 (18 + 8 * s + 5 + j)).toNatClampNeg) + mMin p.1 (mFree p.2 (z_I p.2 22 0 (18 + 8 * s + 5 + j)).toNatClampNeg)))
theorem mHoS_o {l s j : Nat} {p : Int32 × zS} (hs : s < 6) (h : mOrd p.2 s) (hj : j < 3) : mOrd (mHoS l s j p).2 s := by
  unfold mHoS
  rcases h j hj with h4 | ⟨g, hg, h4⟩
  · rw [if_pos h4]; exact h
  · rw [h4, nI_clamp (by omega)]
    split
    · exact h
    · split
      · exact h
      · intro i hi
        show z_I (z_uI (z_uI p.2 22 0 (6 + 3 * g + 1) _) 22 0 (211 + 17 * l + 13 + g) _) 22 0 (18 + 8 * s + 5 + i) = -1 ∨ ∃ g', _ ∧ z_I (z_uI (z_uI p.2 22 0 (6 + 3 * g + 1) _) 22 0 (211 + 17 * l + 13 + g) _) 22 0 (18 + 8 * s + 5 + i) = _
        rw [zn_un (by omega), zn_un (by omega)]
        exact h i hi
def mHold (M : zS) (l s : Nat) (a : Int32) : zS := z_uJ (z_it (mHoS l s) 3 0 (a, M)).2 23 0 (8 + 2 * l) (z_J (z_it (mHoS l s) 3 0 (a, M)).2 23 0 (8 + 2 * l) + a.toInt64)
set_option maxRecDepth 100000 in
set_option maxHeartbeats 4000000 in
theorem zl_145 (hl : l < 40) (hs : s < 6) : ∀ (n i : Nat) (p : Int32 × zS) (o6 o7 : Option zV), i + n = 3 → mOrd p.2 s → zW 145 (d + 3) Q 29 [some (zr (some (6, 1, 0))), some (zi (nI l)), some (zi a), some (zi (nI s)), some (zi p.1), some (zi (nI i)), o6, o7] [] (z_s m 1 p.2) 0 = Q (some (zi 1)) (z_s m 1 (z_uJ (z_it (mHoS l s) n i p).2 23 0 (8 + 2 * l) (z_J (z_it (mHoS l s) n i p).2 23 0 (8 + 2 * l) + a.toInt64))) := by
  intro n
  induction n with
  | zero =>
    intro i p o6 o7 hi ho
    have h1 : (3 ≤ nI i) = True := z_le1 (a := 3) (by omega) (by omega)
    rw [zu_145_29]
    simp (disch := omega) only [↓zu_145_129, ↓zx_nil, ↓zx_cons, ↓zp_li, ↓zp_ll, ↓zp_lr, ↓zq_li0, ↓zq_li1, ↓zq_ll0, ↓zq_ll1, ↓zq_lr0, ↓zq_lr1, ↓zk_0, ↓zk_1n, ↓zk_1i, ↓zk_1r, ↓zk_1l, ↓zk_2, zp_okt, ↓zp_okl, zp_sh0, zp_sh1, zp_psn, zp_pss, ↓zp_ri1, ↓zp_ri20, ↓zp_ri21, ↓zp_rl, ↓zp_ra, ↓zp_rv, ↓zp_br, ↓reduceIte, Nat.reduceAdd, Nat.zero_add, Nat.add_zero, Nat.le_refl, Nat.zero_le, ↓zx_aload_0, ↓zyg_6_3, ↓zx_iload_1, ↓zyc_138, ↓zx_iconst, ↓zy_iadd, ↓zy_istore_3, ↓zx_iload_3, ↓zyc_146, ↓zx_iload_2, ↓zy_ic_ge, ↓zx_iret, ↓zy_istore, ↓zx_iload, ↓zyc_147, ↓zy_ic_ne, ↓zx_goto, ↓zyc_148, ↓zyc_149, ↓zy_if_le, ↓zyc_135, ↓zy_dup2, ↓zx_bipush, ↓zy_isub, ↓zy_iinc, ↓zyg_6_4, ↓zy_imul, ↓zy_i2l, ↓zy_ladd, ↓zya_21, ↓zya_22, ↓zya_24, ↓zya_26, ↓zya_27, ↓zya_30, ↓zya_32, ↓zya_33, ↓zyb_21, ↓zyb_22, ↓zyb_24, ↓zyb_26, ↓zyb_27, ↓zyb_30, ↓zyb_32, ↓zyb_33, ↓zya_23, ↓zya_25, ↓zya_28, ↓zya_31, ↓zyb_23, ↓zyb_25, ↓zyb_28, ↓zyb_31, z_i10, z_10, z_00, and_self, not_true_eq_false, not_false_eq_true, true_and, and_true, false_and, and_false, true_or, false_or, or_false, or_true, or_self, if_true, if_false, ite_self, ↓zs_72, zn_p0, zn_p1, zn_p2, zn_p3, zn_p4, zn_p5, zn_p6, zn_p7, zn_p8, zn_p13, zn_p88, zn_p891, zn_m2, zn_m3, zn_m8, zn_m17, zn_m29, zn_m88, zn_m891, zn_a2, zn_a3, zn_a6, zn_a8, zn_a18, zn_a66, zn_a88, zn_a211, zn_a891, zp_ri2i, nI_add, z_vr, nI_clamp, zn_w0, zn_w1, zn_w2, zn_w3, zn_w4, zn_w5, zn_t0, zn_t1, zn_t2, zn_t3, zn_t4, zn_t5, h1, z_g_ss, zq_ss]
    rfl
  | succ n ih =>
    intro i p o6 o7 hi ho
    have h1 : (3 ≤ nI i) = False := z_le0 (a := 3) (by omega) (by omega)
    rw [zu_145_29]
    have ih := fun o6 o7 => ih (i + 1) (mHoS l s i p) o6 o7 (by omega) (mHoS_o hs ho (by omega))
    show _ = Q (some (zi 1)) (z_s m 1 (z_uJ (z_it (mHoS l s) n (i + 1) (mHoS l s i p)).2 23 0 (8 + 2 * l) (z_J (z_it (mHoS l s) n (i + 1) (mHoS l s i p)).2 23 0 (8 + 2 * l) + a.toInt64)))
    rcases ho i (by omega) with h4 | ⟨g, hg, h4⟩
    · have hE : mHoS l s i p = p := by unfold mHoS; rw [if_pos h4]
      rw [← ih (some (zi (z_I p.2 22 0 (18 + 8 * s + 5 + i)))) (some (zi 0)), hE]
      have h00 : (0 : Int32) ≤ 0 := by decide
      have h5 := eq_true h4
      simp (maxSteps := 2000000) (disch := omega) only [↓zu_145_61, ↓zu_145_72, ↓zu_145_123, ↓zx_nil, ↓zx_cons, ↓zp_li, ↓zp_ll, ↓zp_lr, ↓zq_li0, ↓zq_li1, ↓zq_ll0, ↓zq_ll1, ↓zq_lr0, ↓zq_lr1, ↓zk_0, ↓zk_1n, ↓zk_1i, ↓zk_1r, ↓zk_1l, ↓zk_2, zp_okt, ↓zp_okl, zp_sh0, zp_sh1, zp_psn, zp_pss, ↓zp_ri1, ↓zp_ri20, ↓zp_ri21, ↓zp_rl, ↓zp_ra, ↓zp_rv, ↓zp_br, ↓reduceIte, Nat.reduceAdd, Nat.zero_add, Nat.add_zero, Nat.le_refl, Nat.zero_le, ↓zx_aload_0, ↓zyg_6_3, ↓zx_iload_1, ↓zyc_138, ↓zx_iconst, ↓zy_iadd, ↓zy_istore_3, ↓zx_iload_3, ↓zyc_146, ↓zx_iload_2, ↓zy_ic_ge, ↓zx_iret, ↓zy_istore, ↓zx_iload, ↓zyc_147, ↓zy_ic_ne, ↓zx_goto, ↓zyc_148, ↓zyc_149, ↓zy_if_le, ↓zyc_135, ↓zy_dup2, ↓zx_bipush, ↓zy_isub, ↓zy_iinc, ↓zyg_6_4, ↓zy_imul, ↓zy_i2l, ↓zy_ladd, ↓zya_21, ↓zya_22, ↓zya_24, ↓zya_26, ↓zya_27, ↓zya_30, ↓zya_32, ↓zya_33, ↓zyb_21, ↓zyb_22, ↓zyb_24, ↓zyb_26, ↓zyb_27, ↓zyb_30, ↓zyb_32, ↓zyb_33, ↓zya_23, ↓zya_25, ↓zya_28, ↓zya_31, ↓zyb_23, ↓zyb_25, ↓zyb_28, ↓zyb_31, z_i10, z_10, z_00, and_self, not_true_eq_false, not_false_eq_true, true_and, and_true, false_and, and_false, true_or, false_or, or_false, or_true, or_self, if_true, if_false, ite_self, ↓zs_72, ↓zs_147, zn_p0, zn_p1, zn_p2, zn_p3, zn_p4, zn_p5, zn_p6, zn_p7, zn_p8, zn_p13, zn_p88, zn_p891, zn_m2, zn_m3, zn_m8, zn_m17, zn_m29, zn_m88, zn_m891, zn_a2, zn_a3, zn_a6, zn_a8, zn_a18, zn_a66, zn_a88, zn_a211, zn_a891, zp_ri2i, nI_add, z_vr, nI_clamp, zn_w0, zn_w1, zn_w2, zn_w3, zn_w4, zn_w5, zn_t0, zn_t1, zn_t2, zn_t3, zn_t4, zn_t5, h1, h5, h00, z_g_ss]
    · have h5 := zn_n1 hg
      have h148 := fun Q => zs_148 (d := d + 1) (m := z_s m 1 p.2) (g := g) (Q := Q) hg
      rw [z_g_ss] at h148
      have hgc : (nI g).toNatClampNeg = g := nI_clamp (by omega)
      rcases Classical.em (mMin p.1 (mFree p.2 g) ≤ 0) with h6 | h6
      · have hE : mHoS l s i p = p := by unfold mHoS; rw [h4, hgc, if_neg (of_eq_false h5), if_pos h6]
        rw [← ih (some (zi (nI g))) (some (zi (mMin p.1 (mFree p.2 g)))), hE]
        simp (maxSteps := 2000000) (disch := omega) only [↓zu_145_61, ↓zu_145_72, ↓zu_145_123, ↓zx_nil, ↓zx_cons, ↓zp_li, ↓zp_ll, ↓zp_lr, ↓zq_li0, ↓zq_li1, ↓zq_ll0, ↓zq_ll1, ↓zq_lr0, ↓zq_lr1, ↓zk_0, ↓zk_1n, ↓zk_1i, ↓zk_1r, ↓zk_1l, ↓zk_2, zp_okt, ↓zp_okl, zp_sh0, zp_sh1, zp_psn, zp_pss, ↓zp_ri1, ↓zp_ri20, ↓zp_ri21, ↓zp_rl, ↓zp_ra, ↓zp_rv, ↓zp_br, ↓reduceIte, Nat.reduceAdd, Nat.zero_add, Nat.add_zero, Nat.le_refl, Nat.zero_le, ↓zx_aload_0, ↓zyg_6_3, ↓zx_iload_1, ↓zyc_138, ↓zx_iconst, ↓zy_iadd, ↓zy_istore_3, ↓zx_iload_3, ↓zyc_146, ↓zx_iload_2, ↓zy_ic_ge, ↓zx_iret, ↓zy_istore, ↓zx_iload, ↓zyc_147, ↓zy_ic_ne, ↓zx_goto, ↓zyc_148, ↓zyc_149, ↓zy_if_le, ↓zyc_135, ↓zy_dup2, ↓zx_bipush, ↓zy_isub, ↓zy_iinc, ↓zyg_6_4, ↓zy_imul, ↓zy_i2l, ↓zy_ladd, ↓zya_21, ↓zya_22, ↓zya_24, ↓zya_26, ↓zya_27, ↓zya_30, ↓zya_32, ↓zya_33, ↓zyb_21, ↓zyb_22, ↓zyb_24, ↓zyb_26, ↓zyb_27, ↓zyb_30, ↓zyb_32, ↓zyb_33, ↓zya_23, ↓zya_25, ↓zya_28, ↓zya_31, ↓zyb_23, ↓zyb_25, ↓zyb_28, ↓zyb_31, z_i10, z_10, z_00, and_self, not_true_eq_false, not_false_eq_true, true_and, and_true, false_and, and_false, true_or, false_or, or_false, or_true, or_self, if_true, if_false, ite_self, ↓zs_72, ↓zs_147, h148, ↓zs_149, zn_p0, zn_p1, zn_p2, zn_p3, zn_p4, zn_p5, zn_p6, zn_p7, zn_p8, zn_p13, zn_p88, zn_p891, zn_m2, zn_m3, zn_m8, zn_m17, zn_m29, zn_m88, zn_m891, zn_a2, zn_a3, zn_a6, zn_a8, zn_a18, zn_a66, zn_a88, zn_a211, zn_a891, zp_ri2i, nI_add, z_vr, nI_clamp, zn_w0, zn_w1, zn_w2, zn_w3, zn_w4, zn_w5, zn_t0, zn_t1, zn_t2, zn_t3, zn_t4, zn_t5, h1, h4, h5, h6, z_g_ss]
      · have hE : mHoS l s i p = (p.1 - mMin p.1 (mFree p.2 g), z_uI (z_uI p.2 22 0 (6 + 3 * g + 1) (z_I p.2 22 0 (6 + 3 * g + 1) + mMin p.1 (mFree p.2 g))) 22 0 (211 + 17 * l + 13 + g) (z_I p.2 22 0 (211 + 17 * l + 13 + g) + mMin p.1 (mFree p.2 g))) := by
          unfold mHoS; rw [h4, hgc, if_neg (of_eq_false h5), if_neg h6]
        rw [← ih (some (zi (nI g))) (some (zi (mMin p.1 (mFree p.2 g)))), hE]
        simp (maxSteps := 2000000) (disch := omega) only [↓zu_145_61, ↓zu_145_72, ↓zu_145_123, ↓zx_nil, ↓zx_cons, ↓zp_li, ↓zp_ll, ↓zp_lr, ↓zq_li0, ↓zq_li1, ↓zq_ll0, ↓zq_ll1, ↓zq_lr0, ↓zq_lr1, ↓zk_0, ↓zk_1n, ↓zk_1i, ↓zk_1r, ↓zk_1l, ↓zk_2, zp_okt, ↓zp_okl, zp_sh0, zp_sh1, zp_psn, zp_pss, ↓zp_ri1, ↓zp_ri20, ↓zp_ri21, ↓zp_rl, ↓zp_ra, ↓zp_rv, ↓zp_br, ↓reduceIte, Nat.reduceAdd, Nat.zero_add, Nat.add_zero, Nat.le_refl, Nat.zero_le, ↓zx_aload_0, ↓zyg_6_3, ↓zx_iload_1, ↓zyc_138, ↓zx_iconst, ↓zy_iadd, ↓zy_istore_3, ↓zx_iload_3, ↓zyc_146, ↓zx_iload_2, ↓zy_ic_ge, ↓zx_iret, ↓zy_istore, ↓zx_iload, ↓zyc_147, ↓zy_ic_ne, ↓zx_goto, ↓zyc_148, ↓zyc_149, ↓zy_if_le, ↓zyc_135, ↓zy_dup2, ↓zx_bipush, ↓zy_isub, ↓zy_iinc, ↓zyg_6_4, ↓zy_imul, ↓zy_i2l, ↓zy_ladd, ↓zya_21, ↓zya_22, ↓zya_24, ↓zya_26, ↓zya_27, ↓zya_30, ↓zya_32, ↓zya_33, ↓zyb_21, ↓zyb_22, ↓zyb_24, ↓zyb_26, ↓zyb_27, ↓zyb_30, ↓zyb_32, ↓zyb_33, ↓zya_23, ↓zya_25, ↓zya_28, ↓zya_31, ↓zyb_23, ↓zyb_25, ↓zyb_28, ↓zyb_31, z_i10, z_10, z_00, and_self, not_true_eq_false, not_false_eq_true, true_and, and_true, false_and, and_false, true_or, false_or, or_false, or_true, or_self, if_true, if_false, ite_self, ↓zs_72, ↓zs_147, h148, ↓zs_149, ↓zs_135, ↓zs_138, zn_p0, zn_p1, zn_p2, zn_p3, zn_p4, zn_p5, zn_p6, zn_p7, zn_p8, zn_p13, zn_p88, zn_p891, zn_m2, zn_m3, zn_m8, zn_m17, zn_m29, zn_m88, zn_m891, zn_a2, zn_a3, zn_a6, zn_a8, zn_a18, zn_a66, zn_a88, zn_a211, zn_a891, zp_ri2i, nI_add, z_vr, nI_clamp, zn_w0, zn_w1, zn_w2, zn_w3, zn_w4, zn_w5, zn_t0, zn_t1, zn_t2, zn_t3, zn_t4, zn_t5, h1, h4, h5, h6, z_g_ss, zq_ss, zn_un]
set_option maxRecDepth 100000 in
set_option maxHeartbeats 4000000 in
theorem zs_145 (hl : l < 40) (hs : s < 6) (hf : z_I (z_g m 1) 22 0 (211 + 17 * l) = nI s) (ho : mOrd (z_g m 1) s) : z_call (d + 4) 145 [zr (some (6, 1, 0)), zi (nI l), zi a] m Q = if a ≤ mFF (z_g m 1) s then Q (some (zi 1)) (z_s m 1 (mHold (z_g m 1) l s a)) else Q (some (zi 0)) m := by
  by_cases c0 : a ≤ mFF (z_g m 1) s
  · have hl2 := zl_145 (d := d) (m := m) (Q := Q) (a := a) hl hs 3 0 (a, z_g m 1) none none (by omega) ho
    rw [zq_id] at hl2
    simp (disch := omega) only [↓zen_145, ↓zu_145_0, ↓zu_145_23, ↓zu_145_61, ↓zu_145_72, ↓zu_145_123, ↓zu_145_129, ↓zx_nil, ↓zx_cons, ↓zp_li, ↓zp_ll, ↓zp_lr, ↓zq_li0, ↓zq_li1, ↓zq_ll0, ↓zq_ll1, ↓zq_lr0, ↓zq_lr1, ↓zk_0, ↓zk_1n, ↓zk_1i, ↓zk_1r, ↓zk_1l, ↓zk_2, zp_okt, ↓zp_okl, zp_sh0, zp_sh1, zp_psn, zp_pss, ↓zp_ri1, ↓zp_ri20, ↓zp_ri21, ↓zp_rl, ↓zp_ra, ↓zp_rv, ↓zp_br, ↓reduceIte, Nat.reduceAdd, Nat.zero_add, Nat.add_zero, Nat.le_refl, Nat.zero_le, ↓zx_aload_0, ↓zyg_6_3, ↓zx_iload_1, ↓zyc_138, ↓zx_iconst, ↓zy_iadd, ↓zy_istore_3, ↓zx_iload_3, ↓zyc_146, ↓zx_iload_2, ↓zy_ic_ge, ↓zx_iret, ↓zy_istore, ↓zx_iload, ↓zyc_147, ↓zy_ic_ne, ↓zx_goto, ↓zyc_148, ↓zyc_149, ↓zy_if_le, ↓zyc_135, ↓zy_dup2, ↓zx_bipush, ↓zy_isub, ↓zy_iinc, ↓zyg_6_4, ↓zy_imul, ↓zy_i2l, ↓zy_ladd, ↓zya_21, ↓zya_22, ↓zya_24, ↓zya_26, ↓zya_27, ↓zya_30, ↓zya_32, ↓zya_33, ↓zyb_21, ↓zyb_22, ↓zyb_24, ↓zyb_26, ↓zyb_27, ↓zyb_30, ↓zyb_32, ↓zyb_33, ↓zya_23, ↓zya_25, ↓zya_28, ↓zya_31, ↓zyb_23, ↓zyb_25, ↓zyb_28, ↓zyb_31, z_i10, z_10, z_00, and_self, not_true_eq_false, not_false_eq_true, true_and, and_true, false_and, and_false, true_or, false_or, or_false, or_true, or_self, if_true, if_false, ite_self, ↓zs_72, ↓zs_138, ↓zs_146 hs ho, zn_p0, zn_p1, zn_p2, zn_p3, zn_p4, zn_p5, zn_p6, zn_p7, zn_p8, zn_p13, zn_p88, zn_p891, zn_m2, zn_m3, zn_m8, zn_m17, zn_m29, zn_m88, zn_m891, zn_a2, zn_a3, zn_a6, zn_a8, zn_a18, zn_a66, zn_a88, zn_a211, zn_a891, zp_ri2i, nI_add, z_vr, nI_clamp, zn_w0, zn_w1, zn_w2, zn_w3, zn_w4, zn_w5, zn_t0, zn_t1, zn_t2, zn_t3, zn_t4, zn_t5, hf, c0]
    exact hl2
  · simp (disch := omega) only [↓zen_145, ↓zu_145_0, ↓zu_145_23, ↓zu_145_61, ↓zu_145_72, ↓zu_145_123, ↓zu_145_129, ↓zx_nil, ↓zx_cons, ↓zp_li, ↓zp_ll, ↓zp_lr, ↓zq_li0, ↓zq_li1, ↓zq_ll0, ↓zq_ll1, ↓zq_lr0, ↓zq_lr1, ↓zk_0, ↓zk_1n, ↓zk_1i, ↓zk_1r, ↓zk_1l, ↓zk_2, zp_okt, ↓zp_okl, zp_sh0, zp_sh1, zp_psn, zp_pss, ↓zp_ri1, ↓zp_ri20, ↓zp_ri21, ↓zp_rl, ↓zp_ra, ↓zp_rv, ↓zp_br, ↓reduceIte, Nat.reduceAdd, Nat.zero_add, Nat.add_zero, Nat.le_refl, Nat.zero_le, ↓zx_aload_0, ↓zyg_6_3, ↓zx_iload_1, ↓zyc_138, ↓zx_iconst, ↓zy_iadd, ↓zy_istore_3, ↓zx_iload_3, ↓zyc_146, ↓zx_iload_2, ↓zy_ic_ge, ↓zx_iret, ↓zy_istore, ↓zx_iload, ↓zyc_147, ↓zy_ic_ne, ↓zx_goto, ↓zyc_148, ↓zyc_149, ↓zy_if_le, ↓zyc_135, ↓zy_dup2, ↓zx_bipush, ↓zy_isub, ↓zy_iinc, ↓zyg_6_4, ↓zy_imul, ↓zy_i2l, ↓zy_ladd, ↓zya_21, ↓zya_22, ↓zya_24, ↓zya_26, ↓zya_27, ↓zya_30, ↓zya_32, ↓zya_33, ↓zyb_21, ↓zyb_22, ↓zyb_24, ↓zyb_26, ↓zyb_27, ↓zyb_30, ↓zyb_32, ↓zyb_33, ↓zya_23, ↓zya_25, ↓zya_28, ↓zya_31, ↓zyb_23, ↓zyb_25, ↓zyb_28, ↓zyb_31, z_i10, z_10, z_00, and_self, not_true_eq_false, not_false_eq_true, true_and, and_true, false_and, and_false, true_or, false_or, or_false, or_true, or_self, if_true, if_false, ite_self, ↓zs_72, ↓zs_138, ↓zs_146 hs ho, zn_p0, zn_p1, zn_p2, zn_p3, zn_p4, zn_p5, zn_p6, zn_p7, zn_p8, zn_p13, zn_p88, zn_p891, zn_m2, zn_m3, zn_m8, zn_m17, zn_m29, zn_m88, zn_m891, zn_a2, zn_a3, zn_a6, zn_a8, zn_a18, zn_a66, zn_a88, zn_a211, zn_a891, zp_ri2i, nI_add, z_vr, nI_clamp, zn_w0, zn_w1, zn_w2, zn_w3, zn_w4, zn_w5, zn_t0, zn_t1, zn_t2, zn_t3, zn_t4, zn_t5, hf, c0]
-- the line
def mL1S (s j : Nat) (p : Nat × zS) : Nat × zS := if z_I p.2 22 0 (18 + 8 * s + 5 + j) = -1 then p else (p.1 + 1, z_uI p.2 32 0 p.1 (z_I p.2 22 0 (18 + 8 * s + 5 + j)))
abbrev mOth (M : zS) (s i : Nat) : Prop := ¬ z_I M 22 0 (18 + 8 * s + 5) = nI i ∧ ¬ z_I M 22 0 (18 + 8 * s + 5 + 1) = nI i ∧ ¬ z_I M 22 0 (18 + 8 * s + 5 + 2) = nI i
def mL2 (s : Nat) : Nat → Nat → Nat → zS → zS
  | 0, _, _, M => M
  | n + 1, i, z, M => if 4 ≤ z then M else if mOth M s i then mL2 s n (i + 1) (z + 1) (z_uI M 32 0 z (nI i)) else mL2 s n (i + 1) z M
def mLine (M : zS) (s : Nat) : zS := mL2 s 4 0 (z_it (mL1S s) 3 0 (0, M)).1 (z_it (mL1S s) 3 0 (0, M)).2
set_option maxRecDepth 100000 in
set_option maxHeartbeats 4000000 in
theorem zl_168b (hs : s < 6) : ∀ (n i z : Nat) (M : zS) (o5 : Option zV), i + n = 4 → z < 2 ^ 31 → zW 168 d Q 68 [some (zr (some (6, 1, 0))), some (zi (nI l)), some (zi (nI (18 + 8 * s + 5))), some (zi (nI z)), some (zi (nI i)), o5] [] (z_s m 1 M) 0 = Q none (z_s m 1 (mL2 s n i z M)) := by
  intro n
  induction n with
  | zero =>
    intro i z M o5 hi hz
    have h1 : (4 ≤ nI i) = True := z_le1 (a := 4) (by omega) (by omega)
    rw [zu_168_68]
    simp only [↓zu_168_145, ↓zx_nil, ↓zx_cons, ↓zp_li, ↓zp_ll, ↓zp_lr, ↓zq_li0, ↓zq_li1, ↓zq_ll0, ↓zq_ll1, ↓zq_lr0, ↓zq_lr1, ↓zk_0, ↓zk_1n, ↓zk_1i, ↓zk_1r, ↓zk_1l, ↓zk_2, zp_okt, ↓zp_okl, zp_sh0, zp_sh1, zp_psn, zp_pss, ↓zp_ri1, ↓zp_ri20, ↓zp_ri21, ↓zp_rl, ↓zp_ra, ↓zp_rv, ↓zp_br, ↓reduceIte, Nat.reduceAdd, Nat.zero_add, Nat.add_zero, Nat.le_refl, Nat.zero_le, ↓zx_aload_0, ↓zyg_6_3, ↓zx_iload_1, ↓zyc_138, ↓zx_iconst, ↓zy_iadd, ↓zyc_147, ↓zy_istore_2, ↓zy_istore_3, ↓zy_istore, ↓zx_iload, ↓zy_ic_ge, ↓zx_iload_2, ↓zy_ic_eq, ↓zyg_6_14, ↓zx_iload_3, ↓zy_iinc, ↓zx_goto, ↓zy_if_eq, ↓zx_ret, ↓zya_21, ↓zya_22, ↓zya_24, ↓zya_26, ↓zya_27, ↓zya_30, ↓zya_32, ↓zya_33, ↓zyb_21, ↓zyb_22, ↓zyb_24, ↓zyb_26, ↓zyb_27, ↓zyb_30, ↓zyb_32, ↓zyb_33, z_i10, z_10, z_00, and_self, not_true_eq_false, not_false_eq_true, true_and, and_true, false_and, and_false, true_or, false_or, or_false, or_true, or_self, if_true, if_false, ite_self, ↓zs_72, h1]
    rfl
  | succ n ih =>
    intro i z M o5 hi hz
    have h1 : (4 ≤ nI i) = False := z_le0 (a := 4) (by omega) (by omega)
    rw [zu_168_68]
    unfold mL2
    rcases Nat.lt_or_ge z 4 with hz2 | hz2
    · have h2 : (4 ≤ nI z) = False := z_le0 (a := 4) (by omega) (by omega)
      rw [if_neg (by omega)]
      unfold mOth
      rcases Classical.em (z_I M 22 0 (18 + 8 * s + 5) = nI i) with h4 | h4
      · rw [if_neg fun q => q.1 h4, ← ih (i + 1) z M (some (zi 0)) (by omega) hz]
        have h4 := eq_true h4
        simp (disch := omega) only [↓zu_168_120, ↓zu_168_121, ↓zu_168_139, ↓zu_168_145, ↓zx_nil, ↓zx_cons, ↓zp_li, ↓zp_ll, ↓zp_lr, ↓zq_li0, ↓zq_li1, ↓zq_ll0, ↓zq_ll1, ↓zq_lr0, ↓zq_lr1, ↓zk_0, ↓zk_1n, ↓zk_1i, ↓zk_1r, ↓zk_1l, ↓zk_2, zp_okt, ↓zp_okl, zp_sh0, zp_sh1, zp_psn, zp_pss, ↓zp_ri1, ↓zp_ri20, ↓zp_ri21, ↓zp_rl, ↓zp_ra, ↓zp_rv, ↓zp_br, ↓reduceIte, Nat.reduceAdd, Nat.zero_add, Nat.add_zero, Nat.le_refl, Nat.zero_le, ↓zx_aload_0, ↓zyg_6_3, ↓zx_iload_1, ↓zyc_138, ↓zx_iconst, ↓zy_iadd, ↓zyc_147, ↓zy_istore_2, ↓zy_istore_3, ↓zy_istore, ↓zx_iload, ↓zy_ic_ge, ↓zx_iload_2, ↓zy_ic_eq, ↓zyg_6_14, ↓zx_iload_3, ↓zy_iinc, ↓zx_goto, ↓zy_if_eq, ↓zx_ret, ↓zya_21, ↓zya_22, ↓zya_24, ↓zya_26, ↓zya_27, ↓zya_30, ↓zya_32, ↓zya_33, ↓zyb_21, ↓zyb_22, ↓zyb_24, ↓zyb_26, ↓zyb_27, ↓zyb_30, ↓zyb_32, ↓zyb_33, z_i10, z_10, z_00, and_self, not_true_eq_false, not_false_eq_true, true_and, and_true, false_and, and_false, true_or, false_or, or_false, or_true, or_self, if_true, if_false, ite_self, ↓zs_72, zn_p0, zn_p1, zn_p2, zn_p3, zn_p4, zn_p5, zn_p6, zn_p7, zn_p8, zn_p13, zn_p88, zn_p891, zn_m2, zn_m3, zn_m8, zn_m17, zn_m29, zn_m88, zn_m891, zn_a2, zn_a3, zn_a6, zn_a8, zn_a18, zn_a66, zn_a88, zn_a211, zn_a891, zp_ri2i, nI_add, z_vr, nI_clamp, zn_w0, zn_w1, zn_w2, zn_w3, zn_w4, zn_w5, zn_t0, zn_t1, zn_t2, zn_t3, zn_t4, zn_t5, h1, h2, h4, z_g_ss]
      · rcases Classical.em (z_I M 22 0 (18 + 8 * s + 5 + 1) = nI i) with h5 | h5
        · rw [if_neg fun q => q.2.1 h5, ← ih (i + 1) z M (some (zi 0)) (by omega) hz]
          have h5 := eq_true h5
          simp (disch := omega) only [↓zu_168_120, ↓zu_168_121, ↓zu_168_139, ↓zu_168_145, ↓zx_nil, ↓zx_cons, ↓zp_li, ↓zp_ll, ↓zp_lr, ↓zq_li0, ↓zq_li1, ↓zq_ll0, ↓zq_ll1, ↓zq_lr0, ↓zq_lr1, ↓zk_0, ↓zk_1n, ↓zk_1i, ↓zk_1r, ↓zk_1l, ↓zk_2, zp_okt, ↓zp_okl, zp_sh0, zp_sh1, zp_psn, zp_pss, ↓zp_ri1, ↓zp_ri20, ↓zp_ri21, ↓zp_rl, ↓zp_ra, ↓zp_rv, ↓zp_br, ↓reduceIte, Nat.reduceAdd, Nat.zero_add, Nat.add_zero, Nat.le_refl, Nat.zero_le, ↓zx_aload_0, ↓zyg_6_3, ↓zx_iload_1, ↓zyc_138, ↓zx_iconst, ↓zy_iadd, ↓zyc_147, ↓zy_istore_2, ↓zy_istore_3, ↓zy_istore, ↓zx_iload, ↓zy_ic_ge, ↓zx_iload_2, ↓zy_ic_eq, ↓zyg_6_14, ↓zx_iload_3, ↓zy_iinc, ↓zx_goto, ↓zy_if_eq, ↓zx_ret, ↓zya_21, ↓zya_22, ↓zya_24, ↓zya_26, ↓zya_27, ↓zya_30, ↓zya_32, ↓zya_33, ↓zyb_21, ↓zyb_22, ↓zyb_24, ↓zyb_26, ↓zyb_27, ↓zyb_30, ↓zyb_32, ↓zyb_33, z_i10, z_10, z_00, and_self, not_true_eq_false, not_false_eq_true, true_and, and_true, false_and, and_false, true_or, false_or, or_false, or_true, or_self, if_true, if_false, ite_self, ↓zs_72, zn_p0, zn_p1, zn_p2, zn_p3, zn_p4, zn_p5, zn_p6, zn_p7, zn_p8, zn_p13, zn_p88, zn_p891, zn_m2, zn_m3, zn_m8, zn_m17, zn_m29, zn_m88, zn_m891, zn_a2, zn_a3, zn_a6, zn_a8, zn_a18, zn_a66, zn_a88, zn_a211, zn_a891, zp_ri2i, nI_add, z_vr, nI_clamp, zn_w0, zn_w1, zn_w2, zn_w3, zn_w4, zn_w5, zn_t0, zn_t1, zn_t2, zn_t3, zn_t4, zn_t5, h1, h2, h4, h5, z_g_ss]
        · rcases Classical.em (z_I M 22 0 (18 + 8 * s + 5 + 2) = nI i) with h6 | h6
          · rw [if_neg fun q => q.2.2 h6, ← ih (i + 1) z M (some (zi 0)) (by omega) hz]
            have h6 := eq_true h6
            simp (disch := omega) only [↓zu_168_120, ↓zu_168_121, ↓zu_168_139, ↓zu_168_145, ↓zx_nil, ↓zx_cons, ↓zp_li, ↓zp_ll, ↓zp_lr, ↓zq_li0, ↓zq_li1, ↓zq_ll0, ↓zq_ll1, ↓zq_lr0, ↓zq_lr1, ↓zk_0, ↓zk_1n, ↓zk_1i, ↓zk_1r, ↓zk_1l, ↓zk_2, zp_okt, ↓zp_okl, zp_sh0, zp_sh1, zp_psn, zp_pss, ↓zp_ri1, ↓zp_ri20, ↓zp_ri21, ↓zp_rl, ↓zp_ra, ↓zp_rv, ↓zp_br, ↓reduceIte, Nat.reduceAdd, Nat.zero_add, Nat.add_zero, Nat.le_refl, Nat.zero_le, ↓zx_aload_0, ↓zyg_6_3, ↓zx_iload_1, ↓zyc_138, ↓zx_iconst, ↓zy_iadd, ↓zyc_147, ↓zy_istore_2, ↓zy_istore_3, ↓zy_istore, ↓zx_iload, ↓zy_ic_ge, ↓zx_iload_2, ↓zy_ic_eq, ↓zyg_6_14, ↓zx_iload_3, ↓zy_iinc, ↓zx_goto, ↓zy_if_eq, ↓zx_ret, ↓zya_21, ↓zya_22, ↓zya_24, ↓zya_26, ↓zya_27, ↓zya_30, ↓zya_32, ↓zya_33, ↓zyb_21, ↓zyb_22, ↓zyb_24, ↓zyb_26, ↓zyb_27, ↓zyb_30, ↓zyb_32, ↓zyb_33, z_i10, z_10, z_00, and_self, not_true_eq_false, not_false_eq_true, true_and, and_true, false_and, and_false, true_or, false_or, or_false, or_true, or_self, if_true, if_false, ite_self, ↓zs_72, zn_p0, zn_p1, zn_p2, zn_p3, zn_p4, zn_p5, zn_p6, zn_p7, zn_p8, zn_p13, zn_p88, zn_p891, zn_m2, zn_m3, zn_m8, zn_m17, zn_m29, zn_m88, zn_m891, zn_a2, zn_a3, zn_a6, zn_a8, zn_a18, zn_a66, zn_a88, zn_a211, zn_a891, zp_ri2i, nI_add, z_vr, nI_clamp, zn_w0, zn_w1, zn_w2, zn_w3, zn_w4, zn_w5, zn_t0, zn_t1, zn_t2, zn_t3, zn_t4, zn_t5, h1, h2, h4, h5, h6, z_g_ss]
          · rw [if_pos ⟨h4, h5, h6⟩, ← ih (i + 1) (z + 1) (z_uI M 32 0 z (nI i)) (some (zi 1)) (by omega) (by omega)]
            simp (disch := omega) only [↓zu_168_120, ↓zu_168_121, ↓zu_168_139, ↓zu_168_145, ↓zx_nil, ↓zx_cons, ↓zp_li, ↓zp_ll, ↓zp_lr, ↓zq_li0, ↓zq_li1, ↓zq_ll0, ↓zq_ll1, ↓zq_lr0, ↓zq_lr1, ↓zk_0, ↓zk_1n, ↓zk_1i, ↓zk_1r, ↓zk_1l, ↓zk_2, zp_okt, ↓zp_okl, zp_sh0, zp_sh1, zp_psn, zp_pss, ↓zp_ri1, ↓zp_ri20, ↓zp_ri21, ↓zp_rl, ↓zp_ra, ↓zp_rv, ↓zp_br, ↓reduceIte, Nat.reduceAdd, Nat.zero_add, Nat.add_zero, Nat.le_refl, Nat.zero_le, ↓zx_aload_0, ↓zyg_6_3, ↓zx_iload_1, ↓zyc_138, ↓zx_iconst, ↓zy_iadd, ↓zyc_147, ↓zy_istore_2, ↓zy_istore_3, ↓zy_istore, ↓zx_iload, ↓zy_ic_ge, ↓zx_iload_2, ↓zy_ic_eq, ↓zyg_6_14, ↓zx_iload_3, ↓zy_iinc, ↓zx_goto, ↓zy_if_eq, ↓zx_ret, ↓zya_21, ↓zya_22, ↓zya_24, ↓zya_26, ↓zya_27, ↓zya_30, ↓zya_32, ↓zya_33, ↓zyb_21, ↓zyb_22, ↓zyb_24, ↓zyb_26, ↓zyb_27, ↓zyb_30, ↓zyb_32, ↓zyb_33, z_i10, z_10, z_00, and_self, not_true_eq_false, not_false_eq_true, true_and, and_true, false_and, and_false, true_or, false_or, or_false, or_true, or_self, if_true, if_false, ite_self, ↓zs_72, zn_p0, zn_p1, zn_p2, zn_p3, zn_p4, zn_p5, zn_p6, zn_p7, zn_p8, zn_p13, zn_p88, zn_p891, zn_m2, zn_m3, zn_m8, zn_m17, zn_m29, zn_m88, zn_m891, zn_a2, zn_a3, zn_a6, zn_a8, zn_a18, zn_a66, zn_a88, zn_a211, zn_a891, zp_ri2i, nI_add, z_vr, nI_clamp, zn_w0, zn_w1, zn_w2, zn_w3, zn_w4, zn_w5, zn_t0, zn_t1, zn_t2, zn_t3, zn_t4, zn_t5, h1, h2, h4, h5, h6, z_g_ss, zq_ss]
    · have h2 : (4 ≤ nI z) = True := z_le1 (a := 4) (by omega) hz
      rw [if_pos hz2]
      simp only [↓zu_168_145, ↓zx_nil, ↓zx_cons, ↓zp_li, ↓zp_ll, ↓zp_lr, ↓zq_li0, ↓zq_li1, ↓zq_ll0, ↓zq_ll1, ↓zq_lr0, ↓zq_lr1, ↓zk_0, ↓zk_1n, ↓zk_1i, ↓zk_1r, ↓zk_1l, ↓zk_2, zp_okt, ↓zp_okl, zp_sh0, zp_sh1, zp_psn, zp_pss, ↓zp_ri1, ↓zp_ri20, ↓zp_ri21, ↓zp_rl, ↓zp_ra, ↓zp_rv, ↓zp_br, ↓reduceIte, Nat.reduceAdd, Nat.zero_add, Nat.add_zero, Nat.le_refl, Nat.zero_le, ↓zx_aload_0, ↓zyg_6_3, ↓zx_iload_1, ↓zyc_138, ↓zx_iconst, ↓zy_iadd, ↓zyc_147, ↓zy_istore_2, ↓zy_istore_3, ↓zy_istore, ↓zx_iload, ↓zy_ic_ge, ↓zx_iload_2, ↓zy_ic_eq, ↓zyg_6_14, ↓zx_iload_3, ↓zy_iinc, ↓zx_goto, ↓zy_if_eq, ↓zx_ret, ↓zya_21, ↓zya_22, ↓zya_24, ↓zya_26, ↓zya_27, ↓zya_30, ↓zya_32, ↓zya_33, ↓zyb_21, ↓zyb_22, ↓zyb_24, ↓zyb_26, ↓zyb_27, ↓zyb_30, ↓zyb_32, ↓zyb_33, z_i10, z_10, z_00, and_self, not_true_eq_false, not_false_eq_true, true_and, and_true, false_and, and_false, true_or, false_or, or_false, or_true, or_self, if_true, if_false, ite_self, ↓zs_72, h1, h2]
set_option maxRecDepth 100000 in
set_option maxHeartbeats 4000000 in
theorem zl_168a (hs : s < 6) : ∀ (n i : Nat) (p : Nat × zS), i + n = 3 → p.1 ≤ i → zW 168 d Q 22 [some (zr (some (6, 1, 0))), some (zi (nI l)), some (zi (nI (18 + 8 * s + 5))), some (zi (nI p.1)), some (zi (nI i)), none] [] (z_s m 1 p.2) 0 = Q none (z_s m 1 (mL2 s 4 0 (z_it (mL1S s) n i p).1 (z_it (mL1S s) n i p).2)) := by
  intro n
  induction n with
  | zero =>
    intro i p hi hp
    have h1 : (3 ≤ nI i) = True := z_le1 (a := 3) (by omega) (by omega)
    rw [zu_168_22]
    simp only [↓zu_168_65, ↓zx_nil, ↓zx_cons, ↓zp_li, ↓zp_ll, ↓zp_lr, ↓zq_li0, ↓zq_li1, ↓zq_ll0, ↓zq_ll1, ↓zq_lr0, ↓zq_lr1, ↓zk_0, ↓zk_1n, ↓zk_1i, ↓zk_1r, ↓zk_1l, ↓zk_2, zp_okt, ↓zp_okl, zp_sh0, zp_sh1, zp_psn, zp_pss, ↓zp_ri1, ↓zp_ri20, ↓zp_ri21, ↓zp_rl, ↓zp_ra, ↓zp_rv, ↓zp_br, ↓reduceIte, Nat.reduceAdd, Nat.zero_add, Nat.add_zero, Nat.le_refl, Nat.zero_le, ↓zx_aload_0, ↓zyg_6_3, ↓zx_iload_1, ↓zyc_138, ↓zx_iconst, ↓zy_iadd, ↓zyc_147, ↓zy_istore_2, ↓zy_istore_3, ↓zy_istore, ↓zx_iload, ↓zy_ic_ge, ↓zx_iload_2, ↓zy_ic_eq, ↓zyg_6_14, ↓zx_iload_3, ↓zy_iinc, ↓zx_goto, ↓zy_if_eq, ↓zx_ret, ↓zya_21, ↓zya_22, ↓zya_24, ↓zya_26, ↓zya_27, ↓zya_30, ↓zya_32, ↓zya_33, ↓zyb_21, ↓zyb_22, ↓zyb_24, ↓zyb_26, ↓zyb_27, ↓zyb_30, ↓zyb_32, ↓zyb_33, z_i10, z_10, z_00, and_self, not_true_eq_false, not_false_eq_true, true_and, and_true, false_and, and_false, true_or, false_or, or_false, or_true, or_self, if_true, if_false, ite_self, ↓zs_72, h1]
    exact zl_168b hs 4 0 p.1 p.2 none (by omega) (by omega)
  | succ n ih =>
    intro i p hi hp
    have h1 : (3 ≤ nI i) = False := z_le0 (a := 3) (by omega) (by omega)
    rw [zu_168_22]
    show _ = Q none (z_s m 1 (mL2 s 4 0 (z_it (mL1S s) n (i + 1) (mL1S s i p)).1 (z_it (mL1S s) n (i + 1) (mL1S s i p)).2))
    rcases Classical.em (z_I p.2 22 0 (18 + 8 * s + 5 + i) = -1) with h4 | h4
    · have hE : mL1S s i p = p := by unfold mL1S; rw [if_pos h4]
      rw [hE, ← ih (i + 1) p (by omega) (by omega)]
      have h4 := eq_true h4
      simp (disch := omega) only [↓zu_168_59, ↓zu_168_65, ↓zx_nil, ↓zx_cons, ↓zp_li, ↓zp_ll, ↓zp_lr, ↓zq_li0, ↓zq_li1, ↓zq_ll0, ↓zq_ll1, ↓zq_lr0, ↓zq_lr1, ↓zk_0, ↓zk_1n, ↓zk_1i, ↓zk_1r, ↓zk_1l, ↓zk_2, zp_okt, ↓zp_okl, zp_sh0, zp_sh1, zp_psn, zp_pss, ↓zp_ri1, ↓zp_ri20, ↓zp_ri21, ↓zp_rl, ↓zp_ra, ↓zp_rv, ↓zp_br, ↓reduceIte, Nat.reduceAdd, Nat.zero_add, Nat.add_zero, Nat.le_refl, Nat.zero_le, ↓zx_aload_0, ↓zyg_6_3, ↓zx_iload_1, ↓zyc_138, ↓zx_iconst, ↓zy_iadd, ↓zyc_147, ↓zy_istore_2, ↓zy_istore_3, ↓zy_istore, ↓zx_iload, ↓zy_ic_ge, ↓zx_iload_2, ↓zy_ic_eq, ↓zyg_6_14, ↓zx_iload_3, ↓zy_iinc, ↓zx_goto, ↓zy_if_eq, ↓zx_ret, ↓zya_21, ↓zya_22, ↓zya_24, ↓zya_26, ↓zya_27, ↓zya_30, ↓zya_32, ↓zya_33, ↓zyb_21, ↓zyb_22, ↓zyb_24, ↓zyb_26, ↓zyb_27, ↓zyb_30, ↓zyb_32, ↓zyb_33, z_i10, z_10, z_00, and_self, not_true_eq_false, not_false_eq_true, true_and, and_true, false_and, and_false, true_or, false_or, or_false, or_true, or_self, if_true, if_false, ite_self, ↓zs_72, zn_p0, zn_p1, zn_p2, zn_p3, zn_p4, zn_p5, zn_p6, zn_p7, zn_p8, zn_p13, zn_p88, zn_p891, zn_m2, zn_m3, zn_m8, zn_m17, zn_m29, zn_m88, zn_m891, zn_a2, zn_a3, zn_a6, zn_a8, zn_a18, zn_a66, zn_a88, zn_a211, zn_a891, zp_ri2i, nI_add, z_vr, nI_clamp, zn_w0, zn_w1, zn_w2, zn_w3, zn_w4, zn_w5, zn_t0, zn_t1, zn_t2, zn_t3, zn_t4, zn_t5, h1, h4, z_g_ss]
    · have hE : mL1S s i p = (p.1 + 1, z_uI p.2 32 0 p.1 (z_I p.2 22 0 (18 + 8 * s + 5 + i))) := by unfold mL1S; rw [if_neg h4]
      rw [hE, ← ih (i + 1) _ (by omega) (by show p.1 + 1 ≤ i + 1; omega)]
      simp (disch := omega) only [↓zu_168_59, ↓zu_168_65, ↓zx_nil, ↓zx_cons, ↓zp_li, ↓zp_ll, ↓zp_lr, ↓zq_li0, ↓zq_li1, ↓zq_ll0, ↓zq_ll1, ↓zq_lr0, ↓zq_lr1, ↓zk_0, ↓zk_1n, ↓zk_1i, ↓zk_1r, ↓zk_1l, ↓zk_2, zp_okt, ↓zp_okl, zp_sh0, zp_sh1, zp_psn, zp_pss, ↓zp_ri1, ↓zp_ri20, ↓zp_ri21, ↓zp_rl, ↓zp_ra, ↓zp_rv, ↓zp_br, ↓reduceIte, Nat.reduceAdd, Nat.zero_add, Nat.add_zero, Nat.le_refl, Nat.zero_le, ↓zx_aload_0, ↓zyg_6_3, ↓zx_iload_1, ↓zyc_138, ↓zx_iconst, ↓zy_iadd, ↓zyc_147, ↓zy_istore_2, ↓zy_istore_3, ↓zy_istore, ↓zx_iload, ↓zy_ic_ge, ↓zx_iload_2, ↓zy_ic_eq, ↓zyg_6_14, ↓zx_iload_3, ↓zy_iinc, ↓zx_goto, ↓zy_if_eq, ↓zx_ret, ↓zya_21, ↓zya_22, ↓zya_24, ↓zya_26, ↓zya_27, ↓zya_30, ↓zya_32, ↓zya_33, ↓zyb_21, ↓zyb_22, ↓zyb_24, ↓zyb_26, ↓zyb_27, ↓zyb_30, ↓zyb_32, ↓zyb_33, z_i10, z_10, z_00, and_self, not_true_eq_false, not_false_eq_true, true_and, and_true, false_and, and_false, true_or, false_or, or_false, or_true, or_self, if_true, if_false, ite_self, ↓zs_72, zn_p0, zn_p1, zn_p2, zn_p3, zn_p4, zn_p5, zn_p6, zn_p7, zn_p8, zn_p13, zn_p88, zn_p891, zn_m2, zn_m3, zn_m8, zn_m17, zn_m29, zn_m88, zn_m891, zn_a2, zn_a3, zn_a6, zn_a8, zn_a18, zn_a66, zn_a88, zn_a211, zn_a891, zp_ri2i, nI_add, z_vr, nI_clamp, zn_w0, zn_w1, zn_w2, zn_w3, zn_w4, zn_w5, zn_t0, zn_t1, zn_t2, zn_t3, zn_t4, zn_t5, h1, h4, z_g_ss, zq_ss]
set_option maxRecDepth 100000 in
set_option maxHeartbeats 4000000 in
theorem zs_168 (hl : l < 40) (hs : s < 6) (hf : z_I (z_g m 1) 22 0 (211 + 17 * l) = nI s) : z_call (d + 2) 168 [zr (some (6, 1, 0)), zi (nI l)] m Q = Q none (z_s m 1 (mLine (z_g m 1) s)) := by
  have h := zl_168a (d := d + 1) (m := m) (Q := Q) (l := l) hs 3 0 (0, z_g m 1) (by omega) (by omega)
  rw [zq_id] at h
  simp (disch := omega) only [↓zen_168, ↓zu_168_0, ↓zu_168_59, ↓zu_168_65, ↓zu_168_120, ↓zu_168_121, ↓zu_168_139, ↓zu_168_145, ↓zx_nil, ↓zx_cons, ↓zp_li, ↓zp_ll, ↓zp_lr, ↓zq_li0, ↓zq_li1, ↓zq_ll0, ↓zq_ll1, ↓zq_lr0, ↓zq_lr1, ↓zk_0, ↓zk_1n, ↓zk_1i, ↓zk_1r, ↓zk_1l, ↓zk_2, zp_okt, ↓zp_okl, zp_sh0, zp_sh1, zp_psn, zp_pss, ↓zp_ri1, ↓zp_ri20, ↓zp_ri21, ↓zp_rl, ↓zp_ra, ↓zp_rv, ↓zp_br, ↓reduceIte, Nat.reduceAdd, Nat.zero_add, Nat.add_zero, Nat.le_refl, Nat.zero_le, ↓zx_aload_0, ↓zyg_6_3, ↓zx_iload_1, ↓zyc_138, ↓zx_iconst, ↓zy_iadd, ↓zyc_147, ↓zy_istore_2, ↓zy_istore_3, ↓zy_istore, ↓zx_iload, ↓zy_ic_ge, ↓zx_iload_2, ↓zy_ic_eq, ↓zyg_6_14, ↓zx_iload_3, ↓zy_iinc, ↓zx_goto, ↓zy_if_eq, ↓zx_ret, ↓zya_21, ↓zya_22, ↓zya_24, ↓zya_26, ↓zya_27, ↓zya_30, ↓zya_32, ↓zya_33, ↓zyb_21, ↓zyb_22, ↓zyb_24, ↓zyb_26, ↓zyb_27, ↓zyb_30, ↓zyb_32, ↓zyb_33, z_i10, z_10, z_00, and_self, not_true_eq_false, not_false_eq_true, true_and, and_true, false_and, and_false, true_or, false_or, or_false, or_true, or_self, if_true, if_false, ite_self, ↓zs_72, ↓zs_138, ↓zs_147, zn_p0, zn_p1, zn_p2, zn_p3, zn_p4, zn_p5, zn_p6, zn_p7, zn_p8, zn_p13, zn_p88, zn_p891, zn_m2, zn_m3, zn_m8, zn_m17, zn_m29, zn_m88, zn_m891, zn_a2, zn_a3, zn_a6, zn_a8, zn_a18, zn_a66, zn_a88, zn_a211, zn_a891, zp_ri2i, nI_add, z_vr, nI_clamp, zn_w0, zn_w1, zn_w2, zn_w3, zn_w4, zn_w5, zn_t0, zn_t1, zn_t2, zn_t3, zn_t4, zn_t5, hf]
  exact h
end Mo3
