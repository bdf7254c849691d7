/-! ===== THE MODEL: orders, lists ===== -/
section Mo12
variable {d r i k g s l t q : Nat} {m : zM} {Q : zQ} {v w a b c e f x y : Int32}
def mIsO (M : zS) (a b c : Int32) : Prop := ((a = -1 ∨ (¬ a = b ∧ ¬ a = c)) ∧ (b = -1 ∨ ¬ b = c)) ∧ (a = -1 ∨ (0 ≤ a ∧ a < z_I M 22 0 1)) ∧ (b = -1 ∨ (0 ≤ b ∧ b < z_I M 22 0 1)) ∧ (c = -1 ∨ (0 ≤ c ∧ c < z_I M 22 0 1))
set_option maxRecDepth 100000 in
set_option maxHeartbeats 4000000 in
theorem zs_155 [Decidable (mIsO (z_g m 1) a b c)] (h : z_nn (z_I (z_g m 1) 22 0 1) 4) : z_call (d + 3) 155 [zr (some (6, 1, 0)), zi a, zi b, zi c] m Q = Q (some (zi (if mIsO (z_g m 1) a b c then 1 else 0))) m := by
  by_cases h0 : mIsO (z_g m 1) a b c
  · rw [if_pos h0]
    unfold mIsO at h0
    simp only [↓zen_155, ↓zu_155_0, ↓zu_155_15, ↓zu_155_25, ↓zu_155_29, ↓zu_155_30, ↓zu_155_50, ↓zu_155_63, ↓zu_155_76, ↓zu_155_80, ↓zu_155_81, ↓zx_nil, ↓zx_cons, ↓zp_li, ↓zp_ll, ↓zp_lr, ↓zq_li0, ↓zq_li1, ↓zq_ll0, ↓zq_ll1, ↓zq_lr0, ↓zq_lr1, ↓zk_0, ↓zk_1n, ↓zk_1i, ↓zk_1r, ↓zk_1l, ↓zk_2, zp_okt, ↓zp_okl, zp_sh0, zp_sh1, zp_psn, zp_pss, ↓zp_ri1, ↓zp_ri20, ↓zp_ri21, ↓zp_rl, ↓zp_ra, ↓zp_rv, ↓zp_br, ↓reduceIte, Nat.reduceAdd, Nat.zero_add, Nat.add_zero, Nat.le_refl, Nat.zero_le, ↓zx_iload_1, ↓zx_iconst, ↓zy_ic_eq, ↓zx_iload_2, ↓zx_iload_3, ↓zx_goto, ↓zy_istore, ↓zx_iload, ↓zy_if_eq, ↓zx_aload_0, ↓zyc_151, ↓zx_iret, z_i10, z_10, z_00, ↓zs_151 h]
    grind (splits := 24)
  · rw [if_neg h0]
    unfold mIsO at h0
    simp only [↓zen_155, ↓zu_155_0, ↓zu_155_15, ↓zu_155_25, ↓zu_155_29, ↓zu_155_30, ↓zu_155_50, ↓zu_155_63, ↓zu_155_76, ↓zu_155_80, ↓zu_155_81, ↓zx_nil, ↓zx_cons, ↓zp_li, ↓zp_ll, ↓zp_lr, ↓zq_li0, ↓zq_li1, ↓zq_ll0, ↓zq_ll1, ↓zq_lr0, ↓zq_lr1, ↓zk_0, ↓zk_1n, ↓zk_1i, ↓zk_1r, ↓zk_1l, ↓zk_2, zp_okt, ↓zp_okl, zp_sh0, zp_sh1, zp_psn, zp_pss, ↓zp_ri1, ↓zp_ri20, ↓zp_ri21, ↓zp_rl, ↓zp_ra, ↓zp_rv, ↓zp_br, ↓reduceIte, Nat.reduceAdd, Nat.zero_add, Nat.add_zero, Nat.le_refl, Nat.zero_le, ↓zx_iload_1, ↓zx_iconst, ↓zy_ic_eq, ↓zx_iload_2, ↓zx_iload_3, ↓zx_goto, ↓zy_istore, ↓zx_iload, ↓zy_if_eq, ↓zx_aload_0, ↓zyc_151, ↓zx_iret, z_i10, z_10, z_00, ↓zs_151 h]
    grind (splits := 24)
-- waiting
def mWaS (M : zS) (v : Int32) (ρ l : Nat) (p : Int32 × Int32) : Int32 × Int32 := if mSt M l = 0 ∧ z_I M 22 0 (211 + 17 * l + 5) = nI ρ then (p.1 + 1, if p.1 = v then nI l else p.2) else p
def mWaR (M : zS) (v : Int32) (ρ : Nat) (p : Int32 × Int32) : Int32 × Int32 := z_it (mWaS M v ρ) (mN M) 0 p
def mWait (M : zS) (v : Int32) : Int32 := (z_it (mWaR M v) 10 0 (0, -1)).2
set_option maxRecDepth 100000 in
set_option maxHeartbeats 4000000 in
theorem zl_207i {ρ : Nat} (hB : z_nn (z_I (z_g m 1) 22 0 3) 40) : ∀ (n i : Nat) (p : Int32 × Int32), i + n = mN (z_g m 1) → zW 207 (d + 2) Q 17 [some (zr (some (6, 1, 0))), some (zi v), some (zi p.1), some (zi p.2), some (zi (nI ρ)), some (zi (nI i))] [] m 0 = zW 207 (d + 2) Q 75 [some (zr (some (6, 1, 0))), some (zi v), some (zi (z_it (mWaS (z_g m 1) v ρ) n i p).1), some (zi (z_it (mWaS (z_g m 1) v ρ) n i p).2), some (zi (nI ρ)), some (zi (nI (mN (z_g m 1))))] [] m 0 := by
  intro n
  induction n with
  | zero =>
    intro i p hi
    have hi : i + 0 = (z_I (z_g m 1) 22 0 3).toNatClampNeg := hi
    have hN2 := hB.2
    have h1 : (z_I (z_g m 1) 22 0 3 ≤ nI i) = True := by rw [hB.eq]; exact z_le1 (by omega) (by omega)
    have e : i = mN (z_g m 1) := hi
    rw [zu_207_17]
    simp only [↓zx_nil, ↓zx_cons, ↓zp_li, ↓zp_ll, ↓zp_lr, ↓zq_li0, ↓zq_li1, ↓zq_ll0, ↓zq_ll1, ↓zq_lr0, ↓zq_lr1, ↓zk_0, ↓zk_1n, ↓zk_1i, ↓zk_1r, ↓zk_1l, ↓zk_2, zp_okt, ↓zp_okl, zp_sh0, zp_sh1, zp_psn, zp_pss, ↓zp_ri1, ↓zp_ri20, ↓zp_ri21, ↓zp_rl, ↓zp_ra, ↓zp_rv, ↓zp_br, ↓reduceIte, Nat.reduceAdd, Nat.zero_add, Nat.add_zero, Nat.le_refl, Nat.zero_le, ↓zx_iconst, ↓zy_istore_2, ↓zy_istore_3, ↓zy_istore, ↓zx_iload, ↓zx_bipush, ↓zy_ic_ge, ↓zx_aload_0, ↓zyg_6_3, ↓zyc_164, ↓zy_if_ne, ↓zyc_138, ↓zy_iadd, ↓zy_ic_ne, ↓zx_iload_2, ↓zx_iload_1, ↓zx_goto, ↓zx_iload_3, ↓zy_iinc, ↓zx_iret, ↓zya_21, ↓zya_22, ↓zya_24, ↓zya_26, ↓zya_27, ↓zya_30, ↓zya_32, ↓zya_33, z_i10, z_10, z_00, and_self, not_true_eq_false, not_false_eq_true, true_and, and_true, false_and, and_false, true_or, false_or, or_false, or_true, or_self, if_true, if_false, ite_self, ↓zs_72, zn_p0, zn_p1, zn_p2, zn_p3, zn_p4, zn_p5, zn_p6, zn_p7, zn_p8, zn_p13, zn_p88, zn_p891, zn_m2, zn_m3, zn_m8, zn_m17, zn_m29, zn_m88, zn_m891, zn_a2, zn_a3, zn_a6, zn_a8, zn_a18, zn_a66, zn_a88, zn_a211, zn_a891, zp_ri2i, nI_add, z_vr, nI_clamp, zn_w0, zn_w1, zn_w2, zn_w3, zn_w4, zn_w5, zn_t0, zn_t1, zn_t2, zn_t3, zn_t4, zn_t5, h1]
    rw [e]
    rfl
  | succ n ih =>
    intro i p hi
    have hi : i + (n + 1) = (z_I (z_g m 1) 22 0 3).toNatClampNeg := hi
    have hN2 := hB.2
    have hl : i < 40 := by omega
    have h1 : (z_I (z_g m 1) 22 0 3 ≤ nI i) = False := by rw [hB.eq]; exact z_le0 (by omega) (by omega)
    have h164 := fun Q => zs_164 (d := d) (m := m) (l := i) (Q := Q) hl
    rw [zu_207_17]
    have ih := ih (i + 1) (mWaS (z_g m 1) v ρ i p) (by show i + 1 + n = (z_I (z_g m 1) 22 0 3).toNatClampNeg; omega)
    refine Eq.trans ?_ ih
    unfold mWaS
    rcases Classical.em (mSt (z_g m 1) i = 0) with h2 | h2
    · have h2 := eq_true h2
      rcases Classical.em (z_I (z_g m 1) 22 0 (211 + 17 * i + 5) = nI ρ) with h3 | h3
      · have h3 := eq_true h3
        rcases Classical.em (p.1 = v) with h4 | h4
        · have h4 := eq_true h4
          simp (disch := omega) only [↓zu_207_64, ↓zu_207_65, ↓zu_207_69, ↓zx_nil, ↓zx_cons, ↓zp_li, ↓zp_ll, ↓zp_lr, ↓zq_li0, ↓zq_li1, ↓zq_ll0, ↓zq_ll1, ↓zq_lr0, ↓zq_lr1, ↓zk_0, ↓zk_1n, ↓zk_1i, ↓zk_1r, ↓zk_1l, ↓zk_2, zp_okt, ↓zp_okl, zp_sh0, zp_sh1, zp_psn, zp_pss, ↓zp_ri1, ↓zp_ri20, ↓zp_ri21, ↓zp_rl, ↓zp_ra, ↓zp_rv, ↓zp_br, ↓reduceIte, Nat.reduceAdd, Nat.zero_add, Nat.add_zero, Nat.le_refl, Nat.zero_le, ↓zx_iconst, ↓zy_istore_2, ↓zy_istore_3, ↓zy_istore, ↓zx_iload, ↓zx_bipush, ↓zy_ic_ge, ↓zx_aload_0, ↓zyg_6_3, ↓zyc_164, ↓zy_if_ne, ↓zyc_138, ↓zy_iadd, ↓zy_ic_ne, ↓zx_iload_2, ↓zx_iload_1, ↓zx_goto, ↓zx_iload_3, ↓zy_iinc, ↓zx_iret, ↓zya_21, ↓zya_22, ↓zya_24, ↓zya_26, ↓zya_27, ↓zya_30, ↓zya_32, ↓zya_33, z_i10, z_10, z_00, and_self, not_true_eq_false, not_false_eq_true, true_and, and_true, false_and, and_false, true_or, false_or, or_false, or_true, or_self, if_true, if_false, ite_self, ↓zs_72, zn_p0, zn_p1, zn_p2, zn_p3, zn_p4, zn_p5, zn_p6, zn_p7, zn_p8, zn_p13, zn_p88, zn_p891, zn_m2, zn_m3, zn_m8, zn_m17, zn_m29, zn_m88, zn_m891, zn_a2, zn_a3, zn_a6, zn_a8, zn_a18, zn_a66, zn_a88, zn_a211, zn_a891, zp_ri2i, nI_add, z_vr, nI_clamp, zn_w0, zn_w1, zn_w2, zn_w3, zn_w4, zn_w5, zn_t0, zn_t1, zn_t2, zn_t3, zn_t4, zn_t5, ↓zs_138, h1, h164, h2, h3, h4]
        · simp (disch := omega) only [↓zu_207_64, ↓zu_207_65, ↓zu_207_69, ↓zx_nil, ↓zx_cons, ↓zp_li, ↓zp_ll, ↓zp_lr, ↓zq_li0, ↓zq_li1, ↓zq_ll0, ↓zq_ll1, ↓zq_lr0, ↓zq_lr1, ↓zk_0, ↓zk_1n, ↓zk_1i, ↓zk_1r, ↓zk_1l, ↓zk_2, zp_okt, ↓zp_okl, zp_sh0, zp_sh1, zp_psn, zp_pss, ↓zp_ri1, ↓zp_ri20, ↓zp_ri21, ↓zp_rl, ↓zp_ra, ↓zp_rv, ↓zp_br, ↓reduceIte, Nat.reduceAdd, Nat.zero_add, Nat.add_zero, Nat.le_refl, Nat.zero_le, ↓zx_iconst, ↓zy_istore_2, ↓zy_istore_3, ↓zy_istore, ↓zx_iload, ↓zx_bipush, ↓zy_ic_ge, ↓zx_aload_0, ↓zyg_6_3, ↓zyc_164, ↓zy_if_ne, ↓zyc_138, ↓zy_iadd, ↓zy_ic_ne, ↓zx_iload_2, ↓zx_iload_1, ↓zx_goto, ↓zx_iload_3, ↓zy_iinc, ↓zx_iret, ↓zya_21, ↓zya_22, ↓zya_24, ↓zya_26, ↓zya_27, ↓zya_30, ↓zya_32, ↓zya_33, z_i10, z_10, z_00, and_self, not_true_eq_false, not_false_eq_true, true_and, and_true, false_and, and_false, true_or, false_or, or_false, or_true, or_self, if_true, if_false, ite_self, ↓zs_72, zn_p0, zn_p1, zn_p2, zn_p3, zn_p4, zn_p5, zn_p6, zn_p7, zn_p8, zn_p13, zn_p88, zn_p891, zn_m2, zn_m3, zn_m8, zn_m17, zn_m29, zn_m88, zn_m891, zn_a2, zn_a3, zn_a6, zn_a8, zn_a18, zn_a66, zn_a88, zn_a211, zn_a891, zp_ri2i, nI_add, z_vr, nI_clamp, zn_w0, zn_w1, zn_w2, zn_w3, zn_w4, zn_w5, zn_t0, zn_t1, zn_t2, zn_t3, zn_t4, zn_t5, ↓zs_138, h1, h164, h2, h3, h4]
      · simp (disch := omega) only [↓zu_207_64, ↓zu_207_65, ↓zu_207_69, ↓zx_nil, ↓zx_cons, ↓zp_li, ↓zp_ll, ↓zp_lr, ↓zq_li0, ↓zq_li1, ↓zq_ll0, ↓zq_ll1, ↓zq_lr0, ↓zq_lr1, ↓zk_0, ↓zk_1n, ↓zk_1i, ↓zk_1r, ↓zk_1l, ↓zk_2, zp_okt, ↓zp_okl, zp_sh0, zp_sh1, zp_psn, zp_pss, ↓zp_ri1, ↓zp_ri20, ↓zp_ri21, ↓zp_rl, ↓zp_ra, ↓zp_rv, ↓zp_br, ↓reduceIte, Nat.reduceAdd, Nat.zero_add, Nat.add_zero, Nat.le_refl, Nat.zero_le, ↓zx_iconst, ↓zy_istore_2, ↓zy_istore_3, ↓zy_istore, ↓zx_iload, ↓zx_bipush, ↓zy_ic_ge, ↓zx_aload_0, ↓zyg_6_3, ↓zyc_164, ↓zy_if_ne, ↓zyc_138, ↓zy_iadd, ↓zy_ic_ne, ↓zx_iload_2, ↓zx_iload_1, ↓zx_goto, ↓zx_iload_3, ↓zy_iinc, ↓zx_iret, ↓zya_21, ↓zya_22, ↓zya_24, ↓zya_26, ↓zya_27, ↓zya_30, ↓zya_32, ↓zya_33, z_i10, z_10, z_00, and_self, not_true_eq_false, not_false_eq_true, true_and, and_true, false_and, and_false, true_or, false_or, or_false, or_true, or_self, if_true, if_false, ite_self, ↓zs_72, zn_p0, zn_p1, zn_p2, zn_p3, zn_p4, zn_p5, zn_p6, zn_p7, zn_p8, zn_p13, zn_p88, zn_p891, zn_m2, zn_m3, zn_m8, zn_m17, zn_m29, zn_m88, zn_m891, zn_a2, zn_a3, zn_a6, zn_a8, zn_a18, zn_a66, zn_a88, zn_a211, zn_a891, zp_ri2i, nI_add, z_vr, nI_clamp, zn_w0, zn_w1, zn_w2, zn_w3, zn_w4, zn_w5, zn_t0, zn_t1, zn_t2, zn_t3, zn_t4, zn_t5, ↓zs_138, h1, h164, h2, h3]
    · simp (disch := omega) only [↓zu_207_64, ↓zu_207_65, ↓zu_207_69, ↓zx_nil, ↓zx_cons, ↓zp_li, ↓zp_ll, ↓zp_lr, ↓zq_li0, ↓zq_li1, ↓zq_ll0, ↓zq_ll1, ↓zq_lr0, ↓zq_lr1, ↓zk_0, ↓zk_1n, ↓zk_1i, ↓zk_1r, ↓zk_1l, ↓zk_2, zp_okt, ↓zp_okl, zp_sh0, zp_sh1, zp_psn, zp_pss, ↓zp_ri1, ↓zp_ri20, ↓zp_ri21, ↓zp_rl, ↓zp_ra, ↓zp_rv, ↓zp_br, ↓reduceIte, Nat.reduceAdd, Nat.zero_add, Nat.add_zero, Nat.le_refl, Nat.zero_le, ↓zx_iconst, ↓zy_istore_2, ↓zy_istore_3, ↓zy_istore, ↓zx_iload, ↓zx_bipush, ↓zy_ic_ge, ↓zx_aload_0, ↓zyg_6_3, ↓zyc_164, ↓zy_if_ne, ↓zyc_138, ↓zy_iadd, ↓zy_ic_ne, ↓zx_iload_2, ↓zx_iload_1, ↓zx_goto, ↓zx_iload_3, ↓zy_iinc, ↓zx_iret, ↓zya_21, ↓zya_22, ↓zya_24, ↓zya_26, ↓zya_27, ↓zya_30, ↓zya_32, ↓zya_33, z_i10, z_10, z_00, and_self, not_true_eq_false, not_false_eq_true, true_and, and_true, false_and, and_false, true_or, false_or, or_false, or_true, or_self, if_true, if_false, ite_self, ↓zs_72, zn_p0, zn_p1, zn_p2, zn_p3, zn_p4, zn_p5, zn_p6, zn_p7, zn_p8, zn_p13, zn_p88, zn_p891, zn_m2, zn_m3, zn_m8, zn_m17, zn_m29, zn_m88, zn_m891, zn_a2, zn_a3, zn_a6, zn_a8, zn_a18, zn_a66, zn_a88, zn_a211, zn_a891, zp_ri2i, nI_add, z_vr, nI_clamp, zn_w0, zn_w1, zn_w2, zn_w3, zn_w4, zn_w5, zn_t0, zn_t1, zn_t2, zn_t3, zn_t4, zn_t5, h1, h164, h2]
set_option maxRecDepth 100000 in
set_option maxHeartbeats 4000000 in
theorem zl_207 (hB : z_nn (z_I (z_g m 1) 22 0 3) 40) : ∀ (n ρ : Nat) (p : Int32 × Int32) (o5 : Option zV), ρ + n = 10 → zW 207 (d + 2) Q 7 [some (zr (some (6, 1, 0))), some (zi v), some (zi p.1), some (zi p.2), some (zi (nI ρ)), o5] [] m 0 = Q (some (zi (z_it (mWaR (z_g m 1) v) n ρ p).2)) m := by
  intro n
  induction n with
  | zero =>
    intro ρ p o5 hi
    have h1 : (10 ≤ nI ρ) = True := z_le1 (a := 10) (by omega) (by omega)
    rw [zu_207_7]
    simp only [↓zu_207_81, ↓zx_nil, ↓zx_cons, ↓zp_li, ↓zp_ll, ↓zp_lr, ↓zq_li0, ↓zq_li1, ↓zq_ll0, ↓zq_ll1, ↓zq_lr0, ↓zq_lr1, ↓zk_0, ↓zk_1n, ↓zk_1i, ↓zk_1r, ↓zk_1l, ↓zk_2, zp_okt, ↓zp_okl, zp_sh0, zp_sh1, zp_psn, zp_pss, ↓zp_ri1, ↓zp_ri20, ↓zp_ri21, ↓zp_rl, ↓zp_ra, ↓zp_rv, ↓zp_br, ↓reduceIte, Nat.reduceAdd, Nat.zero_add, Nat.add_zero, Nat.le_refl, Nat.zero_le, ↓zx_iconst, ↓zy_istore_2, ↓zy_istore_3, ↓zy_istore, ↓zx_iload, ↓zx_bipush, ↓zy_ic_ge, ↓zx_aload_0, ↓zyg_6_3, ↓zyc_164, ↓zy_if_ne, ↓zyc_138, ↓zy_iadd, ↓zy_ic_ne, ↓zx_iload_2, ↓zx_iload_1, ↓zx_goto, ↓zx_iload_3, ↓zy_iinc, ↓zx_iret, ↓zya_21, ↓zya_22, ↓zya_24, ↓zya_26, ↓zya_27, ↓zya_30, ↓zya_32, ↓zya_33, z_i10, z_10, z_00, and_self, not_true_eq_false, not_false_eq_true, true_and, and_true, false_and, and_false, true_or, false_or, or_false, or_true, or_self, if_true, if_false, ite_self, ↓zs_72, h1]
    rfl
  | succ n ih =>
    intro ρ p o5 hi
    have h1 : (10 ≤ nI ρ) = False := z_le0 (a := 10) (by omega) (by omega)
    have hin := zl_207i (d := d) (m := m) (Q := Q) (v := v) (ρ := ρ) hB (mN (z_g m 1)) 0 p (Nat.zero_add _)
    rw [zu_207_7]
    simp only [↓zx_nil, ↓zx_cons, ↓zp_li, ↓zp_ll, ↓zp_lr, ↓zq_li0, ↓zq_li1, ↓zq_ll0, ↓zq_ll1, ↓zq_lr0, ↓zq_lr1, ↓zk_0, ↓zk_1n, ↓zk_1i, ↓zk_1r, ↓zk_1l, ↓zk_2, zp_okt, ↓zp_okl, zp_sh0, zp_sh1, zp_psn, zp_pss, ↓zp_ri1, ↓zp_ri20, ↓zp_ri21, ↓zp_rl, ↓zp_ra, ↓zp_rv, ↓zp_br, ↓reduceIte, Nat.reduceAdd, Nat.zero_add, Nat.add_zero, Nat.le_refl, Nat.zero_le, ↓zx_iconst, ↓zy_istore_2, ↓zy_istore_3, ↓zy_istore, ↓zx_iload, ↓zx_bipush, ↓zy_ic_ge, ↓zx_aload_0, ↓zyg_6_3, ↓zyc_164, ↓zy_if_ne, ↓zyc_138, ↓zy_iadd, ↓zy_ic_ne, ↓zx_iload_2, ↓zx_iload_1, ↓zx_goto, ↓zx_iload_3, ↓zy_iinc, ↓zx_iret, ↓zya_21, ↓zya_22, ↓zya_24, ↓zya_26, ↓zya_27, ↓zya_30, ↓zya_32, ↓zya_33, z_i10, z_10, z_00, and_self, not_true_eq_false, not_false_eq_true, true_and, and_true, false_and, and_false, true_or, false_or, or_false, or_true, or_self, if_true, if_false, ite_self, ↓zs_72, h1]
    refine Eq.trans hin ?_
    simp only [↓zu_207_75, ↓zx_nil, ↓zx_cons, ↓zp_li, ↓zp_ll, ↓zp_lr, ↓zq_li0, ↓zq_li1, ↓zq_ll0, ↓zq_ll1, ↓zq_lr0, ↓zq_lr1, ↓zk_0, ↓zk_1n, ↓zk_1i, ↓zk_1r, ↓zk_1l, ↓zk_2, zp_okt, ↓zp_okl, zp_sh0, zp_sh1, zp_psn, zp_pss, ↓zp_ri1, ↓zp_ri20, ↓zp_ri21, ↓zp_rl, ↓zp_ra, ↓zp_rv, ↓zp_br, ↓reduceIte, Nat.reduceAdd, Nat.zero_add, Nat.add_zero, Nat.le_refl, Nat.zero_le, ↓zx_iconst, ↓zy_istore_2, ↓zy_istore_3, ↓zy_istore, ↓zx_iload, ↓zx_bipush, ↓zy_ic_ge, ↓zx_aload_0, ↓zyg_6_3, ↓zyc_164, ↓zy_if_ne, ↓zyc_138, ↓zy_iadd, ↓zy_ic_ne, ↓zx_iload_2, ↓zx_iload_1, ↓zx_goto, ↓zx_iload_3, ↓zy_iinc, ↓zx_iret, ↓zya_21, ↓zya_22, ↓zya_24, ↓zya_26, ↓zya_27, ↓zya_30, ↓zya_32, ↓zya_33, z_i10, z_10, z_00, and_self, not_true_eq_false, not_false_eq_true, true_and, and_true, false_and, and_false, true_or, false_or, or_false, or_true, or_self, if_true, if_false, ite_self, ↓zs_72, nI_1]
    exact ih (ρ + 1) _ _ (by omega)
set_option maxRecDepth 100000 in
set_option maxHeartbeats 4000000 in
theorem zs_207 (hB : z_nn (z_I (z_g m 1) 22 0 3) 40) : z_call (d + 3) 207 [zr (some (6, 1, 0)), zi v] m Q = Q (some (zi (mWait (z_g m 1) v))) m := by
  simp only [↓zen_207, ↓zu_207_0, ↓zu_207_64, ↓zu_207_65, ↓zu_207_69, ↓zu_207_75, ↓zu_207_81, ↓zx_nil, ↓zx_cons, ↓zp_li, ↓zp_ll, ↓zp_lr, ↓zq_li0, ↓zq_li1, ↓zq_ll0, ↓zq_ll1, ↓zq_lr0, ↓zq_lr1, ↓zk_0, ↓zk_1n, ↓zk_1i, ↓zk_1r, ↓zk_1l, ↓zk_2, zp_okt, ↓zp_okl, zp_sh0, zp_sh1, zp_psn, zp_pss, ↓zp_ri1, ↓zp_ri20, ↓zp_ri21, ↓zp_rl, ↓zp_ra, ↓zp_rv, ↓zp_br, ↓reduceIte, Nat.reduceAdd, Nat.zero_add, Nat.add_zero, Nat.le_refl, Nat.zero_le, ↓zx_iconst, ↓zy_istore_2, ↓zy_istore_3, ↓zy_istore, ↓zx_iload, ↓zx_bipush, ↓zy_ic_ge, ↓zx_aload_0, ↓zyg_6_3, ↓zyc_164, ↓zy_if_ne, ↓zyc_138, ↓zy_iadd, ↓zy_ic_ne, ↓zx_iload_2, ↓zx_iload_1, ↓zx_goto, ↓zx_iload_3, ↓zy_iinc, ↓zx_iret, ↓zya_21, ↓zya_22, ↓zya_24, ↓zya_26, ↓zya_27, ↓zya_30, ↓zya_32, ↓zya_33, z_i10, z_10, z_00, and_self, not_true_eq_false, not_false_eq_true, true_and, and_true, false_and, and_false, true_or, false_or, or_false, or_true, or_self, if_true, if_false, ite_self, ↓zs_72]
  exact zl_207 hB 10 0 (0, -1) none (by omega)
-- late
def mLtS (M : zS) (v : Int32) (l : Nat) (p : Int32 × Int32) : Int32 × Int32 := if mSt M l = 1 ∧ ¬ z_I M 22 0 0 ≤ mLat M l then (p.1 + 1, if p.1 = v then nI l else p.2) else p
def mLate (M : zS) (v : Int32) : Int32 := (z_it (mLtS M v) (mN M) 0 (0, -1)).2
set_option maxRecDepth 100000 in
set_option maxHeartbeats 4000000 in
theorem zl_209 (hB : z_nn (z_I (z_g m 1) 22 0 3) 40) : ∀ (n i : Nat) (p : Int32 × Int32), i + n = mN (z_g m 1) → zW 209 (d + 3) Q 7 [some (zr (some (6, 1, 0))), some (zi v), some (zi p.1), some (zi p.2), some (zi (nI i))] [] m 0 = Q (some (zi (z_it (mLtS (z_g m 1) v) n i p).2)) m := by
  intro n
  induction n with
  | zero =>
    intro i p hi
    have hi : i + 0 = (z_I (z_g m 1) 22 0 3).toNatClampNeg := hi
    have hN2 := hB.2
    have h1 : (z_I (z_g m 1) 22 0 3 ≤ nI i) = True := by rw [hB.eq]; exact z_le1 (by omega) (by omega)
    rw [zu_209_7]
    simp only [↓zu_209_63, ↓zx_nil, ↓zx_cons, ↓zp_li, ↓zp_ll, ↓zp_lr, ↓zq_li0, ↓zq_li1, ↓zq_ll0, ↓zq_ll1, ↓zq_lr0, ↓zq_lr1, ↓zk_0, ↓zk_1n, ↓zk_1i, ↓zk_1r, ↓zk_1l, ↓zk_2, zp_okt, ↓zp_okl, zp_sh0, zp_sh1, zp_psn, zp_pss, ↓zp_ri1, ↓zp_ri20, ↓zp_ri21, ↓zp_rl, ↓zp_ra, ↓zp_rv, ↓zp_br, ↓reduceIte, Nat.reduceAdd, Nat.zero_add, Nat.add_zero, Nat.le_refl, Nat.zero_le, ↓zx_iconst, ↓zy_istore_2, ↓zy_istore_3, ↓zy_istore, ↓zx_iload, ↓zx_aload_0, ↓zyg_6_3, ↓zy_ic_ge, ↓zyc_177, ↓zy_if_eq, ↓zyc_180, ↓zx_iload_2, ↓zx_iload_1, ↓zy_ic_ne, ↓zx_goto, ↓zx_iload_3, ↓zy_iinc, ↓zx_iret, ↓zya_21, ↓zya_22, ↓zya_24, ↓zya_26, ↓zya_27, ↓zya_30, ↓zya_32, ↓zya_33, z_i10, z_10, z_00, and_self, not_true_eq_false, not_false_eq_true, true_and, and_true, false_and, and_false, true_or, false_or, or_false, or_true, or_self, if_true, if_false, ite_self, ↓zs_72, zn_p0, zn_p1, zn_p2, zn_p3, zn_p4, zn_p5, zn_p6, zn_p7, zn_p8, zn_p13, zn_p88, zn_p891, zn_m2, zn_m3, zn_m8, zn_m17, zn_m29, zn_m88, zn_m891, zn_a2, zn_a3, zn_a6, zn_a8, zn_a18, zn_a66, zn_a88, zn_a211, zn_a891, zp_ri2i, nI_add, z_vr, nI_clamp, zn_w0, zn_w1, zn_w2, zn_w3, zn_w4, zn_w5, zn_t0, zn_t1, zn_t2, zn_t3, zn_t4, zn_t5, h1]
    rfl
  | succ n ih =>
    intro i p hi
    have hi : i + (n + 1) = (z_I (z_g m 1) 22 0 3).toNatClampNeg := hi
    have hN2 := hB.2
    have hl : i < 40 := by omega
    have h1 : (z_I (z_g m 1) 22 0 3 ≤ nI i) = False := by rw [hB.eq]; exact z_le0 (by omega) (by omega)
    have h177 := fun Q => zs_177n (d := d) (m := m) (i := i) (Q := Q) hB (by show i < (z_I (z_g m 1) 22 0 3).toNatClampNeg; omega)
    have h180 := fun Q => zs_180 (d := d + 1) (m := m) (l := i) (Q := Q) hl
    rw [zu_209_7]
    have ih := ih (i + 1) (mLtS (z_g m 1) v i p) (by show i + 1 + n = (z_I (z_g m 1) 22 0 3).toNatClampNeg; omega)
    refine Eq.trans ?_ ih
    unfold mLtS
    rcases Classical.em (mSt (z_g m 1) i = 1) with h2 | h2
    · have h2 := eq_true h2
      rcases Classical.em (z_I (z_g m 1) 22 0 0 ≤ mLat (z_g m 1) i) with h3 | h3
      · simp (disch := omega) only [↓zu_209_52, ↓zu_209_53, ↓zu_209_57, ↓zx_nil, ↓zx_cons, ↓zp_li, ↓zp_ll, ↓zp_lr, ↓zq_li0, ↓zq_li1, ↓zq_ll0, ↓zq_ll1, ↓zq_lr0, ↓zq_lr1, ↓zk_0, ↓zk_1n, ↓zk_1i, ↓zk_1r, ↓zk_1l, ↓zk_2, zp_okt, ↓zp_okl, zp_sh0, zp_sh1, zp_psn, zp_pss, ↓zp_ri1, ↓zp_ri20, ↓zp_ri21, ↓zp_rl, ↓zp_ra, ↓zp_rv, ↓zp_br, ↓reduceIte, Nat.reduceAdd, Nat.zero_add, Nat.add_zero, Nat.le_refl, Nat.zero_le, ↓zx_iconst, ↓zy_istore_2, ↓zy_istore_3, ↓zy_istore, ↓zx_iload, ↓zx_aload_0, ↓zyg_6_3, ↓zy_ic_ge, ↓zyc_177, ↓zy_if_eq, ↓zyc_180, ↓zx_iload_2, ↓zx_iload_1, ↓zy_ic_ne, ↓zx_goto, ↓zx_iload_3, ↓zy_iinc, ↓zx_iret, ↓zya_21, ↓zya_22, ↓zya_24, ↓zya_26, ↓zya_27, ↓zya_30, ↓zya_32, ↓zya_33, z_i10, z_10, z_00, and_self, not_true_eq_false, not_false_eq_true, true_and, and_true, false_and, and_false, true_or, false_or, or_false, or_true, or_self, if_true, if_false, ite_self, ↓zs_72, zn_p0, zn_p1, zn_p2, zn_p3, zn_p4, zn_p5, zn_p6, zn_p7, zn_p8, zn_p13, zn_p88, zn_p891, zn_m2, zn_m3, zn_m8, zn_m17, zn_m29, zn_m88, zn_m891, zn_a2, zn_a3, zn_a6, zn_a8, zn_a18, zn_a66, zn_a88, zn_a211, zn_a891, zp_ri2i, nI_add, z_vr, nI_clamp, zn_w0, zn_w1, zn_w2, zn_w3, zn_w4, zn_w5, zn_t0, zn_t1, zn_t2, zn_t3, zn_t4, zn_t5, h1, h177, h180, h2, h3]
      · rcases Classical.em (p.1 = v) with h4 | h4
        · have h4 := eq_true h4
          simp (disch := omega) only [↓zu_209_52, ↓zu_209_53, ↓zu_209_57, ↓zx_nil, ↓zx_cons, ↓zp_li, ↓zp_ll, ↓zp_lr, ↓zq_li0, ↓zq_li1, ↓zq_ll0, ↓zq_ll1, ↓zq_lr0, ↓zq_lr1, ↓zk_0, ↓zk_1n, ↓zk_1i, ↓zk_1r, ↓zk_1l, ↓zk_2, zp_okt, ↓zp_okl, zp_sh0, zp_sh1, zp_psn, zp_pss, ↓zp_ri1, ↓zp_ri20, ↓zp_ri21, ↓zp_rl, ↓zp_ra, ↓zp_rv, ↓zp_br, ↓reduceIte, Nat.reduceAdd, Nat.zero_add, Nat.add_zero, Nat.le_refl, Nat.zero_le, ↓zx_iconst, ↓zy_istore_2, ↓zy_istore_3, ↓zy_istore, ↓zx_iload, ↓zx_aload_0, ↓zyg_6_3, ↓zy_ic_ge, ↓zyc_177, ↓zy_if_eq, ↓zyc_180, ↓zx_iload_2, ↓zx_iload_1, ↓zy_ic_ne, ↓zx_goto, ↓zx_iload_3, ↓zy_iinc, ↓zx_iret, ↓zya_21, ↓zya_22, ↓zya_24, ↓zya_26, ↓zya_27, ↓zya_30, ↓zya_32, ↓zya_33, z_i10, z_10, z_00, and_self, not_true_eq_false, not_false_eq_true, true_and, and_true, false_and, and_false, true_or, false_or, or_false, or_true, or_self, if_true, if_false, ite_self, ↓zs_72, zn_p0, zn_p1, zn_p2, zn_p3, zn_p4, zn_p5, zn_p6, zn_p7, zn_p8, zn_p13, zn_p88, zn_p891, zn_m2, zn_m3, zn_m8, zn_m17, zn_m29, zn_m88, zn_m891, zn_a2, zn_a3, zn_a6, zn_a8, zn_a18, zn_a66, zn_a88, zn_a211, zn_a891, zp_ri2i, nI_add, z_vr, nI_clamp, zn_w0, zn_w1, zn_w2, zn_w3, zn_w4, zn_w5, zn_t0, zn_t1, zn_t2, zn_t3, zn_t4, zn_t5, h1, h177, h180, h2, h3, h4]
        · simp (disch := omega) only [↓zu_209_52, ↓zu_209_53, ↓zu_209_57, ↓zx_nil, ↓zx_cons, ↓zp_li, ↓zp_ll, ↓zp_lr, ↓zq_li0, ↓zq_li1, ↓zq_ll0, ↓zq_ll1, ↓zq_lr0, ↓zq_lr1, ↓zk_0, ↓zk_1n, ↓zk_1i, ↓zk_1r, ↓zk_1l, ↓zk_2, zp_okt, ↓zp_okl, zp_sh0, zp_sh1, zp_psn, zp_pss, ↓zp_ri1, ↓zp_ri20, ↓zp_ri21, ↓zp_rl, ↓zp_ra, ↓zp_rv, ↓zp_br, ↓reduceIte, Nat.reduceAdd, Nat.zero_add, Nat.add_zero, Nat.le_refl, Nat.zero_le, ↓zx_iconst, ↓zy_istore_2, ↓zy_istore_3, ↓zy_istore, ↓zx_iload, ↓zx_aload_0, ↓zyg_6_3, ↓zy_ic_ge, ↓zyc_177, ↓zy_if_eq, ↓zyc_180, ↓zx_iload_2, ↓zx_iload_1, ↓zy_ic_ne, ↓zx_goto, ↓zx_iload_3, ↓zy_iinc, ↓zx_iret, ↓zya_21, ↓zya_22, ↓zya_24, ↓zya_26, ↓zya_27, ↓zya_30, ↓zya_32, ↓zya_33, z_i10, z_10, z_00, and_self, not_true_eq_false, not_false_eq_true, true_and, and_true, false_and, and_false, true_or, false_or, or_false, or_true, or_self, if_true, if_false, ite_self, ↓zs_72, zn_p0, zn_p1, zn_p2, zn_p3, zn_p4, zn_p5, zn_p6, zn_p7, zn_p8, zn_p13, zn_p88, zn_p891, zn_m2, zn_m3, zn_m8, zn_m17, zn_m29, zn_m88, zn_m891, zn_a2, zn_a3, zn_a6, zn_a8, zn_a18, zn_a66, zn_a88, zn_a211, zn_a891, zp_ri2i, nI_add, z_vr, nI_clamp, zn_w0, zn_w1, zn_w2, zn_w3, zn_w4, zn_w5, zn_t0, zn_t1, zn_t2, zn_t3, zn_t4, zn_t5, h1, h177, h180, h2, h3, h4]
    · simp (disch := omega) only [↓zu_209_52, ↓zu_209_53, ↓zu_209_57, ↓zx_nil, ↓zx_cons, ↓zp_li, ↓zp_ll, ↓zp_lr, ↓zq_li0, ↓zq_li1, ↓zq_ll0, ↓zq_ll1, ↓zq_lr0, ↓zq_lr1, ↓zk_0, ↓zk_1n, ↓zk_1i, ↓zk_1r, ↓zk_1l, ↓zk_2, zp_okt, ↓zp_okl, zp_sh0, zp_sh1, zp_psn, zp_pss, ↓zp_ri1, ↓zp_ri20, ↓zp_ri21, ↓zp_rl, ↓zp_ra, ↓zp_rv, ↓zp_br, ↓reduceIte, Nat.reduceAdd, Nat.zero_add, Nat.add_zero, Nat.le_refl, Nat.zero_le, ↓zx_iconst, ↓zy_istore_2, ↓zy_istore_3, ↓zy_istore, ↓zx_iload, ↓zx_aload_0, ↓zyg_6_3, ↓zy_ic_ge, ↓zyc_177, ↓zy_if_eq, ↓zyc_180, ↓zx_iload_2, ↓zx_iload_1, ↓zy_ic_ne, ↓zx_goto, ↓zx_iload_3, ↓zy_iinc, ↓zx_iret, ↓zya_21, ↓zya_22, ↓zya_24, ↓zya_26, ↓zya_27, ↓zya_30, ↓zya_32, ↓zya_33, z_i10, z_10, z_00, and_self, not_true_eq_false, not_false_eq_true, true_and, and_true, false_and, and_false, true_or, false_or, or_false, or_true, or_self, if_true, if_false, ite_self, ↓zs_72, zn_p0, zn_p1, zn_p2, zn_p3, zn_p4, zn_p5, zn_p6, zn_p7, zn_p8, zn_p13, zn_p88, zn_p891, zn_m2, zn_m3, zn_m8, zn_m17, zn_m29, zn_m88, zn_m891, zn_a2, zn_a3, zn_a6, zn_a8, zn_a18, zn_a66, zn_a88, zn_a211, zn_a891, zp_ri2i, nI_add, z_vr, nI_clamp, zn_w0, zn_w1, zn_w2, zn_w3, zn_w4, zn_w5, zn_t0, zn_t1, zn_t2, zn_t3, zn_t4, zn_t5, h1, h177, h2]
set_option maxRecDepth 100000 in
set_option maxHeartbeats 4000000 in
theorem zs_209 (hB : z_nn (z_I (z_g m 1) 22 0 3) 40) : z_call (d + 4) 209 [zr (some (6, 1, 0)), zi v] m Q = Q (some (zi (mLate (z_g m 1) v))) m := by
  simp only [↓zen_209, ↓zu_209_0, ↓zu_209_52, ↓zu_209_53, ↓zu_209_57, ↓zu_209_63, ↓zx_nil, ↓zx_cons, ↓zp_li, ↓zp_ll, ↓zp_lr, ↓zq_li0, ↓zq_li1, ↓zq_ll0, ↓zq_ll1, ↓zq_lr0, ↓zq_lr1, ↓zk_0, ↓zk_1n, ↓zk_1i, ↓zk_1r, ↓zk_1l, ↓zk_2, zp_okt, ↓zp_okl, zp_sh0, zp_sh1, zp_psn, zp_pss, ↓zp_ri1, ↓zp_ri20, ↓zp_ri21, ↓zp_rl, ↓zp_ra, ↓zp_rv, ↓zp_br, ↓reduceIte, Nat.reduceAdd, Nat.zero_add, Nat.add_zero, Nat.le_refl, Nat.zero_le, ↓zx_iconst, ↓zy_istore_2, ↓zy_istore_3, ↓zy_istore, ↓zx_iload, ↓zx_aload_0, ↓zyg_6_3, ↓zy_ic_ge, ↓zyc_177, ↓zy_if_eq, ↓zyc_180, ↓zx_iload_2, ↓zx_iload_1, ↓zy_ic_ne, ↓zx_goto, ↓zx_iload_3, ↓zy_iinc, ↓zx_iret, ↓zya_21, ↓zya_22, ↓zya_24, ↓zya_26, ↓zya_27, ↓zya_30, ↓zya_32, ↓zya_33, z_i10, z_10, z_00, and_self, not_true_eq_false, not_false_eq_true, true_and, and_true, false_and, and_false, true_or, false_or, or_false, or_true, or_self, if_true, if_false, ite_self, ↓zs_72]
  exact zl_209 hB (mN (z_g m 1)) 0 (0, -1) (Nat.zero_add _)
end Mo12
