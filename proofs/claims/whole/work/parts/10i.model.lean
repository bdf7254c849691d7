/-! ===== THE MODEL: turns, days ===== -/
section Mo9
variable {d r i k g s l t q : Nat} {m : zM} {Q : zQ} {v w a b c e f x y : Int32}
def mBok (M : zS) : Prop := z_nn (z_I M 22 0 3) 40 ∧ ∀ l, l < (z_I M 22 0 3).toNatClampNeg → mWl M l (mFr M l)
theorem mSk.n3 {M N : zS} (h : mSk M N) : z_I N 22 0 3 = z_I M 22 0 3 := h 3 (by unfold mSki; omega)
theorem mSk.bok {M N : zS} (h : mSk M N) (b : mBok M) : mBok N := by
  unfold mBok
  rw [h.n3]
  refine ⟨b.1, fun l hl => ?_⟩
  have e : mFr N l = mFr M l := congrArg Int32.toNatClampNeg (h _ (by unfold mSki; omega))
  rw [e]
  exact h.wl (b.2 l hl)
abbrev mGo1 (M : zS) (l : Nat) : zS := z_uI (mHold M l (mFr M l) (mNeed M l)) 22 0 (211 + 17 * l + 6) 1
def mGo (M : zS) (l : Nat) : zS := z_uI (mGo1 M l) 22 0 (211 + 17 * l + 7) (z_I (mGo1 M l) 22 0 0)
theorem mSk.go {M : zS} (w : mWl M l (mFr M l)) : mSk M (mGo M l) := .tr (.tr (.hold w.hs w.hO.ord) (.up (mSki_ld (by decide) (by decide)))) (.up (mSki_ld (by decide) (by decide)))
def mTuL (ρ : Nat) : Nat → Nat → Bool → zS → Bool × zS
  | 0, _, b, M => (b, M)
  | n + 1, i, b, M => if b = true then (b, M) else if mSt M i = 0 ∧ z_I M 22 0 (211 + 17 * i + 5) = nI ρ then (if mNeed M i ≤ mFF M (mFr M i) then mTuL ρ n (i + 1) false (mGo M i) else mTuL ρ n (i + 1) (decide (z_I M 22 0 5 = 1)) M) else mTuL ρ n (i + 1) false M
theorem mSk.tuL {ρ : Nat} : ∀ (n i : Nat) (b : Bool) (M : zS), mBok M → i + n = (z_I M 22 0 3).toNatClampNeg → mSk M (mTuL ρ n i b M).2
  | 0, _, _, _, _, _ => .rf
  | n + 1, i, b, M, h, hi => by
    unfold mTuL
    split
    · exact .rf
    · split
      · split
        · have h1 := mSk.go (h.2 i (by omega))
          exact .tr h1 (mSk.tuL n (i + 1) _ _ (h1.bok h) (by rw [h1.n3]; omega))
        · exact mSk.tuL n (i + 1) _ _ h (by omega)
      · exact mSk.tuL n (i + 1) _ _ h (by omega)
abbrev bI (b : Bool) : Int32 := if b = true then 1 else 0
set_option maxRecDepth 100000 in
set_option maxHeartbeats 4000000 in
theorem zl_137i {ρ : Nat} {F : Bool → zS → Prop} (hK : ∀ b M i' o4, mBok M → zW 137 (d + 4) Q 123 [some (zr (some (6, 1, 0))), some (zi (bI b)), some (zi (nI ρ)), some (zi (nI i')), o4] [] (z_s m 1 M) 0 = F b M) : ∀ (n i : Nat) (b : Bool) (M : zS) (o4 : Option zV), mBok M → i + n = (z_I M 22 0 3).toNatClampNeg → zW 137 (d + 4) Q 12 [some (zr (some (6, 1, 0))), some (zi (bI b)), some (zi (nI ρ)), some (zi (nI i)), o4] [] (z_s m 1 M) 0 = F (mTuL ρ n i b M).1 (mTuL ρ n i b M).2 := by
  intro n
  induction n with
  | zero =>
    intro i b M o4 hB hi
    have hN := hB.1.eq
    have hN2 := hB.1.2
    have h1 : (z_I M 22 0 3 ≤ nI i) = True := by rw [hN]; exact z_le1 (by omega) (by omega)
    rw [zu_137_12]
    simp only [↓zx_nil, ↓zx_cons, ↓zp_li, ↓zp_ll, ↓zp_lr, ↓zq_li0, ↓zq_li1, ↓zq_ll0, ↓zq_ll1, ↓zq_lr0, ↓zq_lr1, ↓zk_0, ↓zk_1n, ↓zk_1i, ↓zk_1r, ↓zk_1l, ↓zk_2, zp_okt, ↓zp_okl, zp_sh0, zp_sh1, zp_psn, zp_pss, ↓zp_ri1, ↓zp_ri20, ↓zp_ri21, ↓zp_rl, ↓zp_ra, ↓zp_rv, ↓zp_br, ↓reduceIte, Nat.reduceAdd, Nat.zero_add, Nat.add_zero, Nat.le_refl, Nat.zero_le, ↓zx_iconst, ↓zy_istore_1, ↓zy_istore_2, ↓zx_iload_2, ↓zx_bipush, ↓zy_ic_ge, ↓zy_istore_3, ↓zx_iload_3, ↓zx_aload_0, ↓zyg_6_3, ↓zx_iload_1, ↓zy_if_ne, ↓zyc_138, ↓zy_istore, ↓zx_iload, ↓zy_iadd, ↓zy_ic_ne, ↓zyc_139, ↓zyc_145, ↓zy_if_eq, ↓zx_goto, ↓zy_iinc, ↓zx_ret, ↓zya_21, ↓zya_22, ↓zya_24, ↓zya_26, ↓zya_27, ↓zya_30, ↓zya_32, ↓zya_33, ↓zyb_21, ↓zyb_22, ↓zyb_24, ↓zyb_26, ↓zyb_27, ↓zyb_30, ↓zyb_32, ↓zyb_33, z_i10, z_10, z_00, and_self, not_true_eq_false, not_false_eq_true, true_and, and_true, false_and, and_false, true_or, false_or, or_false, or_true, or_self, if_true, if_false, ite_self, ↓zs_72, zn_p0, zn_p1, zn_p2, zn_p3, zn_p4, zn_p5, zn_p6, zn_p7, zn_p8, zn_p13, zn_p88, zn_p891, zn_m2, zn_m3, zn_m8, zn_m17, zn_m29, zn_m88, zn_m891, zn_a2, zn_a3, zn_a6, zn_a8, zn_a18, zn_a66, zn_a88, zn_a211, zn_a891, zp_ri2i, nI_add, z_vr, nI_clamp, zn_w0, zn_w1, zn_w2, zn_w3, zn_w4, zn_w5, zn_t0, zn_t1, zn_t2, zn_t3, zn_t4, zn_t5, h1, z_g_ss]
    exact hK b M i o4 hB
  | succ n ih =>
    intro i b M o4 hB hi
    have hN := hB.1.eq
    have hN2 := hB.1.2
    have h1 : (z_I M 22 0 3 ≤ nI i) = False := by rw [hN]; exact z_le0 (by omega) (by omega)
    rw [zu_137_12]
    unfold mTuL
    cases b with
    | true =>
      rw [if_pos rfl]
      simp only [↓zx_nil, ↓zx_cons, ↓zp_li, ↓zp_ll, ↓zp_lr, ↓zq_li0, ↓zq_li1, ↓zq_ll0, ↓zq_ll1, ↓zq_lr0, ↓zq_lr1, ↓zk_0, ↓zk_1n, ↓zk_1i, ↓zk_1r, ↓zk_1l, ↓zk_2, zp_okt, ↓zp_okl, zp_sh0, zp_sh1, zp_psn, zp_pss, ↓zp_ri1, ↓zp_ri20, ↓zp_ri21, ↓zp_rl, ↓zp_ra, ↓zp_rv, ↓zp_br, ↓reduceIte, Nat.reduceAdd, Nat.zero_add, Nat.add_zero, Nat.le_refl, Nat.zero_le, ↓zx_iconst, ↓zy_istore_1, ↓zy_istore_2, ↓zx_iload_2, ↓zx_bipush, ↓zy_ic_ge, ↓zy_istore_3, ↓zx_iload_3, ↓zx_aload_0, ↓zyg_6_3, ↓zx_iload_1, ↓zy_if_ne, ↓zyc_138, ↓zy_istore, ↓zx_iload, ↓zy_iadd, ↓zy_ic_ne, ↓zyc_139, ↓zyc_145, ↓zy_if_eq, ↓zx_goto, ↓zy_iinc, ↓zx_ret, ↓zya_21, ↓zya_22, ↓zya_24, ↓zya_26, ↓zya_27, ↓zya_30, ↓zya_32, ↓zya_33, ↓zyb_21, ↓zyb_22, ↓zyb_24, ↓zyb_26, ↓zyb_27, ↓zyb_30, ↓zyb_32, ↓zyb_33, z_i10, z_10, z_00, and_self, not_true_eq_false, not_false_eq_true, true_and, and_true, false_and, and_false, true_or, false_or, or_false, or_true, or_self, if_true, if_false, ite_self, ↓zs_72, zn_p0, zn_p1, zn_p2, zn_p3, zn_p4, zn_p5, zn_p6, zn_p7, zn_p8, zn_p13, zn_p88, zn_p891, zn_m2, zn_m3, zn_m8, zn_m17, zn_m29, zn_m88, zn_m891, zn_a2, zn_a3, zn_a6, zn_a8, zn_a18, zn_a66, zn_a88, zn_a211, zn_a891, zp_ri2i, nI_add, z_vr, nI_clamp, zn_w0, zn_w1, zn_w2, zn_w3, zn_w4, zn_w5, zn_t0, zn_t1, zn_t2, zn_t3, zn_t4, zn_t5, h1, z_g_ss, bI]
      exact hK true M i o4 hB
    | false =>
      have w := hB.2 i (by omega)
      have hl := w.hl
      rw [if_neg (by decide)]
      rcases Classical.em (mSt M i = 0) with h2 | h2
      · rcases Classical.em (z_I M 22 0 (211 + 17 * i + 5) = nI ρ) with h3 | h3
        · rw [if_pos ⟨h2, h3⟩]
          have h139 := fun Q => zs_139 (d := d) (m := z_s m 1 M) (l := i) (Q := Q) hl (by rw [z_g_ss]; exact w.hK)
          have h145 := fun a Q => zs_145 (d := d) (m := z_s m 1 M) (l := i) (s := mFr M i) (a := a) (Q := Q) hl w.hs (by rw [z_g_ss]; exact w.hf) (by rw [z_g_ss]; exact w.hO.ord)
          rw [z_g_ss] at h139 h145
          simp only [zq_ss] at h145
          have h2 : (z_I M 22 0 (211 + 17 * i + 6) = 0) = True := eq_true h2
          have h3 := eq_true h3
          rcases Classical.em (mNeed M i ≤ mFF M (mFr M i)) with h4 | h4
          · rw [if_pos h4]
            have h5 := mSk.go w
            rw [← ih (i + 1) false (mGo M i) (some (zi (nI (211 + 17 * i)))) (h5.bok hB) (by rw [h5.n3]; omega)]
            simp (disch := omega) only [↓zu_137_101, ↓zu_137_115, ↓zu_137_116, ↓zu_137_117, ↓zx_nil, ↓zx_cons, ↓zp_li, ↓zp_ll, ↓zp_lr, ↓zq_li0, ↓zq_li1, ↓zq_ll0, ↓zq_ll1, ↓zq_lr0, ↓zq_lr1, ↓zk_0, ↓zk_1n, ↓zk_1i, ↓zk_1r, ↓zk_1l, ↓zk_2, zp_okt, ↓zp_okl, zp_sh0, zp_sh1, zp_psn, zp_pss, ↓zp_ri1, ↓zp_ri20, ↓zp_ri21, ↓zp_rl, ↓zp_ra, ↓zp_rv, ↓zp_br, ↓reduceIte, Nat.reduceAdd, Nat.zero_add, Nat.add_zero, Nat.le_refl, Nat.zero_le, ↓zx_iconst, ↓zy_istore_1, ↓zy_istore_2, ↓zx_iload_2, ↓zx_bipush, ↓zy_ic_ge, ↓zy_istore_3, ↓zx_iload_3, ↓zx_aload_0, ↓zyg_6_3, ↓zx_iload_1, ↓zy_if_ne, ↓zyc_138, ↓zy_istore, ↓zx_iload, ↓zy_iadd, ↓zy_ic_ne, ↓zyc_139, ↓zyc_145, ↓zy_if_eq, ↓zx_goto, ↓zy_iinc, ↓zx_ret, ↓zya_21, ↓zya_22, ↓zya_24, ↓zya_26, ↓zya_27, ↓zya_30, ↓zya_32, ↓zya_33, ↓zyb_21, ↓zyb_22, ↓zyb_24, ↓zyb_26, ↓zyb_27, ↓zyb_30, ↓zyb_32, ↓zyb_33, z_i10, z_10, z_00, and_self, not_true_eq_false, not_false_eq_true, true_and, and_true, false_and, and_false, true_or, false_or, or_false, or_true, or_self, if_true, if_false, ite_self, ↓zs_72, zn_p0, zn_p1, zn_p2, zn_p3, zn_p4, zn_p5, zn_p6, zn_p7, zn_p8, zn_p13, zn_p88, zn_p891, zn_m2, zn_m3, zn_m8, zn_m17, zn_m29, zn_m88, zn_m891, zn_a2, zn_a3, zn_a6, zn_a8, zn_a18, zn_a66, zn_a88, zn_a211, zn_a891, zp_ri2i, nI_add, z_vr, nI_clamp, zn_w0, zn_w1, zn_w2, zn_w3, zn_w4, zn_w5, zn_t0, zn_t1, zn_t2, zn_t3, zn_t4, zn_t5, ↓zs_138, h1, h2, h3, h4, h139, h145, z_g_ss, zq_ss, bI, Bool.false_eq_true]
            rfl
          · rw [if_neg h4]
            rcases Classical.em (z_I M 22 0 5 = 1) with h6 | h6
            · rw [← ih (i + 1) _ M (some (zi (nI (211 + 17 * i)))) hB (by omega)]
              have h6 := eq_true h6
              simp (disch := omega) only [↓zu_137_101, ↓zu_137_115, ↓zu_137_116, ↓zu_137_117, ↓zx_nil, ↓zx_cons, ↓zp_li, ↓zp_ll, ↓zp_lr, ↓zq_li0, ↓zq_li1, ↓zq_ll0, ↓zq_ll1, ↓zq_lr0, ↓zq_lr1, ↓zk_0, ↓zk_1n, ↓zk_1i, ↓zk_1r, ↓zk_1l, ↓zk_2, zp_okt, ↓zp_okl, zp_sh0, zp_sh1, zp_psn, zp_pss, ↓zp_ri1, ↓zp_ri20, ↓zp_ri21, ↓zp_rl, ↓zp_ra, ↓zp_rv, ↓zp_br, ↓reduceIte, Nat.reduceAdd, Nat.zero_add, Nat.add_zero, Nat.le_refl, Nat.zero_le, ↓zx_iconst, ↓zy_istore_1, ↓zy_istore_2, ↓zx_iload_2, ↓zx_bipush, ↓zy_ic_ge, ↓zy_istore_3, ↓zx_iload_3, ↓zx_aload_0, ↓zyg_6_3, ↓zx_iload_1, ↓zy_if_ne, ↓zyc_138, ↓zy_istore, ↓zx_iload, ↓zy_iadd, ↓zy_ic_ne, ↓zyc_139, ↓zyc_145, ↓zy_if_eq, ↓zx_goto, ↓zy_iinc, ↓zx_ret, ↓zya_21, ↓zya_22, ↓zya_24, ↓zya_26, ↓zya_27, ↓zya_30, ↓zya_32, ↓zya_33, ↓zyb_21, ↓zyb_22, ↓zyb_24, ↓zyb_26, ↓zyb_27, ↓zyb_30, ↓zyb_32, ↓zyb_33, z_i10, z_10, z_00, and_self, not_true_eq_false, not_false_eq_true, true_and, and_true, false_and, and_false, true_or, false_or, or_false, or_true, or_self, if_true, if_false, ite_self, ↓zs_72, zn_p0, zn_p1, zn_p2, zn_p3, zn_p4, zn_p5, zn_p6, zn_p7, zn_p8, zn_p13, zn_p88, zn_p891, zn_m2, zn_m3, zn_m8, zn_m17, zn_m29, zn_m88, zn_m891, zn_a2, zn_a3, zn_a6, zn_a8, zn_a18, zn_a66, zn_a88, zn_a211, zn_a891, zp_ri2i, nI_add, z_vr, nI_clamp, zn_w0, zn_w1, zn_w2, zn_w3, zn_w4, zn_w5, zn_t0, zn_t1, zn_t2, zn_t3, zn_t4, zn_t5, ↓zs_138, h1, h2, h3, h4, h6, h139, h145, z_g_ss, zq_ss, bI, Bool.false_eq_true, decide_true]
            · rw [← ih (i + 1) _ M (some (zi (nI (211 + 17 * i)))) hB (by omega)]
              simp (disch := omega) only [↓zu_137_101, ↓zu_137_115, ↓zu_137_116, ↓zu_137_117, ↓zx_nil, ↓zx_cons, ↓zp_li, ↓zp_ll, ↓zp_lr, ↓zq_li0, ↓zq_li1, ↓zq_ll0, ↓zq_ll1, ↓zq_lr0, ↓zq_lr1, ↓zk_0, ↓zk_1n, ↓zk_1i, ↓zk_1r, ↓zk_1l, ↓zk_2, zp_okt, ↓zp_okl, zp_sh0, zp_sh1, zp_psn, zp_pss, ↓zp_ri1, ↓zp_ri20, ↓zp_ri21, ↓zp_rl, ↓zp_ra, ↓zp_rv, ↓zp_br, ↓reduceIte, Nat.reduceAdd, Nat.zero_add, Nat.add_zero, Nat.le_refl, Nat.zero_le, ↓zx_iconst, ↓zy_istore_1, ↓zy_istore_2, ↓zx_iload_2, ↓zx_bipush, ↓zy_ic_ge, ↓zy_istore_3, ↓zx_iload_3, ↓zx_aload_0, ↓zyg_6_3, ↓zx_iload_1, ↓zy_if_ne, ↓zyc_138, ↓zy_istore, ↓zx_iload, ↓zy_iadd, ↓zy_ic_ne, ↓zyc_139, ↓zyc_145, ↓zy_if_eq, ↓zx_goto, ↓zy_iinc, ↓zx_ret, ↓zya_21, ↓zya_22, ↓zya_24, ↓zya_26, ↓zya_27, ↓zya_30, ↓zya_32, ↓zya_33, ↓zyb_21, ↓zyb_22, ↓zyb_24, ↓zyb_26, ↓zyb_27, ↓zyb_30, ↓zyb_32, ↓zyb_33, z_i10, z_10, z_00, and_self, not_true_eq_false, not_false_eq_true, true_and, and_true, false_and, and_false, true_or, false_or, or_false, or_true, or_self, if_true, if_false, ite_self, ↓zs_72, zn_p0, zn_p1, zn_p2, zn_p3, zn_p4, zn_p5, zn_p6, zn_p7, zn_p8, zn_p13, zn_p88, zn_p891, zn_m2, zn_m3, zn_m8, zn_m17, zn_m29, zn_m88, zn_m891, zn_a2, zn_a3, zn_a6, zn_a8, zn_a18, zn_a66, zn_a88, zn_a211, zn_a891, zp_ri2i, nI_add, z_vr, nI_clamp, zn_w0, zn_w1, zn_w2, zn_w3, zn_w4, zn_w5, zn_t0, zn_t1, zn_t2, zn_t3, zn_t4, zn_t5, ↓zs_138, h1, h2, h3, h4, h6, h139, h145, z_g_ss, zq_ss, bI, Bool.false_eq_true, decide_false]
        · rw [if_neg fun q => h3 q.2]
          have h2 : (z_I M 22 0 (211 + 17 * i + 6) = 0) = True := eq_true h2
          rw [← ih (i + 1) false M (some (zi (nI (211 + 17 * i)))) hB (by omega)]
          simp (disch := omega) only [↓zu_137_101, ↓zu_137_115, ↓zu_137_116, ↓zu_137_117, ↓zx_nil, ↓zx_cons, ↓zp_li, ↓zp_ll, ↓zp_lr, ↓zq_li0, ↓zq_li1, ↓zq_ll0, ↓zq_ll1, ↓zq_lr0, ↓zq_lr1, ↓zk_0, ↓zk_1n, ↓zk_1i, ↓zk_1r, ↓zk_1l, ↓zk_2, zp_okt, ↓zp_okl, zp_sh0, zp_sh1, zp_psn, zp_pss, ↓zp_ri1, ↓zp_ri20, ↓zp_ri21, ↓zp_rl, ↓zp_ra, ↓zp_rv, ↓zp_br, ↓reduceIte, Nat.reduceAdd, Nat.zero_add, Nat.add_zero, Nat.le_refl, Nat.zero_le, ↓zx_iconst, ↓zy_istore_1, ↓zy_istore_2, ↓zx_iload_2, ↓zx_bipush, ↓zy_ic_ge, ↓zy_istore_3, ↓zx_iload_3, ↓zx_aload_0, ↓zyg_6_3, ↓zx_iload_1, ↓zy_if_ne, ↓zyc_138, ↓zy_istore, ↓zx_iload, ↓zy_iadd, ↓zy_ic_ne, ↓zyc_139, ↓zyc_145, ↓zy_if_eq, ↓zx_goto, ↓zy_iinc, ↓zx_ret, ↓zya_21, ↓zya_22, ↓zya_24, ↓zya_26, ↓zya_27, ↓zya_30, ↓zya_32, ↓zya_33, ↓zyb_21, ↓zyb_22, ↓zyb_24, ↓zyb_26, ↓zyb_27, ↓zyb_30, ↓zyb_32, ↓zyb_33, z_i10, z_10, z_00, and_self, not_true_eq_false, not_false_eq_true, true_and, and_true, false_and, and_false, true_or, false_or, or_false, or_true, or_self, if_true, if_false, ite_self, ↓zs_72, zn_p0, zn_p1, zn_p2, zn_p3, zn_p4, zn_p5, zn_p6, zn_p7, zn_p8, zn_p13, zn_p88, zn_p891, zn_m2, zn_m3, zn_m8, zn_m17, zn_m29, zn_m88, zn_m891, zn_a2, zn_a3, zn_a6, zn_a8, zn_a18, zn_a66, zn_a88, zn_a211, zn_a891, zp_ri2i, nI_add, z_vr, nI_clamp, zn_w0, zn_w1, zn_w2, zn_w3, zn_w4, zn_w5, zn_t0, zn_t1, zn_t2, zn_t3, zn_t4, zn_t5, ↓zs_138, h1, h2, h3, z_g_ss, bI, Bool.false_eq_true]
      · rw [if_neg fun q => h2 q.1]
        have h2 : ¬ z_I M 22 0 (211 + 17 * i + 6) = 0 := h2
        rw [← ih (i + 1) false M (some (zi (nI (211 + 17 * i)))) hB (by omega)]
        simp (disch := omega) only [↓zu_137_101, ↓zu_137_115, ↓zu_137_116, ↓zu_137_117, ↓zx_nil, ↓zx_cons, ↓zp_li, ↓zp_ll, ↓zp_lr, ↓zq_li0, ↓zq_li1, ↓zq_ll0, ↓zq_ll1, ↓zq_lr0, ↓zq_lr1, ↓zk_0, ↓zk_1n, ↓zk_1i, ↓zk_1r, ↓zk_1l, ↓zk_2, zp_okt, ↓zp_okl, zp_sh0, zp_sh1, zp_psn, zp_pss, ↓zp_ri1, ↓zp_ri20, ↓zp_ri21, ↓zp_rl, ↓zp_ra, ↓zp_rv, ↓zp_br, ↓reduceIte, Nat.reduceAdd, Nat.zero_add, Nat.add_zero, Nat.le_refl, Nat.zero_le, ↓zx_iconst, ↓zy_istore_1, ↓zy_istore_2, ↓zx_iload_2, ↓zx_bipush, ↓zy_ic_ge, ↓zy_istore_3, ↓zx_iload_3, ↓zx_aload_0, ↓zyg_6_3, ↓zx_iload_1, ↓zy_if_ne, ↓zyc_138, ↓zy_istore, ↓zx_iload, ↓zy_iadd, ↓zy_ic_ne, ↓zyc_139, ↓zyc_145, ↓zy_if_eq, ↓zx_goto, ↓zy_iinc, ↓zx_ret, ↓zya_21, ↓zya_22, ↓zya_24, ↓zya_26, ↓zya_27, ↓zya_30, ↓zya_32, ↓zya_33, ↓zyb_21, ↓zyb_22, ↓zyb_24, ↓zyb_26, ↓zyb_27, ↓zyb_30, ↓zyb_32, ↓zyb_33, z_i10, z_10, z_00, and_self, not_true_eq_false, not_false_eq_true, true_and, and_true, false_and, and_false, true_or, false_or, or_false, or_true, or_self, if_true, if_false, ite_self, ↓zs_72, zn_p0, zn_p1, zn_p2, zn_p3, zn_p4, zn_p5, zn_p6, zn_p7, zn_p8, zn_p13, zn_p88, zn_p891, zn_m2, zn_m3, zn_m8, zn_m17, zn_m29, zn_m88, zn_m891, zn_a2, zn_a3, zn_a6, zn_a8, zn_a18, zn_a66, zn_a88, zn_a211, zn_a891, zp_ri2i, nI_add, z_vr, nI_clamp, zn_w0, zn_w1, zn_w2, zn_w3, zn_w4, zn_w5, zn_t0, zn_t1, zn_t2, zn_t3, zn_t4, zn_t5, ↓zs_138, h1, h2, z_g_ss, bI, Bool.false_eq_true]
abbrev mN (M : zS) : Nat := (z_I M 22 0 3).toNatClampNeg
def mTuR : Nat → Nat → Bool → zS → zS
  | 0, _, _, M => M
  | n + 1, ρ, b, M => mTuR n (ρ + 1) (mTuL ρ (mN M) 0 b M).1 (mTuL ρ (mN M) 0 b M).2
def mTurns (M : zS) : zS := mTuR 10 0 false M
theorem mSk.tuR : ∀ (n ρ : Nat) (b : Bool) (M : zS), mBok M → mSk M (mTuR n ρ b M)
  | 0, _, _, _, _ => .rf
  | n + 1, ρ, b, M, h => by
    have h1 := mSk.tuL (ρ := ρ) (mN M) 0 b M h (Nat.zero_add _)
    exact .tr h1 (mSk.tuR n (ρ + 1) _ _ (h1.bok h))
theorem mSk.turns {M : zS} (h : mBok M) : mSk M (mTurns M) := mSk.tuR 10 0 false M h
set_option maxRecDepth 100000 in
set_option maxHeartbeats 4000000 in
theorem zl_137 : ∀ (n ρ : Nat) (b : Bool) (M : zS) (o3 o4 : Option zV), ρ + n = 10 → mBok M → zW 137 (d + 4) Q 4 [some (zr (some (6, 1, 0))), some (zi (bI b)), some (zi (nI ρ)), o3, o4] [] (z_s m 1 M) 0 = Q none (z_s m 1 (mTuR n ρ b M)) := by
  intro n
  induction n with
  | zero =>
    intro ρ b M o3 o4 hi hB
    have h1 : (10 ≤ nI ρ) = True := z_le1 (a := 10) (by omega) (by omega)
    rw [zu_137_4]
    simp only [↓zu_137_129, ↓zx_nil, ↓zx_cons, ↓zp_li, ↓zp_ll, ↓zp_lr, ↓zq_li0, ↓zq_li1, ↓zq_ll0, ↓zq_ll1, ↓zq_lr0, ↓zq_lr1, ↓zk_0, ↓zk_1n, ↓zk_1i, ↓zk_1r, ↓zk_1l, ↓zk_2, zp_okt, ↓zp_okl, zp_sh0, zp_sh1, zp_psn, zp_pss, ↓zp_ri1, ↓zp_ri20, ↓zp_ri21, ↓zp_rl, ↓zp_ra, ↓zp_rv, ↓zp_br, ↓reduceIte, Nat.reduceAdd, Nat.zero_add, Nat.add_zero, Nat.le_refl, Nat.zero_le, ↓zx_iconst, ↓zy_istore_1, ↓zy_istore_2, ↓zx_iload_2, ↓zx_bipush, ↓zy_ic_ge, ↓zy_istore_3, ↓zx_iload_3, ↓zx_aload_0, ↓zyg_6_3, ↓zx_iload_1, ↓zy_if_ne, ↓zyc_138, ↓zy_istore, ↓zx_iload, ↓zy_iadd, ↓zy_ic_ne, ↓zyc_139, ↓zyc_145, ↓zy_if_eq, ↓zx_goto, ↓zy_iinc, ↓zx_ret, ↓zya_21, ↓zya_22, ↓zya_24, ↓zya_26, ↓zya_27, ↓zya_30, ↓zya_32, ↓zya_33, ↓zyb_21, ↓zyb_22, ↓zyb_24, ↓zyb_26, ↓zyb_27, ↓zyb_30, ↓zyb_32, ↓zyb_33, z_i10, z_10, z_00, and_self, not_true_eq_false, not_false_eq_true, true_and, and_true, false_and, and_false, true_or, false_or, or_false, or_true, or_self, if_true, if_false, ite_self, ↓zs_72, h1]
    rfl
  | succ n ih =>
    intro ρ b M o3 o4 hi hB
    have h1 : (10 ≤ nI ρ) = False := z_le0 (a := 10) (by omega) (by omega)
    have hin := zl_137i (d := d) (m := m) (Q := Q) (ρ := ρ) (F := fun b M => Q none (z_s m 1 (mTuR n (ρ + 1) b M))) (fun b M i' o4 hB => by
      simp only [↓zu_137_123, ↓zx_nil, ↓zx_cons, ↓zp_li, ↓zp_ll, ↓zp_lr, ↓zq_li0, ↓zq_li1, ↓zq_ll0, ↓zq_ll1, ↓zq_lr0, ↓zq_lr1, ↓zk_0, ↓zk_1n, ↓zk_1i, ↓zk_1r, ↓zk_1l, ↓zk_2, zp_okt, ↓zp_okl, zp_sh0, zp_sh1, zp_psn, zp_pss, ↓zp_ri1, ↓zp_ri20, ↓zp_ri21, ↓zp_rl, ↓zp_ra, ↓zp_rv, ↓zp_br, ↓reduceIte, Nat.reduceAdd, Nat.zero_add, Nat.add_zero, Nat.le_refl, Nat.zero_le, ↓zx_iconst, ↓zy_istore_1, ↓zy_istore_2, ↓zx_iload_2, ↓zx_bipush, ↓zy_ic_ge, ↓zy_istore_3, ↓zx_iload_3, ↓zx_aload_0, ↓zyg_6_3, ↓zx_iload_1, ↓zy_if_ne, ↓zyc_138, ↓zy_istore, ↓zx_iload, ↓zy_iadd, ↓zy_ic_ne, ↓zyc_139, ↓zyc_145, ↓zy_if_eq, ↓zx_goto, ↓zy_iinc, ↓zx_ret, ↓zya_21, ↓zya_22, ↓zya_24, ↓zya_26, ↓zya_27, ↓zya_30, ↓zya_32, ↓zya_33, ↓zyb_21, ↓zyb_22, ↓zyb_24, ↓zyb_26, ↓zyb_27, ↓zyb_30, ↓zyb_32, ↓zyb_33, z_i10, z_10, z_00, and_self, not_true_eq_false, not_false_eq_true, true_and, and_true, false_and, and_false, true_or, false_or, or_false, or_true, or_self, if_true, if_false, ite_self, ↓zs_72, nI_1]
      exact ih (ρ + 1) b M _ _ (by omega) hB) (mN M) 0 b M o4 hB (Nat.zero_add _)
    rw [zu_137_4]
    simp only [↓zx_nil, ↓zx_cons, ↓zp_li, ↓zp_ll, ↓zp_lr, ↓zq_li0, ↓zq_li1, ↓zq_ll0, ↓zq_ll1, ↓zq_lr0, ↓zq_lr1, ↓zk_0, ↓zk_1n, ↓zk_1i, ↓zk_1r, ↓zk_1l, ↓zk_2, zp_okt, ↓zp_okl, zp_sh0, zp_sh1, zp_psn, zp_pss, ↓zp_ri1, ↓zp_ri20, ↓zp_ri21, ↓zp_rl, ↓zp_ra, ↓zp_rv, ↓zp_br, ↓reduceIte, Nat.reduceAdd, Nat.zero_add, Nat.add_zero, Nat.le_refl, Nat.zero_le, ↓zx_iconst, ↓zy_istore_1, ↓zy_istore_2, ↓zx_iload_2, ↓zx_bipush, ↓zy_ic_ge, ↓zy_istore_3, ↓zx_iload_3, ↓zx_aload_0, ↓zyg_6_3, ↓zx_iload_1, ↓zy_if_ne, ↓zyc_138, ↓zy_istore, ↓zx_iload, ↓zy_iadd, ↓zy_ic_ne, ↓zyc_139, ↓zyc_145, ↓zy_if_eq, ↓zx_goto, ↓zy_iinc, ↓zx_ret, ↓zya_21, ↓zya_22, ↓zya_24, ↓zya_26, ↓zya_27, ↓zya_30, ↓zya_32, ↓zya_33, ↓zyb_21, ↓zyb_22, ↓zyb_24, ↓zyb_26, ↓zyb_27, ↓zyb_30, ↓zyb_32, ↓zyb_33, z_i10, z_10, z_00, and_self, not_true_eq_false, not_false_eq_true, true_and, and_true, false_and, and_false, true_or, false_or, or_false, or_true, or_self, if_true, if_false, ite_self, ↓zs_72, h1]
    exact hin
set_option maxRecDepth 100000 in
set_option maxHeartbeats 4000000 in
theorem zs_137 (h : mBok (z_g m 1)) : z_call (d + 5) 137 [zr (some (6, 1, 0))] m Q = Q none (z_s m 1 (mTurns (z_g m 1))) := by
  have ha := zl_137 (d := d) (m := m) (Q := Q) 10 0 false (z_g m 1) none none (by omega) h
  rw [zq_id] at ha
  simp only [↓zen_137, ↓zu_137_0, ↓zu_137_101, ↓zu_137_115, ↓zu_137_116, ↓zu_137_117, ↓zu_137_123, ↓zu_137_129, ↓zx_nil, ↓zx_cons, ↓zp_li, ↓zp_ll, ↓zp_lr, ↓zq_li0, ↓zq_li1, ↓zq_ll0, ↓zq_ll1, ↓zq_lr0, ↓zq_lr1, ↓zk_0, ↓zk_1n, ↓zk_1i, ↓zk_1r, ↓zk_1l, ↓zk_2, zp_okt, ↓zp_okl, zp_sh0, zp_sh1, zp_psn, zp_pss, ↓zp_ri1, ↓zp_ri20, ↓zp_ri21, ↓zp_rl, ↓zp_ra, ↓zp_rv, ↓zp_br, ↓reduceIte, Nat.reduceAdd, Nat.zero_add, Nat.add_zero, Nat.le_refl, Nat.zero_le, ↓zx_iconst, ↓zy_istore_1, ↓zy_istore_2, ↓zx_iload_2, ↓zx_bipush, ↓zy_ic_ge, ↓zy_istore_3, ↓zx_iload_3, ↓zx_aload_0, ↓zyg_6_3, ↓zx_iload_1, ↓zy_if_ne, ↓zyc_138, ↓zy_istore, ↓zx_iload, ↓zy_iadd, ↓zy_ic_ne, ↓zyc_139, ↓zyc_145, ↓zy_if_eq, ↓zx_goto, ↓zy_iinc, ↓zx_ret, ↓zya_21, ↓zya_22, ↓zya_24, ↓zya_26, ↓zya_27, ↓zya_30, ↓zya_32, ↓zya_33, ↓zyb_21, ↓zyb_22, ↓zyb_24, ↓zyb_26, ↓zyb_27, ↓zyb_30, ↓zyb_32, ↓zyb_33]
  exact ha
def mActd (M : zS) : zS := z_uI (mTurns M) 6 0 1 0
set_option maxRecDepth 100000 in
set_option maxHeartbeats 4000000 in
theorem zs_136 (h : mBok (z_g m 1)) : z_call (d + 6) 136 [zr (some (6, 1, 0)), zi v] m Q = Q (some (zi v)) (z_s m 1 (mActd (z_g m 1))) := by
  simp only [↓zen_136, ↓zu_136_0, ↓zx_nil, ↓zx_cons, ↓zp_li, ↓zp_ll, ↓zp_lr, ↓zq_li0, ↓zq_li1, ↓zq_ll0, ↓zq_ll1, ↓zq_lr0, ↓zq_lr1, ↓zk_0, ↓zk_1n, ↓zk_1i, ↓zk_1r, ↓zk_1l, ↓zk_2, zp_okt, ↓zp_okl, zp_sh0, zp_sh1, zp_psn, zp_pss, ↓zp_ri1, ↓zp_ri20, ↓zp_ri21, ↓zp_rl, ↓zp_ra, ↓zp_rv, ↓zp_br, ↓reduceIte, Nat.reduceAdd, Nat.zero_add, Nat.add_zero, Nat.le_refl, Nat.zero_le, ↓zx_aload_0, ↓zyc_137, ↓zx_iload_1, ↓zyc_128, ↓zx_iret, z_i10, z_10, z_00, and_self, not_true_eq_false, not_false_eq_true, true_and, and_true, false_and, and_false, true_or, false_or, or_false, or_true, or_self, if_true, if_false, ite_self, ↓zs_72, ↓zs_137 h, ↓zs_128, z_g_ss, zq_ss]
  rfl
-- a number becomes another
theorem mBring_o {M : zS} {k i f : Nat} (h : k ≠ 22) {ka kb : Nat} : z_I (mBring ka kb q M) k i f = z_I M k i f := by
  have h1 : ∀ (n j : Nat) (M : zS), z_I (mBrI ka q n j M) k i f = z_I M k i f := fun n j M => z_it_I (π := fun M => z_I M k i f) (fun _ _ => z_I_o h) n j M
  have h2 : ∀ (n j : Nat) (M : zS), z_I (mBrJ kb q n j M) k i f = z_I M k i f := fun n j M => z_it_I (F := fun j M => z_uJ M 23 0 j (z_J M kb 0 (88 * q + j))) (π := fun M => z_I M k i f) (fun _ _ => rfl) n j M
  unfold mBring
  rw [h2, h1]
theorem mRem_r {M : zS} {j : Nat} : z_I (mRem M v) 22 0 j = z_I M 22 0 j := by
  unfold mRem mRem1
  rw [z_I_o (by decide), z_I_o (by decide), mLay_o (by decide)]
  unfold mRem0
  split
  · rw [z_I_o (by decide), mShift_o (by decide) (by decide)]
  · rfl
theorem mSk.rem {M : zS} : mSk M (mRem M v) := fun _ _ => mRem_r
def mBec (M : zS) (j : Nat) (v w : Int32) : zS := mActd (z_uI (mRem M w) 22 0 j v)
set_option maxRecDepth 100000 in
set_option maxHeartbeats 4000000 in
theorem zs_152 {j : Nat} (hj : j < 891) (h : z_nn (z_I (z_g m 1) 6 0 8) 8) (hB : mBok (z_uI (mRem (z_g m 1) w) 22 0 j v)) : z_call (d + 7) 152 [zr (some (6, 1, 0)), zi (nI j), zi v, zi w] m Q = Q (some (zi (z_I (z_g m 1) 22 0 j))) (z_s m 1 (mBec (z_g m 1) j v w)) := by
  have h136 := fun x Q => zs_136 (d := d) (m := z_s m 1 (z_uI (mRem (z_g m 1) w) 22 0 j v)) (v := x) (Q := Q) (by rw [z_g_ss]; exact hB)
  rw [z_g_ss] at h136
  simp only [zq_ss] at h136
  simp (disch := omega) only [↓zen_152, ↓zu_152_0, ↓zx_nil, ↓zx_cons, ↓zp_li, ↓zp_ll, ↓zp_lr, ↓zq_li0, ↓zq_li1, ↓zq_ll0, ↓zq_ll1, ↓zq_lr0, ↓zq_lr1, ↓zk_0, ↓zk_1n, ↓zk_1i, ↓zk_1r, ↓zk_1l, ↓zk_2, zp_okt, ↓zp_okl, zp_sh0, zp_sh1, zp_psn, zp_pss, ↓zp_ri1, ↓zp_ri20, ↓zp_ri21, ↓zp_rl, ↓zp_ra, ↓zp_rv, ↓zp_br, ↓reduceIte, Nat.reduceAdd, Nat.zero_add, Nat.add_zero, Nat.le_refl, Nat.zero_le, ↓zx_aload_0, ↓zx_iload_3, ↓zyc_134, ↓zyg_6_3, ↓zx_iload_1, ↓zy_istore, ↓zx_iload_2, ↓zx_iload, ↓zyc_136, ↓zx_iret, ↓zya_21, ↓zya_22, ↓zya_24, ↓zya_26, ↓zya_27, ↓zya_30, ↓zya_32, ↓zya_33, ↓zyb_21, ↓zyb_22, ↓zyb_24, ↓zyb_26, ↓zyb_27, ↓zyb_30, ↓zyb_32, ↓zyb_33, z_i10, z_10, z_00, and_self, not_true_eq_false, not_false_eq_true, true_and, and_true, false_and, and_false, true_or, false_or, or_false, or_true, or_self, if_true, if_false, ite_self, ↓zs_72, zn_p0, zn_p1, zn_p2, zn_p3, zn_p4, zn_p5, zn_p6, zn_p7, zn_p8, zn_p13, zn_p88, zn_p891, zn_m2, zn_m3, zn_m8, zn_m17, zn_m29, zn_m88, zn_m891, zn_a2, zn_a3, zn_a6, zn_a8, zn_a18, zn_a66, zn_a88, zn_a211, zn_a891, zp_ri2i, nI_add, z_vr, nI_clamp, zn_w0, zn_w1, zn_w2, zn_w3, zn_w4, zn_w5, zn_t0, zn_t1, zn_t2, zn_t3, zn_t4, zn_t5, ↓zs_134 h, z_g_ss, zq_ss, mRem_r, h136]
  rfl
-- days
abbrev mOv (M : zS) (l : Nat) : Prop := mSt M l = 1 ∧ ¬ z_I M 22 0 0 ≤ mLat M l + z_I M 22 0 4
def mDaE (M : zS) (l : Nat) : zS := mEnds M l (mFr M l) (z_I M 22 0 (211 + 17 * l + 4)) (mLat M l) 3
def mDaL : Nat → Nat → zS → zS
  | 0, _, M => M
  | n + 1, i, M => if mOv M i then mDaL n (i + 1) (z_uI (mDaE M i) 6 0 15 (z_I (mDaE M i) 6 0 15 + 1)) else mDaL n (i + 1) M
theorem mSk.u6 {M : zS} {k i f : Nat} (h : k ≠ 22) : mSk M (z_uI M k i f v) := fun _ _ => z_I_o h.symm
theorem mSk.daE {M : zS} (w : mWl M l (mFr M l)) : mSk M (mDaE M l) := .ends w
theorem mSk.daL : ∀ (n i : Nat) (M : zS), mBok M → i + n = mN M → mSk M (mDaL n i M)
  | 0, _, _, _, _ => .rf
  | n + 1, i, M, h, hi => by
    have hi : i + (n + 1) = (z_I M 22 0 3).toNatClampNeg := hi
    unfold mDaL
    split
    · have h1 : mSk M (z_uI (mDaE M i) 6 0 15 (z_I (mDaE M i) 6 0 15 + 1)) := .tr (.daE (h.2 i (by omega))) (.u6 (by decide))
      exact .tr h1 (mSk.daL n (i + 1) _ (h1.bok h) (by show i + 1 + n = (z_I _ 22 0 3).toNatClampNeg; rw [h1.n3]; omega))
    · exact mSk.daL n (i + 1) _ h (by show i + 1 + n = (z_I _ 22 0 3).toNatClampNeg; omega)
end Mo9
