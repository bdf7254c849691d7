/-! ===== THE MODEL: questions (4): sets ===== -/
section Mo29
variable {d r i k g s l t q : Nat} {m : zM} {Q : zQ} {v w a b c e f x y : Int32}
def mRw (M X : zS) : Prop := ∀ j, z_I X 22 0 j = z_I M 22 0 j
theorem mRw.rate {M X : zS} (h : mRw M X) : mRate X k v = mRate M k v := by
  unfold mRate
  have e : mRtS X k v = mRtS M k v := by
    funext j p
    unfold mRtS
    simp only [h _]
  rw [e, h]
theorem mRw.gr {M X : zS} (h : mRw M X) : mGr X k x y = mGr M k x y := by
  unfold mGr
  have e : mGrS X k x y = mGrS M k x y := by
    funext j p
    unfold mGrS
    simp only [h _]
  rw [e, h, h.rate]
theorem mRw.st {M X : zS} (h : mRw M X) : mSt X l = mSt M l := h _
theorem mRw.rest {M X : zS} (h : mRw M X) : mRest X l = mRest M l := by unfold mRest; rw [h, h]
theorem mRw.lat {M X : zS} (h : mRw M X) : mLat X l = mLat M l := by unfold mLat; rw [h, h]
theorem mRw.need {M X : zS} (h : mRw M X) : mNeed X l = mNeed M l := by
  unfold mNeed mKd
  rw [h.st, h.rest, h.lat]
  simp only [h _, h.gr]
theorem mRw.wait {M X : zS} (h : mRw M X) : mWait X v = mWait M v := by
  unfold mWait
  have e : mWaR X v = mWaR M v := by
    funext ρ p
    unfold mWaR mN
    have e2 : mWaS X v ρ = mWaS M v ρ := by
      funext l p
      unfold mWaS
      rw [h.st, h]
    rw [e2, h]
  rw [e]
theorem mRw.next {M X : zS} {o : Option Nat} (h : mRw M X) : mNext X v w o = mNext M v w o := by
  unfold mNext mN
  have e : mNxS X v w o = mNxS M v w o := by
    funext l p
    unfold mNxS mNxI mNxB mNxL
    simp only [h.st, h.lat, h _]
  rw [e, h]
theorem mRw.alone {M X : zS} (h : mRw M X) : mAlone X s v = mAlone M s v := by unfold mAlone mO; simp only [h _]
theorem mRw.free {M X : zS} (h : mRw M X) : mFree X g = mFree M g := by unfold mFree; rw [h, h, h]
theorem mRw.wl {M X : zS} (h : mRw M X) (w : mWl M l s) : mWl X l s := mSk.wl (fun j _ => h j) w
-- sums of sets
def mSuS (X : zS) (x : Int32) (k : Nat) (a : Int32) : Int32 := a + if qBit x k then z_I X 33 0 k else 0
def mSum (X : zS) (x : Int32) (z : Nat) : Int32 := z_it (mSuS X x) z 0 0
def mSetA (X : zS) (z : Nat) (v : Int32) : zS := z_uI (z_uI X 33 0 z v) 6 0 17 (nI (z + 1))
theorem mSetA_rw {M X : zS} {z : Nat} (h : mRw M X) : mRw M (mSetA X z v) := fun j => by
  unfold mSetA
  rw [z_I_o (by decide), z_I_o (by decide)]; exact h j
theorem mSetA_n {X : zS} {z : Nat} : z_I (mSetA X z v) 6 0 17 = nI (z + 1) := by
  unfold mSetA
  rw [z_I_u, if_pos ⟨rfl, rfl, rfl⟩]
-- 38 best
def mBsG (M : zS) (v : Int32) : List Nat → Nat → zS → Nat × zS
  | [], z, X => (z, X)
  | l :: L, z, X => if 10 ≤ z then (z, X) else if mAlone M (mFr M l) v = true then mBsG M v L (z + 1) (mSetA X z (mNeed M l)) else mBsG M v L z X
set_option maxRecDepth 100000 in
set_option maxHeartbeats 4000000 in
theorem zl_215a {M : zS} {F : Nat → zS → Prop} (hB : mBok M) (hK : ∀ i' o4 z X, mRw M X → z_I X 6 0 17 = nI z → z ≤ 10 → zW 215 (d + 4) Q 106 [some (zr (some (6, 1, 0))), some (zi v), some (zi w), some (zi i'), o4, none, none, none] [] (z_s m 1 X) 0 = F z X) : ∀ (L : List Nat) (i z : Nat) (X : zS) (o4 : Option zV), i + L.length ≤ 40 → (∀ j, j ≤ L.length → mWait M (nI (i + j)) = oI L[j]?) → (∀ j ∈ L, j < mN M) → mRw M X → z_I X 6 0 17 = nI z → z ≤ 10 → zW 215 (d + 4) Q 32 [some (zr (some (6, 1, 0))), some (zi v), some (zi w), some (zi (nI i)), o4, none, none, none] [] (z_s m 1 X) 0 = F (mBsG M v L z X).1 (mBsG M v L z X).2 := by
  intro L
  induction L with
  | nil =>
    intro i z X o4 hi hW hL hX hz hz2
    have h207 := fun d v Q => zs_207 (d := d) (m := z_s m 1 X) (v := v) (Q := Q) (by rw [z_g_ss, hX]; exact hB.1)
    simp only [z_g_ss, hX.wait] at h207
    have e0 : mWait M (nI i) = -1 := hW 0 (Nat.le_refl 0)
    rw [zu_215_32]
    simp (disch := omega) only [↓zx_nil, ↓zx_cons, ↓zp_li, ↓zp_ll, ↓zp_lr, ↓zq_li0, ↓zq_li1, ↓zq_ll0, ↓zq_ll1, ↓zq_lr0, ↓zq_lr1, ↓zk_0, ↓zk_1n, ↓zk_1i, ↓zk_1r, ↓zk_1l, ↓zk_2, zp_okt, ↓zp_okl, zp_sh0, zp_sh1, zp_psn, zp_pss, ↓zp_ri1, ↓zp_ri20, ↓zp_ri21, ↓zp_rl, ↓zp_ra, ↓zp_rv, ↓zp_br, ↓reduceIte, Nat.reduceAdd, Nat.zero_add, Nat.add_zero, Nat.le_refl, Nat.zero_le, ↓zx_aload_0, ↓zx_iconst, ↓zyp_6_0, ↓zx_iload_1, ↓zyc_151, ↓zy_if_eq, ↓zx_iload_2, ↓zy_i2l, ↓zx_lconst0, ↓zx_lconst1, ↓zyc_130, ↓zy_if_ne, ↓zx_iret, ↓zyp_6_17, ↓zy_istore_3, ↓zx_iload_3, ↓zyc_207, ↓zy_ic_eq, ↓zyg_6_17, ↓zx_bipush, ↓zy_ic_ge, ↓zy_istore, ↓zyg_6_3, ↓zx_iload, ↓zyc_138, ↓zyc_216, ↓zyg_6_16, ↓zyc_139, ↓zy_dupi, ↓zy_dupr, ↓zy_iadd, ↓zy_iinc, ↓zx_goto, ↓zy_ishl, ↓zy_ishr, ↓zy_iand, ↓zy_ic_ne, ↓zyc_148, ↓zy_ic_gt, ↓zy_ic_le, ↓zya_21, ↓zya_22, ↓zya_24, ↓zya_26, ↓zya_27, ↓zya_30, ↓zya_32, ↓zya_33, ↓zyb_21, ↓zyb_22, ↓zyb_24, ↓zyb_26, ↓zyb_27, ↓zyb_30, ↓zyb_32, ↓zyb_33, ↓zpX_s, ↓zpX_n, z_i10, z_10, z_00, and_self, not_true_eq_false, not_false_eq_true, true_and, and_true, false_and, and_false, true_or, false_or, or_false, or_true, or_self, if_true, if_false, ite_self, ↓zs_72, ↓h207, e0]
    exact hK _ _ _ _ hX hz hz2
  | cons l L ih =>
    intro i z X o4 hi hW hL hX hz hz2
    have hi : i + (L.length + 1) ≤ 40 := hi
    have h207 := fun d v Q => zs_207 (d := d) (m := z_s m 1 X) (v := v) (Q := Q) (by rw [z_g_ss, hX]; exact hB.1)
    simp only [z_g_ss, hX.wait] at h207
    have hlm : l < mN M := hL l (List.mem_cons_self ..)
    have w0 := hB.2 l hlm
    have hl40 := w0.hl
    have e0 : mWait M (nI i) = nI l := hW 0 (Nat.zero_le _)
    have h5 := zn_o1 hl40
    have hW2 : ∀ j, j ≤ L.length → mWait M (nI (i + 1 + j)) = oI L[j]? := fun j hj => by
      have := hW (j + 1) (by show j + 1 ≤ L.length + 1; omega)
      rw [show i + 1 + j = i + (j + 1) by omega]
      exact this
    have hL2 : ∀ j ∈ L, j < mN M := fun j hj => hL j (List.mem_cons_of_mem _ hj)
    have ih := fun z X => ih (i + 1) z X (some (zi (nI l))) (by omega) hW2 hL2
    rw [zu_215_32]
    unfold mBsG
    rcases Nat.lt_or_ge z 10 with hq | hq
    · have h1 : (10 ≤ nI z) = False := z_le0 (a := 10) (by omega) (by omega)
      have hs := w0.hs
      have hf := w0.hf
      have h216 := fun d Q => zs_216 (d := d) (m := z_s m 1 X) (s := mFr M l) (v := v) (Q := Q) hs
      simp only [z_g_ss, hX.alone] at h216
      have h139 := fun d Q => zs_139 (d := d) (m := z_s m 1 X) (l := l) (Q := Q) hl40 (by rw [z_g_ss]; exact (hX.wl w0).hK)
      simp only [z_g_ss, hX.need] at h139
      have hr : z_I X 22 0 (211 + 17 * l) = nI (mFr M l) := (hX _).trans hf
      rw [if_neg (show ¬ 10 ≤ z by omega)]
      generalize mFr M l = ns at *
      cases hA : mAlone M ns v with
      | true =>
        rw [if_pos rfl]
        have e33 : z_I (z_uI X 33 0 z (mNeed M l)) 6 0 17 = nI z := (z_I_o (by decide)).trans hz
        rw [← ih (z + 1) (mSetA X z (mNeed M l)) (mSetA_rw hX) mSetA_n (by omega)]
        simp (disch := omega) only [↓zu_215_100, ↓zx_nil, ↓zx_cons, ↓zp_li, ↓zp_ll, ↓zp_lr, ↓zq_li0, ↓zq_li1, ↓zq_ll0, ↓zq_ll1, ↓zq_lr0, ↓zq_lr1, ↓zk_0, ↓zk_1n, ↓zk_1i, ↓zk_1r, ↓zk_1l, ↓zk_2, zp_okt, ↓zp_okl, zp_sh0, zp_sh1, zp_psn, zp_pss, ↓zp_ri1, ↓zp_ri20, ↓zp_ri21, ↓zp_rl, ↓zp_ra, ↓zp_rv, ↓zp_br, ↓reduceIte, Nat.reduceAdd, Nat.zero_add, Nat.add_zero, Nat.le_refl, Nat.zero_le, ↓zx_aload_0, ↓zx_iconst, ↓zyp_6_0, ↓zx_iload_1, ↓zyc_151, ↓zy_if_eq, ↓zx_iload_2, ↓zy_i2l, ↓zx_lconst0, ↓zx_lconst1, ↓zyc_130, ↓zy_if_ne, ↓zx_iret, ↓zyp_6_17, ↓zy_istore_3, ↓zx_iload_3, ↓zyc_207, ↓zy_ic_eq, ↓zyg_6_17, ↓zx_bipush, ↓zy_ic_ge, ↓zy_istore, ↓zyg_6_3, ↓zx_iload, ↓zyc_138, ↓zyc_216, ↓zyg_6_16, ↓zyc_139, ↓zy_dupi, ↓zy_dupr, ↓zy_iadd, ↓zy_iinc, ↓zx_goto, ↓zy_ishl, ↓zy_ishr, ↓zy_iand, ↓zy_ic_ne, ↓zyc_148, ↓zy_ic_gt, ↓zy_ic_le, ↓zya_21, ↓zya_22, ↓zya_24, ↓zya_26, ↓zya_27, ↓zya_30, ↓zya_32, ↓zya_33, ↓zyb_21, ↓zyb_22, ↓zyb_24, ↓zyb_26, ↓zyb_27, ↓zyb_30, ↓zyb_32, ↓zyb_33, ↓zpX_s, ↓zpX_n, z_i10, z_10, z_00, and_self, not_true_eq_false, not_false_eq_true, true_and, and_true, false_and, and_false, true_or, false_or, or_false, or_true, or_self, if_true, if_false, ite_self, ↓zs_72, zn_p0, zn_p1, zn_p2, zn_p3, zn_p4, zn_p5, zn_p6, zn_p7, zn_p8, zn_p13, zn_p88, zn_p891, zn_m2, zn_m3, zn_m8, zn_m17, zn_m29, zn_m88, zn_m891, zn_a2, zn_a3, zn_a6, zn_a8, zn_a18, zn_a66, zn_a88, zn_a211, zn_a891, zp_ri2i, nI_add, z_vr, nI_clamp, zn_w0, zn_w1, zn_w2, zn_w3, zn_w4, zn_w5, zn_t0, zn_t1, zn_t2, zn_t3, zn_t4, zn_t5, ↓zs_138, ↓h207, e0, h5, h1, hz, hr, ↓h216, ↓h139, hA, bI, e33, z_g_ss, zq_ss]
        rfl
      | false =>
        rw [if_neg (by decide)]
        rw [← ih z X hX hz hz2]
        simp (disch := omega) only [↓zu_215_100, ↓zx_nil, ↓zx_cons, ↓zp_li, ↓zp_ll, ↓zp_lr, ↓zq_li0, ↓zq_li1, ↓zq_ll0, ↓zq_ll1, ↓zq_lr0, ↓zq_lr1, ↓zk_0, ↓zk_1n, ↓zk_1i, ↓zk_1r, ↓zk_1l, ↓zk_2, zp_okt, ↓zp_okl, zp_sh0, zp_sh1, zp_psn, zp_pss, ↓zp_ri1, ↓zp_ri20, ↓zp_ri21, ↓zp_rl, ↓zp_ra, ↓zp_rv, ↓zp_br, ↓reduceIte, Nat.reduceAdd, Nat.zero_add, Nat.add_zero, Nat.le_refl, Nat.zero_le, ↓zx_aload_0, ↓zx_iconst, ↓zyp_6_0, ↓zx_iload_1, ↓zyc_151, ↓zy_if_eq, ↓zx_iload_2, ↓zy_i2l, ↓zx_lconst0, ↓zx_lconst1, ↓zyc_130, ↓zy_if_ne, ↓zx_iret, ↓zyp_6_17, ↓zy_istore_3, ↓zx_iload_3, ↓zyc_207, ↓zy_ic_eq, ↓zyg_6_17, ↓zx_bipush, ↓zy_ic_ge, ↓zy_istore, ↓zyg_6_3, ↓zx_iload, ↓zyc_138, ↓zyc_216, ↓zyg_6_16, ↓zyc_139, ↓zy_dupi, ↓zy_dupr, ↓zy_iadd, ↓zy_iinc, ↓zx_goto, ↓zy_ishl, ↓zy_ishr, ↓zy_iand, ↓zy_ic_ne, ↓zyc_148, ↓zy_ic_gt, ↓zy_ic_le, ↓zya_21, ↓zya_22, ↓zya_24, ↓zya_26, ↓zya_27, ↓zya_30, ↓zya_32, ↓zya_33, ↓zyb_21, ↓zyb_22, ↓zyb_24, ↓zyb_26, ↓zyb_27, ↓zyb_30, ↓zyb_32, ↓zyb_33, ↓zpX_s, ↓zpX_n, z_i10, z_10, z_00, and_self, not_true_eq_false, not_false_eq_true, true_and, and_true, false_and, and_false, true_or, false_or, or_false, or_true, or_self, if_true, if_false, ite_self, ↓zs_72, zn_p0, zn_p1, zn_p2, zn_p3, zn_p4, zn_p5, zn_p6, zn_p7, zn_p8, zn_p13, zn_p88, zn_p891, zn_m2, zn_m3, zn_m8, zn_m17, zn_m29, zn_m88, zn_m891, zn_a2, zn_a3, zn_a6, zn_a8, zn_a18, zn_a66, zn_a88, zn_a211, zn_a891, zp_ri2i, nI_add, z_vr, nI_clamp, zn_w0, zn_w1, zn_w2, zn_w3, zn_w4, zn_w5, zn_t0, zn_t1, zn_t2, zn_t3, zn_t4, zn_t5, ↓zs_138, ↓h207, e0, h5, h1, hz, hr, ↓h216, hA, bI, Bool.false_eq_true, z_g_ss]
    · have h1 : (10 ≤ nI z) = True := z_le1 (a := 10) (by omega) (by omega)
      rw [if_pos hq]
      simp (disch := omega) only [↓zx_nil, ↓zx_cons, ↓zp_li, ↓zp_ll, ↓zp_lr, ↓zq_li0, ↓zq_li1, ↓zq_ll0, ↓zq_ll1, ↓zq_lr0, ↓zq_lr1, ↓zk_0, ↓zk_1n, ↓zk_1i, ↓zk_1r, ↓zk_1l, ↓zk_2, zp_okt, ↓zp_okl, zp_sh0, zp_sh1, zp_psn, zp_pss, ↓zp_ri1, ↓zp_ri20, ↓zp_ri21, ↓zp_rl, ↓zp_ra, ↓zp_rv, ↓zp_br, ↓reduceIte, Nat.reduceAdd, Nat.zero_add, Nat.add_zero, Nat.le_refl, Nat.zero_le, ↓zx_aload_0, ↓zx_iconst, ↓zyp_6_0, ↓zx_iload_1, ↓zyc_151, ↓zy_if_eq, ↓zx_iload_2, ↓zy_i2l, ↓zx_lconst0, ↓zx_lconst1, ↓zyc_130, ↓zy_if_ne, ↓zx_iret, ↓zyp_6_17, ↓zy_istore_3, ↓zx_iload_3, ↓zyc_207, ↓zy_ic_eq, ↓zyg_6_17, ↓zx_bipush, ↓zy_ic_ge, ↓zy_istore, ↓zyg_6_3, ↓zx_iload, ↓zyc_138, ↓zyc_216, ↓zyg_6_16, ↓zyc_139, ↓zy_dupi, ↓zy_dupr, ↓zy_iadd, ↓zy_iinc, ↓zx_goto, ↓zy_ishl, ↓zy_ishr, ↓zy_iand, ↓zy_ic_ne, ↓zyc_148, ↓zy_ic_gt, ↓zy_ic_le, ↓zya_21, ↓zya_22, ↓zya_24, ↓zya_26, ↓zya_27, ↓zya_30, ↓zya_32, ↓zya_33, ↓zyb_21, ↓zyb_22, ↓zyb_24, ↓zyb_26, ↓zyb_27, ↓zyb_30, ↓zyb_32, ↓zyb_33, ↓zpX_s, ↓zpX_n, z_i10, z_10, z_00, and_self, not_true_eq_false, not_false_eq_true, true_and, and_true, false_and, and_false, true_or, false_or, or_false, or_true, or_self, if_true, if_false, ite_self, ↓zs_72, ↓h207, e0, h5, h1, hz, z_g_ss]
      exact hK _ _ _ _ hX hz hz2
set_option maxRecDepth 100000 in
set_option maxHeartbeats 4000000 in
theorem zl_215b {z : Nat} (hz : z_I (z_g m 1) 6 0 17 = nI z) (hz2 : z ≤ 12) {o3 o4 : Option zV} : ∀ (n i : Nat) (a : Int32), i + n = z → zW 215 (d + 4) Q 131 [some (zr (some (6, 1, 0))), some (zi v), some (zi w), o3, o4, some (zi x), some (zi a), some (zi (nI i))] [] m 0 = zW 215 (d + 4) Q 173 [some (zr (some (6, 1, 0))), some (zi v), some (zi w), o3, o4, some (zi x), some (zi (z_it (mSuS (z_g m 1) x) n i a)), some (zi (nI z))] [] m 0 := by
  intro n
  induction n with
  | zero =>
    intro i a hi
    have e : i = z := by omega
    subst e
    have h1 := z_le1 (Nat.le_refl i) (by omega)
    rw [zu_215_131]
    simp (disch := omega) only [↓zx_nil, ↓zx_cons, ↓zp_li, ↓zp_ll, ↓zp_lr, ↓zq_li0, ↓zq_li1, ↓zq_ll0, ↓zq_ll1, ↓zq_lr0, ↓zq_lr1, ↓zk_0, ↓zk_1n, ↓zk_1i, ↓zk_1r, ↓zk_1l, ↓zk_2, zp_okt, ↓zp_okl, zp_sh0, zp_sh1, zp_psn, zp_pss, ↓zp_ri1, ↓zp_ri20, ↓zp_ri21, ↓zp_rl, ↓zp_ra, ↓zp_rv, ↓zp_br, ↓reduceIte, Nat.reduceAdd, Nat.zero_add, Nat.add_zero, Nat.le_refl, Nat.zero_le, ↓zx_aload_0, ↓zx_iconst, ↓zyp_6_0, ↓zx_iload_1, ↓zyc_151, ↓zy_if_eq, ↓zx_iload_2, ↓zy_i2l, ↓zx_lconst0, ↓zx_lconst1, ↓zyc_130, ↓zy_if_ne, ↓zx_iret, ↓zyp_6_17, ↓zy_istore_3, ↓zx_iload_3, ↓zyc_207, ↓zy_ic_eq, ↓zyg_6_17, ↓zx_bipush, ↓zy_ic_ge, ↓zy_istore, ↓zyg_6_3, ↓zx_iload, ↓zyc_138, ↓zyc_216, ↓zyg_6_16, ↓zyc_139, ↓zy_dupi, ↓zy_dupr, ↓zy_iadd, ↓zy_iinc, ↓zx_goto, ↓zy_ishl, ↓zy_ishr, ↓zy_iand, ↓zy_ic_ne, ↓zyc_148, ↓zy_ic_gt, ↓zy_ic_le, ↓zya_21, ↓zya_22, ↓zya_24, ↓zya_26, ↓zya_27, ↓zya_30, ↓zya_32, ↓zya_33, ↓zyb_21, ↓zyb_22, ↓zyb_24, ↓zyb_26, ↓zyb_27, ↓zyb_30, ↓zyb_32, ↓zyb_33, ↓zpX_s, ↓zpX_n, z_i10, z_10, z_00, and_self, not_true_eq_false, not_false_eq_true, true_and, and_true, false_and, and_false, true_or, false_or, or_false, or_true, or_self, if_true, if_false, ite_self, ↓zs_72, zn_p0, zn_p1, zn_p2, zn_p3, zn_p4, zn_p5, zn_p6, zn_p7, zn_p8, zn_p13, zn_p88, zn_p891, zn_m2, zn_m3, zn_m8, zn_m17, zn_m29, zn_m88, zn_m891, zn_a2, zn_a3, zn_a6, zn_a8, zn_a18, zn_a66, zn_a88, zn_a211, zn_a891, zp_ri2i, nI_add, z_vr, nI_clamp, zn_w0, zn_w1, zn_w2, zn_w3, zn_w4, zn_w5, zn_t0, zn_t1, zn_t2, zn_t3, zn_t4, zn_t5, hz, h1]
    rfl
  | succ n ih =>
    intro i a hi
    have h1 := z_le0 (show i < z by omega) (by omega)
    rw [zu_215_131]
    refine Eq.trans ?_ (ih (i + 1) (mSuS (z_g m 1) x i a) (by omega))
    unfold mSuS
    rcases Classical.em (x >>> (nI i &&& 31) &&& 1 = 1) with q | q
    · rw [if_pos q]
      simp (disch := omega) only [↓zu_215_163, ↓zu_215_164, ↓zx_nil, ↓zx_cons, ↓zp_li, ↓zp_ll, ↓zp_lr, ↓zq_li0, ↓zq_li1, ↓zq_ll0, ↓zq_ll1, ↓zq_lr0, ↓zq_lr1, ↓zk_0, ↓zk_1n, ↓zk_1i, ↓zk_1r, ↓zk_1l, ↓zk_2, zp_okt, ↓zp_okl, zp_sh0, zp_sh1, zp_psn, zp_pss, ↓zp_ri1, ↓zp_ri20, ↓zp_ri21, ↓zp_rl, ↓zp_ra, ↓zp_rv, ↓zp_br, ↓reduceIte, Nat.reduceAdd, Nat.zero_add, Nat.add_zero, Nat.le_refl, Nat.zero_le, ↓zx_aload_0, ↓zx_iconst, ↓zyp_6_0, ↓zx_iload_1, ↓zyc_151, ↓zy_if_eq, ↓zx_iload_2, ↓zy_i2l, ↓zx_lconst0, ↓zx_lconst1, ↓zyc_130, ↓zy_if_ne, ↓zx_iret, ↓zyp_6_17, ↓zy_istore_3, ↓zx_iload_3, ↓zyc_207, ↓zy_ic_eq, ↓zyg_6_17, ↓zx_bipush, ↓zy_ic_ge, ↓zy_istore, ↓zyg_6_3, ↓zx_iload, ↓zyc_138, ↓zyc_216, ↓zyg_6_16, ↓zyc_139, ↓zy_dupi, ↓zy_dupr, ↓zy_iadd, ↓zy_iinc, ↓zx_goto, ↓zy_ishl, ↓zy_ishr, ↓zy_iand, ↓zy_ic_ne, ↓zyc_148, ↓zy_ic_gt, ↓zy_ic_le, ↓zya_21, ↓zya_22, ↓zya_24, ↓zya_26, ↓zya_27, ↓zya_30, ↓zya_32, ↓zya_33, ↓zyb_21, ↓zyb_22, ↓zyb_24, ↓zyb_26, ↓zyb_27, ↓zyb_30, ↓zyb_32, ↓zyb_33, ↓zpX_s, ↓zpX_n, z_i10, z_10, z_00, and_self, not_true_eq_false, not_false_eq_true, true_and, and_true, false_and, and_false, true_or, false_or, or_false, or_true, or_self, if_true, if_false, ite_self, ↓zs_72, zn_p0, zn_p1, zn_p2, zn_p3, zn_p4, zn_p5, zn_p6, zn_p7, zn_p8, zn_p13, zn_p88, zn_p891, zn_m2, zn_m3, zn_m8, zn_m17, zn_m29, zn_m88, zn_m891, zn_a2, zn_a3, zn_a6, zn_a8, zn_a18, zn_a66, zn_a88, zn_a211, zn_a891, zp_ri2i, nI_add, z_vr, nI_clamp, zn_w0, zn_w1, zn_w2, zn_w3, zn_w4, zn_w5, zn_t0, zn_t1, zn_t2, zn_t3, zn_t4, zn_t5, hz, h1, eq_true q]
    · rw [if_neg q]
      simp (disch := omega) only [↓zu_215_163, ↓zu_215_164, ↓zx_nil, ↓zx_cons, ↓zp_li, ↓zp_ll, ↓zp_lr, ↓zq_li0, ↓zq_li1, ↓zq_ll0, ↓zq_ll1, ↓zq_lr0, ↓zq_lr1, ↓zk_0, ↓zk_1n, ↓zk_1i, ↓zk_1r, ↓zk_1l, ↓zk_2, zp_okt, ↓zp_okl, zp_sh0, zp_sh1, zp_psn, zp_pss, ↓zp_ri1, ↓zp_ri20, ↓zp_ri21, ↓zp_rl, ↓zp_ra, ↓zp_rv, ↓zp_br, ↓reduceIte, Nat.reduceAdd, Nat.zero_add, Nat.add_zero, Nat.le_refl, Nat.zero_le, ↓zx_aload_0, ↓zx_iconst, ↓zyp_6_0, ↓zx_iload_1, ↓zyc_151, ↓zy_if_eq, ↓zx_iload_2, ↓zy_i2l, ↓zx_lconst0, ↓zx_lconst1, ↓zyc_130, ↓zy_if_ne, ↓zx_iret, ↓zyp_6_17, ↓zy_istore_3, ↓zx_iload_3, ↓zyc_207, ↓zy_ic_eq, ↓zyg_6_17, ↓zx_bipush, ↓zy_ic_ge, ↓zy_istore, ↓zyg_6_3, ↓zx_iload, ↓zyc_138, ↓zyc_216, ↓zyg_6_16, ↓zyc_139, ↓zy_dupi, ↓zy_dupr, ↓zy_iadd, ↓zy_iinc, ↓zx_goto, ↓zy_ishl, ↓zy_ishr, ↓zy_iand, ↓zy_ic_ne, ↓zyc_148, ↓zy_ic_gt, ↓zy_ic_le, ↓zya_21, ↓zya_22, ↓zya_24, ↓zya_26, ↓zya_27, ↓zya_30, ↓zya_32, ↓zya_33, ↓zyb_21, ↓zyb_22, ↓zyb_24, ↓zyb_26, ↓zyb_27, ↓zyb_30, ↓zyb_32, ↓zyb_33, ↓zpX_s, ↓zpX_n, z_i10, z_10, z_00, and_self, not_true_eq_false, not_false_eq_true, true_and, and_true, false_and, and_false, true_or, false_or, or_false, or_true, or_self, if_true, if_false, ite_self, ↓zs_72, zn_p0, zn_p1, zn_p2, zn_p3, zn_p4, zn_p5, zn_p6, zn_p7, zn_p8, zn_p13, zn_p88, zn_p891, zn_m2, zn_m3, zn_m8, zn_m17, zn_m29, zn_m88, zn_m891, zn_a2, zn_a3, zn_a6, zn_a8, zn_a18, zn_a66, zn_a88, zn_a211, zn_a891, zp_ri2i, nI_add, z_vr, nI_clamp, zn_w0, zn_w1, zn_w2, zn_w3, zn_w4, zn_w5, zn_t0, zn_t1, zn_t2, zn_t3, zn_t4, zn_t5, hz, h1, q]
def mFuS (X : zS) (z : Nat) (fr : Int32) (i : Nat) (p : Int32 × Int32) : Int32 × Int32 := if ¬ fr < mSum X (nI i) z ∧ ¬ mSum X (nI i) z ≤ p.2 then (nI i, mSum X (nI i) z) else p
set_option maxRecDepth 100000 in
set_option maxHeartbeats 4000000 in
theorem zl_215c {z : Nat} (hg : g < 4) (hz : z_I (z_g m 1) 6 0 17 = nI z) (hz2 : z ≤ 12) : ∀ (n i : Nat) (p : Int32 × Int32) (o6 o7 : Option zV), i + n = 2 ^ z → zW 215 (d + 4) Q 114 [some (zr (some (6, 1, 0))), some (zi (nI g)), some (zi w), some (zi p.1), some (zi p.2), some (zi (nI i)), o6, o7] [] m 0 = Q (some (zi (if w = 0 then (z_it (mFuS (z_g m 1) z (mFree (z_g m 1) g)) n i p).1 else (z_it (mFuS (z_g m 1) z (mFree (z_g m 1) g)) n i p).2))) m := by
  have hp := z_2p hz2
  have h5 := z_1s hz2
  intro n
  induction n with
  | zero =>
    intro i p o6 o7 hi
    have h1 := z_le1 (show 2 ^ z ≤ i by omega) (by omega)
    rw [zu_215_114]
    rcases Classical.em (w = 0) with q | q
    · simp (disch := omega) only [↓zu_215_203, ↓zu_215_211, ↓zu_215_213, ↓zx_nil, ↓zx_cons, ↓zp_li, ↓zp_ll, ↓zp_lr, ↓zq_li0, ↓zq_li1, ↓zq_ll0, ↓zq_ll1, ↓zq_lr0, ↓zq_lr1, ↓zk_0, ↓zk_1n, ↓zk_1i, ↓zk_1r, ↓zk_1l, ↓zk_2, zp_okt, ↓zp_okl, zp_sh0, zp_sh1, zp_psn, zp_pss, ↓zp_ri1, ↓zp_ri20, ↓zp_ri21, ↓zp_rl, ↓zp_ra, ↓zp_rv, ↓zp_br, ↓reduceIte, Nat.reduceAdd, Nat.zero_add, Nat.add_zero, Nat.le_refl, Nat.zero_le, ↓zx_aload_0, ↓zx_iconst, ↓zyp_6_0, ↓zx_iload_1, ↓zyc_151, ↓zy_if_eq, ↓zx_iload_2, ↓zy_i2l, ↓zx_lconst0, ↓zx_lconst1, ↓zyc_130, ↓zy_if_ne, ↓zx_iret, ↓zyp_6_17, ↓zy_istore_3, ↓zx_iload_3, ↓zyc_207, ↓zy_ic_eq, ↓zyg_6_17, ↓zx_bipush, ↓zy_ic_ge, ↓zy_istore, ↓zyg_6_3, ↓zx_iload, ↓zyc_138, ↓zyc_216, ↓zyg_6_16, ↓zyc_139, ↓zy_dupi, ↓zy_dupr, ↓zy_iadd, ↓zy_iinc, ↓zx_goto, ↓zy_ishl, ↓zy_ishr, ↓zy_iand, ↓zy_ic_ne, ↓zyc_148, ↓zy_ic_gt, ↓zy_ic_le, ↓zya_21, ↓zya_22, ↓zya_24, ↓zya_26, ↓zya_27, ↓zya_30, ↓zya_32, ↓zya_33, ↓zyb_21, ↓zyb_22, ↓zyb_24, ↓zyb_26, ↓zyb_27, ↓zyb_30, ↓zyb_32, ↓zyb_33, ↓zpX_s, ↓zpX_n, z_i10, z_10, z_00, and_self, not_true_eq_false, not_false_eq_true, true_and, and_true, false_and, and_false, true_or, false_or, or_false, or_true, or_self, if_true, if_false, ite_self, ↓zs_72, hz, h5, h1, eq_true q]
      rfl
    · simp (disch := omega) only [↓zu_215_203, ↓zu_215_211, ↓zu_215_213, ↓zx_nil, ↓zx_cons, ↓zp_li, ↓zp_ll, ↓zp_lr, ↓zq_li0, ↓zq_li1, ↓zq_ll0, ↓zq_ll1, ↓zq_lr0, ↓zq_lr1, ↓zk_0, ↓zk_1n, ↓zk_1i, ↓zk_1r, ↓zk_1l, ↓zk_2, zp_okt, ↓zp_okl, zp_sh0, zp_sh1, zp_psn, zp_pss, ↓zp_ri1, ↓zp_ri20, ↓zp_ri21, ↓zp_rl, ↓zp_ra, ↓zp_rv, ↓zp_br, ↓reduceIte, Nat.reduceAdd, Nat.zero_add, Nat.add_zero, Nat.le_refl, Nat.zero_le, ↓zx_aload_0, ↓zx_iconst, ↓zyp_6_0, ↓zx_iload_1, ↓zyc_151, ↓zy_if_eq, ↓zx_iload_2, ↓zy_i2l, ↓zx_lconst0, ↓zx_lconst1, ↓zyc_130, ↓zy_if_ne, ↓zx_iret, ↓zyp_6_17, ↓zy_istore_3, ↓zx_iload_3, ↓zyc_207, ↓zy_ic_eq, ↓zyg_6_17, ↓zx_bipush, ↓zy_ic_ge, ↓zy_istore, ↓zyg_6_3, ↓zx_iload, ↓zyc_138, ↓zyc_216, ↓zyg_6_16, ↓zyc_139, ↓zy_dupi, ↓zy_dupr, ↓zy_iadd, ↓zy_iinc, ↓zx_goto, ↓zy_ishl, ↓zy_ishr, ↓zy_iand, ↓zy_ic_ne, ↓zyc_148, ↓zy_ic_gt, ↓zy_ic_le, ↓zya_21, ↓zya_22, ↓zya_24, ↓zya_26, ↓zya_27, ↓zya_30, ↓zya_32, ↓zya_33, ↓zyb_21, ↓zyb_22, ↓zyb_24, ↓zyb_26, ↓zyb_27, ↓zyb_30, ↓zyb_32, ↓zyb_33, ↓zpX_s, ↓zpX_n, z_i10, z_10, z_00, and_self, not_true_eq_false, not_false_eq_true, true_and, and_true, false_and, and_false, true_or, false_or, or_false, or_true, or_self, if_true, if_false, ite_self, ↓zs_72, hz, h5, h1, q]
      rfl
  | succ n ih =>
    intro i p o6 o7 hi
    have h1 := z_le0 (show i < 2 ^ z by omega) (by omega)
    have hb := zl_215b (d := d) (m := m) (Q := Q) (v := nI g) (w := w) (x := nI i) hz hz2 (o3 := some (zi p.1)) (o4 := some (zi p.2)) z 0 0 (by omega)
    have h148 := fun d Q => zs_148 (d := d) (m := m) (g := g) (Q := Q) hg
    have ih := ih (i + 1) (mFuS (z_g m 1) z (mFree (z_g m 1) g) i p) (some (zi (mSum (z_g m 1) (nI i) z))) (some (zi (nI z))) (by omega)
    rw [zu_215_114]
    simp (disch := omega) only [↓zx_nil, ↓zx_cons, ↓zp_li, ↓zp_ll, ↓zp_lr, ↓zq_li0, ↓zq_li1, ↓zq_ll0, ↓zq_ll1, ↓zq_lr0, ↓zq_lr1, ↓zk_0, ↓zk_1n, ↓zk_1i, ↓zk_1r, ↓zk_1l, ↓zk_2, zp_okt, ↓zp_okl, zp_sh0, zp_sh1, zp_psn, zp_pss, ↓zp_ri1, ↓zp_ri20, ↓zp_ri21, ↓zp_rl, ↓zp_ra, ↓zp_rv, ↓zp_br, ↓reduceIte, Nat.reduceAdd, Nat.zero_add, Nat.add_zero, Nat.le_refl, Nat.zero_le, ↓zx_aload_0, ↓zx_iconst, ↓zyp_6_0, ↓zx_iload_1, ↓zyc_151, ↓zy_if_eq, ↓zx_iload_2, ↓zy_i2l, ↓zx_lconst0, ↓zx_lconst1, ↓zyc_130, ↓zy_if_ne, ↓zx_iret, ↓zyp_6_17, ↓zy_istore_3, ↓zx_iload_3, ↓zyc_207, ↓zy_ic_eq, ↓zyg_6_17, ↓zx_bipush, ↓zy_ic_ge, ↓zy_istore, ↓zyg_6_3, ↓zx_iload, ↓zyc_138, ↓zyc_216, ↓zyg_6_16, ↓zyc_139, ↓zy_dupi, ↓zy_dupr, ↓zy_iadd, ↓zy_iinc, ↓zx_goto, ↓zy_ishl, ↓zy_ishr, ↓zy_iand, ↓zy_ic_ne, ↓zyc_148, ↓zy_ic_gt, ↓zy_ic_le, ↓zya_21, ↓zya_22, ↓zya_24, ↓zya_26, ↓zya_27, ↓zya_30, ↓zya_32, ↓zya_33, ↓zyb_21, ↓zyb_22, ↓zyb_24, ↓zyb_26, ↓zyb_27, ↓zyb_30, ↓zyb_32, ↓zyb_33, ↓zpX_s, ↓zpX_n, z_i10, z_10, z_00, and_self, not_true_eq_false, not_false_eq_true, true_and, and_true, false_and, and_false, true_or, false_or, or_false, or_true, or_self, if_true, if_false, ite_self, ↓zs_72, hz, h5, h1]
    refine Eq.trans hb (Eq.trans ?_ ih)
    show zW 215 (d + 4) Q 173 [some (zr (some (6, 1, 0))), some (zi (nI g)), some (zi w), some (zi p.1), some (zi p.2), some (zi (nI i)), some (zi (mSum (z_g m 1) (nI i) z)), some (zi (nI z))] [] m 0 = _
    unfold mFuS
    generalize mSum (z_g m 1) (nI i) z = S at *
    rcases Classical.em (mFree (z_g m 1) g < S) with q | q
    · rw [if_neg fun y => y.1 q]
      simp (disch := omega) only [↓zu_215_173, ↓zu_215_197, ↓zx_nil, ↓zx_cons, ↓zp_li, ↓zp_ll, ↓zp_lr, ↓zq_li0, ↓zq_li1, ↓zq_ll0, ↓zq_ll1, ↓zq_lr0, ↓zq_lr1, ↓zk_0, ↓zk_1n, ↓zk_1i, ↓zk_1r, ↓zk_1l, ↓zk_2, zp_okt, ↓zp_okl, zp_sh0, zp_sh1, zp_psn, zp_pss, ↓zp_ri1, ↓zp_ri20, ↓zp_ri21, ↓zp_rl, ↓zp_ra, ↓zp_rv, ↓zp_br, ↓reduceIte, Nat.reduceAdd, Nat.zero_add, Nat.add_zero, Nat.le_refl, Nat.zero_le, ↓zx_aload_0, ↓zx_iconst, ↓zyp_6_0, ↓zx_iload_1, ↓zyc_151, ↓zy_if_eq, ↓zx_iload_2, ↓zy_i2l, ↓zx_lconst0, ↓zx_lconst1, ↓zyc_130, ↓zy_if_ne, ↓zx_iret, ↓zyp_6_17, ↓zy_istore_3, ↓zx_iload_3, ↓zyc_207, ↓zy_ic_eq, ↓zyg_6_17, ↓zx_bipush, ↓zy_ic_ge, ↓zy_istore, ↓zyg_6_3, ↓zx_iload, ↓zyc_138, ↓zyc_216, ↓zyg_6_16, ↓zyc_139, ↓zy_dupi, ↓zy_dupr, ↓zy_iadd, ↓zy_iinc, ↓zx_goto, ↓zy_ishl, ↓zy_ishr, ↓zy_iand, ↓zy_ic_ne, ↓zyc_148, ↓zy_ic_gt, ↓zy_ic_le, ↓zya_21, ↓zya_22, ↓zya_24, ↓zya_26, ↓zya_27, ↓zya_30, ↓zya_32, ↓zya_33, ↓zyb_21, ↓zyb_22, ↓zyb_24, ↓zyb_26, ↓zyb_27, ↓zyb_30, ↓zyb_32, ↓zyb_33, ↓zpX_s, ↓zpX_n, z_i10, z_10, z_00, and_self, not_true_eq_false, not_false_eq_true, true_and, and_true, false_and, and_false, true_or, false_or, or_false, or_true, or_self, if_true, if_false, ite_self, ↓zs_72, ↓h148, eq_true q, nI_1]
    · rcases Classical.em (S ≤ p.2) with q2 | q2
      · rw [if_neg fun y => y.2 q2]
        simp (disch := omega) only [↓zu_215_173, ↓zu_215_197, ↓zx_nil, ↓zx_cons, ↓zp_li, ↓zp_ll, ↓zp_lr, ↓zq_li0, ↓zq_li1, ↓zq_ll0, ↓zq_ll1, ↓zq_lr0, ↓zq_lr1, ↓zk_0, ↓zk_1n, ↓zk_1i, ↓zk_1r, ↓zk_1l, ↓zk_2, zp_okt, ↓zp_okl, zp_sh0, zp_sh1, zp_psn, zp_pss, ↓zp_ri1, ↓zp_ri20, ↓zp_ri21, ↓zp_rl, ↓zp_ra, ↓zp_rv, ↓zp_br, ↓reduceIte, Nat.reduceAdd, Nat.zero_add, Nat.add_zero, Nat.le_refl, Nat.zero_le, ↓zx_aload_0, ↓zx_iconst, ↓zyp_6_0, ↓zx_iload_1, ↓zyc_151, ↓zy_if_eq, ↓zx_iload_2, ↓zy_i2l, ↓zx_lconst0, ↓zx_lconst1, ↓zyc_130, ↓zy_if_ne, ↓zx_iret, ↓zyp_6_17, ↓zy_istore_3, ↓zx_iload_3, ↓zyc_207, ↓zy_ic_eq, ↓zyg_6_17, ↓zx_bipush, ↓zy_ic_ge, ↓zy_istore, ↓zyg_6_3, ↓zx_iload, ↓zyc_138, ↓zyc_216, ↓zyg_6_16, ↓zyc_139, ↓zy_dupi, ↓zy_dupr, ↓zy_iadd, ↓zy_iinc, ↓zx_goto, ↓zy_ishl, ↓zy_ishr, ↓zy_iand, ↓zy_ic_ne, ↓zyc_148, ↓zy_ic_gt, ↓zy_ic_le, ↓zya_21, ↓zya_22, ↓zya_24, ↓zya_26, ↓zya_27, ↓zya_30, ↓zya_32, ↓zya_33, ↓zyb_21, ↓zyb_22, ↓zyb_24, ↓zyb_26, ↓zyb_27, ↓zyb_30, ↓zyb_32, ↓zyb_33, ↓zpX_s, ↓zpX_n, z_i10, z_10, z_00, and_self, not_true_eq_false, not_false_eq_true, true_and, and_true, false_and, and_false, true_or, false_or, or_false, or_true, or_self, if_true, if_false, ite_self, ↓zs_72, ↓h148, q, eq_true q2, nI_1]
      · rw [if_pos ⟨q, q2⟩]
        simp (disch := omega) only [↓zu_215_173, ↓zu_215_197, ↓zx_nil, ↓zx_cons, ↓zp_li, ↓zp_ll, ↓zp_lr, ↓zq_li0, ↓zq_li1, ↓zq_ll0, ↓zq_ll1, ↓zq_lr0, ↓zq_lr1, ↓zk_0, ↓zk_1n, ↓zk_1i, ↓zk_1r, ↓zk_1l, ↓zk_2, zp_okt, ↓zp_okl, zp_sh0, zp_sh1, zp_psn, zp_pss, ↓zp_ri1, ↓zp_ri20, ↓zp_ri21, ↓zp_rl, ↓zp_ra, ↓zp_rv, ↓zp_br, ↓reduceIte, Nat.reduceAdd, Nat.zero_add, Nat.add_zero, Nat.le_refl, Nat.zero_le, ↓zx_aload_0, ↓zx_iconst, ↓zyp_6_0, ↓zx_iload_1, ↓zyc_151, ↓zy_if_eq, ↓zx_iload_2, ↓zy_i2l, ↓zx_lconst0, ↓zx_lconst1, ↓zyc_130, ↓zy_if_ne, ↓zx_iret, ↓zyp_6_17, ↓zy_istore_3, ↓zx_iload_3, ↓zyc_207, ↓zy_ic_eq, ↓zyg_6_17, ↓zx_bipush, ↓zy_ic_ge, ↓zy_istore, ↓zyg_6_3, ↓zx_iload, ↓zyc_138, ↓zyc_216, ↓zyg_6_16, ↓zyc_139, ↓zy_dupi, ↓zy_dupr, ↓zy_iadd, ↓zy_iinc, ↓zx_goto, ↓zy_ishl, ↓zy_ishr, ↓zy_iand, ↓zy_ic_ne, ↓zyc_148, ↓zy_ic_gt, ↓zy_ic_le, ↓zya_21, ↓zya_22, ↓zya_24, ↓zya_26, ↓zya_27, ↓zya_30, ↓zya_32, ↓zya_33, ↓zyb_21, ↓zyb_22, ↓zyb_24, ↓zyb_26, ↓zyb_27, ↓zyb_30, ↓zyb_32, ↓zyb_33, ↓zpX_s, ↓zpX_n, z_i10, z_10, z_00, and_self, not_true_eq_false, not_false_eq_true, true_and, and_true, false_and, and_false, true_or, false_or, or_false, or_true, or_self, if_true, if_false, ite_self, ↓zs_72, ↓h148, q, q2, nI_1]
abbrev mBs0 (M : zS) : zS := z_uI (mTh M) 6 0 17 0
def mBsQ (M : zS) (g : Nat) (w : Int32) (p : Nat × zS) : Int32 := if w = 0 then (z_it (mFuS p.2 p.1 (mFree M g)) (2 ^ p.1 - 1) 1 (0, 0)).1 else (z_it (mFuS p.2 p.1 (mFree M g)) (2 ^ p.1 - 1) 1 (0, 0)).2
theorem mBs0_rw {M : zS} : mRw M (mBs0 M) := fun j => (z_I_o (by decide)).trans mTh_r
set_option maxRecDepth 100000 in
set_option maxHeartbeats 4000000 in
theorem zs_215 (L : List Nat) (hO : mOk (z_g m 1)) (hL0 : L.length ≤ 40) (hW : ∀ j, j ≤ L.length → mWait (z_g m 1) (nI j) = oI L[j]?) (hL : ∀ j ∈ L, j < mN (z_g m 1)) : z_call (d + 5) 215 [zr (some (6, 1, 0)), zi v, zi w] m Q = if (0 ≤ v ∧ v < z_I (z_g m 1) 22 0 1) ∧ ¬ (w < 0 ∨ 1 < w) then (Q (some (zi (mBsQ (z_g m 1) v.toNatClampNeg w (mBsG (z_g m 1) v L 0 (mBs0 (z_g m 1)))))) (z_s m 1 (mBsG (z_g m 1) v L 0 (mBs0 (z_g m 1))).2)) else Q (some (zi (-1))) (z_s m 1 (mTh (z_g m 1))) := by
  have e1 : ∀ j, z_I (z_uI (z_g m 1) 6 0 0 0) 22 0 j = z_I (z_g m 1) 22 0 j := fun j => mTh_r
  have e2 : ∀ j x, z_I (mRem (z_uI (z_g m 1) 6 0 0 0) x) 22 0 j = z_I (z_g m 1) 22 0 j := fun j x => mRem_r.trans mTh_r
  have h151 := fun d v Q => zs_151 (d := d) (m := z_s m 1 (mTh (z_g m 1))) (v := v) (Q := Q) (by rw [z_g_ss, mTh_r]; exact hO.ng)
  simp only [z_g_ss, e1] at h151
  have e_w : (0 ≤ w.toInt64 ∧ w.toInt64 ≤ 1) = ¬ (w < 0 ∨ 1 < w) := z_in64 (lo := 0) (hi := 1) rfl rfl
  rcases Classical.em (0 ≤ v ∧ v < z_I (z_g m 1) 22 0 1) with c00 | c00
  · rcases Classical.em (w < 0 ∨ 1 < w) with c01 | c01
    · simp (maxSteps := 4000000) (disch := omega) only [↓zen_215, ↓zu_215_0, ↓zu_215_23, ↓zu_215_25, ↓zu_215_100, ↓zu_215_106, ↓zu_215_163, ↓zu_215_164, ↓zu_215_173, ↓zu_215_197, ↓zu_215_203, ↓zu_215_211, ↓zu_215_213, ↓zx_nil, ↓zx_cons, ↓zp_li, ↓zp_ll, ↓zp_lr, ↓zq_li0, ↓zq_li1, ↓zq_ll0, ↓zq_ll1, ↓zq_lr0, ↓zq_lr1, ↓zk_0, ↓zk_1n, ↓zk_1i, ↓zk_1r, ↓zk_1l, ↓zk_2, zp_okt, ↓zp_okl, zp_sh0, zp_sh1, zp_psn, zp_pss, ↓zp_ri1, ↓zp_ri20, ↓zp_ri21, ↓zp_rl, ↓zp_ra, ↓zp_rv, ↓zp_br, ↓reduceIte, Nat.reduceAdd, Nat.zero_add, Nat.add_zero, Nat.le_refl, Nat.zero_le, ↓zx_aload_0, ↓zx_iconst, ↓zyp_6_0, ↓zx_iload_1, ↓zyc_151, ↓zy_if_eq, ↓zx_iload_2, ↓zy_i2l, ↓zx_lconst0, ↓zx_lconst1, ↓zyc_130, ↓zy_if_ne, ↓zx_iret, ↓zyp_6_17, ↓zy_istore_3, ↓zx_iload_3, ↓zyc_207, ↓zy_ic_eq, ↓zyg_6_17, ↓zx_bipush, ↓zy_ic_ge, ↓zy_istore, ↓zyg_6_3, ↓zx_iload, ↓zyc_138, ↓zyc_216, ↓zyg_6_16, ↓zyc_139, ↓zy_dupi, ↓zy_dupr, ↓zy_iadd, ↓zy_iinc, ↓zx_goto, ↓zy_ishl, ↓zy_ishr, ↓zy_iand, ↓zy_ic_ne, ↓zyc_148, ↓zy_ic_gt, ↓zy_ic_le, ↓zya_21, ↓zya_22, ↓zya_24, ↓zya_26, ↓zya_27, ↓zya_30, ↓zya_32, ↓zya_33, ↓zyb_21, ↓zyb_22, ↓zyb_24, ↓zyb_26, ↓zyb_27, ↓zyb_30, ↓zyb_32, ↓zyb_33, ↓zpX_s, ↓zpX_n, z_i10, z_10, z_00, and_self, not_true_eq_false, not_false_eq_true, true_and, and_true, false_and, and_false, true_or, false_or, or_false, or_true, or_self, if_true, if_false, ite_self, ↓zs_72, zn_p0, zn_p1, zn_p2, zn_p3, zn_p4, zn_p5, zn_p6, zn_p7, zn_p8, zn_p13, zn_p88, zn_p891, zn_m2, zn_m3, zn_m8, zn_m17, zn_m29, zn_m88, zn_m891, zn_a2, zn_a3, zn_a6, zn_a8, zn_a18, zn_a66, zn_a88, zn_a211, zn_a891, zp_ri2i, nI_add, z_vr, nI_clamp, zn_w0, zn_w1, zn_w2, zn_w3, zn_w4, zn_w5, zn_t0, zn_t1, zn_t2, zn_t3, zn_t4, zn_t5, z_g_ss, zq_ss, e1, ↓zs_130, ↓h151, h151, e_w, eq_true c00, eq_true c01, e1]
    · have hb_v : v.toNatClampNeg < 4 := Nat.lt_of_lt_of_le (z_hasl hO.ng c00) hO.ng.2
      have hv_v := z_nn_eq c00.1
      generalize v.toNatClampNeg = nv at *
      subst hv_v
      have hl := zl_215a (d := d) (m := m) (Q := Q) (v := nI nv) (w := w) (M := z_g m 1) (F := fun z X => Q (some (zi (mBsQ (z_g m 1) nv w (z, X)))) (z_s m 1 X)) hO.nB (fun i' o4 z X hX hz hz2 => by
        have hc := zl_215c (d := d) (m := z_s m 1 X) (Q := Q) (g := nv) (w := w) (z := z) hb_v (by rw [z_g_ss]; exact hz) (by omega) (2 ^ z - 1) 1 (0, 0) none none (by have := Nat.pow_pos (n := z) (show 0 < 2 by decide); omega)
        simp only [z_g_ss, hX.free] at hc
        simp (disch := omega) only [↓zu_215_106, ↓zx_nil, ↓zx_cons, ↓zp_li, ↓zp_ll, ↓zp_lr, ↓zq_li0, ↓zq_li1, ↓zq_ll0, ↓zq_ll1, ↓zq_lr0, ↓zq_lr1, ↓zk_0, ↓zk_1n, ↓zk_1i, ↓zk_1r, ↓zk_1l, ↓zk_2, zp_okt, ↓zp_okl, zp_sh0, zp_sh1, zp_psn, zp_pss, ↓zp_ri1, ↓zp_ri20, ↓zp_ri21, ↓zp_rl, ↓zp_ra, ↓zp_rv, ↓zp_br, ↓reduceIte, Nat.reduceAdd, Nat.zero_add, Nat.add_zero, Nat.le_refl, Nat.zero_le, ↓zx_aload_0, ↓zx_iconst, ↓zyp_6_0, ↓zx_iload_1, ↓zyc_151, ↓zy_if_eq, ↓zx_iload_2, ↓zy_i2l, ↓zx_lconst0, ↓zx_lconst1, ↓zyc_130, ↓zy_if_ne, ↓zx_iret, ↓zyp_6_17, ↓zy_istore_3, ↓zx_iload_3, ↓zyc_207, ↓zy_ic_eq, ↓zyg_6_17, ↓zx_bipush, ↓zy_ic_ge, ↓zy_istore, ↓zyg_6_3, ↓zx_iload, ↓zyc_138, ↓zyc_216, ↓zyg_6_16, ↓zyc_139, ↓zy_dupi, ↓zy_dupr, ↓zy_iadd, ↓zy_iinc, ↓zx_goto, ↓zy_ishl, ↓zy_ishr, ↓zy_iand, ↓zy_ic_ne, ↓zyc_148, ↓zy_ic_gt, ↓zy_ic_le, ↓zya_21, ↓zya_22, ↓zya_24, ↓zya_26, ↓zya_27, ↓zya_30, ↓zya_32, ↓zya_33, ↓zyb_21, ↓zyb_22, ↓zyb_24, ↓zyb_26, ↓zyb_27, ↓zyb_30, ↓zyb_32, ↓zyb_33, ↓zpX_s, ↓zpX_n, z_i10, z_10, z_00, and_self, not_true_eq_false, not_false_eq_true, true_and, and_true, false_and, and_false, true_or, false_or, or_false, or_true, or_self, if_true, if_false, ite_self, ↓zs_72]
        exact hc) L 0 0 (mBs0 (z_g m 1)) none (by omega) (fun j hj => by rw [Nat.zero_add]; exact hW j hj) hL mBs0_rw (by rw [z_I_u, if_pos ⟨rfl, rfl, rfl⟩]; rfl) (by omega)
      simp (maxSteps := 4000000) (disch := omega) only [↓zen_215, ↓zu_215_0, ↓zu_215_23, ↓zu_215_25, ↓zu_215_100, ↓zu_215_106, ↓zu_215_163, ↓zu_215_164, ↓zu_215_173, ↓zu_215_197, ↓zu_215_203, ↓zu_215_211, ↓zu_215_213, ↓zx_nil, ↓zx_cons, ↓zp_li, ↓zp_ll, ↓zp_lr, ↓zq_li0, ↓zq_li1, ↓zq_ll0, ↓zq_ll1, ↓zq_lr0, ↓zq_lr1, ↓zk_0, ↓zk_1n, ↓zk_1i, ↓zk_1r, ↓zk_1l, ↓zk_2, zp_okt, ↓zp_okl, zp_sh0, zp_sh1, zp_psn, zp_pss, ↓zp_ri1, ↓zp_ri20, ↓zp_ri21, ↓zp_rl, ↓zp_ra, ↓zp_rv, ↓zp_br, ↓reduceIte, Nat.reduceAdd, Nat.zero_add, Nat.add_zero, Nat.le_refl, Nat.zero_le, ↓zx_aload_0, ↓zx_iconst, ↓zyp_6_0, ↓zx_iload_1, ↓zyc_151, ↓zy_if_eq, ↓zx_iload_2, ↓zy_i2l, ↓zx_lconst0, ↓zx_lconst1, ↓zyc_130, ↓zy_if_ne, ↓zx_iret, ↓zyp_6_17, ↓zy_istore_3, ↓zx_iload_3, ↓zyc_207, ↓zy_ic_eq, ↓zyg_6_17, ↓zx_bipush, ↓zy_ic_ge, ↓zy_istore, ↓zyg_6_3, ↓zx_iload, ↓zyc_138, ↓zyc_216, ↓zyg_6_16, ↓zyc_139, ↓zy_dupi, ↓zy_dupr, ↓zy_iadd, ↓zy_iinc, ↓zx_goto, ↓zy_ishl, ↓zy_ishr, ↓zy_iand, ↓zy_ic_ne, ↓zyc_148, ↓zy_ic_gt, ↓zy_ic_le, ↓zya_21, ↓zya_22, ↓zya_24, ↓zya_26, ↓zya_27, ↓zya_30, ↓zya_32, ↓zya_33, ↓zyb_21, ↓zyb_22, ↓zyb_24, ↓zyb_26, ↓zyb_27, ↓zyb_30, ↓zyb_32, ↓zyb_33, ↓zpX_s, ↓zpX_n, z_i10, z_10, z_00, and_self, not_true_eq_false, not_false_eq_true, true_and, and_true, false_and, and_false, true_or, false_or, or_false, or_true, or_self, if_true, if_false, ite_self, ↓zs_72, zn_p0, zn_p1, zn_p2, zn_p3, zn_p4, zn_p5, zn_p6, zn_p7, zn_p8, zn_p13, zn_p88, zn_p891, zn_m2, zn_m3, zn_m8, zn_m17, zn_m29, zn_m88, zn_m891, zn_a2, zn_a3, zn_a6, zn_a8, zn_a18, zn_a66, zn_a88, zn_a211, zn_a891, zp_ri2i, nI_add, z_vr, nI_clamp, zn_w0, zn_w1, zn_w2, zn_w3, zn_w4, zn_w5, zn_t0, zn_t1, zn_t2, zn_t3, zn_t4, zn_t5, z_g_ss, zq_ss, e1, e2, ↓zs_130, ↓h151, h151, e_w, eq_true c00, c01]
      exact hl
  · simp (maxSteps := 4000000) (disch := omega) only [↓zen_215, ↓zu_215_0, ↓zu_215_23, ↓zu_215_25, ↓zu_215_100, ↓zu_215_106, ↓zu_215_163, ↓zu_215_164, ↓zu_215_173, ↓zu_215_197, ↓zu_215_203, ↓zu_215_211, ↓zu_215_213, ↓zx_nil, ↓zx_cons, ↓zp_li, ↓zp_ll, ↓zp_lr, ↓zq_li0, ↓zq_li1, ↓zq_ll0, ↓zq_ll1, ↓zq_lr0, ↓zq_lr1, ↓zk_0, ↓zk_1n, ↓zk_1i, ↓zk_1r, ↓zk_1l, ↓zk_2, zp_okt, ↓zp_okl, zp_sh0, zp_sh1, zp_psn, zp_pss, ↓zp_ri1, ↓zp_ri20, ↓zp_ri21, ↓zp_rl, ↓zp_ra, ↓zp_rv, ↓zp_br, ↓reduceIte, Nat.reduceAdd, Nat.zero_add, Nat.add_zero, Nat.le_refl, Nat.zero_le, ↓zx_aload_0, ↓zx_iconst, ↓zyp_6_0, ↓zx_iload_1, ↓zyc_151, ↓zy_if_eq, ↓zx_iload_2, ↓zy_i2l, ↓zx_lconst0, ↓zx_lconst1, ↓zyc_130, ↓zy_if_ne, ↓zx_iret, ↓zyp_6_17, ↓zy_istore_3, ↓zx_iload_3, ↓zyc_207, ↓zy_ic_eq, ↓zyg_6_17, ↓zx_bipush, ↓zy_ic_ge, ↓zy_istore, ↓zyg_6_3, ↓zx_iload, ↓zyc_138, ↓zyc_216, ↓zyg_6_16, ↓zyc_139, ↓zy_dupi, ↓zy_dupr, ↓zy_iadd, ↓zy_iinc, ↓zx_goto, ↓zy_ishl, ↓zy_ishr, ↓zy_iand, ↓zy_ic_ne, ↓zyc_148, ↓zy_ic_gt, ↓zy_ic_le, ↓zya_21, ↓zya_22, ↓zya_24, ↓zya_26, ↓zya_27, ↓zya_30, ↓zya_32, ↓zya_33, ↓zyb_21, ↓zyb_22, ↓zyb_24, ↓zyb_26, ↓zyb_27, ↓zyb_30, ↓zyb_32, ↓zyb_33, ↓zpX_s, ↓zpX_n, z_i10, z_10, z_00, and_self, not_true_eq_false, not_false_eq_true, true_and, and_true, false_and, and_false, true_or, false_or, or_false, or_true, or_self, if_true, if_false, ite_self, ↓zs_72, zn_p0, zn_p1, zn_p2, zn_p3, zn_p4, zn_p5, zn_p6, zn_p7, zn_p8, zn_p13, zn_p88, zn_p891, zn_m2, zn_m3, zn_m8, zn_m17, zn_m29, zn_m88, zn_m891, zn_a2, zn_a3, zn_a6, zn_a8, zn_a18, zn_a66, zn_a88, zn_a211, zn_a891, zp_ri2i, nI_add, z_vr, nI_clamp, zn_w0, zn_w1, zn_w2, zn_w3, zn_w4, zn_w5, zn_t0, zn_t1, zn_t2, zn_t3, zn_t4, zn_t5, z_g_ss, zq_ss, e1, ↓zs_130, ↓h151, h151, e_w, c00, e1]
end Mo29
