/-! ===== THE MODEL: match, rate ===== -/
section Mo25
variable {d r i k g s l t q : Nat} {m : zM} {Q : zQ} {v w a b c e f x y : Int32}
-- 14 match
def mChs (M : zS) (v w : Int32) : Option Nat → List Nat → Prop
  | o, [] => o = none
  | o, j :: L => o = some j ∧ mChs M v w (mNext M v w (some j)) L
def mMaSt (M : zS) (l : Nat) (x : Int32) : zS := if mRest (mComes M l (mFr M l) x) l = 0 then mEnds (mComes M l (mFr M l) x) l (mFr M l) (mTime (mComes M l (mFr M l) x) l) (z_I (mComes M l (mFr M l) x) 22 0 (211 + 17 * l + 7)) 2 else mComes M l (mFr M l) x
def mMaP (v w : Int32) : List Nat → Int32 → zS → Prop
  | [], left, _ => left ≤ 0
  | l :: L, left, M => left ≤ 0 ∨ (l < mN M ∧ mNext M v w (some l) = L.head? ∧ mMaP v w L (left - mMin left (mRest M l)) (mMaSt M l (mMin left (mRest M l))))
def mMaG : List Nat → Int32 → Int32 → zS → Int32 × zS
  | [], _, n, M => (n, M)
  | l :: L, left, n, M => if left ≤ 0 then (n, M) else mMaG L (left - mMin left (mRest M l)) (n + 1) (mMaSt M l (mMin left (mRest M l)))
def mTok (M : zS) : Prop := ∀ l, l < mN M → z_nn (z_I M 22 0 (211 + 17 * l + 1)) 5
theorem mSk.tok {M N : zS} (h : mSk M N) (t : mTok M) : mTok N := fun l hl => by
  have e : mN N = mN M := congrArg Int32.toNatClampNeg h.n3
  rw [h _ (by unfold mSki; omega)]
  exact t l (by rw [← e]; exact hl)
theorem mSk.maSt {M : zS} (hB : mBok M) (ht : mTok M) (hl : l < mN M) : mSk M (mMaSt M l x) := by
  have w := hB.2 l hl
  have h1 := mSk.comes (v := x) w (ht l hl)
  unfold mMaSt
  split
  · exact .tr h1 (.ends (h1.wl w))
  · exact h1
set_option maxRecDepth 100000 in
set_option maxHeartbeats 4000000 in
theorem zl_188a (hB : z_nn (z_I (z_g m 1) 22 0 3) 40) : ∀ (L : List Nat) (o : Option Nat) (x : Int32), mChs (z_g m 1) a b o L → (∀ j, o = some j → j < 40) → zW 188 (d + 6) Q 57 [some (zr (some (6, 1, 0))), some (zi a), some (zi b), some (zi c), some (zi x), some (zi (oI o)), none, none, none, none] [] m 0 = zW 188 (d + 6) Q 87 [some (zr (some (6, 1, 0))), some (zi a), some (zi b), some (zi c), some (zi (L.foldl (fun x l => x + mRest (z_g m 1) l) x)), some (zi (-1)), none, none, none, none] [] m 0 := by
  intro L
  induction L with
  | nil =>
    intro o x h ho
    have h : o = none := h
    subst h
    rw [zu_188_57]
    simp only [↓zx_nil, ↓zx_cons, ↓zp_li, ↓zp_ll, ↓zp_lr, ↓zq_li0, ↓zq_li1, ↓zq_ll0, ↓zq_ll1, ↓zq_lr0, ↓zq_lr1, ↓zk_0, ↓zk_1n, ↓zk_1i, ↓zk_1r, ↓zk_1l, ↓zk_2, zp_okt, ↓zp_okl, zp_sh0, zp_sh1, zp_psn, zp_pss, ↓zp_ri1, ↓zp_ri20, ↓zp_ri21, ↓zp_rl, ↓zp_ra, ↓zp_rv, ↓zp_br, ↓reduceIte, Nat.reduceAdd, Nat.zero_add, Nat.add_zero, Nat.le_refl, Nat.zero_le, ↓zx_aload_0, ↓zx_iconst, ↓zyp_6_0, ↓zx_iload_2, ↓zyc_160, ↓zy_if_eq, ↓zx_iload_3, ↓zy_i2l, ↓zx_lconst1, ↓zx_ldc2, ↓zyc_130, ↓zy_if_ne, ↓zyc_126, ↓zx_iret, ↓zx_iload_1, ↓zyc_158, ↓zx_bipush, ↓zy_istore, ↓zyc_189, ↓zx_iload, ↓zy_ic_eq, ↓zyc_140, ↓zy_iadd, ↓zx_goto, ↓zy_ic_lt, ↓zyg_6_3, ↓zyc_147, ↓zx_ldc, ↓zy_ic_le, ↓zyc_134, ↓zy_if_le, ↓zyc_149, ↓zyc_181, ↓zyc_182, ↓zyc_138, ↓zyc_183, ↓zy_isub, ↓zy_iinc, ↓zyc_136, ↓zya_21, ↓zya_22, ↓zya_24, ↓zya_26, ↓zya_27, ↓zya_30, ↓zya_32, ↓zya_33, ↓zpX_s, ↓zpX_n, z_i10, z_10, z_00, and_self, not_true_eq_false, not_false_eq_true, true_and, and_true, false_and, and_false, true_or, false_or, or_false, or_true, or_self, if_true, if_false, ite_self, ↓zs_72, oI]
    rfl
  | cons j L ih =>
    intro o x h ho
    obtain ⟨h, h2⟩ := h
    subst h
    have hj := ho j rfl
    have h5 := zn_o1 hj
    have h189 := fun d Q => zs_189 (d := d) (m := m) (v := a) (w := b) (o := some j) (Q := Q) hB ho
    have e : oI (some j) = nI j := rfl
    rw [e] at h189
    rw [zu_188_57]
    simp (disch := omega) only [↓zx_nil, ↓zx_cons, ↓zp_li, ↓zp_ll, ↓zp_lr, ↓zq_li0, ↓zq_li1, ↓zq_ll0, ↓zq_ll1, ↓zq_lr0, ↓zq_lr1, ↓zk_0, ↓zk_1n, ↓zk_1i, ↓zk_1r, ↓zk_1l, ↓zk_2, zp_okt, ↓zp_okl, zp_sh0, zp_sh1, zp_psn, zp_pss, ↓zp_ri1, ↓zp_ri20, ↓zp_ri21, ↓zp_rl, ↓zp_ra, ↓zp_rv, ↓zp_br, ↓reduceIte, Nat.reduceAdd, Nat.zero_add, Nat.add_zero, Nat.le_refl, Nat.zero_le, ↓zx_aload_0, ↓zx_iconst, ↓zyp_6_0, ↓zx_iload_2, ↓zyc_160, ↓zy_if_eq, ↓zx_iload_3, ↓zy_i2l, ↓zx_lconst1, ↓zx_ldc2, ↓zyc_130, ↓zy_if_ne, ↓zyc_126, ↓zx_iret, ↓zx_iload_1, ↓zyc_158, ↓zx_bipush, ↓zy_istore, ↓zyc_189, ↓zx_iload, ↓zy_ic_eq, ↓zyc_140, ↓zy_iadd, ↓zx_goto, ↓zy_ic_lt, ↓zyg_6_3, ↓zyc_147, ↓zx_ldc, ↓zy_ic_le, ↓zyc_134, ↓zy_if_le, ↓zyc_149, ↓zyc_181, ↓zyc_182, ↓zyc_138, ↓zyc_183, ↓zy_isub, ↓zy_iinc, ↓zyc_136, ↓zya_21, ↓zya_22, ↓zya_24, ↓zya_26, ↓zya_27, ↓zya_30, ↓zya_32, ↓zya_33, ↓zpX_s, ↓zpX_n, z_i10, z_10, z_00, and_self, not_true_eq_false, not_false_eq_true, true_and, and_true, false_and, and_false, true_or, false_or, or_false, or_true, or_self, if_true, if_false, ite_self, ↓zs_72, e, h5, ↓zs_140, ↓h189, h189]
    exact ih _ _ h2 (fun b hb => Nat.lt_of_lt_of_le (mNext_lt hb) hB.2)
set_option maxRecDepth 100000 in
set_option maxHeartbeats 4000000 in
theorem zl_188b : ∀ (L : List Nat) (left n : Int32) (M : zS) (o8 o9 : Option zV), mMaP a b L left M → mBok M → mTok M → (∀ j ∈ L, j < 40) → zW 188 (d + 6) Q 139 [some (zr (some (6, 1, 0))), some (zi a), some (zi b), some (zi c), some (zi x), some (zi left), some (zi n), some (zi (oI L.head?)), o8, o9] [] (z_s m 1 M) 0 = Q (some (zi (mMaG L left n M).1)) (z_s m 1 (mActd (mMaG L left n M).2)) := by
  have fin : ∀ (left n : Int32) (M : zS) (o7 o8 o9 : Option zV), left ≤ 0 → mBok M → zW 188 (d + 6) Q 139 [some (zr (some (6, 1, 0))), some (zi a), some (zi b), some (zi c), some (zi x), some (zi left), some (zi n), o7, o8, o9] [] (z_s m 1 M) 0 = Q (some (zi n)) (z_s m 1 (mActd M)) := by
    intro left n M o7 o8 o9 h hB
    have h136 := fun x Q => zs_136 (d := d) (m := z_s m 1 M) (v := x) (Q := Q) (by rw [z_g_ss]; exact hB)
    rw [z_g_ss] at h136
    simp only [zq_ss] at h136
    rw [zu_188_139]
    simp only [↓zu_188_227, ↓zx_nil, ↓zx_cons, ↓zp_li, ↓zp_ll, ↓zp_lr, ↓zq_li0, ↓zq_li1, ↓zq_ll0, ↓zq_ll1, ↓zq_lr0, ↓zq_lr1, ↓zk_0, ↓zk_1n, ↓zk_1i, ↓zk_1r, ↓zk_1l, ↓zk_2, zp_okt, ↓zp_okl, zp_sh0, zp_sh1, zp_psn, zp_pss, ↓zp_ri1, ↓zp_ri20, ↓zp_ri21, ↓zp_rl, ↓zp_ra, ↓zp_rv, ↓zp_br, ↓reduceIte, Nat.reduceAdd, Nat.zero_add, Nat.add_zero, Nat.le_refl, Nat.zero_le, ↓zx_aload_0, ↓zx_iconst, ↓zyp_6_0, ↓zx_iload_2, ↓zyc_160, ↓zy_if_eq, ↓zx_iload_3, ↓zy_i2l, ↓zx_lconst1, ↓zx_ldc2, ↓zyc_130, ↓zy_if_ne, ↓zyc_126, ↓zx_iret, ↓zx_iload_1, ↓zyc_158, ↓zx_bipush, ↓zy_istore, ↓zyc_189, ↓zx_iload, ↓zy_ic_eq, ↓zyc_140, ↓zy_iadd, ↓zx_goto, ↓zy_ic_lt, ↓zyg_6_3, ↓zyc_147, ↓zx_ldc, ↓zy_ic_le, ↓zyc_134, ↓zy_if_le, ↓zyc_149, ↓zyc_181, ↓zyc_182, ↓zyc_138, ↓zyc_183, ↓zy_isub, ↓zy_iinc, ↓zyc_136, ↓zya_21, ↓zya_22, ↓zya_24, ↓zya_26, ↓zya_27, ↓zya_30, ↓zya_32, ↓zya_33, ↓zpX_s, ↓zpX_n, z_i10, z_10, z_00, and_self, not_true_eq_false, not_false_eq_true, true_and, and_true, false_and, and_false, true_or, false_or, or_false, or_true, or_self, if_true, if_false, ite_self, ↓zs_72, h, ↓h136, h136]
  intro L
  induction L with
  | nil =>
    intro left n M o8 o9 h hB ht hL
    exact fin _ _ _ _ _ _ h hB
  | cons l L ih =>
    intro left n M o8 o9 h hB ht hL
    unfold mMaG
    rcases Classical.em (left ≤ 0) with h0 | h0
    · rw [if_pos h0]
      exact fin _ _ _ _ _ _ h0 hB
    · rw [if_neg h0]
      rcases h with h | ⟨h1, h2, h3⟩
      · exact absurd h h0
      have hl : l < 40 := hL l (List.mem_cons_self ..)
      have w := hB.2 l h1
      have hk := mSk.maSt (x := mMin left (mRest M l)) hB ht h1
      have ih := fun o8 o9 => ih (left - mMin left (mRest M l)) (n + 1) (mMaSt M l (mMin left (mRest M l))) o8 o9 h3 (hk.bok hB) (hk.tok ht) (fun j hj => hL j (List.mem_cons_of_mem _ hj))
      have h189 := fun d Q => zs_189 (d := d) (m := z_s m 1 M) (v := a) (w := b) (o := some l) (Q := Q) (by rw [z_g_ss]; exact hB.1) (fun b h => by cases h; exact hl)
      have e : oI (some l) = nI l := rfl
      have e2 : oI (l :: L).head? = nI l := rfl
      rw [e, z_g_ss, h2] at h189
      have h140 := fun d Q => zs_140 (d := d) (m := z_s m 1 M) (l := l) (Q := Q) hl
      rw [z_g_ss] at h140
      have h181 := fun d x Q => zs_181 (d := d) (m := z_s m 1 M) (l := l) (s := mFr M l) (v := x) (Q := Q) (by rw [z_g_ss]; exact w) (by rw [z_g_ss]; exact ht l h1)
      rw [z_g_ss] at h181
      simp only [zq_ss] at h181
      have wC : ∀ x, mWl (mComes M l (mFr M l) x) l (mFr M l) := fun x => (mSk.comes w (ht l h1)).wl w
      have h140b := fun d x Q => zs_140 (d := d) (m := z_s m 1 (mComes M l (mFr M l) x)) (l := l) (Q := Q) hl
      have h182 := fun d x Q => zs_182 (d := d) (m := z_s m 1 (mComes M l (mFr M l) x)) (l := l) (Q := Q) hl
      have h183 := fun d q x y z Q => zs_183 (d := d) (m := z_s m 1 (mComes M l (mFr M l) q)) (l := l) (s := mFr M l) (x := x) (y := y) (z := z) (Q := Q) (by rw [z_g_ss]; exact wC q)
      simp only [z_g_ss, zq_ss] at h140b h182 h183
      rw [← ih (some (zi (oI L.head?))) (some (zi (mMin left (mRest M l)))), zu_188_139]
      unfold mMaSt
      rcases Classical.em (mRest (mComes M l (mFr M l) (mMin left (mRest M l))) l = 0) with q | q
      · rw [if_pos q]
        simp (disch := omega) only [↓zu_188_210, ↓zx_nil, ↓zx_cons, ↓zp_li, ↓zp_ll, ↓zp_lr, ↓zq_li0, ↓zq_li1, ↓zq_ll0, ↓zq_ll1, ↓zq_lr0, ↓zq_lr1, ↓zk_0, ↓zk_1n, ↓zk_1i, ↓zk_1r, ↓zk_1l, ↓zk_2, zp_okt, ↓zp_okl, zp_sh0, zp_sh1, zp_psn, zp_pss, ↓zp_ri1, ↓zp_ri20, ↓zp_ri21, ↓zp_rl, ↓zp_ra, ↓zp_rv, ↓zp_br, ↓reduceIte, Nat.reduceAdd, Nat.zero_add, Nat.add_zero, Nat.le_refl, Nat.zero_le, ↓zx_aload_0, ↓zx_iconst, ↓zyp_6_0, ↓zx_iload_2, ↓zyc_160, ↓zy_if_eq, ↓zx_iload_3, ↓zy_i2l, ↓zx_lconst1, ↓zx_ldc2, ↓zyc_130, ↓zy_if_ne, ↓zyc_126, ↓zx_iret, ↓zx_iload_1, ↓zyc_158, ↓zx_bipush, ↓zy_istore, ↓zyc_189, ↓zx_iload, ↓zy_ic_eq, ↓zyc_140, ↓zy_iadd, ↓zx_goto, ↓zy_ic_lt, ↓zyg_6_3, ↓zyc_147, ↓zx_ldc, ↓zy_ic_le, ↓zyc_134, ↓zy_if_le, ↓zyc_149, ↓zyc_181, ↓zyc_182, ↓zyc_138, ↓zyc_183, ↓zy_isub, ↓zy_iinc, ↓zyc_136, ↓zya_21, ↓zya_22, ↓zya_24, ↓zya_26, ↓zya_27, ↓zya_30, ↓zya_32, ↓zya_33, ↓zpX_s, ↓zpX_n, z_i10, z_10, z_00, and_self, not_true_eq_false, not_false_eq_true, true_and, and_true, false_and, and_false, true_or, false_or, or_false, or_true, or_self, if_true, if_false, ite_self, ↓zs_72, zn_p0, zn_p1, zn_p2, zn_p3, zn_p4, zn_p5, zn_p6, zn_p7, zn_p8, zn_p13, zn_p88, zn_p891, zn_m2, zn_m3, zn_m8, zn_m17, zn_m29, zn_m88, zn_m891, zn_a2, zn_a3, zn_a6, zn_a8, zn_a18, zn_a66, zn_a88, zn_a211, zn_a891, zp_ri2i, nI_add, z_vr, nI_clamp, zn_w0, zn_w1, zn_w2, zn_w3, zn_w4, zn_w5, zn_t0, zn_t1, zn_t2, zn_t3, zn_t4, zn_t5, ↓zs_138, ↓zs_149, e2, h0, ↓h189, h189, ↓h140, h140, ↓h181, h181, ↓h140b, h140b, ↓h182, h182, ↓h183, h183, z_g_ss, zq_ss, eq_true q]
      · rw [if_neg q]
        simp (disch := omega) only [↓zu_188_210, ↓zx_nil, ↓zx_cons, ↓zp_li, ↓zp_ll, ↓zp_lr, ↓zq_li0, ↓zq_li1, ↓zq_ll0, ↓zq_ll1, ↓zq_lr0, ↓zq_lr1, ↓zk_0, ↓zk_1n, ↓zk_1i, ↓zk_1r, ↓zk_1l, ↓zk_2, zp_okt, ↓zp_okl, zp_sh0, zp_sh1, zp_psn, zp_pss, ↓zp_ri1, ↓zp_ri20, ↓zp_ri21, ↓zp_rl, ↓zp_ra, ↓zp_rv, ↓zp_br, ↓reduceIte, Nat.reduceAdd, Nat.zero_add, Nat.add_zero, Nat.le_refl, Nat.zero_le, ↓zx_aload_0, ↓zx_iconst, ↓zyp_6_0, ↓zx_iload_2, ↓zyc_160, ↓zy_if_eq, ↓zx_iload_3, ↓zy_i2l, ↓zx_lconst1, ↓zx_ldc2, ↓zyc_130, ↓zy_if_ne, ↓zyc_126, ↓zx_iret, ↓zx_iload_1, ↓zyc_158, ↓zx_bipush, ↓zy_istore, ↓zyc_189, ↓zx_iload, ↓zy_ic_eq, ↓zyc_140, ↓zy_iadd, ↓zx_goto, ↓zy_ic_lt, ↓zyg_6_3, ↓zyc_147, ↓zx_ldc, ↓zy_ic_le, ↓zyc_134, ↓zy_if_le, ↓zyc_149, ↓zyc_181, ↓zyc_182, ↓zyc_138, ↓zyc_183, ↓zy_isub, ↓zy_iinc, ↓zyc_136, ↓zya_21, ↓zya_22, ↓zya_24, ↓zya_26, ↓zya_27, ↓zya_30, ↓zya_32, ↓zya_33, ↓zpX_s, ↓zpX_n, z_i10, z_10, z_00, and_self, not_true_eq_false, not_false_eq_true, true_and, and_true, false_and, and_false, true_or, false_or, or_false, or_true, or_self, if_true, if_false, ite_self, ↓zs_72, zn_p0, zn_p1, zn_p2, zn_p3, zn_p4, zn_p5, zn_p6, zn_p7, zn_p8, zn_p13, zn_p88, zn_p891, zn_m2, zn_m3, zn_m8, zn_m17, zn_m29, zn_m88, zn_m891, zn_a2, zn_a3, zn_a6, zn_a8, zn_a18, zn_a66, zn_a88, zn_a211, zn_a891, zp_ri2i, nI_add, z_vr, nI_clamp, zn_w0, zn_w1, zn_w2, zn_w3, zn_w4, zn_w5, zn_t0, zn_t1, zn_t2, zn_t3, zn_t4, zn_t5, ↓zs_149, e2, h0, ↓h189, h189, ↓h140, h140, ↓h181, h181, ↓h140b, h140b, z_g_ss, zq_ss, q]
theorem mTh_next {M : zS} {o : Option Nat} : mNext (z_uI M 6 0 0 0) v w o = mNext M v w o := by
  unfold mNext mN
  have e : mNxS (z_uI M 6 0 0 0) v w o = mNxS M v w o := by
    funext l p
    unfold mNxS mNxI mNxB mNxL
    simp only [mTh_r, mTh_st, mTh_lat]
  rw [e, mTh_r]
theorem mTh_chs {M : zS} : ∀ (L : List Nat) (o : Option Nat), mChs M v w o L → mChs (z_uI M 6 0 0 0) v w o L
  | [], _, h => h
  | j :: L, o, h => ⟨h.1, by rw [mTh_next]; exact mTh_chs L _ h.2⟩
theorem mRem_next {M : zS} {o : Option Nat} : mNext (mRem M x) v w o = mNext M v w o := by
  unfold mNext mN
  have e : mNxS (mRem M x) v w o = mNxS M v w o := by
    funext l p
    unfold mNxS mNxI mNxB mNxL mSt mLat
    simp only [mRem_r]
  rw [e, mRem_r]
set_option maxRecDepth 100000 in
set_option maxHeartbeats 4000000 in
theorem zs_188 (L : List Nat) (hO : mOk (z_g m 1)) (hL : mChs (z_g m 1) a b (mNext (z_g m 1) a b none) L) (hJ : ∀ j ∈ L, j < 40) (hP : (0 ≤ b ∧ b < 5) → ¬ (c < 1 ∨ 99999 < c) → (0 ≤ a ∧ a < z_I (z_g m 1) 22 0 2) → ¬ L.foldl (fun x l => x + mRest (z_g m 1) l) 0 < c → mMaP a b L c (mRem (mTh (z_g m 1)) 12)) : z_call (d + 7) 188 [zr (some (6, 1, 0)), zi a, zi b, zi c] m Q = if (0 ≤ b ∧ b < 5) ∧ ¬ (c < 1 ∨ 99999 < c) then (if (0 ≤ a ∧ a < z_I (z_g m 1) 22 0 2) then (if ¬ L.foldl (fun x l => x + mRest (z_g m 1) l) 0 < c ∧ z_I (z_g m 1) 22 0 (18 + 8 * a.toNatClampNeg + b.toNatClampNeg) + c ≤ 99999 then Q (some (zi (mMaG L c 0 (mRem (mTh (z_g m 1)) 12)).1)) (z_s m 1 (mActd (mMaG L c 0 (mRem (mTh (z_g m 1)) 12)).2)) else Q (some (zi (-4))) (z_s m 1 (mRefu (mTh (z_g m 1)) (-4)))) else Q (some (zi (-2))) (z_s m 1 (mRefu (mTh (z_g m 1)) (-2)))) else Q (some (zi (-1))) (z_s m 1 (mRefu (mTh (z_g m 1)) (-1))) := by
  have e1 : ∀ j, z_I (z_uI (z_g m 1) 6 0 0 0) 22 0 j = z_I (z_g m 1) 22 0 j := fun j => mTh_r
  have e2 : ∀ j x, z_I (mRem (z_uI (z_g m 1) 6 0 0 0) x) 22 0 j = z_I (z_g m 1) 22 0 j := fun j x => mRem_r.trans mTh_r
  have h158 := fun d v Q => zs_158 (d := d) (m := z_s m 1 (mTh (z_g m 1))) (v := v) (Q := Q) (by rw [z_g_ss, mTh_r]; exact hO.ns)
  simp only [z_g_ss, e1] at h158
  have e_c : (1 ≤ c.toInt64 ∧ c.toInt64 ≤ 99999) = ¬ (c < 1 ∨ 99999 < c) := z_in64 (lo := 1) (hi := 99999) rfl rfl
  rcases Classical.em (0 ≤ b ∧ b < 5) with c00 | c00
  · rcases Classical.em (c < 1 ∨ 99999 < c) with c01 | c01
    · simp (maxSteps := 4000000) (disch := omega) only [↓zen_188, ↓zu_188_0, ↓zu_188_24, ↓zu_188_30, ↓zu_188_45, ↓zu_188_87, ↓zu_188_111, ↓zu_188_118, ↓zu_188_210, ↓zu_188_227, ↓zx_nil, ↓zx_cons, ↓zp_li, ↓zp_ll, ↓zp_lr, ↓zq_li0, ↓zq_li1, ↓zq_ll0, ↓zq_ll1, ↓zq_lr0, ↓zq_lr1, ↓zk_0, ↓zk_1n, ↓zk_1i, ↓zk_1r, ↓zk_1l, ↓zk_2, zp_okt, ↓zp_okl, zp_sh0, zp_sh1, zp_psn, zp_pss, ↓zp_ri1, ↓zp_ri20, ↓zp_ri21, ↓zp_rl, ↓zp_ra, ↓zp_rv, ↓zp_br, ↓reduceIte, Nat.reduceAdd, Nat.zero_add, Nat.add_zero, Nat.le_refl, Nat.zero_le, ↓zx_aload_0, ↓zx_iconst, ↓zyp_6_0, ↓zx_iload_2, ↓zyc_160, ↓zy_if_eq, ↓zx_iload_3, ↓zy_i2l, ↓zx_lconst1, ↓zx_ldc2, ↓zyc_130, ↓zy_if_ne, ↓zyc_126, ↓zx_iret, ↓zx_iload_1, ↓zyc_158, ↓zx_bipush, ↓zy_istore, ↓zyc_189, ↓zx_iload, ↓zy_ic_eq, ↓zyc_140, ↓zy_iadd, ↓zx_goto, ↓zy_ic_lt, ↓zyg_6_3, ↓zyc_147, ↓zx_ldc, ↓zy_ic_le, ↓zyc_134, ↓zy_if_le, ↓zyc_149, ↓zyc_181, ↓zyc_182, ↓zyc_138, ↓zyc_183, ↓zy_isub, ↓zy_iinc, ↓zyc_136, ↓zya_21, ↓zya_22, ↓zya_24, ↓zya_26, ↓zya_27, ↓zya_30, ↓zya_32, ↓zya_33, ↓zpX_s, ↓zpX_n, z_i10, z_10, z_00, and_self, not_true_eq_false, not_false_eq_true, true_and, and_true, false_and, and_false, true_or, false_or, or_false, or_true, or_self, if_true, if_false, ite_self, ↓zs_72, zn_p0, zn_p1, zn_p2, zn_p3, zn_p4, zn_p5, zn_p6, zn_p7, zn_p8, zn_p13, zn_p88, zn_p891, zn_m2, zn_m3, zn_m8, zn_m17, zn_m29, zn_m88, zn_m891, zn_a2, zn_a3, zn_a6, zn_a8, zn_a18, zn_a66, zn_a88, zn_a211, zn_a891, zp_ri2i, nI_add, z_vr, nI_clamp, zn_w0, zn_w1, zn_w2, zn_w3, zn_w4, zn_w5, zn_t0, zn_t1, zn_t2, zn_t3, zn_t4, zn_t5, z_g_ss, zq_ss, e1, ↓zs_160, ↓zs_130, ↓h158, h158, e_c, eq_true c00, eq_true c01, ↓zs_126a]
    · have hb5 := z_k5 c00
      have hvb := z_nn_eq c00.1
      rcases Classical.em (0 ≤ a ∧ a < z_I (z_g m 1) 22 0 2) with c10 | c10
      · have ha6 := Nat.lt_of_lt_of_le (z_hasl hO.ns c10) hO.ns.2
        have hva := z_nn_eq c10.1
        have h147 := fun d Q => zs_147 (d := d) (s := a.toNatClampNeg) (m := z_s m 1 (mTh (z_g m 1))) (Q := Q)
        rw [← hva] at h147
        have eS : nI (18 + 8 * a.toNatClampNeg) + b = nI (18 + 8 * a.toNatClampNeg + b.toNatClampNeg) := (congrArg (nI (18 + 8 * a.toNatClampNeg) + ·) hvb).trans (nI_add _ _)
        have h189 := fun d Q => zs_189 (d := d) (m := z_s m 1 (mTh (z_g m 1))) (v := a) (w := b) (o := none) (Q := Q) (by rw [z_g_ss, mTh_r]; exact hO.nl) (fun b h => nomatch h)
        have e : oI none = -1 := rfl
        rw [e, z_g_ss] at h189
        simp only [mTh_next] at h189
        have hla := fun d => zl_188a (d := d) (m := z_s m 1 (mTh (z_g m 1))) (Q := Q) (a := a) (b := b) (c := c) (by rw [z_g_ss, mTh_r]; exact hO.nl) L (mNext (z_g m 1) a b none) 0 (by rw [z_g_ss]; exact mTh_chs L _ hL) (fun j hj => Nat.lt_of_lt_of_le (mNext_lt hj) hO.nl.2)
        simp only [z_g_ss, mTh_rest] at hla
        simp (disch := omega) only [↓zu_188_0, ↓zu_188_30, ↓zu_188_45, ↓zen_188, ↓zx_nil, ↓zx_cons, ↓zp_li, ↓zp_ll, ↓zp_lr, ↓zq_li0, ↓zq_li1, ↓zq_ll0, ↓zq_ll1, ↓zq_lr0, ↓zq_lr1, ↓zk_0, ↓zk_1n, ↓zk_1i, ↓zk_1r, ↓zk_1l, ↓zk_2, zp_okt, ↓zp_okl, zp_sh0, zp_sh1, zp_psn, zp_pss, ↓zp_ri1, ↓zp_ri20, ↓zp_ri21, ↓zp_rl, ↓zp_ra, ↓zp_rv, ↓zp_br, ↓reduceIte, Nat.reduceAdd, Nat.zero_add, Nat.add_zero, Nat.le_refl, Nat.zero_le, ↓zx_aload_0, ↓zx_iconst, ↓zyp_6_0, ↓zx_iload_2, ↓zyc_160, ↓zy_if_eq, ↓zx_iload_3, ↓zy_i2l, ↓zx_lconst1, ↓zx_ldc2, ↓zyc_130, ↓zy_if_ne, ↓zyc_126, ↓zx_iret, ↓zx_iload_1, ↓zyc_158, ↓zx_bipush, ↓zy_istore, ↓zyc_189, ↓zx_iload, ↓zy_ic_eq, ↓zyc_140, ↓zy_iadd, ↓zx_goto, ↓zy_ic_lt, ↓zyg_6_3, ↓zyc_147, ↓zx_ldc, ↓zy_ic_le, ↓zyc_134, ↓zy_if_le, ↓zyc_149, ↓zyc_181, ↓zyc_182, ↓zyc_138, ↓zyc_183, ↓zy_isub, ↓zy_iinc, ↓zyc_136, ↓zya_21, ↓zya_22, ↓zya_24, ↓zya_26, ↓zya_27, ↓zya_30, ↓zya_32, ↓zya_33, ↓zpX_s, ↓zpX_n, z_i10, z_10, z_00, and_self, not_true_eq_false, not_false_eq_true, true_and, and_true, false_and, and_false, true_or, false_or, or_false, or_true, or_self, if_true, if_false, ite_self, ↓zs_72, ↓zs_160, ↓zs_130, ↓h158, h158, e_c, c00, c01, c10, ↓h189, h189]
        refine Eq.trans (hla _) ?_
        generalize hall : L.foldl (fun x l => x + mRest (z_g m 1) l) 0 = all at *
        rcases Classical.em (all < c) with c20 | c20
        · simp (disch := omega) only [↓zu_188_87, ↓zu_188_111, ↓zx_nil, ↓zx_cons, ↓zp_li, ↓zp_ll, ↓zp_lr, ↓zq_li0, ↓zq_li1, ↓zq_ll0, ↓zq_ll1, ↓zq_lr0, ↓zq_lr1, ↓zk_0, ↓zk_1n, ↓zk_1i, ↓zk_1r, ↓zk_1l, ↓zk_2, zp_okt, ↓zp_okl, zp_sh0, zp_sh1, zp_psn, zp_pss, ↓zp_ri1, ↓zp_ri20, ↓zp_ri21, ↓zp_rl, ↓zp_ra, ↓zp_rv, ↓zp_br, ↓reduceIte, Nat.reduceAdd, Nat.zero_add, Nat.add_zero, Nat.le_refl, Nat.zero_le, ↓zx_aload_0, ↓zx_iconst, ↓zyp_6_0, ↓zx_iload_2, ↓zyc_160, ↓zy_if_eq, ↓zx_iload_3, ↓zy_i2l, ↓zx_lconst1, ↓zx_ldc2, ↓zyc_130, ↓zy_if_ne, ↓zyc_126, ↓zx_iret, ↓zx_iload_1, ↓zyc_158, ↓zx_bipush, ↓zy_istore, ↓zyc_189, ↓zx_iload, ↓zy_ic_eq, ↓zyc_140, ↓zy_iadd, ↓zx_goto, ↓zy_ic_lt, ↓zyg_6_3, ↓zyc_147, ↓zx_ldc, ↓zy_ic_le, ↓zyc_134, ↓zy_if_le, ↓zyc_149, ↓zyc_181, ↓zyc_182, ↓zyc_138, ↓zyc_183, ↓zy_isub, ↓zy_iinc, ↓zyc_136, ↓zya_21, ↓zya_22, ↓zya_24, ↓zya_26, ↓zya_27, ↓zya_30, ↓zya_32, ↓zya_33, ↓zpX_s, ↓zpX_n, z_i10, z_10, z_00, and_self, not_true_eq_false, not_false_eq_true, true_and, and_true, false_and, and_false, true_or, false_or, or_false, or_true, or_self, if_true, if_false, ite_self, ↓zs_72, eq_true c20, ↓zs_126c, z_g_ss, zq_ss]
        · rcases Classical.em (z_I (z_g m 1) 22 0 (18 + 8 * a.toNatClampNeg + b.toNatClampNeg) + c ≤ 99999) with c21 | c21
          · have h134 := fun d v Q => zs_134 (d := d) (m := z_s m 1 (mTh (z_g m 1))) (v := v) (Q := Q) (by rw [z_g_ss, mTh_u]; exact hO.nu)
            rw [z_g_ss] at h134
            simp only [zq_ss] at h134
            have h189b := fun d Q => zs_189 (d := d) (m := z_s m 1 (mRem (mTh (z_g m 1)) 12)) (v := a) (w := b) (o := none) (Q := Q) (by rw [z_g_ss, e2]; exact hO.nl) (fun b h => nomatch h)
            rw [e, z_g_ss] at h189b
            have hh : mNext (z_g m 1) a b none = L.head? := by
              cases L with
              | nil => exact hL
              | cons j L => exact hL.1
            simp only [mRem_next, mTh_next, hh] at h189b
            have hlb := fun d x => zl_188b (d := d) (m := m) (Q := Q) (a := a) (b := b) (c := c) (x := x) L c 0 (mRem (mTh (z_g m 1)) 12) none none (hP c00 c01 c10 c20) (mSk.thr.bok hO.nB) (mSk.thr.tok hO.2.2.2.2) hJ
            simp (disch := omega) only [↓zu_188_87, ↓zu_188_118, ↓zx_nil, ↓zx_cons, ↓zp_li, ↓zp_ll, ↓zp_lr, ↓zq_li0, ↓zq_li1, ↓zq_ll0, ↓zq_ll1, ↓zq_lr0, ↓zq_lr1, ↓zk_0, ↓zk_1n, ↓zk_1i, ↓zk_1r, ↓zk_1l, ↓zk_2, zp_okt, ↓zp_okl, zp_sh0, zp_sh1, zp_psn, zp_pss, ↓zp_ri1, ↓zp_ri20, ↓zp_ri21, ↓zp_rl, ↓zp_ra, ↓zp_rv, ↓zp_br, ↓reduceIte, Nat.reduceAdd, Nat.zero_add, Nat.add_zero, Nat.le_refl, Nat.zero_le, ↓zx_aload_0, ↓zx_iconst, ↓zyp_6_0, ↓zx_iload_2, ↓zyc_160, ↓zy_if_eq, ↓zx_iload_3, ↓zy_i2l, ↓zx_lconst1, ↓zx_ldc2, ↓zyc_130, ↓zy_if_ne, ↓zyc_126, ↓zx_iret, ↓zx_iload_1, ↓zyc_158, ↓zx_bipush, ↓zy_istore, ↓zyc_189, ↓zx_iload, ↓zy_ic_eq, ↓zyc_140, ↓zy_iadd, ↓zx_goto, ↓zy_ic_lt, ↓zyg_6_3, ↓zyc_147, ↓zx_ldc, ↓zy_ic_le, ↓zyc_134, ↓zy_if_le, ↓zyc_149, ↓zyc_181, ↓zyc_182, ↓zyc_138, ↓zyc_183, ↓zy_isub, ↓zy_iinc, ↓zyc_136, ↓zya_21, ↓zya_22, ↓zya_24, ↓zya_26, ↓zya_27, ↓zya_30, ↓zya_32, ↓zya_33, ↓zpX_s, ↓zpX_n, z_i10, z_10, z_00, and_self, not_true_eq_false, not_false_eq_true, true_and, and_true, false_and, and_false, true_or, false_or, or_false, or_true, or_self, if_true, if_false, ite_self, ↓zs_72, zn_p0, zn_p1, zn_p2, zn_p3, zn_p4, zn_p5, zn_p6, zn_p7, zn_p8, zn_p13, zn_p88, zn_p891, zn_m2, zn_m3, zn_m8, zn_m17, zn_m29, zn_m88, zn_m891, zn_a2, zn_a3, zn_a6, zn_a8, zn_a18, zn_a66, zn_a88, zn_a211, zn_a891, zp_ri2i, nI_add, z_vr, nI_clamp, zn_w0, zn_w1, zn_w2, zn_w3, zn_w4, zn_w5, zn_t0, zn_t1, zn_t2, zn_t3, zn_t4, zn_t5, c20, eq_true c21, ↓h147, h147, eS, e1, ↓h134, h134, ↓h189b, h189b, z_g_ss]
            exact hlb _ _
          · simp (disch := omega) only [↓zu_188_87, ↓zu_188_111, ↓zx_nil, ↓zx_cons, ↓zp_li, ↓zp_ll, ↓zp_lr, ↓zq_li0, ↓zq_li1, ↓zq_ll0, ↓zq_ll1, ↓zq_lr0, ↓zq_lr1, ↓zk_0, ↓zk_1n, ↓zk_1i, ↓zk_1r, ↓zk_1l, ↓zk_2, zp_okt, ↓zp_okl, zp_sh0, zp_sh1, zp_psn, zp_pss, ↓zp_ri1, ↓zp_ri20, ↓zp_ri21, ↓zp_rl, ↓zp_ra, ↓zp_rv, ↓zp_br, ↓reduceIte, Nat.reduceAdd, Nat.zero_add, Nat.add_zero, Nat.le_refl, Nat.zero_le, ↓zx_aload_0, ↓zx_iconst, ↓zyp_6_0, ↓zx_iload_2, ↓zyc_160, ↓zy_if_eq, ↓zx_iload_3, ↓zy_i2l, ↓zx_lconst1, ↓zx_ldc2, ↓zyc_130, ↓zy_if_ne, ↓zyc_126, ↓zx_iret, ↓zx_iload_1, ↓zyc_158, ↓zx_bipush, ↓zy_istore, ↓zyc_189, ↓zx_iload, ↓zy_ic_eq, ↓zyc_140, ↓zy_iadd, ↓zx_goto, ↓zy_ic_lt, ↓zyg_6_3, ↓zyc_147, ↓zx_ldc, ↓zy_ic_le, ↓zyc_134, ↓zy_if_le, ↓zyc_149, ↓zyc_181, ↓zyc_182, ↓zyc_138, ↓zyc_183, ↓zy_isub, ↓zy_iinc, ↓zyc_136, ↓zya_21, ↓zya_22, ↓zya_24, ↓zya_26, ↓zya_27, ↓zya_30, ↓zya_32, ↓zya_33, ↓zpX_s, ↓zpX_n, z_i10, z_10, z_00, and_self, not_true_eq_false, not_false_eq_true, true_and, and_true, false_and, and_false, true_or, false_or, or_false, or_true, or_self, if_true, if_false, ite_self, ↓zs_72, zn_p0, zn_p1, zn_p2, zn_p3, zn_p4, zn_p5, zn_p6, zn_p7, zn_p8, zn_p13, zn_p88, zn_p891, zn_m2, zn_m3, zn_m8, zn_m17, zn_m29, zn_m88, zn_m891, zn_a2, zn_a3, zn_a6, zn_a8, zn_a18, zn_a66, zn_a88, zn_a211, zn_a891, zp_ri2i, nI_add, z_vr, nI_clamp, zn_w0, zn_w1, zn_w2, zn_w3, zn_w4, zn_w5, zn_t0, zn_t1, zn_t2, zn_t3, zn_t4, zn_t5, c20, c21, ↓h147, h147, eS, e1, ↓zs_126c, z_g_ss, zq_ss]
      · simp (maxSteps := 4000000) (disch := omega) only [↓zen_188, ↓zu_188_0, ↓zu_188_24, ↓zu_188_30, ↓zu_188_45, ↓zu_188_87, ↓zu_188_111, ↓zu_188_118, ↓zu_188_210, ↓zu_188_227, ↓zx_nil, ↓zx_cons, ↓zp_li, ↓zp_ll, ↓zp_lr, ↓zq_li0, ↓zq_li1, ↓zq_ll0, ↓zq_ll1, ↓zq_lr0, ↓zq_lr1, ↓zk_0, ↓zk_1n, ↓zk_1i, ↓zk_1r, ↓zk_1l, ↓zk_2, zp_okt, ↓zp_okl, zp_sh0, zp_sh1, zp_psn, zp_pss, ↓zp_ri1, ↓zp_ri20, ↓zp_ri21, ↓zp_rl, ↓zp_ra, ↓zp_rv, ↓zp_br, ↓reduceIte, Nat.reduceAdd, Nat.zero_add, Nat.add_zero, Nat.le_refl, Nat.zero_le, ↓zx_aload_0, ↓zx_iconst, ↓zyp_6_0, ↓zx_iload_2, ↓zyc_160, ↓zy_if_eq, ↓zx_iload_3, ↓zy_i2l, ↓zx_lconst1, ↓zx_ldc2, ↓zyc_130, ↓zy_if_ne, ↓zyc_126, ↓zx_iret, ↓zx_iload_1, ↓zyc_158, ↓zx_bipush, ↓zy_istore, ↓zyc_189, ↓zx_iload, ↓zy_ic_eq, ↓zyc_140, ↓zy_iadd, ↓zx_goto, ↓zy_ic_lt, ↓zyg_6_3, ↓zyc_147, ↓zx_ldc, ↓zy_ic_le, ↓zyc_134, ↓zy_if_le, ↓zyc_149, ↓zyc_181, ↓zyc_182, ↓zyc_138, ↓zyc_183, ↓zy_isub, ↓zy_iinc, ↓zyc_136, ↓zya_21, ↓zya_22, ↓zya_24, ↓zya_26, ↓zya_27, ↓zya_30, ↓zya_32, ↓zya_33, ↓zpX_s, ↓zpX_n, z_i10, z_10, z_00, and_self, not_true_eq_false, not_false_eq_true, true_and, and_true, false_and, and_false, true_or, false_or, or_false, or_true, or_self, if_true, if_false, ite_self, ↓zs_72, zn_p0, zn_p1, zn_p2, zn_p3, zn_p4, zn_p5, zn_p6, zn_p7, zn_p8, zn_p13, zn_p88, zn_p891, zn_m2, zn_m3, zn_m8, zn_m17, zn_m29, zn_m88, zn_m891, zn_a2, zn_a3, zn_a6, zn_a8, zn_a18, zn_a66, zn_a88, zn_a211, zn_a891, zp_ri2i, nI_add, z_vr, nI_clamp, zn_w0, zn_w1, zn_w2, zn_w3, zn_w4, zn_w5, zn_t0, zn_t1, zn_t2, zn_t3, zn_t4, zn_t5, z_g_ss, zq_ss, e1, ↓zs_160, ↓zs_130, ↓h158, h158, e_c, eq_true c00, c01, c10, ↓zs_126b]
  · simp (maxSteps := 4000000) (disch := omega) only [↓zen_188, ↓zu_188_0, ↓zu_188_24, ↓zu_188_30, ↓zu_188_45, ↓zu_188_87, ↓zu_188_111, ↓zu_188_118, ↓zu_188_210, ↓zu_188_227, ↓zx_nil, ↓zx_cons, ↓zp_li, ↓zp_ll, ↓zp_lr, ↓zq_li0, ↓zq_li1, ↓zq_ll0, ↓zq_ll1, ↓zq_lr0, ↓zq_lr1, ↓zk_0, ↓zk_1n, ↓zk_1i, ↓zk_1r, ↓zk_1l, ↓zk_2, zp_okt, ↓zp_okl, zp_sh0, zp_sh1, zp_psn, zp_pss, ↓zp_ri1, ↓zp_ri20, ↓zp_ri21, ↓zp_rl, ↓zp_ra, ↓zp_rv, ↓zp_br, ↓reduceIte, Nat.reduceAdd, Nat.zero_add, Nat.add_zero, Nat.le_refl, Nat.zero_le, ↓zx_aload_0, ↓zx_iconst, ↓zyp_6_0, ↓zx_iload_2, ↓zyc_160, ↓zy_if_eq, ↓zx_iload_3, ↓zy_i2l, ↓zx_lconst1, ↓zx_ldc2, ↓zyc_130, ↓zy_if_ne, ↓zyc_126, ↓zx_iret, ↓zx_iload_1, ↓zyc_158, ↓zx_bipush, ↓zy_istore, ↓zyc_189, ↓zx_iload, ↓zy_ic_eq, ↓zyc_140, ↓zy_iadd, ↓zx_goto, ↓zy_ic_lt, ↓zyg_6_3, ↓zyc_147, ↓zx_ldc, ↓zy_ic_le, ↓zyc_134, ↓zy_if_le, ↓zyc_149, ↓zyc_181, ↓zyc_182, ↓zyc_138, ↓zyc_183, ↓zy_isub, ↓zy_iinc, ↓zyc_136, ↓zya_21, ↓zya_22, ↓zya_24, ↓zya_26, ↓zya_27, ↓zya_30, ↓zya_32, ↓zya_33, ↓zpX_s, ↓zpX_n, z_i10, z_10, z_00, and_self, not_true_eq_false, not_false_eq_true, true_and, and_true, false_and, and_false, true_or, false_or, or_false, or_true, or_self, if_true, if_false, ite_self, ↓zs_72, zn_p0, zn_p1, zn_p2, zn_p3, zn_p4, zn_p5, zn_p6, zn_p7, zn_p8, zn_p13, zn_p88, zn_p891, zn_m2, zn_m3, zn_m8, zn_m17, zn_m29, zn_m88, zn_m891, zn_a2, zn_a3, zn_a6, zn_a8, zn_a18, zn_a66, zn_a88, zn_a211, zn_a891, zp_ri2i, nI_add, z_vr, nI_clamp, zn_w0, zn_w1, zn_w2, zn_w3, zn_w4, zn_w5, zn_t0, zn_t1, zn_t2, zn_t3, zn_t4, zn_t5, z_g_ss, zq_ss, e1, ↓zs_160, ↓zs_130, ↓h158, h158, e_c, c00, ↓zs_126a]
-- 9 rate
def mAtS (M : zS) (k : Nat) (v : Int32) (j : Nat) (o : Option Nat) : Option Nat := if z_I M 22 0 (66 + 29 * k + 3 + 2 * j) = v then some j else o
def mAt (M : zS) (k : Nat) (v : Int32) : Option Nat := z_it (mAtS M k v) (z_I M 22 0 (66 + 29 * k)).toNatClampNeg 0 none
set_option maxRecDepth 100000 in
set_option maxHeartbeats 4000000 in
theorem zl_162 {t : Nat} (hk : k < 5) (ht : z_I (z_g m 1) 22 0 (66 + 29 * k) = nI t) (ht2 : t ≤ 12) : ∀ (n i : Nat) (o : Option Nat), i + n = t → zW 162 (d + 6) Q 84 [some (zr (some (6, 1, 0))), some (zi (nI k)), some (zi b), some (zi c), some (zi (nI (66 + 29 * k))), some (zi (oI o)), some (zi (nI i)), none] [] m 0 = zW 162 (d + 6) Q 131 [some (zr (some (6, 1, 0))), some (zi (nI k)), some (zi b), some (zi c), some (zi (nI (66 + 29 * k))), some (zi (oI (z_it (mAtS (z_g m 1) k b) n i o))), some (zi (nI t)), none] [] m 0 := by
  intro n
  induction n with
  | zero =>
    intro i o hi
    have e : i = t := by omega
    subst e
    have h1 := z_le1 (Nat.le_refl i) (by omega)
    rw [zu_162_84]
    simp (disch := omega) only [↓zx_nil, ↓zx_cons, ↓zp_li, ↓zp_ll, ↓zp_lr, ↓zq_li0, ↓zq_li1, ↓zq_ll0, ↓zq_ll1, ↓zq_lr0, ↓zq_lr1, ↓zk_0, ↓zk_1n, ↓zk_1i, ↓zk_1r, ↓zk_1l, ↓zk_2, zp_okt, ↓zp_okl, zp_sh0, zp_sh1, zp_psn, zp_pss, ↓zp_ri1, ↓zp_ri20, ↓zp_ri21, ↓zp_rl, ↓zp_ra, ↓zp_rv, ↓zp_br, ↓reduceIte, Nat.reduceAdd, Nat.zero_add, Nat.add_zero, Nat.le_refl, Nat.zero_le, ↓zx_aload_0, ↓zx_iconst, ↓zyp_6_0, ↓zx_iload_1, ↓zyc_160, ↓zy_if_eq, ↓zx_iload_2, ↓zy_i2l, ↓zx_lconst0, ↓zx_ldc2, ↓zyc_130, ↓zx_iload_3, ↓zy_if_ne, ↓zyc_126, ↓zx_iret, ↓zyg_6_3, ↓zy_ic_gt, ↓zy_if_gt, ↓zy_if_le, ↓zx_bipush, ↓zyc_142, ↓zy_istore, ↓zx_iload, ↓zy_iadd, ↓zy_ic_ge, ↓zy_imul, ↓zy_ic_ne, ↓zx_goto, ↓zy_iinc, ↓zyc_143, ↓zyg_6_12, ↓zyg_6_13, ↓zyc_131, ↓zy_dup2, ↓zyc_163, ↓zyc_169, ↓zyc_170, ↓zyc_136, ↓zya_21, ↓zya_22, ↓zya_24, ↓zya_26, ↓zya_27, ↓zya_30, ↓zya_32, ↓zya_33, ↓zyb_21, ↓zyb_22, ↓zyb_24, ↓zyb_26, ↓zyb_27, ↓zyb_30, ↓zyb_32, ↓zyb_33, ↓zpX_s, ↓zpX_n, z_i10, z_10, z_00, and_self, not_true_eq_false, not_false_eq_true, true_and, and_true, false_and, and_false, true_or, false_or, or_false, or_true, or_self, if_true, if_false, ite_self, ↓zs_72, zn_p0, zn_p1, zn_p2, zn_p3, zn_p4, zn_p5, zn_p6, zn_p7, zn_p8, zn_p13, zn_p88, zn_p891, zn_m2, zn_m3, zn_m8, zn_m17, zn_m29, zn_m88, zn_m891, zn_a2, zn_a3, zn_a6, zn_a8, zn_a18, zn_a66, zn_a88, zn_a211, zn_a891, zp_ri2i, nI_add, z_vr, nI_clamp, zn_w0, zn_w1, zn_w2, zn_w3, zn_w4, zn_w5, zn_t0, zn_t1, zn_t2, zn_t3, zn_t4, zn_t5, ht, h1]
    rfl
  | succ n ih =>
    intro i o hi
    have h1 := z_le0 (show i < t by omega) (by omega)
    rw [zu_162_84]
    refine Eq.trans ?_ (ih (i + 1) (mAtS (z_g m 1) k b i o) (by omega))
    unfold mAtS
    rcases Classical.em (z_I (z_g m 1) 22 0 (66 + 29 * k + 3 + 2 * i) = b) with q | q
    · rw [if_pos q]
      simp (disch := omega) only [↓zu_162_121, ↓zu_162_123, ↓zx_nil, ↓zx_cons, ↓zp_li, ↓zp_ll, ↓zp_lr, ↓zq_li0, ↓zq_li1, ↓zq_ll0, ↓zq_ll1, ↓zq_lr0, ↓zq_lr1, ↓zk_0, ↓zk_1n, ↓zk_1i, ↓zk_1r, ↓zk_1l, ↓zk_2, zp_okt, ↓zp_okl, zp_sh0, zp_sh1, zp_psn, zp_pss, ↓zp_ri1, ↓zp_ri20, ↓zp_ri21, ↓zp_rl, ↓zp_ra, ↓zp_rv, ↓zp_br, ↓reduceIte, Nat.reduceAdd, Nat.zero_add, Nat.add_zero, Nat.le_refl, Nat.zero_le, ↓zx_aload_0, ↓zx_iconst, ↓zyp_6_0, ↓zx_iload_1, ↓zyc_160, ↓zy_if_eq, ↓zx_iload_2, ↓zy_i2l, ↓zx_lconst0, ↓zx_ldc2, ↓zyc_130, ↓zx_iload_3, ↓zy_if_ne, ↓zyc_126, ↓zx_iret, ↓zyg_6_3, ↓zy_ic_gt, ↓zy_if_gt, ↓zy_if_le, ↓zx_bipush, ↓zyc_142, ↓zy_istore, ↓zx_iload, ↓zy_iadd, ↓zy_ic_ge, ↓zy_imul, ↓zy_ic_ne, ↓zx_goto, ↓zy_iinc, ↓zyc_143, ↓zyg_6_12, ↓zyg_6_13, ↓zyc_131, ↓zy_dup2, ↓zyc_163, ↓zyc_169, ↓zyc_170, ↓zyc_136, ↓zya_21, ↓zya_22, ↓zya_24, ↓zya_26, ↓zya_27, ↓zya_30, ↓zya_32, ↓zya_33, ↓zyb_21, ↓zyb_22, ↓zyb_24, ↓zyb_26, ↓zyb_27, ↓zyb_30, ↓zyb_32, ↓zyb_33, ↓zpX_s, ↓zpX_n, z_i10, z_10, z_00, and_self, not_true_eq_false, not_false_eq_true, true_and, and_true, false_and, and_false, true_or, false_or, or_false, or_true, or_self, if_true, if_false, ite_self, ↓zs_72, zn_p0, zn_p1, zn_p2, zn_p3, zn_p4, zn_p5, zn_p6, zn_p7, zn_p8, zn_p13, zn_p88, zn_p891, zn_m2, zn_m3, zn_m8, zn_m17, zn_m29, zn_m88, zn_m891, zn_a2, zn_a3, zn_a6, zn_a8, zn_a18, zn_a66, zn_a88, zn_a211, zn_a891, zp_ri2i, nI_add, z_vr, nI_clamp, zn_w0, zn_w1, zn_w2, zn_w3, zn_w4, zn_w5, zn_t0, zn_t1, zn_t2, zn_t3, zn_t4, zn_t5, ht, h1, eq_true q, oI]
    · rw [if_neg q]
      simp (disch := omega) only [↓zu_162_121, ↓zu_162_123, ↓zx_nil, ↓zx_cons, ↓zp_li, ↓zp_ll, ↓zp_lr, ↓zq_li0, ↓zq_li1, ↓zq_ll0, ↓zq_ll1, ↓zq_lr0, ↓zq_lr1, ↓zk_0, ↓zk_1n, ↓zk_1i, ↓zk_1r, ↓zk_1l, ↓zk_2, zp_okt, ↓zp_okl, zp_sh0, zp_sh1, zp_psn, zp_pss, ↓zp_ri1, ↓zp_ri20, ↓zp_ri21, ↓zp_rl, ↓zp_ra, ↓zp_rv, ↓zp_br, ↓reduceIte, Nat.reduceAdd, Nat.zero_add, Nat.add_zero, Nat.le_refl, Nat.zero_le, ↓zx_aload_0, ↓zx_iconst, ↓zyp_6_0, ↓zx_iload_1, ↓zyc_160, ↓zy_if_eq, ↓zx_iload_2, ↓zy_i2l, ↓zx_lconst0, ↓zx_ldc2, ↓zyc_130, ↓zx_iload_3, ↓zy_if_ne, ↓zyc_126, ↓zx_iret, ↓zyg_6_3, ↓zy_ic_gt, ↓zy_if_gt, ↓zy_if_le, ↓zx_bipush, ↓zyc_142, ↓zy_istore, ↓zx_iload, ↓zy_iadd, ↓zy_ic_ge, ↓zy_imul, ↓zy_ic_ne, ↓zx_goto, ↓zy_iinc, ↓zyc_143, ↓zyg_6_12, ↓zyg_6_13, ↓zyc_131, ↓zy_dup2, ↓zyc_163, ↓zyc_169, ↓zyc_170, ↓zyc_136, ↓zya_21, ↓zya_22, ↓zya_24, ↓zya_26, ↓zya_27, ↓zya_30, ↓zya_32, ↓zya_33, ↓zyb_21, ↓zyb_22, ↓zyb_24, ↓zyb_26, ↓zyb_27, ↓zyb_30, ↓zyb_32, ↓zyb_33, ↓zpX_s, ↓zpX_n, z_i10, z_10, z_00, and_self, not_true_eq_false, not_false_eq_true, true_and, and_true, false_and, and_false, true_or, false_or, or_false, or_true, or_self, if_true, if_false, ite_self, ↓zs_72, zn_p0, zn_p1, zn_p2, zn_p3, zn_p4, zn_p5, zn_p6, zn_p7, zn_p8, zn_p13, zn_p88, zn_p891, zn_m2, zn_m3, zn_m8, zn_m17, zn_m29, zn_m88, zn_m891, zn_a2, zn_a3, zn_a6, zn_a8, zn_a18, zn_a66, zn_a88, zn_a211, zn_a891, zp_ri2i, nI_add, z_vr, nI_clamp, zn_w0, zn_w1, zn_w2, zn_w3, zn_w4, zn_w5, zn_t0, zn_t1, zn_t2, zn_t3, zn_t4, zn_t5, ht, h1, q]
abbrev mRaN (M : zS) (k : Nat) : Nat := (z_I M 22 0 (66 + 29 * k)).toNatClampNeg
def mRa1 (M : zS) (k : Nat) (v : Int32) : zS := if mAt M k v = none then z_uI (mLay 30 31 0 (mTh M)) 22 0 (66 + 29 * k) (nI (mRaN M k + 1)) else mLay 30 31 0 (mTh M)
abbrev mRaJ (M : zS) (k : Nat) (v : Int32) : Nat := (mAt M k v).getD (mRaN M k)
def mRa3 (M : zS) (k : Nat) (v w : Int32) : zS := z_uI (z_uI (mRa1 M k v) 22 0 (66 + 29 * k + 3 + 2 * mRaJ M k v) v) 22 0 (66 + 29 * k + 3 + 2 * mRaJ M k v + 1) w
def mRaX (M : zS) (k : Nat) (v w : Int32) : Bool × zS := mAll (mRa3 M k v w) (nI k)
def mRaF (M : zS) (k : Nat) (v w : Int32) : zS := mKeepT (mRaX M k v w).2 7
theorem mAt_lt {M : zS} {j : Nat} (h : mAt M k v = some j) : j < mRaN M k := by
  have key : ∀ (n i : Nat) (o : Option Nat), (∀ b, o = some b → b < i) → ∀ b, z_it (mAtS M k v) n i o = some b → b < i + n := by
    intro n
    induction n with
    | zero => intro i p hp b hb; exact hp b hb
    | succ n ih =>
      intro i p hp b hb
      have h := ih (i + 1) (mAtS M k v i p) (fun b hb => by
        unfold mAtS at hb
        split at hb
        · cases hb; omega
        · have := hp b hb; omega) b hb
      omega
  have h := key _ 0 none (fun b h => nomatch h) j h
  unfold mRaN
  omega
theorem mTh_at {M : zS} : mAt (z_uI M 6 0 0 0) k v = mAt M k v := by
  unfold mAt
  have e : mAtS (z_uI M 6 0 0 0) k v = mAtS M k v := by
    funext l p
    unfold mAtS
    simp only [mTh_r]
  rw [e, mTh_r]
theorem mRa1_o {M : zS} {j : Nat} (hj : j ≠ 66 + 29 * k) : z_I (mRa1 M k v) 22 0 j = z_I M 22 0 j := by
  unfold mRa1
  split
  · rw [zn_un hj, mLay_o (by decide), mTh_r]
  · rw [mLay_o (by decide), mTh_r]
theorem mRa3_bok {M : zS} (hO : mOk M) (hk : k < 5) : mBok (mRa3 M k v w) := by
  have hN := (hO.2.2.2.1 k hk).2
  have hJ : mRaJ M k v ≤ 12 := by
    unfold mRaJ
    cases h : mAt M k v with
    | none => exact hN
    | some j => have := mAt_lt h; show j ≤ 12; unfold mRaN at this; omega
  have ho : ∀ j, (j < 66 + 29 * k ∨ 66 + 29 * k + 29 ≤ j) → z_I (mRa3 M k v w) 22 0 j = z_I M 22 0 j := fun j hj => by
    unfold mRa3
    rw [zn_un (by omega), zn_un (by omega), mRa1_o (by omega)]
  have hn : z_nn (z_I (mRa3 M k v w) 22 0 (66 + 29 * k)) 13 := by
    unfold mRa3
    rw [zn_un (by omega), zn_un (by omega)]
    unfold mRa1
    split
    · rw [z_I_u, if_pos ⟨rfl, rfl, rfl⟩]
      exact ⟨nI_pos' (by unfold mRaN; omega), by rw [nI_clamp (by unfold mRaN; omega)]; unfold mRaN; omega⟩
    · rw [mLay_o (by decide), mTh_r]; exact hO.nk hk
  have hkk : ∀ j, j < 5 → z_nn (z_I (mRa3 M k v w) 22 0 (66 + 29 * j)) 13 := fun j hj => by
    by_cases e : j = k
    · rw [e]; exact hn
    · rw [ho _ (by omega)]; exact hO.nk hj
  unfold mBok mFr
  rw [ho 3 (by omega)]
  refine ⟨hO.nl, fun l hl => ?_⟩
  have W := hO.nB.2 l hl
  have e2 : ∀ f, z_I (mRa3 M k v w) 22 0 (211 + 17 * l + f) = z_I M 22 0 (211 + 17 * l + f) := fun f => ho _ (by omega)
  have e0 : z_I (mRa3 M k v w) 22 0 (211 + 17 * l) = z_I M 22 0 (211 + 17 * l) := ho _ (by omega)
  have hs := W.hs
  rw [e0]
  refine ⟨W.hl, hs, e0.trans W.hf, ?_, ?_⟩
  · unfold mOok mO
    rw [ho _ (by unfold mFr at hs; omega), ho _ (by unfold mFr at hs; omega), ho _ (by unfold mFr at hs; omega)]
    exact W.hO
  · unfold mKok mKd
    rw [e2]
    exact ⟨W.hK.1, hkk _ (Nat.lt_of_le_of_lt W.hK.1.2 (by decide))⟩
set_option maxRecDepth 100000 in
set_option maxHeartbeats 4000000 in
theorem zs_162 (hO : mOk (z_g m 1)) (hU : (0 ≤ a ∧ a < 5) → z_nn (z_I (mRaX (z_g m 1) a.toNatClampNeg b c).2 6 0 8) 8) (hB : (0 ≤ a ∧ a < 5) → (mRaX (z_g m 1) a.toNatClampNeg b c).1 = true → mBok (mRaF (z_g m 1) a.toNatClampNeg b c)) : z_call (d + 7) 162 [zr (some (6, 1, 0)), zi a, zi b, zi c] m Q = if (0 ≤ a ∧ a < 5) ∧ ¬ (b < 0 ∨ 9999 < b) ∧ ¬ (c < 0 ∨ 999 < c) then (if z_I (z_g m 1) 22 0 0 < b ∨ (¬ 0 < z_I (z_g m 1) 22 0 0 ∧ b ≤ 0) then (if (mRaX (z_g m 1) a.toNatClampNeg b c).1 = true then (if mAt (z_g m 1) a.toNatClampNeg b = none ∧ z_I (z_g m 1) 22 0 (66 + 29 * a.toNatClampNeg) = 12 then Q (some (zi (-5))) (z_s m 1 (mRefu (mBring 30 31 0 (mRaX (z_g m 1) a.toNatClampNeg b c).2) (-5))) else Q (some (zi (mRate (z_g m 1) a.toNatClampNeg b))) (z_s m 1 (mActd (mRaF (z_g m 1) a.toNatClampNeg b c)))) else Q (some (zi (-4))) (z_s m 1 (mRefu (mBring 30 31 0 (mRaX (z_g m 1) a.toNatClampNeg b c).2) (-4)))) else Q (some (zi (-4))) (z_s m 1 (mRefu (mTh (z_g m 1)) (-4)))) else Q (some (zi (-1))) (z_s m 1 (mRefu (mTh (z_g m 1)) (-1))) := by
  have e1 : ∀ j, z_I (z_uI (z_g m 1) 6 0 0 0) 22 0 j = z_I (z_g m 1) 22 0 j := fun j => mTh_r
  have e2 : ∀ j x, z_I (mRem (z_uI (z_g m 1) 6 0 0 0) x) 22 0 j = z_I (z_g m 1) 22 0 j := fun j x => mRem_r.trans mTh_r
  have e_b : (0 ≤ b.toInt64 ∧ b.toInt64 ≤ 9999) = ¬ (b < 0 ∨ 9999 < b) := z_in64 (lo := 0) (hi := 9999) rfl rfl
  have e_c : (0 ≤ c.toInt64 ∧ c.toInt64 ≤ 999) = ¬ (c < 0 ∨ 999 < c) := z_in64 (lo := 0) (hi := 999) rfl rfl
  rcases Classical.em (0 ≤ a ∧ a < 5) with c00 | c00
  · rcases Classical.em (b < 0 ∨ 9999 < b) with c01 | c01
    · simp (maxSteps := 4000000) (disch := omega) only [↓zen_162, ↓zu_162_0, ↓zu_162_36, ↓zu_162_42, ↓zu_162_65, ↓zu_162_72, ↓zu_162_121, ↓zu_162_123, ↓zu_162_131, ↓zu_162_176, ↓zu_162_177, ↓zu_162_209, ↓zu_162_256, ↓zu_162_268, ↓zx_nil, ↓zx_cons, ↓zp_li, ↓zp_ll, ↓zp_lr, ↓zq_li0, ↓zq_li1, ↓zq_ll0, ↓zq_ll1, ↓zq_lr0, ↓zq_lr1, ↓zk_0, ↓zk_1n, ↓zk_1i, ↓zk_1r, ↓zk_1l, ↓zk_2, zp_okt, ↓zp_okl, zp_sh0, zp_sh1, zp_psn, zp_pss, ↓zp_ri1, ↓zp_ri20, ↓zp_ri21, ↓zp_rl, ↓zp_ra, ↓zp_rv, ↓zp_br, ↓reduceIte, Nat.reduceAdd, Nat.zero_add, Nat.add_zero, Nat.le_refl, Nat.zero_le, ↓zx_aload_0, ↓zx_iconst, ↓zyp_6_0, ↓zx_iload_1, ↓zyc_160, ↓zy_if_eq, ↓zx_iload_2, ↓zy_i2l, ↓zx_lconst0, ↓zx_ldc2, ↓zyc_130, ↓zx_iload_3, ↓zy_if_ne, ↓zyc_126, ↓zx_iret, ↓zyg_6_3, ↓zy_ic_gt, ↓zy_if_gt, ↓zy_if_le, ↓zx_bipush, ↓zyc_142, ↓zy_istore, ↓zx_iload, ↓zy_iadd, ↓zy_ic_ge, ↓zy_imul, ↓zy_ic_ne, ↓zx_goto, ↓zy_iinc, ↓zyc_143, ↓zyg_6_12, ↓zyg_6_13, ↓zyc_131, ↓zy_dup2, ↓zyc_163, ↓zyc_169, ↓zyc_170, ↓zyc_136, ↓zya_21, ↓zya_22, ↓zya_24, ↓zya_26, ↓zya_27, ↓zya_30, ↓zya_32, ↓zya_33, ↓zyb_21, ↓zyb_22, ↓zyb_24, ↓zyb_26, ↓zyb_27, ↓zyb_30, ↓zyb_32, ↓zyb_33, ↓zpX_s, ↓zpX_n, z_i10, z_10, z_00, and_self, not_true_eq_false, not_false_eq_true, true_and, and_true, false_and, and_false, true_or, false_or, or_false, or_true, or_self, if_true, if_false, ite_self, ↓zs_72, zn_p0, zn_p1, zn_p2, zn_p3, zn_p4, zn_p5, zn_p6, zn_p7, zn_p8, zn_p13, zn_p88, zn_p891, zn_m2, zn_m3, zn_m8, zn_m17, zn_m29, zn_m88, zn_m891, zn_a2, zn_a3, zn_a6, zn_a8, zn_a18, zn_a66, zn_a88, zn_a211, zn_a891, zp_ri2i, nI_add, z_vr, nI_clamp, zn_w0, zn_w1, zn_w2, zn_w3, zn_w4, zn_w5, zn_t0, zn_t1, zn_t2, zn_t3, zn_t4, zn_t5, z_g_ss, zq_ss, e1, ↓zs_160, ↓zs_130, e_b, e_c, eq_true c00, eq_true c01, ↓zs_126a]
    · rcases Classical.em (c < 0 ∨ 999 < c) with c02 | c02
      · simp (maxSteps := 4000000) (disch := omega) only [↓zen_162, ↓zu_162_0, ↓zu_162_36, ↓zu_162_42, ↓zu_162_65, ↓zu_162_72, ↓zu_162_121, ↓zu_162_123, ↓zu_162_131, ↓zu_162_176, ↓zu_162_177, ↓zu_162_209, ↓zu_162_256, ↓zu_162_268, ↓zx_nil, ↓zx_cons, ↓zp_li, ↓zp_ll, ↓zp_lr, ↓zq_li0, ↓zq_li1, ↓zq_ll0, ↓zq_ll1, ↓zq_lr0, ↓zq_lr1, ↓zk_0, ↓zk_1n, ↓zk_1i, ↓zk_1r, ↓zk_1l, ↓zk_2, zp_okt, ↓zp_okl, zp_sh0, zp_sh1, zp_psn, zp_pss, ↓zp_ri1, ↓zp_ri20, ↓zp_ri21, ↓zp_rl, ↓zp_ra, ↓zp_rv, ↓zp_br, ↓reduceIte, Nat.reduceAdd, Nat.zero_add, Nat.add_zero, Nat.le_refl, Nat.zero_le, ↓zx_aload_0, ↓zx_iconst, ↓zyp_6_0, ↓zx_iload_1, ↓zyc_160, ↓zy_if_eq, ↓zx_iload_2, ↓zy_i2l, ↓zx_lconst0, ↓zx_ldc2, ↓zyc_130, ↓zx_iload_3, ↓zy_if_ne, ↓zyc_126, ↓zx_iret, ↓zyg_6_3, ↓zy_ic_gt, ↓zy_if_gt, ↓zy_if_le, ↓zx_bipush, ↓zyc_142, ↓zy_istore, ↓zx_iload, ↓zy_iadd, ↓zy_ic_ge, ↓zy_imul, ↓zy_ic_ne, ↓zx_goto, ↓zy_iinc, ↓zyc_143, ↓zyg_6_12, ↓zyg_6_13, ↓zyc_131, ↓zy_dup2, ↓zyc_163, ↓zyc_169, ↓zyc_170, ↓zyc_136, ↓zya_21, ↓zya_22, ↓zya_24, ↓zya_26, ↓zya_27, ↓zya_30, ↓zya_32, ↓zya_33, ↓zyb_21, ↓zyb_22, ↓zyb_24, ↓zyb_26, ↓zyb_27, ↓zyb_30, ↓zyb_32, ↓zyb_33, ↓zpX_s, ↓zpX_n, z_i10, z_10, z_00, and_self, not_true_eq_false, not_false_eq_true, true_and, and_true, false_and, and_false, true_or, false_or, or_false, or_true, or_self, if_true, if_false, ite_self, ↓zs_72, zn_p0, zn_p1, zn_p2, zn_p3, zn_p4, zn_p5, zn_p6, zn_p7, zn_p8, zn_p13, zn_p88, zn_p891, zn_m2, zn_m3, zn_m8, zn_m17, zn_m29, zn_m88, zn_m891, zn_a2, zn_a3, zn_a6, zn_a8, zn_a18, zn_a66, zn_a88, zn_a211, zn_a891, zp_ri2i, nI_add, z_vr, nI_clamp, zn_w0, zn_w1, zn_w2, zn_w3, zn_w4, zn_w5, zn_t0, zn_t1, zn_t2, zn_t3, zn_t4, zn_t5, z_g_ss, zq_ss, e1, ↓zs_160, ↓zs_130, e_b, e_c, eq_true c00, c01, eq_true c02, ↓zs_126a]
      · have ha5 := z_k5 c00
        have hva := z_nn_eq c00.1
        replace hU := hU c00
        replace hB := hB c00
        have hq := hO.2.2.2.1 _ ha5
        generalize a.toNatClampNeg = na at *
        subst hva
        have ht : z_I (z_g m 1) 22 0 (66 + 29 * na) = nI (mRaN (z_g m 1) na) := hq.eq
        have ht2 : mRaN (z_g m 1) na ≤ 12 := hq.2
        have hb := mRa3_bok (k := na) (v := b) (w := c) hO ha5
        have hJ : mRaJ (z_g m 1) na b ≤ 12 := by
          unfold mRaJ
          cases h : mAt (z_g m 1) na b with
          | none => exact ht2
          | some j => have := mAt_lt h; show j ≤ 12; omega
        have h163 := fun d Q => zs_163 (d := d) (m := z_s m 1 (mRa3 (z_g m 1) na b c)) (v := nI na) (Q := Q) (by rw [z_g_ss]; exact hb)
        rw [z_g_ss] at h163
        simp only [zq_ss] at h163
        change ∀ (d : Nat) (Q : zQ), _ = Q (some (zi (bI (mRaX (z_g m 1) na b c).1))) (z_s m 1 (mRaX (z_g m 1) na b c).2) at h163
        have h169a := fun d Q => zs_169 (d := d) (m := z_s m 1 (mRaX (z_g m 1) na b c).2) (v := -4) (Q := Q) (by decide)
        have h169b := fun d Q => zs_169 (d := d) (m := z_s m 1 (mRaX (z_g m 1) na b c).2) (v := -5) (Q := Q) (by decide)
        have h170 := fun d Q => zs_170 (d := d) (m := z_s m 1 (mRaX (z_g m 1) na b c).2) (v := 7) (Q := Q) (by rw [z_g_ss]; exact hU)
        simp only [z_g_ss, zq_ss] at h169a h169b h170
        change ∀ (d : Nat) (Q : zQ), _ = Q none (z_s m 1 (mRaF (z_g m 1) na b c)) at h170
        have h143 := fun d v Q => zs_143 (d := d) (m := z_s m 1 (mTh (z_g m 1))) (k := na) (v := v) (Q := Q) ha5 (by rw [z_g_ss, mTh_r]; exact hO.nk ha5)
        simp only [z_g_ss, mTh_rate] at h143
        have h131 := fun d Q => zs_131_30 (d := d) (m := z_s m 1 (mTh (z_g m 1))) (Q := Q) (q := 0) (by decide)
        have e0 : nI 0 = 0 := rfl
        rw [e0, z_g_ss] at h131
        simp only [zq_ss] at h131
        have e3 : ∀ j, z_I (mLay 30 31 0 (z_uI (z_g m 1) 6 0 0 0)) 22 0 j = z_I (z_g m 1) 22 0 j := fun j => (mLay_o (by decide)).trans (e1 j)
        have k209 : ∀ (x y : Int32), zW 162 (d + 6) Q 209 [some (zr (some (6, 1, 0))), some (zi (nI na)), some (zi b), some (zi c), some (zi (nI (66 + 29 * na))), some (zi (nI (mRaJ (z_g m 1) na b))), some (zi x), some (zi y)] [] (z_s m 1 (mRa1 (z_g m 1) na b)) 0 = if (mRaX (z_g m 1) na b c).1 = true then (if y = 0 then Q (some (zi x)) (z_s m 1 (mActd (mRaF (z_g m 1) na b c))) else Q (some (zi (-5))) (z_s m 1 (mRefu (mBring 30 31 0 (mRaX (z_g m 1) na b c).2) (-5)))) else Q (some (zi (-4))) (z_s m 1 (mRefu (mBring 30 31 0 (mRaX (z_g m 1) na b c).2) (-4))) := by
          intro x y
          generalize hJe : mRaJ (z_g m 1) na b = J at *
          have e5 : z_uI (z_uI (mRa1 (z_g m 1) na b) 22 0 (66 + 29 * na + 3 + 2 * J) b) 22 0 (66 + 29 * na + 3 + 2 * J + 1) c = mRa3 (z_g m 1) na b c := by unfold mRa3; rw [hJe]
          rcases Classical.em ((mRaX (z_g m 1) na b c).1 = true) with q | q
          · have h136 := fun x Q => zs_136 (d := d) (m := z_s m 1 (mRaF (z_g m 1) na b c)) (v := x) (Q := Q) (by rw [z_g_ss]; exact hB q)
            rw [z_g_ss] at h136
            simp only [zq_ss] at h136
            rcases Classical.em (y = 0) with q2 | q2
            · simp (disch := omega) only [↓zu_162_209, ↓zu_162_256, ↓zu_162_268, ↓zx_nil, ↓zx_cons, ↓zp_li, ↓zp_ll, ↓zp_lr, ↓zq_li0, ↓zq_li1, ↓zq_ll0, ↓zq_ll1, ↓zq_lr0, ↓zq_lr1, ↓zk_0, ↓zk_1n, ↓zk_1i, ↓zk_1r, ↓zk_1l, ↓zk_2, zp_okt, ↓zp_okl, zp_sh0, zp_sh1, zp_psn, zp_pss, ↓zp_ri1, ↓zp_ri20, ↓zp_ri21, ↓zp_rl, ↓zp_ra, ↓zp_rv, ↓zp_br, ↓reduceIte, Nat.reduceAdd, Nat.zero_add, Nat.add_zero, Nat.le_refl, Nat.zero_le, ↓zx_aload_0, ↓zx_iconst, ↓zyp_6_0, ↓zx_iload_1, ↓zyc_160, ↓zy_if_eq, ↓zx_iload_2, ↓zy_i2l, ↓zx_lconst0, ↓zx_ldc2, ↓zyc_130, ↓zx_iload_3, ↓zy_if_ne, ↓zyc_126, ↓zx_iret, ↓zyg_6_3, ↓zy_ic_gt, ↓zy_if_gt, ↓zy_if_le, ↓zx_bipush, ↓zyc_142, ↓zy_istore, ↓zx_iload, ↓zy_iadd, ↓zy_ic_ge, ↓zy_imul, ↓zy_ic_ne, ↓zx_goto, ↓zy_iinc, ↓zyc_143, ↓zyg_6_12, ↓zyg_6_13, ↓zyc_131, ↓zy_dup2, ↓zyc_163, ↓zyc_169, ↓zyc_170, ↓zyc_136, ↓zya_21, ↓zya_22, ↓zya_24, ↓zya_26, ↓zya_27, ↓zya_30, ↓zya_32, ↓zya_33, ↓zyb_21, ↓zyb_22, ↓zyb_24, ↓zyb_26, ↓zyb_27, ↓zyb_30, ↓zyb_32, ↓zyb_33, ↓zpX_s, ↓zpX_n, z_i10, z_10, z_00, and_self, not_true_eq_false, not_false_eq_true, true_and, and_true, false_and, and_false, true_or, false_or, or_false, or_true, or_self, if_true, if_false, ite_self, ↓zs_72, zn_p0, zn_p1, zn_p2, zn_p3, zn_p4, zn_p5, zn_p6, zn_p7, zn_p8, zn_p13, zn_p88, zn_p891, zn_m2, zn_m3, zn_m8, zn_m17, zn_m29, zn_m88, zn_m891, zn_a2, zn_a3, zn_a6, zn_a8, zn_a18, zn_a66, zn_a88, zn_a211, zn_a891, zp_ri2i, nI_add, z_vr, nI_clamp, zn_w0, zn_w1, zn_w2, zn_w3, zn_w4, zn_w5, zn_t0, zn_t1, zn_t2, zn_t3, zn_t4, zn_t5, z_g_ss, zq_ss, e5, ↓h163, h163, eq_true q, eq_true q2, ↓h170, h170, ↓h136, h136, bI]
            · simp (disch := omega) only [↓zu_162_209, ↓zu_162_256, ↓zu_162_268, ↓zx_nil, ↓zx_cons, ↓zp_li, ↓zp_ll, ↓zp_lr, ↓zq_li0, ↓zq_li1, ↓zq_ll0, ↓zq_ll1, ↓zq_lr0, ↓zq_lr1, ↓zk_0, ↓zk_1n, ↓zk_1i, ↓zk_1r, ↓zk_1l, ↓zk_2, zp_okt, ↓zp_okl, zp_sh0, zp_sh1, zp_psn, zp_pss, ↓zp_ri1, ↓zp_ri20, ↓zp_ri21, ↓zp_rl, ↓zp_ra, ↓zp_rv, ↓zp_br, ↓reduceIte, Nat.reduceAdd, Nat.zero_add, Nat.add_zero, Nat.le_refl, Nat.zero_le, ↓zx_aload_0, ↓zx_iconst, ↓zyp_6_0, ↓zx_iload_1, ↓zyc_160, ↓zy_if_eq, ↓zx_iload_2, ↓zy_i2l, ↓zx_lconst0, ↓zx_ldc2, ↓zyc_130, ↓zx_iload_3, ↓zy_if_ne, ↓zyc_126, ↓zx_iret, ↓zyg_6_3, ↓zy_ic_gt, ↓zy_if_gt, ↓zy_if_le, ↓zx_bipush, ↓zyc_142, ↓zy_istore, ↓zx_iload, ↓zy_iadd, ↓zy_ic_ge, ↓zy_imul, ↓zy_ic_ne, ↓zx_goto, ↓zy_iinc, ↓zyc_143, ↓zyg_6_12, ↓zyg_6_13, ↓zyc_131, ↓zy_dup2, ↓zyc_163, ↓zyc_169, ↓zyc_170, ↓zyc_136, ↓zya_21, ↓zya_22, ↓zya_24, ↓zya_26, ↓zya_27, ↓zya_30, ↓zya_32, ↓zya_33, ↓zyb_21, ↓zyb_22, ↓zyb_24, ↓zyb_26, ↓zyb_27, ↓zyb_30, ↓zyb_32, ↓zyb_33, ↓zpX_s, ↓zpX_n, z_i10, z_10, z_00, and_self, not_true_eq_false, not_false_eq_true, true_and, and_true, false_and, and_false, true_or, false_or, or_false, or_true, or_self, if_true, if_false, ite_self, ↓zs_72, zn_p0, zn_p1, zn_p2, zn_p3, zn_p4, zn_p5, zn_p6, zn_p7, zn_p8, zn_p13, zn_p88, zn_p891, zn_m2, zn_m3, zn_m8, zn_m17, zn_m29, zn_m88, zn_m891, zn_a2, zn_a3, zn_a6, zn_a8, zn_a18, zn_a66, zn_a88, zn_a211, zn_a891, zp_ri2i, nI_add, z_vr, nI_clamp, zn_w0, zn_w1, zn_w2, zn_w3, zn_w4, zn_w5, zn_t0, zn_t1, zn_t2, zn_t3, zn_t4, zn_t5, z_g_ss, zq_ss, e5, ↓h163, h163, eq_true q, q2, ↓h169b, h169b, bI]
          · simp (disch := omega) only [↓zu_162_209, ↓zu_162_256, ↓zx_nil, ↓zx_cons, ↓zp_li, ↓zp_ll, ↓zp_lr, ↓zq_li0, ↓zq_li1, ↓zq_ll0, ↓zq_ll1, ↓zq_lr0, ↓zq_lr1, ↓zk_0, ↓zk_1n, ↓zk_1i, ↓zk_1r, ↓zk_1l, ↓zk_2, zp_okt, ↓zp_okl, zp_sh0, zp_sh1, zp_psn, zp_pss, ↓zp_ri1, ↓zp_ri20, ↓zp_ri21, ↓zp_rl, ↓zp_ra, ↓zp_rv, ↓zp_br, ↓reduceIte, Nat.reduceAdd, Nat.zero_add, Nat.add_zero, Nat.le_refl, Nat.zero_le, ↓zx_aload_0, ↓zx_iconst, ↓zyp_6_0, ↓zx_iload_1, ↓zyc_160, ↓zy_if_eq, ↓zx_iload_2, ↓zy_i2l, ↓zx_lconst0, ↓zx_ldc2, ↓zyc_130, ↓zx_iload_3, ↓zy_if_ne, ↓zyc_126, ↓zx_iret, ↓zyg_6_3, ↓zy_ic_gt, ↓zy_if_gt, ↓zy_if_le, ↓zx_bipush, ↓zyc_142, ↓zy_istore, ↓zx_iload, ↓zy_iadd, ↓zy_ic_ge, ↓zy_imul, ↓zy_ic_ne, ↓zx_goto, ↓zy_iinc, ↓zyc_143, ↓zyg_6_12, ↓zyg_6_13, ↓zyc_131, ↓zy_dup2, ↓zyc_163, ↓zyc_169, ↓zyc_170, ↓zyc_136, ↓zya_21, ↓zya_22, ↓zya_24, ↓zya_26, ↓zya_27, ↓zya_30, ↓zya_32, ↓zya_33, ↓zyb_21, ↓zyb_22, ↓zyb_24, ↓zyb_26, ↓zyb_27, ↓zyb_30, ↓zyb_32, ↓zyb_33, ↓zpX_s, ↓zpX_n, z_i10, z_10, z_00, and_self, not_true_eq_false, not_false_eq_true, true_and, and_true, false_and, and_false, true_or, false_or, or_false, or_true, or_self, if_true, if_false, ite_self, ↓zs_72, zn_p0, zn_p1, zn_p2, zn_p3, zn_p4, zn_p5, zn_p6, zn_p7, zn_p8, zn_p13, zn_p88, zn_p891, zn_m2, zn_m3, zn_m8, zn_m17, zn_m29, zn_m88, zn_m891, zn_a2, zn_a3, zn_a6, zn_a8, zn_a18, zn_a66, zn_a88, zn_a211, zn_a891, zp_ri2i, nI_add, z_vr, nI_clamp, zn_w0, zn_w1, zn_w2, zn_w3, zn_w4, zn_w5, zn_t0, zn_t1, zn_t2, zn_t3, zn_t4, zn_t5, z_g_ss, zq_ss, e5, ↓h163, h163, eq_false q, ↓h169a, h169a, bI]
        have hl := fun d => zl_162 (d := d) (m := z_s m 1 (mTh (z_g m 1))) (Q := Q) (k := na) (b := b) (c := c) (t := mRaN (z_g m 1) na) ha5 (by rw [z_g_ss, mTh_r]; exact ht) ht2 (mRaN (z_g m 1) na) 0 none (by omega)
        rw [z_g_ss] at hl
        have eA : z_it (mAtS (mTh (z_g m 1)) na b) (mRaN (z_g m 1) na) 0 none = mAt (z_g m 1) na b := by
          have := mTh_at (M := z_g m 1) (k := na) (v := b)
          unfold mAt at this
          rw [mTh_r] at this
          exact this
        rw [eA] at hl
        have k72 : zW 162 (d + 6) Q 72 [some (zr (some (6, 1, 0))), some (zi (nI na)), some (zi b), some (zi c), none, none, none, none] [] (z_s m 1 (mTh (z_g m 1))) 0 = if (mRaX (z_g m 1) na b c).1 = true then (if mAt (z_g m 1) na b = none ∧ z_I (z_g m 1) 22 0 (66 + 29 * na) = 12 then Q (some (zi (-5))) (z_s m 1 (mRefu (mBring 30 31 0 (mRaX (z_g m 1) na b c).2) (-5))) else Q (some (zi (mRate (z_g m 1) na b))) (z_s m 1 (mActd (mRaF (z_g m 1) na b c)))) else Q (some (zi (-4))) (z_s m 1 (mRefu (mBring 30 31 0 (mRaX (z_g m 1) na b c).2) (-4))) := by
          rw [zu_162_72]
          simp (disch := omega) only [↓zx_nil, ↓zx_cons, ↓zp_li, ↓zp_ll, ↓zp_lr, ↓zq_li0, ↓zq_li1, ↓zq_ll0, ↓zq_ll1, ↓zq_lr0, ↓zq_lr1, ↓zk_0, ↓zk_1n, ↓zk_1i, ↓zk_1r, ↓zk_1l, ↓zk_2, zp_okt, ↓zp_okl, zp_sh0, zp_sh1, zp_psn, zp_pss, ↓zp_ri1, ↓zp_ri20, ↓zp_ri21, ↓zp_rl, ↓zp_ra, ↓zp_rv, ↓zp_br, ↓reduceIte, Nat.reduceAdd, Nat.zero_add, Nat.add_zero, Nat.le_refl, Nat.zero_le, ↓zx_aload_0, ↓zx_iconst, ↓zyp_6_0, ↓zx_iload_1, ↓zyc_160, ↓zy_if_eq, ↓zx_iload_2, ↓zy_i2l, ↓zx_lconst0, ↓zx_ldc2, ↓zyc_130, ↓zx_iload_3, ↓zy_if_ne, ↓zyc_126, ↓zx_iret, ↓zyg_6_3, ↓zy_ic_gt, ↓zy_if_gt, ↓zy_if_le, ↓zx_bipush, ↓zyc_142, ↓zy_istore, ↓zx_iload, ↓zy_iadd, ↓zy_ic_ge, ↓zy_imul, ↓zy_ic_ne, ↓zx_goto, ↓zy_iinc, ↓zyc_143, ↓zyg_6_12, ↓zyg_6_13, ↓zyc_131, ↓zy_dup2, ↓zyc_163, ↓zyc_169, ↓zyc_170, ↓zyc_136, ↓zya_21, ↓zya_22, ↓zya_24, ↓zya_26, ↓zya_27, ↓zya_30, ↓zya_32, ↓zya_33, ↓zyb_21, ↓zyb_22, ↓zyb_24, ↓zyb_26, ↓zyb_27, ↓zyb_30, ↓zyb_32, ↓zyb_33, ↓zpX_s, ↓zpX_n, z_i10, z_10, z_00, and_self, not_true_eq_false, not_false_eq_true, true_and, and_true, false_and, and_false, true_or, false_or, or_false, or_true, or_self, if_true, if_false, ite_self, ↓zs_72, ↓zs_142]
          refine Eq.trans (hl _) ?_
          have k0 := k209 (mRate (z_g m 1) na b) 0
          have k1 := k209 (mRate (z_g m 1) na b) 1
          rw [if_pos rfl] at k0
          rw [if_neg (show ¬ (1 : Int32) = 0 by decide)] at k1
          cases h : mAt (z_g m 1) na b with
          | none =>
            have eJ : mRaJ (z_g m 1) na b = mRaN (z_g m 1) na := by unfold mRaJ; rw [h]; rfl
            have e6 : mRa1 (z_g m 1) na b = z_uI (mLay 30 31 0 (z_uI (z_g m 1) 6 0 0 0)) 22 0 (66 + 29 * na) (nI (mRaN (z_g m 1) na + 1)) := by unfold mRa1; rw [if_pos h]
            rw [eJ, e6] at k0 k1
            rcases Classical.em (z_I (z_g m 1) 22 0 (66 + 29 * na) = 12) with q | q
            · have eI : ((none : Option Nat) = none ∧ z_I (z_g m 1) 22 0 (66 + 29 * na) = 12) = True := eq_true ⟨rfl, q⟩
              simp only [↓eI, ↓reduceIte]
              rw [← k1]
              rw [ht] at q
              simp (disch := omega) only [↓zu_162_131, ↓zu_162_176, ↓zu_162_177, ↓zx_nil, ↓zx_cons, ↓zp_li, ↓zp_ll, ↓zp_lr, ↓zq_li0, ↓zq_li1, ↓zq_ll0, ↓zq_ll1, ↓zq_lr0, ↓zq_lr1, ↓zk_0, ↓zk_1n, ↓zk_1i, ↓zk_1r, ↓zk_1l, ↓zk_2, zp_okt, ↓zp_okl, zp_sh0, zp_sh1, zp_psn, zp_pss, ↓zp_ri1, ↓zp_ri20, ↓zp_ri21, ↓zp_rl, ↓zp_ra, ↓zp_rv, ↓zp_br, ↓reduceIte, Nat.reduceAdd, Nat.zero_add, Nat.add_zero, Nat.le_refl, Nat.zero_le, ↓zx_aload_0, ↓zx_iconst, ↓zyp_6_0, ↓zx_iload_1, ↓zyc_160, ↓zy_if_eq, ↓zx_iload_2, ↓zy_i2l, ↓zx_lconst0, ↓zx_ldc2, ↓zyc_130, ↓zx_iload_3, ↓zy_if_ne, ↓zyc_126, ↓zx_iret, ↓zyg_6_3, ↓zy_ic_gt, ↓zy_if_gt, ↓zy_if_le, ↓zx_bipush, ↓zyc_142, ↓zy_istore, ↓zx_iload, ↓zy_iadd, ↓zy_ic_ge, ↓zy_imul, ↓zy_ic_ne, ↓zx_goto, ↓zy_iinc, ↓zyc_143, ↓zyg_6_12, ↓zyg_6_13, ↓zyc_131, ↓zy_dup2, ↓zyc_163, ↓zyc_169, ↓zyc_170, ↓zyc_136, ↓zya_21, ↓zya_22, ↓zya_24, ↓zya_26, ↓zya_27, ↓zya_30, ↓zya_32, ↓zya_33, ↓zyb_21, ↓zyb_22, ↓zyb_24, ↓zyb_26, ↓zyb_27, ↓zyb_30, ↓zyb_32, ↓zyb_33, ↓zpX_s, ↓zpX_n, z_i10, z_10, z_00, and_self, not_true_eq_false, not_false_eq_true, true_and, and_true, false_and, and_false, true_or, false_or, or_false, or_true, or_self, if_true, if_false, ite_self, ↓zs_72, zn_p0, zn_p1, zn_p2, zn_p3, zn_p4, zn_p5, zn_p6, zn_p7, zn_p8, zn_p13, zn_p88, zn_p891, zn_m2, zn_m3, zn_m8, zn_m17, zn_m29, zn_m88, zn_m891, zn_a2, zn_a3, zn_a6, zn_a8, zn_a18, zn_a66, zn_a88, zn_a211, zn_a891, zp_ri2i, nI_add, z_vr, nI_clamp, zn_w0, zn_w1, zn_w2, zn_w3, zn_w4, zn_w5, zn_t0, zn_t1, zn_t2, zn_t3, zn_t4, zn_t5, z_g_ss, zq_ss, e1, e3, oI, ↓h143, h143, ↓h131, h131, ht, eq_true q]
            · have eI : ((none : Option Nat) = none ∧ z_I (z_g m 1) 22 0 (66 + 29 * na) = 12) = False := eq_false fun z => q z.2
              simp only [↓eI, ↓reduceIte]
              rw [← k0]
              rw [ht] at q
              simp (disch := omega) only [↓zu_162_131, ↓zu_162_176, ↓zu_162_177, ↓zx_nil, ↓zx_cons, ↓zp_li, ↓zp_ll, ↓zp_lr, ↓zq_li0, ↓zq_li1, ↓zq_ll0, ↓zq_ll1, ↓zq_lr0, ↓zq_lr1, ↓zk_0, ↓zk_1n, ↓zk_1i, ↓zk_1r, ↓zk_1l, ↓zk_2, zp_okt, ↓zp_okl, zp_sh0, zp_sh1, zp_psn, zp_pss, ↓zp_ri1, ↓zp_ri20, ↓zp_ri21, ↓zp_rl, ↓zp_ra, ↓zp_rv, ↓zp_br, ↓reduceIte, Nat.reduceAdd, Nat.zero_add, Nat.add_zero, Nat.le_refl, Nat.zero_le, ↓zx_aload_0, ↓zx_iconst, ↓zyp_6_0, ↓zx_iload_1, ↓zyc_160, ↓zy_if_eq, ↓zx_iload_2, ↓zy_i2l, ↓zx_lconst0, ↓zx_ldc2, ↓zyc_130, ↓zx_iload_3, ↓zy_if_ne, ↓zyc_126, ↓zx_iret, ↓zyg_6_3, ↓zy_ic_gt, ↓zy_if_gt, ↓zy_if_le, ↓zx_bipush, ↓zyc_142, ↓zy_istore, ↓zx_iload, ↓zy_iadd, ↓zy_ic_ge, ↓zy_imul, ↓zy_ic_ne, ↓zx_goto, ↓zy_iinc, ↓zyc_143, ↓zyg_6_12, ↓zyg_6_13, ↓zyc_131, ↓zy_dup2, ↓zyc_163, ↓zyc_169, ↓zyc_170, ↓zyc_136, ↓zya_21, ↓zya_22, ↓zya_24, ↓zya_26, ↓zya_27, ↓zya_30, ↓zya_32, ↓zya_33, ↓zyb_21, ↓zyb_22, ↓zyb_24, ↓zyb_26, ↓zyb_27, ↓zyb_30, ↓zyb_32, ↓zyb_33, ↓zpX_s, ↓zpX_n, z_i10, z_10, z_00, and_self, not_true_eq_false, not_false_eq_true, true_and, and_true, false_and, and_false, true_or, false_or, or_false, or_true, or_self, if_true, if_false, ite_self, ↓zs_72, zn_p0, zn_p1, zn_p2, zn_p3, zn_p4, zn_p5, zn_p6, zn_p7, zn_p8, zn_p13, zn_p88, zn_p891, zn_m2, zn_m3, zn_m8, zn_m17, zn_m29, zn_m88, zn_m891, zn_a2, zn_a3, zn_a6, zn_a8, zn_a18, zn_a66, zn_a88, zn_a211, zn_a891, zp_ri2i, nI_add, z_vr, nI_clamp, zn_w0, zn_w1, zn_w2, zn_w3, zn_w4, zn_w5, zn_t0, zn_t1, zn_t2, zn_t3, zn_t4, zn_t5, z_g_ss, zq_ss, e1, e3, oI, ↓h143, h143, ↓h131, h131, ht, q]
          | some j =>
            have hj := mAt_lt h
            have h5 := zn_o1 (b := j) (by omega)
            have eJ : mRaJ (z_g m 1) na b = j := by unfold mRaJ; rw [h]; rfl
            have e6 : mRa1 (z_g m 1) na b = mLay 30 31 0 (z_uI (z_g m 1) 6 0 0 0) := by unfold mRa1; rw [if_neg (by rw [h]; exact fun z => nomatch z)]
            rw [eJ, e6] at k0
            have eI : (some j = none ∧ z_I (z_g m 1) 22 0 (66 + 29 * na) = 12) = False := eq_false fun z => nomatch z.1
            simp only [↓eI, ↓reduceIte]
            rw [← k0]
            simp (disch := omega) only [↓zu_162_131, ↓zu_162_176, ↓zu_162_177, ↓zx_nil, ↓zx_cons, ↓zp_li, ↓zp_ll, ↓zp_lr, ↓zq_li0, ↓zq_li1, ↓zq_ll0, ↓zq_ll1, ↓zq_lr0, ↓zq_lr1, ↓zk_0, ↓zk_1n, ↓zk_1i, ↓zk_1r, ↓zk_1l, ↓zk_2, zp_okt, ↓zp_okl, zp_sh0, zp_sh1, zp_psn, zp_pss, ↓zp_ri1, ↓zp_ri20, ↓zp_ri21, ↓zp_rl, ↓zp_ra, ↓zp_rv, ↓zp_br, ↓reduceIte, Nat.reduceAdd, Nat.zero_add, Nat.add_zero, Nat.le_refl, Nat.zero_le, ↓zx_aload_0, ↓zx_iconst, ↓zyp_6_0, ↓zx_iload_1, ↓zyc_160, ↓zy_if_eq, ↓zx_iload_2, ↓zy_i2l, ↓zx_lconst0, ↓zx_ldc2, ↓zyc_130, ↓zx_iload_3, ↓zy_if_ne, ↓zyc_126, ↓zx_iret, ↓zyg_6_3, ↓zy_ic_gt, ↓zy_if_gt, ↓zy_if_le, ↓zx_bipush, ↓zyc_142, ↓zy_istore, ↓zx_iload, ↓zy_iadd, ↓zy_ic_ge, ↓zy_imul, ↓zy_ic_ne, ↓zx_goto, ↓zy_iinc, ↓zyc_143, ↓zyg_6_12, ↓zyg_6_13, ↓zyc_131, ↓zy_dup2, ↓zyc_163, ↓zyc_169, ↓zyc_170, ↓zyc_136, ↓zya_21, ↓zya_22, ↓zya_24, ↓zya_26, ↓zya_27, ↓zya_30, ↓zya_32, ↓zya_33, ↓zyb_21, ↓zyb_22, ↓zyb_24, ↓zyb_26, ↓zyb_27, ↓zyb_30, ↓zyb_32, ↓zyb_33, ↓zpX_s, ↓zpX_n, z_i10, z_10, z_00, and_self, not_true_eq_false, not_false_eq_true, true_and, and_true, false_and, and_false, true_or, false_or, or_false, or_true, or_self, if_true, if_false, ite_self, ↓zs_72, zn_p0, zn_p1, zn_p2, zn_p3, zn_p4, zn_p5, zn_p6, zn_p7, zn_p8, zn_p13, zn_p88, zn_p891, zn_m2, zn_m3, zn_m8, zn_m17, zn_m29, zn_m88, zn_m891, zn_a2, zn_a3, zn_a6, zn_a8, zn_a18, zn_a66, zn_a88, zn_a211, zn_a891, zp_ri2i, nI_add, z_vr, nI_clamp, zn_w0, zn_w1, zn_w2, zn_w3, zn_w4, zn_w5, zn_t0, zn_t1, zn_t2, zn_t3, zn_t4, zn_t5, z_g_ss, zq_ss, e1, e3, oI, h5, ↓h143, h143, ↓h131, h131, ht]
        rcases Classical.em (z_I (z_g m 1) 22 0 0 < b) with q1 | q1
        · rw [if_pos (Or.inl q1)]
          simp (disch := omega) only [↓zu_162_0, ↓zu_162_36, ↓zu_162_42, ↓zu_162_65, ↓zen_162, ↓zx_nil, ↓zx_cons, ↓zp_li, ↓zp_ll, ↓zp_lr, ↓zq_li0, ↓zq_li1, ↓zq_ll0, ↓zq_ll1, ↓zq_lr0, ↓zq_lr1, ↓zk_0, ↓zk_1n, ↓zk_1i, ↓zk_1r, ↓zk_1l, ↓zk_2, zp_okt, ↓zp_okl, zp_sh0, zp_sh1, zp_psn, zp_pss, ↓zp_ri1, ↓zp_ri20, ↓zp_ri21, ↓zp_rl, ↓zp_ra, ↓zp_rv, ↓zp_br, ↓reduceIte, Nat.reduceAdd, Nat.zero_add, Nat.add_zero, Nat.le_refl, Nat.zero_le, ↓zx_aload_0, ↓zx_iconst, ↓zyp_6_0, ↓zx_iload_1, ↓zyc_160, ↓zy_if_eq, ↓zx_iload_2, ↓zy_i2l, ↓zx_lconst0, ↓zx_ldc2, ↓zyc_130, ↓zx_iload_3, ↓zy_if_ne, ↓zyc_126, ↓zx_iret, ↓zyg_6_3, ↓zy_ic_gt, ↓zy_if_gt, ↓zy_if_le, ↓zx_bipush, ↓zyc_142, ↓zy_istore, ↓zx_iload, ↓zy_iadd, ↓zy_ic_ge, ↓zy_imul, ↓zy_ic_ne, ↓zx_goto, ↓zy_iinc, ↓zyc_143, ↓zyg_6_12, ↓zyg_6_13, ↓zyc_131, ↓zy_dup2, ↓zyc_163, ↓zyc_169, ↓zyc_170, ↓zyc_136, ↓zya_21, ↓zya_22, ↓zya_24, ↓zya_26, ↓zya_27, ↓zya_30, ↓zya_32, ↓zya_33, ↓zyb_21, ↓zyb_22, ↓zyb_24, ↓zyb_26, ↓zyb_27, ↓zyb_30, ↓zyb_32, ↓zyb_33, ↓zpX_s, ↓zpX_n, z_i10, z_10, z_00, and_self, not_true_eq_false, not_false_eq_true, true_and, and_true, false_and, and_false, true_or, false_or, or_false, or_true, or_self, if_true, if_false, ite_self, ↓zs_72, zn_p0, zn_p1, zn_p2, zn_p3, zn_p4, zn_p5, zn_p6, zn_p7, zn_p8, zn_p13, zn_p88, zn_p891, zn_m2, zn_m3, zn_m8, zn_m17, zn_m29, zn_m88, zn_m891, zn_a2, zn_a3, zn_a6, zn_a8, zn_a18, zn_a66, zn_a88, zn_a211, zn_a891, zp_ri2i, nI_add, z_vr, nI_clamp, zn_w0, zn_w1, zn_w2, zn_w3, zn_w4, zn_w5, zn_t0, zn_t1, zn_t2, zn_t3, zn_t4, zn_t5, ↓zs_160, ↓zs_130, z_g_ss, e1, e_b, e_c, c00, c01, c02, q1, k72]
        · rcases Classical.em (0 < z_I (z_g m 1) 22 0 0) with q2 | q2
          · rw [if_neg (show ¬ (z_I (z_g m 1) 22 0 0 < b ∨ (¬ 0 < z_I (z_g m 1) 22 0 0 ∧ b ≤ 0)) from fun z => z.elim q1 fun z => z.1 q2)]
            simp (disch := omega) only [↓zu_162_0, ↓zu_162_36, ↓zu_162_42, ↓zu_162_65, ↓zen_162, ↓zx_nil, ↓zx_cons, ↓zp_li, ↓zp_ll, ↓zp_lr, ↓zq_li0, ↓zq_li1, ↓zq_ll0, ↓zq_ll1, ↓zq_lr0, ↓zq_lr1, ↓zk_0, ↓zk_1n, ↓zk_1i, ↓zk_1r, ↓zk_1l, ↓zk_2, zp_okt, ↓zp_okl, zp_sh0, zp_sh1, zp_psn, zp_pss, ↓zp_ri1, ↓zp_ri20, ↓zp_ri21, ↓zp_rl, ↓zp_ra, ↓zp_rv, ↓zp_br, ↓reduceIte, Nat.reduceAdd, Nat.zero_add, Nat.add_zero, Nat.le_refl, Nat.zero_le, ↓zx_aload_0, ↓zx_iconst, ↓zyp_6_0, ↓zx_iload_1, ↓zyc_160, ↓zy_if_eq, ↓zx_iload_2, ↓zy_i2l, ↓zx_lconst0, ↓zx_ldc2, ↓zyc_130, ↓zx_iload_3, ↓zy_if_ne, ↓zyc_126, ↓zx_iret, ↓zyg_6_3, ↓zy_ic_gt, ↓zy_if_gt, ↓zy_if_le, ↓zx_bipush, ↓zyc_142, ↓zy_istore, ↓zx_iload, ↓zy_iadd, ↓zy_ic_ge, ↓zy_imul, ↓zy_ic_ne, ↓zx_goto, ↓zy_iinc, ↓zyc_143, ↓zyg_6_12, ↓zyg_6_13, ↓zyc_131, ↓zy_dup2, ↓zyc_163, ↓zyc_169, ↓zyc_170, ↓zyc_136, ↓zya_21, ↓zya_22, ↓zya_24, ↓zya_26, ↓zya_27, ↓zya_30, ↓zya_32, ↓zya_33, ↓zyb_21, ↓zyb_22, ↓zyb_24, ↓zyb_26, ↓zyb_27, ↓zyb_30, ↓zyb_32, ↓zyb_33, ↓zpX_s, ↓zpX_n, z_i10, z_10, z_00, and_self, not_true_eq_false, not_false_eq_true, true_and, and_true, false_and, and_false, true_or, false_or, or_false, or_true, or_self, if_true, if_false, ite_self, ↓zs_72, zn_p0, zn_p1, zn_p2, zn_p3, zn_p4, zn_p5, zn_p6, zn_p7, zn_p8, zn_p13, zn_p88, zn_p891, zn_m2, zn_m3, zn_m8, zn_m17, zn_m29, zn_m88, zn_m891, zn_a2, zn_a3, zn_a6, zn_a8, zn_a18, zn_a66, zn_a88, zn_a211, zn_a891, zp_ri2i, nI_add, z_vr, nI_clamp, zn_w0, zn_w1, zn_w2, zn_w3, zn_w4, zn_w5, zn_t0, zn_t1, zn_t2, zn_t3, zn_t4, zn_t5, ↓zs_160, ↓zs_130, z_g_ss, zq_ss, e1, e_b, e_c, c00, c01, c02, q1, q2, ↓zs_126c]
          · rcases Classical.em (b ≤ 0) with q3 | q3
            · rw [if_pos (Or.inr ⟨q2, q3⟩)]
              simp (disch := omega) only [↓zu_162_0, ↓zu_162_36, ↓zu_162_42, ↓zu_162_65, ↓zen_162, ↓zx_nil, ↓zx_cons, ↓zp_li, ↓zp_ll, ↓zp_lr, ↓zq_li0, ↓zq_li1, ↓zq_ll0, ↓zq_ll1, ↓zq_lr0, ↓zq_lr1, ↓zk_0, ↓zk_1n, ↓zk_1i, ↓zk_1r, ↓zk_1l, ↓zk_2, zp_okt, ↓zp_okl, zp_sh0, zp_sh1, zp_psn, zp_pss, ↓zp_ri1, ↓zp_ri20, ↓zp_ri21, ↓zp_rl, ↓zp_ra, ↓zp_rv, ↓zp_br, ↓reduceIte, Nat.reduceAdd, Nat.zero_add, Nat.add_zero, Nat.le_refl, Nat.zero_le, ↓zx_aload_0, ↓zx_iconst, ↓zyp_6_0, ↓zx_iload_1, ↓zyc_160, ↓zy_if_eq, ↓zx_iload_2, ↓zy_i2l, ↓zx_lconst0, ↓zx_ldc2, ↓zyc_130, ↓zx_iload_3, ↓zy_if_ne, ↓zyc_126, ↓zx_iret, ↓zyg_6_3, ↓zy_ic_gt, ↓zy_if_gt, ↓zy_if_le, ↓zx_bipush, ↓zyc_142, ↓zy_istore, ↓zx_iload, ↓zy_iadd, ↓zy_ic_ge, ↓zy_imul, ↓zy_ic_ne, ↓zx_goto, ↓zy_iinc, ↓zyc_143, ↓zyg_6_12, ↓zyg_6_13, ↓zyc_131, ↓zy_dup2, ↓zyc_163, ↓zyc_169, ↓zyc_170, ↓zyc_136, ↓zya_21, ↓zya_22, ↓zya_24, ↓zya_26, ↓zya_27, ↓zya_30, ↓zya_32, ↓zya_33, ↓zyb_21, ↓zyb_22, ↓zyb_24, ↓zyb_26, ↓zyb_27, ↓zyb_30, ↓zyb_32, ↓zyb_33, ↓zpX_s, ↓zpX_n, z_i10, z_10, z_00, and_self, not_true_eq_false, not_false_eq_true, true_and, and_true, false_and, and_false, true_or, false_or, or_false, or_true, or_self, if_true, if_false, ite_self, ↓zs_72, zn_p0, zn_p1, zn_p2, zn_p3, zn_p4, zn_p5, zn_p6, zn_p7, zn_p8, zn_p13, zn_p88, zn_p891, zn_m2, zn_m3, zn_m8, zn_m17, zn_m29, zn_m88, zn_m891, zn_a2, zn_a3, zn_a6, zn_a8, zn_a18, zn_a66, zn_a88, zn_a211, zn_a891, zp_ri2i, nI_add, z_vr, nI_clamp, zn_w0, zn_w1, zn_w2, zn_w3, zn_w4, zn_w5, zn_t0, zn_t1, zn_t2, zn_t3, zn_t4, zn_t5, ↓zs_160, ↓zs_130, z_g_ss, e1, e_b, e_c, c00, c01, c02, q1, q2, q3, k72]
            · rw [if_neg (show ¬ (z_I (z_g m 1) 22 0 0 < b ∨ (¬ 0 < z_I (z_g m 1) 22 0 0 ∧ b ≤ 0)) from fun z => z.elim q1 fun z => q3 z.2)]
              simp (disch := omega) only [↓zu_162_0, ↓zu_162_36, ↓zu_162_42, ↓zu_162_65, ↓zen_162, ↓zx_nil, ↓zx_cons, ↓zp_li, ↓zp_ll, ↓zp_lr, ↓zq_li0, ↓zq_li1, ↓zq_ll0, ↓zq_ll1, ↓zq_lr0, ↓zq_lr1, ↓zk_0, ↓zk_1n, ↓zk_1i, ↓zk_1r, ↓zk_1l, ↓zk_2, zp_okt, ↓zp_okl, zp_sh0, zp_sh1, zp_psn, zp_pss, ↓zp_ri1, ↓zp_ri20, ↓zp_ri21, ↓zp_rl, ↓zp_ra, ↓zp_rv, ↓zp_br, ↓reduceIte, Nat.reduceAdd, Nat.zero_add, Nat.add_zero, Nat.le_refl, Nat.zero_le, ↓zx_aload_0, ↓zx_iconst, ↓zyp_6_0, ↓zx_iload_1, ↓zyc_160, ↓zy_if_eq, ↓zx_iload_2, ↓zy_i2l, ↓zx_lconst0, ↓zx_ldc2, ↓zyc_130, ↓zx_iload_3, ↓zy_if_ne, ↓zyc_126, ↓zx_iret, ↓zyg_6_3, ↓zy_ic_gt, ↓zy_if_gt, ↓zy_if_le, ↓zx_bipush, ↓zyc_142, ↓zy_istore, ↓zx_iload, ↓zy_iadd, ↓zy_ic_ge, ↓zy_imul, ↓zy_ic_ne, ↓zx_goto, ↓zy_iinc, ↓zyc_143, ↓zyg_6_12, ↓zyg_6_13, ↓zyc_131, ↓zy_dup2, ↓zyc_163, ↓zyc_169, ↓zyc_170, ↓zyc_136, ↓zya_21, ↓zya_22, ↓zya_24, ↓zya_26, ↓zya_27, ↓zya_30, ↓zya_32, ↓zya_33, ↓zyb_21, ↓zyb_22, ↓zyb_24, ↓zyb_26, ↓zyb_27, ↓zyb_30, ↓zyb_32, ↓zyb_33, ↓zpX_s, ↓zpX_n, z_i10, z_10, z_00, and_self, not_true_eq_false, not_false_eq_true, true_and, and_true, false_and, and_false, true_or, false_or, or_false, or_true, or_self, if_true, if_false, ite_self, ↓zs_72, zn_p0, zn_p1, zn_p2, zn_p3, zn_p4, zn_p5, zn_p6, zn_p7, zn_p8, zn_p13, zn_p88, zn_p891, zn_m2, zn_m3, zn_m8, zn_m17, zn_m29, zn_m88, zn_m891, zn_a2, zn_a3, zn_a6, zn_a8, zn_a18, zn_a66, zn_a88, zn_a211, zn_a891, zp_ri2i, nI_add, z_vr, nI_clamp, zn_w0, zn_w1, zn_w2, zn_w3, zn_w4, zn_w5, zn_t0, zn_t1, zn_t2, zn_t3, zn_t4, zn_t5, ↓zs_160, ↓zs_130, z_g_ss, zq_ss, e1, e_b, e_c, c00, c01, c02, q1, q2, q3, ↓zs_126c]
  · simp (maxSteps := 4000000) (disch := omega) only [↓zen_162, ↓zu_162_0, ↓zu_162_36, ↓zu_162_42, ↓zu_162_65, ↓zu_162_72, ↓zu_162_121, ↓zu_162_123, ↓zu_162_131, ↓zu_162_176, ↓zu_162_177, ↓zu_162_209, ↓zu_162_256, ↓zu_162_268, ↓zx_nil, ↓zx_cons, ↓zp_li, ↓zp_ll, ↓zp_lr, ↓zq_li0, ↓zq_li1, ↓zq_ll0, ↓zq_ll1, ↓zq_lr0, ↓zq_lr1, ↓zk_0, ↓zk_1n, ↓zk_1i, ↓zk_1r, ↓zk_1l, ↓zk_2, zp_okt, ↓zp_okl, zp_sh0, zp_sh1, zp_psn, zp_pss, ↓zp_ri1, ↓zp_ri20, ↓zp_ri21, ↓zp_rl, ↓zp_ra, ↓zp_rv, ↓zp_br, ↓reduceIte, Nat.reduceAdd, Nat.zero_add, Nat.add_zero, Nat.le_refl, Nat.zero_le, ↓zx_aload_0, ↓zx_iconst, ↓zyp_6_0, ↓zx_iload_1, ↓zyc_160, ↓zy_if_eq, ↓zx_iload_2, ↓zy_i2l, ↓zx_lconst0, ↓zx_ldc2, ↓zyc_130, ↓zx_iload_3, ↓zy_if_ne, ↓zyc_126, ↓zx_iret, ↓zyg_6_3, ↓zy_ic_gt, ↓zy_if_gt, ↓zy_if_le, ↓zx_bipush, ↓zyc_142, ↓zy_istore, ↓zx_iload, ↓zy_iadd, ↓zy_ic_ge, ↓zy_imul, ↓zy_ic_ne, ↓zx_goto, ↓zy_iinc, ↓zyc_143, ↓zyg_6_12, ↓zyg_6_13, ↓zyc_131, ↓zy_dup2, ↓zyc_163, ↓zyc_169, ↓zyc_170, ↓zyc_136, ↓zya_21, ↓zya_22, ↓zya_24, ↓zya_26, ↓zya_27, ↓zya_30, ↓zya_32, ↓zya_33, ↓zyb_21, ↓zyb_22, ↓zyb_24, ↓zyb_26, ↓zyb_27, ↓zyb_30, ↓zyb_32, ↓zyb_33, ↓zpX_s, ↓zpX_n, z_i10, z_10, z_00, and_self, not_true_eq_false, not_false_eq_true, true_and, and_true, false_and, and_false, true_or, false_or, or_false, or_true, or_self, if_true, if_false, ite_self, ↓zs_72, zn_p0, zn_p1, zn_p2, zn_p3, zn_p4, zn_p5, zn_p6, zn_p7, zn_p8, zn_p13, zn_p88, zn_p891, zn_m2, zn_m3, zn_m8, zn_m17, zn_m29, zn_m88, zn_m891, zn_a2, zn_a3, zn_a6, zn_a8, zn_a18, zn_a66, zn_a88, zn_a211, zn_a891, zp_ri2i, nI_add, z_vr, nI_clamp, zn_w0, zn_w1, zn_w2, zn_w3, zn_w4, zn_w5, zn_t0, zn_t1, zn_t2, zn_t3, zn_t4, zn_t5, z_g_ss, zq_ss, e1, ↓zs_160, ↓zs_130, e_b, e_c, c00, ↓zs_126a]
end Mo25
