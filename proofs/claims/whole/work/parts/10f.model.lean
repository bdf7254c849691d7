/-! ===== THE MODEL: adjusting, ending ===== -/
section Mo6
variable {d r i k g s l t n2 : Nat} {m : zM} {Q : zQ} {v w a b c e f x y : Int32}
theorem zn_p9 {a : Nat} : nI a + 9 = nI (a + 9) := nI_add a 9
theorem zn_p10 {a : Nat} : nI a + 10 = nI (a + 10) := nI_add a 10
theorem zn_p11 {a : Nat} : nI a + 11 = nI (a + 11) := nI_add a 11
theorem zn_p12 {a : Nat} : nI a + 12 = nI (a + 12) := nI_add a 12
theorem mSk.line {M : zS} : mSk M (mLine M s) := fun _ _ => mLine_r
theorem mSk.hoS {p : Int32 × zS} {j : Nat} (h : mOrd p.2 s) (hj : j < 3) : mSk p.2 (mHoS l s j p).2 := by
  unfold mHoS
  rcases h j hj with h4 | ⟨g, hg, h4⟩
  · rw [if_pos h4]; exact .rf
  · rw [h4, nI_clamp (by omega)]
    split
    · exact .rf
    · split
      · exact .rf
      · exact .tr (.up (mSki_gu hg (by decide))) (.up (by rw [Nat.add_assoc]; exact mSki_ld (by omega) (by omega)))
theorem mSk.hold {M : zS} (hs : s < 6) (h : mOrd M s) : mSk M (mHold M l s a) := by
  have h1 := mHoS_o (l := l) (j := 0) (p := (a, M)) hs h (by decide)
  have h2 := mHoS_o (l := l) (j := 1) hs h1 (by decide)
  exact .tr (.tr (.tr (.tr (mSk.hoS (l := l) (j := 0) (p := (a, M)) h (by decide)) (mSk.hoS (l := l) (j := 1) h1 (by decide))) (mSk.hoS (l := l) (j := 2) h2 (by decide))) (.uj (M := (z_it (mHoS l s) 3 0 (a, M)).2))) .rf
theorem mSk.reS {o : Option Nat} {p : Int32 × zS} (h : mLok p.2) (hk : k < 4) : mSk p.2 (mReS l o k p).2 := by
  obtain ⟨g, hg, h4⟩ := h k hk
  have e : mG p.2 k = g := by unfold mG; rw [h4, nI_clamp (by omega)]
  have h1 : mSk p.2 (mTak l k p) := .up (by rw [e, Nat.add_assoc]; exact mSki_ld (by omega) (by omega))
  cases o with
  | none => exact .tr h1 (.up (by rw [e]; exact mSki_gu hg (by decide)))
  | some n => exact .tr h1 (.up (by rw [e, Nat.add_assoc]; exact mSki_ld (by omega) (by omega)))
theorem mSk.reG {o : Option Nat} : ∀ (n : Nat) (p : Int32 × zS), n ≤ 4 → mLok p.2 → mSk p.2 (mReG l o n p).2
  | 0, _, _, _ => .rf
  | n + 1, p, hn, h => .tr (mSk.reS h (by omega)) (mSk.reG n _ (by omega) (mReS_ok h))
theorem mSk.rel {M : zS} {o : Option Nat} (h : mOok M s) : mSk M (mRel M l s o a) := .tr (.tr .line (mSk.reG (l := l) (o := o) 4 (a, mLine M s) (by omega) (mLine_ok h))) (.uj (M := (mReG l o 4 (a, mLine M s)).2))
theorem mSk.owes {M : zS} (hg : g < 4) : mSk M (mOwes M g v) := .tr (.up (mSki_gu hg (by decide))) (.uj (M := z_uI M 22 0 (6 + 3 * g + 2) (z_I M 22 0 (6 + 3 * g + 2) + v)))
theorem mSk.duS {p : Int32 × zS} (h : mLok p.2) (hk : k < 4) : mSk p.2 (mDuS l k p).2 := by
  obtain ⟨g, hg, h4⟩ := h k hk
  have e : mG p.2 k = g := by unfold mG; rw [h4, nI_clamp (by omega)]
  have h1 : mSk p.2 (mTak l k p) := .up (by rw [e, Nat.add_assoc]; exact mSki_ld (by omega) (by omega))
  unfold mDuS
  rw [e]
  exact .tr (.tr h1 (.up (mSki_gu hg (by decide)))) (.owes hg)
theorem mSk.due {M : zS} (h : mOok M s) : mSk M (mDue M l s a) := by
  have : ∀ (n i : Nat) (p : Int32 × zS), i + n = 4 → mLok p.2 → mSk p.2 (z_it (mDuS l) n i p).2 := by
    intro n
    induction n with
    | zero => intro i p _ _; exact .rf
    | succ n ih => intro i p hi hp; exact .tr (.duS hp (by omega)) (ih (i + 1) _ (by omega) (mDuS_ok hp))
  exact .tr .line (this 4 0 (a, mLine M s) (by omega) (mLine_ok h))
-- adjusting
abbrev mMore (M : zS) (l : Nat) : Int32 := mNeed M l - mHeld M l
def mAdj (M : zS) (l s : Nat) : Bool × zS := if 0 ≤ mMore M l then (if mMore M l ≤ 0 then (true, M) else if mMore M l ≤ mFF M s then (true, mHold M l s (mMore M l)) else (false, M)) else (true, mRel M l s none (-(mMore M l)))
theorem mSk.adj {M : zS} (w : mWl M l s) : mSk M (mAdj M l s).2 := by
  unfold mAdj
  split
  · split
    · exact .rf
    · split
      · exact .hold w.hs w.hO.ord
      · exact .rf
  · exact .rel w.hO
set_option maxRecDepth 100000 in
set_option maxHeartbeats 4000000 in
theorem zs_165 (w : mWl (z_g m 1) l s) : z_call (d + 5) 165 [zr (some (6, 1, 0)), zi (nI l)] m Q = Q (some (zi (if (mAdj (z_g m 1) l s).1 = true then 1 else 0))) (z_s m 1 (mAdj (z_g m 1) l s).2) := by
  have h139 := fun Q => zs_139 (d := d) (m := m) (l := l) (Q := Q) w.hl w.hK
  have h166 := fun Q => zs_166 (d := d + 2) (m := m) (l := l) (Q := Q) w.hl
  have h145 := fun a Q => zs_145 (d := d) (m := m) (l := l) (s := s) (a := a) (Q := Q) w.hl w.hs w.hf w.hO.ord
  have h167 := fun a Q => zs_167 (d := d + 1) (m := m) (l := l) (s := s) (a := a) (o := none) (Q := Q) w.hl w.hs w.hf w.hO (fun n h => nomatch h)
  have e1 : oI none = -1 := rfl
  rw [e1] at h167
  unfold mAdj
  rcases Classical.em (0 ≤ mMore (z_g m 1) l) with h1 | h1
  · rcases Classical.em (mMore (z_g m 1) l ≤ 0) with h2 | h2
    · simp only [↓zen_165, ↓zu_165_0, ↓zu_165_24, ↓zu_165_37, ↓zu_165_41, ↓zu_165_42, ↓zx_nil, ↓zx_cons, ↓zp_li, ↓zp_ll, ↓zp_lr, ↓zq_li0, ↓zq_li1, ↓zq_ll0, ↓zq_ll1, ↓zq_lr0, ↓zq_lr1, ↓zk_0, ↓zk_1n, ↓zk_1i, ↓zk_1r, ↓zk_1l, ↓zk_2, zp_okt, ↓zp_okl, zp_sh0, zp_sh1, zp_psn, zp_pss, ↓zp_ri1, ↓zp_ri20, ↓zp_ri21, ↓zp_rl, ↓zp_ra, ↓zp_rv, ↓zp_br, ↓reduceIte, Nat.reduceAdd, Nat.zero_add, Nat.add_zero, Nat.le_refl, Nat.zero_le, ↓zx_aload_0, ↓zx_iload_1, ↓zyc_139, ↓zyc_166, ↓zy_isub, ↓zy_istore_2, ↓zx_iload_2, ↓zy_if_ge, ↓zy_ineg, ↓zx_iconst, ↓zyc_167, ↓zy_if_le, ↓zyc_145, ↓zy_if_eq, ↓zx_goto, ↓zx_iret, z_i10, z_10, z_00, and_self, not_true_eq_false, not_false_eq_true, true_and, and_true, false_and, and_false, true_or, false_or, or_false, or_true, or_self, if_true, if_false, ite_self, ↓zs_72, zn_p0, zn_p1, zn_p2, zn_p3, zn_p4, zn_p5, zn_p6, zn_p7, zn_p8, zn_p13, zn_p88, zn_p891, zn_m2, zn_m3, zn_m8, zn_m17, zn_m29, zn_m88, zn_m891, zn_a2, zn_a3, zn_a6, zn_a8, zn_a18, zn_a66, zn_a88, zn_a211, zn_a891, zp_ri2i, nI_add, z_vr, nI_clamp, zn_w0, zn_w1, zn_w2, zn_w3, zn_w4, zn_w5, zn_t0, zn_t1, zn_t2, zn_t3, zn_t4, zn_t5, h139, h166, h1, h2, zq_id]
    · rcases Classical.em (mMore (z_g m 1) l ≤ mFF (z_g m 1) s) with h3 | h3
      · simp only [↓zen_165, ↓zu_165_0, ↓zu_165_24, ↓zu_165_37, ↓zu_165_41, ↓zu_165_42, ↓zx_nil, ↓zx_cons, ↓zp_li, ↓zp_ll, ↓zp_lr, ↓zq_li0, ↓zq_li1, ↓zq_ll0, ↓zq_ll1, ↓zq_lr0, ↓zq_lr1, ↓zk_0, ↓zk_1n, ↓zk_1i, ↓zk_1r, ↓zk_1l, ↓zk_2, zp_okt, ↓zp_okl, zp_sh0, zp_sh1, zp_psn, zp_pss, ↓zp_ri1, ↓zp_ri20, ↓zp_ri21, ↓zp_rl, ↓zp_ra, ↓zp_rv, ↓zp_br, ↓reduceIte, Nat.reduceAdd, Nat.zero_add, Nat.add_zero, Nat.le_refl, Nat.zero_le, ↓zx_aload_0, ↓zx_iload_1, ↓zyc_139, ↓zyc_166, ↓zy_isub, ↓zy_istore_2, ↓zx_iload_2, ↓zy_if_ge, ↓zy_ineg, ↓zx_iconst, ↓zyc_167, ↓zy_if_le, ↓zyc_145, ↓zy_if_eq, ↓zx_goto, ↓zx_iret, z_i10, z_10, z_00, and_self, not_true_eq_false, not_false_eq_true, true_and, and_true, false_and, and_false, true_or, false_or, or_false, or_true, or_self, if_true, if_false, ite_self, ↓zs_72, zn_p0, zn_p1, zn_p2, zn_p3, zn_p4, zn_p5, zn_p6, zn_p7, zn_p8, zn_p13, zn_p88, zn_p891, zn_m2, zn_m3, zn_m8, zn_m17, zn_m29, zn_m88, zn_m891, zn_a2, zn_a3, zn_a6, zn_a8, zn_a18, zn_a66, zn_a88, zn_a211, zn_a891, zp_ri2i, nI_add, z_vr, nI_clamp, zn_w0, zn_w1, zn_w2, zn_w3, zn_w4, zn_w5, zn_t0, zn_t1, zn_t2, zn_t3, zn_t4, zn_t5, h139, h166, h145, h1, h2, h3]
      · simp only [↓zen_165, ↓zu_165_0, ↓zu_165_24, ↓zu_165_37, ↓zu_165_41, ↓zu_165_42, ↓zx_nil, ↓zx_cons, ↓zp_li, ↓zp_ll, ↓zp_lr, ↓zq_li0, ↓zq_li1, ↓zq_ll0, ↓zq_ll1, ↓zq_lr0, ↓zq_lr1, ↓zk_0, ↓zk_1n, ↓zk_1i, ↓zk_1r, ↓zk_1l, ↓zk_2, zp_okt, ↓zp_okl, zp_sh0, zp_sh1, zp_psn, zp_pss, ↓zp_ri1, ↓zp_ri20, ↓zp_ri21, ↓zp_rl, ↓zp_ra, ↓zp_rv, ↓zp_br, ↓reduceIte, Nat.reduceAdd, Nat.zero_add, Nat.add_zero, Nat.le_refl, Nat.zero_le, ↓zx_aload_0, ↓zx_iload_1, ↓zyc_139, ↓zyc_166, ↓zy_isub, ↓zy_istore_2, ↓zx_iload_2, ↓zy_if_ge, ↓zy_ineg, ↓zx_iconst, ↓zyc_167, ↓zy_if_le, ↓zyc_145, ↓zy_if_eq, ↓zx_goto, ↓zx_iret, z_i10, z_10, z_00, and_self, not_true_eq_false, not_false_eq_true, true_and, and_true, false_and, and_false, true_or, false_or, or_false, or_true, or_self, if_true, if_false, ite_self, ↓zs_72, zn_p0, zn_p1, zn_p2, zn_p3, zn_p4, zn_p5, zn_p6, zn_p7, zn_p8, zn_p13, zn_p88, zn_p891, zn_m2, zn_m3, zn_m8, zn_m17, zn_m29, zn_m88, zn_m891, zn_a2, zn_a3, zn_a6, zn_a8, zn_a18, zn_a66, zn_a88, zn_a211, zn_a891, zp_ri2i, nI_add, z_vr, nI_clamp, zn_w0, zn_w1, zn_w2, zn_w3, zn_w4, zn_w5, zn_t0, zn_t1, zn_t2, zn_t3, zn_t4, zn_t5, h139, h166, h145, h1, h2, h3, Bool.false_eq_true, zq_id]
  · have h2 : mMore (z_g m 1) l ≤ 0 := by
      rw [Int32.not_le] at h1
      exact Int32.le_of_lt h1
    simp only [↓zen_165, ↓zu_165_0, ↓zu_165_24, ↓zu_165_37, ↓zu_165_41, ↓zu_165_42, ↓zx_nil, ↓zx_cons, ↓zp_li, ↓zp_ll, ↓zp_lr, ↓zq_li0, ↓zq_li1, ↓zq_ll0, ↓zq_ll1, ↓zq_lr0, ↓zq_lr1, ↓zk_0, ↓zk_1n, ↓zk_1i, ↓zk_1r, ↓zk_1l, ↓zk_2, zp_okt, ↓zp_okl, zp_sh0, zp_sh1, zp_psn, zp_pss, ↓zp_ri1, ↓zp_ri20, ↓zp_ri21, ↓zp_rl, ↓zp_ra, ↓zp_rv, ↓zp_br, ↓reduceIte, Nat.reduceAdd, Nat.zero_add, Nat.add_zero, Nat.le_refl, Nat.zero_le, ↓zx_aload_0, ↓zx_iload_1, ↓zyc_139, ↓zyc_166, ↓zy_isub, ↓zy_istore_2, ↓zx_iload_2, ↓zy_if_ge, ↓zy_ineg, ↓zx_iconst, ↓zyc_167, ↓zy_if_le, ↓zyc_145, ↓zy_if_eq, ↓zx_goto, ↓zx_iret, z_i10, z_10, z_00, and_self, not_true_eq_false, not_false_eq_true, true_and, and_true, false_and, and_false, true_or, false_or, or_false, or_true, or_self, if_true, if_false, ite_self, ↓zs_72, zn_p0, zn_p1, zn_p2, zn_p3, zn_p4, zn_p5, zn_p6, zn_p7, zn_p8, zn_p13, zn_p88, zn_p891, zn_m2, zn_m3, zn_m8, zn_m17, zn_m29, zn_m88, zn_m891, zn_a2, zn_a3, zn_a6, zn_a8, zn_a18, zn_a66, zn_a88, zn_a211, zn_a891, zp_ri2i, nI_add, z_vr, nI_clamp, zn_w0, zn_w1, zn_w2, zn_w3, zn_w4, zn_w5, zn_t0, zn_t1, zn_t2, zn_t3, zn_t4, zn_t5, h139, h166, h167, h1, h2]
-- something comes
abbrev mCom1 (M : zS) (l t k : Nat) (v : Int32) : zS := z_uI (z_uI M 22 0 (18 + 8 * t + k) (z_I M 22 0 (18 + 8 * t + k) + v)) 22 0 (211 + 17 * l + 8) (z_I M 22 0 (211 + 17 * l + 8) + v)
def mComes (M : zS) (l s : Nat) (v : Int32) : zS := (mAdj (mCom1 M l (mTo M l) (mKd M l) v) l s).2
theorem mSk.com1 {M : zS} (ht : t < 6) (hk : k < 5) : mSk M (mCom1 M l t k v) := .tr (.up (mSki_sr ht hk)) (.up (mSki_ld (by decide) (by decide)))
theorem mSk.comes {M : zS} (w : mWl M l s) (ht : z_nn (z_I M 22 0 (211 + 17 * l + 1)) 5) : mSk M (mComes M l s v) := by
  have h1 : mSk M (mCom1 M l (mTo M l) (mKd M l) v) := .com1 (Nat.lt_of_le_of_lt ht.2 (by decide)) (Nat.lt_of_le_of_lt w.hK.1.2 (by decide))
  exact .tr h1 (.adj (h1.wl w))
set_option maxRecDepth 100000 in
set_option maxHeartbeats 4000000 in
theorem zs_181 (w : mWl (z_g m 1) l s) (ht : z_nn (z_I (z_g m 1) 22 0 (211 + 17 * l + 1)) 5) : z_call (d + 6) 181 [zr (some (6, 1, 0)), zi (nI l), zi v] m Q = Q none (z_s m 1 (mComes (z_g m 1) l s v)) := by
  have hl := w.hl
  have ht6 : mTo (z_g m 1) l < 6 := Nat.lt_of_le_of_lt ht.2 (by decide)
  have hk5 : mKd (z_g m 1) l < 5 := Nat.lt_of_le_of_lt w.hK.1.2 (by decide)
  have h178 := fun Q => zs_178 (d := d + 3) (m := m) (l := l) (t := mTo (z_g m 1) l) (k := mKd (z_g m 1) l) (Q := Q) hl ht.eq w.hK.1.eq
  have h165 := fun Q => zs_165 (d := d) (m := z_s m 1 (mCom1 (z_g m 1) l (mTo (z_g m 1) l) (mKd (z_g m 1) l) v)) (l := l) (s := s) (Q := Q) (by rw [z_g_ss]; exact (mSk.com1 ht6 hk5).wl w)
  rw [z_g_ss] at h165
  simp only [zq_ss] at h165
  generalize hT : mTo (z_g m 1) l = T at *
  generalize hKK : mKd (z_g m 1) l = KK at *
  unfold mComes
  rw [hT, hKK]
  simp (disch := omega) only [↓zen_181, ↓zu_181_0, ↓zx_nil, ↓zx_cons, ↓zp_li, ↓zp_ll, ↓zp_lr, ↓zq_li0, ↓zq_li1, ↓zq_ll0, ↓zq_ll1, ↓zq_lr0, ↓zq_lr1, ↓zk_0, ↓zk_1n, ↓zk_1i, ↓zk_1r, ↓zk_1l, ↓zk_2, zp_okt, ↓zp_okl, zp_sh0, zp_sh1, zp_psn, zp_pss, ↓zp_ri1, ↓zp_ri20, ↓zp_ri21, ↓zp_rl, ↓zp_ra, ↓zp_rv, ↓zp_br, ↓reduceIte, Nat.reduceAdd, Nat.zero_add, Nat.add_zero, Nat.le_refl, Nat.zero_le, ↓zx_aload_0, ↓zyg_6_3, ↓zx_iload_1, ↓zyc_178, ↓zy_dup2, ↓zx_iload_2, ↓zy_iadd, ↓zyc_138, ↓zx_bipush, ↓zyc_165, ↓zy_popi, ↓zy_popr, ↓zx_ret, ↓zya_21, ↓zya_22, ↓zya_24, ↓zya_26, ↓zya_27, ↓zya_30, ↓zya_32, ↓zya_33, ↓zyb_21, ↓zyb_22, ↓zyb_24, ↓zyb_26, ↓zyb_27, ↓zyb_30, ↓zyb_32, ↓zyb_33, z_i10, z_10, z_00, and_self, not_true_eq_false, not_false_eq_true, true_and, and_true, false_and, and_false, true_or, false_or, or_false, or_true, or_self, if_true, if_false, ite_self, ↓zs_72, zn_p0, zn_p1, zn_p2, zn_p3, zn_p4, zn_p5, zn_p6, zn_p7, zn_p8, zn_p13, zn_p88, zn_p891, zn_m2, zn_m3, zn_m8, zn_m17, zn_m29, zn_m88, zn_m891, zn_a2, zn_a3, zn_a6, zn_a8, zn_a18, zn_a66, zn_a88, zn_a211, zn_a891, zp_ri2i, nI_add, z_vr, nI_clamp, zn_w0, zn_w1, zn_w2, zn_w3, zn_w4, zn_w5, zn_t0, zn_t1, zn_t2, zn_t3, zn_t4, zn_t5, h178, ↓zs_138, z_g_ss, zq_ss, zn_un, h165]
-- ending
abbrev mEn1 (M : zS) (l : Nat) : zS := z_uI M 22 0 (211 + 17 * l + 10) (mRest M l)
abbrev mEn2 (M : zS) (l : Nat) (t : Int32) : zS := z_uI (mEn1 M l) 22 0 (211 + 17 * l + 11) (mMin (mAllow (mEn1 M l) (mKd M l) (z_I M 22 0 (211 + 17 * l + 3)) t) (mRest M l))
abbrev mEn3 (M : zS) (l : Nat) (t x : Int32) : zS := z_uI (mEn2 M l t) 22 0 (211 + 17 * l + 9) (mDuty (mEn2 M l t) l (mRest M l) t x)
abbrev mEn4 (M : zS) (l s : Nat) (t x : Int32) : zS := mDue (mEn3 M l t x) l s (z_I (mEn3 M l t x) 22 0 (211 + 17 * l + 9))
abbrev mEn5 (M : zS) (l s : Nat) (t x : Int32) : zS := mRel (mEn4 M l s t x) l s none (mHeld (mEn4 M l s t x) l)
def mEnds (M : zS) (l s : Nat) (t x v : Int32) : zS := z_uI (mEn5 M l s t x) 22 0 (211 + 17 * l + 6) v
theorem mSk.en3 {M : zS} : mSk M (mEn3 M l x y) := .tr (.tr (.up (mSki_ld (by decide) (by decide))) (.up (mSki_ld (by decide) (by decide)))) (.up (mSki_ld (by decide) (by decide)))
theorem mSk.en2 {M : zS} : mSk M (mEn2 M l x) := .tr (.up (mSki_ld (by decide) (by decide))) (.up (mSki_ld (by decide) (by decide)))
theorem mSk.en1 {M : zS} : mSk M (mEn1 M l) := .up (mSki_ld (by decide) (by decide))
theorem mSk.en4 {M : zS} (w : mWl M l s) : mSk M (mEn4 M l s x y) := .tr .en3 (.due (mSk.en3.wl w).hO)
theorem mSk.ends {M : zS} (w : mWl M l s) : mSk M (mEnds M l s x y v) := .tr (.tr (.en4 w) (.rel ((mSk.en4 w).wl w).hO)) (.up (mSki_ld (by decide) (by decide)))
set_option maxRecDepth 100000 in
set_option maxHeartbeats 4000000 in
theorem zs_183 {z : Int32} (w : mWl (z_g m 1) l s) : z_call (d + 4) 183 [zr (some (6, 1, 0)), zi (nI l), zi x, zi y, zi z] m Q = Q none (z_s m 1 (mEnds (z_g m 1) l s x y z)) := by
  have hl := w.hl
  have hk5 : mKd (z_g m 1) l < 5 := Nat.lt_of_le_of_lt w.hK.1.2 (by decide)
  have h184 := fun v w Q => zs_184 (d := d + 1) (m := z_s m 1 (mEn1 (z_g m 1) l)) (Q := Q) (k := mKd (z_g m 1) l) (v := v) (w := w) hk5
  have e : nI (mKd (z_g m 1) l) = z_I (z_g m 1) 22 0 (211 + 17 * l + 2) := w.hK.1.eq.symm
  rw [e, z_g_ss] at h184
  have w2 := (mSk.en2 (l := l) (x := x)).wl w
  have h185 := fun a b c Q => zs_185 (d := d) (m := z_s m 1 (mEn2 (z_g m 1) l x)) (Q := Q) (l := l) (x := a) (v := b) (y := c) hl (by rw [z_g_ss]; exact w2.hK)
  rw [z_g_ss] at h185
  have w3 := (mSk.en3 (l := l) (x := x) (y := y)).wl w
  have h186 := fun a Q => zs_186 (d := d) (m := z_s m 1 (mEn3 (z_g m 1) l x y)) (Q := Q) (l := l) (s := s) (a := a) hl w.hs (by rw [z_g_ss]; exact w3.hf) (by rw [z_g_ss]; exact w3.hO)
  rw [z_g_ss] at h186
  simp only [zq_ss] at h186
  have w4 := (mSk.en4 (x := x) (y := y) w).wl w
  have h166 := fun Q => zs_166 (d := d + 1) (m := z_s m 1 (mEn4 (z_g m 1) l s x y)) (l := l) (Q := Q) hl
  rw [z_g_ss] at h166
  have h167 := fun a Q => zs_167 (d := d) (m := z_s m 1 (mEn4 (z_g m 1) l s x y)) (l := l) (s := s) (a := a) (o := none) (Q := Q) hl w.hs (by rw [z_g_ss]; exact w4.hf) (by rw [z_g_ss]; exact w4.hO) (fun n h => nomatch h)
  have e1 : oI none = -1 := rfl
  rw [e1, z_g_ss] at h167
  simp only [zq_ss] at h167
  have e2 : z_I (mEn1 (z_g m 1) l) 22 0 (211 + 17 * l + 2) = z_I (z_g m 1) 22 0 (211 + 17 * l + 2) := zn_un (by omega)
  have e3 : z_I (mEn1 (z_g m 1) l) 22 0 (211 + 17 * l + 3) = z_I (z_g m 1) 22 0 (211 + 17 * l + 3) := zn_un (by omega)
  simp (disch := omega) only [↓zen_183, ↓zu_183_0, ↓zx_nil, ↓zx_cons, ↓zp_li, ↓zp_ll, ↓zp_lr, ↓zq_li0, ↓zq_li1, ↓zq_ll0, ↓zq_ll1, ↓zq_lr0, ↓zq_lr1, ↓zk_0, ↓zk_1n, ↓zk_1i, ↓zk_1r, ↓zk_1l, ↓zk_2, zp_okt, ↓zp_okl, zp_sh0, zp_sh1, zp_psn, zp_pss, ↓zp_ri1, ↓zp_ri20, ↓zp_ri21, ↓zp_rl, ↓zp_ra, ↓zp_rv, ↓zp_br, ↓reduceIte, Nat.reduceAdd, Nat.zero_add, Nat.add_zero, Nat.le_refl, Nat.zero_le, ↓zx_iload_1, ↓zyc_138, ↓zy_istore, ↓zx_aload_0, ↓zyc_140, ↓zyg_6_3, ↓zx_iload, ↓zx_bipush, ↓zy_iadd, ↓zx_iconst, ↓zx_iload_2, ↓zyc_184, ↓zyc_149, ↓zx_iload_3, ↓zyc_185, ↓zyc_186, ↓zyc_166, ↓zyc_167, ↓zx_ret, ↓zya_21, ↓zya_22, ↓zya_24, ↓zya_26, ↓zya_27, ↓zya_30, ↓zya_32, ↓zya_33, ↓zyb_21, ↓zyb_22, ↓zyb_24, ↓zyb_26, ↓zyb_27, ↓zyb_30, ↓zyb_32, ↓zyb_33, z_i10, z_10, z_00, and_self, not_true_eq_false, not_false_eq_true, true_and, and_true, false_and, and_false, true_or, false_or, or_false, or_true, or_self, if_true, if_false, ite_self, ↓zs_72, zn_p0, zn_p1, zn_p2, zn_p3, zn_p4, zn_p5, zn_p6, zn_p7, zn_p8, zn_p13, zn_p88, zn_p891, zn_m2, zn_m3, zn_m8, zn_m17, zn_m29, zn_m88, zn_m891, zn_a2, zn_a3, zn_a6, zn_a8, zn_a18, zn_a66, zn_a88, zn_a211, zn_a891, zp_ri2i, nI_add, z_vr, nI_clamp, zn_w0, zn_w1, zn_w2, zn_w3, zn_w4, zn_w5, zn_t0, zn_t1, zn_t2, zn_t3, zn_t4, zn_t5, zn_p9, zn_p10, zn_p11, ↓zs_138, ↓zs_140, ↓zs_149, z_g_ss, zq_ss, e2, e3, h184, h185, h186, h166, h167]
  rfl
end Mo6
