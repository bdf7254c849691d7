/-! ===== THE MODEL: going, laying an order ===== -/
section Mo13
variable {d r i k g s l t q : Nat} {m : zM} {Q : zQ} {v w a b c e f x y : Int32}
theorem mNext_lt {M : zS} {o : Option Nat} {b : Nat} (h : mNext M v w o = some b) : b < mN M := by
  have : ∀ (n i : Nat) (p : Option Nat), (∀ b, p = some b → b < i) → ∀ b, z_it (mNxS M v w o) n i p = some b → b < i + n := by
    intro n
    induction n with
    | zero => intro i p hp b hb; exact hp b hb
    | succ n ih =>
      intro i p hp b hb
      have h := ih (i + 1) (mNxS M v w o i p) (fun b hb => by
        unfold mNxS at hb
        split at hb
        · cases hb; omega
        · have := hp b hb; omega) b hb
      omega
  have h := this (mN M) 0 none (fun b h => nomatch h) b h
  omega
def mGoing (M : zS) : Nat → Option Nat → Option Nat
  | 0, o => o
  | _ + 1, none => none
  | n + 1, some j => mGoing M n (mNext M (-1) 0 (some j))
set_option maxRecDepth 100000 in
set_option maxHeartbeats 4000000 in
theorem zl_208 {t : Nat} (ht : t < 2 ^ 31) (hB : z_nn (z_I (z_g m 1) 22 0 3) 40) : ∀ (n i : Nat) (o : Option Nat), i + n = t → (∀ b, o = some b → b < 40) → zW 208 (d + 4) Q 10 [some (zr (some (6, 1, 0))), some (zi (nI t)), some (zi (oI o)), some (zi (nI i))] [] m 0 = Q (some (zi (oI (mGoing (z_g m 1) n o)))) m := by
  intro n
  induction n with
  | zero =>
    intro i o hi ho
    have h1 := z_le1 (show t ≤ i by omega) (by omega)
    rw [zu_208_10]
    simp only [↓zu_208_34, ↓zx_nil, ↓zx_cons, ↓zp_li, ↓zp_ll, ↓zp_lr, ↓zq_li0, ↓zq_li1, ↓zq_ll0, ↓zq_ll1, ↓zq_lr0, ↓zq_lr1, ↓zk_0, ↓zk_1n, ↓zk_1i, ↓zk_1r, ↓zk_1l, ↓zk_2, zp_okt, ↓zp_okl, zp_sh0, zp_sh1, zp_psn, zp_pss, ↓zp_ri1, ↓zp_ri20, ↓zp_ri21, ↓zp_rl, ↓zp_ra, ↓zp_rv, ↓zp_br, ↓reduceIte, Nat.reduceAdd, Nat.zero_add, Nat.add_zero, Nat.le_refl, Nat.zero_le, ↓zx_aload_0, ↓zx_iconst, ↓zyc_189, ↓zy_istore_2, ↓zy_istore_3, ↓zx_iload_3, ↓zx_iload_1, ↓zy_ic_ge, ↓zx_iload_2, ↓zy_ic_eq, ↓zy_iinc, ↓zx_goto, ↓zx_iret, z_i10, z_10, z_00, and_self, not_true_eq_false, not_false_eq_true, true_and, and_true, false_and, and_false, true_or, false_or, or_false, or_true, or_self, if_true, if_false, ite_self, ↓zs_72, h1]
    rfl
  | succ n ih =>
    intro i o hi ho
    have h1 := z_le0 (show i < t by omega) (by omega)
    rw [zu_208_10]
    cases o with
    | none =>
      simp only [↓zu_208_34, ↓zx_nil, ↓zx_cons, ↓zp_li, ↓zp_ll, ↓zp_lr, ↓zq_li0, ↓zq_li1, ↓zq_ll0, ↓zq_ll1, ↓zq_lr0, ↓zq_lr1, ↓zk_0, ↓zk_1n, ↓zk_1i, ↓zk_1r, ↓zk_1l, ↓zk_2, zp_okt, ↓zp_okl, zp_sh0, zp_sh1, zp_psn, zp_pss, ↓zp_ri1, ↓zp_ri20, ↓zp_ri21, ↓zp_rl, ↓zp_ra, ↓zp_rv, ↓zp_br, ↓reduceIte, Nat.reduceAdd, Nat.zero_add, Nat.add_zero, Nat.le_refl, Nat.zero_le, ↓zx_aload_0, ↓zx_iconst, ↓zyc_189, ↓zy_istore_2, ↓zy_istore_3, ↓zx_iload_3, ↓zx_iload_1, ↓zy_ic_ge, ↓zx_iload_2, ↓zy_ic_eq, ↓zy_iinc, ↓zx_goto, ↓zx_iret, z_i10, z_10, z_00, and_self, not_true_eq_false, not_false_eq_true, true_and, and_true, false_and, and_false, true_or, false_or, or_false, or_true, or_self, if_true, if_false, ite_self, ↓zs_72, h1, oI, mGoing]
    | some j =>
      have hj := ho j rfl
      have h2 := zn_o1 hj
      have h189 := fun Q => zs_189 (d := d) (m := m) (v := -1) (w := 0) (o := some j) (Q := Q) hB ho
      have e : oI (some j) = nI j := rfl
      rw [e] at h189
      simp only [↓zx_nil, ↓zx_cons, ↓zp_li, ↓zp_ll, ↓zp_lr, ↓zq_li0, ↓zq_li1, ↓zq_ll0, ↓zq_ll1, ↓zq_lr0, ↓zq_lr1, ↓zk_0, ↓zk_1n, ↓zk_1i, ↓zk_1r, ↓zk_1l, ↓zk_2, zp_okt, ↓zp_okl, zp_sh0, zp_sh1, zp_psn, zp_pss, ↓zp_ri1, ↓zp_ri20, ↓zp_ri21, ↓zp_rl, ↓zp_ra, ↓zp_rv, ↓zp_br, ↓reduceIte, Nat.reduceAdd, Nat.zero_add, Nat.add_zero, Nat.le_refl, Nat.zero_le, ↓zx_aload_0, ↓zx_iconst, ↓zyc_189, ↓zy_istore_2, ↓zy_istore_3, ↓zx_iload_3, ↓zx_iload_1, ↓zy_ic_ge, ↓zx_iload_2, ↓zy_ic_eq, ↓zy_iinc, ↓zx_goto, ↓zx_iret, z_i10, z_10, z_00, and_self, not_true_eq_false, not_false_eq_true, true_and, and_true, false_and, and_false, true_or, false_or, or_false, or_true, or_self, if_true, if_false, ite_self, ↓zs_72, h1, h2, h189, e, nI_1]
      exact ih (i + 1) _ (by omega) (fun b hb => Nat.lt_of_lt_of_le (mNext_lt hb) hB.2)
set_option maxRecDepth 100000 in
set_option maxHeartbeats 4000000 in
theorem zs_208 {t : Nat} (ht : t < 2 ^ 31) (hB : z_nn (z_I (z_g m 1) 22 0 3) 40) : z_call (d + 5) 208 [zr (some (6, 1, 0)), zi (nI t)] m Q = Q (some (zi (oI (mGoing (z_g m 1) t (mNext (z_g m 1) (-1) 0 none))))) m := by
  have h189 := fun Q => zs_189 (d := d) (m := m) (v := -1) (w := 0) (o := none) (Q := Q) hB (fun b h => nomatch h)
  have e : oI none = -1 := rfl
  rw [e] at h189
  simp only [↓zen_208, ↓zu_208_0, ↓zu_208_34, ↓zx_nil, ↓zx_cons, ↓zp_li, ↓zp_ll, ↓zp_lr, ↓zq_li0, ↓zq_li1, ↓zq_ll0, ↓zq_ll1, ↓zq_lr0, ↓zq_lr1, ↓zk_0, ↓zk_1n, ↓zk_1i, ↓zk_1r, ↓zk_1l, ↓zk_2, zp_okt, ↓zp_okl, zp_sh0, zp_sh1, zp_psn, zp_pss, ↓zp_ri1, ↓zp_ri20, ↓zp_ri21, ↓zp_rl, ↓zp_ra, ↓zp_rv, ↓zp_br, ↓reduceIte, Nat.reduceAdd, Nat.zero_add, Nat.add_zero, Nat.le_refl, Nat.zero_le, ↓zx_aload_0, ↓zx_iconst, ↓zyc_189, ↓zy_istore_2, ↓zy_istore_3, ↓zx_iload_3, ↓zx_iload_1, ↓zy_ic_ge, ↓zx_iload_2, ↓zy_ic_eq, ↓zy_iinc, ↓zx_goto, ↓zx_iret, z_i10, z_10, z_00, and_self, not_true_eq_false, not_false_eq_true, true_and, and_true, false_and, and_false, true_or, false_or, or_false, or_true, or_self, if_true, if_false, ite_self, ↓zs_72, h189]
  exact zl_208 ht hB t 0 _ (by omega) (fun b hb => Nat.lt_of_lt_of_le (mNext_lt hb) hB.2)
-- an order is laid
def mLoG (a b c : Int32) (i : Nat) : Int32 := if i = 0 then a else if i = 1 then b else c
def mLoS (s : Nat) (a b c : Int32) (i : Nat) (p : Nat × zS) : Nat × zS := if mLoG a b c i = -1 then (p.1, z_uI p.2 22 0 (18 + 8 * s + 5 + i) (-1)) else (p.1 + 1, z_uI (z_uI p.2 22 0 (18 + 8 * s + 5 + i) (-1)) 22 0 (18 + 8 * s + 5 + p.1) (mLoG a b c i))
def mLayO (M : zS) (s : Nat) (a b c : Int32) : zS := (z_it (mLoS s a b c) 3 0 (0, M)).2
set_option maxRecDepth 100000 in
set_option maxHeartbeats 4000000 in
theorem zl_156 (hs : s < 6) : ∀ (n i : Nat) (p : Nat × zS) (o8 : Option zV), i + n = 3 → p.1 ≤ i → zW 156 d Q 14 [some (zr (some (6, 1, 0))), some (zi (nI s)), some (zi a), some (zi b), some (zi c), some (zi (nI (18 + 8 * s + 5))), some (zi (nI p.1)), some (zi (nI i)), o8] [] (z_s m 1 p.2) 0 = Q none (z_s m 1 (z_it (mLoS s a b c) n i p).2) := by
  intro n
  induction n with
  | zero =>
    intro i p o8 hi hp
    have h1 : (3 ≤ nI i) = True := z_le1 (a := 3) (by omega) (by omega)
    rw [zu_156_14]
    simp only [↓zu_156_81, ↓zx_nil, ↓zx_cons, ↓zp_li, ↓zp_ll, ↓zp_lr, ↓zq_li0, ↓zq_li1, ↓zq_ll0, ↓zq_ll1, ↓zq_lr0, ↓zq_lr1, ↓zk_0, ↓zk_1n, ↓zk_1i, ↓zk_1r, ↓zk_1l, ↓zk_2, zp_okt, ↓zp_okl, zp_sh0, zp_sh1, zp_psn, zp_pss, ↓zp_ri1, ↓zp_ri20, ↓zp_ri21, ↓zp_rl, ↓zp_ra, ↓zp_rv, ↓zp_br, ↓reduceIte, Nat.reduceAdd, Nat.zero_add, Nat.add_zero, Nat.le_refl, Nat.zero_le, ↓zx_iload_1, ↓zyc_147, ↓zx_iconst, ↓zy_iadd, ↓zy_istore, ↓zx_iload, ↓zy_ic_ge, ↓zy_if_ne, ↓zx_iload_2, ↓zx_goto, ↓zy_ic_ne, ↓zx_iload_3, ↓zx_aload_0, ↓zyg_6_3, ↓zy_ic_eq, ↓zy_iinc, ↓zx_ret, ↓zyb_21, ↓zyb_22, ↓zyb_24, ↓zyb_26, ↓zyb_27, ↓zyb_30, ↓zyb_32, ↓zyb_33, z_i10, z_10, z_00, and_self, not_true_eq_false, not_false_eq_true, true_and, and_true, false_and, and_false, true_or, false_or, or_false, or_true, or_self, if_true, if_false, ite_self, ↓zs_72, h1]
    rfl
  | succ n ih =>
    intro i p o8 hi hp
    have h1 : (3 ≤ nI i) = False := z_le0 (a := 3) (by omega) (by omega)
    have e0 : (nI i = 0) = (i = 0) := propext (nI_eq (b := 0) (by omega) (by decide))
    have e1 : (nI i = 1) = (i = 1) := propext (nI_eq (b := 1) (by omega) (by decide))
    have sA : zW 156 d Q 14 [some (zr (some (6, 1, 0))), some (zi (nI s)), some (zi a), some (zi b), some (zi c), some (zi (nI (18 + 8 * s + 5))), some (zi (nI p.1)), some (zi (nI i)), o8] [] (z_s m 1 p.2) 0 = zW 156 d Q 41 [some (zr (some (6, 1, 0))), some (zi (nI s)), some (zi a), some (zi b), some (zi c), some (zi (nI (18 + 8 * s + 5))), some (zi (nI p.1)), some (zi (nI i)), o8] [zi (mLoG a b c i)] (z_s m 1 p.2) 0 := by
      rw [zu_156_14]
      unfold mLoG
      rcases Classical.em (i = 0) with h2 | h2
      · have h2 := eq_true h2
        simp only [↓zu_156_29, ↓zu_156_39, ↓zx_nil, ↓zx_cons, ↓zp_li, ↓zp_ll, ↓zp_lr, ↓zq_li0, ↓zq_li1, ↓zq_ll0, ↓zq_ll1, ↓zq_lr0, ↓zq_lr1, ↓zk_0, ↓zk_1n, ↓zk_1i, ↓zk_1r, ↓zk_1l, ↓zk_2, zp_okt, ↓zp_okl, zp_sh0, zp_sh1, zp_psn, zp_pss, ↓zp_ri1, ↓zp_ri20, ↓zp_ri21, ↓zp_rl, ↓zp_ra, ↓zp_rv, ↓zp_br, ↓reduceIte, Nat.reduceAdd, Nat.zero_add, Nat.add_zero, Nat.le_refl, Nat.zero_le, ↓zx_iload_1, ↓zyc_147, ↓zx_iconst, ↓zy_iadd, ↓zy_istore, ↓zx_iload, ↓zy_ic_ge, ↓zy_if_ne, ↓zx_iload_2, ↓zx_goto, ↓zy_ic_ne, ↓zx_iload_3, ↓zx_aload_0, ↓zyg_6_3, ↓zy_ic_eq, ↓zy_iinc, ↓zx_ret, ↓zyb_21, ↓zyb_22, ↓zyb_24, ↓zyb_26, ↓zyb_27, ↓zyb_30, ↓zyb_32, ↓zyb_33, z_i10, z_10, z_00, and_self, not_true_eq_false, not_false_eq_true, true_and, and_true, false_and, and_false, true_or, false_or, or_false, or_true, or_self, if_true, if_false, ite_self, ↓zs_72, h1, e0, e1, h2]
      · rcases Classical.em (i = 1) with h3 | h3
        · have h3 := eq_true h3
          simp only [↓zu_156_29, ↓zu_156_39, ↓zx_nil, ↓zx_cons, ↓zp_li, ↓zp_ll, ↓zp_lr, ↓zq_li0, ↓zq_li1, ↓zq_ll0, ↓zq_ll1, ↓zq_lr0, ↓zq_lr1, ↓zk_0, ↓zk_1n, ↓zk_1i, ↓zk_1r, ↓zk_1l, ↓zk_2, zp_okt, ↓zp_okl, zp_sh0, zp_sh1, zp_psn, zp_pss, ↓zp_ri1, ↓zp_ri20, ↓zp_ri21, ↓zp_rl, ↓zp_ra, ↓zp_rv, ↓zp_br, ↓reduceIte, Nat.reduceAdd, Nat.zero_add, Nat.add_zero, Nat.le_refl, Nat.zero_le, ↓zx_iload_1, ↓zyc_147, ↓zx_iconst, ↓zy_iadd, ↓zy_istore, ↓zx_iload, ↓zy_ic_ge, ↓zy_if_ne, ↓zx_iload_2, ↓zx_goto, ↓zy_ic_ne, ↓zx_iload_3, ↓zx_aload_0, ↓zyg_6_3, ↓zy_ic_eq, ↓zy_iinc, ↓zx_ret, ↓zyb_21, ↓zyb_22, ↓zyb_24, ↓zyb_26, ↓zyb_27, ↓zyb_30, ↓zyb_32, ↓zyb_33, z_i10, z_10, z_00, and_self, not_true_eq_false, not_false_eq_true, true_and, and_true, false_and, and_false, true_or, false_or, or_false, or_true, or_self, if_true, if_false, ite_self, ↓zs_72, h1, e0, e1, h2, h3]
        · simp only [↓zu_156_29, ↓zu_156_39, ↓zx_nil, ↓zx_cons, ↓zp_li, ↓zp_ll, ↓zp_lr, ↓zq_li0, ↓zq_li1, ↓zq_ll0, ↓zq_ll1, ↓zq_lr0, ↓zq_lr1, ↓zk_0, ↓zk_1n, ↓zk_1i, ↓zk_1r, ↓zk_1l, ↓zk_2, zp_okt, ↓zp_okl, zp_sh0, zp_sh1, zp_psn, zp_pss, ↓zp_ri1, ↓zp_ri20, ↓zp_ri21, ↓zp_rl, ↓zp_ra, ↓zp_rv, ↓zp_br, ↓reduceIte, Nat.reduceAdd, Nat.zero_add, Nat.add_zero, Nat.le_refl, Nat.zero_le, ↓zx_iload_1, ↓zyc_147, ↓zx_iconst, ↓zy_iadd, ↓zy_istore, ↓zx_iload, ↓zy_ic_ge, ↓zy_if_ne, ↓zx_iload_2, ↓zx_goto, ↓zy_ic_ne, ↓zx_iload_3, ↓zx_aload_0, ↓zyg_6_3, ↓zy_ic_eq, ↓zy_iinc, ↓zx_ret, ↓zyb_21, ↓zyb_22, ↓zyb_24, ↓zyb_26, ↓zyb_27, ↓zyb_30, ↓zyb_32, ↓zyb_33, z_i10, z_10, z_00, and_self, not_true_eq_false, not_false_eq_true, true_and, and_true, false_and, and_false, true_or, false_or, or_false, or_true, or_self, if_true, if_false, ite_self, ↓zs_72, h1, e0, e1, h2, h3]
    rw [sA]
    have hp2 : (mLoS s a b c i p).1 ≤ i + 1 := by
      unfold mLoS
      split
      · show p.1 ≤ i + 1; omega
      · show p.1 + 1 ≤ i + 1; omega
    have ih := ih (i + 1) (mLoS s a b c i p) (some (zi (mLoG a b c i))) (by omega) hp2
    refine Eq.trans ?_ ih
    unfold mLoS
    rcases Classical.em (mLoG a b c i = -1) with h4 | h4
    · have h4 := eq_true h4
      simp (disch := omega) only [↓zu_156_41, ↓zu_156_75, ↓zx_nil, ↓zx_cons, ↓zp_li, ↓zp_ll, ↓zp_lr, ↓zq_li0, ↓zq_li1, ↓zq_ll0, ↓zq_ll1, ↓zq_lr0, ↓zq_lr1, ↓zk_0, ↓zk_1n, ↓zk_1i, ↓zk_1r, ↓zk_1l, ↓zk_2, zp_okt, ↓zp_okl, zp_sh0, zp_sh1, zp_psn, zp_pss, ↓zp_ri1, ↓zp_ri20, ↓zp_ri21, ↓zp_rl, ↓zp_ra, ↓zp_rv, ↓zp_br, ↓reduceIte, Nat.reduceAdd, Nat.zero_add, Nat.add_zero, Nat.le_refl, Nat.zero_le, ↓zx_iload_1, ↓zyc_147, ↓zx_iconst, ↓zy_iadd, ↓zy_istore, ↓zx_iload, ↓zy_ic_ge, ↓zy_if_ne, ↓zx_iload_2, ↓zx_goto, ↓zy_ic_ne, ↓zx_iload_3, ↓zx_aload_0, ↓zyg_6_3, ↓zy_ic_eq, ↓zy_iinc, ↓zx_ret, ↓zyb_21, ↓zyb_22, ↓zyb_24, ↓zyb_26, ↓zyb_27, ↓zyb_30, ↓zyb_32, ↓zyb_33, z_i10, z_10, z_00, and_self, not_true_eq_false, not_false_eq_true, true_and, and_true, false_and, and_false, true_or, false_or, or_false, or_true, or_self, if_true, if_false, ite_self, ↓zs_72, zn_p0, zn_p1, zn_p2, zn_p3, zn_p4, zn_p5, zn_p6, zn_p7, zn_p8, zn_p13, zn_p88, zn_p891, zn_m2, zn_m3, zn_m8, zn_m17, zn_m29, zn_m88, zn_m891, zn_a2, zn_a3, zn_a6, zn_a8, zn_a18, zn_a66, zn_a88, zn_a211, zn_a891, zp_ri2i, nI_add, z_vr, nI_clamp, zn_w0, zn_w1, zn_w2, zn_w3, zn_w4, zn_w5, zn_t0, zn_t1, zn_t2, zn_t3, zn_t4, zn_t5, h4, z_g_ss, zq_ss]
    · simp (disch := omega) only [↓zu_156_41, ↓zu_156_75, ↓zx_nil, ↓zx_cons, ↓zp_li, ↓zp_ll, ↓zp_lr, ↓zq_li0, ↓zq_li1, ↓zq_ll0, ↓zq_ll1, ↓zq_lr0, ↓zq_lr1, ↓zk_0, ↓zk_1n, ↓zk_1i, ↓zk_1r, ↓zk_1l, ↓zk_2, zp_okt, ↓zp_okl, zp_sh0, zp_sh1, zp_psn, zp_pss, ↓zp_ri1, ↓zp_ri20, ↓zp_ri21, ↓zp_rl, ↓zp_ra, ↓zp_rv, ↓zp_br, ↓reduceIte, Nat.reduceAdd, Nat.zero_add, Nat.add_zero, Nat.le_refl, Nat.zero_le, ↓zx_iload_1, ↓zyc_147, ↓zx_iconst, ↓zy_iadd, ↓zy_istore, ↓zx_iload, ↓zy_ic_ge, ↓zy_if_ne, ↓zx_iload_2, ↓zx_goto, ↓zy_ic_ne, ↓zx_iload_3, ↓zx_aload_0, ↓zyg_6_3, ↓zy_ic_eq, ↓zy_iinc, ↓zx_ret, ↓zyb_21, ↓zyb_22, ↓zyb_24, ↓zyb_26, ↓zyb_27, ↓zyb_30, ↓zyb_32, ↓zyb_33, z_i10, z_10, z_00, and_self, not_true_eq_false, not_false_eq_true, true_and, and_true, false_and, and_false, true_or, false_or, or_false, or_true, or_self, if_true, if_false, ite_self, ↓zs_72, zn_p0, zn_p1, zn_p2, zn_p3, zn_p4, zn_p5, zn_p6, zn_p7, zn_p8, zn_p13, zn_p88, zn_p891, zn_m2, zn_m3, zn_m8, zn_m17, zn_m29, zn_m88, zn_m891, zn_a2, zn_a3, zn_a6, zn_a8, zn_a18, zn_a66, zn_a88, zn_a211, zn_a891, zp_ri2i, nI_add, z_vr, nI_clamp, zn_w0, zn_w1, zn_w2, zn_w3, zn_w4, zn_w5, zn_t0, zn_t1, zn_t2, zn_t3, zn_t4, zn_t5, h4, z_g_ss, zq_ss]
set_option maxRecDepth 100000 in
set_option maxHeartbeats 4000000 in
theorem zs_156 (hs : s < 6) : z_call (d + 2) 156 [zr (some (6, 1, 0)), zi (nI s), zi a, zi b, zi c] m Q = Q none (z_s m 1 (mLayO (z_g m 1) s a b c)) := by
  have ha := zl_156 (d := d + 1) (m := m) (Q := Q) (a := a) (b := b) (c := c) hs 3 0 (0, z_g m 1) none (by omega) (by omega)
  rw [zq_id] at ha
  simp only [↓zen_156, ↓zu_156_0, ↓zu_156_29, ↓zu_156_39, ↓zu_156_41, ↓zu_156_75, ↓zu_156_81, ↓zx_nil, ↓zx_cons, ↓zp_li, ↓zp_ll, ↓zp_lr, ↓zq_li0, ↓zq_li1, ↓zq_ll0, ↓zq_ll1, ↓zq_lr0, ↓zq_lr1, ↓zk_0, ↓zk_1n, ↓zk_1i, ↓zk_1r, ↓zk_1l, ↓zk_2, zp_okt, ↓zp_okl, zp_sh0, zp_sh1, zp_psn, zp_pss, ↓zp_ri1, ↓zp_ri20, ↓zp_ri21, ↓zp_rl, ↓zp_ra, ↓zp_rv, ↓zp_br, ↓reduceIte, Nat.reduceAdd, Nat.zero_add, Nat.add_zero, Nat.le_refl, Nat.zero_le, ↓zx_iload_1, ↓zyc_147, ↓zx_iconst, ↓zy_iadd, ↓zy_istore, ↓zx_iload, ↓zy_ic_ge, ↓zy_if_ne, ↓zx_iload_2, ↓zx_goto, ↓zy_ic_ne, ↓zx_iload_3, ↓zx_aload_0, ↓zyg_6_3, ↓zy_ic_eq, ↓zy_iinc, ↓zx_ret, ↓zyb_21, ↓zyb_22, ↓zyb_24, ↓zyb_26, ↓zyb_27, ↓zyb_30, ↓zyb_32, ↓zyb_33, z_i10, z_10, z_00, and_self, not_true_eq_false, not_false_eq_true, true_and, and_true, false_and, and_false, true_or, false_or, or_false, or_true, or_self, if_true, if_false, ite_self, ↓zs_72, ↓zs_147, zn_p0, zn_p1, zn_p2, zn_p3, zn_p4, zn_p5, zn_p6, zn_p7, zn_p8, zn_p13, zn_p88, zn_p891, zn_m2, zn_m3, zn_m8, zn_m17, zn_m29, zn_m88, zn_m891, zn_a2, zn_a3, zn_a6, zn_a8, zn_a18, zn_a66, zn_a88, zn_a211, zn_a891, zp_ri2i, nI_add, z_vr, nI_clamp, zn_w0, zn_w1, zn_w2, zn_w3, zn_w4, zn_w5, zn_t0, zn_t1, zn_t2, zn_t3, zn_t4, zn_t5]
  exact ha
end Mo13
