/-! ===== THE CLASS: a Book's loops that change ===== -/
section Bk2
variable {d r i k g s r2 i2 l : Nat} {m : zM} {Q : zQ} {v w a b c : Int32}
def cWLn (S : zS) (s : Nat) : Prop := ∀ i, i < 4 → vp_in (z_I S 16 s i) 4
def cMin (x y : Int32) : Int32 := if y < x then y else x
-- hold
def cHoldSt (l s : Nat) (i : Nat) (p : Int32 × zS) : Int32 × zS :=
  (p.1 - cMin p.1 (cFree p.2 (cLn p.2 s i)), z_uI (z_uI p.2 1 (cLn p.2 s i) 1 (z_I p.2 1 (cLn p.2 s i) 1 + cMin p.1 (cFree p.2 (cLn p.2 s i)))) 14 l (cLn p.2 s i) (z_I p.2 14 l (cLn p.2 s i) + cMin p.1 (cFree p.2 (cLn p.2 s i))))
set_option maxRecDepth 100000 in
set_option maxHeartbeats 4000000 in
theorem zl_9 {t : Nat} (ht2 : t ≤ 4) : ∀ (n i : Nat) (left : Int32) (S : zS) (e6 e7 : Option zV), z_I S 4 s 2 = nI t → cWLn S s → i + n = t → zW 9 (d + 1) Q 16 [some (zr (some (0, r, 0))), some (zr (some (3, r, l))), some (zi a), some (zr (some (4, r, s))), some (zi left), some (zi (nI i)), e6, e7] [] (z_s m r S) 0 = Q none (z_s m r (z_uJ (z_it (cHoldSt l s) n i (left, S)).2 3 l 13 (z_J (z_it (cHoldSt l s) n i (left, S)).2 3 l 13 + (a - (z_it (cHoldSt l s) n i (left, S)).1).toInt64))) := by
  intro n
  induction n with
  | zero =>
    intro i left S e6 e7 ht hl hi
    have h1 := z_le1 (show t ≤ i by omega) (by omega)
    rw [zu_9_16]
    simp only [↓zu_9_93, ↓zx_nil, ↓zx_cons, ↓zp_li, ↓zp_ll, ↓zp_lr, ↓zq_li0, ↓zq_li1, ↓zq_ll0, ↓zq_ll1, ↓zq_lr0, ↓zq_lr1, ↓zk_0, ↓zk_1n, ↓zk_1i, ↓zk_1r, ↓zk_1l, ↓zk_2, zp_okt, ↓zp_okl, zp_sh0, zp_sh1, zp_psn, zp_pss, ↓zp_ri1, ↓zp_ri20, ↓zp_ri21, ↓zp_rl, ↓zp_ra, ↓zp_rv, ↓zp_br, ↓reduceIte, Nat.reduceAdd, Nat.zero_add, Nat.add_zero, Nat.le_refl, Nat.zero_le, ↓zx_aload_0, ↓zyg_0_7, ↓zx_aload_1, ↓zyg_3_1, ↓zya_7, ↓zya_8, ↓zya_9, ↓zya_10, ↓zya_17, ↓zya_18, ↓zy_astore_3, ↓zx_iload_2, ↓zy_istore, ↓zx_iconst, ↓zx_iload, ↓zx_aload_3, ↓zyg_4_2, ↓zy_ic_ge, ↓zyg_0_6, ↓zyg_4_1, ↓zy_astore, ↓zx_aload, ↓zyc_47, ↓zy_min, ↓zy_dupi, ↓zy_dupr, ↓zyg_1_1, ↓zy_iadd, ↓zyp_1_1, ↓zyg_3_15, ↓zy_dup2, ↓zy_isub, ↓zy_iinc, ↓zx_goto, ↓zyg_3_13, ↓zy_i2l, ↓zy_ladd, ↓zyp_3_13, ↓zx_ret, ↓zya_11, ↓zya_14, ↓zya_15, ↓zya_16, ↓zyb_11, ↓zyb_14, ↓zyb_15, ↓zyb_16, z_g_ss, zq_ss, ht, h1, z_it]
  | succ n ih =>
    intro i left S e6 e7 ht hl hi
    have h1 := z_le0 (show i < t by omega) (by omega)
    have h2 := z_vi1 (show i < 4 by omega) (by decide)
    have h3 := nI_clamp (show i < 2 ^ 31 by omega)
    have h4 := eq_true (hl i (by omega))
    have h5 := ih (i + 1) (cHoldSt l s i (left, S)).1 (cHoldSt l s i (left, S)).2 (some (zr (some (1, r, cLn S s i)))) (some (zi (cMin left (cFree S (cLn S s i))))) (by simp [cHoldSt, z_I_u, ht]) (fun j hj => by simp [cHoldSt, z_I_u]; exact hl j hj) (by omega)
    rw [zu_9_16]
    simp only [↓zx_nil, ↓zx_cons, ↓zp_li, ↓zp_ll, ↓zp_lr, ↓zq_li0, ↓zq_li1, ↓zq_ll0, ↓zq_ll1, ↓zq_lr0, ↓zq_lr1, ↓zk_0, ↓zk_1n, ↓zk_1i, ↓zk_1r, ↓zk_1l, ↓zk_2, zp_okt, ↓zp_okl, zp_sh0, zp_sh1, zp_psn, zp_pss, ↓zp_ri1, ↓zp_ri20, ↓zp_ri21, ↓zp_rl, ↓zp_ra, ↓zp_rv, ↓zp_br, ↓reduceIte, Nat.reduceAdd, Nat.zero_add, Nat.add_zero, Nat.le_refl, Nat.zero_le, ↓zx_aload_0, ↓zyg_0_7, ↓zx_aload_1, ↓zyg_3_1, ↓zya_7, ↓zya_8, ↓zya_9, ↓zya_10, ↓zya_17, ↓zya_18, ↓zy_astore_3, ↓zx_iload_2, ↓zy_istore, ↓zx_iconst, ↓zx_iload, ↓zx_aload_3, ↓zyg_4_2, ↓zy_ic_ge, ↓zyg_0_6, ↓zyg_4_1, ↓zy_astore, ↓zx_aload, ↓zyc_47, ↓zy_min, ↓zy_dupi, ↓zy_dupr, ↓zyg_1_1, ↓zy_iadd, ↓zyp_1_1, ↓zyg_3_15, ↓zy_dup2, ↓zy_isub, ↓zy_iinc, ↓zx_goto, ↓zyg_3_13, ↓zy_i2l, ↓zy_ladd, ↓zyp_3_13, ↓zx_ret, ↓zya_11, ↓zya_14, ↓zya_15, ↓zya_16, ↓zyb_11, ↓zyb_14, ↓zyb_15, ↓zyb_16, z_g_ss, zq_ss, ht, h1, h2, h3, h4, true_and, nI_1, ↓zs_47, z_I_u, Nat.reduceEqDiff, false_and, if_false]
    rw [z_it, ← h5]
    rfl
def cHold (S : zS) (l : Nat) (a : Int32) : zS :=
  let s := (z_I S 3 l 1).toNatClampNeg
  let p := z_it (cHoldSt l s) (cOrd S s) 0 (a, S)
  z_uJ p.2 3 l 13 (z_J p.2 3 l 13 + (a - p.1).toInt64)
set_option maxRecDepth 100000 in
set_option maxHeartbeats 4000000 in
theorem zs_9 (hf : vp_in (z_I (z_g m r) 3 l 1) 6) (ho : z_nn (z_I (z_g m r) 4 (z_I (z_g m r) 3 l 1).toNatClampNeg 2) 4) (hl : cWLn (z_g m r) (z_I (z_g m r) 3 l 1).toNatClampNeg) : z_call (d + 2) 9 [zr (some (0, r, 0)), zr (some (3, r, l)), zi a] m Q = Q none (z_s m r (cHold (z_g m r) l a)) := by
  have h3 := zl_9 (d := d) (Q := Q) (r := r) (l := l) (a := a) (m := m) ho.2 (cOrd (z_g m r) (z_I (z_g m r) 3 l 1).toNatClampNeg) 0 a (z_g m r) none none ho.eq hl (by unfold cOrd; omega)
  rw [zq_id] at h3
  simp only [↓zen_9, ↓zu_9_0, ↓zx_nil, ↓zx_cons, ↓zp_li, ↓zp_ll, ↓zp_lr, ↓zq_li0, ↓zq_li1, ↓zq_ll0, ↓zq_ll1, ↓zq_lr0, ↓zq_lr1, ↓zk_0, ↓zk_1n, ↓zk_1i, ↓zk_1r, ↓zk_1l, ↓zk_2, zp_okt, ↓zp_okl, zp_sh0, zp_sh1, zp_psn, zp_pss, ↓zp_ri1, ↓zp_ri20, ↓zp_ri21, ↓zp_rl, ↓zp_ra, ↓zp_rv, ↓zp_br, ↓reduceIte, Nat.reduceAdd, Nat.zero_add, Nat.add_zero, Nat.le_refl, Nat.zero_le, ↓zx_aload_0, ↓zyg_0_7, ↓zx_aload_1, ↓zyg_3_1, ↓zya_7, ↓zya_8, ↓zya_9, ↓zya_10, ↓zya_17, ↓zya_18, ↓zy_astore_3, ↓zx_iload_2, ↓zy_istore, ↓zx_iconst, ↓zx_iload, ↓zx_aload_3, ↓zyg_4_2, ↓zy_ic_ge, ↓zyg_0_6, ↓zyg_4_1, ↓zy_astore, ↓zx_aload, ↓zyc_47, ↓zy_min, ↓zy_dupi, ↓zy_dupr, ↓zyg_1_1, ↓zy_iadd, ↓zyp_1_1, ↓zyg_3_15, ↓zy_dup2, ↓zy_isub, ↓zy_iinc, ↓zx_goto, ↓zyg_3_13, ↓zy_i2l, ↓zy_ladd, ↓zyp_3_13, ↓zx_ret, ↓zya_11, ↓zya_14, ↓zya_15, ↓zya_16, ↓zyb_11, ↓zyb_14, ↓zyb_15, ↓zyb_16, eq_true hf, true_and]
  exact h3
-- release
def cRelSt (l s : Nat) (i : Nat) (p : Int32 × zS) : Int32 × zS :=
  (p.1 - cMin p.1 (z_I p.2 14 l (cLn p.2 s i)), z_uI (z_uI p.2 1 (cLn p.2 s i) 1 (z_I p.2 1 (cLn p.2 s i) 1 - cMin p.1 (z_I p.2 14 l (cLn p.2 s i)))) 14 l (cLn p.2 s i) (z_I p.2 14 l (cLn p.2 s i) - cMin p.1 (z_I p.2 14 l (cLn p.2 s i))))
set_option maxRecDepth 100000 in
set_option maxHeartbeats 4000000 in
theorem zl_18 {S : zS} {left x : Int32} {j : Nat} {e6 : Option zV} (hx : (x < 0) = False) (hv : vp_in x 4 = True) (hj : x.toNatClampNeg = j) (h4 : vp_in (z_I S 16 s j) 4 = True) : zW 18 (d + 1) Q 16 [some (zr (some (0, r, 0))), some (zr (some (3, r, l))), some (zi a), some (zr (some (4, r, s))), some (zi left), some (zi x), e6] [] (z_s m r S) 0 = zW 18 (d + 1) Q 16 [some (zr (some (0, r, 0))), some (zr (some (3, r, l))), some (zi a), some (zr (some (4, r, s))), some (zi (cRelSt l s j (left, S)).1), some (zi (x + -1)), some (zi (cMin left (z_I S 14 l (cLn S s j))))] [] (z_s m r (cRelSt l s j (left, S)).2) 0 := by
  rw [zu_18_16]
  simp only [↓zx_nil, ↓zx_cons, ↓zp_li, ↓zp_ll, ↓zp_lr, ↓zq_li0, ↓zq_li1, ↓zq_ll0, ↓zq_ll1, ↓zq_lr0, ↓zq_lr1, ↓zk_0, ↓zk_1n, ↓zk_1i, ↓zk_1r, ↓zk_1l, ↓zk_2, zp_okt, ↓zp_okl, zp_sh0, zp_sh1, zp_psn, zp_pss, ↓zp_ri1, ↓zp_ri20, ↓zp_ri21, ↓zp_rl, ↓zp_ra, ↓zp_rv, ↓zp_br, ↓reduceIte, Nat.reduceAdd, Nat.zero_add, Nat.add_zero, Nat.le_refl, Nat.zero_le, ↓zx_aload_0, ↓zyg_0_7, ↓zx_aload_1, ↓zyg_3_1, ↓zya_7, ↓zya_8, ↓zya_9, ↓zya_10, ↓zya_17, ↓zya_18, ↓zy_astore_3, ↓zx_iload_2, ↓zy_istore, ↓zx_iconst, ↓zx_iload, ↓zy_if_lt, ↓zyg_3_15, ↓zx_aload_3, ↓zyg_4_1, ↓zy_min, ↓zyg_0_6, ↓zy_dupi, ↓zy_dupr, ↓zyg_1_1, ↓zy_isub, ↓zyp_1_1, ↓zy_dup2, ↓zy_iinc, ↓zx_goto, ↓zyg_3_14, ↓zy_i2l, ↓zy_ladd, ↓zyp_3_14, ↓zx_ret, ↓zya_11, ↓zya_14, ↓zya_15, ↓zya_16, ↓zyb_11, ↓zyb_14, ↓zyb_15, ↓zyb_16, z_g_ss, zq_ss, hx, hv, hj, h4, true_and, z_I_u, Nat.reduceEqDiff, false_and, if_false]
  rfl
theorem cRelSt_ln {l s s' i j : Nat} {p : Int32 × zS} : z_I (cRelSt l s i p).2 16 s' j = z_I p.2 16 s' j := by simp [cRelSt, z_I_u]
theorem z_n3 : ((3 : Int32) < 0) = False := by decide
theorem z_n2 : ((2 : Int32) < 0) = False := by decide
theorem z_n1 : ((1 : Int32) < 0) = False := by decide
theorem z_n0 : ((0 : Int32) < 0) = False := by decide
theorem z_ltm : ((-1 : Int32) < 0) = True := by decide
theorem z_d3 : (3 : Int32) + -1 = 2 := by decide
theorem z_d2 : (2 : Int32) + -1 = 1 := by decide
theorem z_d1 : (1 : Int32) + -1 = 0 := by decide
theorem z_d0 : (0 : Int32) + -1 = -1 := by decide
def cRel4 (S : zS) (l s : Nat) (a : Int32) : Int32 × zS := cRelSt l s 0 (cRelSt l s 1 (cRelSt l s 2 (cRelSt l s 3 (a, S))))
def cRel (S : zS) (l : Nat) (a : Int32) : zS :=
  let p := cRel4 S l (z_I S 3 l 1).toNatClampNeg a
  z_uJ p.2 3 l 14 (z_J p.2 3 l 14 + (a - p.1).toInt64)
set_option maxRecDepth 100000 in
set_option maxHeartbeats 4000000 in
theorem zs_18 (hf : vp_in (z_I (z_g m r) 3 l 1) 6) (hl : cWLn (z_g m r) (z_I (z_g m r) 3 l 1).toNatClampNeg) : z_call (d + 2) 18 [zr (some (0, r, 0)), zr (some (3, r, l)), zi a] m Q = Q none (z_s m r (cRel (z_g m r) l a)) := by
  simp only [↓zen_18, ↓zu_18_0, ↓zx_nil, ↓zx_cons, ↓zp_li, ↓zp_ll, ↓zp_lr, ↓zq_li0, ↓zq_li1, ↓zq_ll0, ↓zq_ll1, ↓zq_lr0, ↓zq_lr1, ↓zk_0, ↓zk_1n, ↓zk_1i, ↓zk_1r, ↓zk_1l, ↓zk_2, zp_okt, ↓zp_okl, zp_sh0, zp_sh1, zp_psn, zp_pss, ↓zp_ri1, ↓zp_ri20, ↓zp_ri21, ↓zp_rl, ↓zp_ra, ↓zp_rv, ↓zp_br, ↓reduceIte, Nat.reduceAdd, Nat.zero_add, Nat.add_zero, Nat.le_refl, Nat.zero_le, ↓zx_aload_0, ↓zyg_0_7, ↓zx_aload_1, ↓zyg_3_1, ↓zya_7, ↓zya_8, ↓zya_9, ↓zya_10, ↓zya_17, ↓zya_18, ↓zy_astore_3, ↓zx_iload_2, ↓zy_istore, ↓zx_iconst, ↓zx_iload, ↓zy_if_lt, ↓zyg_3_15, ↓zx_aload_3, ↓zyg_4_1, ↓zy_min, ↓zyg_0_6, ↓zy_dupi, ↓zy_dupr, ↓zyg_1_1, ↓zy_isub, ↓zyp_1_1, ↓zy_dup2, ↓zy_iinc, ↓zx_goto, ↓zyg_3_14, ↓zy_i2l, ↓zy_ladd, ↓zyp_3_14, ↓zx_ret, ↓zya_11, ↓zya_14, ↓zya_15, ↓zya_16, ↓zyb_11, ↓zyb_14, ↓zyb_15, ↓zyb_16, eq_true hf, true_and]
  unfold cRel cRel4
  generalize (z_I (z_g m r) 3 l 1).toNatClampNeg = s at hl ⊢
  have h3 := eq_true (hl 3 (by decide))
  have h2 := eq_true (hl 2 (by decide))
  have h1 := eq_true (hl 1 (by decide))
  have h0 := eq_true (hl 0 (by decide))
  rw [show zW 18 (d + 1) Q 16 [some (zr (some (0, r, 0))), some (zr (some (3, r, l))), some (zi a), some (zr (some (4, r, s))), some (zi a), some (zi 3), none] [] m 0 = zW 18 (d + 1) Q 16 [some (zr (some (0, r, 0))), some (zr (some (3, r, l))), some (zi a), some (zr (some (4, r, s))), some (zi a), some (zi 3), none] [] (z_s m r (z_g m r)) 0 by rw [zq_id]]
  generalize z_g m r = S at h0 h1 h2 h3 ⊢
  rw [zl_18 z_n3 z_v34 z_c3 h3, z_d3, zl_18 z_n2 z_v24 z_c2 (by rw [cRelSt_ln]; exact h2), z_d2, zl_18 z_n1 z_v14 z_c1' (by rw [cRelSt_ln, cRelSt_ln]; exact h1), z_d1, zl_18 z_n0 z_v04 z_c0 (by rw [cRelSt_ln, cRelSt_ln, cRelSt_ln]; exact h0), z_d0, zu_18_16]
  simp only [↓zu_18_92, ↓zx_nil, ↓zx_cons, ↓zp_li, ↓zp_ll, ↓zp_lr, ↓zq_li0, ↓zq_li1, ↓zq_ll0, ↓zq_ll1, ↓zq_lr0, ↓zq_lr1, ↓zk_0, ↓zk_1n, ↓zk_1i, ↓zk_1r, ↓zk_1l, ↓zk_2, zp_okt, ↓zp_okl, zp_sh0, zp_sh1, zp_psn, zp_pss, ↓zp_ri1, ↓zp_ri20, ↓zp_ri21, ↓zp_rl, ↓zp_ra, ↓zp_rv, ↓zp_br, ↓reduceIte, Nat.reduceAdd, Nat.zero_add, Nat.add_zero, Nat.le_refl, Nat.zero_le, ↓zx_aload_0, ↓zyg_0_7, ↓zx_aload_1, ↓zyg_3_1, ↓zya_7, ↓zya_8, ↓zya_9, ↓zya_10, ↓zya_17, ↓zya_18, ↓zy_astore_3, ↓zx_iload_2, ↓zy_istore, ↓zx_iconst, ↓zx_iload, ↓zy_if_lt, ↓zyg_3_15, ↓zx_aload_3, ↓zyg_4_1, ↓zy_min, ↓zyg_0_6, ↓zy_dupi, ↓zy_dupr, ↓zyg_1_1, ↓zy_isub, ↓zyp_1_1, ↓zy_dup2, ↓zy_iinc, ↓zx_goto, ↓zyg_3_14, ↓zy_i2l, ↓zy_ladd, ↓zyp_3_14, ↓zx_ret, ↓zya_11, ↓zya_14, ↓zya_15, ↓zya_16, ↓zyb_11, ↓zyb_14, ↓zyb_15, ↓zyb_16, z_ltm, z_g_ss, zq_ss]
-- what is held becomes due
def cDueSt (l s : Nat) (i : Nat) (p : Int32 × zS) : Int32 × zS :=
  (p.1 - cMin p.1 (z_I p.2 14 l (cLn p.2 s i)), cAddDue (z_uI (z_uI p.2 1 (cLn p.2 s i) 1 (z_I p.2 1 (cLn p.2 s i) 1 - cMin p.1 (z_I p.2 14 l (cLn p.2 s i)))) 14 l (cLn p.2 s i) (z_I p.2 14 l (cLn p.2 s i) - cMin p.1 (z_I p.2 14 l (cLn p.2 s i)))) (cLn p.2 s i) (cMin p.1 (z_I p.2 14 l (cLn p.2 s i))))
set_option maxRecDepth 100000 in
set_option maxHeartbeats 4000000 in
theorem zl_27 {S : zS} {left x : Int32} {j : Nat} {e6 e7 : Option zV} (hx : (4 ≤ x) = False) (hv : vp_in x 4 = True) (hj : x.toNatClampNeg = j) (h4 : vp_in (z_I S 16 s j) 4 = True) : zW 27 (d + 1) Q 16 [some (zr (some (0, r, 0))), some (zr (some (3, r, l))), some (zi a), some (zr (some (4, r, s))), some (zi left), some (zi x), e6, e7] [] (z_s m r S) 0 = zW 27 (d + 1) Q 16 [some (zr (some (0, r, 0))), some (zr (some (3, r, l))), some (zi a), some (zr (some (4, r, s))), some (zi (cDueSt l s j (left, S)).1), some (zi (x + 1)), some (zr (some (1, r, cLn S s j))), some (zi (cMin left (z_I S 14 l (cLn S s j))))] [] (z_s m r (cDueSt l s j (left, S)).2) 0 := by
  rw [zu_27_16]
  simp only [↓zx_nil, ↓zx_cons, ↓zp_li, ↓zp_ll, ↓zp_lr, ↓zq_li0, ↓zq_li1, ↓zq_ll0, ↓zq_ll1, ↓zq_lr0, ↓zq_lr1, ↓zk_0, ↓zk_1n, ↓zk_1i, ↓zk_1r, ↓zk_1l, ↓zk_2, zp_okt, ↓zp_okl, zp_sh0, zp_sh1, zp_psn, zp_pss, ↓zp_ri1, ↓zp_ri20, ↓zp_ri21, ↓zp_rl, ↓zp_ra, ↓zp_rv, ↓zp_br, ↓reduceIte, Nat.reduceAdd, Nat.zero_add, Nat.add_zero, Nat.le_refl, Nat.zero_le, ↓zx_aload_0, ↓zyg_0_7, ↓zx_aload_1, ↓zyg_3_1, ↓zya_7, ↓zya_8, ↓zya_9, ↓zya_10, ↓zya_17, ↓zya_18, ↓zy_astore_3, ↓zx_iload_2, ↓zy_istore, ↓zx_iconst, ↓zx_iload, ↓zy_ic_ge, ↓zyg_0_6, ↓zx_aload_3, ↓zyg_4_1, ↓zy_astore, ↓zyg_3_15, ↓zy_min, ↓zx_aload, ↓zy_dupi, ↓zy_dupr, ↓zyg_1_1, ↓zy_isub, ↓zyp_1_1, ↓zy_dup2, ↓zyc_48, ↓zy_iinc, ↓zx_goto, ↓zx_ret, ↓zya_11, ↓zya_14, ↓zya_15, ↓zya_16, ↓zyb_11, ↓zyb_14, ↓zyb_15, ↓zyb_16, z_g_ss, zq_ss, hx, hv, hj, h4, true_and, z_I_u, Nat.reduceEqDiff, false_and, if_false, ↓zs_48]
  rfl
theorem cDueSt_ln {l s s' i j : Nat} {p : Int32 × zS} : z_I (cDueSt l s i p).2 16 s' j = z_I p.2 16 s' j := by simp [cDueSt, cAddDue, z_I_u, z_I_uJ]
def cMakeDue (S : zS) (l : Nat) (a : Int32) : zS :=
  let s := (z_I S 3 l 1).toNatClampNeg
  (cDueSt l s 3 (cDueSt l s 2 (cDueSt l s 1 (cDueSt l s 0 (a, S))))).2
set_option maxRecDepth 100000 in
set_option maxHeartbeats 4000000 in
theorem zs_27 (hf : vp_in (z_I (z_g m r) 3 l 1) 6) (hl : cWLn (z_g m r) (z_I (z_g m r) 3 l 1).toNatClampNeg) : z_call (d + 2) 27 [zr (some (0, r, 0)), zr (some (3, r, l)), zi a] m Q = Q none (z_s m r (cMakeDue (z_g m r) l a)) := by
  simp only [↓zen_27, ↓zu_27_0, ↓zx_nil, ↓zx_cons, ↓zp_li, ↓zp_ll, ↓zp_lr, ↓zq_li0, ↓zq_li1, ↓zq_ll0, ↓zq_ll1, ↓zq_lr0, ↓zq_lr1, ↓zk_0, ↓zk_1n, ↓zk_1i, ↓zk_1r, ↓zk_1l, ↓zk_2, zp_okt, ↓zp_okl, zp_sh0, zp_sh1, zp_psn, zp_pss, ↓zp_ri1, ↓zp_ri20, ↓zp_ri21, ↓zp_rl, ↓zp_ra, ↓zp_rv, ↓zp_br, ↓reduceIte, Nat.reduceAdd, Nat.zero_add, Nat.add_zero, Nat.le_refl, Nat.zero_le, ↓zx_aload_0, ↓zyg_0_7, ↓zx_aload_1, ↓zyg_3_1, ↓zya_7, ↓zya_8, ↓zya_9, ↓zya_10, ↓zya_17, ↓zya_18, ↓zy_astore_3, ↓zx_iload_2, ↓zy_istore, ↓zx_iconst, ↓zx_iload, ↓zy_ic_ge, ↓zyg_0_6, ↓zx_aload_3, ↓zyg_4_1, ↓zy_astore, ↓zyg_3_15, ↓zy_min, ↓zx_aload, ↓zy_dupi, ↓zy_dupr, ↓zyg_1_1, ↓zy_isub, ↓zyp_1_1, ↓zy_dup2, ↓zyc_48, ↓zy_iinc, ↓zx_goto, ↓zx_ret, ↓zya_11, ↓zya_14, ↓zya_15, ↓zya_16, ↓zyb_11, ↓zyb_14, ↓zyb_15, ↓zyb_16, eq_true hf, true_and]
  unfold cMakeDue
  generalize (z_I (z_g m r) 3 l 1).toNatClampNeg = s at hl ⊢
  have h3 := eq_true (hl 3 (by decide))
  have h2 := eq_true (hl 2 (by decide))
  have h1 := eq_true (hl 1 (by decide))
  have h0 := eq_true (hl 0 (by decide))
  rw [show zW 27 (d + 1) Q 16 [some (zr (some (0, r, 0))), some (zr (some (3, r, l))), some (zi a), some (zr (some (4, r, s))), some (zi a), some (zi 0), none, none] [] m 0 = zW 27 (d + 1) Q 16 [some (zr (some (0, r, 0))), some (zr (some (3, r, l))), some (zi a), some (zr (some (4, r, s))), some (zi a), some (zi 0), none, none] [] (z_s m r (z_g m r)) 0 by rw [zq_id]]
  generalize z_g m r = S at h0 h1 h2 h3 ⊢
  rw [zl_27 z_40 z_v04 z_c0 h0, z_01, zl_27 z_41 z_v14 z_c1' (by rw [cDueSt_ln]; exact h1), z_12, zl_27 z_42 z_v24 z_c2 (by rw [cDueSt_ln, cDueSt_ln]; exact h2), z_23, zl_27 z_43 z_v34 z_c3 (by rw [cDueSt_ln, cDueSt_ln, cDueSt_ln]; exact h3), z_34, zu_27_16]
  simp only [↓zu_27_104, ↓zx_nil, ↓zx_cons, ↓zp_li, ↓zp_ll, ↓zp_lr, ↓zq_li0, ↓zq_li1, ↓zq_ll0, ↓zq_ll1, ↓zq_lr0, ↓zq_lr1, ↓zk_0, ↓zk_1n, ↓zk_1i, ↓zk_1r, ↓zk_1l, ↓zk_2, zp_okt, ↓zp_okl, zp_sh0, zp_sh1, zp_psn, zp_pss, ↓zp_ri1, ↓zp_ri20, ↓zp_ri21, ↓zp_rl, ↓zp_ra, ↓zp_rv, ↓zp_br, ↓reduceIte, Nat.reduceAdd, Nat.zero_add, Nat.add_zero, Nat.le_refl, Nat.zero_le, ↓zx_aload_0, ↓zyg_0_7, ↓zx_aload_1, ↓zyg_3_1, ↓zya_7, ↓zya_8, ↓zya_9, ↓zya_10, ↓zya_17, ↓zya_18, ↓zy_astore_3, ↓zx_iload_2, ↓zy_istore, ↓zx_iconst, ↓zx_iload, ↓zy_ic_ge, ↓zyg_0_6, ↓zx_aload_3, ↓zyg_4_1, ↓zy_astore, ↓zyg_3_15, ↓zy_min, ↓zx_aload, ↓zy_dupi, ↓zy_dupr, ↓zyg_1_1, ↓zy_isub, ↓zyp_1_1, ↓zy_dup2, ↓zyc_48, ↓zy_iinc, ↓zx_goto, ↓zx_ret, ↓zya_11, ↓zya_14, ↓zya_15, ↓zya_16, ↓zyb_11, ↓zyb_14, ↓zyb_15, ↓zyb_16, z_44, z_g_ss, zq_ss]
-- due at once
def cOnceSt (s : Nat) (i : Nat) (p : Int32 × zS) : Int32 × zS := (p.1 - cMin p.1 (cFree p.2 (cLn p.2 s i)), cAddDue p.2 (cLn p.2 s i) (cMin p.1 (cFree p.2 (cLn p.2 s i))))
set_option maxRecDepth 100000 in
set_option maxHeartbeats 4000000 in
theorem zl_34 {t : Nat} (ht2 : t ≤ 4) : ∀ (n i : Nat) (left : Int32) (S : zS) (e5 e6 : Option zV), z_I S 4 s 2 = nI t → cWLn S s → i + n = t → zW 34 (d + 1) Q 5 [some (zr (some (0, r, 0))), some (zr (some (4, r, s))), some (zi a), some (zi left), some (zi (nI i)), e5, e6] [] (z_s m r S) 0 = Q none (z_s m r (z_it (cOnceSt s) n i (left, S)).2) := by
  intro n
  induction n with
  | zero =>
    intro i left S e5 e6 ht hl hi
    have h1 := z_le1 (show t ≤ i by omega) (by omega)
    rw [zu_34_5]
    simp only [↓zu_34_57, ↓zx_nil, ↓zx_cons, ↓zp_li, ↓zp_ll, ↓zp_lr, ↓zq_li0, ↓zq_li1, ↓zq_ll0, ↓zq_ll1, ↓zq_lr0, ↓zq_lr1, ↓zk_0, ↓zk_1n, ↓zk_1i, ↓zk_1r, ↓zk_1l, ↓zk_2, zp_okt, ↓zp_okl, zp_sh0, zp_sh1, zp_psn, zp_pss, ↓zp_ri1, ↓zp_ri20, ↓zp_ri21, ↓zp_rl, ↓zp_ra, ↓zp_rv, ↓zp_br, ↓reduceIte, Nat.reduceAdd, Nat.zero_add, Nat.add_zero, Nat.le_refl, Nat.zero_le, ↓zx_iload_2, ↓zy_istore_3, ↓zx_iconst, ↓zy_istore, ↓zx_iload, ↓zx_aload_1, ↓zyg_4_2, ↓zy_ic_ge, ↓zx_aload_0, ↓zyg_0_6, ↓zyg_4_1, ↓zya_7, ↓zya_8, ↓zya_9, ↓zya_10, ↓zya_17, ↓zya_18, ↓zy_astore, ↓zx_iload_3, ↓zx_aload, ↓zyc_47, ↓zy_min, ↓zyc_48, ↓zy_isub, ↓zy_iinc, ↓zx_goto, ↓zx_ret, ↓zya_11, ↓zya_14, ↓zya_15, ↓zya_16, z_g_ss, zq_ss, ht, h1, z_it]
  | succ n ih =>
    intro i left S e5 e6 ht hl hi
    have h1 := z_le0 (show i < t by omega) (by omega)
    have h2 := z_vi1 (show i < 4 by omega) (by decide)
    have h3 := nI_clamp (show i < 2 ^ 31 by omega)
    have h4 := eq_true (hl i (by omega))
    have h5 := ih (i + 1) (cOnceSt s i (left, S)).1 (cOnceSt s i (left, S)).2 (some (zr (some (1, r, cLn S s i)))) (some (zi (cMin left (cFree S (cLn S s i))))) (by simp [cOnceSt, cAddDue, z_I_u, z_I_uJ, ht]) (fun j hj => by simp [cOnceSt, cAddDue, z_I_u, z_I_uJ]; exact hl j hj) (by omega)
    rw [zu_34_5]
    simp only [↓zx_nil, ↓zx_cons, ↓zp_li, ↓zp_ll, ↓zp_lr, ↓zq_li0, ↓zq_li1, ↓zq_ll0, ↓zq_ll1, ↓zq_lr0, ↓zq_lr1, ↓zk_0, ↓zk_1n, ↓zk_1i, ↓zk_1r, ↓zk_1l, ↓zk_2, zp_okt, ↓zp_okl, zp_sh0, zp_sh1, zp_psn, zp_pss, ↓zp_ri1, ↓zp_ri20, ↓zp_ri21, ↓zp_rl, ↓zp_ra, ↓zp_rv, ↓zp_br, ↓reduceIte, Nat.reduceAdd, Nat.zero_add, Nat.add_zero, Nat.le_refl, Nat.zero_le, ↓zx_iload_2, ↓zy_istore_3, ↓zx_iconst, ↓zy_istore, ↓zx_iload, ↓zx_aload_1, ↓zyg_4_2, ↓zy_ic_ge, ↓zx_aload_0, ↓zyg_0_6, ↓zyg_4_1, ↓zya_7, ↓zya_8, ↓zya_9, ↓zya_10, ↓zya_17, ↓zya_18, ↓zy_astore, ↓zx_iload_3, ↓zx_aload, ↓zyc_47, ↓zy_min, ↓zyc_48, ↓zy_isub, ↓zy_iinc, ↓zx_goto, ↓zx_ret, ↓zya_11, ↓zya_14, ↓zya_15, ↓zya_16, z_g_ss, zq_ss, ht, h1, h2, h3, h4, true_and, nI_1, ↓zs_47, ↓zs_48]
    rw [z_it, ← h5]
    rfl
def cOnce (S : zS) (s : Nat) (a : Int32) : zS := (z_it (cOnceSt s) (cOrd S s) 0 (a, S)).2
set_option maxRecDepth 100000 in
set_option maxHeartbeats 4000000 in
theorem zs_34 (ho : z_nn (z_I (z_g m r) 4 s 2) 4) (hl : cWLn (z_g m r) s) : z_call (d + 2) 34 [zr (some (0, r, 0)), zr (some (4, r, s)), zi a] m Q = Q none (z_s m r (cOnce (z_g m r) s a)) := by
  have h3 := zl_34 (d := d) (Q := Q) (r := r) (a := a) (m := m) ho.2 (cOrd (z_g m r) s) 0 a (z_g m r) none none ho.eq hl (by unfold cOrd; omega)
  rw [zq_id] at h3
  simp only [↓zen_34, ↓zu_34_0, ↓zx_nil, ↓zx_cons, ↓zp_li, ↓zp_ll, ↓zp_lr, ↓zq_li0, ↓zq_li1, ↓zq_ll0, ↓zq_ll1, ↓zq_lr0, ↓zq_lr1, ↓zk_0, ↓zk_1n, ↓zk_1i, ↓zk_1r, ↓zk_1l, ↓zk_2, zp_okt, ↓zp_okl, zp_sh0, zp_sh1, zp_psn, zp_pss, ↓zp_ri1, ↓zp_ri20, ↓zp_ri21, ↓zp_rl, ↓zp_ra, ↓zp_rv, ↓zp_br, ↓reduceIte, Nat.reduceAdd, Nat.zero_add, Nat.add_zero, Nat.le_refl, Nat.zero_le, ↓zx_iload_2, ↓zy_istore_3, ↓zx_iconst, ↓zy_istore, ↓zx_iload, ↓zx_aload_1, ↓zyg_4_2, ↓zy_ic_ge, ↓zx_aload_0, ↓zyg_0_6, ↓zyg_4_1, ↓zya_7, ↓zya_8, ↓zya_9, ↓zya_10, ↓zya_17, ↓zya_18, ↓zy_astore, ↓zx_iload_3, ↓zx_aload, ↓zyc_47, ↓zy_min, ↓zyc_48, ↓zy_isub, ↓zy_iinc, ↓zx_goto, ↓zx_ret, ↓zya_11, ↓zya_14, ↓zya_15, ↓zya_16]
  exact h3
-- handed over from one load to another
def cHandSt (f l s : Nat) (i : Nat) (p : Int32 × zS) : Int32 × zS :=
  (p.1 - cMin p.1 (z_I p.2 14 f (cLn p.2 s i)), z_uI (z_uI p.2 14 f (cLn p.2 s i) (z_I p.2 14 f (cLn p.2 s i) - cMin p.1 (z_I p.2 14 f (cLn p.2 s i)))) 14 l (cLn p.2 s i) (z_I (z_uI p.2 14 f (cLn p.2 s i) (z_I p.2 14 f (cLn p.2 s i) - cMin p.1 (z_I p.2 14 f (cLn p.2 s i)))) 14 l (cLn p.2 s i) + cMin p.1 (z_I p.2 14 f (cLn p.2 s i))))
set_option maxRecDepth 100000 in
set_option maxHeartbeats 4000000 in
theorem zl_33 {f : Nat} {S : zS} {left x : Int32} {j : Nat} {e7 e8 : Option zV} (hx : (x < 0) = False) (hv : vp_in x 4 = True) (hj : x.toNatClampNeg = j) (h4 : vp_in (z_I S 16 s j) 4 = True) : zW 33 d Q 17 [some (zr (some (0, r, 0))), some (zr (some (3, r, f))), some (zr (some (3, r, l))), some (zi a), some (zr (some (4, r, s))), some (zi left), some (zi x), e7, e8] [] (z_s m r S) 0 = zW 33 d Q 17 [some (zr (some (0, r, 0))), some (zr (some (3, r, f))), some (zr (some (3, r, l))), some (zi a), some (zr (some (4, r, s))), some (zi (cHandSt f l s j (left, S)).1), some (zi (x + -1)), some (zi (z_I S 16 s j)), some (zi (cMin left (z_I S 14 f (cLn S s j))))] [] (z_s m r (cHandSt f l s j (left, S)).2) 0 := by
  rw [zu_33_17]
  simp only [↓zx_nil, ↓zx_cons, ↓zp_li, ↓zp_ll, ↓zp_lr, ↓zq_li0, ↓zq_li1, ↓zq_ll0, ↓zq_ll1, ↓zq_lr0, ↓zq_lr1, ↓zk_0, ↓zk_1n, ↓zk_1i, ↓zk_1r, ↓zk_1l, ↓zk_2, zp_okt, ↓zp_okl, zp_sh0, zp_sh1, zp_psn, zp_pss, ↓zp_ri1, ↓zp_ri20, ↓zp_ri21, ↓zp_rl, ↓zp_ra, ↓zp_rv, ↓zp_br, ↓reduceIte, Nat.reduceAdd, Nat.zero_add, Nat.add_zero, Nat.le_refl, Nat.zero_le, ↓zx_aload_0, ↓zyg_0_7, ↓zx_aload_1, ↓zyg_3_1, ↓zya_7, ↓zya_8, ↓zya_9, ↓zya_10, ↓zya_17, ↓zya_18, ↓zy_astore, ↓zx_iload_3, ↓zy_istore, ↓zx_iconst, ↓zx_iload, ↓zy_if_lt, ↓zx_aload, ↓zyg_4_1, ↓zyg_3_15, ↓zy_min, ↓zy_dup2, ↓zy_isub, ↓zx_aload_2, ↓zy_iadd, ↓zy_iinc, ↓zx_goto, ↓zy_dupi, ↓zy_dupr, ↓zyg_3_14, ↓zy_i2l, ↓zy_ladd, ↓zyp_3_14, ↓zyg_3_13, ↓zyp_3_13, ↓zx_ret, ↓zya_11, ↓zya_14, ↓zya_15, ↓zya_16, ↓zyb_11, ↓zyb_14, ↓zyb_15, ↓zyb_16, z_g_ss, zq_ss, hx, hv, hj, h4, true_and]
  rfl
theorem cHandSt_ln {f l s s' i j : Nat} {p : Int32 × zS} : z_I (cHandSt f l s i p).2 16 s' j = z_I p.2 16 s' j := by simp [cHandSt, z_I_u]
def cHand (S : zS) (f l : Nat) (a : Int32) : zS :=
  let s := (z_I S 3 f 1).toNatClampNeg
  let p := cHandSt f l s 0 (cHandSt f l s 1 (cHandSt f l s 2 (cHandSt f l s 3 (a, S))))
  let S1 := z_uJ p.2 3 f 14 (z_J p.2 3 f 14 + (a - p.1).toInt64)
  z_uJ S1 3 l 13 (z_J S1 3 l 13 + (a - p.1).toInt64)
set_option maxRecDepth 100000 in
set_option maxHeartbeats 4000000 in
theorem zs_33 {f : Nat} (hf : vp_in (z_I (z_g m r) 3 f 1) 6) (hl : cWLn (z_g m r) (z_I (z_g m r) 3 f 1).toNatClampNeg) : z_call (d + 1) 33 [zr (some (0, r, 0)), zr (some (3, r, f)), zr (some (3, r, l)), zi a] m Q = Q none (z_s m r (cHand (z_g m r) f l a)) := by
  simp only [↓zen_33, ↓zu_33_0, ↓zx_nil, ↓zx_cons, ↓zp_li, ↓zp_ll, ↓zp_lr, ↓zq_li0, ↓zq_li1, ↓zq_ll0, ↓zq_ll1, ↓zq_lr0, ↓zq_lr1, ↓zk_0, ↓zk_1n, ↓zk_1i, ↓zk_1r, ↓zk_1l, ↓zk_2, zp_okt, ↓zp_okl, zp_sh0, zp_sh1, zp_psn, zp_pss, ↓zp_ri1, ↓zp_ri20, ↓zp_ri21, ↓zp_rl, ↓zp_ra, ↓zp_rv, ↓zp_br, ↓reduceIte, Nat.reduceAdd, Nat.zero_add, Nat.add_zero, Nat.le_refl, Nat.zero_le, ↓zx_aload_0, ↓zyg_0_7, ↓zx_aload_1, ↓zyg_3_1, ↓zya_7, ↓zya_8, ↓zya_9, ↓zya_10, ↓zya_17, ↓zya_18, ↓zy_astore, ↓zx_iload_3, ↓zy_istore, ↓zx_iconst, ↓zx_iload, ↓zy_if_lt, ↓zx_aload, ↓zyg_4_1, ↓zyg_3_15, ↓zy_min, ↓zy_dup2, ↓zy_isub, ↓zx_aload_2, ↓zy_iadd, ↓zy_iinc, ↓zx_goto, ↓zy_dupi, ↓zy_dupr, ↓zyg_3_14, ↓zy_i2l, ↓zy_ladd, ↓zyp_3_14, ↓zyg_3_13, ↓zyp_3_13, ↓zx_ret, ↓zya_11, ↓zya_14, ↓zya_15, ↓zya_16, ↓zyb_11, ↓zyb_14, ↓zyb_15, ↓zyb_16, eq_true hf, true_and]
  unfold cHand
  generalize (z_I (z_g m r) 3 f 1).toNatClampNeg = s at hl ⊢
  have h3 := eq_true (hl 3 (by decide))
  have h2 := eq_true (hl 2 (by decide))
  have h1 := eq_true (hl 1 (by decide))
  have h0 := eq_true (hl 0 (by decide))
  rw [show zW 33 d Q 17 [some (zr (some (0, r, 0))), some (zr (some (3, r, f))), some (zr (some (3, r, l))), some (zi a), some (zr (some (4, r, s))), some (zi a), some (zi 3), none, none] [] m 0 = zW 33 d Q 17 [some (zr (some (0, r, 0))), some (zr (some (3, r, f))), some (zr (some (3, r, l))), some (zi a), some (zr (some (4, r, s))), some (zi a), some (zi 3), none, none] [] (z_s m r (z_g m r)) 0 by rw [zq_id]]
  generalize z_g m r = S at h0 h1 h2 h3 ⊢
  rw [zl_33 z_n3 z_v34 z_c3 h3, z_d3, zl_33 z_n2 z_v24 z_c2 (by rw [cHandSt_ln]; exact h2), z_d2, zl_33 z_n1 z_v14 z_c1' (by rw [cHandSt_ln, cHandSt_ln]; exact h1), z_d1, zl_33 z_n0 z_v04 z_c0 (by rw [cHandSt_ln, cHandSt_ln, cHandSt_ln]; exact h0), z_d0, zu_33_17]
  simp only [↓zu_33_83, ↓zx_nil, ↓zx_cons, ↓zp_li, ↓zp_ll, ↓zp_lr, ↓zq_li0, ↓zq_li1, ↓zq_ll0, ↓zq_ll1, ↓zq_lr0, ↓zq_lr1, ↓zk_0, ↓zk_1n, ↓zk_1i, ↓zk_1r, ↓zk_1l, ↓zk_2, zp_okt, ↓zp_okl, zp_sh0, zp_sh1, zp_psn, zp_pss, ↓zp_ri1, ↓zp_ri20, ↓zp_ri21, ↓zp_rl, ↓zp_ra, ↓zp_rv, ↓zp_br, ↓reduceIte, Nat.reduceAdd, Nat.zero_add, Nat.add_zero, Nat.le_refl, Nat.zero_le, ↓zx_aload_0, ↓zyg_0_7, ↓zx_aload_1, ↓zyg_3_1, ↓zya_7, ↓zya_8, ↓zya_9, ↓zya_10, ↓zya_17, ↓zya_18, ↓zy_astore, ↓zx_iload_3, ↓zy_istore, ↓zx_iconst, ↓zx_iload, ↓zy_if_lt, ↓zx_aload, ↓zyg_4_1, ↓zyg_3_15, ↓zy_min, ↓zy_dup2, ↓zy_isub, ↓zx_aload_2, ↓zy_iadd, ↓zy_iinc, ↓zx_goto, ↓zy_dupi, ↓zy_dupr, ↓zyg_3_14, ↓zy_i2l, ↓zy_ladd, ↓zyp_3_14, ↓zyg_3_13, ↓zyp_3_13, ↓zx_ret, ↓zya_11, ↓zya_14, ↓zya_15, ↓zya_16, ↓zyb_11, ↓zyb_14, ↓zyb_15, ↓zyb_16, z_ltm, z_g_ss, zq_ss]
end Bk2
