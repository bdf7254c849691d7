/-! ===== THE CLASS: arrivals, ends, days, splits ===== -/
section Bk5
variable {d r i k g s r2 i2 l : Nat} {m : zM} {Q : zQ} {v w a b c : Int32}
-- a load ends
abbrev cCl1 (S : zS) (l : Nat) : zS := z_uI S 3 l 10 (cRest S l)
abbrev cCl2 (S : zS) (l : Nat) : zS := z_uI (cCl1 S l) 3 l 11 (cAllowed (cCl1 S l) l (z_I (cCl1 S l) 3 l 10))
abbrev cCl3 (S : zS) (l : Nat) (loss : Int32) : zS := z_uI (cCl2 S l) 3 l 9 (cDuty (cCl2 S l) l (z_I (cCl2 S l) 3 l 10 - z_I (cCl2 S l) 3 l 11) loss)
abbrev cCl4 (S : zS) (l : Nat) (loss : Int32) : zS := cMakeDue (cCl3 S l loss) l (z_I (cCl3 S l loss) 3 l 9)
def cClose (S : zS) (l : Nat) (st loss : Int32) : zS := z_uI (cRel (cCl4 S l loss) l (cHeld (cCl4 S l loss) l)) 3 l 0 st
theorem cSk.cl1 {S : zS} {l : Nat} : cSk S (cCl1 S l) := .up3 (by decide)
theorem cSk.cl2 {S : zS} {l : Nat} : cSk S (cCl2 S l) := .tr .cl1 (.up3 (by decide))
theorem cSk.cl3 {S : zS} {l : Nat} {loss : Int32} : cSk S (cCl3 S l loss) := .tr .cl2 (.up3 (by decide))
theorem cSk.cl4 {S : zS} {l : Nat} {loss : Int32} : cSk S (cCl4 S l loss) := .tr .cl3 .make
theorem cSk.close {S : zS} {l : Nat} {st loss : Int32} : cSk S (cClose S l st loss) := .tr .cl4 (.tr .rel (.up3 (by decide)))
set_option maxRecDepth 100000 in
set_option maxHeartbeats 4000000 in
theorem zs_24 (h : cWL (z_g m r) l) : z_call (d + 4) 24 [zr (some (0, r, 0)), zr (some (3, r, l)), zi v, zi w] m Q = Q none (z_s m r (cClose (z_g m r) l v w)) := by
  generalize hS : z_g m r = S at h
  have w1 : cWL (cCl1 S l) l := cSk.cl1.wl h
  have w2 : cWL (cCl2 S l) l := cSk.cl2.wl h
  have w3 : cWL (cCl3 S l w) l := cSk.cl3.wl h
  have w4 : cWL (cCl4 S l w) l := cSk.cl4.wl h
  have h25 := fun Q => zs_25 (d := d) (r := r) (m := z_s m r (cCl1 S l)) (Q := Q) (i := l) (v := z_I (cCl1 S l) 3 l 10) (by rw [z_g_ss]; exact w1.1.2.2)
  have h26 := fun Q => zs_26 (d := d + 1) (r := r) (m := z_s m r (cCl2 S l)) (Q := Q) (i := l) (v := z_I (cCl2 S l) 3 l 10 - z_I (cCl2 S l) 3 l 11) (w := w) (by rw [z_g_ss]; exact w2.1.2.2) (by rw [z_g_ss]; exact w2.2.2.2)
  have h27 := fun Q => zs_27 (d := d + 1) (r := r) (m := z_s m r (cCl3 S l w)) (Q := Q) (l := l) (a := z_I (cCl3 S l w) 3 l 9) (by rw [z_g_ss]; exact w3.1.1) (by rw [z_g_ss]; exact w3.2.2.1)
  have h18 := fun Q => zs_18 (d := d + 1) (r := r) (m := z_s m r (cCl4 S l w)) (Q := Q) (l := l) (a := cHeld (cCl4 S l w) l) (by rw [z_g_ss]; exact w4.1.1) (by rw [z_g_ss]; exact w4.2.2.1)
  rw [z_g_ss] at h25 h26 h27 h18
  rw [zq_ss] at h27 h18
  simp only [↓zen_24, ↓zu_24_0, ↓zx_nil, ↓zx_cons, ↓zp_li, ↓zp_ll, ↓zp_lr, ↓zq_li0, ↓zq_li1, ↓zq_ll0, ↓zq_ll1, ↓zq_lr0, ↓zq_lr1, ↓zk_0, ↓zk_1n, ↓zk_1i, ↓zk_1r, ↓zk_1l, ↓zk_2, zp_okt, ↓zp_okl, zp_sh0, zp_sh1, zp_psn, zp_pss, ↓zp_ri1, ↓zp_ri20, ↓zp_ri21, ↓zp_rl, ↓zp_ra, ↓zp_rv, ↓zp_br, ↓reduceIte, Nat.reduceAdd, Nat.zero_add, Nat.add_zero, Nat.le_refl, Nat.zero_le, ↓zx_aload_1, ↓zyc_59, ↓zyp_3_10, ↓zx_aload_0, ↓zyg_3_10, ↓zyc_25, ↓zyp_3_11, ↓zyg_3_11, ↓zy_isub, ↓zx_iload_3, ↓zyc_26, ↓zyp_3_9, ↓zyg_3_9, ↓zyc_27, ↓zyc_61, ↓zyc_18, ↓zx_iload_2, ↓zyp_3_0, ↓zx_ret, ↓zs_59, ↓zs_61, hS, z_g_ss, zq_ss]
  simp only [h25, ↓zx_nil, ↓zx_cons, ↓zp_li, ↓zp_ll, ↓zp_lr, ↓zq_li0, ↓zq_li1, ↓zq_ll0, ↓zq_ll1, ↓zq_lr0, ↓zq_lr1, ↓zk_0, ↓zk_1n, ↓zk_1i, ↓zk_1r, ↓zk_1l, ↓zk_2, zp_okt, ↓zp_okl, zp_sh0, zp_sh1, zp_psn, zp_pss, ↓zp_ri1, ↓zp_ri20, ↓zp_ri21, ↓zp_rl, ↓zp_ra, ↓zp_rv, ↓zp_br, ↓reduceIte, Nat.reduceAdd, Nat.zero_add, Nat.add_zero, Nat.le_refl, Nat.zero_le, ↓zx_aload_1, ↓zyc_59, ↓zyp_3_10, ↓zx_aload_0, ↓zyg_3_10, ↓zyc_25, ↓zyp_3_11, ↓zyg_3_11, ↓zy_isub, ↓zx_iload_3, ↓zyc_26, ↓zyp_3_9, ↓zyg_3_9, ↓zyc_27, ↓zyc_61, ↓zyc_18, ↓zx_iload_2, ↓zyp_3_0, ↓zx_ret, z_g_ss, zq_ss]
  simp only [h26, ↓zx_nil, ↓zx_cons, ↓zp_li, ↓zp_ll, ↓zp_lr, ↓zq_li0, ↓zq_li1, ↓zq_ll0, ↓zq_ll1, ↓zq_lr0, ↓zq_lr1, ↓zk_0, ↓zk_1n, ↓zk_1i, ↓zk_1r, ↓zk_1l, ↓zk_2, zp_okt, ↓zp_okl, zp_sh0, zp_sh1, zp_psn, zp_pss, ↓zp_ri1, ↓zp_ri20, ↓zp_ri21, ↓zp_rl, ↓zp_ra, ↓zp_rv, ↓zp_br, ↓reduceIte, Nat.reduceAdd, Nat.zero_add, Nat.add_zero, Nat.le_refl, Nat.zero_le, ↓zx_aload_1, ↓zyc_59, ↓zyp_3_10, ↓zx_aload_0, ↓zyg_3_10, ↓zyc_25, ↓zyp_3_11, ↓zyg_3_11, ↓zy_isub, ↓zx_iload_3, ↓zyc_26, ↓zyp_3_9, ↓zyg_3_9, ↓zyc_27, ↓zyc_61, ↓zyc_18, ↓zx_iload_2, ↓zyp_3_0, ↓zx_ret, z_g_ss, zq_ss]
  simp only [h27, ↓zx_nil, ↓zx_cons, ↓zp_li, ↓zp_ll, ↓zp_lr, ↓zq_li0, ↓zq_li1, ↓zq_ll0, ↓zq_ll1, ↓zq_lr0, ↓zq_lr1, ↓zk_0, ↓zk_1n, ↓zk_1i, ↓zk_1r, ↓zk_1l, ↓zk_2, zp_okt, ↓zp_okl, zp_sh0, zp_sh1, zp_psn, zp_pss, ↓zp_ri1, ↓zp_ri20, ↓zp_ri21, ↓zp_rl, ↓zp_ra, ↓zp_rv, ↓zp_br, ↓reduceIte, Nat.reduceAdd, Nat.zero_add, Nat.add_zero, Nat.le_refl, Nat.zero_le, ↓zx_aload_1, ↓zyc_59, ↓zyp_3_10, ↓zx_aload_0, ↓zyg_3_10, ↓zyc_25, ↓zyp_3_11, ↓zyg_3_11, ↓zy_isub, ↓zx_iload_3, ↓zyc_26, ↓zyp_3_9, ↓zyg_3_9, ↓zyc_27, ↓zyc_61, ↓zyc_18, ↓zx_iload_2, ↓zyp_3_0, ↓zx_ret, ↓zs_61, z_g_ss, zq_ss]
  simp only [h18, ↓zx_nil, ↓zx_cons, ↓zp_li, ↓zp_ll, ↓zp_lr, ↓zq_li0, ↓zq_li1, ↓zq_ll0, ↓zq_ll1, ↓zq_lr0, ↓zq_lr1, ↓zk_0, ↓zk_1n, ↓zk_1i, ↓zk_1r, ↓zk_1l, ↓zk_2, zp_okt, ↓zp_okl, zp_sh0, zp_sh1, zp_psn, zp_pss, ↓zp_ri1, ↓zp_ri20, ↓zp_ri21, ↓zp_rl, ↓zp_ra, ↓zp_rv, ↓zp_br, ↓reduceIte, Nat.reduceAdd, Nat.zero_add, Nat.add_zero, Nat.le_refl, Nat.zero_le, ↓zx_aload_1, ↓zyc_59, ↓zyp_3_10, ↓zx_aload_0, ↓zyg_3_10, ↓zyc_25, ↓zyp_3_11, ↓zyg_3_11, ↓zy_isub, ↓zx_iload_3, ↓zyc_26, ↓zyp_3_9, ↓zyg_3_9, ↓zyc_27, ↓zyc_61, ↓zyc_18, ↓zx_iload_2, ↓zyp_3_0, ↓zx_ret, z_g_ss, zq_ss]
  rfl
-- a part comes
abbrev cRc1 (S : zS) (l : Nat) (q : Int32) : zS := z_uI (z_uI S 15 (z_I S 3 l 2).toNatClampNeg (z_I S 3 l 3).toNatClampNeg (z_I S 15 (z_I S 3 l 2).toNatClampNeg (z_I S 3 l 3).toNatClampNeg + q)) 3 l 8 (z_I S 3 l 8 + q)
def cReceive (S : zS) (l : Nat) (q : Int32) : zS := cRel (cRc1 S l q) l (cHeld (cRc1 S l q) l - cNeed (cRc1 S l q) l)
theorem cSk.rc1 {S : zS} {l : Nat} {q : Int32} : cSk S (cRc1 S l q) := .tr .up15 (.up3 (by decide))
theorem cSk.receive {S : zS} {l : Nat} {q : Int32} : cSk S (cReceive S l q) := .tr .rc1 .rel
set_option maxRecDepth 100000 in
set_option maxHeartbeats 4000000 in
theorem zs_23 (h : cWL (z_g m r) l) : z_call (d + 4) 23 [zr (some (0, r, 0)), zr (some (3, r, l)), zi v] m Q = Q none (z_s m r (cReceive (z_g m r) l v)) := by
  generalize hS : z_g m r = S at h
  have w1 : cWL (cRc1 S l v) l := cSk.rc1.wl h
  have h7 := fun Q => zs_7 (d := d) (r := r) (m := z_s m r (cRc1 S l v)) (Q := Q) (i := l) (by rw [z_g_ss]; exact w1.1.2.2) (by rw [z_g_ss]; exact w1.2.2.2)
  have h18 := fun Q => zs_18 (d := d + 1) (r := r) (m := z_s m r (cRc1 S l v)) (Q := Q) (l := l) (a := cHeld (cRc1 S l v) l - cNeed (cRc1 S l v) l) (by rw [z_g_ss]; exact w1.1.1) (by rw [z_g_ss]; exact w1.2.2.1)
  rw [z_g_ss] at h7 h18
  rw [zq_ss] at h18
  have e8 : ∀ x, z_I (z_uI S 15 (z_I S 3 l 2).toNatClampNeg (z_I S 3 l 3).toNatClampNeg x) 3 l 8 = z_I S 3 l 8 := fun x => by simp [z_I_u]
  simp only [↓zen_23, ↓zu_23_0, ↓zx_nil, ↓zx_cons, ↓zp_li, ↓zp_ll, ↓zp_lr, ↓zq_li0, ↓zq_li1, ↓zq_ll0, ↓zq_ll1, ↓zq_lr0, ↓zq_lr1, ↓zk_0, ↓zk_1n, ↓zk_1i, ↓zk_1r, ↓zk_1l, ↓zk_2, zp_okt, ↓zp_okl, zp_sh0, zp_sh1, zp_psn, zp_pss, ↓zp_ri1, ↓zp_ri20, ↓zp_ri21, ↓zp_rl, ↓zp_ra, ↓zp_rv, ↓zp_br, ↓reduceIte, Nat.reduceAdd, Nat.zero_add, Nat.add_zero, Nat.le_refl, Nat.zero_le, ↓zx_aload_0, ↓zyg_0_7, ↓zx_aload_1, ↓zyg_3_2, ↓zya_7, ↓zya_8, ↓zya_9, ↓zya_10, ↓zya_17, ↓zya_18, ↓zyg_4_0, ↓zyg_3_3, ↓zy_dup2, ↓zx_iload_2, ↓zy_iadd, ↓zy_dupi, ↓zy_dupr, ↓zyg_3_8, ↓zyp_3_8, ↓zyc_61, ↓zyc_7, ↓zy_isub, ↓zyc_18, ↓zx_ret, ↓zya_11, ↓zya_14, ↓zya_15, ↓zya_16, ↓zyb_11, ↓zyb_14, ↓zyb_15, ↓zyb_16, ↓zs_61, hS, z_g_ss, zq_ss, eq_true h.1.2.1, eq_true h.1.2.2, true_and, e8]
  simp only [h7, ↓zx_nil, ↓zx_cons, ↓zp_li, ↓zp_ll, ↓zp_lr, ↓zq_li0, ↓zq_li1, ↓zq_ll0, ↓zq_ll1, ↓zq_lr0, ↓zq_lr1, ↓zk_0, ↓zk_1n, ↓zk_1i, ↓zk_1r, ↓zk_1l, ↓zk_2, zp_okt, ↓zp_okl, zp_sh0, zp_sh1, zp_psn, zp_pss, ↓zp_ri1, ↓zp_ri20, ↓zp_ri21, ↓zp_rl, ↓zp_ra, ↓zp_rv, ↓zp_br, ↓reduceIte, Nat.reduceAdd, Nat.zero_add, Nat.add_zero, Nat.le_refl, Nat.zero_le, ↓zx_aload_0, ↓zyg_0_7, ↓zx_aload_1, ↓zyg_3_2, ↓zya_7, ↓zya_8, ↓zya_9, ↓zya_10, ↓zya_17, ↓zya_18, ↓zyg_4_0, ↓zyg_3_3, ↓zy_dup2, ↓zx_iload_2, ↓zy_iadd, ↓zy_dupi, ↓zy_dupr, ↓zyg_3_8, ↓zyp_3_8, ↓zyc_61, ↓zyc_7, ↓zy_isub, ↓zyc_18, ↓zx_ret, ↓zya_11, ↓zya_14, ↓zya_15, ↓zya_16, ↓zyb_11, ↓zyb_14, ↓zyb_15, ↓zyb_16, z_g_ss, zq_ss]
  simp only [h18, ↓zx_nil, ↓zx_cons, ↓zp_li, ↓zp_ll, ↓zp_lr, ↓zq_li0, ↓zq_li1, ↓zq_ll0, ↓zq_ll1, ↓zq_lr0, ↓zq_lr1, ↓zk_0, ↓zk_1n, ↓zk_1i, ↓zk_1r, ↓zk_1l, ↓zk_2, zp_okt, ↓zp_okl, zp_sh0, zp_sh1, zp_psn, zp_pss, ↓zp_ri1, ↓zp_ri20, ↓zp_ri21, ↓zp_rl, ↓zp_ra, ↓zp_rv, ↓zp_br, ↓reduceIte, Nat.reduceAdd, Nat.zero_add, Nat.add_zero, Nat.le_refl, Nat.zero_le, ↓zx_aload_0, ↓zyg_0_7, ↓zx_aload_1, ↓zyg_3_2, ↓zya_7, ↓zya_8, ↓zya_9, ↓zya_10, ↓zya_17, ↓zya_18, ↓zyg_4_0, ↓zyg_3_3, ↓zy_dup2, ↓zx_iload_2, ↓zy_iadd, ↓zy_dupi, ↓zy_dupr, ↓zyg_3_8, ↓zyp_3_8, ↓zyc_61, ↓zyc_7, ↓zy_isub, ↓zyc_18, ↓zx_ret, ↓zya_11, ↓zya_14, ↓zya_15, ↓zya_16, ↓zyb_11, ↓zyb_14, ↓zyb_15, ↓zyb_16, z_g_ss, zq_ss]
  rfl
-- a day
def cPassGo : Nat → Nat → Int32 → zS → Int32 × zS
  | 0, _, a, S => (a, S)
  | n + 1, i, a, S => if z_I S 3 i 0 = 1 ∧ cLatest S i + z_I S 0 0 1 < z_I S 0 0 0 then cPassGo n (i + 1) (a + 1) (cClose S i 3 (cLatest S i)) else cPassGo n (i + 1) a S
set_option maxRecDepth 100000 in
set_option maxHeartbeats 4000000 in
theorem zl_38 {t : Nat} (ht2 : t ≤ 40) : ∀ (n i : Nat) (a : Int32) (S : zS) (e3 : Option zV), z_I S 0 0 5 = nI t → (∀ l, l < t → cWL S l) → i + n = t → cRowOk (cLUp cLuW (cPassGo n i a S).2) → zW 38 (d + 4) Q 14 [some (zr (some (0, r, 0))), some (zi a), some (zi (nI i)), e3] [] (z_s m r S) 0 = Q (some (zi (cPassGo n i a S).1)) (z_s m r (cTurns (cPassGo n i a S).2)) := by
  intro n
  induction n with
  | zero =>
    intro i a S e3 ht hw hi hr
    have h1 := z_le1 (show t ≤ i by omega) (by omega)
    have h3 := fun Q => zs_3 (d := d) (r := r) (m := z_s m r S) (Q := Q) (by rw [z_g_ss]; rw [ht]; exact ⟨nI_pos' (by omega), by rw [nI_clamp (by omega)]; exact ht2⟩) (by rw [z_g_ss]; exact hr)
    rw [z_g_ss] at h3
    rw [zu_38_14]
    simp only [↓zu_38_64, ↓zx_nil, ↓zx_cons, ↓zp_li, ↓zp_ll, ↓zp_lr, ↓zq_li0, ↓zq_li1, ↓zq_ll0, ↓zq_ll1, ↓zq_lr0, ↓zq_lr1, ↓zk_0, ↓zk_1n, ↓zk_1i, ↓zk_1r, ↓zk_1l, ↓zk_2, zp_okt, ↓zp_okl, zp_sh0, zp_sh1, zp_psn, zp_pss, ↓zp_ri1, ↓zp_ri20, ↓zp_ri21, ↓zp_rl, ↓zp_ra, ↓zp_rv, ↓zp_br, ↓reduceIte, Nat.reduceAdd, Nat.zero_add, Nat.add_zero, Nat.le_refl, Nat.zero_le, ↓zx_iconst, ↓zy_istore_1, ↓zx_aload_0, ↓zy_dupi, ↓zy_dupr, ↓zyg_0_0, ↓zy_iadd, ↓zyp_0_0, ↓zy_istore_2, ↓zx_iload_2, ↓zyg_0_5, ↓zy_ic_ge, ↓zyg_0_9, ↓zya_7, ↓zya_8, ↓zya_9, ↓zya_10, ↓zya_17, ↓zya_18, ↓zy_astore_3, ↓zx_aload_3, ↓zyg_3_0, ↓zy_ic_ne, ↓zyc_35, ↓zy_if_eq, ↓zyc_60, ↓zyc_24, ↓zy_iinc, ↓zx_goto, ↓zyc_3, ↓zx_iload_1, ↓zx_iret, z_g_ss, ht, h1, h3, zq_ss, cPassGo]
  | succ n ih =>
    intro i a S e3 ht hw hi hr
    have h1 := z_le0 (show i < t by omega) (by omega)
    have h2 := z_vi1 (show i < 40 by omega) (by decide)
    have h3 := nI_clamp (show i < 2 ^ 31 by omega)
    have h24 := fun Q => zs_24 (d := d) (r := r) (m := z_s m r S) (Q := Q) (l := i) (v := 3) (w := cLatest S i) (by rw [z_g_ss]; exact hw i (by omega))
    rw [z_g_ss] at h24
    rw [zu_38_14]
    simp only [↓zu_38_58, ↓zx_nil, ↓zx_cons, ↓zp_li, ↓zp_ll, ↓zp_lr, ↓zq_li0, ↓zq_li1, ↓zq_ll0, ↓zq_ll1, ↓zq_lr0, ↓zq_lr1, ↓zk_0, ↓zk_1n, ↓zk_1i, ↓zk_1r, ↓zk_1l, ↓zk_2, zp_okt, ↓zp_okl, zp_sh0, zp_sh1, zp_psn, zp_pss, ↓zp_ri1, ↓zp_ri20, ↓zp_ri21, ↓zp_rl, ↓zp_ra, ↓zp_rv, ↓zp_br, ↓reduceIte, Nat.reduceAdd, Nat.zero_add, Nat.add_zero, Nat.le_refl, Nat.zero_le, ↓zx_iconst, ↓zy_istore_1, ↓zx_aload_0, ↓zy_dupi, ↓zy_dupr, ↓zyg_0_0, ↓zy_iadd, ↓zyp_0_0, ↓zy_istore_2, ↓zx_iload_2, ↓zyg_0_5, ↓zy_ic_ge, ↓zyg_0_9, ↓zya_7, ↓zya_8, ↓zya_9, ↓zya_10, ↓zya_17, ↓zya_18, ↓zy_astore_3, ↓zx_aload_3, ↓zyg_3_0, ↓zy_ic_ne, ↓zyc_35, ↓zy_if_eq, ↓zyc_60, ↓zyc_24, ↓zy_iinc, ↓zx_goto, ↓zyc_3, ↓zx_iload_1, ↓zx_iret, z_g_ss, zq_ss, ht, h1, h2, h3, true_and, nI_1, ↓zs_35, z_i10, ↓zs_60, h24, cPassGo] at hr ⊢
    by_cases e : z_I S 3 i 0 = 1
    · by_cases e2 : cLatest S i + z_I S 0 0 1 < z_I S 0 0 0
      · simp only [e, e2, if_true, not_true_eq_false, if_false, and_self] at hr ⊢
        exact ih (i + 1) _ _ _ (cSk.close.2.2.2.2.1.trans ht) (fun l hl => cSk.close.wl (hw l hl)) (by omega) hr
      · simp only [e, e2, if_true, not_false_eq_true, if_false, and_false] at hr ⊢
        exact ih (i + 1) _ _ _ ht hw (by omega) hr
    · simp only [e, if_false, false_and] at hr ⊢
      exact ih (i + 1) _ _ _ ht hw (by omega) hr
abbrev cPass1 (S : zS) : Int32 × zS := cPassGo (cL S) 0 0 (z_uI S 0 0 0 (z_I S 0 0 0 + 1))
def cPass (S : zS) : Int32 × zS := ((cPass1 S).1, cTurns (cPass1 S).2)
set_option maxRecDepth 100000 in
set_option maxHeartbeats 4000000 in
theorem zs_38 (hl : z_nn (z_I (z_g m r) 0 0 5) 40) (hw : ∀ l, l < cL (z_g m r) → cWL (z_g m r) l) (hr : cRowOk (cLUp cLuW (cPass1 (z_g m r)).2)) : z_call (d + 5) 38 [zr (some (0, r, 0))] m Q = Q (some (zi (cPass (z_g m r)).1)) (z_s m r (cPass (z_g m r)).2) := by
  simp only [↓zen_38, ↓zu_38_0, ↓zx_nil, ↓zx_cons, ↓zp_li, ↓zp_ll, ↓zp_lr, ↓zq_li0, ↓zq_li1, ↓zq_ll0, ↓zq_ll1, ↓zq_lr0, ↓zq_lr1, ↓zk_0, ↓zk_1n, ↓zk_1i, ↓zk_1r, ↓zk_1l, ↓zk_2, zp_okt, ↓zp_okl, zp_sh0, zp_sh1, zp_psn, zp_pss, ↓zp_ri1, ↓zp_ri20, ↓zp_ri21, ↓zp_rl, ↓zp_ra, ↓zp_rv, ↓zp_br, ↓reduceIte, Nat.reduceAdd, Nat.zero_add, Nat.add_zero, Nat.le_refl, Nat.zero_le, ↓zx_iconst, ↓zy_istore_1, ↓zx_aload_0, ↓zy_dupi, ↓zy_dupr, ↓zyg_0_0, ↓zy_iadd, ↓zyp_0_0, ↓zy_istore_2, ↓zx_iload_2, ↓zyg_0_5, ↓zy_ic_ge, ↓zyg_0_9, ↓zya_7, ↓zya_8, ↓zya_9, ↓zya_10, ↓zya_17, ↓zya_18, ↓zy_astore_3, ↓zx_aload_3, ↓zyg_3_0, ↓zy_ic_ne, ↓zyc_35, ↓zy_if_eq, ↓zyc_60, ↓zyc_24, ↓zy_iinc, ↓zx_goto, ↓zyc_3, ↓zx_iload_1, ↓zx_iret]
  exact zl_38 hl.2 (cL (z_g m r)) 0 0 _ none (cSk.day.2.2.2.2.1.trans hl.eq) (fun l hl => cSk.day.wl (hw l hl)) (by unfold cL; omega) hr
def cDaysGo : Nat → Int32 → zS → Int32 × zS
  | 0, a, S => (a, S)
  | n + 1, a, S => cDaysGo n (a + (cPass S).1) (cPass S).2
set_option maxRecDepth 100000 in
set_option maxHeartbeats 4000000 in
theorem zl_37 {P : zS → Prop} (hP : ∀ S, P S → P (cPass S).2 ∧ z_nn (z_I S 0 0 5) 40 ∧ (∀ l, l < cL S → cWL S l) ∧ cRowOk (cLUp cLuW (cPass1 S).2)) {t : Nat} (ht2 : t ≤ 90) : ∀ (n i : Nat) (a : Int32) (S : zS), P S → i + n = t → zW 37 (d + 5) Q 4 [some (zr (some (0, r, 0))), some (zi (nI t)), some (zi a), some (zi (nI i))] [] (z_s m r S) 0 = Q (some (zi (cDaysGo n a S).1)) (z_s m r (cDaysGo n a S).2) := by
  intro n
  induction n with
  | zero =>
    intro i a S hp hi
    have h1 := z_le1 (show t ≤ i by omega) (by omega)
    rw [zu_37_4]
    simp only [↓zu_37_22, ↓zx_nil, ↓zx_cons, ↓zp_li, ↓zp_ll, ↓zp_lr, ↓zq_li0, ↓zq_li1, ↓zq_ll0, ↓zq_ll1, ↓zq_lr0, ↓zq_lr1, ↓zk_0, ↓zk_1n, ↓zk_1i, ↓zk_1r, ↓zk_1l, ↓zk_2, zp_okt, ↓zp_okl, zp_sh0, zp_sh1, zp_psn, zp_pss, ↓zp_ri1, ↓zp_ri20, ↓zp_ri21, ↓zp_rl, ↓zp_ra, ↓zp_rv, ↓zp_br, ↓reduceIte, Nat.reduceAdd, Nat.zero_add, Nat.add_zero, Nat.le_refl, Nat.zero_le, ↓zx_iconst, ↓zy_istore_2, ↓zy_istore_3, ↓zx_iload_3, ↓zx_iload_1, ↓zy_ic_ge, ↓zx_iload_2, ↓zx_aload_0, ↓zyc_38, ↓zy_iadd, ↓zy_iinc, ↓zx_goto, ↓zx_iret, h1, cDaysGo]
  | succ n ih =>
    intro i a S hp hi
    have h1 := z_le0 (show i < t by omega) (by omega)
    obtain ⟨p1, p2, p3, p4⟩ := hP S hp
    have h38 := fun Q => zs_38 (d := d) (r := r) (m := z_s m r S) (Q := Q) (by rw [z_g_ss]; exact p2) (by rw [z_g_ss]; exact p3) (by rw [z_g_ss]; exact p4)
    rw [z_g_ss] at h38
    rw [zu_37_4]
    simp only [↓zx_nil, ↓zx_cons, ↓zp_li, ↓zp_ll, ↓zp_lr, ↓zq_li0, ↓zq_li1, ↓zq_ll0, ↓zq_ll1, ↓zq_lr0, ↓zq_lr1, ↓zk_0, ↓zk_1n, ↓zk_1i, ↓zk_1r, ↓zk_1l, ↓zk_2, zp_okt, ↓zp_okl, zp_sh0, zp_sh1, zp_psn, zp_pss, ↓zp_ri1, ↓zp_ri20, ↓zp_ri21, ↓zp_rl, ↓zp_ra, ↓zp_rv, ↓zp_br, ↓reduceIte, Nat.reduceAdd, Nat.zero_add, Nat.add_zero, Nat.le_refl, Nat.zero_le, ↓zx_iconst, ↓zy_istore_2, ↓zy_istore_3, ↓zx_iload_3, ↓zx_iload_1, ↓zy_ic_ge, ↓zx_iload_2, ↓zx_aload_0, ↓zyc_38, ↓zy_iadd, ↓zy_iinc, ↓zx_goto, ↓zx_iret, h1, h38, zq_ss, nI_1, cDaysGo]
    exact ih (i + 1) _ _ p1 (by omega)
set_option maxRecDepth 100000 in
set_option maxHeartbeats 4000000 in
theorem zs_37 {P : zS → Prop} (hP : ∀ S, P S → P (cPass S).2 ∧ z_nn (z_I S 0 0 5) 40 ∧ (∀ l, l < cL S → cWL S l) ∧ cRowOk (cLUp cLuW (cPass1 S).2)) (hp : P (z_g m r)) (hv : z_nn v 90) : z_call (d + 6) 37 [zr (some (0, r, 0)), zi v] m Q = Q (some (zi (cDaysGo v.toNatClampNeg 0 (z_g m r)).1)) (z_s m r (cDaysGo v.toNatClampNeg 0 (z_g m r)).2) := by
  have h := zl_37 (d := d) (Q := Q) (r := r) (m := m) hP hv.2 v.toNatClampNeg 0 0 (z_g m r) hp (by omega)
  rw [zq_id, ← hv.eq] at h
  simp only [↓zen_37, ↓zu_37_0, ↓zx_nil, ↓zx_cons, ↓zp_li, ↓zp_ll, ↓zp_lr, ↓zq_li0, ↓zq_li1, ↓zq_ll0, ↓zq_ll1, ↓zq_lr0, ↓zq_lr1, ↓zk_0, ↓zk_1n, ↓zk_1i, ↓zk_1r, ↓zk_1l, ↓zk_2, zp_okt, ↓zp_okl, zp_sh0, zp_sh1, zp_psn, zp_pss, ↓zp_ri1, ↓zp_ri20, ↓zp_ri21, ↓zp_rl, ↓zp_ra, ↓zp_rv, ↓zp_br, ↓reduceIte, Nat.reduceAdd, Nat.zero_add, Nat.add_zero, Nat.le_refl, Nat.zero_le, ↓zx_iconst, ↓zy_istore_2, ↓zy_istore_3, ↓zx_iload_3, ↓zx_iload_1, ↓zy_ic_ge, ↓zx_iload_2, ↓zx_aload_0, ↓zyc_38, ↓zy_iadd, ↓zy_iinc, ↓zx_goto, ↓zx_iret]
  exact h
-- arrivals without a number
def cRecSt (S : zS) (l : Nat) (q : Int32) : zS := if cRest (cReceive S l q) l = 0 then cClose (cReceive S l q) l 2 (z_I (cReceive S l q) 3 l 7) else cReceive S l q
theorem cSk.recSt {S : zS} {l : Nat} {q : Int32} : cSk S (cRecSt S l q) := by
  unfold cRecSt
  split
  · exact .tr .receive .close
  · exact .receive
def cRecGo : Nat → Nat → Int32 → Int32 → zS → Int32 × zS
  | 0, _, _, many, S => (many, S)
  | n + 1, i, left, many, S => if 0 < left then cRecGo n (i + 1) (left - cMin left (cRest S (cRw S i))) (many + 1) (cRecSt S (cRw S i) (cMin left (cRest S (cRw S i)))) else (many, S)
set_option maxRecDepth 100000 in
set_option maxHeartbeats 4000000 in
theorem zl_30 {t : Nat} (ht2 : t ≤ 40) : ∀ (n i : Nat) (left many : Int32) (S : zS) (e8 e9 : Option zV), z_nn (z_I S 0 0 11) 40 → (∀ j, j < t → vp_in (cInRow S (nI j)) 40 ∧ cWL S (cRw S j)) → i + n = t → zW 30 (d + 4) Q 17 [some (zr (some (0, r, 0))), some (zi a), some (zi b), some (zi c), some (zi (nI t)), some (zi left), some (zi many), some (zi (nI i)), e8, e9] [] (z_s m r S) 0 = Q (some (zi (cRecGo n i left many S).1)) (z_s m r (cRecGo n i left many S).2) := by
  intro n
  induction n with
  | zero =>
    intro i left many S e8 e9 hr hw hi
    have h1 := z_le1 (show t ≤ i by omega) (by omega)
    rw [zu_30_17]
    simp only [↓zu_30_98, ↓zx_nil, ↓zx_cons, ↓zp_li, ↓zp_ll, ↓zp_lr, ↓zq_li0, ↓zq_li1, ↓zq_ll0, ↓zq_ll1, ↓zq_lr0, ↓zq_lr1, ↓zk_0, ↓zk_1n, ↓zk_1i, ↓zk_1r, ↓zk_1l, ↓zk_2, zp_okt, ↓zp_okl, zp_sh0, zp_sh1, zp_psn, zp_pss, ↓zp_ri1, ↓zp_ri20, ↓zp_ri21, ↓zp_rl, ↓zp_ra, ↓zp_rv, ↓zp_br, ↓reduceIte, Nat.reduceAdd, Nat.zero_add, Nat.add_zero, Nat.le_refl, Nat.zero_le, ↓zx_aload_0, ↓zx_iload_1, ↓zx_iload_2, ↓zyc_31, ↓zy_istore, ↓zx_iload_3, ↓zx_iconst, ↓zx_iload, ↓zy_ic_ge, ↓zy_if_le, ↓zyg_0_9, ↓zyc_6, ↓zya_7, ↓zya_8, ↓zya_9, ↓zya_10, ↓zya_17, ↓zya_18, ↓zy_astore, ↓zx_aload, ↓zyc_59, ↓zy_min, ↓zyc_23, ↓zy_if_ne, ↓zyg_3_7, ↓zyc_24, ↓zy_isub, ↓zy_iinc, ↓zx_goto, ↓zx_iret, h1, cRecGo]
  | succ n ih =>
    intro i left many S e8 e9 hr hw hi
    have h1 := z_le0 (show i < t by omega) (by omega)
    have h5 := fun Q => zs_6 (d := d + 3) (r := r) (m := z_s m r S) (Q := Q) (v := nI i) (by rw [z_g_ss]; exact hr)
    rw [z_g_ss] at h5
    change ∀ Q : zQ, _ = Q (some (zi (cInRow S (nI i)))) _ at h5
    obtain ⟨w0, w1⟩ := hw i (by omega)
    have h23 := fun v Q => zs_23 (d := d) (r := r) (m := z_s m r S) (Q := Q) (l := (cInRow S (nI i)).toNatClampNeg) (v := v) (by rw [z_g_ss]; exact w1)
    rw [z_g_ss] at h23
    have w2 : ∀ q, cWL (cReceive S (cInRow S (nI i)).toNatClampNeg q) (cInRow S (nI i)).toNatClampNeg := fun q => cSk.receive.wl w1
    have h24 := fun q v w Q => zs_24 (d := d) (r := r) (m := z_s m r (cReceive S (cInRow S (nI i)).toNatClampNeg q)) (Q := Q) (l := (cInRow S (nI i)).toNatClampNeg) (v := v) (w := w) (by rw [z_g_ss]; exact w2 q)
    simp only [z_g_ss, zq_ss] at h23 h24
    rw [zu_30_17]
    simp only [↓zu_30_82, ↓zu_30_98, ↓zx_nil, ↓zx_cons, ↓zp_li, ↓zp_ll, ↓zp_lr, ↓zq_li0, ↓zq_li1, ↓zq_ll0, ↓zq_ll1, ↓zq_lr0, ↓zq_lr1, ↓zk_0, ↓zk_1n, ↓zk_1i, ↓zk_1r, ↓zk_1l, ↓zk_2, zp_okt, ↓zp_okl, zp_sh0, zp_sh1, zp_psn, zp_pss, ↓zp_ri1, ↓zp_ri20, ↓zp_ri21, ↓zp_rl, ↓zp_ra, ↓zp_rv, ↓zp_br, ↓reduceIte, Nat.reduceAdd, Nat.zero_add, Nat.add_zero, Nat.le_refl, Nat.zero_le, ↓zx_aload_0, ↓zx_iload_1, ↓zx_iload_2, ↓zyc_31, ↓zy_istore, ↓zx_iload_3, ↓zx_iconst, ↓zx_iload, ↓zy_ic_ge, ↓zy_if_le, ↓zyg_0_9, ↓zyc_6, ↓zya_7, ↓zya_8, ↓zya_9, ↓zya_10, ↓zya_17, ↓zya_18, ↓zy_astore, ↓zx_aload, ↓zyc_59, ↓zy_min, ↓zyc_23, ↓zy_if_ne, ↓zyg_3_7, ↓zyc_24, ↓zy_isub, ↓zy_iinc, ↓zx_goto, ↓zx_iret, h1, h5, eq_true w0, true_and, ↓zs_59, z_g_ss, zq_ss, h23, h24, nI_1, cRecGo, ← Int32.not_lt]
    by_cases e : 0 < left
    · have hg : cSk S (cRecSt S (cInRow S (nI i)).toNatClampNeg (cMin left (cRest S (cInRow S (nI i)).toNatClampNeg))) := .recSt
      have h6 := ih (i + 1) (left - cMin left (cRest S (cInRow S (nI i)).toNatClampNeg)) (many + 1) (cRecSt S (cInRow S (nI i)).toNatClampNeg (cMin left (cRest S (cInRow S (nI i)).toNatClampNeg))) (some (zr (some (3, r, (cInRow S (nI i)).toNatClampNeg)))) (some (zi (cMin left (cRest S (cInRow S (nI i)).toNatClampNeg)))) (by rw [hg.2.2.2.2.2.1]; exact hr) (fun j hj => ⟨by rw [hg.inRow]; exact (hw j hj).1, by unfold cRw; rw [hg.inRow]; exact hg.wl (hw j hj).2⟩) (by omega)
      simp only [e, not_true_eq_false, if_false, if_true]
      rw [← h6]
      unfold cRecSt
      by_cases e2 : cRest (cReceive S (cInRow S (nI i)).toNatClampNeg (cMin left (cRest S (cInRow S (nI i)).toNatClampNeg))) (cInRow S (nI i)).toNatClampNeg = 0
      · rw [if_pos e2]
        exact (if_pos e2).trans rfl
      · rw [if_neg e2]
        exact (if_neg e2).trans rfl
    · simp only [e, not_false_eq_true, if_false, if_true]
set_option maxRecDepth 100000 in
set_option maxHeartbeats 4000000 in
theorem zs_30 (hl : z_nn (z_I (z_g m r) 0 0 5) 40) (hr : cRowOk (cLUp (cLuT a b) (z_g m r))) : z_call (d + 5) 30 [zr (some (0, r, 0)), zi a, zi b, zi c] m Q = Q (some (zi (cRecGo (z_I (cLUp (cLuT a b) (z_g m r)) 0 0 11).toNatClampNeg 0 c 0 (cLUp (cLuT a b) (z_g m r))).1)) (z_s m r (cRecGo (z_I (cLUp (cLuT a b) (z_g m r)) 0 0 11).toNatClampNeg 0 c 0 (cLUp (cLuT a b) (z_g m r))).2) := by
  have hn := cLUp_nn (S := z_g m r) (cLuT_nn a b)
  have h := zl_30 (d := d) (Q := Q) (r := r) (m := m) (a := a) (b := b) (c := c) hn.2 (z_I (cLUp (cLuT a b) (z_g m r)) 0 0 11).toNatClampNeg 0 c 0 (cLUp (cLuT a b) (z_g m r)) none none hn hr (by omega)
  rw [← hn.eq, nI_0] at h
  simp only [↓zen_30, ↓zu_30_0, ↓zx_nil, ↓zx_cons, ↓zp_li, ↓zp_ll, ↓zp_lr, ↓zq_li0, ↓zq_li1, ↓zq_ll0, ↓zq_ll1, ↓zq_lr0, ↓zq_lr1, ↓zk_0, ↓zk_1n, ↓zk_1i, ↓zk_1r, ↓zk_1l, ↓zk_2, zp_okt, ↓zp_okl, zp_sh0, zp_sh1, zp_psn, zp_pss, ↓zp_ri1, ↓zp_ri20, ↓zp_ri21, ↓zp_rl, ↓zp_ra, ↓zp_rv, ↓zp_br, ↓reduceIte, Nat.reduceAdd, Nat.zero_add, Nat.add_zero, Nat.le_refl, Nat.zero_le, ↓zx_aload_0, ↓zx_iload_1, ↓zx_iload_2, ↓zyc_31, ↓zy_istore, ↓zx_iload_3, ↓zx_iconst, ↓zx_iload, ↓zy_ic_ge, ↓zy_if_le, ↓zyg_0_9, ↓zyc_6, ↓zya_7, ↓zya_8, ↓zya_9, ↓zya_10, ↓zya_17, ↓zya_18, ↓zy_astore, ↓zx_aload, ↓zyc_59, ↓zy_min, ↓zyc_23, ↓zy_if_ne, ↓zyg_3_7, ↓zyc_24, ↓zy_isub, ↓zy_iinc, ↓zx_goto, ↓zx_iret, ↓zs_31 hl]
  exact h
-- a split
abbrev cSp0 (S : zS) (f n : Nat) (q t : Int32) : zS := cAsk S n (z_I S 3 f 1) t (z_I S 3 f 3) q
abbrev cSp1 (S : zS) (f n : Nat) (q t : Int32) : zS := z_uI (cSp0 S f n q t) 3 n 0 1
abbrev cSp2 (S : zS) (f n : Nat) (q t : Int32) : zS := z_uI (cSp1 S f n q t) 3 n 5 (z_I (cSp1 S f n q t) 3 f 5)
abbrev cSp3 (S : zS) (f n : Nat) (q t : Int32) : zS := z_uI (cSp2 S f n q t) 3 n 6 (z_I (cSp2 S f n q t) 3 f 6)
abbrev cSp4 (S : zS) (f n : Nat) (q t : Int32) : zS := z_uI (cSp3 S f n q t) 3 n 7 (z_I (cSp3 S f n q t) 3 f 7)
abbrev cSp5 (S : zS) (f n : Nat) (x q t : Int32) : zS := z_uI (cSp4 S f n q t) 3 n 12 x
abbrev cSp6 (S : zS) (f n : Nat) (x q t : Int32) : zS := z_uI (cSp5 S f n x q t) 0 0 5 (z_I (cSp5 S f n x q t) 0 0 5 + 1)
abbrev cSp7 (S : zS) (f n : Nat) (x q t : Int32) : zS := cHand (cSp6 S f n x q t) f n (cNeed (cSp6 S f n x q t) n)
def cSplit (S : zS) (x q t : Int32) : zS := z_uI (cSp7 S x.toNatClampNeg (cL S) x q t) 3 x.toNatClampNeg 4 (z_I (cSp7 S x.toNatClampNeg (cL S) x q t) 3 x.toNatClampNeg 4 - q)
set_option maxRecDepth 100000 in
set_option maxHeartbeats 4000000 in
theorem zs_32 {x q t : Int32} (hx : vp_in x 40) (hn : vp_in (z_I (z_g m r) 0 0 5) 40) (h1 : vp_in (z_I (cSp6 (z_g m r) x.toNatClampNeg (cL (z_g m r)) x q t) 3 (cL (z_g m r)) 3) 5) (h2 : z_nn (z_I (cSp6 (z_g m r) x.toNatClampNeg (cL (z_g m r)) x q t) 2 (cKd (cSp6 (z_g m r) x.toNatClampNeg (cL (z_g m r)) x q t) (cL (z_g m r))) 2) 13) (h3 : vp_in (z_I (cSp6 (z_g m r) x.toNatClampNeg (cL (z_g m r)) x q t) 3 x.toNatClampNeg 1) 6) (h4 : cWLn (cSp6 (z_g m r) x.toNatClampNeg (cL (z_g m r)) x q t) (z_I (cSp6 (z_g m r) x.toNatClampNeg (cL (z_g m r)) x q t) 3 x.toNatClampNeg 1).toNatClampNeg) : z_call (d + 4) 32 [zr (some (0, r, 0)), zi x, zi q, zi t] m Q = Q (some (zi (z_I (z_g m r) 0 0 5))) (z_s m r (cSplit (z_g m r) x q t)) := by
  unfold cSplit
  unfold cL at *
  generalize hS : z_g m r = S at hn h1 h2 h3 h4 ⊢
  have h7 := fun Q => zs_7 (d := d) (r := r) (m := z_s m r (cSp6 S x.toNatClampNeg (z_I S 0 0 5).toNatClampNeg x q t)) (Q := Q) (i := (z_I S 0 0 5).toNatClampNeg) (by rw [z_g_ss]; exact h1) (by rw [z_g_ss]; exact h2)
  have h33 := fun a Q => zs_33 (d := d + 2) (r := r) (m := z_s m r (cSp6 S x.toNatClampNeg (z_I S 0 0 5).toNatClampNeg x q t)) (Q := Q) (f := x.toNatClampNeg) (l := (z_I S 0 0 5).toNatClampNeg) (a := a) (by rw [z_g_ss]; exact h3) (by rw [z_g_ss]; exact h4)
  simp only [z_g_ss, zq_ss] at h7 h33
  simp only [↓zen_32, ↓zu_32_0, ↓zx_nil, ↓zx_cons, ↓zp_li, ↓zp_ll, ↓zp_lr, ↓zq_li0, ↓zq_li1, ↓zq_ll0, ↓zq_ll1, ↓zq_lr0, ↓zq_lr1, ↓zk_0, ↓zk_1n, ↓zk_1i, ↓zk_1r, ↓zk_1l, ↓zk_2, zp_okt, ↓zp_okl, zp_sh0, zp_sh1, zp_psn, zp_pss, ↓zp_ri1, ↓zp_ri20, ↓zp_ri21, ↓zp_rl, ↓zp_ra, ↓zp_rv, ↓zp_br, ↓reduceIte, Nat.reduceAdd, Nat.zero_add, Nat.add_zero, Nat.le_refl, Nat.zero_le, ↓zx_aload_0, ↓zyg_0_5, ↓zy_istore, ↓zyg_0_9, ↓zx_iload_1, ↓zya_7, ↓zya_8, ↓zya_9, ↓zya_10, ↓zya_17, ↓zya_18, ↓zy_astore, ↓zx_iload, ↓zx_aload, ↓zyg_3_1, ↓zx_iload_3, ↓zyg_3_3, ↓zx_iload_2, ↓zyc_62, ↓zx_iconst, ↓zyp_3_0, ↓zyg_3_5, ↓zyp_3_5, ↓zyg_3_6, ↓zyp_3_6, ↓zyg_3_7, ↓zyp_3_7, ↓zyp_3_12, ↓zy_dupi, ↓zy_dupr, ↓zy_iadd, ↓zyp_0_5, ↓zyc_7, ↓zyc_33, ↓zyg_3_4, ↓zy_isub, ↓zyp_3_4, ↓zx_iret, hS, eq_true hx, eq_true hn, true_and, ↓zs_62, z_g_ss, zq_ss]
  simp only [h7, ↓zx_nil, ↓zx_cons, ↓zp_li, ↓zp_ll, ↓zp_lr, ↓zq_li0, ↓zq_li1, ↓zq_ll0, ↓zq_ll1, ↓zq_lr0, ↓zq_lr1, ↓zk_0, ↓zk_1n, ↓zk_1i, ↓zk_1r, ↓zk_1l, ↓zk_2, zp_okt, ↓zp_okl, zp_sh0, zp_sh1, zp_psn, zp_pss, ↓zp_ri1, ↓zp_ri20, ↓zp_ri21, ↓zp_rl, ↓zp_ra, ↓zp_rv, ↓zp_br, ↓reduceIte, Nat.reduceAdd, Nat.zero_add, Nat.add_zero, Nat.le_refl, Nat.zero_le, ↓zx_aload_0, ↓zyg_0_5, ↓zy_istore, ↓zyg_0_9, ↓zx_iload_1, ↓zya_7, ↓zya_8, ↓zya_9, ↓zya_10, ↓zya_17, ↓zya_18, ↓zy_astore, ↓zx_iload, ↓zx_aload, ↓zyg_3_1, ↓zx_iload_3, ↓zyg_3_3, ↓zx_iload_2, ↓zyc_62, ↓zx_iconst, ↓zyp_3_0, ↓zyg_3_5, ↓zyp_3_5, ↓zyg_3_6, ↓zyp_3_6, ↓zyg_3_7, ↓zyp_3_7, ↓zyp_3_12, ↓zy_dupi, ↓zy_dupr, ↓zy_iadd, ↓zyp_0_5, ↓zyc_7, ↓zyc_33, ↓zyg_3_4, ↓zy_isub, ↓zyp_3_4, ↓zx_iret, z_g_ss, zq_ss]
  simp only [h33, ↓zx_nil, ↓zx_cons, ↓zp_li, ↓zp_ll, ↓zp_lr, ↓zq_li0, ↓zq_li1, ↓zq_ll0, ↓zq_ll1, ↓zq_lr0, ↓zq_lr1, ↓zk_0, ↓zk_1n, ↓zk_1i, ↓zk_1r, ↓zk_1l, ↓zk_2, zp_okt, ↓zp_okl, zp_sh0, zp_sh1, zp_psn, zp_pss, ↓zp_ri1, ↓zp_ri20, ↓zp_ri21, ↓zp_rl, ↓zp_ra, ↓zp_rv, ↓zp_br, ↓reduceIte, Nat.reduceAdd, Nat.zero_add, Nat.add_zero, Nat.le_refl, Nat.zero_le, ↓zx_aload_0, ↓zyg_0_5, ↓zy_istore, ↓zyg_0_9, ↓zx_iload_1, ↓zya_7, ↓zya_8, ↓zya_9, ↓zya_10, ↓zya_17, ↓zya_18, ↓zy_astore, ↓zx_iload, ↓zx_aload, ↓zyg_3_1, ↓zx_iload_3, ↓zyg_3_3, ↓zx_iload_2, ↓zyc_62, ↓zx_iconst, ↓zyp_3_0, ↓zyg_3_5, ↓zyp_3_5, ↓zyg_3_6, ↓zyp_3_6, ↓zyg_3_7, ↓zyp_3_7, ↓zyp_3_12, ↓zy_dupi, ↓zy_dupr, ↓zy_iadd, ↓zyp_0_5, ↓zyc_7, ↓zyc_33, ↓zyg_3_4, ↓zy_isub, ↓zyp_3_4, ↓zx_iret, z_g_ss, zq_ss]
end Bk5
