/-! ===== THE CLASS: Store.lineUp, copies, small methods of a Book ===== -/
section Leaf3
variable {d r i k g s r2 i2 : Nat} {m : zM} {Q : zQ} {v w a b c : Int32}
theorem cAppend_nn {S : zS} {s : Nat} {g n : Int32} (h : z_nn n 4) : z_nn (cAppend S s g n).1 4 := by
  unfold cAppend
  split
  · exact h
  · split
    · rename_i h1 h2
      have hn := h.eq
      have hlt : n.toNatClampNeg < 4 := by
        refine Nat.lt_of_not_le fun q => ?_
        rw [hn] at h2
        exact nI_nlt q (by have := h.2; omega) h2
      show z_nn (n + 1) 4
      rw [hn, nI_1]
      exact ⟨nI_pos' (by omega), by rw [nI_clamp (by omega)]; omega⟩
    · exact h
theorem cAppend_ord {S : zS} {s s' : Nat} {g n : Int32} : z_I (cAppend S s g n).2 4 s' 2 = z_I S 4 s' 2 := by
  unfold cAppend
  split
  · rfl
  · split
    · simp [z_I_u]
    · rfl
theorem z_nn0 : z_nn 0 4 := ⟨by decide, by decide⟩
def cLine0 (S : zS) (s : Nat) (a b c : Int32) : Int32 × zS := cAppend (cAppend (cAppend S s a 0).2 s b (cAppend S s a 0).1).2 s c (cAppend (cAppend S s a 0).2 s b (cAppend S s a 0).1).1
def cLineSt (s : Nat) (g : Int32) (p : Int32 × zS) : Int32 × zS := if cIsOrd p.2 s g (cOrd p.2 s) 0 = true then p else cAppend p.2 s g p.1
def cLineUp (S : zS) (s : Nat) (a b c : Int32) : zS := (cLineSt s 3 (cLineSt s 2 (cLineSt s 1 (cLineSt s 0 ((cLine0 S s a b c).1, z_uI (cLine0 S s a b c).2 4 s 2 (cLine0 S s a b c).1))))).2
set_option maxRecDepth 100000 in
set_option maxHeartbeats 4000000 in
theorem zl_66 {S : zS} {n g : Int32} (hg : (4 ≤ g) = False) (hn : z_nn n 4) (ho : z_nn (z_I S 4 s 2) 4) : zW 66 (d + 1) Q 35 [some (zr (some (4, r, s))), some (zi a), some (zi b), some (zi c), some (zi n), some (zi g)] [] (z_s m r S) 0 = zW 66 (d + 1) Q 35 [some (zr (some (4, r, s))), some (zi a), some (zi b), some (zi c), some (zi (cLineSt s g (n, S)).1), some (zi (g + 1))] [] (z_s m r (cLineSt s g (n, S)).2) 0 := by
  have h1 := fun Q => zs_68 (d := d) (r := r) (s := s) (m := z_s m r S) (Q := Q) (g := g) (by rw [z_g_ss]; exact ho)
  have h2 := fun Q => zs_67 (d := d) (r := r) (s := s) (m := z_s m r S) (Q := Q) (g := g) (n := n) (z_vi2 hn (by decide))
  have h10 : ((1 : Int32) = 0) = False := by decide
  have h00 : ((0 : Int32) = 0) = True := by decide
  rw [zu_66_35]
  simp only [↓zx_nil, ↓zx_cons, ↓zp_li, ↓zp_ll, ↓zp_lr, ↓zq_li0, ↓zq_li1, ↓zq_ll0, ↓zq_ll1, ↓zq_lr0, ↓zq_lr1, ↓zk_0, ↓zk_1n, ↓zk_1i, ↓zk_1r, ↓zk_1l, ↓zk_2, zp_okt, ↓zp_okl, zp_sh0, zp_sh1, zp_psn, zp_pss, ↓zp_ri1, ↓zp_ri20, ↓zp_ri21, ↓zp_rl, ↓zp_ra, ↓zp_rv, ↓zp_br, ↓reduceIte, Nat.reduceAdd, Nat.zero_add, Nat.add_zero, Nat.le_refl, Nat.zero_le, ↓zx_aload_0, ↓zx_iload_1, ↓zx_iconst, ↓zyc_67, ↓zy_istore, ↓zx_iload_2, ↓zx_iload, ↓zx_iload_3, ↓zyp_4_2, ↓zy_ic_ge, ↓zyc_68, ↓zy_if_ne, ↓zy_iinc, ↓zx_goto, ↓zx_ret, hg, h1, z_g_ss, zq_ss]
  unfold cLineSt
  by_cases e : cIsOrd S s g (cOrd S s) 0 = true
  · simp only [e, if_true, h10, ↓zu_66_60, ↓zx_nil, ↓zx_cons, ↓zp_li, ↓zp_ll, ↓zp_lr, ↓zq_li0, ↓zq_li1, ↓zq_ll0, ↓zq_ll1, ↓zq_lr0, ↓zq_lr1, ↓zk_0, ↓zk_1n, ↓zk_1i, ↓zk_1r, ↓zk_1l, ↓zk_2, zp_okt, ↓zp_okl, zp_sh0, zp_sh1, zp_psn, zp_pss, ↓zp_ri1, ↓zp_ri20, ↓zp_ri21, ↓zp_rl, ↓zp_ra, ↓zp_rv, ↓zp_br, ↓reduceIte, Nat.reduceAdd, Nat.zero_add, Nat.add_zero, Nat.le_refl, Nat.zero_le, ↓zx_aload_0, ↓zx_iload_1, ↓zx_iconst, ↓zyc_67, ↓zy_istore, ↓zx_iload_2, ↓zx_iload, ↓zx_iload_3, ↓zyp_4_2, ↓zy_ic_ge, ↓zyc_68, ↓zy_if_ne, ↓zy_iinc, ↓zx_goto, ↓zx_ret]
  · simp only [e, Bool.false_eq_true, if_false, h00, h2, ↓zu_66_60, ↓zx_nil, ↓zx_cons, ↓zp_li, ↓zp_ll, ↓zp_lr, ↓zq_li0, ↓zq_li1, ↓zq_ll0, ↓zq_ll1, ↓zq_lr0, ↓zq_lr1, ↓zk_0, ↓zk_1n, ↓zk_1i, ↓zk_1r, ↓zk_1l, ↓zk_2, zp_okt, ↓zp_okl, zp_sh0, zp_sh1, zp_psn, zp_pss, ↓zp_ri1, ↓zp_ri20, ↓zp_ri21, ↓zp_rl, ↓zp_ra, ↓zp_rv, ↓zp_br, ↓reduceIte, Nat.reduceAdd, Nat.zero_add, Nat.add_zero, Nat.le_refl, Nat.zero_le, ↓zx_aload_0, ↓zx_iload_1, ↓zx_iconst, ↓zyc_67, ↓zy_istore, ↓zx_iload_2, ↓zx_iload, ↓zx_iload_3, ↓zyp_4_2, ↓zy_ic_ge, ↓zyc_68, ↓zy_if_ne, ↓zy_iinc, ↓zx_goto, ↓zx_ret, z_g_ss, zq_ss]
theorem cLineSt_nn {s : Nat} {g : Int32} {p : Int32 × zS} (hn : z_nn p.1 4) (ho : z_nn (z_I p.2 4 s 2) 4) : z_nn (cLineSt s g p).1 4 ∧ z_nn (z_I (cLineSt s g p).2 4 s 2) 4 := by
  unfold cLineSt
  split
  · exact ⟨hn, ho⟩
  · exact ⟨cAppend_nn hn, by rw [cAppend_ord]; exact ho⟩
set_option maxRecDepth 100000 in
set_option maxHeartbeats 4000000 in
theorem zs_66 : z_call (d + 2) 66 [zr (some (4, r, s)), zi a, zi b, zi c] m Q = Q none (z_s m r (cLineUp (z_g m r) s a b c)) := by
  have e1 := cAppend_nn (S := z_g m r) (s := s) (g := a) z_nn0
  have e2 := cAppend_nn (S := (cAppend (z_g m r) s a 0).2) (s := s) (g := b) e1
  have e3 := cAppend_nn (S := (cAppend (cAppend (z_g m r) s a 0).2 s b (cAppend (z_g m r) s a 0).1).2) (s := s) (g := c) e2
  have h1 := fun m Q => zs_67 (d := d) (r := r) (s := s) (m := m) (Q := Q) (g := a) (n := 0) (z_vi2 z_nn0 (by decide))
  have h2 := fun m Q => zs_67 (d := d) (r := r) (s := s) (m := m) (Q := Q) (g := b) (z_vi2 e1 (by decide))
  have h3 := fun m Q => zs_67 (d := d) (r := r) (s := s) (m := m) (Q := Q) (g := c) (z_vi2 e2 (by decide))
  simp only [↓zen_66, ↓zu_66_0, ↓zx_nil, ↓zx_cons, ↓zp_li, ↓zp_ll, ↓zp_lr, ↓zq_li0, ↓zq_li1, ↓zq_ll0, ↓zq_ll1, ↓zq_lr0, ↓zq_lr1, ↓zk_0, ↓zk_1n, ↓zk_1i, ↓zk_1r, ↓zk_1l, ↓zk_2, zp_okt, ↓zp_okl, zp_sh0, zp_sh1, zp_psn, zp_pss, ↓zp_ri1, ↓zp_ri20, ↓zp_ri21, ↓zp_rl, ↓zp_ra, ↓zp_rv, ↓zp_br, ↓reduceIte, Nat.reduceAdd, Nat.zero_add, Nat.add_zero, Nat.le_refl, Nat.zero_le, ↓zx_aload_0, ↓zx_iload_1, ↓zx_iconst, ↓zyc_67, ↓zy_istore, ↓zx_iload_2, ↓zx_iload, ↓zx_iload_3, ↓zyp_4_2, ↓zy_ic_ge, ↓zyc_68, ↓zy_if_ne, ↓zy_iinc, ↓zx_goto, ↓zx_ret, h1, h2, h3, z_g_ss, zq_ss]
  have hn : z_nn (cLine0 (z_g m r) s a b c).1 4 := e3
  change zW 66 (d + 1) Q 35 [some (zr (some (4, r, s))), some (zi a), some (zi b), some (zi c), some (zi (cLine0 (z_g m r) s a b c).1), some (zi 0)] [] (z_s m r (z_uI (cLine0 (z_g m r) s a b c).2 4 s 2 (cLine0 (z_g m r) s a b c).1)) 0 = _
  have ho : z_nn (z_I (z_uI (cLine0 (z_g m r) s a b c).2 4 s 2 (cLine0 (z_g m r) s a b c).1) 4 s 2) 4 := by rw [z_I_u, if_pos ⟨rfl, rfl, rfl⟩]; exact hn
  unfold cLineUp
  obtain ⟨f0, o0⟩ := cLineSt_nn (s := s) (g := 0) (p := ((cLine0 (z_g m r) s a b c).1, z_uI (cLine0 (z_g m r) s a b c).2 4 s 2 (cLine0 (z_g m r) s a b c).1)) hn ho
  rw [zl_66 z_40 hn ho]
  generalize cLineSt s 0 ((cLine0 (z_g m r) s a b c).1, z_uI (cLine0 (z_g m r) s a b c).2 4 s 2 (cLine0 (z_g m r) s a b c).1) = p0 at f0 o0 ⊢
  obtain ⟨f1, o1⟩ := cLineSt_nn (s := s) (g := 1) f0 o0
  rw [z_01, zl_66 z_41 f0 o0]
  generalize cLineSt s 1 p0 = p1 at f1 o1 ⊢
  obtain ⟨f2, o2⟩ := cLineSt_nn (s := s) (g := 2) f1 o1
  rw [z_12, zl_66 z_42 f1 o1]
  generalize cLineSt s 2 p1 = p2 at f2 o2 ⊢
  rw [z_23, zl_66 z_43 f2 o2, z_34, zu_66_35]
  simp only [↓zu_66_66, ↓zx_nil, ↓zx_cons, ↓zp_li, ↓zp_ll, ↓zp_lr, ↓zq_li0, ↓zq_li1, ↓zq_ll0, ↓zq_ll1, ↓zq_lr0, ↓zq_lr1, ↓zk_0, ↓zk_1n, ↓zk_1i, ↓zk_1r, ↓zk_1l, ↓zk_2, zp_okt, ↓zp_okl, zp_sh0, zp_sh1, zp_psn, zp_pss, ↓zp_ri1, ↓zp_ri20, ↓zp_ri21, ↓zp_rl, ↓zp_ra, ↓zp_rv, ↓zp_br, ↓reduceIte, Nat.reduceAdd, Nat.zero_add, Nat.add_zero, Nat.le_refl, Nat.zero_le, ↓zx_aload_0, ↓zx_iload_1, ↓zx_iconst, ↓zyc_67, ↓zy_istore, ↓zx_iload_2, ↓zx_iload, ↓zx_iload_3, ↓zyp_4_2, ↓zy_ic_ge, ↓zyc_68, ↓zy_if_ne, ↓zy_iinc, ↓zx_goto, ↓zx_ret, z_44]
def cBeginS (S : zS) (s : Nat) (a b c : Int32) : zS := cLineUp (z_uI (z_uI (z_uI (z_uI (z_uI S 15 s 0 0) 15 s 1 0) 15 s 2 0) 15 s 3 0) 15 s 4 0) s a b c
set_option maxRecDepth 100000 in
set_option maxHeartbeats 4000000 in
theorem zs_65 : z_call (d + 3) 65 [zr (some (4, r, s)), zi a, zi b, zi c] m Q = Q none (z_s m r (cBeginS (z_g m r) s a b c)) := by
  simp only [↓zen_65, ↓zu_65_0, ↓zx_nil, ↓zx_cons, ↓zp_li, ↓zp_ll, ↓zp_lr, ↓zq_li0, ↓zq_li1, ↓zq_ll0, ↓zq_ll1, ↓zq_lr0, ↓zq_lr1, ↓zk_0, ↓zk_1n, ↓zk_1i, ↓zk_1r, ↓zk_1l, ↓zk_2, zp_okt, ↓zp_okl, zp_sh0, zp_sh1, zp_psn, zp_pss, ↓zp_ri1, ↓zp_ri20, ↓zp_ri21, ↓zp_rl, ↓zp_ra, ↓zp_rv, ↓zp_br, ↓reduceIte, Nat.reduceAdd, Nat.zero_add, Nat.add_zero, Nat.le_refl, Nat.zero_le, ↓zx_iconst, ↓zy_istore, ↓zx_iload, ↓zy_ic_ge, ↓zx_aload_0, ↓zyg_4_0, ↓zy_iinc, ↓zx_goto, ↓zx_iload_1, ↓zx_iload_2, ↓zx_iload_3, ↓zyc_66, ↓zx_ret, ↓zyb_15, ↓zyb_16]
  iterate 6 (rw [zu_65_3]; simp only [↓zu_65_23, ↓zx_nil, ↓zx_cons, ↓zp_li, ↓zp_ll, ↓zp_lr, ↓zq_li0, ↓zq_li1, ↓zq_ll0, ↓zq_ll1, ↓zq_lr0, ↓zq_lr1, ↓zk_0, ↓zk_1n, ↓zk_1i, ↓zk_1r, ↓zk_1l, ↓zk_2, zp_okt, ↓zp_okl, zp_sh0, zp_sh1, zp_psn, zp_pss, ↓zp_ri1, ↓zp_ri20, ↓zp_ri21, ↓zp_rl, ↓zp_ra, ↓zp_rv, ↓zp_br, ↓reduceIte, Nat.reduceAdd, Nat.zero_add, Nat.add_zero, Nat.le_refl, Nat.zero_le, ↓zx_iconst, ↓zy_istore, ↓zx_iload, ↓zy_ic_ge, ↓zx_aload_0, ↓zyg_4_0, ↓zy_iinc, ↓zx_goto, ↓zx_iload_1, ↓zx_iload_2, ↓zx_iload_3, ↓zyc_66, ↓zx_ret, ↓zyb_15, ↓zyb_16, z_50, z_51, z_52, z_53, z_54, z_55, z_01, z_12, z_23, z_34, z_45, z_v05, z_v15, z_v25, z_v35, z_v45, z_c0, z_c1', z_c2, z_c3, z_c4, true_and, z_g_ss, zq_ss, ↓zs_66])
  rfl
-- copies
def cpGu (S : zS) (i : Nat) (T : zS) (i2 : Nat) : zS := z_uJ (z_uJ (z_uI (z_uI (z_uI S 1 i 0 (z_I T 1 i2 0)) 1 i 1 (z_I T 1 i2 1)) 1 i 2 (z_I T 1 i2 2)) 1 i 3 (z_J T 1 i2 3)) 1 i 4 (z_J T 1 i2 4)
set_option maxRecDepth 100000 in
set_option maxHeartbeats 4000000 in
theorem zs_45 (h : r2 ≠ r) : z_call (d + 1) 45 [zr (some (1, r, i)), zr (some (1, r2, i2))] m Q = Q none (z_s m r (cpGu (z_g m r) i (z_g m r2) i2)) := by
  have h1 := fun S => z_g_sn (m := m) (S := S) h
  simp only [↓zen_45, ↓zu_45_0, ↓zx_nil, ↓zx_cons, ↓zp_li, ↓zp_ll, ↓zp_lr, ↓zq_li0, ↓zq_li1, ↓zq_ll0, ↓zq_ll1, ↓zq_lr0, ↓zq_lr1, ↓zk_0, ↓zk_1n, ↓zk_1i, ↓zk_1r, ↓zk_1l, ↓zk_2, zp_okt, ↓zp_okl, zp_sh0, zp_sh1, zp_psn, zp_pss, ↓zp_ri1, ↓zp_ri20, ↓zp_ri21, ↓zp_rl, ↓zp_ra, ↓zp_rv, ↓zp_br, ↓reduceIte, Nat.reduceAdd, Nat.zero_add, Nat.add_zero, Nat.le_refl, Nat.zero_le, ↓zx_aload_0, ↓zx_aload_1, ↓zyg_1_0, ↓zyp_1_0, ↓zyg_1_1, ↓zyp_1_1, ↓zyg_1_2, ↓zyp_1_2, ↓zyg_1_3, ↓zyp_1_3, ↓zyg_1_4, ↓zyp_1_4, ↓zx_ret, z_g_ss, zq_ss, h1]; rfl
def cpKi (S : zS) (i : Nat) (T : zS) (i2 : Nat) : zS := z_uI (z_uI (z_uI (z_cp (z_cp S 12 i T 12 i2) 13 i T 13 i2) 2 i 2 (z_I T 2 i2 2)) 2 i 3 (z_I T 2 i2 3)) 2 i 4 (z_I T 2 i2 4)
set_option maxRecDepth 100000 in
set_option maxHeartbeats 4000000 in
theorem zs_49 (h : r2 ≠ r) : z_call (d + 1) 49 [zr (some (2, r, i)), zr (some (2, r2, i2))] m Q = Q none (z_s m r (cpKi (z_g m r) i (z_g m r2) i2)) := by
  have h1 := fun S => z_g_sn (m := m) (S := S) h
  simp only [↓zen_49, ↓zu_49_0, ↓zx_nil, ↓zx_cons, ↓zp_li, ↓zp_ll, ↓zp_lr, ↓zq_li0, ↓zq_li1, ↓zq_ll0, ↓zq_ll1, ↓zq_lr0, ↓zq_lr1, ↓zk_0, ↓zk_1n, ↓zk_1i, ↓zk_1r, ↓zk_1l, ↓zk_2, zp_okt, ↓zp_okl, zp_sh0, zp_sh1, zp_psn, zp_pss, ↓zp_ri1, ↓zp_ri20, ↓zp_ri21, ↓zp_rl, ↓zp_ra, ↓zp_rv, ↓zp_br, ↓reduceIte, Nat.reduceAdd, Nat.zero_add, Nat.add_zero, Nat.le_refl, Nat.zero_le, ↓zx_aload_1, ↓zyg_2_0, ↓zx_iconst, ↓zx_aload_0, ↓zx_bipush, ↓zy_cp12, ↓zy_cp13, ↓zy_cp14, ↓zy_cp15, ↓zy_cp16, ↓zyg_2_1, ↓zyg_2_2, ↓zyp_2_2, ↓zyg_2_3, ↓zyp_2_3, ↓zyg_2_4, ↓zyp_2_4, ↓zx_ret, z_g_ss, zq_ss, h1, h, ne_eq, not_false_eq_true, true_and]; rfl
def cpLo (S : zS) (i : Nat) (T : zS) (i2 : Nat) : zS :=
  z_cp (z_uJ (z_uJ (z_uI (z_uI (z_uI (z_uI (z_uI (z_uI (z_uI (z_uI (z_uI (z_uI (z_uI (z_uI (z_uI S 3 i 0 (z_I T 3 i2 0)) 3 i 1 (z_I T 3 i2 1)) 3 i 2 (z_I T 3 i2 2)) 3 i 3 (z_I T 3 i2 3)) 3 i 4 (z_I T 3 i2 4)) 3 i 5 (z_I T 3 i2 5)) 3 i 6 (z_I T 3 i2 6)) 3 i 7 (z_I T 3 i2 7)) 3 i 8 (z_I T 3 i2 8)) 3 i 9 (z_I T 3 i2 9)) 3 i 10 (z_I T 3 i2 10)) 3 i 11 (z_I T 3 i2 11)) 3 i 12 (z_I T 3 i2 12)) 3 i 13 (z_J T 3 i2 13)) 3 i 14 (z_J T 3 i2 14)) 14 i T 14 i2
set_option maxRecDepth 100000 in
set_option maxHeartbeats 4000000 in
theorem zs_58 (h : r2 ≠ r) : z_call (d + 1) 58 [zr (some (3, r, i)), zr (some (3, r2, i2))] m Q = Q none (z_s m r (cpLo (z_g m r) i (z_g m r2) i2)) := by
  have h1 := fun S => z_g_sn (m := m) (S := S) h
  simp only [↓zen_58, ↓zu_58_0, ↓zx_nil, ↓zx_cons, ↓zp_li, ↓zp_ll, ↓zp_lr, ↓zq_li0, ↓zq_li1, ↓zq_ll0, ↓zq_ll1, ↓zq_lr0, ↓zq_lr1, ↓zk_0, ↓zk_1n, ↓zk_1i, ↓zk_1r, ↓zk_1l, ↓zk_2, zp_okt, ↓zp_okl, zp_sh0, zp_sh1, zp_psn, zp_pss, ↓zp_ri1, ↓zp_ri20, ↓zp_ri21, ↓zp_rl, ↓zp_ra, ↓zp_rv, ↓zp_br, ↓reduceIte, Nat.reduceAdd, Nat.zero_add, Nat.add_zero, Nat.le_refl, Nat.zero_le, ↓zx_aload_0, ↓zx_aload_1, ↓zyg_3_0, ↓zyp_3_0, ↓zyg_3_1, ↓zyp_3_1, ↓zyg_3_2, ↓zyp_3_2, ↓zyg_3_3, ↓zyp_3_3, ↓zyg_3_4, ↓zyp_3_4, ↓zyg_3_5, ↓zyp_3_5, ↓zyg_3_6, ↓zyp_3_6, ↓zyg_3_7, ↓zyp_3_7, ↓zyg_3_8, ↓zyp_3_8, ↓zyg_3_9, ↓zyp_3_9, ↓zyg_3_10, ↓zyp_3_10, ↓zyg_3_11, ↓zyp_3_11, ↓zyg_3_12, ↓zyp_3_12, ↓zyg_3_13, ↓zyp_3_13, ↓zyg_3_14, ↓zyp_3_14, ↓zyg_3_15, ↓zx_iconst, ↓zy_cp12, ↓zy_cp13, ↓zy_cp14, ↓zy_cp15, ↓zy_cp16, ↓zx_ret, z_g_ss, zq_ss, h1, h, ne_eq, not_false_eq_true, true_and]; rfl
def cpSr (S : zS) (i : Nat) (T : zS) (i2 : Nat) : zS := z_uI (z_cp (z_cp S 15 i T 15 i2) 16 i T 16 i2) 4 i 2 (z_I T 4 i2 2)
set_option maxRecDepth 100000 in
set_option maxHeartbeats 4000000 in
theorem zs_64 (h : r2 ≠ r) : z_call (d + 1) 64 [zr (some (4, r, i)), zr (some (4, r2, i2))] m Q = Q none (z_s m r (cpSr (z_g m r) i (z_g m r2) i2)) := by
  have h1 := fun S => z_g_sn (m := m) (S := S) h
  simp only [↓zen_64, ↓zu_64_0, ↓zx_nil, ↓zx_cons, ↓zp_li, ↓zp_ll, ↓zp_lr, ↓zq_li0, ↓zq_li1, ↓zq_ll0, ↓zq_ll1, ↓zq_lr0, ↓zq_lr1, ↓zk_0, ↓zk_1n, ↓zk_1i, ↓zk_1r, ↓zk_1l, ↓zk_2, zp_okt, ↓zp_okl, zp_sh0, zp_sh1, zp_psn, zp_pss, ↓zp_ri1, ↓zp_ri20, ↓zp_ri21, ↓zp_rl, ↓zp_ra, ↓zp_rv, ↓zp_br, ↓reduceIte, Nat.reduceAdd, Nat.zero_add, Nat.add_zero, Nat.le_refl, Nat.zero_le, ↓zx_aload_1, ↓zyg_4_0, ↓zx_iconst, ↓zx_aload_0, ↓zy_cp12, ↓zy_cp13, ↓zy_cp14, ↓zy_cp15, ↓zy_cp16, ↓zyg_4_1, ↓zyg_4_2, ↓zyp_4_2, ↓zx_ret, z_g_ss, zq_ss, h1, h, ne_eq, not_false_eq_true, true_and]; rfl
-- a Book: questions without loops
def cHas (n g : Int32) : Prop := 0 ≤ g ∧ g < n
set_option maxRecDepth 100000 in
set_option maxHeartbeats 4000000 in
theorem zs_10 : z_call (d + 1) 10 [zr (some (0, r, 0)), zi v] m Q = Q (some (zi (if 0 ≤ v ∧ v < z_I (z_g m r) 0 0 3 then 1 else 0))) m := by
  simp only [↓zen_10, ↓zu_10_0, ↓zu_10_16, ↓zu_10_17, ↓zx_nil, ↓zx_cons, ↓zp_li, ↓zp_ll, ↓zp_lr, ↓zq_li0, ↓zq_li1, ↓zq_ll0, ↓zq_ll1, ↓zq_lr0, ↓zq_lr1, ↓zk_0, ↓zk_1n, ↓zk_1i, ↓zk_1r, ↓zk_1l, ↓zk_2, zp_okt, ↓zp_okl, zp_sh0, zp_sh1, zp_psn, zp_pss, ↓zp_ri1, ↓zp_ri20, ↓zp_ri21, ↓zp_rl, ↓zp_ra, ↓zp_rv, ↓zp_br, ↓reduceIte, Nat.reduceAdd, Nat.zero_add, Nat.add_zero, Nat.le_refl, Nat.zero_le, ↓zx_iload_1, ↓zy_if_lt, ↓zx_aload_0, ↓zyg_0_3, ↓zy_ic_ge, ↓zx_iconst, ↓zx_goto, ↓zx_iret, ← Int32.not_lt]; grind
set_option maxRecDepth 100000 in
set_option maxHeartbeats 4000000 in
theorem zs_15 : z_call (d + 1) 15 [zr (some (0, r, 0)), zi v] m Q = Q (some (zi (if 0 ≤ v ∧ v < z_I (z_g m r) 0 0 4 then 1 else 0))) m := by
  simp only [↓zen_15, ↓zu_15_0, ↓zu_15_16, ↓zu_15_17, ↓zx_nil, ↓zx_cons, ↓zp_li, ↓zp_ll, ↓zp_lr, ↓zq_li0, ↓zq_li1, ↓zq_ll0, ↓zq_ll1, ↓zq_lr0, ↓zq_lr1, ↓zk_0, ↓zk_1n, ↓zk_1i, ↓zk_1r, ↓zk_1l, ↓zk_2, zp_okt, ↓zp_okl, zp_sh0, zp_sh1, zp_psn, zp_pss, ↓zp_ri1, ↓zp_ri20, ↓zp_ri21, ↓zp_rl, ↓zp_ra, ↓zp_rv, ↓zp_br, ↓reduceIte, Nat.reduceAdd, Nat.zero_add, Nat.add_zero, Nat.le_refl, Nat.zero_le, ↓zx_iload_1, ↓zy_if_lt, ↓zx_aload_0, ↓zyg_0_4, ↓zy_ic_ge, ↓zx_iconst, ↓zx_goto, ↓zx_iret, ← Int32.not_lt]; grind
set_option maxRecDepth 100000 in
set_option maxHeartbeats 4000000 in
theorem zs_19 : z_call (d + 1) 19 [zr (some (0, r, 0)), zi v] m Q = Q (some (zi (if 0 ≤ v ∧ v < z_I (z_g m r) 0 0 5 then 1 else 0))) m := by
  simp only [↓zen_19, ↓zu_19_0, ↓zu_19_16, ↓zu_19_17, ↓zx_nil, ↓zx_cons, ↓zp_li, ↓zp_ll, ↓zp_lr, ↓zq_li0, ↓zq_li1, ↓zq_ll0, ↓zq_ll1, ↓zq_lr0, ↓zq_lr1, ↓zk_0, ↓zk_1n, ↓zk_1i, ↓zk_1r, ↓zk_1l, ↓zk_2, zp_okt, ↓zp_okl, zp_sh0, zp_sh1, zp_psn, zp_pss, ↓zp_ri1, ↓zp_ri20, ↓zp_ri21, ↓zp_rl, ↓zp_ra, ↓zp_rv, ↓zp_br, ↓reduceIte, Nat.reduceAdd, Nat.zero_add, Nat.add_zero, Nat.le_refl, Nat.zero_le, ↓zx_iload_1, ↓zy_if_lt, ↓zx_aload_0, ↓zyg_0_5, ↓zy_ic_ge, ↓zx_iconst, ↓zx_goto, ↓zx_iret, ← Int32.not_lt]; grind
set_option maxRecDepth 100000 in
set_option maxHeartbeats 4000000 in
theorem zs_13 : z_call (d + 1) 13 [zi v, zi w] m Q = Q (some (zi (if v = w ∧ ¬ v = -1 then 1 else 0))) m := by
  simp only [↓zen_13, ↓zu_13_0, ↓zu_13_14, ↓zu_13_15, ↓zx_nil, ↓zx_cons, ↓zp_li, ↓zp_ll, ↓zp_lr, ↓zq_li0, ↓zq_li1, ↓zq_ll0, ↓zq_ll1, ↓zq_lr0, ↓zq_lr1, ↓zk_0, ↓zk_1n, ↓zk_1i, ↓zk_1r, ↓zk_1l, ↓zk_2, zp_okt, ↓zp_okl, zp_sh0, zp_sh1, zp_psn, zp_pss, ↓zp_ri1, ↓zp_ri20, ↓zp_ri21, ↓zp_rl, ↓zp_ra, ↓zp_rv, ↓zp_br, ↓reduceIte, Nat.reduceAdd, Nat.zero_add, Nat.add_zero, Nat.le_refl, Nat.zero_le, ↓zx_iload_0, ↓zx_iload_1, ↓zy_ic_ne, ↓zx_iconst, ↓zy_ic_eq, ↓zx_goto, ↓zx_iret]; grind
theorem z_10 : ((1 : Int32) = 0) = False := by decide
theorem z_00 : ((0 : Int32) = 0) = True := by decide
theorem z_i10 {c : Prop} [Decidable c] : ((if c then (1 : Int32) else 0) = 0) = ¬ c := by by_cases h : c <;> simp [h]
set_option maxRecDepth 100000 in
set_option maxHeartbeats 4000000 in
theorem zs_12 : z_call (d + 2) 12 [zr (some (0, r, 0)), zi v] m Q = Q (some (zi (if v = -1 ∨ (0 ≤ v ∧ v < z_I (z_g m r) 0 0 3) then 1 else 0))) m := by
  simp only [↓zen_12, ↓zu_12_0, ↓zu_12_13, ↓zu_12_17, ↓zu_12_18, ↓zx_nil, ↓zx_cons, ↓zp_li, ↓zp_ll, ↓zp_lr, ↓zq_li0, ↓zq_li1, ↓zq_ll0, ↓zq_ll1, ↓zq_lr0, ↓zq_lr1, ↓zk_0, ↓zk_1n, ↓zk_1i, ↓zk_1r, ↓zk_1l, ↓zk_2, zp_okt, ↓zp_okl, zp_sh0, zp_sh1, zp_psn, zp_pss, ↓zp_ri1, ↓zp_ri20, ↓zp_ri21, ↓zp_rl, ↓zp_ra, ↓zp_rv, ↓zp_br, ↓reduceIte, Nat.reduceAdd, Nat.zero_add, Nat.add_zero, Nat.le_refl, Nat.zero_le, ↓zx_iload_1, ↓zx_iconst, ↓zy_ic_eq, ↓zx_aload_0, ↓zyc_10, ↓zy_if_eq, ↓zx_goto, ↓zx_iret, ↓zs_10, z_i10]; grind
def cIsOrder (S : zS) (a b c : Int32) : Prop := (a = -1 ∨ (0 ≤ a ∧ a < z_I S 0 0 3)) ∧ (b = -1 ∨ (0 ≤ b ∧ b < z_I S 0 0 3)) ∧ (c = -1 ∨ (0 ≤ c ∧ c < z_I S 0 0 3)) ∧ ¬ (a = b ∧ ¬ a = -1) ∧ ¬ (a = c ∧ ¬ a = -1) ∧ ¬ (b = c ∧ ¬ b = -1)
set_option maxRecDepth 100000 in
set_option maxHeartbeats 4000000 in
theorem zs_11 [Decidable (cIsOrder (z_g m r) a b c)] : z_call (d + 3) 11 [zr (some (0, r, 0)), zi a, zi b, zi c] m Q = Q (some (zi (if cIsOrder (z_g m r) a b c then 1 else 0))) m := by
  simp only [↓zen_11, ↓zu_11_0, ↓zu_11_52, ↓zu_11_53, ↓zx_nil, ↓zx_cons, ↓zp_li, ↓zp_ll, ↓zp_lr, ↓zq_li0, ↓zq_li1, ↓zq_ll0, ↓zq_ll1, ↓zq_lr0, ↓zq_lr1, ↓zk_0, ↓zk_1n, ↓zk_1i, ↓zk_1r, ↓zk_1l, ↓zk_2, zp_okt, ↓zp_okl, zp_sh0, zp_sh1, zp_psn, zp_pss, ↓zp_ri1, ↓zp_ri20, ↓zp_ri21, ↓zp_rl, ↓zp_ra, ↓zp_rv, ↓zp_br, ↓reduceIte, Nat.reduceAdd, Nat.zero_add, Nat.add_zero, Nat.le_refl, Nat.zero_le, ↓zx_aload_0, ↓zx_iload_1, ↓zyc_12, ↓zy_if_eq, ↓zx_iload_2, ↓zx_iload_3, ↓zyc_13, ↓zy_if_ne, ↓zx_iconst, ↓zx_goto, ↓zx_iret, ↓zs_12, ↓zs_13, z_i10]
  unfold cIsOrder
  grind
set_option maxRecDepth 100000 in
set_option maxHeartbeats 4000000 in
theorem zs_29 {v w : Int32} : z_call (d + 1) 29 [zr (some (0, r, 0)), zr (some (3, r, i)), zi v, zi w] m Q = Q (some (zi (if z_I (z_g m r) 3 i 0 = 1 ∧ z_I (z_g m r) 3 i 2 = v ∧ z_I (z_g m r) 3 i 3 = w then 1 else 0))) m := by
  simp only [↓zen_29, ↓zu_29_0, ↓zu_29_28, ↓zu_29_29, ↓zx_nil, ↓zx_cons, ↓zp_li, ↓zp_ll, ↓zp_lr, ↓zq_li0, ↓zq_li1, ↓zq_ll0, ↓zq_ll1, ↓zq_lr0, ↓zq_lr1, ↓zk_0, ↓zk_1n, ↓zk_1i, ↓zk_1r, ↓zk_1l, ↓zk_2, zp_okt, ↓zp_okl, zp_sh0, zp_sh1, zp_psn, zp_pss, ↓zp_ri1, ↓zp_ri20, ↓zp_ri21, ↓zp_rl, ↓zp_ra, ↓zp_rv, ↓zp_br, ↓reduceIte, Nat.reduceAdd, Nat.zero_add, Nat.add_zero, Nat.le_refl, Nat.zero_le, ↓zx_aload_1, ↓zyg_3_0, ↓zx_iconst, ↓zy_ic_ne, ↓zyg_3_2, ↓zx_iload_2, ↓zyg_3_3, ↓zx_iload_3, ↓zx_goto, ↓zx_iret]; grind
def cLastOut (S : zS) (i : Nat) : Int32 := if cLatest S i < z_I S 0 0 0 then cLatest S i else z_I S 0 0 0
set_option maxRecDepth 100000 in
set_option maxHeartbeats 4000000 in
theorem zs_22 : z_call (d + 2) 22 [zr (some (0, r, 0)), zr (some (3, r, i))] m Q = Q (some (zi (cLastOut (z_g m r) i))) m := by
  simp only [↓zen_22, ↓zu_22_0, ↓zx_nil, ↓zx_cons, ↓zp_li, ↓zp_ll, ↓zp_lr, ↓zq_li0, ↓zq_li1, ↓zq_ll0, ↓zq_ll1, ↓zq_lr0, ↓zq_lr1, ↓zk_0, ↓zk_1n, ↓zk_1i, ↓zk_1r, ↓zk_1l, ↓zk_2, zp_okt, ↓zp_okl, zp_sh0, zp_sh1, zp_psn, zp_pss, ↓zp_ri1, ↓zp_ri20, ↓zp_ri21, ↓zp_rl, ↓zp_ra, ↓zp_rv, ↓zp_br, ↓reduceIte, Nat.reduceAdd, Nat.zero_add, Nat.add_zero, Nat.le_refl, Nat.zero_le, ↓zx_aload_0, ↓zyg_0_0, ↓zx_aload_1, ↓zyc_60, ↓zy_min, ↓zx_iret, ↓zs_60]; rfl
set_option maxRecDepth 100000 in
set_option maxHeartbeats 4000000 in
theorem zs_21 : z_call (d + 3) 21 [zr (some (0, r, 0)), zr (some (3, r, i)), zi v] m Q = Q (some (zi (if z_I (z_g m r) 3 i 7 ≤ v ∧ v ≤ cLastOut (z_g m r) i then 1 else 0))) m := by
  simp only [↓zen_21, ↓zu_21_0, ↓zu_21_21, ↓zu_21_22, ↓zx_nil, ↓zx_cons, ↓zp_li, ↓zp_ll, ↓zp_lr, ↓zq_li0, ↓zq_li1, ↓zq_ll0, ↓zq_ll1, ↓zq_lr0, ↓zq_lr1, ↓zk_0, ↓zk_1n, ↓zk_1i, ↓zk_1r, ↓zk_1l, ↓zk_2, zp_okt, ↓zp_okl, zp_sh0, zp_sh1, zp_psn, zp_pss, ↓zp_ri1, ↓zp_ri20, ↓zp_ri21, ↓zp_rl, ↓zp_ra, ↓zp_rv, ↓zp_br, ↓reduceIte, Nat.reduceAdd, Nat.zero_add, Nat.add_zero, Nat.le_refl, Nat.zero_le, ↓zx_iload_2, ↓zx_aload_1, ↓zyg_3_7, ↓zy_ic_lt, ↓zx_aload_0, ↓zyc_22, ↓zy_ic_gt, ↓zx_iconst, ↓zx_goto, ↓zx_iret, ↓zs_22, ← Int32.not_lt]; grind
set_option maxRecDepth 100000 in
set_option maxHeartbeats 4000000 in
theorem zs_35 : z_call (d + 2) 35 [zr (some (0, r, 0)), zr (some (3, r, i))] m Q = Q (some (zi (if cLatest (z_g m r) i + z_I (z_g m r) 0 0 1 < z_I (z_g m r) 0 0 0 then 1 else 0))) m := by
  simp only [↓zen_35, ↓zu_35_0, ↓zu_35_20, ↓zu_35_21, ↓zx_nil, ↓zx_cons, ↓zp_li, ↓zp_ll, ↓zp_lr, ↓zq_li0, ↓zq_li1, ↓zq_ll0, ↓zq_ll1, ↓zq_lr0, ↓zq_lr1, ↓zk_0, ↓zk_1n, ↓zk_1i, ↓zk_1r, ↓zk_1l, ↓zk_2, zp_okt, ↓zp_okl, zp_sh0, zp_sh1, zp_psn, zp_pss, ↓zp_ri1, ↓zp_ri20, ↓zp_ri21, ↓zp_rl, ↓zp_ra, ↓zp_rv, ↓zp_br, ↓reduceIte, Nat.reduceAdd, Nat.zero_add, Nat.add_zero, Nat.le_refl, Nat.zero_le, ↓zx_aload_1, ↓zyc_60, ↓zx_aload_0, ↓zyg_0_1, ↓zy_iadd, ↓zyg_0_0, ↓zy_ic_ge, ↓zx_iconst, ↓zx_goto, ↓zx_iret, ↓zs_60, ← Int32.not_lt]; grind
set_option maxRecDepth 100000 in
set_option maxHeartbeats 4000000 in
theorem zs_41 : z_call (d + 2) 41 [zr (some (0, r, 0)), zr (some (3, r, i))] m Q = Q (some (zi (if cLatest (z_g m r) i < z_I (z_g m r) 0 0 0 then 1 else 0))) m := by
  simp only [↓zen_41, ↓zu_41_0, ↓zu_41_15, ↓zu_41_16, ↓zx_nil, ↓zx_cons, ↓zp_li, ↓zp_ll, ↓zp_lr, ↓zq_li0, ↓zq_li1, ↓zq_ll0, ↓zq_ll1, ↓zq_lr0, ↓zq_lr1, ↓zk_0, ↓zk_1n, ↓zk_1i, ↓zk_1r, ↓zk_1l, ↓zk_2, zp_okt, ↓zp_okl, zp_sh0, zp_sh1, zp_psn, zp_pss, ↓zp_ri1, ↓zp_ri20, ↓zp_ri21, ↓zp_rl, ↓zp_ra, ↓zp_rv, ↓zp_br, ↓reduceIte, Nat.reduceAdd, Nat.zero_add, Nat.add_zero, Nat.le_refl, Nat.zero_le, ↓zx_aload_1, ↓zyc_60, ↓zx_aload_0, ↓zyg_0_0, ↓zy_ic_ge, ↓zx_iconst, ↓zx_goto, ↓zx_iret, ↓zs_60, ← Int32.not_lt]; grind
abbrev cKd (S : zS) (i : Nat) : Nat := (z_I S 3 i 3).toNatClampNeg
def cAllowed (S : zS) (i : Nat) (sh : Int32) : Int32 := if cAllow S (cKd S i) (z_I S 3 i 4) (cLastOut S i - z_I S 3 i 7) < sh then cAllow S (cKd S i) (z_I S 3 i 4) (cLastOut S i - z_I S 3 i 7) else sh
set_option maxRecDepth 100000 in
set_option maxHeartbeats 4000000 in
theorem zs_25 (h : vp_in (z_I (z_g m r) 3 i 3) 5) : z_call (d + 3) 25 [zr (some (0, r, 0)), zr (some (3, r, i)), zi v] m Q = Q (some (zi (cAllowed (z_g m r) i v))) m := by
  simp only [↓zen_25, ↓zu_25_0, ↓zx_nil, ↓zx_cons, ↓zp_li, ↓zp_ll, ↓zp_lr, ↓zq_li0, ↓zq_li1, ↓zq_ll0, ↓zq_ll1, ↓zq_lr0, ↓zq_lr1, ↓zk_0, ↓zk_1n, ↓zk_1i, ↓zk_1r, ↓zk_1l, ↓zk_2, zp_okt, ↓zp_okl, zp_sh0, zp_sh1, zp_psn, zp_pss, ↓zp_ri1, ↓zp_ri20, ↓zp_ri21, ↓zp_rl, ↓zp_ra, ↓zp_rv, ↓zp_br, ↓reduceIte, Nat.reduceAdd, Nat.zero_add, Nat.add_zero, Nat.le_refl, Nat.zero_le, ↓zx_aload_0, ↓zx_aload_1, ↓zyc_22, ↓zyg_3_7, ↓zy_isub, ↓zy_istore_3, ↓zx_iload_2, ↓zyg_0_8, ↓zyg_3_3, ↓zya_7, ↓zya_8, ↓zya_9, ↓zya_10, ↓zya_17, ↓zya_18, ↓zyg_3_4, ↓zx_iload_3, ↓zyc_55, ↓zy_min, ↓zx_iret, ↓zs_22, ↓zs_55, eq_true h, true_and]; rfl
def cDuty (S : zS) (i : Nat) (du loss : Int32) : Int32 := du * cRate S (cKd S i) loss
set_option maxRecDepth 100000 in
set_option maxHeartbeats 4000000 in
theorem zs_26 (h : vp_in (z_I (z_g m r) 3 i 3) 5) (ht : z_nn (z_I (z_g m r) 2 (cKd (z_g m r) i) 2) 13) : z_call (d + 2) 26 [zr (some (0, r, 0)), zr (some (3, r, i)), zi v, zi w] m Q = Q (some (zi (cDuty (z_g m r) i v w))) m := by
  have h1 := fun Q => zs_54 (d := d) (r := r) (m := m) (Q := Q) (day := w) ht
  unfold cKd at h1
  simp only [↓zen_26, ↓zu_26_0, ↓zx_nil, ↓zx_cons, ↓zp_li, ↓zp_ll, ↓zp_lr, ↓zq_li0, ↓zq_li1, ↓zq_ll0, ↓zq_ll1, ↓zq_lr0, ↓zq_lr1, ↓zk_0, ↓zk_1n, ↓zk_1i, ↓zk_1r, ↓zk_1l, ↓zk_2, zp_okt, ↓zp_okl, zp_sh0, zp_sh1, zp_psn, zp_pss, ↓zp_ri1, ↓zp_ri20, ↓zp_ri21, ↓zp_rl, ↓zp_ra, ↓zp_rv, ↓zp_br, ↓reduceIte, Nat.reduceAdd, Nat.zero_add, Nat.add_zero, Nat.le_refl, Nat.zero_le, ↓zx_iload_2, ↓zx_aload_0, ↓zyg_0_8, ↓zx_aload_1, ↓zyg_3_3, ↓zya_7, ↓zya_8, ↓zya_9, ↓zya_10, ↓zya_17, ↓zya_18, ↓zx_iload_3, ↓zyc_54, ↓zy_imul, ↓zx_iret, ↓h1, eq_true h, true_and]; rfl
def cNeed (S : zS) (i : Nat) : Int32 := if z_I S 3 i 0 = 0 then cRest S i * cGr S (cKd S i) (z_I S 0 0 0) (z_I S 0 0 0 + z_I S 3 i 5) else if z_I S 3 i 0 = 1 then cRest S i * cGr S (cKd S i) (z_I S 3 i 7) (cLatest S i) else 0
set_option maxRecDepth 100000 in
set_option maxHeartbeats 4000000 in
theorem zs_7 (h : vp_in (z_I (z_g m r) 3 i 3) 5) (ht : z_nn (z_I (z_g m r) 2 (cKd (z_g m r) i) 2) 13) : z_call (d + 3) 7 [zr (some (0, r, 0)), zr (some (3, r, i))] m Q = Q (some (zi (cNeed (z_g m r) i))) m := by
  have h1 := fun f l Q => zs_50 (d := d) (r := r) (m := m) (Q := Q) (first := f) (last := l) ht
  unfold cKd at h1
  simp only [↓zen_7, ↓zu_7_0, ↓zu_7_38, ↓zu_7_72, ↓zx_nil, ↓zx_cons, ↓zp_li, ↓zp_ll, ↓zp_lr, ↓zq_li0, ↓zq_li1, ↓zq_ll0, ↓zq_ll1, ↓zq_lr0, ↓zq_lr1, ↓zk_0, ↓zk_1n, ↓zk_1i, ↓zk_1r, ↓zk_1l, ↓zk_2, zp_okt, ↓zp_okl, zp_sh0, zp_sh1, zp_psn, zp_pss, ↓zp_ri1, ↓zp_ri20, ↓zp_ri21, ↓zp_rl, ↓zp_ra, ↓zp_rv, ↓zp_br, ↓reduceIte, Nat.reduceAdd, Nat.zero_add, Nat.add_zero, Nat.le_refl, Nat.zero_le, ↓zx_aload_1, ↓zyg_3_0, ↓zy_if_ne, ↓zyc_59, ↓zx_aload_0, ↓zyg_0_8, ↓zyg_3_3, ↓zya_7, ↓zya_8, ↓zya_9, ↓zya_10, ↓zya_17, ↓zya_18, ↓zyg_0_0, ↓zyg_3_5, ↓zy_iadd, ↓zyc_50, ↓zy_imul, ↓zx_iret, ↓zx_iconst, ↓zy_ic_ne, ↓zyg_3_7, ↓zyc_60, ↓zs_59, ↓zs_60, ↓h1, eq_true h, true_and, cNeed, cKd]
  grind
end Leaf3
