/-! ===== THE CLASS: BondStores, questions (5) ===== -/
section Bs10
variable {d r i k g s r2 i2 l : Nat} {m : zM} {Q : zQ} {v w a b c e f x y : Int32}
theorem z_nn_nI {a b : Nat} (h : a ≤ b) (hb : b < 2 ^ 31) : z_nn (nI a) b := ⟨nI_pos' (by omega), by rw [nI_clamp (by omega)]; exact h⟩
-- 35 behind
def qBehS (S : zS) (g : Nat) (i : Nat) (p : Int32 × Int32 × Int32 × Int32) : Int32 × Int32 × Int32 × Int32 :=
  if z_I S 3 i 0 = 1 ∧ ¬ z_I S 14 i g ≤ 0 then (p.1 + 1, if p.2.1 = -1 ∨ ¬ z_I S 14 i g ≤ z_I S 14 p.2.1.toNatClampNeg g then nI i else p.2.1, if p.2.2.1 < cLatest S i then cLatest S i else p.2.2.1, p.2.2.2 + if cLatest S i < z_I S 0 0 0 then z_I S 14 i g else 0) else p
def qBeh (S : zS) (g n i : Nat) (p : Int32 × Int32 × Int32 × Int32) : Int32 × Int32 × Int32 × Int32 := z_it (qBehS S g) n i p
def qBehind (S : zS) (g : Nat) (w : Int32) : Int32 := z_ch w (-1) 0 [(qBeh S g (cL S) 0 (0, -1, -1, 0)).1, (qBeh S g (cL S) 0 (0, -1, -1, 0)).2.1, (qBeh S g (cL S) 0 (0, -1, -1, 0)).2.2.1, (qBeh S g (cL S) 0 (0, -1, -1, 0)).2.2.2]
set_option maxRecDepth 100000 in
set_option maxHeartbeats 4000000 in
theorem zl_111 {t : Nat} (ht : t ≤ 40) (hg : z_I (z_g m 2) 0 0 5 = nI t) (hv : vp_in v 4) : ∀ (n i : Nat) (p : Int32 × Int32 × Int32 × Int32) (o8 o9 : Option zV), i + n = t → (p.2.1 = -1 ∨ vp_in p.2.1 40) → zW 111 (d + 2) Q 27 [some (zr (some (5, 0, 0))), some (zi v), some (zi w), some (zi p.1), some (zi p.2.1), some (zi p.2.2.1), some (zi p.2.2.2), some (zi (nI i)), o8, o9] [] m 0 = Q (some (zi (z_ch w (-1) 0 [(qBeh (z_g m 2) v.toNatClampNeg n i p).1, (qBeh (z_g m 2) v.toNatClampNeg n i p).2.1, (qBeh (z_g m 2) v.toNatClampNeg n i p).2.2.1, (qBeh (z_g m 2) v.toNatClampNeg n i p).2.2.2]))) m := by
  intro n
  induction n with
  | zero =>
    intro i p o8 o9 hi hp
    have h1 := z_le1 (show t ≤ i by omega) (by omega)
    rw [zu_111_27]
    simp only [↓zu_111_148, ↓zu_111_180, ↓zu_111_182, ↓zu_111_185, ↓zu_111_188, ↓zu_111_191, ↓zx_nil, ↓zx_cons, ↓zp_li, ↓zp_ll, ↓zp_lr, ↓zq_li0, ↓zq_li1, ↓zq_ll0, ↓zq_ll1, ↓zq_lr0, ↓zq_lr1, ↓zk_0, ↓zk_1n, ↓zk_1i, ↓zk_1r, ↓zk_1l, ↓zk_2, zp_okt, ↓zp_okl, zp_sh0, zp_sh1, zp_psn, zp_pss, ↓zp_ri1, ↓zp_ri20, ↓zp_ri21, ↓zp_rl, ↓zp_ra, ↓zp_rv, ↓zp_br, ↓reduceIte, Nat.reduceAdd, Nat.zero_add, Nat.add_zero, Nat.le_refl, Nat.zero_le, ↓zx_aload_0, ↓zyg_5_0, ↓zx_iload_1, ↓zyc_10, ↓zy_if_ne, ↓zx_iconst, ↓zx_iret, ↓zy_istore_3, ↓zy_istore, ↓zx_iload, ↓zyg_0_5, ↓zy_ic_ge, ↓zyg_0_9, ↓zya_7, ↓zya_8, ↓zya_9, ↓zya_10, ↓zya_17, ↓zya_18, ↓zy_astore, ↓zx_aload, ↓zyg_3_15, ↓zyg_3_0, ↓zy_ic_ne, ↓zy_if_le, ↓zy_iinc, ↓zy_ic_eq, ↓zy_ic_le, ↓zyc_60, ↓zy_max, ↓zyc_41, ↓zy_if_eq, ↓zx_goto, ↓zy_iadd, ↓zx_iload_2, ↓zt_0_4, ↓zt_0_3, ↓zt_0_15, ↓zt_0_19, ↓zt_9_10, Int.cast_ofNat_Int, Int.reduceAdd, Int.reduceToNat, ↓zx_iload_3, ↓zya_19, ↓zya_20, ↓zya_11, ↓zya_12, ↓zya_13, ↓zya_14, ↓zya_15, ↓zya_16, hg, h1, if_true]
    exact z_ch_f (fun t => Q (some (zi t)) m) w _ [_, _, _, _] 0
  | succ n ih =>
    intro i p o8 o9 hi hp
    have h1 := z_le0 (show i < t by omega) (by omega)
    have h2 := z_vi1 (show i < 40 by omega) (by decide)
    have h3 := nI_clamp (show i < 2 ^ 31 by omega)
    rw [zu_111_27]
    show _ = Q (some (zi (z_ch w (-1) 0 [(qBeh (z_g m 2) v.toNatClampNeg n (i + 1) (qBehS (z_g m 2) v.toNatClampNeg i p)).1, (qBeh (z_g m 2) v.toNatClampNeg n (i + 1) (qBehS (z_g m 2) v.toNatClampNeg i p)).2.1, (qBeh (z_g m 2) v.toNatClampNeg n (i + 1) (qBehS (z_g m 2) v.toNatClampNeg i p)).2.2.1, (qBeh (z_g m 2) v.toNatClampNeg n (i + 1) (qBehS (z_g m 2) v.toNatClampNeg i p)).2.2.2]))) m
    rcases Classical.em (z_I (z_g m 2) 3 i 0 = 1) with h4 | h4
    · have h4 := eq_true h4
      rcases Classical.em (z_I (z_g m 2) 14 i v.toNatClampNeg ≤ 0) with h5 | h5
      · have hE : qBehS (z_g m 2) v.toNatClampNeg i p = p := by unfold qBehS; rw [if_neg fun q => q.2 h5]
        rw [hE]
        simp only [↓zu_111_103, ↓zu_111_107, ↓zu_111_138, ↓zu_111_139, ↓zu_111_142, ↓zx_nil, ↓zx_cons, ↓zp_li, ↓zp_ll, ↓zp_lr, ↓zq_li0, ↓zq_li1, ↓zq_ll0, ↓zq_ll1, ↓zq_lr0, ↓zq_lr1, ↓zk_0, ↓zk_1n, ↓zk_1i, ↓zk_1r, ↓zk_1l, ↓zk_2, zp_okt, ↓zp_okl, zp_sh0, zp_sh1, zp_psn, zp_pss, ↓zp_ri1, ↓zp_ri20, ↓zp_ri21, ↓zp_rl, ↓zp_ra, ↓zp_rv, ↓zp_br, ↓reduceIte, Nat.reduceAdd, Nat.zero_add, Nat.add_zero, Nat.le_refl, Nat.zero_le, ↓zx_aload_0, ↓zyg_5_0, ↓zx_iload_1, ↓zyc_10, ↓zy_if_ne, ↓zx_iconst, ↓zx_iret, ↓zy_istore_3, ↓zy_istore, ↓zx_iload, ↓zyg_0_5, ↓zy_ic_ge, ↓zyg_0_9, ↓zya_7, ↓zya_8, ↓zya_9, ↓zya_10, ↓zya_17, ↓zya_18, ↓zy_astore, ↓zx_aload, ↓zyg_3_15, ↓zyg_3_0, ↓zy_ic_ne, ↓zy_if_le, ↓zy_iinc, ↓zy_ic_eq, ↓zy_ic_le, ↓zyc_60, ↓zy_max, ↓zyc_41, ↓zy_if_eq, ↓zx_goto, ↓zy_iadd, ↓zx_iload_2, ↓zt_0_4, ↓zt_0_3, ↓zt_0_15, ↓zt_0_19, ↓zt_9_10, Int.cast_ofNat_Int, Int.reduceAdd, Int.reduceToNat, ↓zx_iload_3, ↓zya_19, ↓zya_20, ↓zya_11, ↓zya_12, ↓zya_13, ↓zya_14, ↓zya_15, ↓zya_16, z_i10, z_10, z_00, and_self, not_true_eq_false, not_false_eq_true, true_and, and_true, false_and, and_false, true_or, false_or, or_false, or_true, or_self, if_true, if_false, ite_self, ↓zs_72, hg, h1, h2, h3, h4, h5, eq_true hv, nI_1]
        exact ih (i + 1) p _ _ (by omega) hp
      · have hg2 : vp_in (qBehS (z_g m 2) v.toNatClampNeg i p).2.1 40 := by
          unfold qBehS
          rw [if_pos ⟨of_eq_true h4, h5⟩]
          show vp_in (if p.2.1 = -1 ∨ _ then nI i else p.2.1) 40
          split
          · exact of_eq_true h2
          · rename_i q
            exact hp.resolve_left fun e => q (.inl e)
        have ih := ih (i + 1) (qBehS (z_g m 2) v.toNatClampNeg i p) (some (zr (some (3, 2, i)))) (some (zi (z_I (z_g m 2) 14 i v.toNatClampNeg))) (by omega) (.inr hg2)
        rw [← ih]
        unfold qBehS
        rcases Classical.em (p.2.1 = -1) with h6 | h6
        · have h6 := eq_true h6
          rcases Classical.em (cLatest (z_g m 2) i < z_I (z_g m 2) 0 0 0) with h8 | h8 <;> simp only [↓zu_111_103, ↓zu_111_107, ↓zu_111_138, ↓zu_111_139, ↓zu_111_142, ↓zx_nil, ↓zx_cons, ↓zp_li, ↓zp_ll, ↓zp_lr, ↓zq_li0, ↓zq_li1, ↓zq_ll0, ↓zq_ll1, ↓zq_lr0, ↓zq_lr1, ↓zk_0, ↓zk_1n, ↓zk_1i, ↓zk_1r, ↓zk_1l, ↓zk_2, zp_okt, ↓zp_okl, zp_sh0, zp_sh1, zp_psn, zp_pss, ↓zp_ri1, ↓zp_ri20, ↓zp_ri21, ↓zp_rl, ↓zp_ra, ↓zp_rv, ↓zp_br, ↓reduceIte, Nat.reduceAdd, Nat.zero_add, Nat.add_zero, Nat.le_refl, Nat.zero_le, ↓zx_aload_0, ↓zyg_5_0, ↓zx_iload_1, ↓zyc_10, ↓zy_if_ne, ↓zx_iconst, ↓zx_iret, ↓zy_istore_3, ↓zy_istore, ↓zx_iload, ↓zyg_0_5, ↓zy_ic_ge, ↓zyg_0_9, ↓zya_7, ↓zya_8, ↓zya_9, ↓zya_10, ↓zya_17, ↓zya_18, ↓zy_astore, ↓zx_aload, ↓zyg_3_15, ↓zyg_3_0, ↓zy_ic_ne, ↓zy_if_le, ↓zy_iinc, ↓zy_ic_eq, ↓zy_ic_le, ↓zyc_60, ↓zy_max, ↓zyc_41, ↓zy_if_eq, ↓zx_goto, ↓zy_iadd, ↓zx_iload_2, ↓zt_0_4, ↓zt_0_3, ↓zt_0_15, ↓zt_0_19, ↓zt_9_10, Int.cast_ofNat_Int, Int.reduceAdd, Int.reduceToNat, ↓zx_iload_3, ↓zya_19, ↓zya_20, ↓zya_11, ↓zya_12, ↓zya_13, ↓zya_14, ↓zya_15, ↓zya_16, z_i10, z_10, z_00, and_self, not_true_eq_false, not_false_eq_true, true_and, and_true, false_and, and_false, true_or, false_or, or_false, or_true, or_self, if_true, if_false, ite_self, ↓zs_72, hg, h1, h2, h3, h4, h5, h6, h8, eq_true hv, nI_1, ↓zs_60, ↓zs_41]
        · have hv2 := hp.resolve_left h6
          rcases Classical.em (z_I (z_g m 2) 14 i v.toNatClampNeg ≤ z_I (z_g m 2) 14 p.2.1.toNatClampNeg v.toNatClampNeg) with h7 | h7
          · rcases Classical.em (cLatest (z_g m 2) i < z_I (z_g m 2) 0 0 0) with h8 | h8 <;> simp only [↓zu_111_103, ↓zu_111_107, ↓zu_111_138, ↓zu_111_139, ↓zu_111_142, ↓zx_nil, ↓zx_cons, ↓zp_li, ↓zp_ll, ↓zp_lr, ↓zq_li0, ↓zq_li1, ↓zq_ll0, ↓zq_ll1, ↓zq_lr0, ↓zq_lr1, ↓zk_0, ↓zk_1n, ↓zk_1i, ↓zk_1r, ↓zk_1l, ↓zk_2, zp_okt, ↓zp_okl, zp_sh0, zp_sh1, zp_psn, zp_pss, ↓zp_ri1, ↓zp_ri20, ↓zp_ri21, ↓zp_rl, ↓zp_ra, ↓zp_rv, ↓zp_br, ↓reduceIte, Nat.reduceAdd, Nat.zero_add, Nat.add_zero, Nat.le_refl, Nat.zero_le, ↓zx_aload_0, ↓zyg_5_0, ↓zx_iload_1, ↓zyc_10, ↓zy_if_ne, ↓zx_iconst, ↓zx_iret, ↓zy_istore_3, ↓zy_istore, ↓zx_iload, ↓zyg_0_5, ↓zy_ic_ge, ↓zyg_0_9, ↓zya_7, ↓zya_8, ↓zya_9, ↓zya_10, ↓zya_17, ↓zya_18, ↓zy_astore, ↓zx_aload, ↓zyg_3_15, ↓zyg_3_0, ↓zy_ic_ne, ↓zy_if_le, ↓zy_iinc, ↓zy_ic_eq, ↓zy_ic_le, ↓zyc_60, ↓zy_max, ↓zyc_41, ↓zy_if_eq, ↓zx_goto, ↓zy_iadd, ↓zx_iload_2, ↓zt_0_4, ↓zt_0_3, ↓zt_0_15, ↓zt_0_19, ↓zt_9_10, Int.cast_ofNat_Int, Int.reduceAdd, Int.reduceToNat, ↓zx_iload_3, ↓zya_19, ↓zya_20, ↓zya_11, ↓zya_12, ↓zya_13, ↓zya_14, ↓zya_15, ↓zya_16, z_i10, z_10, z_00, and_self, not_true_eq_false, not_false_eq_true, true_and, and_true, false_and, and_false, true_or, false_or, or_false, or_true, or_self, if_true, if_false, ite_self, ↓zs_72, hg, h1, h2, h3, h4, h5, h6, h7, h8, eq_true hv, eq_true hv2, nI_1, ↓zs_60, ↓zs_41]
          · rcases Classical.em (cLatest (z_g m 2) i < z_I (z_g m 2) 0 0 0) with h8 | h8 <;> simp only [↓zu_111_103, ↓zu_111_107, ↓zu_111_138, ↓zu_111_139, ↓zu_111_142, ↓zx_nil, ↓zx_cons, ↓zp_li, ↓zp_ll, ↓zp_lr, ↓zq_li0, ↓zq_li1, ↓zq_ll0, ↓zq_ll1, ↓zq_lr0, ↓zq_lr1, ↓zk_0, ↓zk_1n, ↓zk_1i, ↓zk_1r, ↓zk_1l, ↓zk_2, zp_okt, ↓zp_okl, zp_sh0, zp_sh1, zp_psn, zp_pss, ↓zp_ri1, ↓zp_ri20, ↓zp_ri21, ↓zp_rl, ↓zp_ra, ↓zp_rv, ↓zp_br, ↓reduceIte, Nat.reduceAdd, Nat.zero_add, Nat.add_zero, Nat.le_refl, Nat.zero_le, ↓zx_aload_0, ↓zyg_5_0, ↓zx_iload_1, ↓zyc_10, ↓zy_if_ne, ↓zx_iconst, ↓zx_iret, ↓zy_istore_3, ↓zy_istore, ↓zx_iload, ↓zyg_0_5, ↓zy_ic_ge, ↓zyg_0_9, ↓zya_7, ↓zya_8, ↓zya_9, ↓zya_10, ↓zya_17, ↓zya_18, ↓zy_astore, ↓zx_aload, ↓zyg_3_15, ↓zyg_3_0, ↓zy_ic_ne, ↓zy_if_le, ↓zy_iinc, ↓zy_ic_eq, ↓zy_ic_le, ↓zyc_60, ↓zy_max, ↓zyc_41, ↓zy_if_eq, ↓zx_goto, ↓zy_iadd, ↓zx_iload_2, ↓zt_0_4, ↓zt_0_3, ↓zt_0_15, ↓zt_0_19, ↓zt_9_10, Int.cast_ofNat_Int, Int.reduceAdd, Int.reduceToNat, ↓zx_iload_3, ↓zya_19, ↓zya_20, ↓zya_11, ↓zya_12, ↓zya_13, ↓zya_14, ↓zya_15, ↓zya_16, z_i10, z_10, z_00, and_self, not_true_eq_false, not_false_eq_true, true_and, and_true, false_and, and_false, true_or, false_or, or_false, or_true, or_self, if_true, if_false, ite_self, ↓zs_72, hg, h1, h2, h3, h4, h5, h6, h7, h8, eq_true hv, eq_true hv2, nI_1, ↓zs_60, ↓zs_41]
    · have hE : qBehS (z_g m 2) v.toNatClampNeg i p = p := by unfold qBehS; rw [if_neg fun q => h4 q.1]
      rw [hE]
      simp only [↓zu_111_103, ↓zu_111_107, ↓zu_111_138, ↓zu_111_139, ↓zu_111_142, ↓zx_nil, ↓zx_cons, ↓zp_li, ↓zp_ll, ↓zp_lr, ↓zq_li0, ↓zq_li1, ↓zq_ll0, ↓zq_ll1, ↓zq_lr0, ↓zq_lr1, ↓zk_0, ↓zk_1n, ↓zk_1i, ↓zk_1r, ↓zk_1l, ↓zk_2, zp_okt, ↓zp_okl, zp_sh0, zp_sh1, zp_psn, zp_pss, ↓zp_ri1, ↓zp_ri20, ↓zp_ri21, ↓zp_rl, ↓zp_ra, ↓zp_rv, ↓zp_br, ↓reduceIte, Nat.reduceAdd, Nat.zero_add, Nat.add_zero, Nat.le_refl, Nat.zero_le, ↓zx_aload_0, ↓zyg_5_0, ↓zx_iload_1, ↓zyc_10, ↓zy_if_ne, ↓zx_iconst, ↓zx_iret, ↓zy_istore_3, ↓zy_istore, ↓zx_iload, ↓zyg_0_5, ↓zy_ic_ge, ↓zyg_0_9, ↓zya_7, ↓zya_8, ↓zya_9, ↓zya_10, ↓zya_17, ↓zya_18, ↓zy_astore, ↓zx_aload, ↓zyg_3_15, ↓zyg_3_0, ↓zy_ic_ne, ↓zy_if_le, ↓zy_iinc, ↓zy_ic_eq, ↓zy_ic_le, ↓zyc_60, ↓zy_max, ↓zyc_41, ↓zy_if_eq, ↓zx_goto, ↓zy_iadd, ↓zx_iload_2, ↓zt_0_4, ↓zt_0_3, ↓zt_0_15, ↓zt_0_19, ↓zt_9_10, Int.cast_ofNat_Int, Int.reduceAdd, Int.reduceToNat, ↓zx_iload_3, ↓zya_19, ↓zya_20, ↓zya_11, ↓zya_12, ↓zya_13, ↓zya_14, ↓zya_15, ↓zya_16, z_i10, z_10, z_00, and_self, not_true_eq_false, not_false_eq_true, true_and, and_true, false_and, and_false, true_or, false_or, or_false, or_true, or_self, if_true, if_false, ite_self, ↓zs_72, hg, h1, h2, h3, h4, eq_true hv, nI_1]
      exact ih (i + 1) p _ _ (by omega) hp
set_option maxRecDepth 100000 in
set_option maxHeartbeats 4000000 in
theorem zs_111 (hM : cMok m) : z_call (d + 3) 111 [zr (some (5, 0, 0)), zi v, zi w] m Q = if 0 ≤ v ∧ v < z_I (z_g m 2) 0 0 3 then Q (some (zi (qBehind (z_g m 2) v.toNatClampNeg w))) m else Q (some (zi (-1))) m := by
  by_cases c0 : 0 ≤ v ∧ v < z_I (z_g m 2) 0 0 3
  · simp only [↓zen_111, ↓zu_111_0, ↓zu_111_13, ↓zu_111_103, ↓zu_111_107, ↓zu_111_138, ↓zu_111_139, ↓zu_111_142, ↓zu_111_148, ↓zu_111_180, ↓zu_111_182, ↓zu_111_185, ↓zu_111_188, ↓zu_111_191, ↓zx_nil, ↓zx_cons, ↓zp_li, ↓zp_ll, ↓zp_lr, ↓zq_li0, ↓zq_li1, ↓zq_ll0, ↓zq_ll1, ↓zq_lr0, ↓zq_lr1, ↓zk_0, ↓zk_1n, ↓zk_1i, ↓zk_1r, ↓zk_1l, ↓zk_2, zp_okt, ↓zp_okl, zp_sh0, zp_sh1, zp_psn, zp_pss, ↓zp_ri1, ↓zp_ri20, ↓zp_ri21, ↓zp_rl, ↓zp_ra, ↓zp_rv, ↓zp_br, ↓reduceIte, Nat.reduceAdd, Nat.zero_add, Nat.add_zero, Nat.le_refl, Nat.zero_le, ↓zx_aload_0, ↓zyg_5_0, ↓zx_iload_1, ↓zyc_10, ↓zy_if_ne, ↓zx_iconst, ↓zx_iret, ↓zy_istore_3, ↓zy_istore, ↓zx_iload, ↓zyg_0_5, ↓zy_ic_ge, ↓zyg_0_9, ↓zya_7, ↓zya_8, ↓zya_9, ↓zya_10, ↓zya_17, ↓zya_18, ↓zy_astore, ↓zx_aload, ↓zyg_3_15, ↓zyg_3_0, ↓zy_ic_ne, ↓zy_if_le, ↓zy_iinc, ↓zy_ic_eq, ↓zy_ic_le, ↓zyc_60, ↓zy_max, ↓zyc_41, ↓zy_if_eq, ↓zx_goto, ↓zy_iadd, ↓zx_iload_2, ↓zt_0_4, ↓zt_0_3, ↓zt_0_15, ↓zt_0_19, ↓zt_9_10, Int.cast_ofNat_Int, Int.reduceAdd, Int.reduceToNat, ↓zx_iload_3, ↓zya_19, ↓zya_20, ↓zya_11, ↓zya_12, ↓zya_13, ↓zya_14, ↓zya_15, ↓zya_16, ↓zs_10, z_i10, z_10, z_00, and_self, not_true_eq_false, not_false_eq_true, true_and, and_true, false_and, and_false, true_or, false_or, or_false, or_true, or_self, if_true, if_false, ite_self, ↓zs_72, c0]
    exact zl_111 hM.1.2.2.2 hM.1.2.2.eq (z_hasv hM.1.1 c0) (cL (z_g m 2)) 0 (0, -1, -1, 0) none none (by unfold cL; omega) (.inl rfl)
  · simp only [↓zen_111, ↓zu_111_0, ↓zu_111_13, ↓zu_111_103, ↓zu_111_107, ↓zu_111_138, ↓zu_111_139, ↓zu_111_142, ↓zu_111_148, ↓zu_111_180, ↓zu_111_182, ↓zu_111_185, ↓zu_111_188, ↓zu_111_191, ↓zx_nil, ↓zx_cons, ↓zp_li, ↓zp_ll, ↓zp_lr, ↓zq_li0, ↓zq_li1, ↓zq_ll0, ↓zq_ll1, ↓zq_lr0, ↓zq_lr1, ↓zk_0, ↓zk_1n, ↓zk_1i, ↓zk_1r, ↓zk_1l, ↓zk_2, zp_okt, ↓zp_okl, zp_sh0, zp_sh1, zp_psn, zp_pss, ↓zp_ri1, ↓zp_ri20, ↓zp_ri21, ↓zp_rl, ↓zp_ra, ↓zp_rv, ↓zp_br, ↓reduceIte, Nat.reduceAdd, Nat.zero_add, Nat.add_zero, Nat.le_refl, Nat.zero_le, ↓zx_aload_0, ↓zyg_5_0, ↓zx_iload_1, ↓zyc_10, ↓zy_if_ne, ↓zx_iconst, ↓zx_iret, ↓zy_istore_3, ↓zy_istore, ↓zx_iload, ↓zyg_0_5, ↓zy_ic_ge, ↓zyg_0_9, ↓zya_7, ↓zya_8, ↓zya_9, ↓zya_10, ↓zya_17, ↓zya_18, ↓zy_astore, ↓zx_aload, ↓zyg_3_15, ↓zyg_3_0, ↓zy_ic_ne, ↓zy_if_le, ↓zy_iinc, ↓zy_ic_eq, ↓zy_ic_le, ↓zyc_60, ↓zy_max, ↓zyc_41, ↓zy_if_eq, ↓zx_goto, ↓zy_iadd, ↓zx_iload_2, ↓zt_0_4, ↓zt_0_3, ↓zt_0_15, ↓zt_0_19, ↓zt_9_10, Int.cast_ofNat_Int, Int.reduceAdd, Int.reduceToNat, ↓zx_iload_3, ↓zya_19, ↓zya_20, ↓zya_11, ↓zya_12, ↓zya_13, ↓zya_14, ↓zya_15, ↓zya_16, ↓zs_10, z_i10, z_10, z_00, and_self, not_true_eq_false, not_false_eq_true, true_and, and_true, false_and, and_false, true_or, false_or, or_false, or_true, or_self, if_true, if_false, ite_self, ↓zs_72, c0]
-- 38 best
def qBestS (S : zS) (g : Int32) : Nat → Nat → Nat → zS → Nat × zS
  | 0, _, z, X => (z, X)
  | n + 1, i, z, X => if 10 ≤ z then (z, X) else if z_I S 4 (cFr S (cRw S i)) 2 = 1 ∧ z_I S 16 (cFr S (cRw S i)) 0 = g then qBestS S g n (i + 1) (z + 1) (z_uI X 20 0 z (cNeed S (cRw S i))) else qBestS S g n (i + 1) z X
theorem qBestS_le {S : zS} : ∀ (n i z : Nat) (X : zS), z ≤ 10 → (qBestS S v n i z X).1 ≤ 10
  | 0, _, _, _, h => h
  | n + 1, i, z, X, h => by
    unfold qBestS
    split
    · exact h
    · split
      · exact qBestS_le n (i + 1) _ _ (by omega)
      · exact qBestS_le n (i + 1) _ _ h
abbrev mBst (m : zM) (S X : zS) : zM := z_s (z_s m 2 S) 0 X
def qBest (S X : zS) (g : Nat) (z : Nat) (w : Int32) : Int32 := if w = 0 then qFull X z (cFree S g) (2 ^ z - 1) 1 0 0 0 else qSum X (qFull X z (cFree S g) (2 ^ z - 1) 1 0 0 0) z 0 0
theorem z_g_m2 {S X : zS} : z_g (mBst m S X) 2 = S := by unfold mBst; rw [z_g_20, z_g_ss]
theorem z_g_m0 {S X : zS} : z_g (mBst m S X) 0 = X := z_g_ss _ _ _
theorem z_s_m0 {S X Y : zS} : z_s (mBst m S X) 0 Y = mBst m S Y := zq_ss _ _ _ _
set_option maxRecDepth 100000 in
set_option maxHeartbeats 4000000 in
theorem zl_114 {t : Nat} {S : zS} (ht : t ≤ 40) (hv : vp_in v 4) (hN : z_I S 0 0 11 = nI t) (hR : cRowOk S) : ∀ (n i z : Nat) (X : zS) (o6 o7 : Option zV), i + n = t → z ≤ 10 → zW 114 (d + 3) Q 36 [some (zr (some (5, 0, 0))), some (zi v), some (zi w), some (zi (nI t)), some (zi (nI z)), some (zi (nI i)), o6, o7] [] (mBst m S X) 0 = Q (some (zi (qBest S (qBestS S v n i z X).2 v.toNatClampNeg (qBestS S v n i z X).1 w))) (mBst m S (qBestS S v n i z X).2) := by
  have fin : ∀ (i z : Nat) (X : zS) (o6 o7 : Option zV), z ≤ 10 → zW 114 (d + 3) Q 128 [some (zr (some (5, 0, 0))), some (zi v), some (zi w), some (zi (nI t)), some (zi (nI z)), some (zi (nI i)), o6, o7] [] (mBst m S X) 0 = Q (some (zi (qBest S X v.toNatClampNeg z w))) (mBst m S X) := by
    intro i z X o6 o7 hz
    have h115 := fun b Q => zs_115 (d := d + 1) (t := z) (b := b) (m := mBst m S X) (Q := Q) (by omega)
    have h117 := fun x Q => zs_117 (d := d + 2) (t := z) (x := x) (m := mBst m S X) (Q := Q) (by omega)
    have h47 := fun g Q => zs_47 (d := d + 2) (r := 2) (g := g) (m := mBst m S X) (Q := Q)
    rw [z_g_m0] at h115 h117
    rw [z_g_m2] at h47
    unfold qBest
    rcases Classical.em (w = 0) with h5 | h5
    · have h5 := eq_true h5
      simp only [↓zu_114_128, ↓zu_114_157, ↓zu_114_165, ↓zx_nil, ↓zx_cons, ↓zp_li, ↓zp_ll, ↓zp_lr, ↓zq_li0, ↓zq_li1, ↓zq_ll0, ↓zq_ll1, ↓zq_lr0, ↓zq_lr1, ↓zk_0, ↓zk_1n, ↓zk_1i, ↓zk_1r, ↓zk_1l, ↓zk_2, zp_okt, ↓zp_okl, zp_sh0, zp_sh1, zp_psn, zp_pss, ↓zp_ri1, ↓zp_ri20, ↓zp_ri21, ↓zp_rl, ↓zp_ra, ↓zp_rv, ↓zp_br, ↓reduceIte, Nat.reduceAdd, Nat.zero_add, Nat.add_zero, Nat.le_refl, Nat.zero_le, ↓zx_aload_0, ↓zyg_5_0, ↓zx_iload_1, ↓zyc_10, ↓zy_if_eq, ↓zx_iload_2, ↓zx_iconst, ↓zyc_71, ↓zx_iret, ↓zyc_4, ↓zy_istore_3, ↓zy_istore, ↓zx_iload, ↓zx_iload_3, ↓zy_ic_ge, ↓zx_bipush, ↓zyg_0_9, ↓zyc_6, ↓zya_7, ↓zya_8, ↓zya_9, ↓zya_10, ↓zya_17, ↓zya_18, ↓zy_astore, ↓zyg_0_7, ↓zx_aload, ↓zyg_3_1, ↓zyg_4_2, ↓zy_ic_ne, ↓zyg_4_1, ↓zyg_5_12, ↓zyc_7, ↓zy_iinc, ↓zx_goto, ↓zyg_0_6, ↓zyc_47, ↓zyc_115, ↓zy_if_ne, ↓zyc_117, ↓zya_19, ↓zya_20, ↓zya_11, ↓zya_12, ↓zya_13, ↓zya_14, ↓zya_15, ↓zya_16, ↓zyb_19, ↓zyb_20, ↓zyb_11, ↓zyb_12, ↓zyb_13, ↓zyb_14, ↓zyb_15, ↓zyb_16, z_i10, z_10, z_00, and_self, not_true_eq_false, not_false_eq_true, true_and, and_true, false_and, and_false, true_or, false_or, or_false, or_true, or_self, if_true, if_false, ite_self, ↓zs_72, eq_true hv, h47, h115, h117, h5]
    · simp only [↓zu_114_128, ↓zu_114_157, ↓zu_114_165, ↓zx_nil, ↓zx_cons, ↓zp_li, ↓zp_ll, ↓zp_lr, ↓zq_li0, ↓zq_li1, ↓zq_ll0, ↓zq_ll1, ↓zq_lr0, ↓zq_lr1, ↓zk_0, ↓zk_1n, ↓zk_1i, ↓zk_1r, ↓zk_1l, ↓zk_2, zp_okt, ↓zp_okl, zp_sh0, zp_sh1, zp_psn, zp_pss, ↓zp_ri1, ↓zp_ri20, ↓zp_ri21, ↓zp_rl, ↓zp_ra, ↓zp_rv, ↓zp_br, ↓reduceIte, Nat.reduceAdd, Nat.zero_add, Nat.add_zero, Nat.le_refl, Nat.zero_le, ↓zx_aload_0, ↓zyg_5_0, ↓zx_iload_1, ↓zyc_10, ↓zy_if_eq, ↓zx_iload_2, ↓zx_iconst, ↓zyc_71, ↓zx_iret, ↓zyc_4, ↓zy_istore_3, ↓zy_istore, ↓zx_iload, ↓zx_iload_3, ↓zy_ic_ge, ↓zx_bipush, ↓zyg_0_9, ↓zyc_6, ↓zya_7, ↓zya_8, ↓zya_9, ↓zya_10, ↓zya_17, ↓zya_18, ↓zy_astore, ↓zyg_0_7, ↓zx_aload, ↓zyg_3_1, ↓zyg_4_2, ↓zy_ic_ne, ↓zyg_4_1, ↓zyg_5_12, ↓zyc_7, ↓zy_iinc, ↓zx_goto, ↓zyg_0_6, ↓zyc_47, ↓zyc_115, ↓zy_if_ne, ↓zyc_117, ↓zya_19, ↓zya_20, ↓zya_11, ↓zya_12, ↓zya_13, ↓zya_14, ↓zya_15, ↓zya_16, ↓zyb_19, ↓zyb_20, ↓zyb_11, ↓zyb_12, ↓zyb_13, ↓zyb_14, ↓zyb_15, ↓zyb_16, z_i10, z_10, z_00, and_self, not_true_eq_false, not_false_eq_true, true_and, and_true, false_and, and_false, true_or, false_or, or_false, or_true, or_self, if_true, if_false, ite_self, ↓zs_72, eq_true hv, h47, h115, h117, h5]
  intro n
  induction n with
  | zero =>
    intro i z X o6 o7 hi hz
    have h1 := z_le1 (show t ≤ i by omega) (by omega)
    rw [zu_114_36]
    simp only [↓zu_114_122, ↓zx_nil, ↓zx_cons, ↓zp_li, ↓zp_ll, ↓zp_lr, ↓zq_li0, ↓zq_li1, ↓zq_ll0, ↓zq_ll1, ↓zq_lr0, ↓zq_lr1, ↓zk_0, ↓zk_1n, ↓zk_1i, ↓zk_1r, ↓zk_1l, ↓zk_2, zp_okt, ↓zp_okl, zp_sh0, zp_sh1, zp_psn, zp_pss, ↓zp_ri1, ↓zp_ri20, ↓zp_ri21, ↓zp_rl, ↓zp_ra, ↓zp_rv, ↓zp_br, ↓reduceIte, Nat.reduceAdd, Nat.zero_add, Nat.add_zero, Nat.le_refl, Nat.zero_le, ↓zx_aload_0, ↓zyg_5_0, ↓zx_iload_1, ↓zyc_10, ↓zy_if_eq, ↓zx_iload_2, ↓zx_iconst, ↓zyc_71, ↓zx_iret, ↓zyc_4, ↓zy_istore_3, ↓zy_istore, ↓zx_iload, ↓zx_iload_3, ↓zy_ic_ge, ↓zx_bipush, ↓zyg_0_9, ↓zyc_6, ↓zya_7, ↓zya_8, ↓zya_9, ↓zya_10, ↓zya_17, ↓zya_18, ↓zy_astore, ↓zyg_0_7, ↓zx_aload, ↓zyg_3_1, ↓zyg_4_2, ↓zy_ic_ne, ↓zyg_4_1, ↓zyg_5_12, ↓zyc_7, ↓zy_iinc, ↓zx_goto, ↓zyg_0_6, ↓zyc_47, ↓zyc_115, ↓zy_if_ne, ↓zyc_117, ↓zya_19, ↓zya_20, ↓zya_11, ↓zya_12, ↓zya_13, ↓zya_14, ↓zya_15, ↓zya_16, ↓zyb_19, ↓zyb_20, ↓zyb_11, ↓zyb_12, ↓zyb_13, ↓zyb_14, ↓zyb_15, ↓zyb_16, z_i10, z_10, z_00, and_self, not_true_eq_false, not_false_eq_true, true_and, and_true, false_and, and_false, true_or, false_or, or_false, or_true, or_self, if_true, if_false, ite_self, ↓zs_72, h1]
    exact fin i z X o6 o7 hz
  | succ n ih =>
    intro i z X o6 o7 hi hz
    have h1 := z_le0 (show i < t by omega) (by omega)
    rw [zu_114_36]
    by_cases hz2 : 10 ≤ z
    · have h4 : (10 ≤ nI z) = True := z_le1 (a := 10) hz2 (by omega)
      have hE : qBestS S v (n + 1) i z X = (z, X) := by unfold qBestS; rw [if_pos hz2]
      rw [hE]
      simp only [↓zu_114_122, ↓zx_nil, ↓zx_cons, ↓zp_li, ↓zp_ll, ↓zp_lr, ↓zq_li0, ↓zq_li1, ↓zq_ll0, ↓zq_ll1, ↓zq_lr0, ↓zq_lr1, ↓zk_0, ↓zk_1n, ↓zk_1i, ↓zk_1r, ↓zk_1l, ↓zk_2, zp_okt, ↓zp_okl, zp_sh0, zp_sh1, zp_psn, zp_pss, ↓zp_ri1, ↓zp_ri20, ↓zp_ri21, ↓zp_rl, ↓zp_ra, ↓zp_rv, ↓zp_br, ↓reduceIte, Nat.reduceAdd, Nat.zero_add, Nat.add_zero, Nat.le_refl, Nat.zero_le, ↓zx_aload_0, ↓zyg_5_0, ↓zx_iload_1, ↓zyc_10, ↓zy_if_eq, ↓zx_iload_2, ↓zx_iconst, ↓zyc_71, ↓zx_iret, ↓zyc_4, ↓zy_istore_3, ↓zy_istore, ↓zx_iload, ↓zx_iload_3, ↓zy_ic_ge, ↓zx_bipush, ↓zyg_0_9, ↓zyc_6, ↓zya_7, ↓zya_8, ↓zya_9, ↓zya_10, ↓zya_17, ↓zya_18, ↓zy_astore, ↓zyg_0_7, ↓zx_aload, ↓zyg_3_1, ↓zyg_4_2, ↓zy_ic_ne, ↓zyg_4_1, ↓zyg_5_12, ↓zyc_7, ↓zy_iinc, ↓zx_goto, ↓zyg_0_6, ↓zyc_47, ↓zyc_115, ↓zy_if_ne, ↓zyc_117, ↓zya_19, ↓zya_20, ↓zya_11, ↓zya_12, ↓zya_13, ↓zya_14, ↓zya_15, ↓zya_16, ↓zyb_19, ↓zyb_20, ↓zyb_11, ↓zyb_12, ↓zyb_13, ↓zyb_14, ↓zyb_15, ↓zyb_16, z_i10, z_10, z_00, and_self, not_true_eq_false, not_false_eq_true, true_and, and_true, false_and, and_false, true_or, false_or, or_false, or_true, or_self, if_true, if_false, ite_self, ↓zs_72, h1, h4]
      exact fin i z X o6 o7 hz
    · have h4 : (10 ≤ nI z) = False := z_le0 (a := 10) (by omega) (by omega)
      have hlt : i < (z_I S 0 0 11).toNatClampNeg := by rw [hN, nI_clamp (by omega)]; omega
      have hr := hR i hlt
      have h6 := fun Q => zs_6 (d := d + 2) (r := 2) (m := mBst m S X) (v := nI i) (Q := Q) (by rw [z_g_m2, hN]; exact z_nn_nI ht (by decide))
      rw [z_g_m2] at h6
      have e6 : (if 0 ≤ nI i ∧ nI i < z_I S 0 0 11 then z_I S 11 0 (nI i).toNatClampNeg - z_I S 11 0 (nI i).toNatClampNeg / 40 * 40 else 0) = cInRow S (nI i) := rfl
      rw [e6] at h6
      have h7 := fun Q => zs_7 (d := d) (r := 2) (i := cRw S i) (m := mBst m S X) (Q := Q) (by rw [z_g_m2]; exact hr.2.1.2.2) (by rw [z_g_m2]; exact hr.2.2.2.2)
      rw [z_g_m2] at h7
      have v0 : vp_in (0 : Int32) 4 := of_eq_true z_v04
      have vz := z_vi1 (show z < 12 by omega) (by decide)
      have cz := nI_clamp (show z < 2 ^ 31 by omega)
      rcases Classical.em (z_I S 4 (cFr S (cRw S i)) 2 = 1) with h8 | h8
      · rcases Classical.em (z_I S 16 (cFr S (cRw S i)) 0 = v) with h9 | h9
        · have hE : qBestS S v (n + 1) i z X = qBestS S v n (i + 1) (z + 1) (z_uI X 20 0 z (cNeed S (cRw S i))) := by
            rw [qBestS, if_neg hz2, if_pos ⟨h8, h9⟩]
          rw [hE]
          have h8 := eq_true h8
          have h9 := eq_true h9
          simp only [↓zu_114_122, ↓zx_nil, ↓zx_cons, ↓zp_li, ↓zp_ll, ↓zp_lr, ↓zq_li0, ↓zq_li1, ↓zq_ll0, ↓zq_ll1, ↓zq_lr0, ↓zq_lr1, ↓zk_0, ↓zk_1n, ↓zk_1i, ↓zk_1r, ↓zk_1l, ↓zk_2, zp_okt, ↓zp_okl, zp_sh0, zp_sh1, zp_psn, zp_pss, ↓zp_ri1, ↓zp_ri20, ↓zp_ri21, ↓zp_rl, ↓zp_ra, ↓zp_rv, ↓zp_br, ↓reduceIte, Nat.reduceAdd, Nat.zero_add, Nat.add_zero, Nat.le_refl, Nat.zero_le, ↓zx_aload_0, ↓zyg_5_0, ↓zx_iload_1, ↓zyc_10, ↓zy_if_eq, ↓zx_iload_2, ↓zx_iconst, ↓zyc_71, ↓zx_iret, ↓zyc_4, ↓zy_istore_3, ↓zy_istore, ↓zx_iload, ↓zx_iload_3, ↓zy_ic_ge, ↓zx_bipush, ↓zyg_0_9, ↓zyc_6, ↓zya_7, ↓zya_8, ↓zya_9, ↓zya_10, ↓zya_17, ↓zya_18, ↓zy_astore, ↓zyg_0_7, ↓zx_aload, ↓zyg_3_1, ↓zyg_4_2, ↓zy_ic_ne, ↓zyg_4_1, ↓zyg_5_12, ↓zyc_7, ↓zy_iinc, ↓zx_goto, ↓zyg_0_6, ↓zyc_47, ↓zyc_115, ↓zy_if_ne, ↓zyc_117, ↓zya_19, ↓zya_20, ↓zya_11, ↓zya_12, ↓zya_13, ↓zya_14, ↓zya_15, ↓zya_16, ↓zyb_19, ↓zyb_20, ↓zyb_11, ↓zyb_12, ↓zyb_13, ↓zyb_14, ↓zyb_15, ↓zyb_16, z_i10, z_10, z_00, and_self, not_true_eq_false, not_false_eq_true, true_and, and_true, false_and, and_false, true_or, false_or, or_false, or_true, or_self, if_true, if_false, ite_self, ↓zs_72, h1, h4, h6, h7, eq_true hr.1, eq_true hr.2.1.1, z_g_m2, z_g_m0, h8, h9, eq_true v0, vz, cz, z_c0, nI_1, z_s_m0]
          exact ih (i + 1) (z + 1) _ _ _ (by omega) (by omega)
        · have hE : qBestS S v (n + 1) i z X = qBestS S v n (i + 1) z X := by
            rw [qBestS, if_neg hz2, if_neg fun q => h9 q.2]
          rw [hE]
          have h8 := eq_true h8
          simp only [↓zu_114_122, ↓zx_nil, ↓zx_cons, ↓zp_li, ↓zp_ll, ↓zp_lr, ↓zq_li0, ↓zq_li1, ↓zq_ll0, ↓zq_ll1, ↓zq_lr0, ↓zq_lr1, ↓zk_0, ↓zk_1n, ↓zk_1i, ↓zk_1r, ↓zk_1l, ↓zk_2, zp_okt, ↓zp_okl, zp_sh0, zp_sh1, zp_psn, zp_pss, ↓zp_ri1, ↓zp_ri20, ↓zp_ri21, ↓zp_rl, ↓zp_ra, ↓zp_rv, ↓zp_br, ↓reduceIte, Nat.reduceAdd, Nat.zero_add, Nat.add_zero, Nat.le_refl, Nat.zero_le, ↓zx_aload_0, ↓zyg_5_0, ↓zx_iload_1, ↓zyc_10, ↓zy_if_eq, ↓zx_iload_2, ↓zx_iconst, ↓zyc_71, ↓zx_iret, ↓zyc_4, ↓zy_istore_3, ↓zy_istore, ↓zx_iload, ↓zx_iload_3, ↓zy_ic_ge, ↓zx_bipush, ↓zyg_0_9, ↓zyc_6, ↓zya_7, ↓zya_8, ↓zya_9, ↓zya_10, ↓zya_17, ↓zya_18, ↓zy_astore, ↓zyg_0_7, ↓zx_aload, ↓zyg_3_1, ↓zyg_4_2, ↓zy_ic_ne, ↓zyg_4_1, ↓zyg_5_12, ↓zyc_7, ↓zy_iinc, ↓zx_goto, ↓zyg_0_6, ↓zyc_47, ↓zyc_115, ↓zy_if_ne, ↓zyc_117, ↓zya_19, ↓zya_20, ↓zya_11, ↓zya_12, ↓zya_13, ↓zya_14, ↓zya_15, ↓zya_16, ↓zyb_19, ↓zyb_20, ↓zyb_11, ↓zyb_12, ↓zyb_13, ↓zyb_14, ↓zyb_15, ↓zyb_16, z_i10, z_10, z_00, and_self, not_true_eq_false, not_false_eq_true, true_and, and_true, false_and, and_false, true_or, false_or, or_false, or_true, or_self, if_true, if_false, ite_self, ↓zs_72, h1, h4, h6, eq_true hr.1, eq_true hr.2.1.1, z_g_m2, h8, h9, eq_true v0, z_c0, nI_1]
          exact ih (i + 1) z _ _ _ (by omega) hz
      · have hE : qBestS S v (n + 1) i z X = qBestS S v n (i + 1) z X := by
          rw [qBestS, if_neg hz2, if_neg fun q => h8 q.1]
        rw [hE]
        simp only [↓zu_114_122, ↓zx_nil, ↓zx_cons, ↓zp_li, ↓zp_ll, ↓zp_lr, ↓zq_li0, ↓zq_li1, ↓zq_ll0, ↓zq_ll1, ↓zq_lr0, ↓zq_lr1, ↓zk_0, ↓zk_1n, ↓zk_1i, ↓zk_1r, ↓zk_1l, ↓zk_2, zp_okt, ↓zp_okl, zp_sh0, zp_sh1, zp_psn, zp_pss, ↓zp_ri1, ↓zp_ri20, ↓zp_ri21, ↓zp_rl, ↓zp_ra, ↓zp_rv, ↓zp_br, ↓reduceIte, Nat.reduceAdd, Nat.zero_add, Nat.add_zero, Nat.le_refl, Nat.zero_le, ↓zx_aload_0, ↓zyg_5_0, ↓zx_iload_1, ↓zyc_10, ↓zy_if_eq, ↓zx_iload_2, ↓zx_iconst, ↓zyc_71, ↓zx_iret, ↓zyc_4, ↓zy_istore_3, ↓zy_istore, ↓zx_iload, ↓zx_iload_3, ↓zy_ic_ge, ↓zx_bipush, ↓zyg_0_9, ↓zyc_6, ↓zya_7, ↓zya_8, ↓zya_9, ↓zya_10, ↓zya_17, ↓zya_18, ↓zy_astore, ↓zyg_0_7, ↓zx_aload, ↓zyg_3_1, ↓zyg_4_2, ↓zy_ic_ne, ↓zyg_4_1, ↓zyg_5_12, ↓zyc_7, ↓zy_iinc, ↓zx_goto, ↓zyg_0_6, ↓zyc_47, ↓zyc_115, ↓zy_if_ne, ↓zyc_117, ↓zya_19, ↓zya_20, ↓zya_11, ↓zya_12, ↓zya_13, ↓zya_14, ↓zya_15, ↓zya_16, ↓zyb_19, ↓zyb_20, ↓zyb_11, ↓zyb_12, ↓zyb_13, ↓zyb_14, ↓zyb_15, ↓zyb_16, z_i10, z_10, z_00, and_self, not_true_eq_false, not_false_eq_true, true_and, and_true, false_and, and_false, true_or, false_or, or_false, or_true, or_self, if_true, if_false, ite_self, ↓zs_72, h1, h4, h6, eq_true hr.1, eq_true hr.2.1.1, z_g_m2, h8, nI_1]
        exact ih (i + 1) z _ _ _ (by omega) hz
abbrev qBN (S : zS) : Nat := (z_I (qLk S) 0 0 11).toNatClampNeg
set_option maxRecDepth 100000 in
set_option maxHeartbeats 4000000 in
theorem zs_114 (hM : cMok m) (hn : z_nn (z_I (qLk (z_g m 2)) 0 0 11) 40) (hR : cRowOk (qLk (z_g m 2))) : z_call (d + 4) 114 [zr (some (5, 0, 0)), zi v, zi w] m Q = if (0 ≤ v ∧ v < z_I (z_g m 2) 0 0 3) ∧ ¬ (w < 0 ∨ 1 < w) then Q (some (zi (qBest (qLk (z_g m 2)) (qBestS (qLk (z_g m 2)) v (qBN (z_g m 2)) 0 0 (z_g m 0)).2 v.toNatClampNeg (qBestS (qLk (z_g m 2)) v (qBN (z_g m 2)) 0 0 (z_g m 0)).1 w))) (mBst m (qLk (z_g m 2)) (qBestS (qLk (z_g m 2)) v (qBN (z_g m 2)) 0 0 (z_g m 0)).2) else Q (some (zi (-1))) m := by
  by_cases c0 : 0 ≤ v ∧ v < z_I (z_g m 2) 0 0 3
  · by_cases c1 : w < 0 ∨ 1 < w
    · simp only [↓zen_114, ↓zu_114_0, ↓zu_114_20, ↓zu_114_22, ↓zu_114_122, ↓zu_114_128, ↓zu_114_157, ↓zu_114_165, ↓zx_nil, ↓zx_cons, ↓zp_li, ↓zp_ll, ↓zp_lr, ↓zq_li0, ↓zq_li1, ↓zq_ll0, ↓zq_ll1, ↓zq_lr0, ↓zq_lr1, ↓zk_0, ↓zk_1n, ↓zk_1i, ↓zk_1r, ↓zk_1l, ↓zk_2, zp_okt, ↓zp_okl, zp_sh0, zp_sh1, zp_psn, zp_pss, ↓zp_ri1, ↓zp_ri20, ↓zp_ri21, ↓zp_rl, ↓zp_ra, ↓zp_rv, ↓zp_br, ↓reduceIte, Nat.reduceAdd, Nat.zero_add, Nat.add_zero, Nat.le_refl, Nat.zero_le, ↓zx_aload_0, ↓zyg_5_0, ↓zx_iload_1, ↓zyc_10, ↓zy_if_eq, ↓zx_iload_2, ↓zx_iconst, ↓zyc_71, ↓zx_iret, ↓zyc_4, ↓zy_istore_3, ↓zy_istore, ↓zx_iload, ↓zx_iload_3, ↓zy_ic_ge, ↓zx_bipush, ↓zyg_0_9, ↓zyc_6, ↓zya_7, ↓zya_8, ↓zya_9, ↓zya_10, ↓zya_17, ↓zya_18, ↓zy_astore, ↓zyg_0_7, ↓zx_aload, ↓zyg_3_1, ↓zyg_4_2, ↓zy_ic_ne, ↓zyg_4_1, ↓zyg_5_12, ↓zyc_7, ↓zy_iinc, ↓zx_goto, ↓zyg_0_6, ↓zyc_47, ↓zyc_115, ↓zy_if_ne, ↓zyc_117, ↓zya_19, ↓zya_20, ↓zya_11, ↓zya_12, ↓zya_13, ↓zya_14, ↓zya_15, ↓zya_16, ↓zyb_19, ↓zyb_20, ↓zyb_11, ↓zyb_12, ↓zyb_13, ↓zyb_14, ↓zyb_15, ↓zyb_16, ↓zs_10, ↓zs_71, z_i10, z_10, z_00, and_self, not_true_eq_false, not_false_eq_true, true_and, and_true, false_and, and_false, true_or, false_or, or_false, or_true, or_self, if_true, if_false, ite_self, ↓zs_72, c0, c1]
    · have h4 := fun Q => zs_4 (d := d + 1) (r := 2) (m := m) (Q := Q) hM.1.2.2
      have hl := zl_114 (d := d) (m := m) (S := qLk (z_g m 2)) (v := v) (w := w) (Q := Q) hn.2 (z_hasv hM.1.1 c0) hn.eq hR (qBN (z_g m 2)) 0 0 (z_g m 0) none none (Nat.zero_add _) (by omega)
      have hE : mBst m (qLk (z_g m 2)) (z_g m 0) = z_s m 2 (qLk (z_g m 2)) := by
        have : z_g m 0 = z_g (z_s m 2 (qLk (z_g m 2))) 0 := z_g_02.symm
        unfold mBst
        rw [this, zq_id]
      rw [hE, ← hn.eq] at hl
      simp only [↓zen_114, ↓zu_114_0, ↓zu_114_20, ↓zu_114_22, ↓zu_114_122, ↓zu_114_128, ↓zu_114_157, ↓zu_114_165, ↓zx_nil, ↓zx_cons, ↓zp_li, ↓zp_ll, ↓zp_lr, ↓zq_li0, ↓zq_li1, ↓zq_ll0, ↓zq_ll1, ↓zq_lr0, ↓zq_lr1, ↓zk_0, ↓zk_1n, ↓zk_1i, ↓zk_1r, ↓zk_1l, ↓zk_2, zp_okt, ↓zp_okl, zp_sh0, zp_sh1, zp_psn, zp_pss, ↓zp_ri1, ↓zp_ri20, ↓zp_ri21, ↓zp_rl, ↓zp_ra, ↓zp_rv, ↓zp_br, ↓reduceIte, Nat.reduceAdd, Nat.zero_add, Nat.add_zero, Nat.le_refl, Nat.zero_le, ↓zx_aload_0, ↓zyg_5_0, ↓zx_iload_1, ↓zyc_10, ↓zy_if_eq, ↓zx_iload_2, ↓zx_iconst, ↓zyc_71, ↓zx_iret, ↓zyc_4, ↓zy_istore_3, ↓zy_istore, ↓zx_iload, ↓zx_iload_3, ↓zy_ic_ge, ↓zx_bipush, ↓zyg_0_9, ↓zyc_6, ↓zya_7, ↓zya_8, ↓zya_9, ↓zya_10, ↓zya_17, ↓zya_18, ↓zy_astore, ↓zyg_0_7, ↓zx_aload, ↓zyg_3_1, ↓zyg_4_2, ↓zy_ic_ne, ↓zyg_4_1, ↓zyg_5_12, ↓zyc_7, ↓zy_iinc, ↓zx_goto, ↓zyg_0_6, ↓zyc_47, ↓zyc_115, ↓zy_if_ne, ↓zyc_117, ↓zya_19, ↓zya_20, ↓zya_11, ↓zya_12, ↓zya_13, ↓zya_14, ↓zya_15, ↓zya_16, ↓zyb_19, ↓zyb_20, ↓zyb_11, ↓zyb_12, ↓zyb_13, ↓zyb_14, ↓zyb_15, ↓zyb_16, ↓zs_10, ↓zs_71, z_i10, z_10, z_00, and_self, not_true_eq_false, not_false_eq_true, true_and, and_true, false_and, and_false, true_or, false_or, or_false, or_true, or_self, if_true, if_false, ite_self, ↓zs_72, c0, c1, h4]
      exact hl
  · simp only [↓zen_114, ↓zu_114_0, ↓zu_114_20, ↓zu_114_22, ↓zu_114_122, ↓zu_114_128, ↓zu_114_157, ↓zu_114_165, ↓zx_nil, ↓zx_cons, ↓zp_li, ↓zp_ll, ↓zp_lr, ↓zq_li0, ↓zq_li1, ↓zq_ll0, ↓zq_ll1, ↓zq_lr0, ↓zq_lr1, ↓zk_0, ↓zk_1n, ↓zk_1i, ↓zk_1r, ↓zk_1l, ↓zk_2, zp_okt, ↓zp_okl, zp_sh0, zp_sh1, zp_psn, zp_pss, ↓zp_ri1, ↓zp_ri20, ↓zp_ri21, ↓zp_rl, ↓zp_ra, ↓zp_rv, ↓zp_br, ↓reduceIte, Nat.reduceAdd, Nat.zero_add, Nat.add_zero, Nat.le_refl, Nat.zero_le, ↓zx_aload_0, ↓zyg_5_0, ↓zx_iload_1, ↓zyc_10, ↓zy_if_eq, ↓zx_iload_2, ↓zx_iconst, ↓zyc_71, ↓zx_iret, ↓zyc_4, ↓zy_istore_3, ↓zy_istore, ↓zx_iload, ↓zx_iload_3, ↓zy_ic_ge, ↓zx_bipush, ↓zyg_0_9, ↓zyc_6, ↓zya_7, ↓zya_8, ↓zya_9, ↓zya_10, ↓zya_17, ↓zya_18, ↓zy_astore, ↓zyg_0_7, ↓zx_aload, ↓zyg_3_1, ↓zyg_4_2, ↓zy_ic_ne, ↓zyg_4_1, ↓zyg_5_12, ↓zyc_7, ↓zy_iinc, ↓zx_goto, ↓zyg_0_6, ↓zyc_47, ↓zyc_115, ↓zy_if_ne, ↓zyc_117, ↓zya_19, ↓zya_20, ↓zya_11, ↓zya_12, ↓zya_13, ↓zya_14, ↓zya_15, ↓zya_16, ↓zyb_19, ↓zyb_20, ↓zyb_11, ↓zyb_12, ↓zyb_13, ↓zyb_14, ↓zyb_15, ↓zyb_16, ↓zs_10, ↓zs_71, z_i10, z_10, z_00, and_self, not_true_eq_false, not_false_eq_true, true_and, and_true, false_and, and_false, true_or, false_or, or_false, or_true, or_self, if_true, if_false, ite_self, ↓zs_72, c0]
-- 39 explains
abbrev qEx (S : zS) (v w : Int32) : zS := cLUp (cLuT v w) S
def qExN (S : zS) (v w : Int32) : Nat := if (z_I (qEx S v w) 0 0 11).toNatClampNeg < 12 then (z_I (qEx S v w) 0 0 11).toNatClampNeg else 12
def qExS (S : zS) (n i : Nat) (X : zS) : zS := z_it (fun i X => z_uI X 20 0 i (cRest S (cRw S i))) n i X
def qExp (X : zS) (t : Nat) (a b : Int32) : Int32 := if qFew X t a (2 ^ t - 1) 1 0 0 = 0 then -1 else if b = 0 then qFew X t a (2 ^ t - 1) 1 0 0 else qBc (qFew X t a (2 ^ t - 1) 1 0 0)
set_option maxRecDepth 100000 in
set_option maxHeartbeats 4000000 in
theorem zl_118 {t N : Nat} {S : zS} (ht : t ≤ 12) (hN0 : N ≤ 40) (htN : t ≤ N) (hN : z_I S 0 0 11 = nI N) (hR : cRowOk S) : ∀ (n i : Nat) (X : zS), i + n = t → zW 118 (d + 2) Q 59 [some (zr (some (5, 0, 0))), some (zi v), some (zi w), some (zi a), some (zi b), some (zi (nI t)), some (zi (nI i))] [] (mBst m S X) 0 = Q (some (zi (qExp (qExS S n i X) t a b))) (mBst m S (qExS S n i X)) := by
  intro n
  induction n with
  | zero =>
    intro i X hi
    have h1 := z_le1 (show t ≤ i by omega) (by omega)
    have h119 := fun b Q => zs_119 (d := d) (t := t) (b := b) (m := mBst m S X) (Q := Q) ht
    rw [z_g_m0] at h119
    rw [zu_118_59]
    show _ = Q (some (zi (qExp X t a b))) (mBst m S X)
    unfold qExp
    rcases Classical.em (qFew X t a (2 ^ t - 1) 1 0 0 = 0) with h5 | h5
    · have h5 := eq_true h5
      simp only [↓zu_118_99, ↓zu_118_115, ↓zu_118_125, ↓zu_118_130, ↓zx_nil, ↓zx_cons, ↓zp_li, ↓zp_ll, ↓zp_lr, ↓zq_li0, ↓zq_li1, ↓zq_ll0, ↓zq_ll1, ↓zq_lr0, ↓zq_lr1, ↓zk_0, ↓zk_1n, ↓zk_1i, ↓zk_1r, ↓zk_1l, ↓zk_2, zp_okt, ↓zp_okl, zp_sh0, zp_sh1, zp_psn, zp_pss, ↓zp_ri1, ↓zp_ri20, ↓zp_ri21, ↓zp_rl, ↓zp_ra, ↓zp_rv, ↓zp_br, ↓reduceIte, Nat.reduceAdd, Nat.zero_add, Nat.add_zero, Nat.le_refl, Nat.zero_le, ↓zx_aload_0, ↓zyg_5_0, ↓zx_iload_1, ↓zyc_15, ↓zy_if_eq, ↓zx_iload_2, ↓zyc_81, ↓zx_iload_3, ↓zx_iconst, ↓zx_ldc, ↓zyc_71, ↓zy_if_ne, ↓zx_iload, ↓zx_iret, ↓zx_bipush, ↓zyc_31, ↓zy_min, ↓zy_istore, ↓zy_ic_ge, ↓zyg_5_12, ↓zyg_0_9, ↓zyc_6, ↓zya_7, ↓zya_8, ↓zya_9, ↓zya_10, ↓zya_17, ↓zya_18, ↓zyc_59, ↓zy_iinc, ↓zx_goto, ↓zyc_119, ↓zyc_228, ↓zyb_19, ↓zyb_20, ↓zyb_11, ↓zyb_12, ↓zyb_13, ↓zyb_14, ↓zyb_15, ↓zyb_16, z_i10, z_10, z_00, and_self, not_true_eq_false, not_false_eq_true, true_and, and_true, false_and, and_false, true_or, false_or, or_false, or_true, or_self, if_true, if_false, ite_self, ↓zs_72, h1, h119, h5]
    · rcases Classical.em (b = 0) with h6 | h6
      · have h6 := eq_true h6
        simp only [↓zu_118_99, ↓zu_118_115, ↓zu_118_125, ↓zu_118_130, ↓zx_nil, ↓zx_cons, ↓zp_li, ↓zp_ll, ↓zp_lr, ↓zq_li0, ↓zq_li1, ↓zq_ll0, ↓zq_ll1, ↓zq_lr0, ↓zq_lr1, ↓zk_0, ↓zk_1n, ↓zk_1i, ↓zk_1r, ↓zk_1l, ↓zk_2, zp_okt, ↓zp_okl, zp_sh0, zp_sh1, zp_psn, zp_pss, ↓zp_ri1, ↓zp_ri20, ↓zp_ri21, ↓zp_rl, ↓zp_ra, ↓zp_rv, ↓zp_br, ↓reduceIte, Nat.reduceAdd, Nat.zero_add, Nat.add_zero, Nat.le_refl, Nat.zero_le, ↓zx_aload_0, ↓zyg_5_0, ↓zx_iload_1, ↓zyc_15, ↓zy_if_eq, ↓zx_iload_2, ↓zyc_81, ↓zx_iload_3, ↓zx_iconst, ↓zx_ldc, ↓zyc_71, ↓zy_if_ne, ↓zx_iload, ↓zx_iret, ↓zx_bipush, ↓zyc_31, ↓zy_min, ↓zy_istore, ↓zy_ic_ge, ↓zyg_5_12, ↓zyg_0_9, ↓zyc_6, ↓zya_7, ↓zya_8, ↓zya_9, ↓zya_10, ↓zya_17, ↓zya_18, ↓zyc_59, ↓zy_iinc, ↓zx_goto, ↓zyc_119, ↓zyc_228, ↓zyb_19, ↓zyb_20, ↓zyb_11, ↓zyb_12, ↓zyb_13, ↓zyb_14, ↓zyb_15, ↓zyb_16, z_i10, z_10, z_00, and_self, not_true_eq_false, not_false_eq_true, true_and, and_true, false_and, and_false, true_or, false_or, or_false, or_true, or_self, if_true, if_false, ite_self, ↓zs_72, h1, h119, h5, h6]
      · simp only [↓zu_118_99, ↓zu_118_115, ↓zu_118_125, ↓zu_118_130, ↓zx_nil, ↓zx_cons, ↓zp_li, ↓zp_ll, ↓zp_lr, ↓zq_li0, ↓zq_li1, ↓zq_ll0, ↓zq_ll1, ↓zq_lr0, ↓zq_lr1, ↓zk_0, ↓zk_1n, ↓zk_1i, ↓zk_1r, ↓zk_1l, ↓zk_2, zp_okt, ↓zp_okl, zp_sh0, zp_sh1, zp_psn, zp_pss, ↓zp_ri1, ↓zp_ri20, ↓zp_ri21, ↓zp_rl, ↓zp_ra, ↓zp_rv, ↓zp_br, ↓reduceIte, Nat.reduceAdd, Nat.zero_add, Nat.add_zero, Nat.le_refl, Nat.zero_le, ↓zx_aload_0, ↓zyg_5_0, ↓zx_iload_1, ↓zyc_15, ↓zy_if_eq, ↓zx_iload_2, ↓zyc_81, ↓zx_iload_3, ↓zx_iconst, ↓zx_ldc, ↓zyc_71, ↓zy_if_ne, ↓zx_iload, ↓zx_iret, ↓zx_bipush, ↓zyc_31, ↓zy_min, ↓zy_istore, ↓zy_ic_ge, ↓zyg_5_12, ↓zyg_0_9, ↓zyc_6, ↓zya_7, ↓zya_8, ↓zya_9, ↓zya_10, ↓zya_17, ↓zya_18, ↓zyc_59, ↓zy_iinc, ↓zx_goto, ↓zyc_119, ↓zyc_228, ↓zyb_19, ↓zyb_20, ↓zyb_11, ↓zyb_12, ↓zyb_13, ↓zyb_14, ↓zyb_15, ↓zyb_16, z_i10, z_10, z_00, and_self, not_true_eq_false, not_false_eq_true, true_and, and_true, false_and, and_false, true_or, false_or, or_false, or_true, or_self, if_true, if_false, ite_self, ↓zs_72, h1, h119, h5, h6, ↓zs_228]
  | succ n ih =>
    intro i X hi
    have h1 := z_le0 (show i < t by omega) (by omega)
    have h2 := z_vi1 (show i < 12 by omega) (by decide)
    have h3 := nI_clamp (show i < 2 ^ 31 by omega)
    have hlt : i < (z_I S 0 0 11).toNatClampNeg := by rw [hN, nI_clamp (by omega)]; omega
    have hr := hR i hlt
    have h6 := fun Q => zs_6 (d := d + 1) (r := 2) (m := mBst m S X) (v := nI i) (Q := Q) (by rw [z_g_m2, hN]; exact z_nn_nI hN0 (by decide))
    rw [z_g_m2] at h6
    have e6 : (if 0 ≤ nI i ∧ nI i < z_I S 0 0 11 then z_I S 11 0 (nI i).toNatClampNeg - z_I S 11 0 (nI i).toNatClampNeg / 40 * 40 else 0) = cInRow S (nI i) := rfl
    rw [e6] at h6
    have h59 := fun j Q => zs_59 (d := d + 1) (r := 2) (i := j) (m := mBst m S X) (Q := Q)
    rw [z_g_m2] at h59
    rw [zu_118_59]
    simp only [↓zx_nil, ↓zx_cons, ↓zp_li, ↓zp_ll, ↓zp_lr, ↓zq_li0, ↓zq_li1, ↓zq_ll0, ↓zq_ll1, ↓zq_lr0, ↓zq_lr1, ↓zk_0, ↓zk_1n, ↓zk_1i, ↓zk_1r, ↓zk_1l, ↓zk_2, zp_okt, ↓zp_okl, zp_sh0, zp_sh1, zp_psn, zp_pss, ↓zp_ri1, ↓zp_ri20, ↓zp_ri21, ↓zp_rl, ↓zp_ra, ↓zp_rv, ↓zp_br, ↓reduceIte, Nat.reduceAdd, Nat.zero_add, Nat.add_zero, Nat.le_refl, Nat.zero_le, ↓zx_aload_0, ↓zyg_5_0, ↓zx_iload_1, ↓zyc_15, ↓zy_if_eq, ↓zx_iload_2, ↓zyc_81, ↓zx_iload_3, ↓zx_iconst, ↓zx_ldc, ↓zyc_71, ↓zy_if_ne, ↓zx_iload, ↓zx_iret, ↓zx_bipush, ↓zyc_31, ↓zy_min, ↓zy_istore, ↓zy_ic_ge, ↓zyg_5_12, ↓zyg_0_9, ↓zyc_6, ↓zya_7, ↓zya_8, ↓zya_9, ↓zya_10, ↓zya_17, ↓zya_18, ↓zyc_59, ↓zy_iinc, ↓zx_goto, ↓zyc_119, ↓zyc_228, ↓zyb_19, ↓zyb_20, ↓zyb_11, ↓zyb_12, ↓zyb_13, ↓zyb_14, ↓zyb_15, ↓zyb_16, z_i10, z_10, z_00, and_self, not_true_eq_false, not_false_eq_true, true_and, and_true, false_and, and_false, true_or, false_or, or_false, or_true, or_self, if_true, if_false, ite_self, ↓zs_72, h1, h2, h3, h6, h59, eq_true hr.1, z_g_m2, z_g_m0, nI_1, z_s_m0]
    exact ih (i + 1) _ (by omega)
set_option maxRecDepth 100000 in
set_option maxHeartbeats 4000000 in
theorem zs_118 (hM : cMok m) (hn : z_nn (z_I (qEx (z_g m 2) v w) 0 0 11) 40) (hR : cRowOk (qEx (z_g m 2) v w)) : z_call (d + 3) 118 [zr (some (5, 0, 0)), zi v, zi w, zi a, zi b] m Q = if (0 ≤ v ∧ v < z_I (z_g m 2) 0 0 4) ∧ (0 ≤ w ∧ w < 5) ∧ ¬ (a < 1 ∨ 99999 < a) ∧ ¬ (b < 0 ∨ 1 < b) then Q (some (zi (qExp (qExS (qEx (z_g m 2) v w) (qExN (z_g m 2) v w) 0 (z_g m 0)) (qExN (z_g m 2) v w) a b))) (mBst m (qEx (z_g m 2) v w) (qExS (qEx (z_g m 2) v w) (qExN (z_g m 2) v w) 0 (z_g m 0))) else Q (some (zi (-1))) m := by
  by_cases c0 : 0 ≤ v ∧ v < z_I (z_g m 2) 0 0 4
  · by_cases c1 : 0 ≤ w ∧ w < 5
    · by_cases c2 : a < 1 ∨ 99999 < a
      · simp only [↓zen_118, ↓zu_118_0, ↓zu_118_38, ↓zu_118_40, ↓zu_118_99, ↓zu_118_115, ↓zu_118_125, ↓zu_118_130, ↓zx_nil, ↓zx_cons, ↓zp_li, ↓zp_ll, ↓zp_lr, ↓zq_li0, ↓zq_li1, ↓zq_ll0, ↓zq_ll1, ↓zq_lr0, ↓zq_lr1, ↓zk_0, ↓zk_1n, ↓zk_1i, ↓zk_1r, ↓zk_1l, ↓zk_2, zp_okt, ↓zp_okl, zp_sh0, zp_sh1, zp_psn, zp_pss, ↓zp_ri1, ↓zp_ri20, ↓zp_ri21, ↓zp_rl, ↓zp_ra, ↓zp_rv, ↓zp_br, ↓reduceIte, Nat.reduceAdd, Nat.zero_add, Nat.add_zero, Nat.le_refl, Nat.zero_le, ↓zx_aload_0, ↓zyg_5_0, ↓zx_iload_1, ↓zyc_15, ↓zy_if_eq, ↓zx_iload_2, ↓zyc_81, ↓zx_iload_3, ↓zx_iconst, ↓zx_ldc, ↓zyc_71, ↓zy_if_ne, ↓zx_iload, ↓zx_iret, ↓zx_bipush, ↓zyc_31, ↓zy_min, ↓zy_istore, ↓zy_ic_ge, ↓zyg_5_12, ↓zyg_0_9, ↓zyc_6, ↓zya_7, ↓zya_8, ↓zya_9, ↓zya_10, ↓zya_17, ↓zya_18, ↓zyc_59, ↓zy_iinc, ↓zx_goto, ↓zyc_119, ↓zyc_228, ↓zyb_19, ↓zyb_20, ↓zyb_11, ↓zyb_12, ↓zyb_13, ↓zyb_14, ↓zyb_15, ↓zyb_16, ↓zs_15, ↓zs_81, ↓zs_71, z_i10, z_10, z_00, and_self, not_true_eq_false, not_false_eq_true, true_and, and_true, false_and, and_false, true_or, false_or, or_false, or_true, or_self, if_true, if_false, ite_self, ↓zs_72, c0, c1, c2]
      · by_cases c3 : b < 0 ∨ 1 < b
        · simp only [↓zen_118, ↓zu_118_0, ↓zu_118_38, ↓zu_118_40, ↓zu_118_99, ↓zu_118_115, ↓zu_118_125, ↓zu_118_130, ↓zx_nil, ↓zx_cons, ↓zp_li, ↓zp_ll, ↓zp_lr, ↓zq_li0, ↓zq_li1, ↓zq_ll0, ↓zq_ll1, ↓zq_lr0, ↓zq_lr1, ↓zk_0, ↓zk_1n, ↓zk_1i, ↓zk_1r, ↓zk_1l, ↓zk_2, zp_okt, ↓zp_okl, zp_sh0, zp_sh1, zp_psn, zp_pss, ↓zp_ri1, ↓zp_ri20, ↓zp_ri21, ↓zp_rl, ↓zp_ra, ↓zp_rv, ↓zp_br, ↓reduceIte, Nat.reduceAdd, Nat.zero_add, Nat.add_zero, Nat.le_refl, Nat.zero_le, ↓zx_aload_0, ↓zyg_5_0, ↓zx_iload_1, ↓zyc_15, ↓zy_if_eq, ↓zx_iload_2, ↓zyc_81, ↓zx_iload_3, ↓zx_iconst, ↓zx_ldc, ↓zyc_71, ↓zy_if_ne, ↓zx_iload, ↓zx_iret, ↓zx_bipush, ↓zyc_31, ↓zy_min, ↓zy_istore, ↓zy_ic_ge, ↓zyg_5_12, ↓zyg_0_9, ↓zyc_6, ↓zya_7, ↓zya_8, ↓zya_9, ↓zya_10, ↓zya_17, ↓zya_18, ↓zyc_59, ↓zy_iinc, ↓zx_goto, ↓zyc_119, ↓zyc_228, ↓zyb_19, ↓zyb_20, ↓zyb_11, ↓zyb_12, ↓zyb_13, ↓zyb_14, ↓zyb_15, ↓zyb_16, ↓zs_15, ↓zs_81, ↓zs_71, z_i10, z_10, z_00, and_self, not_true_eq_false, not_false_eq_true, true_and, and_true, false_and, and_false, true_or, false_or, or_false, or_true, or_self, if_true, if_false, ite_self, ↓zs_72, c0, c1, c2, c3]
        · have h31 := fun Q => zs_31 (d := d) (r := 2) (m := m) (v := v) (w := w) (Q := Q) hM.1.2.2
          have h40 := hn.2
          have hN12 : qExN (z_g m 2) v w ≤ 12 ∧ qExN (z_g m 2) v w ≤ (z_I (qEx (z_g m 2) v w) 0 0 11).toNatClampNeg := by
            unfold qExN
            split <;> omega
          have hmin : (if z_I (qEx (z_g m 2) v w) 0 0 11 < 12 then z_I (qEx (z_g m 2) v w) 0 0 11 else 12) = nI (qExN (z_g m 2) v w) := by
            unfold qExN
            rw [hn.eq, nI_clamp z_nn_lt]
            by_cases q : (z_I (qEx (z_g m 2) v w) 0 0 11).toNatClampNeg < 12
            · rw [if_pos q, if_pos (show _ < (12 : Int32) from nI_lt (b := 12) q (by decide))]
            · rw [if_neg q, if_neg (show ¬ _ < (12 : Int32) from nI_nlt (b := 12) (Nat.le_of_not_lt q) z_nn_lt)]; rfl
          have hl := zl_118 (d := d) (m := m) (S := qEx (z_g m 2) v w) (v := v) (w := w) (a := a) (b := b) (Q := Q) hN12.1 hn.2 hN12.2 hn.eq hR (qExN (z_g m 2) v w) 0 (z_g m 0) (by omega)
          have hE : mBst m (qEx (z_g m 2) v w) (z_g m 0) = z_s m 2 (qEx (z_g m 2) v w) := by
            have : z_g m 0 = z_g (z_s m 2 (qEx (z_g m 2) v w)) 0 := z_g_02.symm
            unfold mBst
            rw [this, zq_id]
          rw [hE] at hl
          simp only [↓zen_118, ↓zu_118_0, ↓zu_118_38, ↓zu_118_40, ↓zu_118_99, ↓zu_118_115, ↓zu_118_125, ↓zu_118_130, ↓zx_nil, ↓zx_cons, ↓zp_li, ↓zp_ll, ↓zp_lr, ↓zq_li0, ↓zq_li1, ↓zq_ll0, ↓zq_ll1, ↓zq_lr0, ↓zq_lr1, ↓zk_0, ↓zk_1n, ↓zk_1i, ↓zk_1r, ↓zk_1l, ↓zk_2, zp_okt, ↓zp_okl, zp_sh0, zp_sh1, zp_psn, zp_pss, ↓zp_ri1, ↓zp_ri20, ↓zp_ri21, ↓zp_rl, ↓zp_ra, ↓zp_rv, ↓zp_br, ↓reduceIte, Nat.reduceAdd, Nat.zero_add, Nat.add_zero, Nat.le_refl, Nat.zero_le, ↓zx_aload_0, ↓zyg_5_0, ↓zx_iload_1, ↓zyc_15, ↓zy_if_eq, ↓zx_iload_2, ↓zyc_81, ↓zx_iload_3, ↓zx_iconst, ↓zx_ldc, ↓zyc_71, ↓zy_if_ne, ↓zx_iload, ↓zx_iret, ↓zx_bipush, ↓zyc_31, ↓zy_min, ↓zy_istore, ↓zy_ic_ge, ↓zyg_5_12, ↓zyg_0_9, ↓zyc_6, ↓zya_7, ↓zya_8, ↓zya_9, ↓zya_10, ↓zya_17, ↓zya_18, ↓zyc_59, ↓zy_iinc, ↓zx_goto, ↓zyc_119, ↓zyc_228, ↓zyb_19, ↓zyb_20, ↓zyb_11, ↓zyb_12, ↓zyb_13, ↓zyb_14, ↓zyb_15, ↓zyb_16, ↓zs_15, ↓zs_81, ↓zs_71, z_i10, z_10, z_00, and_self, not_true_eq_false, not_false_eq_true, true_and, and_true, false_and, and_false, true_or, false_or, or_false, or_true, or_self, if_true, if_false, ite_self, ↓zs_72, c0, c1, c2, c3, h31, hmin]
          exact hl
    · simp only [↓zen_118, ↓zu_118_0, ↓zu_118_38, ↓zu_118_40, ↓zu_118_99, ↓zu_118_115, ↓zu_118_125, ↓zu_118_130, ↓zx_nil, ↓zx_cons, ↓zp_li, ↓zp_ll, ↓zp_lr, ↓zq_li0, ↓zq_li1, ↓zq_ll0, ↓zq_ll1, ↓zq_lr0, ↓zq_lr1, ↓zk_0, ↓zk_1n, ↓zk_1i, ↓zk_1r, ↓zk_1l, ↓zk_2, zp_okt, ↓zp_okl, zp_sh0, zp_sh1, zp_psn, zp_pss, ↓zp_ri1, ↓zp_ri20, ↓zp_ri21, ↓zp_rl, ↓zp_ra, ↓zp_rv, ↓zp_br, ↓reduceIte, Nat.reduceAdd, Nat.zero_add, Nat.add_zero, Nat.le_refl, Nat.zero_le, ↓zx_aload_0, ↓zyg_5_0, ↓zx_iload_1, ↓zyc_15, ↓zy_if_eq, ↓zx_iload_2, ↓zyc_81, ↓zx_iload_3, ↓zx_iconst, ↓zx_ldc, ↓zyc_71, ↓zy_if_ne, ↓zx_iload, ↓zx_iret, ↓zx_bipush, ↓zyc_31, ↓zy_min, ↓zy_istore, ↓zy_ic_ge, ↓zyg_5_12, ↓zyg_0_9, ↓zyc_6, ↓zya_7, ↓zya_8, ↓zya_9, ↓zya_10, ↓zya_17, ↓zya_18, ↓zyc_59, ↓zy_iinc, ↓zx_goto, ↓zyc_119, ↓zyc_228, ↓zyb_19, ↓zyb_20, ↓zyb_11, ↓zyb_12, ↓zyb_13, ↓zyb_14, ↓zyb_15, ↓zyb_16, ↓zs_15, ↓zs_81, ↓zs_71, z_i10, z_10, z_00, and_self, not_true_eq_false, not_false_eq_true, true_and, and_true, false_and, and_false, true_or, false_or, or_false, or_true, or_self, if_true, if_false, ite_self, ↓zs_72, c0, c1]
  · simp only [↓zen_118, ↓zu_118_0, ↓zu_118_38, ↓zu_118_40, ↓zu_118_99, ↓zu_118_115, ↓zu_118_125, ↓zu_118_130, ↓zx_nil, ↓zx_cons, ↓zp_li, ↓zp_ll, ↓zp_lr, ↓zq_li0, ↓zq_li1, ↓zq_ll0, ↓zq_ll1, ↓zq_lr0, ↓zq_lr1, ↓zk_0, ↓zk_1n, ↓zk_1i, ↓zk_1r, ↓zk_1l, ↓zk_2, zp_okt, ↓zp_okl, zp_sh0, zp_sh1, zp_psn, zp_pss, ↓zp_ri1, ↓zp_ri20, ↓zp_ri21, ↓zp_rl, ↓zp_ra, ↓zp_rv, ↓zp_br, ↓reduceIte, Nat.reduceAdd, Nat.zero_add, Nat.add_zero, Nat.le_refl, Nat.zero_le, ↓zx_aload_0, ↓zyg_5_0, ↓zx_iload_1, ↓zyc_15, ↓zy_if_eq, ↓zx_iload_2, ↓zyc_81, ↓zx_iload_3, ↓zx_iconst, ↓zx_ldc, ↓zyc_71, ↓zy_if_ne, ↓zx_iload, ↓zx_iret, ↓zx_bipush, ↓zyc_31, ↓zy_min, ↓zy_istore, ↓zy_ic_ge, ↓zyg_5_12, ↓zyg_0_9, ↓zyc_6, ↓zya_7, ↓zya_8, ↓zya_9, ↓zya_10, ↓zya_17, ↓zya_18, ↓zyc_59, ↓zy_iinc, ↓zx_goto, ↓zyc_119, ↓zyc_228, ↓zyb_19, ↓zyb_20, ↓zyb_11, ↓zyb_12, ↓zyb_13, ↓zyb_14, ↓zyb_15, ↓zyb_16, ↓zs_15, ↓zs_81, ↓zs_71, z_i10, z_10, z_00, and_self, not_true_eq_false, not_false_eq_true, true_and, and_true, false_and, and_false, true_or, false_or, or_false, or_true, or_self, if_true, if_false, ite_self, ↓zs_72, c0]
end Bs10
