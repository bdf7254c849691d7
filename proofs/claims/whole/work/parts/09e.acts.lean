/-! ===== THE CLASS: BondStores, acts (4) ===== -/
section Bs5
variable {d r i k g s r2 i2 l : Nat} {m : zM} {Q : zQ} {v w a b c e f : Int32}
-- 9 rate
theorem cMok.p {m : zM} (h : cMok m) : (mPaper m).1 ≠ 0 ∧ (mPaper m).1 ≠ 1 ∧ (mPaper m).1 ≠ 2 := by
  show (mCopied m (z_d m 0)).1 ≠ 0 ∧ (mCopied m (z_d m 0)).1 ≠ 1 ∧ (mCopied m (z_d m 0)).1 ≠ 2
  have h1 := h.2.1.1
  cases hq : z_d m 0 with
  | none =>
    show z_nb m ≠ 0 ∧ z_nb m ≠ 1 ∧ z_nb m ≠ 2
    omega
  | some q => exact ⟨(h.2.1.2 0 q hq).2.1, (h.2.1.2 0 q hq).2.2, (h.2.1.2 0 q hq).1⟩
theorem mPaper_g {m : zM} {r : Nat} (h : r ≠ z_nb m) (ho : ∀ q, z_d m 0 = some q → r ≠ q) : z_g (mPaper m).2 r = z_g m r := mCopied_g h ho
theorem mPaper_2 {m : zM} (h : cMok m) : z_g (mPaper m).2 2 = z_g m 2 := mPaper_g (by have := h.2.1.1; omega) fun q hq => (h.2.1.2 0 q hq).1.symm
theorem mPaper_0 {m : zM} (h : cMok m) : z_g (mPaper m).2 0 = z_g m 0 := mPaper_g (by have := h.2.1.1; omega) fun q hq => (h.2.1.2 0 q hq).2.1.symm
theorem mPaper_1 {m : zM} (h : cMok m) : z_g (mPaper m).2 1 = z_g m 1 := mPaper_g (by have := h.2.1.1; omega) fun q hq => (h.2.1.2 0 q hq).2.2.symm
theorem mPaper_nb {m : zM} : z_nb m ≤ z_nb (mPaper m).2 := by
  show z_nb m ≤ z_nb (mCopied m (z_d m 0)).2
  cases z_d m 0 with
  | none => exact Nat.le_succ _
  | some q => exact Nat.le_refl _
theorem z_d_sdn {m : zM} {i j : Nat} {v : Option Nat} (h : i ≠ j) : z_d (z_sd m j v) i = z_d m i := if_neg h
theorem mPaper_d {m : zM} {j : Nat} : z_d (mPaper m).2 j = if j = 0 then some (mPaper m).1 else z_d m j := by
  unfold mPaper
  by_cases h : j = 0
  · rw [h, z_d_sd]; rfl
  · rw [z_d_sdn h, mCopied_d, if_neg h]
theorem cMok.pap {m : zM} (h : cMok m) (S : zS) : cMok (z_s (mPaper m).2 (mPaper m).1 S) := by
  have hp := h.p
  refine ⟨?_, ⟨Nat.lt_of_lt_of_le h.2.1.1 mPaper_nb, ?_⟩, ?_⟩
  · rw [z_g_sn hp.2.2.symm, mPaper_2 h]; exact h.1
  · intro j q hq
    have hq : z_d (mPaper m).2 j = some q := hq
    rw [mPaper_d] at hq
    split at hq
    · cases hq; exact ⟨hp.2.2, hp.1, hp.2.1⟩
    · exact h.2.1.2 j q hq
  · unfold cRing
    rw [z_g_sn hp.1.symm, mPaper_0 h]; exact h.2.2
def mTell (m : zM) (a b c : Int32) : zM := z_s (mPaper m).2 (mPaper m).1 (cTellRate (z_g (mPaper m).2 (mPaper m).1) a.toNatClampNeg b c).2
def oTell (m : zM) (a b c : Int32) : Bool := (cTellRate (z_g (mPaper m).2 (mPaper m).1) a.toNatClampNeg b c).1
theorem mTell_2 (h : cMok m) : z_g (mTell m a b c) 2 = z_g m 2 := by
  unfold mTell
  rw [z_g_sn h.p.2.2.symm, mPaper_2 h]
set_option maxRecDepth 100000 in
set_option maxHeartbeats 4000000 in
theorem zs_83 (hM : cMok m) (hB : cBok (z_g m 2)) (hP : cBok (z_g (mPaper m).2 (mPaper m).1)) (hPl : z_nn (z_I (z_g (mPaper m).2 (mPaper m).1) 0 0 5) 40) (hT : (0 ≤ a ∧ a < 5) → ¬ (b < 0 ∨ 9999 < b) → ¬ (c < 0 ∨ 999 < c) → (z_I (z_g m 2) 0 0 0 < b ∨ z_I (z_g m 2) 0 0 0 = 0) → oTell m a b c = true → cTurnOk (cTellRate (z_g m 2) a.toNatClampNeg b c).2) : z_call (d + 6) 83 [zr (some (5, 0, 0)), zi a, zi b, zi c] m Q = if (0 ≤ a ∧ a < 5) ∧ ¬ (b < 0 ∨ 9999 < b) ∧ ¬ (c < 0 ∨ 999 < c) then (if z_I (z_g m 2) 0 0 0 < b ∨ z_I (z_g m 2) 0 0 0 = 0 then (if oTell m a b c = true then (if cToldFrom (z_g m 2) a.toNatClampNeg b (cTold (z_g m 2) a.toNatClampNeg) 0 = true ∨ z_I (z_g m 2) 2 a.toNatClampNeg 2 < 12 then Q (some (zi (cRate (z_g m 2) a.toNatClampNeg b))) (mAct (z_s (mKeep (mTell m a b c) 7) 2 (cTellRate (z_g m 2) a.toNatClampNeg b c).2)) else Q (some (zi (-5))) (mRef (mTell m a b c) (-5))) else Q (some (zi (-4))) (mRef (mTell m a b c) (-4))) else Q (some (zi (-4))) (mRef m (-4))) else Q (some (zi (-1))) (mRef m (-1)) := by
  have n12 : Nat.ble 1 2 = true := rfl
  have n22 : Nat.ble 2 2 = true := rfl
  have hM1 : cMok (mTell m a b c) := hM.pap _
  have h84 := fun Q => zs_84 (d := d + 1) (m := m) (Q := Q) hM.1 hM.2.1
  by_cases c1 : 0 ≤ a ∧ a < 5
  · by_cases c2 : b < 0 ∨ 9999 < b
    · simp only [↓zen_83, ↓zu_83_0, ↓zu_83_29, ↓zu_83_35, ↓zu_83_56, ↓zu_83_60, ↓zu_83_61, ↓zu_83_81, ↓zu_83_88, ↓zu_83_125, ↓zx_nil, ↓zx_cons, ↓zp_li, ↓zp_ll, ↓zp_lr, ↓zq_li0, ↓zq_li1, ↓zq_ll0, ↓zq_ll1, ↓zq_lr0, ↓zq_lr1, ↓zk_0, ↓zk_1n, ↓zk_1i, ↓zk_1r, ↓zk_1l, ↓zk_2, zp_okt, ↓zp_okl, zp_sh0, zp_sh1, zp_psn, zp_pss, ↓zp_ri1, ↓zp_ri20, ↓zp_ri21, ↓zp_rl, ↓zp_ra, ↓zp_rv, ↓zp_br, ↓reduceIte, Nat.reduceAdd, Nat.zero_add, Nat.add_zero, Nat.le_refl, Nat.zero_le, ↓zx_iload_1, ↓zyc_81, ↓zy_if_eq, ↓zx_iload_2, ↓zx_iconst, ↓zx_sipush, ↓zyc_71, ↓zy_if_ne, ↓zx_iload_3, ↓zx_aload_0, ↓zyc_72, ↓zx_iret, ↓zyg_5_0, ↓zyg_0_0, ↓zy_ic_gt, ↓zx_goto, ↓zy_istore, ↓zx_iload, ↓zyc_84, ↓zyc_16, ↓zx_bipush, ↓zyg_0_8, ↓zya_7, ↓zya_8, ↓zya_9, ↓zya_10, ↓zya_17, ↓zya_18, ↓zy_astore, ↓zx_aload, ↓zyc_53, ↓zyg_2_2, ↓zy_ic_lt, ↓zyc_73, ↓zyc_54, ↓zy_popi, ↓zy_popr, ↓zyc_75, ↓zs_81, ↓zs_71, z_i10, z_10, z_00, and_self, not_true_eq_false, not_false_eq_true, true_and, and_true, false_and, and_false, true_or, false_or, or_false, or_true, or_self, if_true, if_false, ite_self, ↓zs_72, Bool.false_eq_true, n12, n22, c1, c2]
    · by_cases c3 : c < 0 ∨ 999 < c
      · simp only [↓zen_83, ↓zu_83_0, ↓zu_83_29, ↓zu_83_35, ↓zu_83_56, ↓zu_83_60, ↓zu_83_61, ↓zu_83_81, ↓zu_83_88, ↓zu_83_125, ↓zx_nil, ↓zx_cons, ↓zp_li, ↓zp_ll, ↓zp_lr, ↓zq_li0, ↓zq_li1, ↓zq_ll0, ↓zq_ll1, ↓zq_lr0, ↓zq_lr1, ↓zk_0, ↓zk_1n, ↓zk_1i, ↓zk_1r, ↓zk_1l, ↓zk_2, zp_okt, ↓zp_okl, zp_sh0, zp_sh1, zp_psn, zp_pss, ↓zp_ri1, ↓zp_ri20, ↓zp_ri21, ↓zp_rl, ↓zp_ra, ↓zp_rv, ↓zp_br, ↓reduceIte, Nat.reduceAdd, Nat.zero_add, Nat.add_zero, Nat.le_refl, Nat.zero_le, ↓zx_iload_1, ↓zyc_81, ↓zy_if_eq, ↓zx_iload_2, ↓zx_iconst, ↓zx_sipush, ↓zyc_71, ↓zy_if_ne, ↓zx_iload_3, ↓zx_aload_0, ↓zyc_72, ↓zx_iret, ↓zyg_5_0, ↓zyg_0_0, ↓zy_ic_gt, ↓zx_goto, ↓zy_istore, ↓zx_iload, ↓zyc_84, ↓zyc_16, ↓zx_bipush, ↓zyg_0_8, ↓zya_7, ↓zya_8, ↓zya_9, ↓zya_10, ↓zya_17, ↓zya_18, ↓zy_astore, ↓zx_aload, ↓zyc_53, ↓zyg_2_2, ↓zy_ic_lt, ↓zyc_73, ↓zyc_54, ↓zy_popi, ↓zy_popr, ↓zyc_75, ↓zs_81, ↓zs_71, z_i10, z_10, z_00, and_self, not_true_eq_false, not_false_eq_true, true_and, and_true, false_and, and_false, true_or, false_or, or_false, or_true, or_self, if_true, if_false, ite_self, ↓zs_72, Bool.false_eq_true, n12, n22, c1, c2, c3]
      · have k1 := z_kindv c1
        have h16 := fun Q => zs_16 (d := d) (r := (mPaper m).1) (m := (mPaper m).2) (a := a) (b := b) (c := c) (Q := Q) k1 (hP.2.2 _ (z_k5 c1)) hPl hP.1
        have e1 : ∀ x : Bool, (if x = true then (1 : Int32) else 0) = 0 ↔ ¬ x = true := by intro x; cases x <;> decide
        have e4 : (z_I (z_g m 2) 0 0 0 < b ∨ z_I (z_g m 2) 0 0 0 = 0) ∨ ¬ (z_I (z_g m 2) 0 0 0 < b ∨ z_I (z_g m 2) 0 0 0 = 0) := Classical.em _
        have eM : z_s (mPaper m).2 (mPaper m).1 (cTellRate (z_g (mPaper m).2 (mPaper m).1) a.toNatClampNeg b c).2 = mTell m a b c := rfl
        have eO : (cTellRate (z_g (mPaper m).2 (mPaper m).1) a.toNatClampNeg b c).1 = oTell m a b c := rfl
        simp only [eM, eO] at h16
        have h53 := fun Q => zs_53 (d := d + 4) (r := 2) (k := a.toNatClampNeg) (m := mTell m a b c) (day := b) (Q := Q) (by rw [mTell_2 hM]; exact hB.kd c1)
        rw [mTell_2 hM] at h53
        have h54 := fun Q => zs_54 (d := d + 4) (r := 2) (k := a.toNatClampNeg) (m := mKeep (mTell m a b c) 7) (day := b) (Q := Q) (by rw [mKeep_2 hM1, mTell_2 hM]; exact hB.kd c1)
        rw [mKeep_2 hM1, mTell_2 hM] at h54
        have h16b := fun Q => zs_16 (d := d) (r := 2) (m := mKeep (mTell m a b c) 7) (a := a) (b := b) (c := c) (Q := Q) k1 (by rw [mKeep_2 hM1, mTell_2 hM]; exact hB.2.2 _ (z_k5 c1)) (by rw [mKeep_2 hM1, mTell_2 hM]; exact hM.1.2.2) (by rw [mKeep_2 hM1, mTell_2 hM]; exact hB.1)
        rw [mKeep_2 hM1, mTell_2 hM] at h16b
        have hmid : z_call (d + 6) 83 [zr (some (5, 0, 0)), zi a, zi b, zi c] m Q = if z_I (z_g m 2) 0 0 0 < b ∨ z_I (z_g m 2) 0 0 0 = 0 then (if oTell m a b c = true then zW 83 (d + 5) Q 88 [some (zr (some (5, 0, 0))), some (zi a), some (zi b), some (zi c), some (zi 1), none, none] [] (mTell m a b c) 1 else Q (some (zi (-4))) (mRef (mTell m a b c) (-4))) else Q (some (zi (-4))) (mRef m (-4)) := by
          by_cases c4 : z_I (z_g m 2) 0 0 0 < b
          · by_cases c5 : oTell m a b c = true
            · simp only [↓zen_83, ↓zu_83_0, ↓zu_83_29, ↓zu_83_35, ↓zu_83_56, ↓zu_83_60, ↓zu_83_61, ↓zu_83_81, ↓zx_nil, ↓zx_cons, ↓zp_li, ↓zp_ll, ↓zp_lr, ↓zq_li0, ↓zq_li1, ↓zq_ll0, ↓zq_ll1, ↓zq_lr0, ↓zq_lr1, ↓zk_0, ↓zk_1n, ↓zk_1i, ↓zk_1r, ↓zk_1l, ↓zk_2, zp_okt, ↓zp_okl, zp_sh0, zp_sh1, zp_psn, zp_pss, ↓zp_ri1, ↓zp_ri20, ↓zp_ri21, ↓zp_rl, ↓zp_ra, ↓zp_rv, ↓zp_br, ↓reduceIte, Nat.reduceAdd, Nat.zero_add, Nat.add_zero, Nat.le_refl, Nat.zero_le, ↓zx_iload_1, ↓zyc_81, ↓zy_if_eq, ↓zx_iload_2, ↓zx_iconst, ↓zx_sipush, ↓zyc_71, ↓zy_if_ne, ↓zx_iload_3, ↓zx_aload_0, ↓zyc_72, ↓zx_iret, ↓zyg_5_0, ↓zyg_0_0, ↓zy_ic_gt, ↓zx_goto, ↓zy_istore, ↓zx_iload, ↓zyc_84, ↓zyc_16, ↓zx_bipush, ↓zyg_0_8, ↓zya_7, ↓zya_8, ↓zya_9, ↓zya_10, ↓zya_17, ↓zya_18, ↓zy_astore, ↓zx_aload, ↓zyc_53, ↓zyg_2_2, ↓zy_ic_lt, ↓zyc_73, ↓zyc_54, ↓zy_popi, ↓zy_popr, ↓zyc_75, ↓zs_81, ↓zs_71, z_i10, z_10, z_00, and_self, not_true_eq_false, not_false_eq_true, true_and, and_true, false_and, and_false, true_or, false_or, or_false, or_true, or_self, if_true, if_false, ite_self, ↓zs_72, Bool.false_eq_true, n12, n22, c1, c2, c3, c4, h84, h16, c5]
            · simp only [↓zen_83, ↓zu_83_0, ↓zu_83_29, ↓zu_83_35, ↓zu_83_56, ↓zu_83_60, ↓zu_83_61, ↓zu_83_81, ↓zx_nil, ↓zx_cons, ↓zp_li, ↓zp_ll, ↓zp_lr, ↓zq_li0, ↓zq_li1, ↓zq_ll0, ↓zq_ll1, ↓zq_lr0, ↓zq_lr1, ↓zk_0, ↓zk_1n, ↓zk_1i, ↓zk_1r, ↓zk_1l, ↓zk_2, zp_okt, ↓zp_okl, zp_sh0, zp_sh1, zp_psn, zp_pss, ↓zp_ri1, ↓zp_ri20, ↓zp_ri21, ↓zp_rl, ↓zp_ra, ↓zp_rv, ↓zp_br, ↓reduceIte, Nat.reduceAdd, Nat.zero_add, Nat.add_zero, Nat.le_refl, Nat.zero_le, ↓zx_iload_1, ↓zyc_81, ↓zy_if_eq, ↓zx_iload_2, ↓zx_iconst, ↓zx_sipush, ↓zyc_71, ↓zy_if_ne, ↓zx_iload_3, ↓zx_aload_0, ↓zyc_72, ↓zx_iret, ↓zyg_5_0, ↓zyg_0_0, ↓zy_ic_gt, ↓zx_goto, ↓zy_istore, ↓zx_iload, ↓zyc_84, ↓zyc_16, ↓zx_bipush, ↓zyg_0_8, ↓zya_7, ↓zya_8, ↓zya_9, ↓zya_10, ↓zya_17, ↓zya_18, ↓zy_astore, ↓zx_aload, ↓zyc_53, ↓zyg_2_2, ↓zy_ic_lt, ↓zyc_73, ↓zyc_54, ↓zy_popi, ↓zy_popr, ↓zyc_75, ↓zs_81, ↓zs_71, z_i10, z_10, z_00, and_self, not_true_eq_false, not_false_eq_true, true_and, and_true, false_and, and_false, true_or, false_or, or_false, or_true, or_self, if_true, if_false, ite_self, ↓zs_72, Bool.false_eq_true, n12, n22, c1, c2, c3, c4, h84, h16, c5]
          · by_cases c6 : z_I (z_g m 2) 0 0 0 = 0
            · by_cases c5 : oTell m a b c = true
              · simp only [↓zen_83, ↓zu_83_0, ↓zu_83_29, ↓zu_83_35, ↓zu_83_56, ↓zu_83_60, ↓zu_83_61, ↓zu_83_81, ↓zx_nil, ↓zx_cons, ↓zp_li, ↓zp_ll, ↓zp_lr, ↓zq_li0, ↓zq_li1, ↓zq_ll0, ↓zq_ll1, ↓zq_lr0, ↓zq_lr1, ↓zk_0, ↓zk_1n, ↓zk_1i, ↓zk_1r, ↓zk_1l, ↓zk_2, zp_okt, ↓zp_okl, zp_sh0, zp_sh1, zp_psn, zp_pss, ↓zp_ri1, ↓zp_ri20, ↓zp_ri21, ↓zp_rl, ↓zp_ra, ↓zp_rv, ↓zp_br, ↓reduceIte, Nat.reduceAdd, Nat.zero_add, Nat.add_zero, Nat.le_refl, Nat.zero_le, ↓zx_iload_1, ↓zyc_81, ↓zy_if_eq, ↓zx_iload_2, ↓zx_iconst, ↓zx_sipush, ↓zyc_71, ↓zy_if_ne, ↓zx_iload_3, ↓zx_aload_0, ↓zyc_72, ↓zx_iret, ↓zyg_5_0, ↓zyg_0_0, ↓zy_ic_gt, ↓zx_goto, ↓zy_istore, ↓zx_iload, ↓zyc_84, ↓zyc_16, ↓zx_bipush, ↓zyg_0_8, ↓zya_7, ↓zya_8, ↓zya_9, ↓zya_10, ↓zya_17, ↓zya_18, ↓zy_astore, ↓zx_aload, ↓zyc_53, ↓zyg_2_2, ↓zy_ic_lt, ↓zyc_73, ↓zyc_54, ↓zy_popi, ↓zy_popr, ↓zyc_75, ↓zs_81, ↓zs_71, z_i10, z_10, z_00, and_self, not_true_eq_false, not_false_eq_true, true_and, and_true, false_and, and_false, true_or, false_or, or_false, or_true, or_self, if_true, if_false, ite_self, ↓zs_72, Bool.false_eq_true, n12, n22, c1, c2, c3, c4, c6, h84, h16, c5]
              · simp only [↓zen_83, ↓zu_83_0, ↓zu_83_29, ↓zu_83_35, ↓zu_83_56, ↓zu_83_60, ↓zu_83_61, ↓zu_83_81, ↓zx_nil, ↓zx_cons, ↓zp_li, ↓zp_ll, ↓zp_lr, ↓zq_li0, ↓zq_li1, ↓zq_ll0, ↓zq_ll1, ↓zq_lr0, ↓zq_lr1, ↓zk_0, ↓zk_1n, ↓zk_1i, ↓zk_1r, ↓zk_1l, ↓zk_2, zp_okt, ↓zp_okl, zp_sh0, zp_sh1, zp_psn, zp_pss, ↓zp_ri1, ↓zp_ri20, ↓zp_ri21, ↓zp_rl, ↓zp_ra, ↓zp_rv, ↓zp_br, ↓reduceIte, Nat.reduceAdd, Nat.zero_add, Nat.add_zero, Nat.le_refl, Nat.zero_le, ↓zx_iload_1, ↓zyc_81, ↓zy_if_eq, ↓zx_iload_2, ↓zx_iconst, ↓zx_sipush, ↓zyc_71, ↓zy_if_ne, ↓zx_iload_3, ↓zx_aload_0, ↓zyc_72, ↓zx_iret, ↓zyg_5_0, ↓zyg_0_0, ↓zy_ic_gt, ↓zx_goto, ↓zy_istore, ↓zx_iload, ↓zyc_84, ↓zyc_16, ↓zx_bipush, ↓zyg_0_8, ↓zya_7, ↓zya_8, ↓zya_9, ↓zya_10, ↓zya_17, ↓zya_18, ↓zy_astore, ↓zx_aload, ↓zyc_53, ↓zyg_2_2, ↓zy_ic_lt, ↓zyc_73, ↓zyc_54, ↓zy_popi, ↓zy_popr, ↓zyc_75, ↓zs_81, ↓zs_71, z_i10, z_10, z_00, and_self, not_true_eq_false, not_false_eq_true, true_and, and_true, false_and, and_false, true_or, false_or, or_false, or_true, or_self, if_true, if_false, ite_self, ↓zs_72, Bool.false_eq_true, n12, n22, c1, c2, c3, c4, c6, h84, h16, c5]
            · simp only [↓zen_83, ↓zu_83_0, ↓zu_83_29, ↓zu_83_35, ↓zu_83_56, ↓zu_83_60, ↓zu_83_61, ↓zu_83_81, ↓zx_nil, ↓zx_cons, ↓zp_li, ↓zp_ll, ↓zp_lr, ↓zq_li0, ↓zq_li1, ↓zq_ll0, ↓zq_ll1, ↓zq_lr0, ↓zq_lr1, ↓zk_0, ↓zk_1n, ↓zk_1i, ↓zk_1r, ↓zk_1l, ↓zk_2, zp_okt, ↓zp_okl, zp_sh0, zp_sh1, zp_psn, zp_pss, ↓zp_ri1, ↓zp_ri20, ↓zp_ri21, ↓zp_rl, ↓zp_ra, ↓zp_rv, ↓zp_br, ↓reduceIte, Nat.reduceAdd, Nat.zero_add, Nat.add_zero, Nat.le_refl, Nat.zero_le, ↓zx_iload_1, ↓zyc_81, ↓zy_if_eq, ↓zx_iload_2, ↓zx_iconst, ↓zx_sipush, ↓zyc_71, ↓zy_if_ne, ↓zx_iload_3, ↓zx_aload_0, ↓zyc_72, ↓zx_iret, ↓zyg_5_0, ↓zyg_0_0, ↓zy_ic_gt, ↓zx_goto, ↓zy_istore, ↓zx_iload, ↓zyc_84, ↓zyc_16, ↓zx_bipush, ↓zyg_0_8, ↓zya_7, ↓zya_8, ↓zya_9, ↓zya_10, ↓zya_17, ↓zya_18, ↓zy_astore, ↓zx_aload, ↓zyc_53, ↓zyg_2_2, ↓zy_ic_lt, ↓zyc_73, ↓zyc_54, ↓zy_popi, ↓zy_popr, ↓zyc_75, ↓zs_81, ↓zs_71, z_i10, z_10, z_00, and_self, not_true_eq_false, not_false_eq_true, true_and, and_true, false_and, and_false, true_or, false_or, or_false, or_true, or_self, if_true, if_false, ite_self, ↓zs_72, Bool.false_eq_true, n12, n22, c1, c2, c3, c4, c6]
        rw [hmid, if_pos (show (0 ≤ a ∧ a < 5) ∧ ¬ (b < 0 ∨ 9999 < b) ∧ ¬ (c < 0 ∨ 999 < c) from ⟨c1, c2, c3⟩)]
        by_cases c4 : z_I (z_g m 2) 0 0 0 < b ∨ z_I (z_g m 2) 0 0 0 = 0
        · rw [if_pos c4, if_pos c4]
          by_cases c5 : oTell m a b c = true
          · rw [if_pos c5, if_pos c5]
            have h5 := fun x Q => zs_75 (d := d) (m := z_s (mKeep (mTell m a b c) 7) 2 (cTellRate (z_g m 2) a.toNatClampNeg b c).2) (Q := Q) (v := x) (by rw [z_g_ss]; exact hT c1 c2 c3 c4 c5)
            by_cases c7 : cToldFrom (z_g m 2) a.toNatClampNeg b (cTold (z_g m 2) a.toNatClampNeg) 0 = true
            · simp only [↓zu_83_0, ↓zu_83_29, ↓zu_83_35, ↓zu_83_56, ↓zu_83_60, ↓zu_83_61, ↓zu_83_81, ↓zu_83_88, ↓zu_83_125, ↓zx_nil, ↓zx_cons, ↓zp_li, ↓zp_ll, ↓zp_lr, ↓zq_li0, ↓zq_li1, ↓zq_ll0, ↓zq_ll1, ↓zq_lr0, ↓zq_lr1, ↓zk_0, ↓zk_1n, ↓zk_1i, ↓zk_1r, ↓zk_1l, ↓zk_2, zp_okt, ↓zp_okl, zp_sh0, zp_sh1, zp_psn, zp_pss, ↓zp_ri1, ↓zp_ri20, ↓zp_ri21, ↓zp_rl, ↓zp_ra, ↓zp_rv, ↓zp_br, ↓reduceIte, Nat.reduceAdd, Nat.zero_add, Nat.add_zero, Nat.le_refl, Nat.zero_le, ↓zx_iload_1, ↓zyc_81, ↓zy_if_eq, ↓zx_iload_2, ↓zx_iconst, ↓zx_sipush, ↓zyc_71, ↓zy_if_ne, ↓zx_iload_3, ↓zx_aload_0, ↓zyc_72, ↓zx_iret, ↓zyg_5_0, ↓zyg_0_0, ↓zy_ic_gt, ↓zx_goto, ↓zy_istore, ↓zx_iload, ↓zyc_84, ↓zyc_16, ↓zx_bipush, ↓zyg_0_8, ↓zya_7, ↓zya_8, ↓zya_9, ↓zya_10, ↓zya_17, ↓zya_18, ↓zy_astore, ↓zx_aload, ↓zyc_53, ↓zyg_2_2, ↓zy_ic_lt, ↓zyc_73, ↓zyc_54, ↓zy_popi, ↓zy_popr, ↓zyc_75, z_i10, z_10, z_00, and_self, not_true_eq_false, not_false_eq_true, true_and, and_true, false_and, and_false, true_or, false_or, or_false, or_true, or_self, if_true, if_false, ite_self, ↓zs_72, Bool.false_eq_true, n12, n22, eq_true k1, h53, h54, h16b, mTell_2 hM, c7, ↓zs_73 hM1.1 hM1.2.1 hM1.2.2, mKeep_2 hM1, h5]
            · by_cases c8 : z_I (z_g m 2) 2 a.toNatClampNeg 2 < 12
              · simp only [↓zu_83_0, ↓zu_83_29, ↓zu_83_35, ↓zu_83_56, ↓zu_83_60, ↓zu_83_61, ↓zu_83_81, ↓zu_83_88, ↓zu_83_125, ↓zx_nil, ↓zx_cons, ↓zp_li, ↓zp_ll, ↓zp_lr, ↓zq_li0, ↓zq_li1, ↓zq_ll0, ↓zq_ll1, ↓zq_lr0, ↓zq_lr1, ↓zk_0, ↓zk_1n, ↓zk_1i, ↓zk_1r, ↓zk_1l, ↓zk_2, zp_okt, ↓zp_okl, zp_sh0, zp_sh1, zp_psn, zp_pss, ↓zp_ri1, ↓zp_ri20, ↓zp_ri21, ↓zp_rl, ↓zp_ra, ↓zp_rv, ↓zp_br, ↓reduceIte, Nat.reduceAdd, Nat.zero_add, Nat.add_zero, Nat.le_refl, Nat.zero_le, ↓zx_iload_1, ↓zyc_81, ↓zy_if_eq, ↓zx_iload_2, ↓zx_iconst, ↓zx_sipush, ↓zyc_71, ↓zy_if_ne, ↓zx_iload_3, ↓zx_aload_0, ↓zyc_72, ↓zx_iret, ↓zyg_5_0, ↓zyg_0_0, ↓zy_ic_gt, ↓zx_goto, ↓zy_istore, ↓zx_iload, ↓zyc_84, ↓zyc_16, ↓zx_bipush, ↓zyg_0_8, ↓zya_7, ↓zya_8, ↓zya_9, ↓zya_10, ↓zya_17, ↓zya_18, ↓zy_astore, ↓zx_aload, ↓zyc_53, ↓zyg_2_2, ↓zy_ic_lt, ↓zyc_73, ↓zyc_54, ↓zy_popi, ↓zy_popr, ↓zyc_75, z_i10, z_10, z_00, and_self, not_true_eq_false, not_false_eq_true, true_and, and_true, false_and, and_false, true_or, false_or, or_false, or_true, or_self, if_true, if_false, ite_self, ↓zs_72, Bool.false_eq_true, n12, n22, eq_true k1, h53, h54, h16b, mTell_2 hM, c7, c8, ↓zs_73 hM1.1 hM1.2.1 hM1.2.2, mKeep_2 hM1, h5]
              · simp only [↓zu_83_0, ↓zu_83_29, ↓zu_83_35, ↓zu_83_56, ↓zu_83_60, ↓zu_83_61, ↓zu_83_81, ↓zu_83_88, ↓zu_83_125, ↓zx_nil, ↓zx_cons, ↓zp_li, ↓zp_ll, ↓zp_lr, ↓zq_li0, ↓zq_li1, ↓zq_ll0, ↓zq_ll1, ↓zq_lr0, ↓zq_lr1, ↓zk_0, ↓zk_1n, ↓zk_1i, ↓zk_1r, ↓zk_1l, ↓zk_2, zp_okt, ↓zp_okl, zp_sh0, zp_sh1, zp_psn, zp_pss, ↓zp_ri1, ↓zp_ri20, ↓zp_ri21, ↓zp_rl, ↓zp_ra, ↓zp_rv, ↓zp_br, ↓reduceIte, Nat.reduceAdd, Nat.zero_add, Nat.add_zero, Nat.le_refl, Nat.zero_le, ↓zx_iload_1, ↓zyc_81, ↓zy_if_eq, ↓zx_iload_2, ↓zx_iconst, ↓zx_sipush, ↓zyc_71, ↓zy_if_ne, ↓zx_iload_3, ↓zx_aload_0, ↓zyc_72, ↓zx_iret, ↓zyg_5_0, ↓zyg_0_0, ↓zy_ic_gt, ↓zx_goto, ↓zy_istore, ↓zx_iload, ↓zyc_84, ↓zyc_16, ↓zx_bipush, ↓zyg_0_8, ↓zya_7, ↓zya_8, ↓zya_9, ↓zya_10, ↓zya_17, ↓zya_18, ↓zy_astore, ↓zx_aload, ↓zyc_53, ↓zyg_2_2, ↓zy_ic_lt, ↓zyc_73, ↓zyc_54, ↓zy_popi, ↓zy_popr, ↓zyc_75, z_i10, z_10, z_00, and_self, not_true_eq_false, not_false_eq_true, true_and, and_true, false_and, and_false, true_or, false_or, or_false, or_true, or_self, if_true, if_false, ite_self, ↓zs_72, Bool.false_eq_true, n12, n22, eq_true k1, h53, mTell_2 hM, c7, c8]
          · rw [if_neg c5, if_neg c5]
        · rw [if_neg c4, if_neg c4]
  · simp only [↓zen_83, ↓zu_83_0, ↓zu_83_29, ↓zu_83_35, ↓zu_83_56, ↓zu_83_60, ↓zu_83_61, ↓zu_83_81, ↓zu_83_88, ↓zu_83_125, ↓zx_nil, ↓zx_cons, ↓zp_li, ↓zp_ll, ↓zp_lr, ↓zq_li0, ↓zq_li1, ↓zq_ll0, ↓zq_ll1, ↓zq_lr0, ↓zq_lr1, ↓zk_0, ↓zk_1n, ↓zk_1i, ↓zk_1r, ↓zk_1l, ↓zk_2, zp_okt, ↓zp_okl, zp_sh0, zp_sh1, zp_psn, zp_pss, ↓zp_ri1, ↓zp_ri20, ↓zp_ri21, ↓zp_rl, ↓zp_ra, ↓zp_rv, ↓zp_br, ↓reduceIte, Nat.reduceAdd, Nat.zero_add, Nat.add_zero, Nat.le_refl, Nat.zero_le, ↓zx_iload_1, ↓zyc_81, ↓zy_if_eq, ↓zx_iload_2, ↓zx_iconst, ↓zx_sipush, ↓zyc_71, ↓zy_if_ne, ↓zx_iload_3, ↓zx_aload_0, ↓zyc_72, ↓zx_iret, ↓zyg_5_0, ↓zyg_0_0, ↓zy_ic_gt, ↓zx_goto, ↓zy_istore, ↓zx_iload, ↓zyc_84, ↓zyc_16, ↓zx_bipush, ↓zyg_0_8, ↓zya_7, ↓zya_8, ↓zya_9, ↓zya_10, ↓zya_17, ↓zya_18, ↓zy_astore, ↓zx_aload, ↓zyc_53, ↓zyg_2_2, ↓zy_ic_lt, ↓zyc_73, ↓zyc_54, ↓zy_popi, ↓zy_popr, ↓zyc_75, ↓zs_81, ↓zs_71, z_i10, z_10, z_00, and_self, not_true_eq_false, not_false_eq_true, true_and, and_true, false_and, and_false, true_or, false_or, or_false, or_true, or_self, if_true, if_false, ite_self, ↓zs_72, Bool.false_eq_true, n12, n22, c1]
-- 21 undo
def cUSlot (m : zM) : Nat := (cKf m + (cKc m - 1)) % 8
def mUndo1 (m : zM) : zM := z_s m 0 (z_uI (z_g m 0) 5 0 6 (nI (cKc m - 1)))
def mUndo2 (m : zM) : zM := match z_d m (3 + cUSlot m) with
  | none => mUndo1 m
  | some q => z_s (mUndo1 m) 2 (cpBk (z_g m 2) (z_g m q))
def mUndo (m : zM) : zM := z_s (mUndo2 m) 0 (z_uI (z_g (mUndo2 m) 0) 5 0 7 0)
set_option maxRecDepth 100000 in
set_option maxHeartbeats 4000000 in
theorem zs_97 (hM : cMok m) (hQ : ∀ q, z_d m (3 + cUSlot m) = some q → cCnts (z_g m q)) : z_call (d + 3) 97 [zr (some (5, 0, 0))] m Q = if z_I (z_g m 0) 5 0 6 = 0 then Q (some (zi (-4))) (mRef m (-4)) else Q (some (zi (z_I (z_g m 0) 19 0 (cUSlot m)))) (mUndo m) := by
  by_cases c1 : z_I (z_g m 0) 5 0 6 = 0
  · simp only [↓zen_97, ↓zu_97_0, ↓zu_97_14, ↓zu_97_56, ↓zx_nil, ↓zx_cons, ↓zp_li, ↓zp_ll, ↓zp_lr, ↓zq_li0, ↓zq_li1, ↓zq_ll0, ↓zq_ll1, ↓zq_lr0, ↓zq_lr1, ↓zk_0, ↓zk_1n, ↓zk_1i, ↓zk_1r, ↓zk_1l, ↓zk_2, zp_okt, ↓zp_okl, zp_sh0, zp_sh1, zp_psn, zp_pss, ↓zp_ri1, ↓zp_ri20, ↓zp_ri21, ↓zp_rl, ↓zp_ra, ↓zp_rv, ↓zp_br, ↓reduceIte, Nat.reduceAdd, Nat.zero_add, Nat.add_zero, Nat.le_refl, Nat.zero_le, ↓zx_aload_0, ↓zyg_5_6, ↓zy_if_ne, ↓zx_bipush, ↓zyc_72, ↓zx_iret, ↓zy_dupi, ↓zy_dupr, ↓zx_iconst, ↓zy_isub, ↓zyp_5_6, ↓zyg_5_5, ↓zy_iadd, ↓zy_irem, ↓zy_istore_1, ↓zyg_5_3, ↓zx_iload_1, ↓zya_7, ↓zya_8, ↓zya_9, ↓zya_10, ↓zya_17, ↓zya_18, ↓zy_astore_2, ↓zx_aload_2, ↓zy_ifnull, ↓zyg_5_0, ↓zyc_1, ↓zyp_5_7, ↓zyg_5_4, ↓zya_19, ↓zya_20, ↓zya_11, ↓zya_12, ↓zya_13, ↓zya_14, ↓zya_15, ↓zya_16, z_i10, z_10, z_00, and_self, not_true_eq_false, not_false_eq_true, true_and, and_true, false_and, and_false, true_or, false_or, or_false, or_true, or_self, if_true, if_false, ite_self, ↓zs_72, c1]
  · have e5 : z_I (z_g m 0) 5 0 5 = nI (cKf m) := hM.2.2.1.eq
    have e6 : z_I (z_g m 0) 5 0 6 = nI (cKc m) := hM.2.2.2.eq
    have b5 : cKf m ≤ 7 := hM.2.2.1.2
    have b6 : cKc m ≤ 8 := hM.2.2.2.2
    have b7 : 0 < cKc m := by
      rcases Nat.eq_zero_or_pos (cKc m) with q | q
      · exact absurd (by rw [e6, q]; rfl) c1
      · exact q
    have c1' : ¬ nI (cKc m) = 0 := by rw [← e6]; exact c1
    have hm1 : nI (cKc m) - 1 = nI (cKc m - 1) := by
      obtain ⟨q, e⟩ := Nat.exists_eq_add_of_le' b7
      rw [e]; exact nI_pred q
    have hr : nI (cKf m) + nI (cKc m - 1) - (nI (cKf m) + nI (cKc m - 1)) / 8 * 8 = nI (cUSlot m) := by
      rw [nI_add, z_rem8 (by omega)]; rfl
    have hs : cUSlot m < 8 := Nat.mod_lt _ (by decide)
    have h2 := z_vi1 hs (by decide)
    have h3 := nI_clamp (show cUSlot m < 2 ^ 31 by omega)
    have h8 : ¬ (8 : Int32) = 0 := by decide
    have hg2 : z_g (z_s m 0 (z_uI (z_g m 0) 5 0 6 (nI (cKc m - 1)))) 2 = z_g m 2 := z_g_20
    unfold mUndo mUndo2
    cases hq : z_d m (3 + cUSlot m) with
    | none =>
      simp only [↓zen_97, ↓zu_97_0, ↓zu_97_14, ↓zu_97_56, ↓zx_nil, ↓zx_cons, ↓zp_li, ↓zp_ll, ↓zp_lr, ↓zq_li0, ↓zq_li1, ↓zq_ll0, ↓zq_ll1, ↓zq_lr0, ↓zq_lr1, ↓zk_0, ↓zk_1n, ↓zk_1i, ↓zk_1r, ↓zk_1l, ↓zk_2, zp_okt, ↓zp_okl, zp_sh0, zp_sh1, zp_psn, zp_pss, ↓zp_ri1, ↓zp_ri20, ↓zp_ri21, ↓zp_rl, ↓zp_ra, ↓zp_rv, ↓zp_br, ↓reduceIte, Nat.reduceAdd, Nat.zero_add, Nat.add_zero, Nat.le_refl, Nat.zero_le, ↓zx_aload_0, ↓zyg_5_6, ↓zy_if_ne, ↓zx_bipush, ↓zyc_72, ↓zx_iret, ↓zy_dupi, ↓zy_dupr, ↓zx_iconst, ↓zy_isub, ↓zyp_5_6, ↓zyg_5_5, ↓zy_iadd, ↓zy_irem, ↓zy_istore_1, ↓zyg_5_3, ↓zx_iload_1, ↓zya_7, ↓zya_8, ↓zya_9, ↓zya_10, ↓zya_17, ↓zya_18, ↓zy_astore_2, ↓zx_aload_2, ↓zy_ifnull, ↓zyg_5_0, ↓zyc_1, ↓zyp_5_7, ↓zyg_5_4, ↓zya_19, ↓zya_20, ↓zya_11, ↓zya_12, ↓zya_13, ↓zya_14, ↓zya_15, ↓zya_16, z_i10, z_10, z_00, and_self, not_true_eq_false, not_false_eq_true, true_and, and_true, false_and, and_false, true_or, false_or, or_false, or_true, or_self, if_true, if_false, ite_self, ↓zs_72, c1', e5, e6, hm1, z_g_ss, zq_ss, z_I_u, Nat.reduceEqDiff, hr, h2, h3, h8, show ∀ (S : zS) j, z_d (z_s m 0 S) j = z_d m j from fun _ _ => rfl, hq, Option.map_none, mUndo1]
    | some q =>
      have hq2 := (hM.2.1.2 _ q hq)
      have h1 := fun Q => zs_1 (d := d) (r := 2) (r2 := q) (m := mUndo1 m) (Q := Q) hq2.1 (by unfold mUndo1; rw [z_g_sn hq2.2.1]; exact (hQ q hq).1) (by unfold mUndo1; rw [z_g_sn hq2.2.1]; exact (hQ q hq).2.1) (by unfold mUndo1; rw [z_g_sn hq2.2.1]; exact (hQ q hq).2.2)
      unfold mUndo1 at h1
      rw [z_g_20, z_g_sn hq2.2.1] at h1
      simp only [↓zen_97, ↓zu_97_0, ↓zu_97_14, ↓zu_97_56, ↓zx_nil, ↓zx_cons, ↓zp_li, ↓zp_ll, ↓zp_lr, ↓zq_li0, ↓zq_li1, ↓zq_ll0, ↓zq_ll1, ↓zq_lr0, ↓zq_lr1, ↓zk_0, ↓zk_1n, ↓zk_1i, ↓zk_1r, ↓zk_1l, ↓zk_2, zp_okt, ↓zp_okl, zp_sh0, zp_sh1, zp_psn, zp_pss, ↓zp_ri1, ↓zp_ri20, ↓zp_ri21, ↓zp_rl, ↓zp_ra, ↓zp_rv, ↓zp_br, ↓reduceIte, Nat.reduceAdd, Nat.zero_add, Nat.add_zero, Nat.le_refl, Nat.zero_le, ↓zx_aload_0, ↓zyg_5_6, ↓zy_if_ne, ↓zx_bipush, ↓zyc_72, ↓zx_iret, ↓zy_dupi, ↓zy_dupr, ↓zx_iconst, ↓zy_isub, ↓zyp_5_6, ↓zyg_5_5, ↓zy_iadd, ↓zy_irem, ↓zy_istore_1, ↓zyg_5_3, ↓zx_iload_1, ↓zya_7, ↓zya_8, ↓zya_9, ↓zya_10, ↓zya_17, ↓zya_18, ↓zy_astore_2, ↓zx_aload_2, ↓zy_ifnull, ↓zyg_5_0, ↓zyc_1, ↓zyp_5_7, ↓zyg_5_4, ↓zya_19, ↓zya_20, ↓zya_11, ↓zya_12, ↓zya_13, ↓zya_14, ↓zya_15, ↓zya_16, z_i10, z_10, z_00, and_self, not_true_eq_false, not_false_eq_true, true_and, and_true, false_and, and_false, true_or, false_or, or_false, or_true, or_self, if_true, if_false, ite_self, ↓zs_72, c1', e5, e6, hm1, z_g_ss, zq_ss, z_I_u, Nat.reduceEqDiff, hr, h2, h3, h8, show ∀ (S : zS) j, z_d (z_s m 0 S) j = z_d m j from fun _ _ => rfl, hq, Option.map_some, reduceCtorEq, mUndo1, h1, z_g_02]
-- 22 image
def mImage (m : zM) (j : Nat) : zM := z_s (z_sd (mCopied m (z_d m (1 + j))).2 (1 + j) (some (mCopied m (z_d m (1 + j))).1)) 0 (z_uI (z_g (mCopied m (z_d m (1 + j))).2 0) 5 0 7 0)
theorem z_im (h : ¬ (v < 0 ∨ 1 < v)) : vp_in v 2 := fun q => by
  rcases q with q | q
  · exact h (.inl q)
  · have h0 : (0 : Int32) ≤ v := Int32.not_lt.mp fun q => h (.inl q)
    have h2 : v ≤ 1 := Int32.not_lt.mp fun q => h (.inr q)
    rw [Int32.le_iff_toInt_le] at h0 h2
    rw [Int32.toNatClampNeg] at q
    have : (1 : Int32).toInt = 1 := rfl
    omega
set_option maxRecDepth 100000 in
set_option maxHeartbeats 4000000 in
theorem zs_98 (hM : cMok m) : z_call (d + 4) 98 [zr (some (5, 0, 0)), zi v] m Q = if v < 0 ∨ 1 < v then Q (some (zi (-1))) (mRef m (-1)) else Q (some (zi (z_I (z_g m 2) 0 0 0))) (mImage m v.toNatClampNeg) := by
  by_cases c1 : v < 0 ∨ 1 < v
  · simp only [↓zen_98, ↓zu_98_0, ↓zu_98_15, ↓zx_nil, ↓zx_cons, ↓zp_li, ↓zp_ll, ↓zp_lr, ↓zq_li0, ↓zq_li1, ↓zq_ll0, ↓zq_ll1, ↓zq_lr0, ↓zq_lr1, ↓zk_0, ↓zk_1n, ↓zk_1i, ↓zk_1r, ↓zk_1l, ↓zk_2, zp_okt, ↓zp_okl, zp_sh0, zp_sh1, zp_psn, zp_pss, ↓zp_ri1, ↓zp_ri20, ↓zp_ri21, ↓zp_rl, ↓zp_ra, ↓zp_rv, ↓zp_br, ↓reduceIte, Nat.reduceAdd, Nat.zero_add, Nat.add_zero, Nat.le_refl, Nat.zero_le, ↓zx_iload_1, ↓zx_iconst, ↓zyc_71, ↓zy_if_eq, ↓zx_aload_0, ↓zyc_72, ↓zx_iret, ↓zyg_5_2, ↓zya_7, ↓zya_8, ↓zya_9, ↓zya_10, ↓zya_17, ↓zya_18, ↓zyc_74, ↓zyb_17, ↓zyb_18, ↓zyp_5_7, ↓zyg_5_0, ↓zyg_0_0, ↓zs_71, z_i10, z_10, z_00, and_self, not_true_eq_false, not_false_eq_true, true_and, and_true, false_and, and_false, true_or, false_or, or_false, or_true, or_self, if_true, if_false, ite_self, ↓zs_72, c1]
  · have k1 := z_im c1
    have h74 := fun Q => zs_74 (d := d) (m := m) (Q := Q) (o := z_d m (1 + v.toNatClampNeg)) hM.1 hM.2.1.1 (fun q h => (hM.2.1.2 _ q h).1)
    have hg : z_g (mCopied m (z_d m (1 + v.toNatClampNeg))).2 2 = z_g m 2 := mCopied_g (by have := hM.2.1.1; omega) fun q hq => (hM.2.1.2 _ q hq).1.symm
    simp only [↓zen_98, ↓zu_98_0, ↓zu_98_15, ↓zx_nil, ↓zx_cons, ↓zp_li, ↓zp_ll, ↓zp_lr, ↓zq_li0, ↓zq_li1, ↓zq_ll0, ↓zq_ll1, ↓zq_lr0, ↓zq_lr1, ↓zk_0, ↓zk_1n, ↓zk_1i, ↓zk_1r, ↓zk_1l, ↓zk_2, zp_okt, ↓zp_okl, zp_sh0, zp_sh1, zp_psn, zp_pss, ↓zp_ri1, ↓zp_ri20, ↓zp_ri21, ↓zp_rl, ↓zp_ra, ↓zp_rv, ↓zp_br, ↓reduceIte, Nat.reduceAdd, Nat.zero_add, Nat.add_zero, Nat.le_refl, Nat.zero_le, ↓zx_iload_1, ↓zx_iconst, ↓zyc_71, ↓zy_if_eq, ↓zx_aload_0, ↓zyc_72, ↓zx_iret, ↓zyg_5_2, ↓zya_7, ↓zya_8, ↓zya_9, ↓zya_10, ↓zya_17, ↓zya_18, ↓zyc_74, ↓zyb_17, ↓zyb_18, ↓zyp_5_7, ↓zyg_5_0, ↓zyg_0_0, ↓zs_71, z_i10, z_10, z_00, and_self, not_true_eq_false, not_false_eq_true, true_and, and_true, false_and, and_false, true_or, false_or, or_false, or_true, or_self, if_true, if_false, ite_self, ↓zs_72, c1, eq_true k1, h74, z_g_sd, z_g_20, hg]
    rfl
-- 23 back
def mBack (m : zM) (q : Nat) : zM := z_s (z_s m 2 (cpBk (z_g m 2) (z_g m q))) 0 (z_uI (z_uI (z_g m 0) 5 0 6 0) 5 0 7 0)
set_option maxRecDepth 100000 in
set_option maxHeartbeats 4000000 in
theorem zs_99 (hM : cMok m) (hQ : ∀ q, z_d m (1 + v.toNatClampNeg) = some q → cCnts (z_g m q)) : z_call (d + 3) 99 [zr (some (5, 0, 0)), zi v] m Q = if v < 0 ∨ 1 < v then Q (some (zi (-1))) (mRef m (-1)) else match z_d m (1 + v.toNatClampNeg) with
    | none => Q (some (zi (-4))) (mRef m (-4))
    | some q => Q (some (zi (z_I (cpBk (z_g m 2) (z_g m q)) 0 0 0))) (mBack m q) := by
  by_cases c1 : v < 0 ∨ 1 < v
  · simp only [↓zen_99, ↓zu_99_0, ↓zu_99_15, ↓zu_99_33, ↓zx_nil, ↓zx_cons, ↓zp_li, ↓zp_ll, ↓zp_lr, ↓zq_li0, ↓zq_li1, ↓zq_ll0, ↓zq_ll1, ↓zq_lr0, ↓zq_lr1, ↓zk_0, ↓zk_1n, ↓zk_1i, ↓zk_1r, ↓zk_1l, ↓zk_2, zp_okt, ↓zp_okl, zp_sh0, zp_sh1, zp_psn, zp_pss, ↓zp_ri1, ↓zp_ri20, ↓zp_ri21, ↓zp_rl, ↓zp_ra, ↓zp_rv, ↓zp_br, ↓reduceIte, Nat.reduceAdd, Nat.zero_add, Nat.add_zero, Nat.le_refl, Nat.zero_le, ↓zx_iload_1, ↓zx_iconst, ↓zyc_71, ↓zy_if_eq, ↓zx_aload_0, ↓zyc_72, ↓zx_iret, ↓zyg_5_2, ↓zya_7, ↓zya_8, ↓zya_9, ↓zya_10, ↓zya_17, ↓zya_18, ↓zy_astore_2, ↓zx_aload_2, ↓zy_ifnonnull, ↓zx_bipush, ↓zyg_5_0, ↓zyc_1, ↓zyp_5_6, ↓zyp_5_7, ↓zyg_0_0, ↓zs_71, z_i10, z_10, z_00, and_self, not_true_eq_false, not_false_eq_true, true_and, and_true, false_and, and_false, true_or, false_or, or_false, or_true, or_self, if_true, if_false, ite_self, ↓zs_72, c1]
  · have k1 := z_im c1
    cases hq : z_d m (1 + v.toNatClampNeg) with
    | none => simp only [↓zen_99, ↓zu_99_0, ↓zu_99_15, ↓zu_99_33, ↓zx_nil, ↓zx_cons, ↓zp_li, ↓zp_ll, ↓zp_lr, ↓zq_li0, ↓zq_li1, ↓zq_ll0, ↓zq_ll1, ↓zq_lr0, ↓zq_lr1, ↓zk_0, ↓zk_1n, ↓zk_1i, ↓zk_1r, ↓zk_1l, ↓zk_2, zp_okt, ↓zp_okl, zp_sh0, zp_sh1, zp_psn, zp_pss, ↓zp_ri1, ↓zp_ri20, ↓zp_ri21, ↓zp_rl, ↓zp_ra, ↓zp_rv, ↓zp_br, ↓reduceIte, Nat.reduceAdd, Nat.zero_add, Nat.add_zero, Nat.le_refl, Nat.zero_le, ↓zx_iload_1, ↓zx_iconst, ↓zyc_71, ↓zy_if_eq, ↓zx_aload_0, ↓zyc_72, ↓zx_iret, ↓zyg_5_2, ↓zya_7, ↓zya_8, ↓zya_9, ↓zya_10, ↓zya_17, ↓zya_18, ↓zy_astore_2, ↓zx_aload_2, ↓zy_ifnonnull, ↓zx_bipush, ↓zyg_5_0, ↓zyc_1, ↓zyp_5_6, ↓zyp_5_7, ↓zyg_0_0, ↓zs_71, z_i10, z_10, z_00, and_self, not_true_eq_false, not_false_eq_true, true_and, and_true, false_and, and_false, true_or, false_or, or_false, or_true, or_self, if_true, if_false, ite_self, ↓zs_72, c1, eq_true k1, hq, Option.map_none]
    | some q =>
      have hq2 := (hM.2.1.2 _ q hq)
      have h1 := fun Q => zs_1 (d := d) (r := 2) (r2 := q) (m := m) (Q := Q) hq2.1 (hQ q hq).1 (hQ q hq).2.1 (hQ q hq).2.2
      simp only [↓zen_99, ↓zu_99_0, ↓zu_99_15, ↓zu_99_33, ↓zx_nil, ↓zx_cons, ↓zp_li, ↓zp_ll, ↓zp_lr, ↓zq_li0, ↓zq_li1, ↓zq_ll0, ↓zq_ll1, ↓zq_lr0, ↓zq_lr1, ↓zk_0, ↓zk_1n, ↓zk_1i, ↓zk_1r, ↓zk_1l, ↓zk_2, zp_okt, ↓zp_okl, zp_sh0, zp_sh1, zp_psn, zp_pss, ↓zp_ri1, ↓zp_ri20, ↓zp_ri21, ↓zp_rl, ↓zp_ra, ↓zp_rv, ↓zp_br, ↓reduceIte, Nat.reduceAdd, Nat.zero_add, Nat.add_zero, Nat.le_refl, Nat.zero_le, ↓zx_iload_1, ↓zx_iconst, ↓zyc_71, ↓zy_if_eq, ↓zx_aload_0, ↓zyc_72, ↓zx_iret, ↓zyg_5_2, ↓zya_7, ↓zya_8, ↓zya_9, ↓zya_10, ↓zya_17, ↓zya_18, ↓zy_astore_2, ↓zx_aload_2, ↓zy_ifnonnull, ↓zx_bipush, ↓zyg_5_0, ↓zyc_1, ↓zyp_5_6, ↓zyp_5_7, ↓zyg_0_0, ↓zs_71, z_i10, z_10, z_00, and_self, not_true_eq_false, not_false_eq_true, true_and, and_true, false_and, and_false, true_or, false_or, or_false, or_true, or_self, if_true, if_false, ite_self, ↓zs_72, c1, eq_true k1, hq, Option.map_some, reduceCtorEq, h1, z_g_ss, zq_ss, z_g_02, z_g_20]
      rfl
end Bs5
