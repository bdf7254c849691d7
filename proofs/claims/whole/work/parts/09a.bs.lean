/-! ===== THE CLASS: BondStores, its helpers ===== -/
section Bs1
variable {d r i k g s r2 i2 l : Nat} {m : zM} {Q : zQ} {v w a b c : Int32}
set_option maxRecDepth 100000 in
set_option maxHeartbeats 4000000 in
theorem zs_71 : z_call (d + 1) 71 [zi v, zi a, zi b] m Q = Q (some (zi (if v < a ∨ b < v then 1 else 0))) m := by
  simp only [↓zen_71, ↓zu_71_0, ↓zu_71_10, ↓zu_71_14, ↓zu_71_15, ↓zx_nil, ↓zx_cons, ↓zp_li, ↓zp_ll, ↓zp_lr, ↓zq_li0, ↓zq_li1, ↓zq_ll0, ↓zq_ll1, ↓zq_lr0, ↓zq_lr1, ↓zk_0, ↓zk_1n, ↓zk_1i, ↓zk_1r, ↓zk_1l, ↓zk_2, zp_okt, ↓zp_okl, zp_sh0, zp_sh1, zp_psn, zp_pss, ↓zp_ri1, ↓zp_ri20, ↓zp_ri21, ↓zp_rl, ↓zp_ra, ↓zp_rv, ↓zp_br, ↓reduceIte, Nat.reduceAdd, Nat.zero_add, Nat.add_zero, Nat.le_refl, Nat.zero_le, ↓zx_iload_0, ↓zx_iload_1, ↓zy_ic_lt, ↓zx_iload_2, ↓zy_ic_le, ↓zx_iconst, ↓zx_goto, ↓zx_iret, ← Int32.not_lt]; grind
set_option maxRecDepth 100000 in
set_option maxHeartbeats 4000000 in
theorem zs_81 : z_call (d + 1) 81 [zi v] m Q = Q (some (zi (if 0 ≤ v ∧ v < 5 then 1 else 0))) m := by
  simp only [↓zen_81, ↓zu_81_0, ↓zu_81_13, ↓zu_81_14, ↓zx_nil, ↓zx_cons, ↓zp_li, ↓zp_ll, ↓zp_lr, ↓zq_li0, ↓zq_li1, ↓zq_ll0, ↓zq_ll1, ↓zq_lr0, ↓zq_lr1, ↓zk_0, ↓zk_1n, ↓zk_1i, ↓zk_1r, ↓zk_1l, ↓zk_2, zp_okt, ↓zp_okl, zp_sh0, zp_sh1, zp_psn, zp_pss, ↓zp_ri1, ↓zp_ri20, ↓zp_ri21, ↓zp_rl, ↓zp_ra, ↓zp_rv, ↓zp_br, ↓reduceIte, Nat.reduceAdd, Nat.zero_add, Nat.add_zero, Nat.le_refl, Nat.zero_le, ↓zx_iload_0, ↓zy_if_lt, ↓zx_iconst, ↓zy_ic_ge, ↓zx_goto, ↓zx_iret, ← Int32.not_lt]; grind
-- a refusal
def cRefX (X : zS) (v : Int32) : zS := if v = -1 then z_uI (z_uI X 5 0 7 v) 5 0 8 (z_I X 5 0 8 + 1) else if v = -2 then z_uI (z_uI X 5 0 7 v) 5 0 9 (z_I X 5 0 9 + 1) else if v = -4 then z_uI (z_uI X 5 0 7 v) 5 0 10 (z_I X 5 0 10 + 1) else z_uI (z_uI X 5 0 7 v) 5 0 11 (z_I X 5 0 11 + 1)
def mRef (m : zM) (v : Int32) : zM := z_s m 0 (cRefX (z_g m 0) v)
set_option maxRecDepth 100000 in
set_option maxHeartbeats 4000000 in
theorem zs_72 : z_call (d + 1) 72 [zr (some (5, 0, 0)), zi v] m Q = Q (some (zi v)) (mRef m v) := by
  simp only [↓zen_72, ↓zu_72_0, ↓zu_72_23, ↓zu_72_42, ↓zu_72_61, ↓zu_72_71, ↓zx_nil, ↓zx_cons, ↓zp_li, ↓zp_ll, ↓zp_lr, ↓zq_li0, ↓zq_li1, ↓zq_ll0, ↓zq_ll1, ↓zq_lr0, ↓zq_lr1, ↓zk_0, ↓zk_1n, ↓zk_1i, ↓zk_1r, ↓zk_1l, ↓zk_2, zp_okt, ↓zp_okl, zp_sh0, zp_sh1, zp_psn, zp_pss, ↓zp_ri1, ↓zp_ri20, ↓zp_ri21, ↓zp_rl, ↓zp_ra, ↓zp_rv, ↓zp_br, ↓reduceIte, Nat.reduceAdd, Nat.zero_add, Nat.add_zero, Nat.le_refl, Nat.zero_le, ↓zx_aload_0, ↓zx_iload_1, ↓zyp_5_7, ↓zx_iconst, ↓zy_ic_ne, ↓zy_dupi, ↓zy_dupr, ↓zyg_5_8, ↓zy_iadd, ↓zyp_5_8, ↓zx_goto, ↓zx_bipush, ↓zyg_5_9, ↓zyp_5_9, ↓zyg_5_10, ↓zyp_5_10, ↓zyg_5_11, ↓zyp_5_11, ↓zx_iret, z_g_ss, zq_ss, z_I_u, Nat.reduceEqDiff, and_false, if_false]
  unfold mRef cRefX
  by_cases h1 : v = -1
  · simp only [h1, if_true]
  · by_cases h2 : v = -2
    · simp only [h1, h2, if_true, if_false]
      rfl
    · by_cases h3 : v = -4
      · simp only [h1, h2, h3, if_true, if_false]
        rfl
      · simp only [h1, h2, h3, if_false]
-- an act's end
def cTurnOk (S : zS) : Prop := z_nn (z_I S 0 0 5) 40 ∧ cRowOk (cLUp cLuW S)
def mAct (m : zM) : zM := z_s (z_s m 2 (cTurns (z_g m 2))) 0 (z_uI (z_g m 0) 5 0 7 0)
theorem z_g_02 {m : zM} {S : zS} : z_g (z_s m 2 S) 0 = z_g m 0 := z_g_sn (by decide)
theorem z_g_20 {m : zM} {S : zS} : z_g (z_s m 0 S) 2 = z_g m 2 := z_g_sn (by decide)
set_option maxRecDepth 100000 in
set_option maxHeartbeats 4000000 in
theorem zs_75 (h : cTurnOk (z_g m 2)) : z_call (d + 5) 75 [zr (some (5, 0, 0)), zi v] m Q = Q (some (zi v)) (mAct m) := by
  have h3 := fun Q => zs_3 (d := d) (r := 2) (m := m) (Q := Q) h.1 h.2
  simp only [↓zen_75, ↓zu_75_0, ↓zx_nil, ↓zx_cons, ↓zp_li, ↓zp_ll, ↓zp_lr, ↓zq_li0, ↓zq_li1, ↓zq_ll0, ↓zq_ll1, ↓zq_lr0, ↓zq_lr1, ↓zk_0, ↓zk_1n, ↓zk_1i, ↓zk_1r, ↓zk_1l, ↓zk_2, zp_okt, ↓zp_okl, zp_sh0, zp_sh1, zp_psn, zp_pss, ↓zp_ri1, ↓zp_ri20, ↓zp_ri21, ↓zp_rl, ↓zp_ra, ↓zp_rv, ↓zp_br, ↓reduceIte, Nat.reduceAdd, Nat.zero_add, Nat.add_zero, Nat.le_refl, Nat.zero_le, ↓zx_aload_0, ↓zyg_5_0, ↓zyc_3, ↓zx_iconst, ↓zyp_5_7, ↓zx_iload_1, ↓zx_iret, h3, z_g_02]
  rfl
-- copies
def mCopied (m : zM) (o : Option Nat) : Nat × zM := match o with
  | none => (z_nb m, z_s (z_nw m) (z_nb m) (cpBk z_b0 (z_g m 2)))
  | some q => (q, z_s m q (cpBk (z_g m q) (z_g m 2)))
def cCnts (S : zS) : Prop := z_nn (z_I S 0 0 3) 4 ∧ z_nn (z_I S 0 0 4) 6 ∧ z_nn (z_I S 0 0 5) 40
def cDynOk (m : zM) : Prop := 2 < z_nb m ∧ ∀ j q, z_d m j = some q → q ≠ 2 ∧ q ≠ 0 ∧ q ≠ 1
theorem z_g_nw {m : zM} {r : Nat} (h : r ≠ z_nb m) : z_g (z_nw m) r = z_g m r := if_neg h
theorem z_g_nn {m : zM} : z_g (z_nw m) (z_nb m) = z_b0 := if_pos rfl
set_option maxRecDepth 100000 in
set_option maxHeartbeats 4000000 in
theorem zs_74 {o : Option Nat} (hc : cCnts (z_g m 2)) (hd : 2 < z_nb m) (ho : ∀ q, o = some q → q ≠ 2) : z_call (d + 3) 74 [zr (some (5, 0, 0)), zr (o.map fun q => (0, q, 0))] m Q = Q (some (zr (some (0, (mCopied m o).1, 0)))) (mCopied m o).2 := by
  cases o with
  | none =>
    have hne : (2 : Nat) ≠ z_nb m := by omega
    have h1 := fun Q => zs_1 (d := d) (r := z_nb m) (r2 := 2) (m := z_nw m) (Q := Q) hne (by rw [z_g_nw hne]; exact hc.1) (by rw [z_g_nw hne]; exact hc.2.1) (by rw [z_g_nw hne]; exact hc.2.2)
    rw [z_g_nw hne, z_g_nn] at h1
    simp only [↓zen_74, ↓zu_74_0, ↓zu_74_14, ↓zu_74_15, ↓zx_nil, ↓zx_cons, ↓zp_li, ↓zp_ll, ↓zp_lr, ↓zq_li0, ↓zq_li1, ↓zq_ll0, ↓zq_ll1, ↓zq_lr0, ↓zq_lr1, ↓zk_0, ↓zk_1n, ↓zk_1i, ↓zk_1r, ↓zk_1l, ↓zk_2, zp_okt, ↓zp_okl, zp_sh0, zp_sh1, zp_psn, zp_pss, ↓zp_ri1, ↓zp_ri20, ↓zp_ri21, ↓zp_rl, ↓zp_ra, ↓zp_rv, ↓zp_br, ↓reduceIte, Nat.reduceAdd, Nat.zero_add, Nat.add_zero, Nat.le_refl, Nat.zero_le, ↓zx_aload_1, ↓zy_ifnonnull, ↓zx_new, ↓zy_dupi, ↓zy_dupr, ↓zx_goto, ↓zy_astore_2, ↓zx_aload_2, ↓zx_aload_0, ↓zyg_5_0, ↓zyc_1, ↓zx_aret, Option.map_none, h1, Nat.ble_eq_true_of_le (show 1 ≤ 1 by decide), Nat.ble_eq_true_of_le (show 2 ≤ d + 2 by omega), Bool.and_self]
    rfl
  | some q =>
    have hne : (2 : Nat) ≠ q := fun e => ho q rfl e.symm
    have h1 := fun Q => zs_1 (d := d) (r := q) (r2 := 2) (m := m) (Q := Q) hne hc.1 hc.2.1 hc.2.2
    simp only [↓zen_74, ↓zu_74_0, ↓zu_74_14, ↓zu_74_15, ↓zx_nil, ↓zx_cons, ↓zp_li, ↓zp_ll, ↓zp_lr, ↓zq_li0, ↓zq_li1, ↓zq_ll0, ↓zq_ll1, ↓zq_lr0, ↓zq_lr1, ↓zk_0, ↓zk_1n, ↓zk_1i, ↓zk_1r, ↓zk_1l, ↓zk_2, zp_okt, ↓zp_okl, zp_sh0, zp_sh1, zp_psn, zp_pss, ↓zp_ri1, ↓zp_ri20, ↓zp_ri21, ↓zp_rl, ↓zp_ra, ↓zp_rv, ↓zp_br, ↓reduceIte, Nat.reduceAdd, Nat.zero_add, Nat.add_zero, Nat.le_refl, Nat.zero_le, ↓zx_aload_1, ↓zy_ifnonnull, ↓zx_new, ↓zy_dupi, ↓zy_dupr, ↓zx_goto, ↓zy_astore_2, ↓zx_aload_2, ↓zx_aload_0, ↓zyg_5_0, ↓zyc_1, ↓zx_aret, Option.map_some, reduceCtorEq, h1]
    rfl
theorem mCopied_g {m : zM} {o : Option Nat} {r : Nat} (h : r ≠ z_nb m) (ho : ∀ q, o = some q → r ≠ q) : z_g (mCopied m o).2 r = z_g m r := by
  cases o with
  | none =>
    show z_g (z_s (z_nw m) (z_nb m) _) r = _
    rw [z_g_sn h, z_g_nw h]
  | some q => exact z_g_sn (ho q rfl)
theorem mCopied_d {m : zM} {o : Option Nat} {j : Nat} : z_d (mCopied m o).2 j = z_d m j := by cases o <;> rfl
-- paper
def mPaper (m : zM) : Nat × zM := ((mCopied m (z_d m 0)).1, z_sd (mCopied m (z_d m 0)).2 0 (some (mCopied m (z_d m 0)).1))
theorem z_d_sd {m : zM} {j : Nat} {v : Option Nat} : z_d (z_sd m j v) j = v := if_pos rfl
set_option maxRecDepth 100000 in
set_option maxHeartbeats 4000000 in
theorem zs_84 (hc : cCnts (z_g m 2)) (hd : cDynOk m) : z_call (d + 4) 84 [zr (some (5, 0, 0))] m Q = Q (some (zr (some (0, (mPaper m).1, 0)))) (mPaper m).2 := by
  have h1 := fun Q => zs_74 (d := d) (m := m) (Q := Q) (o := z_d m 0) hc hd.1 (fun q h => (hd.2 0 q h).1)
  simp only [↓zen_84, ↓zu_84_0, ↓zx_nil, ↓zx_cons, ↓zp_li, ↓zp_ll, ↓zp_lr, ↓zq_li0, ↓zq_li1, ↓zq_ll0, ↓zq_ll1, ↓zq_lr0, ↓zq_lr1, ↓zk_0, ↓zk_1n, ↓zk_1i, ↓zk_1r, ↓zk_1l, ↓zk_2, zp_okt, ↓zp_okl, zp_sh0, zp_sh1, zp_psn, zp_pss, ↓zp_ri1, ↓zp_ri20, ↓zp_ri21, ↓zp_rl, ↓zp_ra, ↓zp_rv, ↓zp_br, ↓reduceIte, Nat.reduceAdd, Nat.zero_add, Nat.add_zero, Nat.le_refl, Nat.zero_le, ↓zx_aload_0, ↓zyg_5_1, ↓zyc_74, ↓zyp_5_1, ↓zx_aret, h1, z_d_sd, Option.map_some]
  rfl
-- what was is kept
theorem z_rem8 {n : Nat} (h : n < 2 ^ 31) : nI n - nI n / 8 * 8 = nI (n % 8) := by
  apply Int32.toInt_inj.mp
  have h1 : (nI n / 8).toInt = ((n / 8 : Nat) : Int) := by
    rw [Int32.toInt_div_of_ne_right _ _ (by decide), nI_toInt h]
    show (n : Int).tdiv 8 = _
    rw [Int.tdiv_eq_ediv_of_nonneg (by omega)]
    omega
  have h2 : (nI n / 8 * 8).toInt = ((n / 8 * 8 : Nat) : Int) := by
    rw [Int32.toInt_mul, h1]
    show (((n / 8 : Nat) : Int) * 8).bmod _ = _
    rw [Int.bmod_eq_of_le] <;> omega
  rw [Int32.toInt_sub, h2, nI_toInt h, nI_toInt (by omega)]
  rw [Int.bmod_eq_of_le] <;> omega
def cKf (m : zM) : Nat := (z_I (z_g m 0) 5 0 5).toNatClampNeg
def cKc (m : zM) : Nat := (z_I (z_g m 0) 5 0 6).toNatClampNeg
def cKf' (m : zM) : Nat := if cKc m = 8 then (cKf m + 1) % 8 else cKf m
def cKc' (m : zM) : Nat := if cKc m = 8 then 8 else cKc m + 1
def cSlot (m : zM) : Nat := (cKf' m + cKc' m - 1) % 8
def cKeepX (m : zM) : zS := if cKc m = 8 then z_uI (z_g m 0) 5 0 5 (nI ((cKf m + 1) % 8)) else z_uI (z_g m 0) 5 0 6 (nI (cKc m + 1))
def mKeep1 (m : zM) : zM := z_s m 0 (cKeepX m)
def mKeep2 (m : zM) : zM := (mCopied (mKeep1 m) (z_d m (3 + cSlot m))).2
def mKeep (m : zM) (v : Int32) : zM := z_s (z_sd (mKeep2 m) (3 + cSlot m) (some (mCopied (mKeep1 m) (z_d m (3 + cSlot m))).1)) 0 (z_uI (z_g (mKeep2 m) 0) 19 0 (cSlot m) v)
def cRing (m : zM) : Prop := z_nn (z_I (z_g m 0) 5 0 5) 7 ∧ z_nn (z_I (z_g m 0) 5 0 6) 8
theorem z_g_sd {m : zM} {j r : Nat} {v : Option Nat} : z_g (z_sd m j v) r = z_g m r := rfl
set_option maxRecDepth 100000 in
set_option maxHeartbeats 4000000 in
theorem zs_73 (hc : cCnts (z_g m 2)) (hd : cDynOk m) (hr : cRing m) : z_call (d + 4) 73 [zr (some (5, 0, 0)), zi v] m Q = Q none (mKeep m v) := by
  have e5 : z_I (z_g m 0) 5 0 5 = nI (cKf m) := hr.1.eq
  have e6 : z_I (z_g m 0) 5 0 6 = nI (cKc m) := hr.2.eq
  have b5 : cKf m ≤ 7 := hr.1.2
  have b6 : cKc m ≤ 8 := hr.2.2
  have hs : cSlot m < 8 := Nat.mod_lt _ (by decide)
  have h74 := fun Q => zs_74 (d := d) (m := mKeep1 m) (Q := Q) (o := z_d m (3 + cSlot m)) (by unfold mKeep1; rw [z_g_20]; exact hc) hd.1 (fun q h => (hd.2 _ q h).1)
  have h2 := z_vi1 hs (by decide)
  have h3 := nI_clamp (show cSlot m < 2 ^ 31 by omega)
  have h8 : ¬ (8 : Int32) = 0 := by decide
  have hm1 : ∀ n, 0 < n → nI n - 1 = nI (n - 1) := fun n hn => by
    obtain ⟨q, rfl⟩ := Nat.exists_eq_add_of_le' hn
    exact nI_pred q
  by_cases h : cKc m = 8
  · have hK : mKeep1 m = z_s m 0 (z_uI (z_g m 0) 5 0 5 (nI ((cKf m + 1) % 8))) := by unfold mKeep1 cKeepX; rw [if_pos h]
    have hS : nI ((cKf m + 1) % 8) + nI (cKc m) - 1 - (nI ((cKf m + 1) % 8) + nI (cKc m) - 1) / 8 * 8 = nI (cSlot m) := by
      rw [nI_add, hm1 _ (by omega), z_rem8 (by omega)]
      unfold cSlot cKf' cKc'
      rw [if_pos h, if_pos h, h]
    have e8 : (nI (cKc m) = 8) = True := by rw [h]; exact eq_true rfl
    have hr1 : nI (cKf m) + 1 - (nI (cKf m) + 1) / 8 * 8 = nI ((cKf m + 1) % 8) := by rw [nI_1, z_rem8 (by omega)]
    unfold mKeep mKeep2
    rw [hK] at h74 ⊢
    simp only [↓zen_73, ↓zu_73_0, ↓zu_73_25, ↓zu_73_35, ↓zx_nil, ↓zx_cons, ↓zp_li, ↓zp_ll, ↓zp_lr, ↓zq_li0, ↓zq_li1, ↓zq_ll0, ↓zq_ll1, ↓zq_lr0, ↓zq_lr1, ↓zk_0, ↓zk_1n, ↓zk_1i, ↓zk_1r, ↓zk_1l, ↓zk_2, zp_okt, ↓zp_okl, zp_sh0, zp_sh1, zp_psn, zp_pss, ↓zp_ri1, ↓zp_ri20, ↓zp_ri21, ↓zp_rl, ↓zp_ra, ↓zp_rv, ↓zp_br, ↓reduceIte, Nat.reduceAdd, Nat.zero_add, Nat.add_zero, Nat.le_refl, Nat.zero_le, ↓zx_aload_0, ↓zyg_5_6, ↓zx_bipush, ↓zy_ic_ne, ↓zyg_5_5, ↓zx_iconst, ↓zy_iadd, ↓zy_irem, ↓zyp_5_5, ↓zx_goto, ↓zy_dupi, ↓zy_dupr, ↓zyp_5_6, ↓zy_isub, ↓zy_istore_2, ↓zyg_5_3, ↓zx_iload_2, ↓zya_7, ↓zya_8, ↓zya_9, ↓zya_10, ↓zya_17, ↓zya_18, ↓zyc_74, ↓zyb_17, ↓zyb_18, ↓zyg_5_4, ↓zx_iload_1, ↓zx_ret, ↓zyb_19, ↓zyb_20, ↓zyb_11, ↓zyb_12, ↓zyb_13, ↓zyb_14, ↓zyb_15, ↓zyb_16, e5, e6, e8, h8, hr1, not_false_eq_true, true_and, z_g_ss, zq_ss, z_I_u, Nat.reduceEqDiff, and_false, if_false, and_self, if_true, hS, h2, h3, show ∀ (S : zS) j, z_d (z_s m 0 S) j = z_d m j from fun _ _ => rfl, h74, z_g_sd]
  · have hK : mKeep1 m = z_s m 0 (z_uI (z_g m 0) 5 0 6 (nI (cKc m + 1))) := by unfold mKeep1 cKeepX; rw [if_neg h]
    have hS : nI (cKf m) + nI (cKc m + 1) - 1 - (nI (cKf m) + nI (cKc m + 1) - 1) / 8 * 8 = nI (cSlot m) := by
      rw [nI_add, hm1 _ (by omega), z_rem8 (by omega)]
      unfold cSlot cKf' cKc'
      rw [if_neg h, if_neg h]
    have e8 : (nI (cKc m) = 8) = False := eq_false fun q => h ((nI_eq (by omega) (by decide)).mp q)
    unfold mKeep mKeep2
    rw [hK] at h74 ⊢
    simp only [↓zen_73, ↓zu_73_0, ↓zu_73_25, ↓zu_73_35, ↓zx_nil, ↓zx_cons, ↓zp_li, ↓zp_ll, ↓zp_lr, ↓zq_li0, ↓zq_li1, ↓zq_ll0, ↓zq_ll1, ↓zq_lr0, ↓zq_lr1, ↓zk_0, ↓zk_1n, ↓zk_1i, ↓zk_1r, ↓zk_1l, ↓zk_2, zp_okt, ↓zp_okl, zp_sh0, zp_sh1, zp_psn, zp_pss, ↓zp_ri1, ↓zp_ri20, ↓zp_ri21, ↓zp_rl, ↓zp_ra, ↓zp_rv, ↓zp_br, ↓reduceIte, Nat.reduceAdd, Nat.zero_add, Nat.add_zero, Nat.le_refl, Nat.zero_le, ↓zx_aload_0, ↓zyg_5_6, ↓zx_bipush, ↓zy_ic_ne, ↓zyg_5_5, ↓zx_iconst, ↓zy_iadd, ↓zy_irem, ↓zyp_5_5, ↓zx_goto, ↓zy_dupi, ↓zy_dupr, ↓zyp_5_6, ↓zy_isub, ↓zy_istore_2, ↓zyg_5_3, ↓zx_iload_2, ↓zya_7, ↓zya_8, ↓zya_9, ↓zya_10, ↓zya_17, ↓zya_18, ↓zyc_74, ↓zyb_17, ↓zyb_18, ↓zyg_5_4, ↓zx_iload_1, ↓zx_ret, ↓zyb_19, ↓zyb_20, ↓zyb_11, ↓zyb_12, ↓zyb_13, ↓zyb_14, ↓zyb_15, ↓zyb_16, e5, e6, e8, nI_1, h8, not_false_eq_true, true_and, z_g_ss, zq_ss, z_I_u, Nat.reduceEqDiff, and_false, if_false, and_self, if_true, hS, h2, h3, show ∀ (S : zS) j, z_d (z_s m 0 S) j = z_d m j from fun _ _ => rfl, h74, z_g_sd]
end Bs1
