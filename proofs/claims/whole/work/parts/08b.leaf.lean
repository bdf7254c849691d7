/-! ===== THE CLASS: memory's laws, numbers, the leaves (Guarantor, Kind, Load, Store) ===== -/
section Leaf
theorem zq_ss (m : zM) (r : Nat) (S S' : zS) : z_s (z_s m r S) r S' = z_s m r S' := by
  unfold z_s
  refine Prod.ext (funext fun q => ?_) rfl
  by_cases h : q = r
  · simp [h]
  · simp [h]
theorem zq_id (m : zM) (r : Nat) : z_s m r (z_g m r) = m := by
  unfold z_s z_g
  refine Prod.ext (funext fun q => ?_) rfl
  by_cases h : q = r
  · simp [h]
  · simp [h]
theorem zq_uId (S : zS) (k i f : Nat) : z_uI S k i f (z_I S k i f) = S := by
  unfold z_uI z_I
  refine Prod.ext (funext fun k' => funext fun i' => funext fun f' => ?_) rfl
  by_cases h : k' = k ∧ i' = i ∧ f' = f
  · obtain ⟨rfl, rfl, rfl⟩ := h
    simp
  · simp [h]
theorem zq_uJd (S : zS) (k i f : Nat) : z_uJ S k i f (z_J S k i f) = S := by
  unfold z_uJ z_J
  refine Prod.ext rfl (funext fun k' => funext fun i' => funext fun f' => ?_)
  by_cases h : k' = k ∧ i' = i ∧ f' = f
  · obtain ⟨rfl, rfl, rfl⟩ := h
    simp
  · simp [h]
theorem zq_uu (S : zS) (k i f : Nat) (v w : Int32) : z_uI (z_uI S k i f v) k i f w = z_uI S k i f w := by
  unfold z_uI
  refine Prod.ext (funext fun k' => funext fun i' => funext fun f' => ?_) rfl
  by_cases h : k' = k ∧ i' = i ∧ f' = f
  · simp [h]
  · simp [h]
theorem zq_uuJ (S : zS) (k i f : Nat) (v w : Int64) : z_uJ (z_uJ S k i f v) k i f w = z_uJ S k i f w := by
  unfold z_uJ
  refine Prod.ext rfl (funext fun k' => funext fun i' => funext fun f' => ?_)
  by_cases h : k' = k ∧ i' = i ∧ f' = f
  · simp [h]
  · simp [h]
-- x is a natural number, at most b
def z_nn (x : Int32) (b : Nat) : Prop := 0 ≤ x ∧ x.toNatClampNeg ≤ b
theorem z_nn_lt {x : Int32} : x.toNatClampNeg < 2 ^ 31 := by
  have := Int32.toInt_lt x
  show x.toInt.toNat < 2 ^ 31
  omega
theorem z_nn_eq {x : Int32} (h : 0 ≤ x) : x = nI x.toNatClampNeg := by
  apply Int32.toInt_inj.mp
  rw [nI_toInt z_nn_lt]
  have h0 : (0 : Int) ≤ x.toInt := by simpa using Int32.le_iff_toInt_le.mp h
  show x.toInt = ((x.toInt.toNat : Nat) : Int)
  omega
theorem z_nn.eq {x : Int32} {b : Nat} (h : z_nn x b) : x = nI x.toNatClampNeg := z_nn_eq h.1
theorem z_le1 {a b : Nat} (h : a ≤ b) (hb : b < 2 ^ 31) : (nI a ≤ nI b) = True := eq_true (nI_le h hb)
theorem z_le0 {a b : Nat} (h : b < a) (hb : a < 2 ^ 31) : (nI a ≤ nI b) = False := eq_false (nI_ge h hb)
theorem z_vi1 {i n : Nat} (h : i < n) (hn : n < 2 ^ 31) : vp_in (nI i) n = True := eq_true (nI_in h hn)
theorem z_vi2 {x : Int32} {b n : Nat} (h : z_nn x b) (hb : b < n) : vp_in x n := fun q => by
  rcases q with q | q
  · exact absurd h.1 (Int32.not_le.mpr q)
  · have := h.2; omega
-- n steps from i on
def z_it {α : Type} (f : Nat → α → α) : Nat → Nat → α → α
  | 0, _, a => a
  | n + 1, i, a => z_it f n (i + 1) (f i a)
variable {d r i k g s : Nat} {m : zM} {Q : zQ} {v w a b c : Int32}
def cFree (S : zS) (g : Nat) : Int32 := z_I S 1 g 0 - z_I S 1 g 1 - z_I S 1 g 2
set_option maxRecDepth 100000 in
set_option maxHeartbeats 4000000 in
theorem zs_47 : z_call (d + 1) 47 [zr (some (1, r, g))] m Q = Q (some (zi (cFree (z_g m r) g))) m := by
  simp only [↓zen_47, ↓zu_47_0, ↓zx_nil, ↓zx_cons, ↓zp_li, ↓zp_ll, ↓zp_lr, ↓zq_li0, ↓zq_li1, ↓zq_ll0, ↓zq_ll1, ↓zq_lr0, ↓zq_lr1, ↓zk_0, ↓zk_1n, ↓zk_1i, ↓zk_1r, ↓zk_1l, ↓zk_2, zp_okt, ↓zp_okl, zp_sh0, zp_sh1, zp_psn, zp_pss, ↓zp_ri1, ↓zp_ri20, ↓zp_ri21, ↓zp_rl, ↓zp_ra, ↓zp_rv, ↓zp_br, ↓reduceIte, Nat.reduceAdd, Nat.zero_add, Nat.add_zero, Nat.le_refl, Nat.zero_le, ↓zx_aload_0, ↓zyg_1_0, ↓zyg_1_1, ↓zy_isub, ↓zyg_1_2, ↓zx_iret]; rfl
def cBegin (S : zS) (g : Nat) (v : Int32) : zS := z_uJ (z_uJ (z_uI (z_uI (z_uI S 1 g 0 v) 1 g 1 0) 1 g 2 0) 1 g 3 0) 1 g 4 0
set_option maxRecDepth 100000 in
set_option maxHeartbeats 4000000 in
theorem zs_46 : z_call (d + 1) 46 [zr (some (1, r, g)), zi v] m Q = Q none (z_s m r (cBegin (z_g m r) g v)) := by
  simp only [↓zen_46, ↓zu_46_0, ↓zx_nil, ↓zx_cons, ↓zp_li, ↓zp_ll, ↓zp_lr, ↓zq_li0, ↓zq_li1, ↓zq_ll0, ↓zq_ll1, ↓zq_lr0, ↓zq_lr1, ↓zk_0, ↓zk_1n, ↓zk_1i, ↓zk_1r, ↓zk_1l, ↓zk_2, zp_okt, ↓zp_okl, zp_sh0, zp_sh1, zp_psn, zp_pss, ↓zp_ri1, ↓zp_ri20, ↓zp_ri21, ↓zp_rl, ↓zp_ra, ↓zp_rv, ↓zp_br, ↓reduceIte, Nat.reduceAdd, Nat.zero_add, Nat.add_zero, Nat.le_refl, Nat.zero_le, ↓zx_aload_0, ↓zx_iload_1, ↓zyp_1_0, ↓zx_iconst, ↓zyp_1_1, ↓zyp_1_2, ↓zx_lconst0, ↓zyp_1_3, ↓zyp_1_4, ↓zx_ret, z_g_ss, zq_ss]; rfl
def cAddDue (S : zS) (g : Nat) (v : Int32) : zS := z_uJ (z_uI S 1 g 2 (z_I S 1 g 2 + v)) 1 g 3 (z_J S 1 g 3 + v.toInt64)
set_option maxRecDepth 100000 in
set_option maxHeartbeats 4000000 in
theorem zs_48 : z_call (d + 1) 48 [zr (some (1, r, g)), zi v] m Q = Q none (z_s m r (cAddDue (z_g m r) g v)) := by
  simp only [↓zen_48, ↓zu_48_0, ↓zx_nil, ↓zx_cons, ↓zp_li, ↓zp_ll, ↓zp_lr, ↓zq_li0, ↓zq_li1, ↓zq_ll0, ↓zq_ll1, ↓zq_lr0, ↓zq_lr1, ↓zk_0, ↓zk_1n, ↓zk_1i, ↓zk_1r, ↓zk_1l, ↓zk_2, zp_okt, ↓zp_okl, zp_sh0, zp_sh1, zp_psn, zp_pss, ↓zp_ri1, ↓zp_ri20, ↓zp_ri21, ↓zp_rl, ↓zp_ra, ↓zp_rv, ↓zp_br, ↓reduceIte, Nat.reduceAdd, Nat.zero_add, Nat.add_zero, Nat.le_refl, Nat.zero_le, ↓zx_aload_0, ↓zy_dupi, ↓zy_dupr, ↓zyg_1_2, ↓zx_iload_1, ↓zy_iadd, ↓zyp_1_2, ↓zyg_1_3, ↓zy_i2l, ↓zy_ladd, ↓zyp_1_3, ↓zx_ret, z_g_ss, zq_ss, z_J_uI]; rfl
-- rates
def cTold (S : zS) (k : Nat) : Nat := (z_I S 2 k 2).toNatClampNeg
def cRateGo (S : zS) (k : Nat) (day : Int32) : Nat → Nat → Int32 → Int32
  | 0, _, a => a
  | n + 1, i, a => if day < z_I S 12 k i then a else cRateGo S k day n (i + 1) (z_I S 13 k i)
def cRate (S : zS) (k : Nat) (day : Int32) : Int32 := cRateGo S k day (cTold S k) 0 0
set_option maxRecDepth 100000 in
set_option maxHeartbeats 4000000 in
theorem zl_54 {day : Int32} {t : Nat} (ht : z_I (z_g m r) 2 k 2 = nI t) (ht2 : t ≤ 13) : ∀ (n i : Nat) (a : Int32), i + n = t → zW 54 d Q 4 [some (zr (some (2, r, k))), some (zi day), some (zi a), some (zi (nI i))] [] m 0 = Q (some (zi (cRateGo (z_g m r) k day n i a))) m := by
  intro n
  induction n with
  | zero =>
    intro i a hi
    have h1 := z_le1 (show t ≤ i by omega) (by omega)
    rw [zu_54_4]
    simp only [↓zu_54_35, ↓zx_nil, ↓zx_cons, ↓zp_li, ↓zp_ll, ↓zp_lr, ↓zq_li0, ↓zq_li1, ↓zq_ll0, ↓zq_ll1, ↓zq_lr0, ↓zq_lr1, ↓zk_0, ↓zk_1n, ↓zk_1i, ↓zk_1r, ↓zk_1l, ↓zk_2, zp_okt, ↓zp_okl, zp_sh0, zp_sh1, zp_psn, zp_pss, ↓zp_ri1, ↓zp_ri20, ↓zp_ri21, ↓zp_rl, ↓zp_ra, ↓zp_rv, ↓zp_br, ↓reduceIte, Nat.reduceAdd, Nat.zero_add, Nat.add_zero, Nat.le_refl, Nat.zero_le, ↓zx_iconst, ↓zy_istore_2, ↓zy_istore_3, ↓zx_iload_3, ↓zx_aload_0, ↓zyg_2_2, ↓zy_ic_ge, ↓zyg_2_0, ↓zx_iload_1, ↓zy_ic_gt, ↓zyg_2_1, ↓zy_iinc, ↓zx_goto, ↓zx_iload_2, ↓zx_iret, ↓zya_12, ↓zya_13, ht, h1, if_true, cRateGo]
  | succ n ih =>
    intro i a hi
    have h1 := z_le0 (show i < t by omega) (by omega)
    have h2 := z_vi1 (show i < 13 by omega) (by decide)
    have h3 := nI_clamp (show i < 2 ^ 31 by omega)
    rw [zu_54_4]
    simp only [↓zu_54_35, ↓zx_nil, ↓zx_cons, ↓zp_li, ↓zp_ll, ↓zp_lr, ↓zq_li0, ↓zq_li1, ↓zq_ll0, ↓zq_ll1, ↓zq_lr0, ↓zq_lr1, ↓zk_0, ↓zk_1n, ↓zk_1i, ↓zk_1r, ↓zk_1l, ↓zk_2, zp_okt, ↓zp_okl, zp_sh0, zp_sh1, zp_psn, zp_pss, ↓zp_ri1, ↓zp_ri20, ↓zp_ri21, ↓zp_rl, ↓zp_ra, ↓zp_rv, ↓zp_br, ↓reduceIte, Nat.reduceAdd, Nat.zero_add, Nat.add_zero, Nat.le_refl, Nat.zero_le, ↓zx_iconst, ↓zy_istore_2, ↓zy_istore_3, ↓zx_iload_3, ↓zx_aload_0, ↓zyg_2_2, ↓zy_ic_ge, ↓zyg_2_0, ↓zx_iload_1, ↓zy_ic_gt, ↓zyg_2_1, ↓zy_iinc, ↓zx_goto, ↓zx_iload_2, ↓zx_iret, ↓zya_12, ↓zya_13, ht, h1, h2, h3, if_false, true_and, nI_1]
    rw [ih (i + 1) _ (by omega)]
    simp only [cRateGo]
    split <;> rfl
set_option maxRecDepth 100000 in
set_option maxHeartbeats 4000000 in
theorem zs_54 {day : Int32} (h : z_nn (z_I (z_g m r) 2 k 2) 13) : z_call (d + 1) 54 [zr (some (2, r, k)), zi day] m Q = Q (some (zi (cRate (z_g m r) k day))) m := by
  simp only [↓zen_54, ↓zu_54_0, ↓zx_nil, ↓zx_cons, ↓zp_li, ↓zp_ll, ↓zp_lr, ↓zq_li0, ↓zq_li1, ↓zq_ll0, ↓zq_ll1, ↓zq_lr0, ↓zq_lr1, ↓zk_0, ↓zk_1n, ↓zk_1i, ↓zk_1r, ↓zk_1l, ↓zk_2, zp_okt, ↓zp_okl, zp_sh0, zp_sh1, zp_psn, zp_pss, ↓zp_ri1, ↓zp_ri20, ↓zp_ri21, ↓zp_rl, ↓zp_ra, ↓zp_rv, ↓zp_br, ↓reduceIte, Nat.reduceAdd, Nat.zero_add, Nat.add_zero, Nat.le_refl, Nat.zero_le, ↓zx_iconst, ↓zy_istore_2, ↓zy_istore_3, ↓zx_iload_3, ↓zx_aload_0, ↓zyg_2_2, ↓zy_ic_ge, ↓zyg_2_0, ↓zx_iload_1, ↓zy_ic_gt, ↓zyg_2_1, ↓zy_iinc, ↓zx_goto, ↓zx_iload_2, ↓zx_iret, ↓zya_12, ↓zya_13]
  exact zl_54 h.eq h.2 (cTold (z_g m r) k) 0 0 (by unfold cTold; omega)
def cGrGo (S : zS) (k : Nat) (first last : Int32) : Nat → Nat → Int32 → Int32
  | 0, _, a => a
  | n + 1, i, a => if last < z_I S 12 k i then a else cGrGo S k first last n (i + 1) (if first < z_I S 12 k i then (if a < z_I S 13 k i then z_I S 13 k i else a) else z_I S 13 k i)
def cGr (S : zS) (k : Nat) (first last : Int32) : Int32 := cGrGo S k first last (cTold S k) 0 0
set_option maxRecDepth 100000 in
set_option maxHeartbeats 4000000 in
theorem zl_50 {first last : Int32} {t : Nat} (ht : z_I (z_g m r) 2 k 2 = nI t) (ht2 : t ≤ 13) : ∀ (n i : Nat) (a : Int32), i + n = t → zW 50 d Q 5 [some (zr (some (2, r, k))), some (zi first), some (zi last), some (zi a), some (zi (nI i))] [] m 0 = Q (some (zi (cGrGo (z_g m r) k first last n i a))) m := by
  intro n
  induction n with
  | zero =>
    intro i a hi
    have h1 := z_le1 (show t ≤ i by omega) (by omega)
    rw [zu_50_5]
    simp only [↓zu_50_64, ↓zx_nil, ↓zx_cons, ↓zp_li, ↓zp_ll, ↓zp_lr, ↓zq_li0, ↓zq_li1, ↓zq_ll0, ↓zq_ll1, ↓zq_lr0, ↓zq_lr1, ↓zk_0, ↓zk_1n, ↓zk_1i, ↓zk_1r, ↓zk_1l, ↓zk_2, zp_okt, ↓zp_okl, zp_sh0, zp_sh1, zp_psn, zp_pss, ↓zp_ri1, ↓zp_ri20, ↓zp_ri21, ↓zp_rl, ↓zp_ra, ↓zp_rv, ↓zp_br, ↓reduceIte, Nat.reduceAdd, Nat.zero_add, Nat.add_zero, Nat.le_refl, Nat.zero_le, ↓zx_iconst, ↓zy_istore_3, ↓zy_istore, ↓zx_iload, ↓zx_aload_0, ↓zyg_2_2, ↓zy_ic_ge, ↓zyg_2_0, ↓zx_iload_2, ↓zy_ic_gt, ↓zx_iload_1, ↓zyg_2_1, ↓zx_goto, ↓zx_iload_3, ↓zy_max, ↓zy_iinc, ↓zx_iret, ↓zya_12, ↓zya_13, ht, h1, if_true, cGrGo]
  | succ n ih =>
    intro i a hi
    have h1 := z_le0 (show i < t by omega) (by omega)
    have h2 := z_vi1 (show i < 13 by omega) (by decide)
    have h3 := nI_clamp (show i < 2 ^ 31 by omega)
    rw [zu_50_5]
    simp only [↓zu_50_46, ↓zu_50_57, ↓zu_50_64, ↓zx_nil, ↓zx_cons, ↓zp_li, ↓zp_ll, ↓zp_lr, ↓zq_li0, ↓zq_li1, ↓zq_ll0, ↓zq_ll1, ↓zq_lr0, ↓zq_lr1, ↓zk_0, ↓zk_1n, ↓zk_1i, ↓zk_1r, ↓zk_1l, ↓zk_2, zp_okt, ↓zp_okl, zp_sh0, zp_sh1, zp_psn, zp_pss, ↓zp_ri1, ↓zp_ri20, ↓zp_ri21, ↓zp_rl, ↓zp_ra, ↓zp_rv, ↓zp_br, ↓reduceIte, Nat.reduceAdd, Nat.zero_add, Nat.add_zero, Nat.le_refl, Nat.zero_le, ↓zx_iconst, ↓zy_istore_3, ↓zy_istore, ↓zx_iload, ↓zx_aload_0, ↓zyg_2_2, ↓zy_ic_ge, ↓zyg_2_0, ↓zx_iload_2, ↓zy_ic_gt, ↓zx_iload_1, ↓zyg_2_1, ↓zx_goto, ↓zx_iload_3, ↓zy_max, ↓zy_iinc, ↓zx_iret, ↓zya_12, ↓zya_13, ht, h1, h2, h3, if_false, true_and, nI_1]
    simp only [ih (i + 1) _ (by omega : i + 1 + n = t), cGrGo]
    split
    · rfl
    · split <;> rfl
set_option maxRecDepth 100000 in
set_option maxHeartbeats 4000000 in
theorem zs_50 {first last : Int32} (h : z_nn (z_I (z_g m r) 2 k 2) 13) : z_call (d + 2) 50 [zr (some (2, r, k)), zi first, zi last] m Q = Q (some (zi (cGr (z_g m r) k first last))) m := by
  simp only [↓zen_50, ↓zu_50_0, ↓zx_nil, ↓zx_cons, ↓zp_li, ↓zp_ll, ↓zp_lr, ↓zq_li0, ↓zq_li1, ↓zq_ll0, ↓zq_ll1, ↓zq_lr0, ↓zq_lr1, ↓zk_0, ↓zk_1n, ↓zk_1i, ↓zk_1r, ↓zk_1l, ↓zk_2, zp_okt, ↓zp_okl, zp_sh0, zp_sh1, zp_psn, zp_pss, ↓zp_ri1, ↓zp_ri20, ↓zp_ri21, ↓zp_rl, ↓zp_ra, ↓zp_rv, ↓zp_br, ↓reduceIte, Nat.reduceAdd, Nat.zero_add, Nat.add_zero, Nat.le_refl, Nat.zero_le, ↓zx_iconst, ↓zy_istore_3, ↓zy_istore, ↓zx_iload, ↓zx_aload_0, ↓zyg_2_2, ↓zy_ic_ge, ↓zyg_2_0, ↓zx_iload_2, ↓zy_ic_gt, ↓zx_iload_1, ↓zyg_2_1, ↓zx_goto, ↓zx_iload_3, ↓zy_max, ↓zy_iinc, ↓zx_iret, ↓zya_12, ↓zya_13]
  exact zl_50 h.eq h.2 (cTold (z_g m r) k) 0 0 (by unfold cTold; omega)
def cAllow (S : zS) (k : Nat) (q t : Int32) : Int32 := q * (if z_I S 2 k 4 < z_I S 2 k 3 * t then z_I S 2 k 4 else z_I S 2 k 3 * t) / 10000
set_option maxRecDepth 100000 in
set_option maxHeartbeats 4000000 in
theorem zs_55 {q t : Int32} : z_call (d + 1) 55 [zr (some (2, r, k)), zi q, zi t] m Q = Q (some (zi (cAllow (z_g m r) k q t))) m := by
  simp only [↓zen_55, ↓zu_55_0, ↓zx_nil, ↓zx_cons, ↓zp_li, ↓zp_ll, ↓zp_lr, ↓zq_li0, ↓zq_li1, ↓zq_ll0, ↓zq_ll1, ↓zq_lr0, ↓zq_lr1, ↓zk_0, ↓zk_1n, ↓zk_1i, ↓zk_1r, ↓zk_1l, ↓zk_2, zp_okt, ↓zp_okl, zp_sh0, zp_sh1, zp_psn, zp_pss, ↓zp_ri1, ↓zp_ri20, ↓zp_ri21, ↓zp_rl, ↓zp_ra, ↓zp_rv, ↓zp_br, ↓reduceIte, Nat.reduceAdd, Nat.zero_add, Nat.add_zero, Nat.le_refl, Nat.zero_le, ↓zx_iload_1, ↓zx_aload_0, ↓zyg_2_3, ↓zx_iload_2, ↓zy_imul, ↓zyg_2_4, ↓zy_min, ↓zx_sipush, ↓zy_idiv, ↓zx_iret, show ¬ (10000 : Int32) = 0 by decide, not_false_eq_true, true_and]; rfl
def cToldFrom (S : zS) (k : Nat) (day : Int32) : Nat → Nat → Bool
  | 0, _ => false
  | n + 1, i => if z_I S 12 k i = day then true else cToldFrom S k day n (i + 1)
set_option maxRecDepth 100000 in
set_option maxHeartbeats 4000000 in
theorem zl_53 {day : Int32} {t : Nat} (ht : z_I (z_g m r) 2 k 2 = nI t) (ht2 : t ≤ 13) : ∀ (n i : Nat), i + n = t → zW 53 d Q 2 [some (zr (some (2, r, k))), some (zi day), some (zi (nI i))] [] m 0 = Q (some (zi (if cToldFrom (z_g m r) k day n i = true then 1 else 0))) m := by
  intro n
  induction n with
  | zero =>
    intro i hi
    have h1 := z_le1 (show t ≤ i by omega) (by omega)
    rw [zu_53_2]
    simp only [↓zu_53_28, ↓zx_nil, ↓zx_cons, ↓zp_li, ↓zp_ll, ↓zp_lr, ↓zq_li0, ↓zq_li1, ↓zq_ll0, ↓zq_ll1, ↓zq_lr0, ↓zq_lr1, ↓zk_0, ↓zk_1n, ↓zk_1i, ↓zk_1r, ↓zk_1l, ↓zk_2, zp_okt, ↓zp_okl, zp_sh0, zp_sh1, zp_psn, zp_pss, ↓zp_ri1, ↓zp_ri20, ↓zp_ri21, ↓zp_rl, ↓zp_ra, ↓zp_rv, ↓zp_br, ↓reduceIte, Nat.reduceAdd, Nat.zero_add, Nat.add_zero, Nat.le_refl, Nat.zero_le, ↓zx_iconst, ↓zy_istore_2, ↓zx_iload_2, ↓zx_aload_0, ↓zyg_2_2, ↓zy_ic_ge, ↓zyg_2_0, ↓zx_iload_1, ↓zy_ic_ne, ↓zx_iret, ↓zy_iinc, ↓zx_goto, ↓zya_12, ↓zya_13, ht, h1, if_true, cToldFrom]; rfl
  | succ n ih =>
    intro i hi
    have h1 := z_le0 (show i < t by omega) (by omega)
    have h2 := z_vi1 (show i < 13 by omega) (by decide)
    have h3 := nI_clamp (show i < 2 ^ 31 by omega)
    rw [zu_53_2]
    simp only [↓zu_53_22, ↓zu_53_28, ↓zx_nil, ↓zx_cons, ↓zp_li, ↓zp_ll, ↓zp_lr, ↓zq_li0, ↓zq_li1, ↓zq_ll0, ↓zq_ll1, ↓zq_lr0, ↓zq_lr1, ↓zk_0, ↓zk_1n, ↓zk_1i, ↓zk_1r, ↓zk_1l, ↓zk_2, zp_okt, ↓zp_okl, zp_sh0, zp_sh1, zp_psn, zp_pss, ↓zp_ri1, ↓zp_ri20, ↓zp_ri21, ↓zp_rl, ↓zp_ra, ↓zp_rv, ↓zp_br, ↓reduceIte, Nat.reduceAdd, Nat.zero_add, Nat.add_zero, Nat.le_refl, Nat.zero_le, ↓zx_iconst, ↓zy_istore_2, ↓zx_iload_2, ↓zx_aload_0, ↓zyg_2_2, ↓zy_ic_ge, ↓zyg_2_0, ↓zx_iload_1, ↓zy_ic_ne, ↓zx_iret, ↓zy_iinc, ↓zx_goto, ↓zya_12, ↓zya_13, ht, h1, h2, h3, if_false, true_and, nI_1]
    simp only [ih (i + 1) (by omega : i + 1 + n = t), cToldFrom]
    split <;> rfl
set_option maxRecDepth 100000 in
set_option maxHeartbeats 4000000 in
theorem zs_53 {day : Int32} (h : z_nn (z_I (z_g m r) 2 k 2) 13) : z_call (d + 1) 53 [zr (some (2, r, k)), zi day] m Q = Q (some (zi (if cToldFrom (z_g m r) k day (cTold (z_g m r) k) 0 = true then 1 else 0))) m := by
  simp only [↓zen_53, ↓zu_53_0, ↓zx_nil, ↓zx_cons, ↓zp_li, ↓zp_ll, ↓zp_lr, ↓zq_li0, ↓zq_li1, ↓zq_ll0, ↓zq_ll1, ↓zq_lr0, ↓zq_lr1, ↓zk_0, ↓zk_1n, ↓zk_1i, ↓zk_1r, ↓zk_1l, ↓zk_2, zp_okt, ↓zp_okl, zp_sh0, zp_sh1, zp_psn, zp_pss, ↓zp_ri1, ↓zp_ri20, ↓zp_ri21, ↓zp_rl, ↓zp_ra, ↓zp_rv, ↓zp_br, ↓reduceIte, Nat.reduceAdd, Nat.zero_add, Nat.add_zero, Nat.le_refl, Nat.zero_le, ↓zx_iconst, ↓zy_istore_2, ↓zx_iload_2, ↓zx_aload_0, ↓zyg_2_2, ↓zy_ic_ge, ↓zyg_2_0, ↓zx_iload_1, ↓zy_ic_ne, ↓zx_iret, ↓zy_iinc, ↓zx_goto, ↓zya_12, ↓zya_13]
  exact zl_53 h.eq h.2 (cTold (z_g m r) k) 0 (by unfold cTold; omega)
-- loads
def cRest (S : zS) (i : Nat) : Int32 := z_I S 3 i 4 - z_I S 3 i 8
set_option maxRecDepth 100000 in
set_option maxHeartbeats 4000000 in
theorem zs_59 : z_call (d + 1) 59 [zr (some (3, r, i))] m Q = Q (some (zi (cRest (z_g m r) i))) m := by
  simp only [↓zen_59, ↓zu_59_0, ↓zx_nil, ↓zx_cons, ↓zp_li, ↓zp_ll, ↓zp_lr, ↓zq_li0, ↓zq_li1, ↓zq_ll0, ↓zq_ll1, ↓zq_lr0, ↓zq_lr1, ↓zk_0, ↓zk_1n, ↓zk_1i, ↓zk_1r, ↓zk_1l, ↓zk_2, zp_okt, ↓zp_okl, zp_sh0, zp_sh1, zp_psn, zp_pss, ↓zp_ri1, ↓zp_ri20, ↓zp_ri21, ↓zp_rl, ↓zp_ra, ↓zp_rv, ↓zp_br, ↓reduceIte, Nat.reduceAdd, Nat.zero_add, Nat.add_zero, Nat.le_refl, Nat.zero_le, ↓zx_aload_0, ↓zyg_3_4, ↓zyg_3_8, ↓zy_isub, ↓zx_iret]; rfl
def cLatest (S : zS) (i : Nat) : Int32 := z_I S 3 i 7 + z_I S 3 i 5
set_option maxRecDepth 100000 in
set_option maxHeartbeats 4000000 in
theorem zs_60 : z_call (d + 1) 60 [zr (some (3, r, i))] m Q = Q (some (zi (cLatest (z_g m r) i))) m := by
  simp only [↓zen_60, ↓zu_60_0, ↓zx_nil, ↓zx_cons, ↓zp_li, ↓zp_ll, ↓zp_lr, ↓zq_li0, ↓zq_li1, ↓zq_ll0, ↓zq_ll1, ↓zq_lr0, ↓zq_lr1, ↓zk_0, ↓zk_1n, ↓zk_1i, ↓zk_1r, ↓zk_1l, ↓zk_2, zp_okt, ↓zp_okl, zp_sh0, zp_sh1, zp_psn, zp_pss, ↓zp_ri1, ↓zp_ri20, ↓zp_ri21, ↓zp_rl, ↓zp_ra, ↓zp_rv, ↓zp_br, ↓reduceIte, Nat.reduceAdd, Nat.zero_add, Nat.add_zero, Nat.le_refl, Nat.zero_le, ↓zx_aload_0, ↓zyg_3_7, ↓zyg_3_5, ↓zy_iadd, ↓zx_iret]; rfl
theorem z_c0 : (0 : Int32).toNatClampNeg = 0 := rfl
theorem z_c1' : (1 : Int32).toNatClampNeg = 1 := rfl
theorem z_c2 : (2 : Int32).toNatClampNeg = 2 := rfl
theorem z_c3 : (3 : Int32).toNatClampNeg = 3 := rfl
theorem z_c4 : (4 : Int32).toNatClampNeg = 4 := rfl
theorem z_vp {x : Int32} {n : Nat} (h : (decide (x < 0) || decide (n ≤ x.toNatClampNeg)) = false) : vp_in x n = True := eq_true fun q => by
  simp only [Bool.or_eq_false_iff, decide_eq_false_iff_not] at h
  rcases q with q | q
  · exact h.1 q
  · exact h.2 q
theorem z_v04 : vp_in 0 4 = True := z_vp (by decide)
theorem z_v14 : vp_in 1 4 = True := z_vp (by decide)
theorem z_v24 : vp_in 2 4 = True := z_vp (by decide)
theorem z_v34 : vp_in 3 4 = True := z_vp (by decide)
theorem z_v05 : vp_in 0 5 = True := z_vp (by decide)
theorem z_v15 : vp_in 1 5 = True := z_vp (by decide)
theorem z_v25 : vp_in 2 5 = True := z_vp (by decide)
theorem z_v35 : vp_in 3 5 = True := z_vp (by decide)
theorem z_v45 : vp_in 4 5 = True := z_vp (by decide)
theorem z_40 : ((4 : Int32) ≤ 0) = False := by decide
theorem z_41 : ((4 : Int32) ≤ 1) = False := by decide
theorem z_42 : ((4 : Int32) ≤ 2) = False := by decide
theorem z_43 : ((4 : Int32) ≤ 3) = False := by decide
theorem z_44 : ((4 : Int32) ≤ 4) = True := by decide
theorem z_50 : ((5 : Int32) ≤ 0) = False := by decide
theorem z_51 : ((5 : Int32) ≤ 1) = False := by decide
theorem z_52 : ((5 : Int32) ≤ 2) = False := by decide
theorem z_53 : ((5 : Int32) ≤ 3) = False := by decide
theorem z_54 : ((5 : Int32) ≤ 4) = False := by decide
theorem z_55 : ((5 : Int32) ≤ 5) = True := by decide
theorem z_01 : (0 : Int32) + 1 = 1 := by decide
theorem z_12 : (1 : Int32) + 1 = 2 := by decide
theorem z_23 : (2 : Int32) + 1 = 3 := by decide
theorem z_34 : (3 : Int32) + 1 = 4 := by decide
theorem z_45 : (4 : Int32) + 1 = 5 := by decide
def cHeld (S : zS) (i : Nat) : Int32 := 0 + z_I S 14 i 0 + z_I S 14 i 1 + z_I S 14 i 2 + z_I S 14 i 3
set_option maxRecDepth 100000 in
set_option maxHeartbeats 4000000 in
theorem zs_61 : z_call (d + 1) 61 [zr (some (3, r, i))] m Q = Q (some (zi (cHeld (z_g m r) i))) m := by
  simp only [↓zen_61, ↓zu_61_0, ↓zx_nil, ↓zx_cons, ↓zp_li, ↓zp_ll, ↓zp_lr, ↓zq_li0, ↓zq_li1, ↓zq_ll0, ↓zq_ll1, ↓zq_lr0, ↓zq_lr1, ↓zk_0, ↓zk_1n, ↓zk_1i, ↓zk_1r, ↓zk_1l, ↓zk_2, zp_okt, ↓zp_okl, zp_sh0, zp_sh1, zp_psn, zp_pss, ↓zp_ri1, ↓zp_ri20, ↓zp_ri21, ↓zp_rl, ↓zp_ra, ↓zp_rv, ↓zp_br, ↓reduceIte, Nat.reduceAdd, Nat.zero_add, Nat.add_zero, Nat.le_refl, Nat.zero_le, ↓zx_iconst, ↓zy_istore_1, ↓zy_istore_2, ↓zx_iload_2, ↓zy_ic_ge, ↓zx_iload_1, ↓zx_aload_0, ↓zyg_3_15, ↓zy_iadd, ↓zy_iinc, ↓zx_goto, ↓zx_iret, ↓zya_14]
  iterate 5 (rw [zu_61_4]; simp only [↓zu_61_24, ↓zx_nil, ↓zx_cons, ↓zp_li, ↓zp_ll, ↓zp_lr, ↓zq_li0, ↓zq_li1, ↓zq_ll0, ↓zq_ll1, ↓zq_lr0, ↓zq_lr1, ↓zk_0, ↓zk_1n, ↓zk_1i, ↓zk_1r, ↓zk_1l, ↓zk_2, zp_okt, ↓zp_okl, zp_sh0, zp_sh1, zp_psn, zp_pss, ↓zp_ri1, ↓zp_ri20, ↓zp_ri21, ↓zp_rl, ↓zp_ra, ↓zp_rv, ↓zp_br, ↓reduceIte, Nat.reduceAdd, Nat.zero_add, Nat.add_zero, Nat.le_refl, Nat.zero_le, ↓zx_iconst, ↓zy_istore_1, ↓zy_istore_2, ↓zx_iload_2, ↓zy_ic_ge, ↓zx_iload_1, ↓zx_aload_0, ↓zyg_3_15, ↓zy_iadd, ↓zy_iinc, ↓zx_goto, ↓zx_iret, ↓zya_14, z_40, z_41, z_42, z_43, z_44, z_01, z_12, z_23, z_34, z_v04, z_v14, z_v24, z_v34, z_c0, z_c1', z_c2, z_c3, if_true, if_false, true_and])
  rfl
set_option maxRecDepth 100000 in
set_option maxHeartbeats 4000000 in
theorem zs_63 : z_call (d + 1) 63 [zr (some (3, r, i)), zi v] m Q = Q (some (zi (if z_I (z_g m r) 3 i 0 = 1 ∧ ¬ v = z_I (z_g m r) 3 i 1 ∧ ¬ v = z_I (z_g m r) 3 i 2 then 1 else 0))) m := by
  simp only [↓zen_63, ↓zu_63_0, ↓zu_63_28, ↓zu_63_29, ↓zx_nil, ↓zx_cons, ↓zp_li, ↓zp_ll, ↓zp_lr, ↓zq_li0, ↓zq_li1, ↓zq_ll0, ↓zq_ll1, ↓zq_lr0, ↓zq_lr1, ↓zk_0, ↓zk_1n, ↓zk_1i, ↓zk_1r, ↓zk_1l, ↓zk_2, zp_okt, ↓zp_okl, zp_sh0, zp_sh1, zp_psn, zp_pss, ↓zp_ri1, ↓zp_ri20, ↓zp_ri21, ↓zp_rl, ↓zp_ra, ↓zp_rv, ↓zp_br, ↓reduceIte, Nat.reduceAdd, Nat.zero_add, Nat.add_zero, Nat.le_refl, Nat.zero_le, ↓zx_aload_0, ↓zyg_3_0, ↓zx_iconst, ↓zy_ic_ne, ↓zx_iload_1, ↓zyg_3_1, ↓zy_ic_eq, ↓zyg_3_2, ↓zx_goto, ↓zx_iret]
  grind
-- stores
set_option maxRecDepth 100000 in
set_option maxHeartbeats 4000000 in
theorem zs_69 (h : vp_in v 5) : z_call (d + 1) 69 [zr (some (4, r, s)), zi v, zi w] m Q = Q (some (zi (if z_I (z_g m r) 15 s v.toNatClampNeg + w ≤ 99999 then 1 else 0))) m := by
  simp only [↓zen_69, ↓zu_69_0, ↓zu_69_17, ↓zu_69_18, ↓zx_nil, ↓zx_cons, ↓zp_li, ↓zp_ll, ↓zp_lr, ↓zq_li0, ↓zq_li1, ↓zq_ll0, ↓zq_ll1, ↓zq_lr0, ↓zq_lr1, ↓zk_0, ↓zk_1n, ↓zk_1i, ↓zk_1r, ↓zk_1l, ↓zk_2, zp_okt, ↓zp_okl, zp_sh0, zp_sh1, zp_psn, zp_pss, ↓zp_ri1, ↓zp_ri20, ↓zp_ri21, ↓zp_rl, ↓zp_ra, ↓zp_rv, ↓zp_br, ↓reduceIte, Nat.reduceAdd, Nat.zero_add, Nat.add_zero, Nat.le_refl, Nat.zero_le, ↓zx_aload_0, ↓zyg_4_0, ↓zx_iload_1, ↓zx_iload_2, ↓zy_iadd, ↓zx_ldc, ↓zy_ic_gt, ↓zx_iconst, ↓zx_goto, ↓zx_iret, ↓zya_15, ↓zya_16, eq_true h, true_and]
  by_cases h1 : z_I (z_g m r) 15 s v.toNatClampNeg + w ≤ 99999
  · have h2 : ¬ 99999 < z_I (z_g m r) 15 s v.toNatClampNeg + w := Int32.not_lt.mpr h1
    simp only [h1, h2, if_true, if_false]
  · have h2 : 99999 < z_I (z_g m r) 15 s v.toNatClampNeg + w := Int32.not_le.mp h1
    simp only [h1, h2, if_true, if_false]
def cAsk (S : zS) (i : Nat) (f t k q : Int32) : zS :=
  z_uI (z_uI (z_uI (z_uI (z_uJ (z_uJ (z_uI (z_uI (z_uI (z_uI (z_uI (z_uI (z_uI (z_uI (z_uI (z_uI (z_uI (z_uI (z_uI S 3 i 0 0) 3 i 1 f) 3 i 2 t) 3 i 3 k) 3 i 4 q) 3 i 5 0) 3 i 6 0) 3 i 7 (-1)) 3 i 8 0) 3 i 9 0) 3 i 10 0) 3 i 11 0) 3 i 12 (-1)) 3 i 13 0) 3 i 14 0) 14 i 0 0) 14 i 1 0) 14 i 2 0) 14 i 3 0
set_option maxRecDepth 100000 in
set_option maxHeartbeats 4000000 in
theorem zs_62 {f t k q : Int32} : z_call (d + 1) 62 [zr (some (3, r, i)), zi f, zi t, zi k, zi q] m Q = Q none (z_s m r (cAsk (z_g m r) i f t k q)) := by
  simp only [↓zen_62, ↓zu_62_0, ↓zx_nil, ↓zx_cons, ↓zp_li, ↓zp_ll, ↓zp_lr, ↓zq_li0, ↓zq_li1, ↓zq_ll0, ↓zq_ll1, ↓zq_lr0, ↓zq_lr1, ↓zk_0, ↓zk_1n, ↓zk_1i, ↓zk_1r, ↓zk_1l, ↓zk_2, zp_okt, ↓zp_okl, zp_sh0, zp_sh1, zp_psn, zp_pss, ↓zp_ri1, ↓zp_ri20, ↓zp_ri21, ↓zp_rl, ↓zp_ra, ↓zp_rv, ↓zp_br, ↓reduceIte, Nat.reduceAdd, Nat.zero_add, Nat.add_zero, Nat.le_refl, Nat.zero_le, ↓zx_aload_0, ↓zx_iconst, ↓zyp_3_0, ↓zx_iload_1, ↓zyp_3_1, ↓zx_iload_2, ↓zyp_3_2, ↓zx_iload_3, ↓zyp_3_3, ↓zx_iload, ↓zyp_3_4, ↓zyp_3_5, ↓zyp_3_6, ↓zyp_3_7, ↓zyp_3_8, ↓zyp_3_9, ↓zyp_3_10, ↓zyp_3_11, ↓zyp_3_12, ↓zx_lconst0, ↓zyp_3_13, ↓zyp_3_14, ↓zy_istore, ↓zy_ic_ge, ↓zyg_3_15, ↓zy_iinc, ↓zx_goto, ↓zx_ret, ↓zyb_14, z_g_ss, zq_ss]
  iterate 5 (rw [zu_62_79]; simp only [↓zu_62_99, ↓zx_nil, ↓zx_cons, ↓zp_li, ↓zp_ll, ↓zp_lr, ↓zq_li0, ↓zq_li1, ↓zq_ll0, ↓zq_ll1, ↓zq_lr0, ↓zq_lr1, ↓zk_0, ↓zk_1n, ↓zk_1i, ↓zk_1r, ↓zk_1l, ↓zk_2, zp_okt, ↓zp_okl, zp_sh0, zp_sh1, zp_psn, zp_pss, ↓zp_ri1, ↓zp_ri20, ↓zp_ri21, ↓zp_rl, ↓zp_ra, ↓zp_rv, ↓zp_br, ↓reduceIte, Nat.reduceAdd, Nat.zero_add, Nat.add_zero, Nat.le_refl, Nat.zero_le, ↓zx_aload_0, ↓zx_iconst, ↓zyp_3_0, ↓zx_iload_1, ↓zyp_3_1, ↓zx_iload_2, ↓zyp_3_2, ↓zx_iload_3, ↓zyp_3_3, ↓zx_iload, ↓zyp_3_4, ↓zyp_3_5, ↓zyp_3_6, ↓zyp_3_7, ↓zyp_3_8, ↓zyp_3_9, ↓zyp_3_10, ↓zyp_3_11, ↓zyp_3_12, ↓zx_lconst0, ↓zyp_3_13, ↓zyp_3_14, ↓zy_istore, ↓zy_ic_ge, ↓zyg_3_15, ↓zy_iinc, ↓zx_goto, ↓zx_ret, ↓zyb_14, z_g_ss, zq_ss, z_40, z_41, z_42, z_43, z_44, z_01, z_12, z_23, z_34, z_v04, z_v14, z_v24, z_v34, z_c0, z_c1', z_c2, z_c3, if_true, if_false, true_and])
  rfl
-- Store: the line
def cAppend (S : zS) (s : Nat) (g n : Int32) : Int32 × zS := if g = -1 then (n, S) else if n < 4 then (n + 1, z_uI S 16 s n.toNatClampNeg g) else (n, S)
set_option maxRecDepth 100000 in
set_option maxHeartbeats 4000000 in
theorem zs_67 {g n : Int32} (h : vp_in n 5) : z_call (d + 1) 67 [zr (some (4, r, s)), zi g, zi n] m Q = Q (some (zi (cAppend (z_g m r) s g n).1)) (z_s m r (cAppend (z_g m r) s g n).2) := by
  simp only [↓zen_67, ↓zu_67_0, ↓zu_67_10, ↓zu_67_12, ↓zx_nil, ↓zx_cons, ↓zp_li, ↓zp_ll, ↓zp_lr, ↓zq_li0, ↓zq_li1, ↓zq_ll0, ↓zq_ll1, ↓zq_lr0, ↓zq_lr1, ↓zk_0, ↓zk_1n, ↓zk_1i, ↓zk_1r, ↓zk_1l, ↓zk_2, zp_okt, ↓zp_okl, zp_sh0, zp_sh1, zp_psn, zp_pss, ↓zp_ri1, ↓zp_ri20, ↓zp_ri21, ↓zp_rl, ↓zp_ra, ↓zp_rv, ↓zp_br, ↓reduceIte, Nat.reduceAdd, Nat.zero_add, Nat.add_zero, Nat.le_refl, Nat.zero_le, ↓zx_iload_1, ↓zx_iconst, ↓zy_ic_eq, ↓zx_iload_2, ↓zy_ic_lt, ↓zx_iret, ↓zx_aload_0, ↓zyg_4_1, ↓zy_iadd, ↓zyb_15, ↓zyb_16, cAppend]
  by_cases h1 : g = -1
  · simp only [h1, if_true, zq_id]
  · by_cases h2 : n < 4
    · have h3 : vp_in n 4 := fun q => by
        rcases q with q | q
        · exact h (Or.inl q)
        · have h0 : 0 ≤ n := Int32.not_lt.mp fun q => h (Or.inl q)
          rw [z_nn_eq h0] at h2
          exact absurd h2 (nI_nlt q z_nn_lt)
      simp only [h1, h2, h3, if_true, if_false, true_and]
    · simp only [h1, h2, if_true, if_false, zq_id]
def cIsOrd (S : zS) (s : Nat) (g : Int32) : Nat → Nat → Bool
  | 0, _ => false
  | n + 1, i => if z_I S 16 s i = g then true else cIsOrd S s g n (i + 1)
def cOrd (S : zS) (s : Nat) : Nat := (z_I S 4 s 2).toNatClampNeg
set_option maxRecDepth 100000 in
set_option maxHeartbeats 4000000 in
theorem zl_68 {g : Int32} {t : Nat} (ht : z_I (z_g m r) 4 s 2 = nI t) (ht2 : t ≤ 4) : ∀ (n i : Nat), i + n = t → zW 68 d Q 2 [some (zr (some (4, r, s))), some (zi g), some (zi (nI i))] [] m 0 = Q (some (zi (if cIsOrd (z_g m r) s g n i = true then 1 else 0))) m := by
  intro n
  induction n with
  | zero =>
    intro i hi
    have h1 := z_le1 (show t ≤ i by omega) (by omega)
    rw [zu_68_2]
    simp only [↓zu_68_28, ↓zx_nil, ↓zx_cons, ↓zp_li, ↓zp_ll, ↓zp_lr, ↓zq_li0, ↓zq_li1, ↓zq_ll0, ↓zq_ll1, ↓zq_lr0, ↓zq_lr1, ↓zk_0, ↓zk_1n, ↓zk_1i, ↓zk_1r, ↓zk_1l, ↓zk_2, zp_okt, ↓zp_okl, zp_sh0, zp_sh1, zp_psn, zp_pss, ↓zp_ri1, ↓zp_ri20, ↓zp_ri21, ↓zp_rl, ↓zp_ra, ↓zp_rv, ↓zp_br, ↓reduceIte, Nat.reduceAdd, Nat.zero_add, Nat.add_zero, Nat.le_refl, Nat.zero_le, ↓zx_iconst, ↓zy_istore_2, ↓zx_iload_2, ↓zx_aload_0, ↓zyg_4_2, ↓zy_ic_ge, ↓zyg_4_1, ↓zx_iload_1, ↓zy_ic_ne, ↓zx_iret, ↓zy_iinc, ↓zx_goto, ↓zya_15, ↓zya_16, ht, h1, if_true, cIsOrd]; rfl
  | succ n ih =>
    intro i hi
    have h1 := z_le0 (show i < t by omega) (by omega)
    have h2 := z_vi1 (show i < 4 by omega) (by decide)
    have h3 := nI_clamp (show i < 2 ^ 31 by omega)
    rw [zu_68_2]
    simp only [↓zu_68_22, ↓zu_68_28, ↓zx_nil, ↓zx_cons, ↓zp_li, ↓zp_ll, ↓zp_lr, ↓zq_li0, ↓zq_li1, ↓zq_ll0, ↓zq_ll1, ↓zq_lr0, ↓zq_lr1, ↓zk_0, ↓zk_1n, ↓zk_1i, ↓zk_1r, ↓zk_1l, ↓zk_2, zp_okt, ↓zp_okl, zp_sh0, zp_sh1, zp_psn, zp_pss, ↓zp_ri1, ↓zp_ri20, ↓zp_ri21, ↓zp_rl, ↓zp_ra, ↓zp_rv, ↓zp_br, ↓reduceIte, Nat.reduceAdd, Nat.zero_add, Nat.add_zero, Nat.le_refl, Nat.zero_le, ↓zx_iconst, ↓zy_istore_2, ↓zx_iload_2, ↓zx_aload_0, ↓zyg_4_2, ↓zy_ic_ge, ↓zyg_4_1, ↓zx_iload_1, ↓zy_ic_ne, ↓zx_iret, ↓zy_iinc, ↓zx_goto, ↓zya_15, ↓zya_16, ht, h1, h2, h3, if_false, true_and, nI_1]
    simp only [ih (i + 1) (by omega : i + 1 + n = t), cIsOrd]
    split <;> rfl
set_option maxRecDepth 100000 in
set_option maxHeartbeats 4000000 in
theorem zs_68 {g : Int32} (h : z_nn (z_I (z_g m r) 4 s 2) 4) : z_call (d + 1) 68 [zr (some (4, r, s)), zi g] m Q = Q (some (zi (if cIsOrd (z_g m r) s g (cOrd (z_g m r) s) 0 = true then 1 else 0))) m := by
  simp only [↓zen_68, ↓zu_68_0, ↓zx_nil, ↓zx_cons, ↓zp_li, ↓zp_ll, ↓zp_lr, ↓zq_li0, ↓zq_li1, ↓zq_ll0, ↓zq_ll1, ↓zq_lr0, ↓zq_lr1, ↓zk_0, ↓zk_1n, ↓zk_1i, ↓zk_1r, ↓zk_1l, ↓zk_2, zp_okt, ↓zp_okl, zp_sh0, zp_sh1, zp_psn, zp_pss, ↓zp_ri1, ↓zp_ri20, ↓zp_ri21, ↓zp_rl, ↓zp_ra, ↓zp_rv, ↓zp_br, ↓reduceIte, Nat.reduceAdd, Nat.zero_add, Nat.add_zero, Nat.le_refl, Nat.zero_le, ↓zx_iconst, ↓zy_istore_2, ↓zx_iload_2, ↓zx_aload_0, ↓zyg_4_2, ↓zy_ic_ge, ↓zyg_4_1, ↓zx_iload_1, ↓zy_ic_ne, ↓zx_iret, ↓zy_iinc, ↓zx_goto, ↓zya_15, ↓zya_16]
  exact zl_68 h.eq h.2 (cOrd (z_g m r) s) 0 (by unfold cOrd; omega)
end Leaf
