/-! ===== THE CLASS: Kind.tell, extremes, Store.lineUp, copies ===== -/
section Leaf2
variable {d r i k g s : Nat} {m : zM} {Q : zQ} {v w a b c : Int32}
theorem z_m1 (n : Nat) : nI (n + 1) + (-1) = nI n := by
  have h := nI_pred n
  rw [Int32.sub_eq_add_neg] at h
  exact h
def cMkGo (k p : Nat) : Nat → zS → zS
  | 0, S => S
  | n + 1, S => cMkGo k p n (z_uI (z_uI S 12 k (p + n + 1) (z_I S 12 k (p + n))) 13 k (p + n + 1) (z_I S 13 k (p + n)))
def cMake (S : zS) (k p : Nat) : zS := z_uI (cMkGo k p (cTold S k - p) S) 2 k 2 (z_I S 2 k 2 + 1)
theorem cMkGo_told {k p : Nat} : ∀ (n : Nat) (S : zS), z_I (cMkGo k p n S) 2 k 2 = z_I S 2 k 2
  | 0, _ => rfl
  | n + 1, S => by
    rw [cMkGo, cMkGo_told n]
    simp [z_I_u]
set_option maxRecDepth 100000 in
set_option maxHeartbeats 4000000 in
theorem zl_52 {p : Nat} : ∀ (n : Nat) (S : zS), p + n ≤ 12 → zW 52 d Q 15 [some (zr (some (2, r, k))), some (zi (nI p)), some (zi (nI (p + n)))] [] (z_s m r S) 0 = zW 52 d Q 54 [some (zr (some (2, r, k))), some (zi (nI p)), some (zi (nI p))] [] (z_s m r (cMkGo k p n S)) 0 := by
  intro n
  induction n with
  | zero =>
    intro S h
    have h1 := z_le1 (Nat.le_refl p) (by omega)
    rw [zu_52_15]
    simp only [↓zx_nil, ↓zx_cons, ↓zp_li, ↓zp_ll, ↓zp_lr, ↓zq_li0, ↓zq_li1, ↓zq_ll0, ↓zq_ll1, ↓zq_lr0, ↓zq_lr1, ↓zk_0, ↓zk_1n, ↓zk_1i, ↓zk_1r, ↓zk_1l, ↓zk_2, zp_okt, ↓zp_okl, zp_sh0, zp_sh1, zp_psn, zp_pss, ↓zp_ri1, ↓zp_ri20, ↓zp_ri21, ↓zp_rl, ↓zp_ra, ↓zp_rv, ↓zp_br, ↓reduceIte, Nat.reduceAdd, Nat.zero_add, Nat.add_zero, Nat.le_refl, Nat.zero_le, ↓zx_aload_0, ↓zyg_2_2, ↓zx_bipush, ↓zy_ic_le, ↓zx_ret, ↓zy_istore_2, ↓zx_iload_2, ↓zx_iload_1, ↓zyg_2_0, ↓zx_iconst, ↓zy_isub, ↓zyg_2_1, ↓zy_iinc, ↓zx_goto, ↓zy_dupi, ↓zy_dupr, ↓zy_iadd, ↓zyp_2_2, ↓zya_12, ↓zya_13, ↓zyb_12, ↓zyb_13, h1, cMkGo]
  | succ n ih =>
    intro S h
    have h1 := z_le0 (show p < p + n + 1 by omega) (by omega)
    have h2 := z_vi1 (show p + n < 13 by omega) (by decide)
    have h2' := z_vi1 (show p + n + 1 < 13 by omega) (by decide)
    have h3 := nI_clamp (show p + n < 2 ^ 31 by omega)
    have h3' := nI_clamp (show p + n + 1 < 2 ^ 31 by omega)
    rw [zu_52_15, show p + (n + 1) = p + n + 1 by omega]
    simp only [↓zx_nil, ↓zx_cons, ↓zp_li, ↓zp_ll, ↓zp_lr, ↓zq_li0, ↓zq_li1, ↓zq_ll0, ↓zq_ll1, ↓zq_lr0, ↓zq_lr1, ↓zk_0, ↓zk_1n, ↓zk_1i, ↓zk_1r, ↓zk_1l, ↓zk_2, zp_okt, ↓zp_okl, zp_sh0, zp_sh1, zp_psn, zp_pss, ↓zp_ri1, ↓zp_ri20, ↓zp_ri21, ↓zp_rl, ↓zp_ra, ↓zp_rv, ↓zp_br, ↓reduceIte, Nat.reduceAdd, Nat.zero_add, Nat.add_zero, Nat.le_refl, Nat.zero_le, ↓zx_aload_0, ↓zyg_2_2, ↓zx_bipush, ↓zy_ic_le, ↓zx_ret, ↓zy_istore_2, ↓zx_iload_2, ↓zx_iload_1, ↓zyg_2_0, ↓zx_iconst, ↓zy_isub, ↓zyg_2_1, ↓zy_iinc, ↓zx_goto, ↓zy_dupi, ↓zy_dupr, ↓zy_iadd, ↓zyp_2_2, ↓zya_12, ↓zya_13, ↓zyb_12, ↓zyb_13, h1, h2, h2', h3, h3', nI_pred, z_m1, true_and, z_g_ss, zq_ss]
    rw [ih _ (by omega), cMkGo]
    simp only [z_I_u]
    simp
set_option maxRecDepth 100000 in
set_option maxHeartbeats 4000000 in
theorem zs_52 {p : Nat} (h : z_nn (z_I (z_g m r) 2 k 2) 12) (hp : p ≤ cTold (z_g m r) k) : z_call (d + 1) 52 [zr (some (2, r, k)), zi (nI p)] m Q = Q none (z_s m r (cMake (z_g m r) k p)) := by
  have h1 : z_I (z_g m r) 2 k 2 ≤ 12 := by rw [h.eq]; exact nI_le h.2 (by decide)
  simp only [↓zen_52, ↓zu_52_0, ↓zu_52_10, ↓zx_nil, ↓zx_cons, ↓zp_li, ↓zp_ll, ↓zp_lr, ↓zq_li0, ↓zq_li1, ↓zq_ll0, ↓zq_ll1, ↓zq_lr0, ↓zq_lr1, ↓zk_0, ↓zk_1n, ↓zk_1i, ↓zk_1r, ↓zk_1l, ↓zk_2, zp_okt, ↓zp_okl, zp_sh0, zp_sh1, zp_psn, zp_pss, ↓zp_ri1, ↓zp_ri20, ↓zp_ri21, ↓zp_rl, ↓zp_ra, ↓zp_rv, ↓zp_br, ↓reduceIte, Nat.reduceAdd, Nat.zero_add, Nat.add_zero, Nat.le_refl, Nat.zero_le, ↓zx_aload_0, ↓zyg_2_2, ↓zx_bipush, ↓zy_ic_le, ↓zx_ret, ↓zy_istore_2, ↓zx_iload_2, ↓zx_iload_1, ↓zyg_2_0, ↓zx_iconst, ↓zy_isub, ↓zyg_2_1, ↓zy_iinc, ↓zx_goto, ↓zy_dupi, ↓zy_dupr, ↓zy_iadd, ↓zyp_2_2, ↓zya_12, ↓zya_13, ↓zyb_12, ↓zyb_13, h1]
  have h2 : z_I (z_g m r) 2 k 2 = nI (p + (cTold (z_g m r) k - p)) := by
    rw [Nat.add_sub_cancel' hp]; exact h.eq
  have h3 := zl_52 (d := d) (Q := Q) (r := r) (k := k) (m := m) (p := p) (cTold (z_g m r) k - p) (z_g m r) (by have := h.2; unfold cTold at *; omega)
  rw [zq_id, ← h2] at h3
  rw [h3]
  simp only [↓zu_52_54, ↓zx_nil, ↓zx_cons, ↓zp_li, ↓zp_ll, ↓zp_lr, ↓zq_li0, ↓zq_li1, ↓zq_ll0, ↓zq_ll1, ↓zq_lr0, ↓zq_lr1, ↓zk_0, ↓zk_1n, ↓zk_1i, ↓zk_1r, ↓zk_1l, ↓zk_2, zp_okt, ↓zp_okl, zp_sh0, zp_sh1, zp_psn, zp_pss, ↓zp_ri1, ↓zp_ri20, ↓zp_ri21, ↓zp_rl, ↓zp_ra, ↓zp_rv, ↓zp_br, ↓reduceIte, Nat.reduceAdd, Nat.zero_add, Nat.add_zero, Nat.le_refl, Nat.zero_le, ↓zx_aload_0, ↓zyg_2_2, ↓zx_bipush, ↓zy_ic_le, ↓zx_ret, ↓zy_istore_2, ↓zx_iload_2, ↓zx_iload_1, ↓zyg_2_0, ↓zx_iconst, ↓zy_isub, ↓zyg_2_1, ↓zy_iinc, ↓zx_goto, ↓zy_dupi, ↓zy_dupr, ↓zy_iadd, ↓zyp_2_2, ↓zya_12, ↓zya_13, ↓zyb_12, ↓zyb_13, z_g_ss, zq_ss, cMkGo_told, cMake]
def cPlace (S : zS) (k : Nat) (day : Int32) : Nat → Nat → Nat
  | 0, i => i
  | n + 1, i => if day ≤ z_I S 12 k i then i else cPlace S k day n (i + 1)
theorem cPlace_le {S : zS} {k : Nat} {day : Int32} : ∀ (n i : Nat), cPlace S k day n i ≤ i + n
  | 0, i => Nat.le_refl _
  | n + 1, i => by
    rw [cPlace]
    split
    · omega
    · have := cPlace_le (S := S) (k := k) (day := day) n (i + 1)
      omega
set_option maxRecDepth 100000 in
set_option maxHeartbeats 4000000 in
theorem zl_51 {day v : Int32} {t : Nat} (ht : z_I (z_g m r) 2 k 2 = nI t) (ht2 : t ≤ 12) : ∀ (n i : Nat), i + n = t → zW 51 d Q 2 [some (zr (some (2, r, k))), some (zi day), some (zi v), some (zi (nI i))] [] m 0 = zW 51 d Q 26 [some (zr (some (2, r, k))), some (zi day), some (zi v), some (zi (nI (cPlace (z_g m r) k day n i)))] [] m 0 := by
  intro n
  induction n with
  | zero =>
    intro i hi
    have h1 := z_le1 (show t ≤ i by omega) (by omega)
    rw [zu_51_2]
    simp only [↓zx_nil, ↓zx_cons, ↓zp_li, ↓zp_ll, ↓zp_lr, ↓zq_li0, ↓zq_li1, ↓zq_ll0, ↓zq_ll1, ↓zq_lr0, ↓zq_lr1, ↓zk_0, ↓zk_1n, ↓zk_1i, ↓zk_1r, ↓zk_1l, ↓zk_2, zp_okt, ↓zp_okl, zp_sh0, zp_sh1, zp_psn, zp_pss, ↓zp_ri1, ↓zp_ri20, ↓zp_ri21, ↓zp_rl, ↓zp_ra, ↓zp_rv, ↓zp_br, ↓reduceIte, Nat.reduceAdd, Nat.zero_add, Nat.add_zero, Nat.le_refl, Nat.zero_le, ↓zx_iconst, ↓zy_istore_3, ↓zx_iload_3, ↓zx_aload_0, ↓zyg_2_2, ↓zy_ic_ge, ↓zyg_2_0, ↓zx_iload_1, ↓zy_iinc, ↓zx_goto, ↓zx_bipush, ↓zy_ic_le, ↓zx_ret, ↓zy_ic_eq, ↓zyc_52, ↓zyg_2_1, ↓zx_iload_2, ↓zya_12, ↓zya_13, ↓zyb_12, ↓zyb_13, ht, h1, cPlace]
  | succ n ih =>
    intro i hi
    have h1 := z_le0 (show i < t by omega) (by omega)
    have h2 := z_vi1 (show i < 13 by omega) (by decide)
    have h3 := nI_clamp (show i < 2 ^ 31 by omega)
    rw [zu_51_2]
    simp only [↓zx_nil, ↓zx_cons, ↓zp_li, ↓zp_ll, ↓zp_lr, ↓zq_li0, ↓zq_li1, ↓zq_ll0, ↓zq_ll1, ↓zq_lr0, ↓zq_lr1, ↓zk_0, ↓zk_1n, ↓zk_1i, ↓zk_1r, ↓zk_1l, ↓zk_2, zp_okt, ↓zp_okl, zp_sh0, zp_sh1, zp_psn, zp_pss, ↓zp_ri1, ↓zp_ri20, ↓zp_ri21, ↓zp_rl, ↓zp_ra, ↓zp_rv, ↓zp_br, ↓reduceIte, Nat.reduceAdd, Nat.zero_add, Nat.add_zero, Nat.le_refl, Nat.zero_le, ↓zx_iconst, ↓zy_istore_3, ↓zx_iload_3, ↓zx_aload_0, ↓zyg_2_2, ↓zy_ic_ge, ↓zyg_2_0, ↓zx_iload_1, ↓zy_iinc, ↓zx_goto, ↓zx_bipush, ↓zy_ic_le, ↓zx_ret, ↓zy_ic_eq, ↓zyc_52, ↓zyg_2_1, ↓zx_iload_2, ↓zya_12, ↓zya_13, ↓zyb_12, ↓zyb_13, ht, h1, h2, h3, true_and, nI_1]
    simp only [ih (i + 1) (by omega : i + 1 + n = t), cPlace]
    split <;> rfl
def cTell (S : zS) (k : Nat) (day v : Int32) : zS :=
  let p := cPlace S k day (cTold S k) 0
  let S1 := if p = cTold S k ∨ ¬ z_I S 12 k p = day then cMake S k p else S
  z_uI (z_uI S1 12 k p day) 13 k p v
set_option maxRecDepth 100000 in
set_option maxHeartbeats 4000000 in
theorem zs_51 {day v : Int32} (h : z_nn (z_I (z_g m r) 2 k 2) 12) : z_call (d + 2) 51 [zr (some (2, r, k)), zi day, zi v] m Q = Q none (z_s m r (cTell (z_g m r) k day v)) := by
  simp only [↓zen_51, ↓zu_51_0, ↓zx_nil, ↓zx_cons, ↓zp_li, ↓zp_ll, ↓zp_lr, ↓zq_li0, ↓zq_li1, ↓zq_ll0, ↓zq_ll1, ↓zq_lr0, ↓zq_lr1, ↓zk_0, ↓zk_1n, ↓zk_1i, ↓zk_1r, ↓zk_1l, ↓zk_2, zp_okt, ↓zp_okl, zp_sh0, zp_sh1, zp_psn, zp_pss, ↓zp_ri1, ↓zp_ri20, ↓zp_ri21, ↓zp_rl, ↓zp_ra, ↓zp_rv, ↓zp_br, ↓reduceIte, Nat.reduceAdd, Nat.zero_add, Nat.add_zero, Nat.le_refl, Nat.zero_le, ↓zx_iconst, ↓zy_istore_3, ↓zx_iload_3, ↓zx_aload_0, ↓zyg_2_2, ↓zy_ic_ge, ↓zyg_2_0, ↓zx_iload_1, ↓zy_iinc, ↓zx_goto, ↓zx_bipush, ↓zy_ic_le, ↓zx_ret, ↓zy_ic_eq, ↓zyc_52, ↓zyg_2_1, ↓zx_iload_2, ↓zya_12, ↓zya_13, ↓zyb_12, ↓zyb_13]
  have h3 := zl_51 (d := d + 1) (Q := Q) (day := day) (v := v) h.eq h.2 (cTold (z_g m r) k) 0 (by unfold cTold; omega)
  rw [show (nI 0) = 0 from nI_0] at h3
  rw [h3]
  have hp := cPlace_le (S := z_g m r) (k := k) (day := day) (cTold (z_g m r) k) 0
  have ht : cTold (z_g m r) k ≤ 12 := h.2
  have he : z_I (z_g m r) 2 k 2 = nI (cTold (z_g m r) k) := h.eq
  unfold cTell
  generalize cPlace (z_g m r) k day (cTold (z_g m r) k) 0 = p at hp ⊢
  have h1 : nI p ≤ 12 := nI_le (show p ≤ 12 by omega) (by decide)
  have h2 := z_vi1 (show p < 13 by omega) (by decide)
  have h4 := nI_clamp (show p < 2 ^ 31 by omega)
  have hmp := fun Q => zs_52 (d := d) (r := r) (k := k) (m := m) (Q := Q) (p := p) h (by omega)
  have h5 : (nI p = nI (cTold (z_g m r) k)) = (p = cTold (z_g m r) k) := propext (nI_eq (by omega) (by omega))
  simp only [↓zu_51_26, ↓zu_51_33, ↓zu_51_51, ↓zu_51_56, ↓zx_nil, ↓zx_cons, ↓zp_li, ↓zp_ll, ↓zp_lr, ↓zq_li0, ↓zq_li1, ↓zq_ll0, ↓zq_ll1, ↓zq_lr0, ↓zq_lr1, ↓zk_0, ↓zk_1n, ↓zk_1i, ↓zk_1r, ↓zk_1l, ↓zk_2, zp_okt, ↓zp_okl, zp_sh0, zp_sh1, zp_psn, zp_pss, ↓zp_ri1, ↓zp_ri20, ↓zp_ri21, ↓zp_rl, ↓zp_ra, ↓zp_rv, ↓zp_br, ↓reduceIte, Nat.reduceAdd, Nat.zero_add, Nat.add_zero, Nat.le_refl, Nat.zero_le, ↓zx_iconst, ↓zy_istore_3, ↓zx_iload_3, ↓zx_aload_0, ↓zyg_2_2, ↓zy_ic_ge, ↓zyg_2_0, ↓zx_iload_1, ↓zy_iinc, ↓zx_goto, ↓zx_bipush, ↓zy_ic_le, ↓zx_ret, ↓zy_ic_eq, ↓zyc_52, ↓zyg_2_1, ↓zx_iload_2, ↓zya_12, ↓zya_13, ↓zyb_12, ↓zyb_13, h1, h2, h4, he, h5, true_and, hmp, z_g_ss, zq_ss]
  by_cases e1 : p = cTold (z_g m r) k
  · simp only [e1, true_or, if_true]
  · by_cases e2 : z_I (z_g m r) 12 k p = day
    · simp only [e1, e2, not_true_eq_false, or_self, if_true, if_false]
    · simp only [e1, e2, not_false_eq_true, or_true, if_true, if_false]
-- the day of the least or greatest rate within a span
def cExtGo (S : zS) (k : Nat) (first last : Int32) (gr : Bool) : Nat → Nat → Int32 → Int32 → Int32
  | 0, _, day, _ => day
  | n + 1, i, day, fd =>
    if (first < z_I S 12 k i ∧ z_I S 12 k i ≤ last) ∧ (if gr = true then fd < z_I S 13 k i else z_I S 13 k i < fd) then cExtGo S k first last gr n (i + 1) (z_I S 12 k i) (z_I S 13 k i) else cExtGo S k first last gr n (i + 1) day fd
set_option maxRecDepth 100000 in
set_option maxHeartbeats 4000000 in
theorem zl_57 {first last gi : Int32} {gr : Bool} (hg : (gi = 0) = (gr = false)) {t : Nat} (ht : z_I (z_g m r) 2 k 2 = nI t) (ht2 : t ≤ 13) : ∀ (n i : Nat) (day fd : Int32) (e : Option zV), i + n = t → zW 57 d Q 13 [some (zr (some (2, r, k))), some (zi first), some (zi last), some (zi gi), some (zi day), some (zi fd), some (zi (nI i)), e] [] m 0 = Q (some (zi (cExtGo (z_g m r) k first last gr n i day fd))) m := by
  intro n
  induction n with
  | zero =>
    intro i day fd e hi
    have h1 := z_le1 (show t ≤ i by omega) (by omega)
    rw [zu_57_13]
    simp only [↓zu_57_111, ↓zx_nil, ↓zx_cons, ↓zp_li, ↓zp_ll, ↓zp_lr, ↓zq_li0, ↓zq_li1, ↓zq_ll0, ↓zq_ll1, ↓zq_lr0, ↓zq_lr1, ↓zk_0, ↓zk_1n, ↓zk_1i, ↓zk_1r, ↓zk_1l, ↓zk_2, zp_okt, ↓zp_okl, zp_sh0, zp_sh1, zp_psn, zp_pss, ↓zp_ri1, ↓zp_ri20, ↓zp_ri21, ↓zp_rl, ↓zp_ra, ↓zp_rv, ↓zp_br, ↓reduceIte, Nat.reduceAdd, Nat.zero_add, Nat.add_zero, Nat.le_refl, Nat.zero_le, ↓zx_iload_1, ↓zy_istore, ↓zx_aload_0, ↓zyc_54, ↓zx_iconst, ↓zx_iload, ↓zyg_2_2, ↓zy_ic_ge, ↓zyg_2_0, ↓zy_ic_le, ↓zx_iload_2, ↓zy_ic_gt, ↓zx_goto, ↓zy_if_eq, ↓zx_iload_3, ↓zyg_2_1, ↓zy_iinc, ↓zx_iret, ↓zya_12, ↓zya_13, ht, h1, cExtGo]
  | succ n ih =>
    intro i day fd e hi
    have h1 := z_le0 (show i < t by omega) (by omega)
    have h2 := z_vi1 (show i < 13 by omega) (by decide)
    have h3 := nI_clamp (show i < 2 ^ 31 by omega)
    have hi1 : i + 1 + n = t := by omega
    have h10 : ((1 : Int32) = 0) = False := by decide
    have h00 : ((0 : Int32) = 0) = True := by decide
    rw [zu_57_13]
    simp only [↓zu_57_0, ↓zu_57_48, ↓zu_57_49, ↓zu_57_75, ↓zu_57_87, ↓zu_57_105, ↓zu_57_111, ↓zx_nil, ↓zx_cons, ↓zp_li, ↓zp_ll, ↓zp_lr, ↓zq_li0, ↓zq_li1, ↓zq_ll0, ↓zq_ll1, ↓zq_lr0, ↓zq_lr1, ↓zk_0, ↓zk_1n, ↓zk_1i, ↓zk_1r, ↓zk_1l, ↓zk_2, zp_okt, ↓zp_okl, zp_sh0, zp_sh1, zp_psn, zp_pss, ↓zp_ri1, ↓zp_ri20, ↓zp_ri21, ↓zp_rl, ↓zp_ra, ↓zp_rv, ↓zp_br, ↓reduceIte, Nat.reduceAdd, Nat.zero_add, Nat.add_zero, Nat.le_refl, Nat.zero_le, ↓zx_iload_1, ↓zy_istore, ↓zx_aload_0, ↓zyc_54, ↓zx_iconst, ↓zx_iload, ↓zyg_2_2, ↓zy_ic_ge, ↓zyg_2_0, ↓zy_ic_le, ↓zx_iload_2, ↓zy_ic_gt, ↓zx_goto, ↓zy_if_eq, ↓zx_iload_3, ↓zyg_2_1, ↓zy_iinc, ↓zx_iret, ↓zya_12, ↓zya_13, ht, h1, h2, h3, true_and, nI_1, h10, h00, hg]
    simp only [ih (i + 1) _ _ _ hi1, cExtGo, ← Int32.not_lt]
    grind
def cExt (S : zS) (k : Nat) (first last : Int32) (gr : Bool) : Int32 := cExtGo S k first last gr (cTold S k) 0 first (cRate S k first)
set_option maxRecDepth 100000 in
set_option maxHeartbeats 4000000 in
theorem zs_57 {first last : Int32} {gr : Bool} (h : z_nn (z_I (z_g m r) 2 k 2) 13) : z_call (d + 2) 57 [zr (some (2, r, k)), zi first, zi last, zi (if gr = true then 1 else 0)] m Q = Q (some (zi (cExt (z_g m r) k first last gr))) m := by
  simp only [↓zen_57, ↓zu_57_0, ↓zx_nil, ↓zx_cons, ↓zp_li, ↓zp_ll, ↓zp_lr, ↓zq_li0, ↓zq_li1, ↓zq_ll0, ↓zq_ll1, ↓zq_lr0, ↓zq_lr1, ↓zk_0, ↓zk_1n, ↓zk_1i, ↓zk_1r, ↓zk_1l, ↓zk_2, zp_okt, ↓zp_okl, zp_sh0, zp_sh1, zp_psn, zp_pss, ↓zp_ri1, ↓zp_ri20, ↓zp_ri21, ↓zp_rl, ↓zp_ra, ↓zp_rv, ↓zp_br, ↓reduceIte, Nat.reduceAdd, Nat.zero_add, Nat.add_zero, Nat.le_refl, Nat.zero_le, ↓zx_iload_1, ↓zy_istore, ↓zx_aload_0, ↓zyc_54, ↓zx_iconst, ↓zx_iload, ↓zyg_2_2, ↓zy_ic_ge, ↓zyg_2_0, ↓zy_ic_le, ↓zx_iload_2, ↓zy_ic_gt, ↓zx_goto, ↓zy_if_eq, ↓zx_iload_3, ↓zyg_2_1, ↓zy_iinc, ↓zx_iret, ↓zya_12, ↓zya_13, ↓zs_54 h]
  exact zl_57 (gr := gr) (by cases gr <;> decide) h.eq h.2 (cTold (z_g m r) k) 0 first (cRate (z_g m r) k first) none (by unfold cTold; omega)
def cChGo (S : zS) (k : Nat) (first last span : Int32) : Nat → Nat → Int32 → Int32 → Int32
  | 0, _, day, _ => day
  | n + 1, i, day, fd =>
    if first < z_I S 12 k i ∧ z_I S 12 k i ≤ last ∧ cGr S k (z_I S 12 k i) (z_I S 12 k i + span) < fd then cChGo S k first last span n (i + 1) (z_I S 12 k i) (cGr S k (z_I S 12 k i) (z_I S 12 k i + span)) else cChGo S k first last span n (i + 1) day fd
set_option maxRecDepth 100000 in
set_option maxHeartbeats 4000000 in
theorem zl_56 {first last span : Int32} (hz : z_nn (z_I (z_g m r) 2 k 2) 13) {t : Nat} (ht : z_I (z_g m r) 2 k 2 = nI t) (ht2 : t ≤ 13) : ∀ (n i : Nat) (day fd : Int32) (e : Option zV), i + n = t → zW 56 (d + 2) Q 16 [some (zr (some (2, r, k))), some (zi first), some (zi last), some (zi span), some (zi day), some (zi fd), some (zi (nI i)), e] [] m 0 = Q (some (zi (cChGo (z_g m r) k first last span n i day fd))) m := by
  intro n
  induction n with
  | zero =>
    intro i day fd e hi
    have h1 := z_le1 (show t ≤ i by omega) (by omega)
    rw [zu_56_16]
    simp only [↓zu_56_95, ↓zx_nil, ↓zx_cons, ↓zp_li, ↓zp_ll, ↓zp_lr, ↓zq_li0, ↓zq_li1, ↓zq_ll0, ↓zq_ll1, ↓zq_lr0, ↓zq_lr1, ↓zk_0, ↓zk_1n, ↓zk_1i, ↓zk_1r, ↓zk_1l, ↓zk_2, zp_okt, ↓zp_okl, zp_sh0, zp_sh1, zp_psn, zp_pss, ↓zp_ri1, ↓zp_ri20, ↓zp_ri21, ↓zp_rl, ↓zp_ra, ↓zp_rv, ↓zp_br, ↓reduceIte, Nat.reduceAdd, Nat.zero_add, Nat.add_zero, Nat.le_refl, Nat.zero_le, ↓zx_iload_1, ↓zy_istore, ↓zx_aload_0, ↓zx_iload_3, ↓zy_iadd, ↓zyc_50, ↓zx_iconst, ↓zx_iload, ↓zyg_2_2, ↓zy_ic_ge, ↓zyg_2_0, ↓zy_ic_le, ↓zx_iload_2, ↓zy_ic_gt, ↓zy_iinc, ↓zx_goto, ↓zx_iret, ↓zya_12, ↓zya_13, ht, h1, cChGo]
  | succ n ih =>
    intro i day fd e hi
    have h1 := z_le0 (show i < t by omega) (by omega)
    have h2 := z_vi1 (show i < 13 by omega) (by decide)
    have h3 := nI_clamp (show i < 2 ^ 31 by omega)
    have hi1 : i + 1 + n = t := by omega
    rw [zu_56_16]
    simp only [↓zu_56_89, ↓zu_56_95, ↓zx_nil, ↓zx_cons, ↓zp_li, ↓zp_ll, ↓zp_lr, ↓zq_li0, ↓zq_li1, ↓zq_ll0, ↓zq_ll1, ↓zq_lr0, ↓zq_lr1, ↓zk_0, ↓zk_1n, ↓zk_1i, ↓zk_1r, ↓zk_1l, ↓zk_2, zp_okt, ↓zp_okl, zp_sh0, zp_sh1, zp_psn, zp_pss, ↓zp_ri1, ↓zp_ri20, ↓zp_ri21, ↓zp_rl, ↓zp_ra, ↓zp_rv, ↓zp_br, ↓reduceIte, Nat.reduceAdd, Nat.zero_add, Nat.add_zero, Nat.le_refl, Nat.zero_le, ↓zx_iload_1, ↓zy_istore, ↓zx_aload_0, ↓zx_iload_3, ↓zy_iadd, ↓zyc_50, ↓zx_iconst, ↓zx_iload, ↓zyg_2_2, ↓zy_ic_ge, ↓zyg_2_0, ↓zy_ic_le, ↓zx_iload_2, ↓zy_ic_gt, ↓zy_iinc, ↓zx_goto, ↓zx_iret, ↓zya_12, ↓zya_13, ht, h1, h2, h3, true_and, nI_1, ↓zs_50 hz]
    simp only [ih (i + 1) _ _ _ hi1, cChGo, ← Int32.not_lt]
    grind
def cCheap (S : zS) (k : Nat) (first last span : Int32) : Int32 := cChGo S k first last span (cTold S k) 0 first (cGr S k first (first + span))
set_option maxRecDepth 100000 in
set_option maxHeartbeats 4000000 in
theorem zs_56 {first last span : Int32} (h : z_nn (z_I (z_g m r) 2 k 2) 13) : z_call (d + 3) 56 [zr (some (2, r, k)), zi first, zi last, zi span] m Q = Q (some (zi (cCheap (z_g m r) k first last span))) m := by
  simp only [↓zen_56, ↓zu_56_0, ↓zx_nil, ↓zx_cons, ↓zp_li, ↓zp_ll, ↓zp_lr, ↓zq_li0, ↓zq_li1, ↓zq_ll0, ↓zq_ll1, ↓zq_lr0, ↓zq_lr1, ↓zk_0, ↓zk_1n, ↓zk_1i, ↓zk_1r, ↓zk_1l, ↓zk_2, zp_okt, ↓zp_okl, zp_sh0, zp_sh1, zp_psn, zp_pss, ↓zp_ri1, ↓zp_ri20, ↓zp_ri21, ↓zp_rl, ↓zp_ra, ↓zp_rv, ↓zp_br, ↓reduceIte, Nat.reduceAdd, Nat.zero_add, Nat.add_zero, Nat.le_refl, Nat.zero_le, ↓zx_iload_1, ↓zy_istore, ↓zx_aload_0, ↓zx_iload_3, ↓zy_iadd, ↓zyc_50, ↓zx_iconst, ↓zx_iload, ↓zyg_2_2, ↓zy_ic_ge, ↓zyg_2_0, ↓zy_ic_le, ↓zx_iload_2, ↓zy_ic_gt, ↓zy_iinc, ↓zx_goto, ↓zx_iret, ↓zya_12, ↓zya_13, ↓zs_50 h]
  exact zl_56 h h.eq h.2 (cTold (z_g m r) k) 0 first _ none (by unfold cTold; omega)
end Leaf2
