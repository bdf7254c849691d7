/-! ===== THE MODEL: leaves ===== -/
section Mo1
variable {d r i k g s l t : Nat} {m : zM} {Q : zQ} {v w a b c e f x y : Int32}
theorem zn_p0 {a : Nat} : nI a + 0 = nI (a) := by rw [show (0 : Int32) = nI 0 from rfl, nI_add]; rfl
theorem zn_p1 {a : Nat} : nI a + 1 = nI (a + 1) := nI_add a 1
theorem zn_p2 {a : Nat} : nI a + 2 = nI (a + 2) := nI_add a 2
theorem zn_p3 {a : Nat} : nI a + 3 = nI (a + 3) := nI_add a 3
theorem zn_p4 {a : Nat} : nI a + 4 = nI (a + 4) := nI_add a 4
theorem zn_p5 {a : Nat} : nI a + 5 = nI (a + 5) := nI_add a 5
theorem zn_p6 {a : Nat} : nI a + 6 = nI (a + 6) := nI_add a 6
theorem zn_p7 {a : Nat} : nI a + 7 = nI (a + 7) := nI_add a 7
theorem zn_p8 {a : Nat} : nI a + 8 = nI (a + 8) := nI_add a 8
theorem zn_p13 {a : Nat} : nI a + 13 = nI (a + 13) := nI_add a 13
theorem zn_p88 {a : Nat} : nI a + 88 = nI (a + 88) := nI_add a 88
theorem zn_p891 {a : Nat} : nI a + 891 = nI (a + 891) := nI_add a 891
theorem z_nmul (a b : Nat) : nI a * nI b = nI (a * b) := by
  apply Int32.toBitVec_inj.mp
  show BitVec.ofInt 32 a * BitVec.ofInt 32 b = BitVec.ofInt 32 ((a * b : Nat) : Int)
  rw [← BitVec.ofInt_mul, Int.natCast_mul]
theorem zn_m2 {a : Nat} : (2 : Int32) * nI a = nI (2 * a) := z_nmul 2 a
theorem zn_m3 {a : Nat} : (3 : Int32) * nI a = nI (3 * a) := z_nmul 3 a
theorem zn_m8 {a : Nat} : (8 : Int32) * nI a = nI (8 * a) := z_nmul 8 a
theorem zn_m17 {a : Nat} : (17 : Int32) * nI a = nI (17 * a) := z_nmul 17 a
theorem zn_m29 {a : Nat} : (29 : Int32) * nI a = nI (29 * a) := z_nmul 29 a
theorem zn_m88 {a : Nat} : (88 : Int32) * nI a = nI (88 * a) := z_nmul 88 a
theorem zn_m891 {a : Nat} : (891 : Int32) * nI a = nI (891 * a) := z_nmul 891 a
theorem zn_a2 {a : Nat} : (2 : Int32) + nI a = nI (2 + a) := nI_add 2 a
theorem zn_a3 {a : Nat} : (3 : Int32) + nI a = nI (3 + a) := nI_add 3 a
theorem zn_a6 {a : Nat} : (6 : Int32) + nI a = nI (6 + a) := nI_add 6 a
theorem zn_a8 {a : Nat} : (8 : Int32) + nI a = nI (8 + a) := nI_add 8 a
theorem zn_a18 {a : Nat} : (18 : Int32) + nI a = nI (18 + a) := nI_add 18 a
theorem zn_a66 {a : Nat} : (66 : Int32) + nI a = nI (66 + a) := nI_add 66 a
theorem zn_a88 {a : Nat} : (88 : Int32) + nI a = nI (88 + a) := nI_add 88 a
theorem zn_a211 {a : Nat} : (211 : Int32) + nI a = nI (211 + a) := nI_add 211 a
theorem zn_a891 {a : Nat} : (891 : Int32) + nI a = nI (891 + a) := nI_add 891 a
theorem z_vr {j N : Nat} (h : j < N) (hN : N < 2 ^ 31) : vp_in (nI j) N = True := z_vi1 h hN
theorem zn_w0 : vp_in 0 891 = True := z_vp (by decide)
theorem zn_w1 : vp_in 1 891 = True := z_vp (by decide)
theorem zn_w2 : vp_in 2 891 = True := z_vp (by decide)
theorem zn_w3 : vp_in 3 891 = True := z_vp (by decide)
theorem zn_w4 : vp_in 4 891 = True := z_vp (by decide)
theorem zn_w5 : vp_in 5 891 = True := z_vp (by decide)
theorem zn_t0 : (0 : Int32).toNatClampNeg = 0 := rfl
theorem zn_t1 : (1 : Int32).toNatClampNeg = 1 := rfl
theorem zn_t2 : (2 : Int32).toNatClampNeg = 2 := rfl
theorem zn_t3 : (3 : Int32).toNatClampNeg = 3 := rfl
theorem zn_t4 : (4 : Int32).toNatClampNeg = 4 := rfl
theorem zn_t5 : (5 : Int32).toNatClampNeg = 5 := rfl
theorem zp_ri2i {c : Prop} [Decidable c] {K : Option zV → Prop} : z_ri [zi (if c then 1 else 0)] 2 K = K (some (zi (if c then 1 else 0))) := by
  split
  · exact zp_ri21
  · exact zp_ri20
set_option maxRecDepth 100000 in
set_option maxHeartbeats 4000000 in
theorem zs_130 {p q r : Int64} : z_call (d + 1) 130 [zl p, zl q, zl r] m Q = Q (some (zi (if q ≤ p ∧ p ≤ r then 1 else 0))) m := by
  simp only [↓zen_130, ↓zu_130_0, ↓zu_130_17, ↓zu_130_18, ↓zx_nil, ↓zx_cons, ↓zp_li, ↓zp_ll, ↓zp_lr, ↓zq_li0, ↓zq_li1, ↓zq_ll0, ↓zq_ll1, ↓zq_lr0, ↓zq_lr1, ↓zk_0, ↓zk_1n, ↓zk_1i, ↓zk_1r, ↓zk_1l, ↓zk_2, zp_okt, ↓zp_okl, zp_sh0, zp_sh1, zp_psn, zp_pss, ↓zp_ri1, ↓zp_ri20, ↓zp_ri21, ↓zp_rl, ↓zp_ra, ↓zp_rv, ↓zp_br, ↓reduceIte, Nat.reduceAdd, Nat.zero_add, Nat.add_zero, Nat.le_refl, Nat.zero_le, ↓zx_lload_0, ↓zx_lload_2, ↓zy_lcmp, ↓zy_if_lt, ↓zx_lload, ↓zy_if_gt, ↓zx_iconst, ↓zx_goto, ↓zx_iret, lg_cmp_lt, lg_cmp_gt, ← Int64.not_lt]
  grind
theorem z_64le {x y : Int32} : x.toInt64 ≤ y.toInt64 ↔ ¬ y < x := by
  rw [Int64.le_iff_toInt_le, Int32.toInt_toInt64, Int32.toInt_toInt64, Int32.not_lt, Int32.le_iff_toInt_le]
theorem z_in64 {v lo hi : Int32} {p q : Int64} (hp : lo.toInt64 = p) (hq : hi.toInt64 = q) : (p ≤ v.toInt64 ∧ v.toInt64 ≤ q) = ¬ (v < lo ∨ hi < v) := by
  subst hp hq
  rw [z_64le, z_64le]
  exact propext ⟨fun q h => h.elim q.1 q.2, fun q => ⟨fun h => q (.inl h), fun h => q (.inr h)⟩⟩
theorem z_inN {v n : Int32} (hn : 0 ≤ n) : (0 ≤ v.toInt64 ∧ v.toInt64 ≤ n.toInt64 - 1) = (0 ≤ v ∧ v < n) := by
  have e0 : (0 : Int64) = (0 : Int32).toInt64 := rfl
  have h1 := n.toInt_lt
  have h2 := v.toInt_lt
  have h3 := v.le_toInt
  rw [Int32.le_iff_toInt_le, show (0 : Int32).toInt = 0 from rfl] at hn
  have e1 : (n.toInt64 - 1).toInt = n.toInt - 1 := by
    rw [Int64.toInt_sub, Int32.toInt_toInt64, show (1 : Int64).toInt = 1 from rfl, Int.bmod_eq_of_le] <;> omega
  rw [e0, z_64le, Int32.not_lt, Int64.le_iff_toInt_le, Int32.toInt_toInt64, e1, Int32.lt_iff_toInt_lt]
  exact propext ⟨fun q => ⟨q.1, by omega⟩, fun q => ⟨q.1, by omega⟩⟩
set_option maxRecDepth 100000 in
set_option maxHeartbeats 4000000 in
theorem zs_135 : z_call (d + 1) 135 [zi (nI g)] m Q = Q (some (zi (nI (6 + 3 * g)))) m := by
  simp only [↓zen_135, ↓zu_135_0, ↓zx_nil, ↓zx_cons, ↓zp_li, ↓zp_ll, ↓zp_lr, ↓zq_li0, ↓zq_li1, ↓zq_ll0, ↓zq_ll1, ↓zq_lr0, ↓zq_lr1, ↓zk_0, ↓zk_1n, ↓zk_1i, ↓zk_1r, ↓zk_1l, ↓zk_2, zp_okt, ↓zp_okl, zp_sh0, zp_sh1, zp_psn, zp_pss, ↓zp_ri1, ↓zp_ri20, ↓zp_ri21, ↓zp_rl, ↓zp_ra, ↓zp_rv, ↓zp_br, ↓reduceIte, Nat.reduceAdd, Nat.zero_add, Nat.add_zero, Nat.le_refl, Nat.zero_le, ↓zx_bipush, ↓zx_iconst, ↓zx_iload_0, ↓zy_imul, ↓zy_iadd, ↓zx_iret, zn_p0, zn_p1, zn_p2, zn_p3, zn_p4, zn_p5, zn_p6, zn_p7, zn_p8, zn_p13, zn_p88, zn_p891, zn_m2, zn_m3, zn_m8, zn_m17, zn_m29, zn_m88, zn_m891, zn_a2, zn_a3, zn_a6, zn_a8, zn_a18, zn_a66, zn_a88, zn_a211, zn_a891, zp_ri2i, nI_add, z_vr, nI_clamp, zn_w0, zn_w1, zn_w2, zn_w3, zn_w4, zn_w5, zn_t0, zn_t1, zn_t2, zn_t3, zn_t4, zn_t5]
set_option maxRecDepth 100000 in
set_option maxHeartbeats 4000000 in
theorem zs_138 : z_call (d + 1) 138 [zi (nI l)] m Q = Q (some (zi (nI (211 + 17 * l)))) m := by
  simp only [↓zen_138, ↓zu_138_0, ↓zx_nil, ↓zx_cons, ↓zp_li, ↓zp_ll, ↓zp_lr, ↓zq_li0, ↓zq_li1, ↓zq_ll0, ↓zq_ll1, ↓zq_lr0, ↓zq_lr1, ↓zk_0, ↓zk_1n, ↓zk_1i, ↓zk_1r, ↓zk_1l, ↓zk_2, zp_okt, ↓zp_okl, zp_sh0, zp_sh1, zp_psn, zp_pss, ↓zp_ri1, ↓zp_ri20, ↓zp_ri21, ↓zp_rl, ↓zp_ra, ↓zp_rv, ↓zp_br, ↓reduceIte, Nat.reduceAdd, Nat.zero_add, Nat.add_zero, Nat.le_refl, Nat.zero_le, ↓zx_sipush, ↓zx_bipush, ↓zx_iload_0, ↓zy_imul, ↓zy_iadd, ↓zx_iret, zn_p0, zn_p1, zn_p2, zn_p3, zn_p4, zn_p5, zn_p6, zn_p7, zn_p8, zn_p13, zn_p88, zn_p891, zn_m2, zn_m3, zn_m8, zn_m17, zn_m29, zn_m88, zn_m891, zn_a2, zn_a3, zn_a6, zn_a8, zn_a18, zn_a66, zn_a88, zn_a211, zn_a891, zp_ri2i, nI_add, z_vr, nI_clamp, zn_w0, zn_w1, zn_w2, zn_w3, zn_w4, zn_w5, zn_t0, zn_t1, zn_t2, zn_t3, zn_t4, zn_t5]
set_option maxRecDepth 100000 in
set_option maxHeartbeats 4000000 in
theorem zs_142 : z_call (d + 1) 142 [zi (nI k)] m Q = Q (some (zi (nI (66 + 29 * k)))) m := by
  simp only [↓zen_142, ↓zu_142_0, ↓zx_nil, ↓zx_cons, ↓zp_li, ↓zp_ll, ↓zp_lr, ↓zq_li0, ↓zq_li1, ↓zq_ll0, ↓zq_ll1, ↓zq_lr0, ↓zq_lr1, ↓zk_0, ↓zk_1n, ↓zk_1i, ↓zk_1r, ↓zk_1l, ↓zk_2, zp_okt, ↓zp_okl, zp_sh0, zp_sh1, zp_psn, zp_pss, ↓zp_ri1, ↓zp_ri20, ↓zp_ri21, ↓zp_rl, ↓zp_ra, ↓zp_rv, ↓zp_br, ↓reduceIte, Nat.reduceAdd, Nat.zero_add, Nat.add_zero, Nat.le_refl, Nat.zero_le, ↓zx_bipush, ↓zx_iload_0, ↓zy_imul, ↓zy_iadd, ↓zx_iret, zn_p0, zn_p1, zn_p2, zn_p3, zn_p4, zn_p5, zn_p6, zn_p7, zn_p8, zn_p13, zn_p88, zn_p891, zn_m2, zn_m3, zn_m8, zn_m17, zn_m29, zn_m88, zn_m891, zn_a2, zn_a3, zn_a6, zn_a8, zn_a18, zn_a66, zn_a88, zn_a211, zn_a891, zp_ri2i, nI_add, z_vr, nI_clamp, zn_w0, zn_w1, zn_w2, zn_w3, zn_w4, zn_w5, zn_t0, zn_t1, zn_t2, zn_t3, zn_t4, zn_t5]
set_option maxRecDepth 100000 in
set_option maxHeartbeats 4000000 in
theorem zs_147 : z_call (d + 1) 147 [zi (nI s)] m Q = Q (some (zi (nI (18 + 8 * s)))) m := by
  simp only [↓zen_147, ↓zu_147_0, ↓zx_nil, ↓zx_cons, ↓zp_li, ↓zp_ll, ↓zp_lr, ↓zq_li0, ↓zq_li1, ↓zq_ll0, ↓zq_ll1, ↓zq_lr0, ↓zq_lr1, ↓zk_0, ↓zk_1n, ↓zk_1i, ↓zk_1r, ↓zk_1l, ↓zk_2, zp_okt, ↓zp_okl, zp_sh0, zp_sh1, zp_psn, zp_pss, ↓zp_ri1, ↓zp_ri20, ↓zp_ri21, ↓zp_rl, ↓zp_ra, ↓zp_rv, ↓zp_br, ↓reduceIte, Nat.reduceAdd, Nat.zero_add, Nat.add_zero, Nat.le_refl, Nat.zero_le, ↓zx_bipush, ↓zx_iload_0, ↓zy_imul, ↓zy_iadd, ↓zx_iret, zn_p0, zn_p1, zn_p2, zn_p3, zn_p4, zn_p5, zn_p6, zn_p7, zn_p8, zn_p13, zn_p88, zn_p891, zn_m2, zn_m3, zn_m8, zn_m17, zn_m29, zn_m88, zn_m891, zn_a2, zn_a3, zn_a6, zn_a8, zn_a18, zn_a66, zn_a88, zn_a211, zn_a891, zp_ri2i, nI_add, z_vr, nI_clamp, zn_w0, zn_w1, zn_w2, zn_w3, zn_w4, zn_w5, zn_t0, zn_t1, zn_t2, zn_t3, zn_t4, zn_t5]
set_option maxRecDepth 100000 in
set_option maxHeartbeats 4000000 in
theorem zs_144 : z_call (d + 1) 144 [zi x, zi y] m Q = Q (some (zi (if x ≤ y then y else x))) m := by
  by_cases h : x ≤ y <;> simp only [↓zen_144, ↓zu_144_0, ↓zu_144_9, ↓zu_144_10, ↓zx_nil, ↓zx_cons, ↓zp_li, ↓zp_ll, ↓zp_lr, ↓zq_li0, ↓zq_li1, ↓zq_ll0, ↓zq_ll1, ↓zq_lr0, ↓zq_lr1, ↓zk_0, ↓zk_1n, ↓zk_1i, ↓zk_1r, ↓zk_1l, ↓zk_2, zp_okt, ↓zp_okl, zp_sh0, zp_sh1, zp_psn, zp_pss, ↓zp_ri1, ↓zp_ri20, ↓zp_ri21, ↓zp_rl, ↓zp_ra, ↓zp_rv, ↓zp_br, ↓reduceIte, Nat.reduceAdd, Nat.zero_add, Nat.add_zero, Nat.le_refl, Nat.zero_le, ↓zx_iload_0, ↓zx_iload_1, ↓zy_ic_le, ↓zx_goto, ↓zx_iret, z_i10, z_10, z_00, and_self, not_true_eq_false, not_false_eq_true, true_and, and_true, false_and, and_false, true_or, false_or, or_false, or_true, or_self, if_true, if_false, ite_self, ↓zs_72, h]
def mMin (x y : Int32) : Int32 := if y ≤ x then y else x
set_option maxRecDepth 100000 in
set_option maxHeartbeats 4000000 in
theorem zs_149 : z_call (d + 1) 149 [zi x, zi y] m Q = Q (some (zi (mMin x y))) m := by
  unfold mMin
  by_cases h : y ≤ x <;> simp only [↓zen_149, ↓zu_149_0, ↓zu_149_9, ↓zu_149_10, ↓zx_nil, ↓zx_cons, ↓zp_li, ↓zp_ll, ↓zp_lr, ↓zq_li0, ↓zq_li1, ↓zq_ll0, ↓zq_ll1, ↓zq_lr0, ↓zq_lr1, ↓zk_0, ↓zk_1n, ↓zk_1i, ↓zk_1r, ↓zk_1l, ↓zk_2, zp_okt, ↓zp_okl, zp_sh0, zp_sh1, zp_psn, zp_pss, ↓zp_ri1, ↓zp_ri20, ↓zp_ri21, ↓zp_rl, ↓zp_ra, ↓zp_rv, ↓zp_br, ↓reduceIte, Nat.reduceAdd, Nat.zero_add, Nat.add_zero, Nat.le_refl, Nat.zero_le, ↓zx_iload_0, ↓zx_iload_1, ↓zy_ic_ge, ↓zx_goto, ↓zx_iret, z_i10, z_10, z_00, and_self, not_true_eq_false, not_false_eq_true, true_and, and_true, false_and, and_false, true_or, false_or, or_false, or_true, or_self, if_true, if_false, ite_self, ↓zs_72, h]
set_option maxRecDepth 100000 in
set_option maxHeartbeats 4000000 in
theorem zs_126 (h : v = -1 ∨ v = -2 ∨ v = -4 ∨ v = -5) : z_call (d + 1) 126 [zr (some (6, 1, 0)), zi v] m Q = Q (some (zi v)) (z_s m 1 (z_uI (z_uI (z_g m 1) 6 0 1 v) 21 0 (-v).toNatClampNeg (z_I (z_g m 1) 21 0 (-v).toNatClampNeg + 1))) := by
  have h1 : vp_in (-v) 6 := by
    rcases h with h | h | h | h <;> subst h <;> exact of_eq_true (z_vp (by decide))
  simp only [↓zen_126, ↓zu_126_0, ↓zx_nil, ↓zx_cons, ↓zp_li, ↓zp_ll, ↓zp_lr, ↓zq_li0, ↓zq_li1, ↓zq_ll0, ↓zq_ll1, ↓zq_lr0, ↓zq_lr1, ↓zk_0, ↓zk_1n, ↓zk_1i, ↓zk_1r, ↓zk_1l, ↓zk_2, zp_okt, ↓zp_okl, zp_sh0, zp_sh1, zp_psn, zp_pss, ↓zp_ri1, ↓zp_ri20, ↓zp_ri21, ↓zp_rl, ↓zp_ra, ↓zp_rv, ↓zp_br, ↓reduceIte, Nat.reduceAdd, Nat.zero_add, Nat.add_zero, Nat.le_refl, Nat.zero_le, ↓zx_aload_0, ↓zx_iload_1, ↓zyp_6_1, ↓zyg_6_2, ↓zy_ineg, ↓zy_dup2, ↓zx_iconst, ↓zy_iadd, ↓zx_iret, ↓zya_21, ↓zya_22, ↓zya_24, ↓zya_26, ↓zya_27, ↓zya_30, ↓zya_32, ↓zya_33, ↓zyb_21, ↓zyb_22, ↓zyb_24, ↓zyb_26, ↓zyb_27, ↓zyb_30, ↓zyb_32, ↓zyb_33, z_i10, z_10, z_00, and_self, not_true_eq_false, not_false_eq_true, true_and, and_true, false_and, and_false, true_or, false_or, or_false, or_true, or_self, if_true, if_false, ite_self, ↓zs_72, eq_true h1, z_g_ss, zq_ss, z_I_u, Nat.reduceEqDiff, false_and, if_false]
set_option maxRecDepth 100000 in
set_option maxHeartbeats 4000000 in
theorem zs_128 : z_call (d + 1) 128 [zr (some (6, 1, 0)), zi v] m Q = Q (some (zi v)) (z_s m 1 (z_uI (z_g m 1) 6 0 1 0)) := by
  simp only [↓zen_128, ↓zu_128_0, ↓zx_nil, ↓zx_cons, ↓zp_li, ↓zp_ll, ↓zp_lr, ↓zq_li0, ↓zq_li1, ↓zq_ll0, ↓zq_ll1, ↓zq_lr0, ↓zq_lr1, ↓zk_0, ↓zk_1n, ↓zk_1i, ↓zk_1r, ↓zk_1l, ↓zk_2, zp_okt, ↓zp_okl, zp_sh0, zp_sh1, zp_psn, zp_pss, ↓zp_ri1, ↓zp_ri20, ↓zp_ri21, ↓zp_rl, ↓zp_ra, ↓zp_rv, ↓zp_br, ↓reduceIte, Nat.reduceAdd, Nat.zero_add, Nat.add_zero, Nat.le_refl, Nat.zero_le, ↓zx_aload_0, ↓zx_iconst, ↓zyp_6_1, ↓zx_iload_1, ↓zx_iret]
set_option maxRecDepth 100000 in
set_option maxHeartbeats 4000000 in
theorem zs_225 : z_call (d + 1) 225 [zr (some (6, 1, 0))] m Q = Q (some (zi (z_I (z_g m 1) 6 0 1))) (z_s m 1 (z_uI (z_g m 1) 6 0 0 0)) := by
  simp only [↓zen_225, ↓zu_225_0, ↓zx_nil, ↓zx_cons, ↓zp_li, ↓zp_ll, ↓zp_lr, ↓zq_li0, ↓zq_li1, ↓zq_ll0, ↓zq_ll1, ↓zq_lr0, ↓zq_lr1, ↓zk_0, ↓zk_1n, ↓zk_1i, ↓zk_1r, ↓zk_1l, ↓zk_2, zp_okt, ↓zp_okl, zp_sh0, zp_sh1, zp_psn, zp_pss, ↓zp_ri1, ↓zp_ri20, ↓zp_ri21, ↓zp_rl, ↓zp_ra, ↓zp_rv, ↓zp_br, ↓reduceIte, Nat.reduceAdd, Nat.zero_add, Nat.add_zero, Nat.le_refl, Nat.zero_le, ↓zx_aload_0, ↓zx_iconst, ↓zyp_6_0, ↓zyg_6_1, ↓zx_iret, z_g_ss, z_I_u, Nat.reduceEqDiff, and_false, if_false]
set_option maxRecDepth 100000 in
set_option maxHeartbeats 4000000 in
theorem zs_151 (h : z_nn (z_I (z_g m 1) 22 0 1) 4) : z_call (d + 2) 151 [zr (some (6, 1, 0)), zi v] m Q = Q (some (zi (if 0 ≤ v ∧ v < z_I (z_g m 1) 22 0 1 then 1 else 0))) m := by
  simp only [↓zen_151, ↓zu_151_0, ↓zx_nil, ↓zx_cons, ↓zp_li, ↓zp_ll, ↓zp_lr, ↓zq_li0, ↓zq_li1, ↓zq_ll0, ↓zq_ll1, ↓zq_lr0, ↓zq_lr1, ↓zk_0, ↓zk_1n, ↓zk_1i, ↓zk_1r, ↓zk_1l, ↓zk_2, zp_okt, ↓zp_okl, zp_sh0, zp_sh1, zp_psn, zp_pss, ↓zp_ri1, ↓zp_ri20, ↓zp_ri21, ↓zp_rl, ↓zp_ra, ↓zp_rv, ↓zp_br, ↓reduceIte, Nat.reduceAdd, Nat.zero_add, Nat.add_zero, Nat.le_refl, Nat.zero_le, ↓zx_iload_1, ↓zy_i2l, ↓zx_lconst0, ↓zx_aload_0, ↓zyg_6_3, ↓zx_iconst, ↓zx_lconst1, ↓zy_lsub, ↓zyc_130, ↓zx_iret, ↓zya_21, ↓zya_22, ↓zya_24, ↓zya_26, ↓zya_27, ↓zya_30, ↓zya_32, ↓zya_33, z_i10, z_10, z_00, and_self, not_true_eq_false, not_false_eq_true, true_and, and_true, false_and, and_false, true_or, false_or, or_false, or_true, or_self, if_true, if_false, ite_self, ↓zs_72, zn_p0, zn_p1, zn_p2, zn_p3, zn_p4, zn_p5, zn_p6, zn_p7, zn_p8, zn_p13, zn_p88, zn_p891, zn_m2, zn_m3, zn_m8, zn_m17, zn_m29, zn_m88, zn_m891, zn_a2, zn_a3, zn_a6, zn_a8, zn_a18, zn_a66, zn_a88, zn_a211, zn_a891, zp_ri2i, nI_add, z_vr, nI_clamp, zn_w0, zn_w1, zn_w2, zn_w3, zn_w4, zn_w5, zn_t0, zn_t1, zn_t2, zn_t3, zn_t4, zn_t5, ↓zs_130, z_inN h.1]
set_option maxRecDepth 100000 in
set_option maxHeartbeats 4000000 in
theorem zs_158 (h : z_nn (z_I (z_g m 1) 22 0 2) 6) : z_call (d + 2) 158 [zr (some (6, 1, 0)), zi v] m Q = Q (some (zi (if 0 ≤ v ∧ v < z_I (z_g m 1) 22 0 2 then 1 else 0))) m := by
  simp only [↓zen_158, ↓zu_158_0, ↓zx_nil, ↓zx_cons, ↓zp_li, ↓zp_ll, ↓zp_lr, ↓zq_li0, ↓zq_li1, ↓zq_ll0, ↓zq_ll1, ↓zq_lr0, ↓zq_lr1, ↓zk_0, ↓zk_1n, ↓zk_1i, ↓zk_1r, ↓zk_1l, ↓zk_2, zp_okt, ↓zp_okl, zp_sh0, zp_sh1, zp_psn, zp_pss, ↓zp_ri1, ↓zp_ri20, ↓zp_ri21, ↓zp_rl, ↓zp_ra, ↓zp_rv, ↓zp_br, ↓reduceIte, Nat.reduceAdd, Nat.zero_add, Nat.add_zero, Nat.le_refl, Nat.zero_le, ↓zx_iload_1, ↓zy_i2l, ↓zx_lconst0, ↓zx_aload_0, ↓zyg_6_3, ↓zx_iconst, ↓zx_lconst1, ↓zy_lsub, ↓zyc_130, ↓zx_iret, ↓zya_21, ↓zya_22, ↓zya_24, ↓zya_26, ↓zya_27, ↓zya_30, ↓zya_32, ↓zya_33, z_i10, z_10, z_00, and_self, not_true_eq_false, not_false_eq_true, true_and, and_true, false_and, and_false, true_or, false_or, or_false, or_true, or_self, if_true, if_false, ite_self, ↓zs_72, zn_p0, zn_p1, zn_p2, zn_p3, zn_p4, zn_p5, zn_p6, zn_p7, zn_p8, zn_p13, zn_p88, zn_p891, zn_m2, zn_m3, zn_m8, zn_m17, zn_m29, zn_m88, zn_m891, zn_a2, zn_a3, zn_a6, zn_a8, zn_a18, zn_a66, zn_a88, zn_a211, zn_a891, zp_ri2i, nI_add, z_vr, nI_clamp, zn_w0, zn_w1, zn_w2, zn_w3, zn_w4, zn_w5, zn_t0, zn_t1, zn_t2, zn_t3, zn_t4, zn_t5, ↓zs_130, z_inN h.1]
set_option maxRecDepth 100000 in
set_option maxHeartbeats 4000000 in
theorem zs_174 (h : z_nn (z_I (z_g m 1) 22 0 3) 40) : z_call (d + 2) 174 [zr (some (6, 1, 0)), zi v] m Q = Q (some (zi (if 0 ≤ v ∧ v < z_I (z_g m 1) 22 0 3 then 1 else 0))) m := by
  simp only [↓zen_174, ↓zu_174_0, ↓zx_nil, ↓zx_cons, ↓zp_li, ↓zp_ll, ↓zp_lr, ↓zq_li0, ↓zq_li1, ↓zq_ll0, ↓zq_ll1, ↓zq_lr0, ↓zq_lr1, ↓zk_0, ↓zk_1n, ↓zk_1i, ↓zk_1r, ↓zk_1l, ↓zk_2, zp_okt, ↓zp_okl, zp_sh0, zp_sh1, zp_psn, zp_pss, ↓zp_ri1, ↓zp_ri20, ↓zp_ri21, ↓zp_rl, ↓zp_ra, ↓zp_rv, ↓zp_br, ↓reduceIte, Nat.reduceAdd, Nat.zero_add, Nat.add_zero, Nat.le_refl, Nat.zero_le, ↓zx_iload_1, ↓zy_i2l, ↓zx_lconst0, ↓zx_aload_0, ↓zyg_6_3, ↓zx_iconst, ↓zx_lconst1, ↓zy_lsub, ↓zyc_130, ↓zx_iret, ↓zya_21, ↓zya_22, ↓zya_24, ↓zya_26, ↓zya_27, ↓zya_30, ↓zya_32, ↓zya_33, z_i10, z_10, z_00, and_self, not_true_eq_false, not_false_eq_true, true_and, and_true, false_and, and_false, true_or, false_or, or_false, or_true, or_self, if_true, if_false, ite_self, ↓zs_72, zn_p0, zn_p1, zn_p2, zn_p3, zn_p4, zn_p5, zn_p6, zn_p7, zn_p8, zn_p13, zn_p88, zn_p891, zn_m2, zn_m3, zn_m8, zn_m17, zn_m29, zn_m88, zn_m891, zn_a2, zn_a3, zn_a6, zn_a8, zn_a18, zn_a66, zn_a88, zn_a211, zn_a891, zp_ri2i, nI_add, z_vr, nI_clamp, zn_w0, zn_w1, zn_w2, zn_w3, zn_w4, zn_w5, zn_t0, zn_t1, zn_t2, zn_t3, zn_t4, zn_t5, ↓zs_130, z_inN h.1]
set_option maxRecDepth 100000 in
set_option maxHeartbeats 4000000 in
theorem zs_160 : z_call (d + 2) 160 [zi v] m Q = Q (some (zi (if 0 ≤ v ∧ v < 5 then 1 else 0))) m := by
  have h : (0 ≤ v.toInt64 ∧ v.toInt64 ≤ 4) = (0 ≤ v ∧ v < 5) := z_inN (n := 5) (by decide)
  simp only [↓zen_160, ↓zu_160_0, ↓zx_nil, ↓zx_cons, ↓zp_li, ↓zp_ll, ↓zp_lr, ↓zq_li0, ↓zq_li1, ↓zq_ll0, ↓zq_ll1, ↓zq_lr0, ↓zq_lr1, ↓zk_0, ↓zk_1n, ↓zk_1i, ↓zk_1r, ↓zk_1l, ↓zk_2, zp_okt, ↓zp_okl, zp_sh0, zp_sh1, zp_psn, zp_pss, ↓zp_ri1, ↓zp_ri20, ↓zp_ri21, ↓zp_rl, ↓zp_ra, ↓zp_rv, ↓zp_br, ↓reduceIte, Nat.reduceAdd, Nat.zero_add, Nat.add_zero, Nat.le_refl, Nat.zero_le, ↓zx_iload_0, ↓zy_i2l, ↓zx_lconst0, ↓zx_ldc2, ↓zyc_130, ↓zx_iret, z_i10, z_10, z_00, and_self, not_true_eq_false, not_false_eq_true, true_and, and_true, false_and, and_false, true_or, false_or, or_false, or_true, or_self, if_true, if_false, ite_self, ↓zs_72, zn_p0, zn_p1, zn_p2, zn_p3, zn_p4, zn_p5, zn_p6, zn_p7, zn_p8, zn_p13, zn_p88, zn_p891, zn_m2, zn_m3, zn_m8, zn_m17, zn_m29, zn_m88, zn_m891, zn_a2, zn_a3, zn_a6, zn_a8, zn_a18, zn_a66, zn_a88, zn_a211, zn_a891, zp_ri2i, nI_add, z_vr, nI_clamp, zn_w0, zn_w1, zn_w2, zn_w3, zn_w4, zn_w5, zn_t0, zn_t1, zn_t2, zn_t3, zn_t4, zn_t5, ↓zs_130, h]
-- of a load, of a guarantor
def mSt (M : zS) (l : Nat) : Int32 := z_I M 22 0 (211 + 17 * l + 6)
set_option maxRecDepth 100000 in
set_option maxHeartbeats 4000000 in
theorem zs_164 (hl : l < 40) : z_call (d + 2) 164 [zr (some (6, 1, 0)), zi (nI l)] m Q = Q (some (zi (mSt (z_g m 1) l))) m := by
  simp (disch := omega) only [↓zen_164, ↓zu_164_0, ↓zx_nil, ↓zx_cons, ↓zp_li, ↓zp_ll, ↓zp_lr, ↓zq_li0, ↓zq_li1, ↓zq_ll0, ↓zq_ll1, ↓zq_lr0, ↓zq_lr1, ↓zk_0, ↓zk_1n, ↓zk_1i, ↓zk_1r, ↓zk_1l, ↓zk_2, zp_okt, ↓zp_okl, zp_sh0, zp_sh1, zp_psn, zp_pss, ↓zp_ri1, ↓zp_ri20, ↓zp_ri21, ↓zp_rl, ↓zp_ra, ↓zp_rv, ↓zp_br, ↓reduceIte, Nat.reduceAdd, Nat.zero_add, Nat.add_zero, Nat.le_refl, Nat.zero_le, ↓zx_aload_0, ↓zyg_6_3, ↓zx_iload_1, ↓zyc_138, ↓zx_bipush, ↓zy_iadd, ↓zx_iret, ↓zya_21, ↓zya_22, ↓zya_24, ↓zya_26, ↓zya_27, ↓zya_30, ↓zya_32, ↓zya_33, z_i10, z_10, z_00, and_self, not_true_eq_false, not_false_eq_true, true_and, and_true, false_and, and_false, true_or, false_or, or_false, or_true, or_self, if_true, if_false, ite_self, ↓zs_72, ↓zs_138, zn_p0, zn_p1, zn_p2, zn_p3, zn_p4, zn_p5, zn_p6, zn_p7, zn_p8, zn_p13, zn_p88, zn_p891, zn_m2, zn_m3, zn_m8, zn_m17, zn_m29, zn_m88, zn_m891, zn_a2, zn_a3, zn_a6, zn_a8, zn_a18, zn_a66, zn_a88, zn_a211, zn_a891, zp_ri2i, nI_add, z_vr, nI_clamp, zn_w0, zn_w1, zn_w2, zn_w3, zn_w4, zn_w5, zn_t0, zn_t1, zn_t2, zn_t3, zn_t4, zn_t5]
  rfl
def mRest (M : zS) (l : Nat) : Int32 := z_I M 22 0 (211 + 17 * l + 3) - z_I M 22 0 (211 + 17 * l + 8)
set_option maxRecDepth 100000 in
set_option maxHeartbeats 4000000 in
theorem zs_140 (hl : l < 40) : z_call (d + 2) 140 [zr (some (6, 1, 0)), zi (nI l)] m Q = Q (some (zi (mRest (z_g m 1) l))) m := by
  simp (disch := omega) only [↓zen_140, ↓zu_140_0, ↓zx_nil, ↓zx_cons, ↓zp_li, ↓zp_ll, ↓zp_lr, ↓zq_li0, ↓zq_li1, ↓zq_ll0, ↓zq_ll1, ↓zq_lr0, ↓zq_lr1, ↓zk_0, ↓zk_1n, ↓zk_1i, ↓zk_1r, ↓zk_1l, ↓zk_2, zp_okt, ↓zp_okl, zp_sh0, zp_sh1, zp_psn, zp_pss, ↓zp_ri1, ↓zp_ri20, ↓zp_ri21, ↓zp_rl, ↓zp_ra, ↓zp_rv, ↓zp_br, ↓reduceIte, Nat.reduceAdd, Nat.zero_add, Nat.add_zero, Nat.le_refl, Nat.zero_le, ↓zx_aload_0, ↓zyg_6_3, ↓zx_iload_1, ↓zyc_138, ↓zx_iconst, ↓zy_iadd, ↓zx_bipush, ↓zy_isub, ↓zx_iret, ↓zya_21, ↓zya_22, ↓zya_24, ↓zya_26, ↓zya_27, ↓zya_30, ↓zya_32, ↓zya_33, z_i10, z_10, z_00, and_self, not_true_eq_false, not_false_eq_true, true_and, and_true, false_and, and_false, true_or, false_or, or_false, or_true, or_self, if_true, if_false, ite_self, ↓zs_72, ↓zs_138, zn_p0, zn_p1, zn_p2, zn_p3, zn_p4, zn_p5, zn_p6, zn_p7, zn_p8, zn_p13, zn_p88, zn_p891, zn_m2, zn_m3, zn_m8, zn_m17, zn_m29, zn_m88, zn_m891, zn_a2, zn_a3, zn_a6, zn_a8, zn_a18, zn_a66, zn_a88, zn_a211, zn_a891, zp_ri2i, nI_add, z_vr, nI_clamp, zn_w0, zn_w1, zn_w2, zn_w3, zn_w4, zn_w5, zn_t0, zn_t1, zn_t2, zn_t3, zn_t4, zn_t5]
  rfl
def mFree (M : zS) (g : Nat) : Int32 := z_I M 22 0 (6 + 3 * g) - z_I M 22 0 (6 + 3 * g + 1) - z_I M 22 0 (6 + 3 * g + 2)
set_option maxRecDepth 100000 in
set_option maxHeartbeats 4000000 in
theorem zs_148 (hg : g < 4) : z_call (d + 2) 148 [zr (some (6, 1, 0)), zi (nI g)] m Q = Q (some (zi (mFree (z_g m 1) g))) m := by
  simp (disch := omega) only [↓zen_148, ↓zu_148_0, ↓zx_nil, ↓zx_cons, ↓zp_li, ↓zp_ll, ↓zp_lr, ↓zq_li0, ↓zq_li1, ↓zq_ll0, ↓zq_ll1, ↓zq_lr0, ↓zq_lr1, ↓zk_0, ↓zk_1n, ↓zk_1i, ↓zk_1r, ↓zk_1l, ↓zk_2, zp_okt, ↓zp_okl, zp_sh0, zp_sh1, zp_psn, zp_pss, ↓zp_ri1, ↓zp_ri20, ↓zp_ri21, ↓zp_rl, ↓zp_ra, ↓zp_rv, ↓zp_br, ↓reduceIte, Nat.reduceAdd, Nat.zero_add, Nat.add_zero, Nat.le_refl, Nat.zero_le, ↓zx_iload_1, ↓zyc_135, ↓zy_istore_2, ↓zx_aload_0, ↓zyg_6_3, ↓zx_iload_2, ↓zx_iconst, ↓zy_iadd, ↓zy_isub, ↓zx_iret, ↓zya_21, ↓zya_22, ↓zya_24, ↓zya_26, ↓zya_27, ↓zya_30, ↓zya_32, ↓zya_33, z_i10, z_10, z_00, and_self, not_true_eq_false, not_false_eq_true, true_and, and_true, false_and, and_false, true_or, false_or, or_false, or_true, or_self, if_true, if_false, ite_self, ↓zs_72, ↓zs_135, zn_p0, zn_p1, zn_p2, zn_p3, zn_p4, zn_p5, zn_p6, zn_p7, zn_p8, zn_p13, zn_p88, zn_p891, zn_m2, zn_m3, zn_m8, zn_m17, zn_m29, zn_m88, zn_m891, zn_a2, zn_a3, zn_a6, zn_a8, zn_a18, zn_a66, zn_a88, zn_a211, zn_a891, zp_ri2i, nI_add, z_vr, nI_clamp, zn_w0, zn_w1, zn_w2, zn_w3, zn_w4, zn_w5, zn_t0, zn_t1, zn_t2, zn_t3, zn_t4, zn_t5]
  rfl
def mLat (M : zS) (l : Nat) : Int32 := z_I M 22 0 (211 + 17 * l + 7) + z_I M 22 0 (211 + 17 * l + 4)
set_option maxRecDepth 100000 in
set_option maxHeartbeats 4000000 in
theorem zs_180 (hl : l < 40) : z_call (d + 2) 180 [zr (some (6, 1, 0)), zi (nI l)] m Q = Q (some (zi (mLat (z_g m 1) l))) m := by
  simp (disch := omega) only [↓zen_180, ↓zu_180_0, ↓zx_nil, ↓zx_cons, ↓zp_li, ↓zp_ll, ↓zp_lr, ↓zq_li0, ↓zq_li1, ↓zq_ll0, ↓zq_ll1, ↓zq_lr0, ↓zq_lr1, ↓zk_0, ↓zk_1n, ↓zk_1i, ↓zk_1r, ↓zk_1l, ↓zk_2, zp_okt, ↓zp_okl, zp_sh0, zp_sh1, zp_psn, zp_pss, ↓zp_ri1, ↓zp_ri20, ↓zp_ri21, ↓zp_rl, ↓zp_ra, ↓zp_rv, ↓zp_br, ↓reduceIte, Nat.reduceAdd, Nat.zero_add, Nat.add_zero, Nat.le_refl, Nat.zero_le, ↓zx_aload_0, ↓zyg_6_3, ↓zx_iload_1, ↓zyc_138, ↓zx_bipush, ↓zy_iadd, ↓zx_iconst, ↓zx_iret, ↓zya_21, ↓zya_22, ↓zya_24, ↓zya_26, ↓zya_27, ↓zya_30, ↓zya_32, ↓zya_33, z_i10, z_10, z_00, and_self, not_true_eq_false, not_false_eq_true, true_and, and_true, false_and, and_false, true_or, false_or, or_false, or_true, or_self, if_true, if_false, ite_self, ↓zs_72, ↓zs_138, zn_p0, zn_p1, zn_p2, zn_p3, zn_p4, zn_p5, zn_p6, zn_p7, zn_p8, zn_p13, zn_p88, zn_p891, zn_m2, zn_m3, zn_m8, zn_m17, zn_m29, zn_m88, zn_m891, zn_a2, zn_a3, zn_a6, zn_a8, zn_a18, zn_a66, zn_a88, zn_a211, zn_a891, zp_ri2i, nI_add, z_vr, nI_clamp, zn_w0, zn_w1, zn_w2, zn_w3, zn_w4, zn_w5, zn_t0, zn_t1, zn_t2, zn_t3, zn_t4, zn_t5]
  rfl
set_option maxRecDepth 100000 in
set_option maxHeartbeats 4000000 in
theorem zs_177 (h : z_nn (z_I (z_g m 1) 22 0 3) 40) : z_call (d + 3) 177 [zr (some (6, 1, 0)), zi v] m Q = Q (some (zi (if (0 ≤ v ∧ v < z_I (z_g m 1) 22 0 3) ∧ mSt (z_g m 1) v.toNatClampNeg = 1 then 1 else 0))) m := by
  by_cases c0 : 0 ≤ v ∧ v < z_I (z_g m 1) 22 0 3
  · have hv := z_nn_eq c0.1
    have hl : v.toNatClampNeg < 40 := Nat.lt_of_lt_of_le (z_hasl h c0) h.2
    have h164 := fun Q => zs_164 (d := d) (l := v.toNatClampNeg) (m := m) (Q := Q) hl
    rw [← hv] at h164
    rcases Classical.em (mSt (z_g m 1) v.toNatClampNeg = 1) with c1 | c1
    · have c1 := eq_true c1
      simp only [↓zen_177, ↓zu_177_0, ↓zu_177_21, ↓zu_177_22, ↓zx_nil, ↓zx_cons, ↓zp_li, ↓zp_ll, ↓zp_lr, ↓zq_li0, ↓zq_li1, ↓zq_ll0, ↓zq_ll1, ↓zq_lr0, ↓zq_lr1, ↓zk_0, ↓zk_1n, ↓zk_1i, ↓zk_1r, ↓zk_1l, ↓zk_2, zp_okt, ↓zp_okl, zp_sh0, zp_sh1, zp_psn, zp_pss, ↓zp_ri1, ↓zp_ri20, ↓zp_ri21, ↓zp_rl, ↓zp_ra, ↓zp_rv, ↓zp_br, ↓reduceIte, Nat.reduceAdd, Nat.zero_add, Nat.add_zero, Nat.le_refl, Nat.zero_le, ↓zx_aload_0, ↓zx_iload_1, ↓zyc_174, ↓zy_if_eq, ↓zyc_164, ↓zx_iconst, ↓zy_ic_ne, ↓zx_goto, ↓zx_iret, z_i10, z_10, z_00, and_self, not_true_eq_false, not_false_eq_true, true_and, and_true, false_and, and_false, true_or, false_or, or_false, or_true, or_self, if_true, if_false, ite_self, ↓zs_72, ↓zs_174 h, c0, h164, c1]
    · simp only [↓zen_177, ↓zu_177_0, ↓zu_177_21, ↓zu_177_22, ↓zx_nil, ↓zx_cons, ↓zp_li, ↓zp_ll, ↓zp_lr, ↓zq_li0, ↓zq_li1, ↓zq_ll0, ↓zq_ll1, ↓zq_lr0, ↓zq_lr1, ↓zk_0, ↓zk_1n, ↓zk_1i, ↓zk_1r, ↓zk_1l, ↓zk_2, zp_okt, ↓zp_okl, zp_sh0, zp_sh1, zp_psn, zp_pss, ↓zp_ri1, ↓zp_ri20, ↓zp_ri21, ↓zp_rl, ↓zp_ra, ↓zp_rv, ↓zp_br, ↓reduceIte, Nat.reduceAdd, Nat.zero_add, Nat.add_zero, Nat.le_refl, Nat.zero_le, ↓zx_aload_0, ↓zx_iload_1, ↓zyc_174, ↓zy_if_eq, ↓zyc_164, ↓zx_iconst, ↓zy_ic_ne, ↓zx_goto, ↓zx_iret, z_i10, z_10, z_00, and_self, not_true_eq_false, not_false_eq_true, true_and, and_true, false_and, and_false, true_or, false_or, or_false, or_true, or_self, if_true, if_false, ite_self, ↓zs_72, ↓zs_174 h, c0, h164, c1]
  · simp only [↓zen_177, ↓zu_177_0, ↓zu_177_21, ↓zu_177_22, ↓zx_nil, ↓zx_cons, ↓zp_li, ↓zp_ll, ↓zp_lr, ↓zq_li0, ↓zq_li1, ↓zq_ll0, ↓zq_ll1, ↓zq_lr0, ↓zq_lr1, ↓zk_0, ↓zk_1n, ↓zk_1i, ↓zk_1r, ↓zk_1l, ↓zk_2, zp_okt, ↓zp_okl, zp_sh0, zp_sh1, zp_psn, zp_pss, ↓zp_ri1, ↓zp_ri20, ↓zp_ri21, ↓zp_rl, ↓zp_ra, ↓zp_rv, ↓zp_br, ↓reduceIte, Nat.reduceAdd, Nat.zero_add, Nat.add_zero, Nat.le_refl, Nat.zero_le, ↓zx_aload_0, ↓zx_iload_1, ↓zyc_174, ↓zy_if_eq, ↓zyc_164, ↓zx_iconst, ↓zy_ic_ne, ↓zx_goto, ↓zx_iret, z_i10, z_10, z_00, and_self, not_true_eq_false, not_false_eq_true, true_and, and_true, false_and, and_false, true_or, false_or, or_false, or_true, or_self, if_true, if_false, ite_self, ↓zs_72, ↓zs_174 h, c0]
set_option maxRecDepth 100000 in
set_option maxHeartbeats 4000000 in
theorem zs_178 {t : Nat} (hl : l < 40) (h1 : z_I (z_g m 1) 22 0 (211 + 17 * l + 1) = nI t) (h2 : z_I (z_g m 1) 22 0 (211 + 17 * l + 2) = nI k) : z_call (d + 2) 178 [zr (some (6, 1, 0)), zi (nI l)] m Q = Q (some (zi (nI (18 + 8 * t + k)))) m := by
  simp (disch := omega) only [↓zen_178, ↓zu_178_0, ↓zx_nil, ↓zx_cons, ↓zp_li, ↓zp_ll, ↓zp_lr, ↓zq_li0, ↓zq_li1, ↓zq_ll0, ↓zq_ll1, ↓zq_lr0, ↓zq_lr1, ↓zk_0, ↓zk_1n, ↓zk_1i, ↓zk_1r, ↓zk_1l, ↓zk_2, zp_okt, ↓zp_okl, zp_sh0, zp_sh1, zp_psn, zp_pss, ↓zp_ri1, ↓zp_ri20, ↓zp_ri21, ↓zp_rl, ↓zp_ra, ↓zp_rv, ↓zp_br, ↓reduceIte, Nat.reduceAdd, Nat.zero_add, Nat.add_zero, Nat.le_refl, Nat.zero_le, ↓zx_aload_0, ↓zyg_6_3, ↓zx_iload_1, ↓zyc_138, ↓zx_iconst, ↓zy_iadd, ↓zyc_147, ↓zx_iret, ↓zya_21, ↓zya_22, ↓zya_24, ↓zya_26, ↓zya_27, ↓zya_30, ↓zya_32, ↓zya_33, z_i10, z_10, z_00, and_self, not_true_eq_false, not_false_eq_true, true_and, and_true, false_and, and_false, true_or, false_or, or_false, or_true, or_self, if_true, if_false, ite_self, ↓zs_72, ↓zs_138, ↓zs_147, zn_p0, zn_p1, zn_p2, zn_p3, zn_p4, zn_p5, zn_p6, zn_p7, zn_p8, zn_p13, zn_p88, zn_p891, zn_m2, zn_m3, zn_m8, zn_m17, zn_m29, zn_m88, zn_m891, zn_a2, zn_a3, zn_a6, zn_a8, zn_a18, zn_a66, zn_a88, zn_a211, zn_a891, zp_ri2i, nI_add, z_vr, nI_clamp, zn_w0, zn_w1, zn_w2, zn_w3, zn_w4, zn_w5, zn_t0, zn_t1, zn_t2, zn_t3, zn_t4, zn_t5, h1, h2]
set_option maxRecDepth 100000 in
set_option maxHeartbeats 4000000 in
theorem zs_179 (hl : l < 40) : z_call (d + 3) 179 [zr (some (6, 1, 0)), zi (nI l), zi v] m Q = Q (some (zi (if ¬ (v < z_I (z_g m 1) 22 0 (211 + 17 * l + 7) ∨ mMin (z_I (z_g m 1) 22 0 0) (mLat (z_g m 1) l) < v) then 1 else 0))) m := by
  simp (disch := omega) only [↓zen_179, ↓zu_179_0, ↓zx_nil, ↓zx_cons, ↓zp_li, ↓zp_ll, ↓zp_lr, ↓zq_li0, ↓zq_li1, ↓zq_ll0, ↓zq_ll1, ↓zq_lr0, ↓zq_lr1, ↓zk_0, ↓zk_1n, ↓zk_1i, ↓zk_1r, ↓zk_1l, ↓zk_2, zp_okt, ↓zp_okl, zp_sh0, zp_sh1, zp_psn, zp_pss, ↓zp_ri1, ↓zp_ri20, ↓zp_ri21, ↓zp_rl, ↓zp_ra, ↓zp_rv, ↓zp_br, ↓reduceIte, Nat.reduceAdd, Nat.zero_add, Nat.add_zero, Nat.le_refl, Nat.zero_le, ↓zx_iload_2, ↓zy_i2l, ↓zx_aload_0, ↓zyg_6_3, ↓zx_iload_1, ↓zyc_138, ↓zx_bipush, ↓zy_iadd, ↓zx_iconst, ↓zyc_180, ↓zyc_149, ↓zyc_130, ↓zx_iret, ↓zya_21, ↓zya_22, ↓zya_24, ↓zya_26, ↓zya_27, ↓zya_30, ↓zya_32, ↓zya_33, z_i10, z_10, z_00, and_self, not_true_eq_false, not_false_eq_true, true_and, and_true, false_and, and_false, true_or, false_or, or_false, or_true, or_self, if_true, if_false, ite_self, ↓zs_72, ↓zs_138, ↓zs_180, ↓zs_149, ↓zs_130, zn_p0, zn_p1, zn_p2, zn_p3, zn_p4, zn_p5, zn_p6, zn_p7, zn_p8, zn_p13, zn_p88, zn_p891, zn_m2, zn_m3, zn_m8, zn_m17, zn_m29, zn_m88, zn_m891, zn_a2, zn_a3, zn_a6, zn_a8, zn_a18, zn_a66, zn_a88, zn_a211, zn_a891, zp_ri2i, nI_add, z_vr, nI_clamp, zn_w0, zn_w1, zn_w2, zn_w3, zn_w4, zn_w5, zn_t0, zn_t1, zn_t2, zn_t3, zn_t4, zn_t5, z_in64 rfl rfl]
def mTime (M : zS) (l : Nat) : Int32 := mMin (z_I M 22 0 0) (mLat M l) - z_I M 22 0 (211 + 17 * l + 7)
set_option maxRecDepth 100000 in
set_option maxHeartbeats 4000000 in
theorem zs_182 (hl : l < 40) : z_call (d + 3) 182 [zr (some (6, 1, 0)), zi (nI l)] m Q = Q (some (zi (mTime (z_g m 1) l))) m := by
  simp (disch := omega) only [↓zen_182, ↓zu_182_0, ↓zx_nil, ↓zx_cons, ↓zp_li, ↓zp_ll, ↓zp_lr, ↓zq_li0, ↓zq_li1, ↓zq_ll0, ↓zq_ll1, ↓zq_lr0, ↓zq_lr1, ↓zk_0, ↓zk_1n, ↓zk_1i, ↓zk_1r, ↓zk_1l, ↓zk_2, zp_okt, ↓zp_okl, zp_sh0, zp_sh1, zp_psn, zp_pss, ↓zp_ri1, ↓zp_ri20, ↓zp_ri21, ↓zp_rl, ↓zp_ra, ↓zp_rv, ↓zp_br, ↓reduceIte, Nat.reduceAdd, Nat.zero_add, Nat.add_zero, Nat.le_refl, Nat.zero_le, ↓zx_aload_0, ↓zyg_6_3, ↓zx_iconst, ↓zx_iload_1, ↓zyc_180, ↓zyc_149, ↓zyc_138, ↓zx_bipush, ↓zy_iadd, ↓zy_isub, ↓zx_iret, ↓zya_21, ↓zya_22, ↓zya_24, ↓zya_26, ↓zya_27, ↓zya_30, ↓zya_32, ↓zya_33, z_i10, z_10, z_00, and_self, not_true_eq_false, not_false_eq_true, true_and, and_true, false_and, and_false, true_or, false_or, or_false, or_true, or_self, if_true, if_false, ite_self, ↓zs_72, ↓zs_138, ↓zs_180, ↓zs_149, zn_p0, zn_p1, zn_p2, zn_p3, zn_p4, zn_p5, zn_p6, zn_p7, zn_p8, zn_p13, zn_p88, zn_p891, zn_m2, zn_m3, zn_m8, zn_m17, zn_m29, zn_m88, zn_m891, zn_a2, zn_a3, zn_a6, zn_a8, zn_a18, zn_a66, zn_a88, zn_a211, zn_a891, zp_ri2i, nI_add, z_vr, nI_clamp, zn_w0, zn_w1, zn_w2, zn_w3, zn_w4, zn_w5, zn_t0, zn_t1, zn_t2, zn_t3, zn_t4, zn_t5]
  rfl
def mAllow (M : zS) (k : Nat) (q t : Int32) : Int32 := q * mMin (z_I M 22 0 (66 + 29 * k + 1) * t) (z_I M 22 0 (66 + 29 * k + 2)) / 10000
set_option maxRecDepth 100000 in
set_option maxHeartbeats 4000000 in
theorem zs_184 (hk : k < 5) : z_call (d + 2) 184 [zr (some (6, 1, 0)), zi (nI k), zi v, zi w] m Q = Q (some (zi (mAllow (z_g m 1) k v w))) m := by
  simp (disch := omega) only [↓zen_184, ↓zu_184_0, ↓zx_nil, ↓zx_cons, ↓zp_li, ↓zp_ll, ↓zp_lr, ↓zq_li0, ↓zq_li1, ↓zq_ll0, ↓zq_ll1, ↓zq_lr0, ↓zq_lr1, ↓zk_0, ↓zk_1n, ↓zk_1i, ↓zk_1r, ↓zk_1l, ↓zk_2, zp_okt, ↓zp_okl, zp_sh0, zp_sh1, zp_psn, zp_pss, ↓zp_ri1, ↓zp_ri20, ↓zp_ri21, ↓zp_rl, ↓zp_ra, ↓zp_rv, ↓zp_br, ↓reduceIte, Nat.reduceAdd, Nat.zero_add, Nat.add_zero, Nat.le_refl, Nat.zero_le, ↓zx_iload_1, ↓zyc_142, ↓zy_istore, ↓zx_iload_2, ↓zx_aload_0, ↓zyg_6_3, ↓zx_iload, ↓zx_iconst, ↓zy_iadd, ↓zx_iload_3, ↓zy_imul, ↓zyc_149, ↓zx_sipush, ↓zy_idiv, ↓zx_iret, ↓zya_21, ↓zya_22, ↓zya_24, ↓zya_26, ↓zya_27, ↓zya_30, ↓zya_32, ↓zya_33, z_i10, z_10, z_00, and_self, not_true_eq_false, not_false_eq_true, true_and, and_true, false_and, and_false, true_or, false_or, or_false, or_true, or_self, if_true, if_false, ite_self, ↓zs_72, ↓zs_142, ↓zs_149, zn_p0, zn_p1, zn_p2, zn_p3, zn_p4, zn_p5, zn_p6, zn_p7, zn_p8, zn_p13, zn_p88, zn_p891, zn_m2, zn_m3, zn_m8, zn_m17, zn_m29, zn_m88, zn_m891, zn_a2, zn_a3, zn_a6, zn_a8, zn_a18, zn_a66, zn_a88, zn_a211, zn_a891, zp_ri2i, nI_add, z_vr, nI_clamp, zn_w0, zn_w1, zn_w2, zn_w3, zn_w4, zn_w5, zn_t0, zn_t1, zn_t2, zn_t3, zn_t4, zn_t5, show ¬ (10000 : Int32) = 0 from by decide]
  rfl
end Mo1
