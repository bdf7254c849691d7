/-! ===== THE MODEL: bits ===== -/
section Mo15
variable {d r i k g s l t q : Nat} {m : zM} {Q : zQ} {v w a b c e f x y : Int32}
def mBits : Nat → Int32 → Int32 → Int32
  | 0, _, n => n
  | k + 1, s, n => if s = 0 then n else mBits k (s &&& (s - 1)) (n + 1)
def mEndB : Nat → Int32 → Bool
  | 0, s => decide (s = 0)
  | k + 1, s => decide (s = 0) || mEndB k (s &&& (s - 1))
set_option maxRecDepth 100000 in
set_option maxHeartbeats 4000000 in
theorem zl_218 : ∀ (k : Nat) (s n : Int32), mEndB k s = true → zW 218 d Q 4 [some (zi x), some (zi n), some (zi s)] [] m 0 = Q (some (zi (mBits k s n))) m := by
  intro k
  induction k with
  | zero =>
    intro s n h
    have h1 : (s = 0) = True := eq_true (of_decide_eq_true h)
    rw [zu_218_4]
    simp only [↓zu_218_20, ↓zx_nil, ↓zx_cons, ↓zp_li, ↓zp_ll, ↓zp_lr, ↓zq_li0, ↓zq_li1, ↓zq_ll0, ↓zq_ll1, ↓zq_lr0, ↓zq_lr1, ↓zk_0, ↓zk_1n, ↓zk_1i, ↓zk_1r, ↓zk_1l, ↓zk_2, zp_okt, ↓zp_okl, zp_sh0, zp_sh1, zp_psn, zp_pss, ↓zp_ri1, ↓zp_ri20, ↓zp_ri21, ↓zp_rl, ↓zp_ra, ↓zp_rv, ↓zp_br, ↓reduceIte, Nat.reduceAdd, Nat.zero_add, Nat.add_zero, Nat.le_refl, Nat.zero_le, ↓zx_iconst, ↓zy_istore_1, ↓zx_iload_0, ↓zy_istore_2, ↓zx_iload_2, ↓zy_if_eq, ↓zy_iinc, ↓zy_isub, ↓zy_iand, ↓zx_goto, ↓zx_iload_1, ↓zx_iret, z_i10, z_10, z_00, and_self, not_true_eq_false, not_false_eq_true, true_and, and_true, false_and, and_false, true_or, false_or, or_false, or_true, or_self, if_true, if_false, ite_self, ↓zs_72, h1]
    rfl
  | succ k ih =>
    intro s n h
    rw [zu_218_4]
    unfold mBits
    rcases Classical.em (s = 0) with h1 | h1
    · have h1 := eq_true h1
      simp only [↓zu_218_20, ↓zx_nil, ↓zx_cons, ↓zp_li, ↓zp_ll, ↓zp_lr, ↓zq_li0, ↓zq_li1, ↓zq_ll0, ↓zq_ll1, ↓zq_lr0, ↓zq_lr1, ↓zk_0, ↓zk_1n, ↓zk_1i, ↓zk_1r, ↓zk_1l, ↓zk_2, zp_okt, ↓zp_okl, zp_sh0, zp_sh1, zp_psn, zp_pss, ↓zp_ri1, ↓zp_ri20, ↓zp_ri21, ↓zp_rl, ↓zp_ra, ↓zp_rv, ↓zp_br, ↓reduceIte, Nat.reduceAdd, Nat.zero_add, Nat.add_zero, Nat.le_refl, Nat.zero_le, ↓zx_iconst, ↓zy_istore_1, ↓zx_iload_0, ↓zy_istore_2, ↓zx_iload_2, ↓zy_if_eq, ↓zy_iinc, ↓zy_isub, ↓zy_iand, ↓zx_goto, ↓zx_iload_1, ↓zx_iret, z_i10, z_10, z_00, and_self, not_true_eq_false, not_false_eq_true, true_and, and_true, false_and, and_false, true_or, false_or, or_false, or_true, or_self, if_true, if_false, ite_self, ↓zs_72, h1]
    · have h2 : mEndB k (s &&& (s - 1)) = true := by
        unfold mEndB at h
        rcases (Bool.or_eq_true _ _).mp h with h3 | h3
        · exact absurd (of_decide_eq_true h3) h1
        · exact h3
      simp only [↓zx_nil, ↓zx_cons, ↓zp_li, ↓zp_ll, ↓zp_lr, ↓zq_li0, ↓zq_li1, ↓zq_ll0, ↓zq_ll1, ↓zq_lr0, ↓zq_lr1, ↓zk_0, ↓zk_1n, ↓zk_1i, ↓zk_1r, ↓zk_1l, ↓zk_2, zp_okt, ↓zp_okl, zp_sh0, zp_sh1, zp_psn, zp_pss, ↓zp_ri1, ↓zp_ri20, ↓zp_ri21, ↓zp_rl, ↓zp_ra, ↓zp_rv, ↓zp_br, ↓reduceIte, Nat.reduceAdd, Nat.zero_add, Nat.add_zero, Nat.le_refl, Nat.zero_le, ↓zx_iconst, ↓zy_istore_1, ↓zx_iload_0, ↓zy_istore_2, ↓zx_iload_2, ↓zy_if_eq, ↓zy_iinc, ↓zy_isub, ↓zy_iand, ↓zx_goto, ↓zx_iload_1, ↓zx_iret, z_i10, z_10, z_00, and_self, not_true_eq_false, not_false_eq_true, true_and, and_true, false_and, and_false, true_or, false_or, or_false, or_true, or_self, if_true, if_false, ite_self, ↓zs_72, h1]
      exact ih _ _ h2
theorem mBits_all2 : ∀ a b : Fin 64, mEndB 12 (nI (64 * a.val + b.val)) = true ∧ mBits 12 (nI (64 * a.val + b.val)) 0 = qBc (nI (64 * a.val + b.val)) := by decide +kernel
theorem mBits_all {t : Nat} (ht : t < 4096) : mEndB 12 (nI t) = true ∧ mBits 12 (nI t) 0 = qBc (nI t) := by
  have h := mBits_all2 ⟨t / 64, by omega⟩ ⟨t % 64, by omega⟩
  have e : 64 * (t / 64) + t % 64 = t := by omega
  simp only [e] at h
  exact h
set_option maxRecDepth 100000 in
set_option maxHeartbeats 4000000 in
theorem zs_218 {t : Nat} (ht : t < 4096) : z_call (d + 1) 218 [zi (nI t)] m Q = Q (some (zi (qBc (nI t)))) m := by
  have h := zl_218 (d := d) (m := m) (Q := Q) (x := nI t) 12 (nI t) 0 (mBits_all ht).1
  rw [(mBits_all ht).2] at h
  simp only [↓zen_218, ↓zu_218_0, ↓zu_218_20, ↓zx_nil, ↓zx_cons, ↓zp_li, ↓zp_ll, ↓zp_lr, ↓zq_li0, ↓zq_li1, ↓zq_ll0, ↓zq_ll1, ↓zq_lr0, ↓zq_lr1, ↓zk_0, ↓zk_1n, ↓zk_1i, ↓zk_1r, ↓zk_1l, ↓zk_2, zp_okt, ↓zp_okl, zp_sh0, zp_sh1, zp_psn, zp_pss, ↓zp_ri1, ↓zp_ri20, ↓zp_ri21, ↓zp_rl, ↓zp_ra, ↓zp_rv, ↓zp_br, ↓reduceIte, Nat.reduceAdd, Nat.zero_add, Nat.add_zero, Nat.le_refl, Nat.zero_le, ↓zx_iconst, ↓zy_istore_1, ↓zx_iload_0, ↓zy_istore_2, ↓zx_iload_2, ↓zy_if_eq, ↓zy_iinc, ↓zy_isub, ↓zy_iand, ↓zx_goto, ↓zx_iload_1, ↓zx_iret, z_i10, z_10, z_00, and_self, not_true_eq_false, not_false_eq_true, true_and, and_true, false_and, and_false, true_or, false_or, or_false, or_true, or_self, if_true, if_false, ite_self, ↓zs_72]
  exact h
end Mo15
