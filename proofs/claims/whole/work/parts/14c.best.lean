set_option maxHeartbeats 400000
/-! ===== CLASS AND MODEL: sets as bits, best ===== -/
section Re42
variable {d i k g s l l' t q n p T j L m x z : Nat} {v w a b c e y : Int32} {S S' M M' N X Y A C : zS} {B : Int} {K : Nat → Nat} {E : Nat → Int} {P : Nat → Prop}
theorem qb_all : ∀ i : Fin 12, ∀ a b : Fin 64, decide (qBit (nI (64 * a.val + b.val)) i.val) = decide ((64 * a.val + b.val) / 2 ^ i.val % 2 = 1) := by decide +kernel
theorem qb_is (hx : x < 4096) (hi : i < 12) : qBit (nI x) i ↔ x / 2 ^ i % 2 = 1 := by
  have h := qb_all ⟨i, hi⟩ ⟨x / 64, by omega⟩ ⟨x % 64, by omega⟩
  have e : 64 * (x / 64) + x % 64 = x := by omega
  simp only [e] at h
  exact decide_eq_decide.mp h
theorem qSum_s : ∀ (n i : Nat) (b c : Int32), qSum X y n i (b + c) = qSum X y n i b + c
  | 0, _, _, _ => rfl
  | n + 1, i, b, c => by
    show qSum X y n (i + 1) (if qBit y i then b + c + z_I X 20 0 i else b + c) = qSum X y n (i + 1) (if qBit y i then b + z_I X 20 0 i else b) + c
    by_cases u : qBit y i
    · rw [if_pos u, if_pos u, Int32.add_assoc, Int32.add_comm c, ← Int32.add_assoc, qSum_s n]
    · rw [if_neg u, if_neg u, qSum_s n]
theorem qSum_z (i : Nat) (b : Int32) : qSum X y 0 i b = b := id rfl
theorem qChg_z (i : Nat) (b : Int32) : qChg X y 0 i b = b := id rfl
theorem qSum_e (n i : Nat) (b : Int32) : qSum X y (n + 1) i b = qSum X y n (i + 1) (if qBit y i then b + z_I X 20 0 i else b) := id rfl
theorem qSum_same {y' : Int32} (n : Nat) : ∀ (i : Nat) (b : Int32), (∀ k, i ≤ k → k < i + n → (qBit y k ↔ qBit y' k)) → qSum X y n i b = qSum X y' n i b := by
  induction n with
  | zero => exact fun i b _ => by rw [qSum_z, qSum_z]
  | succ n ih =>
    intro i b h
    have e : (if qBit y i then b + z_I X 20 0 i else b) = if qBit y' i then b + z_I X 20 0 i else b := by
      by_cases u : qBit y i
      · rw [if_pos u, if_pos ((h i (by omega) (by omega)).mp u)]
      · rw [if_neg u, if_neg fun w => u ((h i (by omega) (by omega)).mpr w)]
    rw [qSum_e, qSum_e, e]
    exact ih (i + 1) _ fun k h1 h2 => h k (by omega) (by omega)
theorem qChg_e (n i : Nat) (a : Int32) : qChg X y (n + 1) i a = if qBit y i then a + z_I X 20 0 i else qChg X y n (i + 1) (a - z_I X 20 0 i) := id rfl
theorem chg_go (hx : x + 1 < 4096) (n : Nat) : ∀ (i u : Nat) (a b : Int32), i + n ≤ 12 → x / 2 ^ i = u → (x + 1) / 2 ^ i = u + 1 → qSum X (nI (x + 1)) n i b + a = qSum X (nI x) n i b + qChg X (nI (x + 1)) n i a := by
  induction n with
  | zero => exact fun i u a b _ _ _ => by rw [qSum_z, qSum_z, qChg_z]
  | succ n ih =>
    intro i u a b hi h1 h2
    have q1 := qb_is (x := x + 1) (i := i) hx (by omega)
    have q0 := qb_is (x := x) (i := i) (by omega) (by omega)
    rw [h2] at q1
    rw [h1] at q0
    have d1 : x / 2 ^ (i + 1) = u / 2 := by rw [Nat.pow_succ, ← Nat.div_div_eq_div_mul, h1]
    have d2 : (x + 1) / 2 ^ (i + 1) = (u + 1) / 2 := by rw [Nat.pow_succ, ← Nat.div_div_eq_div_mul, h2]
    rw [qSum_e, qSum_e, qChg_e]
    by_cases w : (u + 1) % 2 = 1
    · rw [if_pos (q1.mpr w), if_neg (fun z => by have := q0.mp z; omega), if_pos (q1.mpr w)]
      have same : qSum X (nI (x + 1)) n (i + 1) b = qSum X (nI x) n (i + 1) b := qSum_same n (i + 1) b fun k hk1 hk2 => by
        rw [qb_is hx (by omega), qb_is (by omega) (by omega)]
        have e : (x + 1) / 2 ^ k = x / 2 ^ k := by
          obtain ⟨j, rfl⟩ := Nat.exists_eq_add_of_le hk1
          rw [Nat.pow_add, ← Nat.div_div_eq_div_mul, ← Nat.div_div_eq_div_mul, d1, d2, show (u + 1) / 2 = u / 2 by omega]
        rw [e]
      rw [qSum_s, same, Int32.add_assoc, Int32.add_comm (z_I X 20 0 i) a]
    · rw [if_neg (fun z => w (q1.mp z)), if_pos (q0.mpr (by omega)), if_neg (fun z => w (q1.mp z))]
      have ih := ih (i + 1) (u / 2) (a - z_I X 20 0 i) b (by omega) d1 (by rw [d2]; omega)
      rw [qSum_s, Int32.add_assoc, Int32.add_comm (z_I X 20 0 i), ← Int32.add_assoc, ← ih, Int32.add_assoc, Int32.sub_add_cancel]
theorem chg_is (hx : x + 1 < 4096) (ht : t ≤ 12) : qSum X (nI (x + 1)) t 0 0 = qSum X (nI x) t 0 0 + qChg X (nI (x + 1)) t 0 0 := by
  have := chg_go (X := X) hx t 0 x 0 0 (by omega) (by rw [Nat.pow_zero, Nat.div_one]) (by rw [Nat.pow_zero, Nat.div_one])
  rw [Int32.add_zero] at this; exact this
theorem qSum_0 : ∀ (n i : Nat) (b : Int32), i + n ≤ 12 → qSum X (nI 0) n i b = b
  | 0, _, _, _ => rfl
  | n + 1, i, b, hi => by
    show qSum X (nI 0) n (i + 1) (if qBit (nI 0) i then b + z_I X 20 0 i else b) = b
    rw [if_neg (fun u => by have := (qb_is (by omega) (by omega)).mp u; rw [Nat.zero_div] at this; omega)]
    exact qSum_0 n (i + 1) b (by omega)
-- the sets' numbers
def setEq (X Y : zS) (z : Nat) : Prop := ∀ k, k < z → z_I Y 33 0 k = z_I X 20 0 k
theorem mSum_is (h : setEq X Y z) : ∀ (n i : Nat) (b : Int32), i + n ≤ z → z_it (mSuS Y y) n i b = qSum X y n i b
  | 0, _, _, _ => rfl
  | n + 1, i, b, hi => by
    show z_it (mSuS Y y) n (i + 1) (b + if qBit y i then z_I Y 33 0 i else 0) = qSum X y n (i + 1) (if qBit y i then b + z_I X 20 0 i else b)
    have e : (b + if qBit y i then z_I Y 33 0 i else 0) = if qBit y i then b + z_I X 20 0 i else b := by
      by_cases u : qBit y i
      · rw [if_pos u, if_pos u, h i (by omega)]
      · rw [if_neg u, if_neg u, Int32.add_zero]
    rw [e]
    exact mSum_is h n (i + 1) _ (by omega)
theorem setEq.st (h : setEq A C z) : setEq (z_uI A 20 0 z v) (mSetA C z v) (z + 1) := fun k hk => by
  unfold mSetA
  rw [z_I_o (by decide), z_I_u, z_I_u]
  by_cases u : k = z
  · rw [u, if_pos ⟨rfl, rfl, rfl⟩, if_pos ⟨rfl, rfl, rfl⟩]
  · rw [if_neg (fun q => u q.2.2), if_neg (fun q => u q.2.2)]; exact h k (by omega)
theorem full_go (h : setEq X Y t) (ht : t ≤ 12) : ∀ (n i : Nat) (p : Int32 × Int32), i + 1 + n = 2 ^ t → p.2 = qSum X p.1 t 0 0 → qFull X t b n (i + 1) p.1 p.2 (qSum X (nI i) t 0 0) = (z_it (mFuS Y t b) n (i + 1) p).1 ∧ (z_it (mFuS Y t b) n (i + 1) p).2 = qSum X (z_it (mFuS Y t b) n (i + 1) p).1 t 0 0
  | 0, _, _, _, hp => ⟨rfl, hp⟩
  | n + 1, i, p, hi, hp => by
    have h4 := z_2p ht
    have e1 : qSum X (nI i) t 0 0 + qChg X (nI (i + 1)) t 0 0 = qSum X (nI (i + 1)) t 0 0 := (chg_is (by omega) ht).symm
    have e2 : mSum Y (nI (i + 1)) t = qSum X (nI (i + 1)) t 0 0 := mSum_is h t 0 0 (by omega)
    have hst : mFuS Y t b (i + 1) p = if ¬ b < qSum X (nI (i + 1)) t 0 0 ∧ ¬ qSum X (nI (i + 1)) t 0 0 ≤ p.2 then (nI (i + 1), qSum X (nI (i + 1)) t 0 0) else p := by unfold mFuS; rw [e2]
    have hq : qFull X t b (n + 1) (i + 1) p.1 p.2 (qSum X (nI i) t 0 0) = if ¬ b < qSum X (nI (i + 1)) t 0 0 ∧ ¬ qSum X (nI (i + 1)) t 0 0 ≤ p.2 then qFull X t b n (i + 1 + 1) (nI (i + 1)) (qSum X (nI (i + 1)) t 0 0) (qSum X (nI (i + 1)) t 0 0) else qFull X t b n (i + 1 + 1) p.1 p.2 (qSum X (nI (i + 1)) t 0 0) := by rw [qFull, e1]
    show qFull X t b (n + 1) (i + 1) p.1 p.2 (qSum X (nI i) t 0 0) = (z_it (mFuS Y t b) n (i + 1 + 1) (mFuS Y t b (i + 1) p)).1 ∧ (z_it (mFuS Y t b) n (i + 1 + 1) (mFuS Y t b (i + 1) p)).2 = qSum X (z_it (mFuS Y t b) n (i + 1 + 1) (mFuS Y t b (i + 1) p)).1 t 0 0
    rw [hq, hst]
    by_cases u : ¬ b < qSum X (nI (i + 1)) t 0 0 ∧ ¬ qSum X (nI (i + 1)) t 0 0 ≤ p.2
    · rw [if_pos u, if_pos u]
      exact full_go h ht n (i + 1) (nI (i + 1), qSum X (nI (i + 1)) t 0 0) (by omega) rfl
    · rw [if_neg u, if_neg u]
      exact full_go h ht n (i + 1) p (by omega) hp
theorem RM.alone (h : RM S M) (hs : s < cS S) (hv : v ≠ -1) : (z_I S 4 s 2 = 1 ∧ z_I S 16 s 0 = v) ↔ mAlone M s v = true := by
  have ho := h.or hs
  have hp := ho.pre 0 (by omega)
  have h4 := ho.2.2.2.1
  have hn := ho.2.1
  have n0 : ¬ nI 0 = 1 := by decide
  have n2 : ¬ nI 2 = 1 := by decide
  have n3 : ¬ nI 3 = 1 := by decide
  unfold mAlone
  rw [decide_eq_true_iff]
  show _ ↔ rR M (18 + 8 * s + 5 + 0) = v ∧ rR M (18 + 8 * s + 5 + 1) = -1 ∧ rR M (18 + 8 * s + 5 + 2) = -1
  rw [h4]
  by_cases u0 : rR M (18 + 8 * s + 5 + 0) = -1
  · rw [if_pos u0]
    exact ⟨fun q => absurd q.1 n0, fun q => absurd (q.1.symm.trans u0) hv⟩
  · rw [if_neg u0, hp u0]
    by_cases u1 : rR M (18 + 8 * s + 5 + 1) = -1
    · rw [if_pos u1]; exact ⟨fun q => ⟨q.2, u1, hn.2 u1⟩, fun q => ⟨rfl, q.1⟩⟩
    · rw [if_neg u1]
      refine ⟨fun q => ?_, fun q => absurd q.2.1 u1⟩
      by_cases u2 : rR M (18 + 8 * s + 5 + 2) = -1
      · rw [if_pos u2] at q; exact absurd q.1 n2
      · rw [if_neg u2] at q; exact absurd q.1 n3
theorem bst_go (hX : Ok B T X M) (hv : v ≠ -1) (hK : ∀ j, j < n → cRw X j = K j ∧ K j < cL X ∧ z_I X 3 (K j) 0 = 0) : ∀ (m i z : Nat) (A C : zS), i + m = n → z ≤ 10 → setEq A C z → (qBestS X v m i z A).1 = (mBsG M v (lsK K i m) z C).1 ∧ (qBestS X v m i z A).1 ≤ 10 ∧ setEq (qBestS X v m i z A).2 (mBsG M v (lsK K i m) z C).2 (qBestS X v m i z A).1
  | 0, i, z, A, C, _, hz, h => ⟨rfl, hz, h⟩
  | m + 1, i, z, A, C, hi, hz, h => by
    obtain ⟨k1, k2, k3⟩ := hK i (by omega)
    have hfr := hX.ia.fr k2
    have ha := RM.alone hX.r hfr hv
    show (qBestS X v (m + 1) i z A).1 = (mBsG M v (K i :: lsK K (i + 1) m) z C).1 ∧ (qBestS X v (m + 1) i z A).1 ≤ 10 ∧ setEq (qBestS X v (m + 1) i z A).2 (mBsG M v (K i :: lsK K (i + 1) m) z C).2 (qBestS X v (m + 1) i z A).1
    rw [qBestS, mBsG]
    by_cases u : 10 ≤ z
    · rw [if_pos u, if_pos u]; exact ⟨rfl, hz, h⟩
    · rw [if_neg u, if_neg u, k1, RM.fr hX.r k2, RM.need hX.r hX.ia k2 (.inl k3)]
      by_cases u2 : z_I X 4 (cFr X (K i)) 2 = 1 ∧ z_I X 16 (cFr X (K i)) 0 = v
      · rw [if_pos u2, if_pos (ha.mp u2)]
        exact bst_go hX hv hK m (i + 1) (z + 1) _ _ (by omega) (by omega) h.st
      · rw [if_neg u2, if_neg fun q => u2 (ha.mpr q)]
        exact bst_go hX hv hK m (i + 1) z _ _ (by omega) hz h
theorem ask_best {X0 : zS} (h : Ok B T S M) (hv : 0 ≤ v ∧ v < z_I S 0 0 3) : ∃ L : List Nat, L.length ≤ 40 ∧ (∀ j, j ≤ L.length → mWait M (nI j) = oI L[j]?) ∧ (∀ j ∈ L, j < mN M) ∧ mBsQ M v.toNatClampNeg w (mBsG M v L 0 (mBs0 M)) = qBest (qLk S) (qBestS (qLk S) v (qBN S) 0 0 X0).2 v.toNatClampNeg (qBestS (qLk S) v (qBN S) 0 0 X0).1 w := by
  have hL := h.r.L40
  obtain ⟨n, K, h1, hr⟩ := row_W hL h.ia
  have hnL := hr.2.1
  have hX := h.alk h1.alk
  have eN : qBN S = n := by
    show (z_I (cLUp cLuW S) 0 0 11).toNatClampNeg = n
    rw [hr.1]; exact z_nIc (by omega)
  have hK : ∀ j, j < n → cRw (qLk S) j = K j ∧ K j < cL (qLk S) ∧ z_I (qLk S) 3 (K j) 0 = 0 := fun j hj => by
    have q := hr.2.2.2.2.1 j hj
    exact ⟨(hr.rw hL (rowW_E h) hj).2, by rw [h1.alk.L]; exact q.1, by rw [h1.1 3 (K j) 0 (by decide) (fun u => absurd u.1 (by decide))]; exact q.2⟩
  refine ⟨lsK K 0 n, by rw [lsK_len]; omega, fun j hj => ?_, fun j hj => ?_, ?_⟩
  · rw [lsK_len] at hj
    rw [wait_is h.r h.ia hr (by omega), lsK_get, Nat.zero_add]
    by_cases u : j < n
    · rw [if_pos u, if_pos u]; rfl
    · rw [if_neg u, if_neg u]; rfl
  · obtain ⟨i, -, h2, rfl⟩ := lsK_mem n 0 j hj
    rw [RM.mN h.r]; exact (hr.2.2.2.2.1 i (by omega)).1
  · obtain ⟨b1, b2, b3⟩ := bst_go hX (i_m1 hv.1) hK n 0 0 X0 (mBs0 M) (by omega) (by omega) (fun k hk => absurd hk (Nat.not_lt_zero _))
    rw [eN]
    unfold mBsQ qBest
    rw [← b1]
    generalize qBestS (qLk S) v n 0 0 X0 = P at *
    generalize mBsG M v (lsK K 0 n) 0 (mBs0 M) = R at *
    have hg : v.toNatClampNeg < cG S := by
      have z0 : (0 : Int32).toInt = 0 := rfl
      have v0 := i_le.mp hv.1
      have v1 := i_lt.mp hv.2
      have n1 := (nI_is (v := v) (by omega)).2
      have n2 := (nI_is (v := z_I S 0 0 3) (by omega)).2
      show v.toNatClampNeg < (z_I S 0 0 3).toNatClampNeg
      omega
    have hgX : v.toNatClampNeg < cG (qLk S) := by rw [h1.alk.G]; exact hg
    rw [RM.free hX.r hgX]
    have hp : 0 < 2 ^ P.1 := Nat.pow_pos (by decide)
    have s0 : qSum P.2 (nI 0) P.1 0 0 = 0 := qSum_0 P.1 0 0 (by omega)
    obtain ⟨f1, f2⟩ := full_go (b := cFree (qLk S) v.toNatClampNeg) b3 (by omega) (2 ^ P.1 - 1) 0 (0, 0) (by omega) s0.symm
    rw [s0] at f1
    have f1 : qFull P.2 P.1 (cFree (qLk S) v.toNatClampNeg) (2 ^ P.1 - 1) 1 0 0 0 = (z_it (mFuS R.2 P.1 (cFree (qLk S) v.toNatClampNeg)) (2 ^ P.1 - 1) 1 (0, 0)).1 := f1
    rw [f1]
    by_cases u : w = 0
    · rw [if_pos u, if_pos u]
    · rw [if_neg u, if_neg u]; exact f2
end Re42
