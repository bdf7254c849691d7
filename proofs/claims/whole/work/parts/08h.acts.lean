/-! ===== THE CLASS: turns, days, arrivals ===== -/
section Bk4
variable {d r i k g s r2 i2 l : Nat} {m : zM} {Q : zQ} {v w a b c : Int32}
theorem z_it_o {f : Nat → Int32 × zS → Int32 × zS} {k i x : Nat} (h : ∀ j p, z_I (f j p).2 k i x = z_I p.2 k i x) : ∀ (n j : Nat) (p : Int32 × zS), z_I (z_it f n j p).2 k i x = z_I p.2 k i x
  | 0, _, _ => rfl
  | n + 1, j, p => by rw [z_it, z_it_o h n, h]
theorem cHold_o {S : zS} {l k i f : Nat} {a : Int32} (h1 : k ≠ 1) (h2 : k ≠ 14) : z_I (cHold S l a) k i f = z_I S k i f := by
  unfold cHold
  dsimp only
  rw [z_I_uJ, z_it_o (fun j p => by simp [cHoldSt, z_I_u, h1, h2])]
theorem cRel_o {S : zS} {l k i f : Nat} {a : Int32} (h1 : k ≠ 1) (h2 : k ≠ 14) : z_I (cRel S l a) k i f = z_I S k i f := by
  have h : ∀ s j p, z_I (cRelSt l s j p).2 k i f = z_I p.2 k i f := fun s j p => by simp [cRelSt, z_I_u, h1, h2]
  unfold cRel cRel4
  dsimp only
  rw [z_I_uJ, h, h, h, h]
theorem cMakeDue_o {S : zS} {l k i f : Nat} {a : Int32} (h1 : k ≠ 1) (h2 : k ≠ 14) : z_I (cMakeDue S l a) k i f = z_I S k i f := by
  have h : ∀ s j p, z_I (cDueSt l s j p).2 k i f = z_I p.2 k i f := fun s j p => by simp [cDueSt, cAddDue, z_I_u, z_I_uJ, h1, h2]
  unfold cMakeDue
  dsimp only
  rw [h, h, h, h]
theorem cHand_o {S : zS} {x l k i f : Nat} {a : Int32} (h2 : k ≠ 14) : z_I (cHand S x l a) k i f = z_I S k i f := by
  have h : ∀ s j p, z_I (cHandSt x l s j p).2 k i f = z_I p.2 k i f := fun s j p => by simp [cHandSt, z_I_u, h2]
  unfold cHand
  dsimp only
  rw [z_I_uJ, z_I_uJ, h, h, h, h]
-- what the methods of a load need of a Book
abbrev cFr (S : zS) (l : Nat) : Nat := (z_I S 3 l 1).toNatClampNeg
def cWL (S : zS) (l : Nat) : Prop := (vp_in (z_I S 3 l 1) 6 ∧ vp_in (z_I S 3 l 2) 6 ∧ vp_in (z_I S 3 l 3) 5) ∧ z_nn (z_I S 4 (cFr S l) 2) 4 ∧ cWLn S (cFr S l) ∧ z_nn (z_I S 2 (cKd S l) 2) 13
-- two Books alike in what a load's methods rest on
def cSk (S S' : zS) : Prop := (∀ i, z_I S' 3 i 1 = z_I S 3 i 1 ∧ z_I S' 3 i 2 = z_I S 3 i 2 ∧ z_I S' 3 i 3 = z_I S 3 i 3) ∧ (∀ i, z_I S' 4 i 2 = z_I S 4 i 2) ∧ (∀ i j, z_I S' 16 i j = z_I S 16 i j) ∧ (∀ i, z_I S' 2 i 2 = z_I S 2 i 2) ∧ z_I S' 0 0 5 = z_I S 0 0 5 ∧ z_I S' 0 0 11 = z_I S 0 0 11 ∧ (∀ j, z_I S' 11 0 j = z_I S 11 0 j) ∧ z_I S' 0 0 2 = z_I S 0 0 2
theorem cSk.wl {S S' : zS} (h : cSk S S') (hw : cWL S l) : cWL S' l := by
  obtain ⟨h1, h2, h3, h4, -⟩ := h
  unfold cWL cWLn cFr cKd at *
  simp only [(h1 l).1, (h1 l).2.1, (h1 l).2.2, h2, h3, h4]
  exact hw
theorem cSk.rf {S : zS} : cSk S S := ⟨fun _ => ⟨rfl, rfl, rfl⟩, fun _ => rfl, fun _ _ => rfl, fun _ => rfl, rfl, rfl, fun _ => rfl, rfl⟩
theorem cSk.tr {S S' S2 : zS} (h : cSk S S') (g : cSk S' S2) : cSk S S2 :=
  ⟨fun i => ⟨(g.1 i).1.trans (h.1 i).1, (g.1 i).2.1.trans (h.1 i).2.1, (g.1 i).2.2.trans (h.1 i).2.2⟩, fun i => (g.2.1 i).trans (h.2.1 i), fun i j => (g.2.2.1 i j).trans (h.2.2.1 i j), fun i => (g.2.2.2.1 i).trans (h.2.2.2.1 i), g.2.2.2.2.1.trans h.2.2.2.2.1, g.2.2.2.2.2.1.trans h.2.2.2.2.2.1, fun j => (g.2.2.2.2.2.2.1 j).trans (h.2.2.2.2.2.2.1 j), g.2.2.2.2.2.2.2.trans h.2.2.2.2.2.2.2⟩
theorem cSk.of {S S' : zS} (h : ∀ k i f, k ≠ 1 → k ≠ 14 → z_I S' k i f = z_I S k i f) : cSk S S' :=
  ⟨fun i => ⟨h _ _ _ (by decide) (by decide), h _ _ _ (by decide) (by decide), h _ _ _ (by decide) (by decide)⟩, fun i => h _ _ _ (by decide) (by decide), fun i j => h _ _ _ (by decide) (by decide), fun i => h _ _ _ (by decide) (by decide), h _ _ _ (by decide) (by decide), h _ _ _ (by decide) (by decide), fun j => h _ _ _ (by decide) (by decide), h _ _ _ (by decide) (by decide)⟩
theorem cSk.up3 {S : zS} {l f : Nat} {v : Int32} (hf : f ≠ 1 ∧ f ≠ 2 ∧ f ≠ 3) : cSk S (z_uI S 3 l f v) := by
  obtain ⟨h1, h2, h3⟩ := hf
  refine ⟨fun i => ⟨?_, ?_, ?_⟩, fun i => ?_, fun i j => ?_, fun i => ?_, ?_, ?_, fun j => ?_, ?_⟩ <;> simp [z_I_u] <;> omega
theorem cSk.up15 {S : zS} {l f : Nat} {v : Int32} : cSk S (z_uI S 15 l f v) := by
  refine ⟨fun i => ⟨?_, ?_, ?_⟩, fun i => ?_, fun i j => ?_, fun i => ?_, ?_, ?_, fun j => ?_, ?_⟩ <;> simp [z_I_u]
theorem cSk.day {S : zS} {v : Int32} : cSk S (z_uI S 0 0 0 v) := by
  refine ⟨fun i => ⟨?_, ?_, ?_⟩, fun i => ?_, fun i j => ?_, fun i => ?_, ?_, ?_, fun j => ?_, ?_⟩ <;> simp [z_I_u]
theorem cSk.hold {S : zS} {l : Nat} {a : Int32} : cSk S (cHold S l a) := .of fun _ _ _ => cHold_o
theorem cSk.rel {S : zS} {l : Nat} {a : Int32} : cSk S (cRel S l a) := .of fun _ _ _ => cRel_o
theorem cSk.make {S : zS} {l : Nat} {a : Int32} : cSk S (cMakeDue S l a) := .of fun _ _ _ => cMakeDue_o
-- what is held becomes what is needed, anew
def cMore (S : zS) (l : Nat) : Int32 := cNeed S l - cHeld S l
def cAnew (S : zS) (l : Nat) : Bool × zS := if cFF S (cFr S l) < cMore S l then (false, S) else if 0 < cMore S l then (true, cHold S l (cMore S l)) else (true, cRel S l (-(cMore S l)))
set_option maxRecDepth 100000 in
set_option maxHeartbeats 4000000 in
theorem zs_17 (h : cWL (z_g m r) l) : z_call (d + 4) 17 [zr (some (0, r, 0)), zr (some (3, r, l))] m Q = Q (some (zi (if (cAnew (z_g m r) l).1 = true then 1 else 0))) (z_s m r (cAnew (z_g m r) l).2) := by
  obtain ⟨⟨h1, h2, h3⟩, h4, h5, h6⟩ := h
  simp only [↓zen_17, ↓zu_17_0, ↓zu_17_30, ↓zu_17_43, ↓zu_17_50, ↓zx_nil, ↓zx_cons, ↓zp_li, ↓zp_ll, ↓zp_lr, ↓zq_li0, ↓zq_li1, ↓zq_ll0, ↓zq_ll1, ↓zq_lr0, ↓zq_lr1, ↓zk_0, ↓zk_1n, ↓zk_1i, ↓zk_1r, ↓zk_1l, ↓zk_2, zp_okt, ↓zp_okl, zp_sh0, zp_sh1, zp_psn, zp_pss, ↓zp_ri1, ↓zp_ri20, ↓zp_ri21, ↓zp_rl, ↓zp_ra, ↓zp_rv, ↓zp_br, ↓reduceIte, Nat.reduceAdd, Nat.zero_add, Nat.add_zero, Nat.le_refl, Nat.zero_le, ↓zx_aload_0, ↓zx_aload_1, ↓zyc_7, ↓zyc_61, ↓zy_isub, ↓zy_istore_2, ↓zx_iload_2, ↓zyg_0_7, ↓zyg_3_1, ↓zya_7, ↓zya_8, ↓zya_9, ↓zya_10, ↓zya_17, ↓zya_18, ↓zyc_8, ↓zy_ic_le, ↓zx_iconst, ↓zx_iret, ↓zy_if_le, ↓zyc_9, ↓zx_goto, ↓zy_ineg, ↓zyc_18, ↓zs_7 h3 h6, ↓zs_61, eq_true h1, true_and, ↓zs_8 h4 h5, ↓zs_9 h1 h4 h5, ↓zs_18 h1 h5, cAnew, cMore, cFr, ← Int32.not_lt]
  unfold cFr at *
  by_cases e1 : cFF (z_g m r) (z_I (z_g m r) 3 l 1).toNatClampNeg < cNeed (z_g m r) l - cHeld (z_g m r) l
  · simp only [e1, not_true_eq_false, if_false, if_true, Bool.false_eq_true, zq_id]
  · by_cases e2 : 0 < cNeed (z_g m r) l - cHeld (z_g m r) l
    · simp only [e1, e2, not_true_eq_false, not_false_eq_true, if_false, if_true]
    · simp only [e1, e2, not_false_eq_true, if_false, if_true]
theorem cSk.anew {S : zS} {l : Nat} : cSk S (cAnew S l).2 := by
  unfold cAnew
  split
  · exact .rf
  · split
    · exact .hold
    · exact .rel
set_option maxRecDepth 100000 in
set_option maxHeartbeats 4000000 in
theorem zs_36 (h : cWL (z_g m r) l) : z_call (d + 3) 36 [zr (some (0, r, 0)), zr (some (3, r, l)), zi v] m Q = Q (some (zi (if cFF (z_g m r) (cFr (z_g m r) l) < cRest (z_g m r) l * cGr (z_g m r) (cKd (z_g m r) l) (z_I (z_g m r) 3 l 7) (cLatest (z_g m r) l + v) - cHeld (z_g m r) l then 1 else 0))) m := by
  obtain ⟨⟨h1, h2, h3⟩, h4, h5, h6⟩ := h
  have h7 := fun f l Q => zs_50 (d := d) (r := r) (m := m) (Q := Q) (first := f) (last := l) h6
  unfold cKd at h7
  simp only [↓zen_36, ↓zu_36_0, ↓zu_36_54, ↓zu_36_55, ↓zx_nil, ↓zx_cons, ↓zp_li, ↓zp_ll, ↓zp_lr, ↓zq_li0, ↓zq_li1, ↓zq_ll0, ↓zq_ll1, ↓zq_lr0, ↓zq_lr1, ↓zk_0, ↓zk_1n, ↓zk_1i, ↓zk_1r, ↓zk_1l, ↓zk_2, zp_okt, ↓zp_okl, zp_sh0, zp_sh1, zp_psn, zp_pss, ↓zp_ri1, ↓zp_ri20, ↓zp_ri21, ↓zp_rl, ↓zp_ra, ↓zp_rv, ↓zp_br, ↓reduceIte, Nat.reduceAdd, Nat.zero_add, Nat.add_zero, Nat.le_refl, Nat.zero_le, ↓zx_aload_1, ↓zyc_59, ↓zx_aload_0, ↓zyg_0_8, ↓zyg_3_3, ↓zya_7, ↓zya_8, ↓zya_9, ↓zya_10, ↓zya_17, ↓zya_18, ↓zyg_3_7, ↓zyc_60, ↓zx_iload_2, ↓zy_iadd, ↓zyc_50, ↓zy_imul, ↓zy_istore_3, ↓zx_iload_3, ↓zyc_61, ↓zy_isub, ↓zyg_0_7, ↓zyg_3_1, ↓zyc_8, ↓zy_ic_le, ↓zx_iconst, ↓zx_goto, ↓zx_iret, ↓zs_59, ↓zs_60, ↓h7, ↓zs_61, eq_true h1, eq_true h3, true_and, ↓zs_8 h4 h5, cKd, cFr, ← Int32.not_lt]
  unfold cFr at *
  by_cases e1 : cFF (z_g m r) (z_I (z_g m r) 3 l 1).toNatClampNeg < cRest (z_g m r) l * cGr (z_g m r) (z_I (z_g m r) 3 l 3).toNatClampNeg (z_I (z_g m r) 3 l 7) (cLatest (z_g m r) l + v) - cHeld (z_g m r) l
  · simp only [e1, not_true_eq_false, if_false, if_true]
  · simp only [e1, not_false_eq_true, if_false, if_true]
-- a rate is told: all that go are held for anew
def cTellGo : Nat → Nat → zS → Bool × zS
  | 0, _, S => (true, S)
  | n + 1, i, S => if z_I S 3 i 0 = 1 then (if (cAnew S i).1 = true then cTellGo n (i + 1) (cAnew S i).2 else (false, (cAnew S i).2)) else cTellGo n (i + 1) S
set_option maxRecDepth 100000 in
set_option maxHeartbeats 4000000 in
theorem zl_16 {t : Nat} (ht2 : t ≤ 40) : ∀ (n i : Nat) (S : zS), z_I S 0 0 5 = nI t → (∀ l, l < t → cWL S l) → i + n = t → zW 16 (d + 4) Q 14 [some (zr (some (0, r, 0))), some (zi a), some (zi b), some (zi c), some (zi (nI i))] [] (z_s m r S) 0 = Q (some (zi (if (cTellGo n i S).1 = true then 1 else 0))) (z_s m r (cTellGo n i S).2) := by
  intro n
  induction n with
  | zero =>
    intro i S ht hw hi
    have h1 := z_le1 (show t ≤ i by omega) (by omega)
    rw [zu_16_14]
    simp only [↓zu_16_59, ↓zx_nil, ↓zx_cons, ↓zp_li, ↓zp_ll, ↓zp_lr, ↓zq_li0, ↓zq_li1, ↓zq_ll0, ↓zq_ll1, ↓zq_lr0, ↓zq_lr1, ↓zk_0, ↓zk_1n, ↓zk_1i, ↓zk_1r, ↓zk_1l, ↓zk_2, zp_okt, ↓zp_okl, zp_sh0, zp_sh1, zp_psn, zp_pss, ↓zp_ri1, ↓zp_ri20, ↓zp_ri21, ↓zp_rl, ↓zp_ra, ↓zp_rv, ↓zp_br, ↓reduceIte, Nat.reduceAdd, Nat.zero_add, Nat.add_zero, Nat.le_refl, Nat.zero_le, ↓zx_aload_0, ↓zyg_0_8, ↓zx_iload_1, ↓zya_7, ↓zya_8, ↓zya_9, ↓zya_10, ↓zya_17, ↓zya_18, ↓zx_iload_2, ↓zx_iload_3, ↓zyc_51, ↓zx_iconst, ↓zy_istore, ↓zx_iload, ↓zyg_0_5, ↓zy_ic_ge, ↓zyg_0_9, ↓zyg_3_0, ↓zy_ic_ne, ↓zyc_17, ↓zy_if_ne, ↓zx_iret, ↓zy_iinc, ↓zx_goto, z_g_ss, ht, h1, cTellGo, if_true]
  | succ n ih =>
    intro i S ht hw hi
    have h1 := z_le0 (show i < t by omega) (by omega)
    have h2 := z_vi1 (show i < 40 by omega) (by decide)
    have h3 := nI_clamp (show i < 2 ^ 31 by omega)
    have h5 := fun Q => zs_17 (d := d) (r := r) (m := z_s m r S) (Q := Q) (l := i) (by rw [z_g_ss]; exact hw i (by omega))
    rw [zu_16_14]
    simp only [↓zu_16_53, ↓zx_nil, ↓zx_cons, ↓zp_li, ↓zp_ll, ↓zp_lr, ↓zq_li0, ↓zq_li1, ↓zq_ll0, ↓zq_ll1, ↓zq_lr0, ↓zq_lr1, ↓zk_0, ↓zk_1n, ↓zk_1i, ↓zk_1r, ↓zk_1l, ↓zk_2, zp_okt, ↓zp_okl, zp_sh0, zp_sh1, zp_psn, zp_pss, ↓zp_ri1, ↓zp_ri20, ↓zp_ri21, ↓zp_rl, ↓zp_ra, ↓zp_rv, ↓zp_br, ↓reduceIte, Nat.reduceAdd, Nat.zero_add, Nat.add_zero, Nat.le_refl, Nat.zero_le, ↓zx_aload_0, ↓zyg_0_8, ↓zx_iload_1, ↓zya_7, ↓zya_8, ↓zya_9, ↓zya_10, ↓zya_17, ↓zya_18, ↓zx_iload_2, ↓zx_iload_3, ↓zyc_51, ↓zx_iconst, ↓zy_istore, ↓zx_iload, ↓zyg_0_5, ↓zy_ic_ge, ↓zyg_0_9, ↓zyg_3_0, ↓zy_ic_ne, ↓zyc_17, ↓zy_if_ne, ↓zx_iret, ↓zy_iinc, ↓zx_goto, z_g_ss, zq_ss, ht, h1, h2, h3, true_and, nI_1, h5, z_i10, cTellGo]
    by_cases e : z_I S 3 i 0 = 1
    · by_cases e2 : (cAnew S i).1 = true
      · simp only [e, e2, not_true_eq_false, if_false, if_true]
        exact ih (i + 1) _ (cSk.anew.2.2.2.2.1.trans ht) (fun l hl => cSk.anew.wl (hw l hl)) (by omega)
      · simp only [e, e2, Bool.false_eq_true, not_false_eq_true, if_false, if_true]
    · simp only [e, if_false]
      exact ih (i + 1) _ ht hw (by omega)
def cTellRate (S : zS) (k : Nat) (day v : Int32) : Bool × zS := cTellGo (cL S) 0 (cTell S k day v)
theorem cMkGo_o {k p x i f : Nat} (h1 : x ≠ 12) (h2 : x ≠ 13) : ∀ (n : Nat) (S : zS), z_I (cMkGo k p n S) x i f = z_I S x i f
  | 0, _ => rfl
  | n + 1, S => by
    rw [cMkGo, cMkGo_o h1 h2 n]
    simp [z_I_u, h1, h2]
theorem cTell_o {S : zS} {k x i f : Nat} {day v : Int32} (h1 : x ≠ 12) (h2 : x ≠ 13) (h3 : ¬ (x = 2 ∧ i = k ∧ f = 2)) : z_I (cTell S k day v) x i f = z_I S x i f := by
  unfold cTell
  dsimp only
  rw [z_I_u, if_neg fun q => h2 q.1, z_I_u, if_neg fun q => h1 q.1]
  split
  · unfold cMake
    rw [z_I_u, if_neg h3, cMkGo_o h1 h2]
  · rfl
theorem cTell_told {S : zS} {k : Nat} {day v : Int32} (h : z_nn (z_I S 2 k 2) 12) : z_nn (z_I (cTell S k day v) 2 k 2) 13 := by
  unfold cTell
  dsimp only
  rw [z_I_u, if_neg fun q => absurd q.1 (by decide), z_I_u, if_neg fun q => absurd q.1 (by decide)]
  split
  · unfold cMake
    rw [z_I_u, if_pos ⟨rfl, rfl, rfl⟩, h.eq, nI_1]
    have := h.2
    exact ⟨nI_pos' (by omega), by rw [nI_clamp (by omega)]; omega⟩
  · exact ⟨h.1, Nat.le_trans h.2 (by decide)⟩
theorem cTell_wl {S : zS} {k l : Nat} {day v : Int32} (h : z_nn (z_I S 2 k 2) 12) (hw : cWL S l) : cWL (cTell S k day v) l := by
  obtain ⟨h1, h4, h5, h6⟩ := hw
  have o3 : ∀ f, z_I (cTell S k day v) 3 l f = z_I S 3 l f := fun f => cTell_o (by decide) (by decide) (fun q => absurd q.1 (by decide))
  have o4 : ∀ s, z_I (cTell S k day v) 4 s 2 = z_I S 4 s 2 := fun s => cTell_o (by decide) (by decide) (fun q => absurd q.1 (by decide))
  have o16 : ∀ s i, z_I (cTell S k day v) 16 s i = z_I S 16 s i := fun s i => cTell_o (by decide) (by decide) (fun q => absurd q.1 (by decide))
  unfold cWL cWLn cFr cKd at *
  simp only [o3, o4, o16]
  refine ⟨h1, h4, h5, ?_⟩
  by_cases e : (z_I S 3 l 3).toNatClampNeg = k
  · rw [e]; exact cTell_told h
  · rw [cTell_o (by decide) (by decide) (fun q => e q.2.1)]; exact h6
set_option maxRecDepth 100000 in
set_option maxHeartbeats 4000000 in
theorem zs_16 (hv : vp_in a 5) (hk : z_nn (z_I (z_g m r) 2 a.toNatClampNeg 2) 12) (hl : z_nn (z_I (z_g m r) 0 0 5) 40) (hw : ∀ l, l < cL (z_g m r) → cWL (z_g m r) l) : z_call (d + 5) 16 [zr (some (0, r, 0)), zi a, zi b, zi c] m Q = Q (some (zi (if (cTellRate (z_g m r) a.toNatClampNeg b c).1 = true then 1 else 0))) (z_s m r (cTellRate (z_g m r) a.toNatClampNeg b c).2) := by
  simp only [↓zen_16, ↓zu_16_0, ↓zx_nil, ↓zx_cons, ↓zp_li, ↓zp_ll, ↓zp_lr, ↓zq_li0, ↓zq_li1, ↓zq_ll0, ↓zq_ll1, ↓zq_lr0, ↓zq_lr1, ↓zk_0, ↓zk_1n, ↓zk_1i, ↓zk_1r, ↓zk_1l, ↓zk_2, zp_okt, ↓zp_okl, zp_sh0, zp_sh1, zp_psn, zp_pss, ↓zp_ri1, ↓zp_ri20, ↓zp_ri21, ↓zp_rl, ↓zp_ra, ↓zp_rv, ↓zp_br, ↓reduceIte, Nat.reduceAdd, Nat.zero_add, Nat.add_zero, Nat.le_refl, Nat.zero_le, ↓zx_aload_0, ↓zyg_0_8, ↓zx_iload_1, ↓zya_7, ↓zya_8, ↓zya_9, ↓zya_10, ↓zya_17, ↓zya_18, ↓zx_iload_2, ↓zx_iload_3, ↓zyc_51, ↓zx_iconst, ↓zy_istore, ↓zx_iload, ↓zyg_0_5, ↓zy_ic_ge, ↓zyg_0_9, ↓zyg_3_0, ↓zy_ic_ne, ↓zyc_17, ↓zy_if_ne, ↓zx_iret, ↓zy_iinc, ↓zx_goto, eq_true hv, true_and, ↓zs_51 hk]
  exact zl_16 hl.2 (cL (z_g m r)) 0 _ ((cTell_o (by decide) (by decide) (fun q => absurd q.1 (by decide))).trans hl.eq) (fun l hl => cTell_wl hk (hw l hl)) (by unfold cL; omega)
-- turns
def cInRow (S : zS) (v : Int32) : Int32 := if 0 ≤ v ∧ v < z_I S 0 0 11 then z_I S 11 0 v.toNatClampNeg - z_I S 11 0 v.toNatClampNeg / 40 * 40 else 0
abbrev cRw (S : zS) (i : Nat) : Nat := (cInRow S (nI i)).toNatClampNeg
def cGo (S : zS) (l : Nat) : zS := cHold (z_uI (z_uI S 3 l 0 1) 3 l 7 (z_I S 0 0 0)) l (cNeed S l)
def cTurnGo : Nat → Nat → zS → zS
  | 0, _, S => S
  | n + 1, i, S => if cFF S (cFr S (cRw S i)) < cNeed S (cRw S i) then (if z_I S 0 0 2 = 1 then S else cTurnGo n (i + 1) S) else cTurnGo n (i + 1) (cGo S (cRw S i))
theorem cSk.go {S : zS} {l : Nat} : cSk S (cGo S l) := .tr (.tr (.up3 (by decide)) (.up3 (by decide))) .hold
theorem cSk.inRow {S S' : zS} (h : cSk S S') (v : Int32) : cInRow S' v = cInRow S v := by
  unfold cInRow
  rw [h.2.2.2.2.2.1]
  simp only [h.2.2.2.2.2.2.1]
set_option maxRecDepth 100000 in
set_option maxHeartbeats 4000000 in
theorem zl_003 {t : Nat} (ht2 : t ≤ 40) : ∀ (n i : Nat) (S : zS) (e3 e4 : Option zV), z_nn (z_I S 0 0 11) 40 → (∀ j, j < t → vp_in (cInRow S (nI j)) 40 ∧ cWL S (cRw S j)) → i + n = t → zW 3 (d + 3) Q 7 [some (zr (some (0, r, 0))), some (zi (nI t)), some (zi (nI i)), e3, e4] [] (z_s m r S) 0 = Q none (z_s m r (cTurnGo n i S)) := by
  intro n
  induction n with
  | zero =>
    intro i S e3 e4 hr hw hi
    have h1 := z_le1 (show t ≤ i by omega) (by omega)
    rw [zu_3_7]
    simp only [↓zu_3_86, ↓zx_nil, ↓zx_cons, ↓zp_li, ↓zp_ll, ↓zp_lr, ↓zq_li0, ↓zq_li1, ↓zq_ll0, ↓zq_ll1, ↓zq_lr0, ↓zq_lr1, ↓zk_0, ↓zk_1n, ↓zk_1i, ↓zk_1r, ↓zk_1l, ↓zk_2, zp_okt, ↓zp_okl, zp_sh0, zp_sh1, zp_psn, zp_pss, ↓zp_ri1, ↓zp_ri20, ↓zp_ri21, ↓zp_rl, ↓zp_ra, ↓zp_rv, ↓zp_br, ↓reduceIte, Nat.reduceAdd, Nat.zero_add, Nat.add_zero, Nat.le_refl, Nat.zero_le, ↓zx_aload_0, ↓zyc_4, ↓zy_istore_1, ↓zx_iconst, ↓zy_istore_2, ↓zx_iload_2, ↓zx_iload_1, ↓zy_ic_ge, ↓zyg_0_9, ↓zyc_6, ↓zya_7, ↓zya_8, ↓zya_9, ↓zya_10, ↓zya_17, ↓zya_18, ↓zy_astore_3, ↓zx_aload_3, ↓zyc_7, ↓zy_istore, ↓zx_iload, ↓zyg_0_7, ↓zyg_3_1, ↓zyc_8, ↓zy_ic_gt, ↓zyp_3_0, ↓zyg_0_0, ↓zyp_3_7, ↓zyc_9, ↓zx_goto, ↓zyg_0_2, ↓zy_ic_ne, ↓zx_ret, ↓zy_iinc, z_g_ss, h1, cTurnGo]
  | succ n ih =>
    intro i S e3 e4 hr hw hi
    have h1 := z_le0 (show i < t by omega) (by omega)
    have h5 := fun Q => zs_6 (d := d + 2) (r := r) (m := z_s m r S) (Q := Q) (v := nI i) (by rw [z_g_ss]; exact hr)
    rw [z_g_ss] at h5
    change ∀ Q : zQ, _ = Q (some (zi (cInRow S (nI i)))) _ at h5
    obtain ⟨w0, w1⟩ := hw i (by omega)
    obtain ⟨⟨g1, g2, g3⟩, g4, g5, g6⟩ := id w1
    have h7 := fun Q => zs_7 (d := d) (r := r) (m := z_s m r S) (Q := Q) (i := (cInRow S (nI i)).toNatClampNeg) (by rw [z_g_ss]; exact g3) (by rw [z_g_ss]; exact g6)
    have h8 := fun Q => zs_8 (d := d + 1) (r := r) (m := z_s m r S) (Q := Q) (s := (z_I S 3 (cInRow S (nI i)).toNatClampNeg 1).toNatClampNeg) (by rw [z_g_ss]; exact g4) (by rw [z_g_ss]; exact g5)
    have w2 : cWL (z_uI (z_uI S 3 (cInRow S (nI i)).toNatClampNeg 0 1) 3 (cInRow S (nI i)).toNatClampNeg 7 (z_I S 0 0 0)) (cInRow S (nI i)).toNatClampNeg := ((cSk.up3 (by decide)).tr (.up3 (by decide))).wl w1
    obtain ⟨⟨k1, k2, k3⟩, k4, k5, k6⟩ := w2
    have h9 := fun Q => zs_9 (d := d + 1) (r := r) (m := z_s m r (z_uI (z_uI S 3 (cInRow S (nI i)).toNatClampNeg 0 1) 3 (cInRow S (nI i)).toNatClampNeg 7 (z_I S 0 0 0))) (Q := Q) (l := (cInRow S (nI i)).toNatClampNeg) (a := cNeed S (cInRow S (nI i)).toNatClampNeg) (by rw [z_g_ss]; exact k1) (by rw [z_g_ss]; exact k4) (by rw [z_g_ss]; exact k5)
    rw [z_g_ss] at h7 h8 h9
    rw [zu_3_7]
    simp only [↓zu_3_71, ↓zu_3_80, ↓zu_3_86, ↓zx_nil, ↓zx_cons, ↓zp_li, ↓zp_ll, ↓zp_lr, ↓zq_li0, ↓zq_li1, ↓zq_ll0, ↓zq_ll1, ↓zq_lr0, ↓zq_lr1, ↓zk_0, ↓zk_1n, ↓zk_1i, ↓zk_1r, ↓zk_1l, ↓zk_2, zp_okt, ↓zp_okl, zp_sh0, zp_sh1, zp_psn, zp_pss, ↓zp_ri1, ↓zp_ri20, ↓zp_ri21, ↓zp_rl, ↓zp_ra, ↓zp_rv, ↓zp_br, ↓reduceIte, Nat.reduceAdd, Nat.zero_add, Nat.add_zero, Nat.le_refl, Nat.zero_le, ↓zx_aload_0, ↓zyc_4, ↓zy_istore_1, ↓zx_iconst, ↓zy_istore_2, ↓zx_iload_2, ↓zx_iload_1, ↓zy_ic_ge, ↓zyg_0_9, ↓zyc_6, ↓zya_7, ↓zya_8, ↓zya_9, ↓zya_10, ↓zya_17, ↓zya_18, ↓zy_astore_3, ↓zx_aload_3, ↓zyc_7, ↓zy_istore, ↓zx_iload, ↓zyg_0_7, ↓zyg_3_1, ↓zyc_8, ↓zy_ic_gt, ↓zyp_3_0, ↓zyg_0_0, ↓zyp_3_7, ↓zyc_9, ↓zx_goto, ↓zyg_0_2, ↓zy_ic_ne, ↓zx_ret, ↓zy_iinc, z_g_ss, zq_ss, h1, h5, eq_true w0, true_and, nI_1, ↓h7, eq_true g1, ↓h8, z_I_u, Nat.reduceEqDiff, false_and, if_false, ↓h9, cTurnGo, cRw, cFr, ← Int32.not_lt]
    by_cases e : cFF S (z_I S 3 (cInRow S (nI i)).toNatClampNeg 1).toNatClampNeg < cNeed S (cInRow S (nI i)).toNatClampNeg
    · by_cases e2 : z_I S 0 0 2 = 1
      · simp only [e, e2, if_true]
      · simp only [e, e2, if_true, if_false]
        exact ih (i + 1) _ _ _ hr hw (by omega)
    · simp only [e, if_false]
      have hg : cSk S (cGo S (cInRow S (nI i)).toNatClampNeg) := .go
      exact ih (i + 1) (cGo S (cInRow S (nI i)).toNatClampNeg) _ _ (by rw [hg.2.2.2.2.2.1]; exact hr) (fun j hj => ⟨by rw [hg.inRow]; exact (hw j hj).1, by unfold cRw; rw [hg.inRow]; exact hg.wl (hw j hj).2⟩) (by omega)
def cTurns (S : zS) : zS := cTurnGo (z_I (cLUp cLuW S) 0 0 11).toNatClampNeg 0 (cLUp cLuW S)
theorem cLUp_nn {f : Nat → zS → zS} {S : zS} (h : ∀ i S, z_nn (z_I S 0 0 11) 40 → z_nn (z_I (f i S) 0 0 11) 40) : z_nn (z_I (cLUp f S) 0 0 11) 40 := by
  have key : ∀ (n i : Nat) (S : zS), z_nn (z_I S 0 0 11) 40 → z_nn (z_I (z_it f n i S) 0 0 11) 40 := by
    intro n
    induction n with
    | zero => exact fun i S hs => hs
    | succ n ih => exact fun i S hs => ih (i + 1) _ (h i S hs)
  exact key _ _ _ z_nnr
theorem cLuW_nn (i : Nat) (S : zS) (h : z_nn (z_I S 0 0 11) 40) : z_nn (z_I (cLuW i S) 0 0 11) 40 := by
  unfold cLuW
  split
  · exact cEnter_nn h
  · exact h
theorem cLuT_nn (v w : Int32) (i : Nat) (S : zS) (h : z_nn (z_I S 0 0 11) 40) : z_nn (z_I (cLuT v w i S) 0 0 11) 40 := by
  unfold cLuT
  split
  · exact cEnter_nn h
  · exact h
-- the rows of a line lead to loads
def cRowOk (S : zS) : Prop := ∀ j, j < (z_I S 0 0 11).toNatClampNeg → vp_in (cInRow S (nI j)) 40 ∧ cWL S (cRw S j)
set_option maxRecDepth 100000 in
set_option maxHeartbeats 4000000 in
theorem zs_3 (hl : z_nn (z_I (z_g m r) 0 0 5) 40) (hr : cRowOk (cLUp cLuW (z_g m r))) : z_call (d + 4) 3 [zr (some (0, r, 0))] m Q = Q none (z_s m r (cTurns (z_g m r))) := by
  have hn := cLUp_nn (S := z_g m r) cLuW_nn
  have h := zl_003 (d := d) (Q := Q) (r := r) (m := m) hn.2 (z_I (cLUp cLuW (z_g m r)) 0 0 11).toNatClampNeg 0 (cLUp cLuW (z_g m r)) none none hn hr (by omega)
  rw [← hn.eq, nI_0] at h
  simp only [↓zen_3, ↓zu_3_0, ↓zx_nil, ↓zx_cons, ↓zp_li, ↓zp_ll, ↓zp_lr, ↓zq_li0, ↓zq_li1, ↓zq_ll0, ↓zq_ll1, ↓zq_lr0, ↓zq_lr1, ↓zk_0, ↓zk_1n, ↓zk_1i, ↓zk_1r, ↓zk_1l, ↓zk_2, zp_okt, ↓zp_okl, zp_sh0, zp_sh1, zp_psn, zp_pss, ↓zp_ri1, ↓zp_ri20, ↓zp_ri21, ↓zp_rl, ↓zp_ra, ↓zp_rv, ↓zp_br, ↓reduceIte, Nat.reduceAdd, Nat.zero_add, Nat.add_zero, Nat.le_refl, Nat.zero_le, ↓zx_aload_0, ↓zyc_4, ↓zy_istore_1, ↓zx_iconst, ↓zy_istore_2, ↓zx_iload_2, ↓zx_iload_1, ↓zy_ic_ge, ↓zyg_0_9, ↓zyc_6, ↓zya_7, ↓zya_8, ↓zya_9, ↓zya_10, ↓zya_17, ↓zya_18, ↓zy_astore_3, ↓zx_aload_3, ↓zyc_7, ↓zy_istore, ↓zx_iload, ↓zyg_0_7, ↓zyg_3_1, ↓zyc_8, ↓zy_ic_gt, ↓zyp_3_0, ↓zyg_0_0, ↓zyp_3_7, ↓zyc_9, ↓zx_goto, ↓zyg_0_2, ↓zy_ic_ne, ↓zx_ret, ↓zy_iinc, ↓zs_4 hl]
  exact h
end Bk4
