set_option maxHeartbeats 400000
/-! ===== THE LAW: its loop ===== -/
section Law3
variable {L i n : Nat} {xs : Nat → Int32} {m : zM} {u : Nat} {C : zC} {Q : zQ} {B rt dp : Nat} {J : zJ} {pc : Nat} {K : zK} {ls : zL} {st : List zV} {l a b r : Nat} {z : Int32} {w : Int64}
theorem z_sw_all {J : Nat → Prop} {pc : Nat} {x : Int} : ∀ (os : List Int) (lo : Int), (∀ o, o ∈ os → J ((pc : Int) + o).toNat) → z_sw J pc x lo os
  | [], _, _ => trivial
  | o :: os, lo, h => ⟨fun _ => h o (List.mem_cons.mpr (.inl rfl)), z_sw_all os (lo + 1) fun o' ho => h o' (List.mem_cons.mpr (.inr ho))⟩
theorem za_len : z_ex C Q B rt dp (some (L, xs)) J pc (.arraylength, l, a, b, z, w) K ls (zr (some (34, r, i)) :: st) m u = K ls (zi (nI L) :: st) m u := id rfl
set_option maxRecDepth 100000 in
theorem lw_1769 : zA L xs 1769 [some (zr (some (34, 1, 0))), some (zr (some (5, 0, 0))), some (zr (some (6, 1, 0))), some (zi (nI i))] [] m u = zA L xs 18 [some (zr (some (34, 1, 0))), some (zr (some (5, 0, 0))), some (zr (some (6, 1, 0))), some (zi (nI (i + 7)))] [] m u := by
  have e : nI i + 7 = nI (i + 7) := nI_add i 7
  simp only [↓za_1769, ↓zx_nil, ↓zx_cons, ↓zp_li, ↓zp_ll, ↓zp_lr, ↓zq_li0, ↓zq_li1, ↓zq_ll0, ↓zq_ll1, ↓zq_lr0, ↓zq_lr1, ↓zk_0, ↓zk_1n, ↓zk_1i, ↓zk_1r, ↓zk_1l, ↓zk_2, zp_okt, ↓zp_okl, zp_sh0, zp_sh1, zp_psn, zp_pss, ↓zp_ri20, ↓zp_ri21, ↓zp_br, ↓reduceIte, Nat.reduceAdd, Nat.zero_add, Nat.add_zero, Nat.le_refl, Nat.zero_le, ↓zx_aload_0, ↓zx_iload_3, ↓zx_iconst, ↓zx_bipush, ↓zy_isub, ↓zy_iand, ↓zy_iinc, ↓zx_goto, ↓zy_ic_gt, ↓zx_iret, ↓zy_tsw, ↓za_len, if_true, if_false, e]
set_option maxRecDepth 100000 in
theorem lw_1775 : zA L xs 1775 [some (zr (some (34, 1, 0))), some (zr (some (5, 0, 0))), some (zr (some (6, 1, 0))), some (zi (nI i))] [] m u := by
  simp only [↓za_1775, ↓zx_nil, ↓zx_cons, ↓zp_li, ↓zp_ll, ↓zp_lr, ↓zq_li0, ↓zq_li1, ↓zq_ll0, ↓zq_ll1, ↓zq_lr0, ↓zq_lr1, ↓zk_0, ↓zk_1n, ↓zk_1i, ↓zk_1r, ↓zk_1l, ↓zk_2, zp_okt, ↓zp_okl, zp_sh0, zp_sh1, zp_psn, zp_pss, ↓zp_ri20, ↓zp_ri21, ↓zp_br, ↓reduceIte, Nat.reduceAdd, Nat.zero_add, Nat.add_zero, Nat.le_refl, Nat.zero_le, ↓zx_aload_0, ↓zx_iload_3, ↓zx_iconst, ↓zx_bipush, ↓zy_isub, ↓zy_iand, ↓zy_iinc, ↓zx_goto, ↓zy_ic_gt, ↓zx_iret, ↓zy_tsw, ↓za_len, if_true, if_false]
theorem lw_c (hi : i ≤ 4000) (hL : L ≤ 3584) : nI L - 7 < nI i ↔ L < i + 7 := by
  have z7 : (7 : Int32).toInt = 7 := rfl
  rw [i_lt, i_sub (by rw [i_nI (by omega)]; omega) (by rw [i_nI (by omega)]; omega), i_nI (by omega), i_nI (by omega)]
  omega
set_option maxRecDepth 100000 in
theorem lw_18x (h : L < i + 7) (hi : i ≤ 4000) (hL : L ≤ 3584) : zA L xs 18 [some (zr (some (34, 1, 0))), some (zr (some (5, 0, 0))), some (zr (some (6, 1, 0))), some (zi (nI i))] [] m u := by
  have c : (nI L - 7 < nI i) = True := eq_true ((lw_c hi hL).mpr h)
  simp only [↓za_18, ↓zx_nil, ↓zx_cons, ↓zp_li, ↓zp_ll, ↓zp_lr, ↓zq_li0, ↓zq_li1, ↓zq_ll0, ↓zq_ll1, ↓zq_lr0, ↓zq_lr1, ↓zk_0, ↓zk_1n, ↓zk_1i, ↓zk_1r, ↓zk_1l, ↓zk_2, zp_okt, ↓zp_okl, zp_sh0, zp_sh1, zp_psn, zp_pss, ↓zp_ri20, ↓zp_ri21, ↓zp_br, ↓reduceIte, Nat.reduceAdd, Nat.zero_add, Nat.add_zero, Nat.le_refl, Nat.zero_le, ↓zx_aload_0, ↓zx_iload_3, ↓zx_iconst, ↓zx_bipush, ↓zy_isub, ↓zy_iand, ↓zy_iinc, ↓zx_goto, ↓zy_ic_gt, ↓zx_iret, ↓zy_tsw, ↓za_len, if_true, if_false, c]
  exact lw_1775
set_option maxRecDepth 100000 in
set_option maxHeartbeats 4000000 in
theorem lw_18 (hi : i + 7 ≤ L) (hL : L ≤ 3584) (hu : u + 2 ≤ 1100) (h : Iv m (z_g m 1)) (K : lwK L xs i u) : zA L xs 18 [some (zr (some (34, 1, 0))), some (zr (some (5, 0, 0))), some (zr (some (6, 1, 0))), some (zi (nI i))] [] m u := by
  have c : (nI L - 7 < nI i) = False := eq_false fun q => by have := (lw_c (by omega) hL).mp q; omega
  simp only [↓za_18, ↓zx_nil, ↓zx_cons, ↓zp_li, ↓zp_ll, ↓zp_lr, ↓zq_li0, ↓zq_li1, ↓zq_ll0, ↓zq_ll1, ↓zq_lr0, ↓zq_lr1, ↓zk_0, ↓zk_1n, ↓zk_1i, ↓zk_1r, ↓zk_1l, ↓zk_2, zp_okt, ↓zp_okl, zp_sh0, zp_sh1, zp_psn, zp_pss, ↓zp_ri20, ↓zp_ri21, ↓zp_br, ↓reduceIte, Nat.reduceAdd, Nat.zero_add, Nat.add_zero, Nat.le_refl, Nat.zero_le, ↓zx_aload_0, ↓zx_iload_3, ↓zx_iconst, ↓zx_bipush, ↓zy_isub, ↓zy_iand, ↓zy_iinc, ↓zx_goto, ↓zy_ic_gt, ↓zx_iret, ↓zy_tsw, ↓za_len, if_true, if_false, c, ↓zys_0 (i := i) (show i < L by omega) hL]
  refine ⟨fun _ => K m u h (by omega), z_sw_all _ _ fun o ho => ?_⟩
  have ho : o ∈ ([187, 210, 243, 276, 319, 372, 415, 458, 501, 534, 609, 632, 701, 744, 787, 830, 873, 906, 939, 962, 975, 998, 1021, 1054, 1088, 1121, 1154, 1188, 1221, 1254, 1297, 1330, 1373, 1416, 1449, 1482, 1505, 1538, 1591, 1624, 1667, 1700, 1723] : List Int) := ho
  simp only [List.mem_cons, List.not_mem_nil, or_false] at ho
  rcases ho with rfl | rfl | rfl | rfl | rfl | rfl | rfl | rfl | rfl | rfl | rfl | rfl | rfl | rfl | rfl | rfl | rfl | rfl | rfl | rfl | rfl | rfl | rfl | rfl | rfl | rfl | rfl | rfl | rfl | rfl | rfl | rfl | rfl | rfl | rfl | rfl | rfl | rfl | rfl | rfl | rfl | rfl | rfl
  · exact lw_220 hi hL hu h K
  · exact lw_243 hi hL hu h K
  · exact lw_276 hi hL hu h K
  · exact lw_309 hi hL hu h K
  · exact lw_352 hi hL hu h K
  · exact lw_405 hi hL hu h K
  · exact lw_448 hi hL hu h K
  · exact lw_491 hi hL hu h K
  · exact lw_534 hi hL hu h K
  · exact lw_567 hi hL hu h K
  · exact lw_642 hi hL hu h K
  · exact lw_665 hi hL hu h K
  · exact lw_734 hi hL hu h K
  · exact lw_777 hi hL hu h K
  · exact lw_820 hi hL hu h K
  · exact lw_863 hi hL hu h K
  · exact lw_906 hi hL hu h K
  · exact lw_939 hi hL hu h K
  · exact lw_972 hi hL hu h K
  · exact lw_995 hi hL hu h K
  · exact lw_1008 hi hL hu h K
  · exact lw_1031 hi hL hu h K
  · exact lw_1054 hi hL hu h K
  · exact lw_1087 hi hL hu h K
  · exact lw_1121 hi hL hu h K
  · exact lw_1154 hi hL hu h K
  · exact lw_1187 hi hL hu h K
  · exact lw_1221 hi hL hu h K
  · exact lw_1254 hi hL hu h K
  · exact lw_1287 hi hL hu h K
  · exact lw_1330 hi hL hu h K
  · exact lw_1363 hi hL hu h K
  · exact lw_1406 hi hL hu h K
  · exact lw_1449 hi hL hu h K
  · exact lw_1482 hi hL hu h K
  · exact lw_1515 hi hL hu h K
  · exact lw_1538 hi hL hu h K
  · exact lw_1571 hi hL hu h K
  · exact lw_1624 hi hL hu h K
  · exact lw_1657 hi hL hu h K
  · exact lw_1700 hi hL hu h K
  · exact lw_1733 hi hL hu h K
  · exact lw_1756 hi hL hu h K
-- the loop
theorem law_go (hL : L ≤ 3584) : ∀ (n c : Nat) (m : zM) (u : Nat), L ≤ 7 * c + n → 7 * c ≤ L → u ≤ 2 * c → Iv m (z_g m 1) → zA L xs 18 [some (zr (some (34, 1, 0))), some (zr (some (5, 0, 0))), some (zr (some (6, 1, 0))), some (zi (nI (7 * c)))] [] m u := by
  intro n
  induction n with
  | zero =>
    intro c m u h1 h2 h3 h
    exact lw_18x (by omega) (by omega) hL
  | succ n ih =>
    intro c m u h1 h2 h3 h
    by_cases q : 7 * c + 7 ≤ L
    · refine lw_18 q hL (by omega) h fun m' u' h' hu' => ?_
      rw [lw_1769]
      exact ih (c + 1) m' u' (by omega) (by omega) (by omega) h'
    · exact lw_18x (by omega) (by omega) hL
-- the start
theorem r0_I (k i f : Nat) : z_I z_b0 k i f = if k = 0 ∧ f = 1 then 30 else if k = 0 ∧ f = 2 then 1 else 0 := id rfl
theorem r1_I (k i f : Nat) : z_I z_s1 k i f = if k = 22 ∧ f = 4 then 30 else if k = 22 ∧ f = 5 then 1 else 0 := id rfl
theorem start_ok : OK z_b0 z_s1 := by
  have eG : cG z_b0 = 0 := rfl
  have eS : cS z_b0 = 0 := rfl
  have eL : cL z_b0 = 0 := rfl
  have b0 : ∀ k i f, ¬ (k = 0 ∧ (f = 1 ∨ f = 2)) → z_I z_b0 k i f = 0 := fun k i f hk => by rw [r0_I, if_neg (by omega), if_neg (by omega)]
  have s0 : ∀ j, j ≠ 4 → j ≠ 5 → rR z_s1 j = 0 := fun j h4 h5 => by
    show z_I z_s1 22 0 j = 0
    rw [r1_I, if_neg (by omega), if_neg (by omega)]
  have eT : ∀ k, cTold z_b0 k = 0 := fun k => by
    show (z_I z_b0 2 k 2).toNatClampNeg = 0
    rw [b0 2 k 2 (by omega)]; rfl
  have nz : ∀ t, z_nn (0 : Int32) t := fun t => nn_nI (n := 0) (Nat.zero_le _) (by omega)
  have hg : ∀ l, ¬ l < cG z_b0 := fun l q => absurd q (Nat.not_lt_zero _)
  have hs : ∀ l, ¬ l < cS z_b0 := fun l q => absurd q (Nat.not_lt_zero _)
  have hl : ∀ l, ¬ l < cL z_b0 := fun l q => absurd q (Nat.not_lt_zero _)
  refine ⟨⟨⟨nz 4, nz 6, nz 40⟩, ?_, ?_, fun k hk => ⟨⟨?_, fun i j h1 h2 => ?_, fun i h1 => ?_, fun a b => ⟨?_, ?_⟩⟩, ?_⟩, fun i q => absurd q (hs i), fun l q => absurd q (hl l), fun g h1 h2 => ⟨fun f hf => s0 _ (by omega) (by omega), rfl, rfl⟩, fun i h1 h2 k hk => s0 _ (by omega) (by omega)⟩, ⟨⟨by omega, by omega⟩, ⟨by decide, by decide⟩, fun g q => absurd q (hg g), fun g q => absurd q (hg g), fun l q => absurd q (hl l), fun l q => absurd q (hl l), fun k hk => ⟨?_, fun i q => ?_, ?_, ?_⟩⟩, fun l q => absurd q (hl l)⟩
  · intro k i f j hp hv
    unfold rP at hp
    unfold rLv at hv
    rcases hp with ⟨rfl, rfl, hp⟩ | ⟨rfl, hp⟩ | ⟨rfl, hp⟩ | ⟨rfl, hp⟩ | ⟨rfl, hp⟩ | ⟨rfl, hp⟩
    · rcases hp with ⟨rfl, rfl⟩ | ⟨rfl, rfl⟩ | ⟨rfl, rfl⟩ | ⟨rfl, rfl⟩ | ⟨rfl, rfl⟩ | ⟨rfl, rfl⟩ <;> rfl
    · exact absurd (hv.1 rfl) (hg i)
    · exact absurd (hv.2.1 rfl) (hs i)
    · rw [b0 2 i f (by omega), s0 j (by omega) (by omega)]
    · exact absurd (hv.2.2.1 rfl) (hl i)
    · exact absurd (hv.2.2.2 rfl) (hl i)
  · intro k i f j hp h1 h2
    unfold rPJ at hp
    rcases hp with ⟨rfl, -⟩ | ⟨rfl, -⟩
    · exact absurd (h1 rfl) (hg i)
    · exact absurd (h2 rfl) (hl i)
  · rw [s0 _ (by omega) (by omega), b0 2 k 2 (by omega)]
  · rw [eT] at h2; omega
  · rw [eT] at h1; omega
  · rintro ⟨i, h1, -⟩
    rw [eT] at h1; omega
  · rintro ⟨i, h1, -⟩
    rw [eT] at h1; omega
  · rw [eT]; omega
  · rw [b0 2 k 2 (by omega)]; exact nz 12
  · rw [eT] at q; omega
  · rw [b0 2 k 3 (by omega)]; decide
  · rw [b0 2 k 4 (by omega)]; decide
theorem start_iv : Iv z_m0 (z_g z_m0 1) := by
  have g0 : z_g z_m0 0 = z_s0 := rfl
  have g1 : z_g z_m0 1 = z_s1 := rfl
  have g2 : z_g z_m0 2 = z_b0 := rfl
  have s0 : ∀ k i f, z_I z_s0 k i f = 0 := fun _ _ _ => rfl
  have s1 : ∀ k f, ¬ k = 22 → z_I z_s1 k 0 f = 0 := fun k f hk => by rw [r1_I, if_neg (by omega), if_neg (by omega)]
  have nz : ∀ t, z_nn (0 : Int32) t := fun t => nn_nI (n := 0) (Nat.zero_le _) (by omega)
  rw [g1]
  refine ⟨⟨show 2 < 3 by omega, fun j q hq => (by cases hq), fun j j' q hq => (by cases hq)⟩, ⟨⟨?_, ?_⟩, ?_, fun i hi => ?_⟩, fun k hk => .inl ⟨rfl, s1 29 k (by decide)⟩, ⟨?_, ?_⟩, ?_⟩
  · rw [g0, s0]; exact nz 7
  · rw [g0, s0]; exact nz 8
  · rw [g0, s0, s1 6 8 (by decide)]
  · have hi : i < (z_I (z_g z_m0 0) 5 0 6).toNatClampNeg := hi
    rw [g0, s0] at hi
    exact absurd hi (Nat.not_lt_zero _)
  · rw [g0, s0, s1 6 1 (by decide)]
  · unfold RB
    rw [g0, s0, s0, s0, s0, s1 21 1 (by decide), s1 21 2 (by decide), s1 21 4 (by decide), s1 21 5 (by decide)]
    exact ⟨rfl, rfl, rfl, rfl⟩
  · rw [g2]; exact start_ok
theorem z_law : z_Law := fun L xs hL => law_go (xs := xs) hL L 0 z_m0 0 (by omega) (by omega) (Nat.le_refl _) start_iv
end Law3
